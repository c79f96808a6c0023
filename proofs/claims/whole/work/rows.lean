section
-- ===== PART A: goes FIRST, ahead of the names: the tables' words, and 'selects' of the private methods out of them =====
/-- a private method of a class that the tables say can be made, by its rows of tables_1 -/
def lw_okq (q : MethodName × Nat) : Prop := (q.1.cls ≠ "java/lang/invoke/MethodHandle" ∧ q.1.cls ≠ "java/lang/invoke/VarHandle") ∧ Cond.instantiable q.1.cls q.2 ∈ tables_1 ∧ Cond.privateMethod q.1 ∈ tables_1 ∧ Cond.instanceMethod q.1 ∈ tables_1
theorem lw_p0 : lw_okq (⟨"java/lang/Throwable", "fillInStackTrace", "(I)Ljava/lang/Throwable;"⟩, 6) := ⟨⟨by decide +kernel, by decide +kernel⟩, List.mem_of_getElem? (i := 175) (by decide +kernel), List.mem_of_getElem? (i := 173) (by decide +kernel), List.mem_of_getElem? (i := 174) (by decide +kernel)⟩
theorem lw_p1 : lw_okq (⟨"Layerbook", "checkPosting", "(I)V"⟩, 7) := ⟨⟨by decide +kernel, by decide +kernel⟩, List.mem_of_getElem? (i := 18) (by decide +kernel), List.mem_of_getElem? (i := 206) (by decide +kernel), List.mem_of_getElem? (i := 207) (by decide +kernel)⟩
theorem lw_p2 : lw_okq (⟨"Layerbook", "checkOpen", "(I)V"⟩, 7) := ⟨⟨by decide +kernel, by decide +kernel⟩, List.mem_of_getElem? (i := 18) (by decide +kernel), List.mem_of_getElem? (i := 210) (by decide +kernel), List.mem_of_getElem? (i := 211) (by decide +kernel)⟩
theorem lw_p3 : lw_okq (⟨"Layerbook", "post", "(LLayerbook$Movement;)I"⟩, 7) := ⟨⟨by decide +kernel, by decide +kernel⟩, List.mem_of_getElem? (i := 18) (by decide +kernel), List.mem_of_getElem? (i := 318) (by decide +kernel), List.mem_of_getElem? (i := 319) (by decide +kernel)⟩
theorem lw_p4 : lw_okq (⟨"Layerbook", "checkReceipts", "(JI)V"⟩, 7) := ⟨⟨by decide +kernel, by decide +kernel⟩, List.mem_of_getElem? (i := 18) (by decide +kernel), List.mem_of_getElem? (i := 392) (by decide +kernel), List.mem_of_getElem? (i := 393) (by decide +kernel)⟩
theorem lw_p5 : lw_okq (⟨"Layerbook", "chosen", "(JI)LLayerbook$Movement;"⟩, 7) := ⟨⟨by decide +kernel, by decide +kernel⟩, List.mem_of_getElem? (i := 18) (by decide +kernel), List.mem_of_getElem? (i := 396) (by decide +kernel), List.mem_of_getElem? (i := 397) (by decide +kernel)⟩
theorem lw_p6 : lw_okq (⟨"Layerbook", "sumOfBasis", "(JI)J"⟩, 7) := ⟨⟨by decide +kernel, by decide +kernel⟩, List.mem_of_getElem? (i := 18) (by decide +kernel), List.mem_of_getElem? (i := 401) (by decide +kernel), List.mem_of_getElem? (i := 402) (by decide +kernel)⟩
theorem lw_p7 : lw_okq (⟨"Layerbook", "basisOf", "(LLayerbook$Movement;I)J"⟩, 7) := ⟨⟨by decide +kernel, by decide +kernel⟩, List.mem_of_getElem? (i := 18) (by decide +kernel), List.mem_of_getElem? (i := 405) (by decide +kernel), List.mem_of_getElem? (i := 406) (by decide +kernel)⟩
theorem lw_p8 : lw_okq (⟨"Layerbook", "weightOf", "(I)I"⟩, 7) := ⟨⟨by decide +kernel, by decide +kernel⟩, List.mem_of_getElem? (i := 18) (by decide +kernel), List.mem_of_getElem? (i := 409) (by decide +kernel), List.mem_of_getElem? (i := 410) (by decide +kernel)⟩
theorem lw_p9 : lw_okq (⟨"Layerbook", "spread", "(IIJJ)LLayerbook$Share;"⟩, 7) := ⟨⟨by decide +kernel, by decide +kernel⟩, List.mem_of_getElem? (i := 18) (by decide +kernel), List.mem_of_getElem? (i := 414) (by decide +kernel), List.mem_of_getElem? (i := 415) (by decide +kernel)⟩
theorem lw_p10 : lw_okq (⟨"Layerbook", "find", "(I)LLayerbook$Movement;"⟩, 7) := ⟨⟨by decide +kernel, by decide +kernel⟩, List.mem_of_getElem? (i := 18) (by decide +kernel), List.mem_of_getElem? (i := 456) (by decide +kernel), List.mem_of_getElem? (i := 457) (by decide +kernel)⟩
theorem lw_p11 : lw_okq (⟨"Layerbook", "checkDispensable", "(LLayerbook$Movement;)V"⟩, 7) := ⟨⟨by decide +kernel, by decide +kernel⟩, List.mem_of_getElem? (i := 18) (by decide +kernel), List.mem_of_getElem? (i := 462) (by decide +kernel), List.mem_of_getElem? (i := 463) (by decide +kernel)⟩
theorem lw_p12 : lw_okq (⟨"Layerbook", "replayed", "(IIZ)LLayerbook$Valuation;"⟩, 7) := ⟨⟨by decide +kernel, by decide +kernel⟩, List.mem_of_getElem? (i := 18) (by decide +kernel), List.mem_of_getElem? (i := 542) (by decide +kernel), List.mem_of_getElem? (i := 543) (by decide +kernel)⟩
theorem lw_p13 : lw_okq (⟨"Layerbook", "findLayer", "(III)LLayerbook$Layer;"⟩, 7) := ⟨⟨by decide +kernel, by decide +kernel⟩, List.mem_of_getElem? (i := 18) (by decide +kernel), List.mem_of_getElem? (i := 703) (by decide +kernel), List.mem_of_getElem? (i := 704) (by decide +kernel)⟩
theorem lw_p14 : lw_okq (⟨"LayerbookModel", "post", "(IIIII)I"⟩, 26) := ⟨⟨by decide +kernel, by decide +kernel⟩, List.mem_of_getElem? (i := 726) (by decide +kernel), List.mem_of_getElem? (i := 821) (by decide +kernel), List.mem_of_getElem? (i := 822) (by decide +kernel)⟩
theorem lw_p15 : lw_okq (⟨"LayerbookModel", "wrong", "(IIII)I"⟩, 26) := ⟨⟨by decide +kernel, by decide +kernel⟩, List.mem_of_getElem? (i := 726) (by decide +kernel), List.mem_of_getElem? (i := 825) (by decide +kernel), List.mem_of_getElem? (i := 826) (by decide +kernel)⟩
def lw_privs_1 : List (MethodName × Nat) := [(⟨"java/lang/Throwable", "fillInStackTrace", "(I)Ljava/lang/Throwable;"⟩, 6), (⟨"Layerbook", "checkPosting", "(I)V"⟩, 7), (⟨"Layerbook", "checkOpen", "(I)V"⟩, 7), (⟨"Layerbook", "post", "(LLayerbook$Movement;)I"⟩, 7), (⟨"Layerbook", "checkReceipts", "(JI)V"⟩, 7), (⟨"Layerbook", "chosen", "(JI)LLayerbook$Movement;"⟩, 7), (⟨"Layerbook", "sumOfBasis", "(JI)J"⟩, 7), (⟨"Layerbook", "basisOf", "(LLayerbook$Movement;I)J"⟩, 7), (⟨"Layerbook", "weightOf", "(I)I"⟩, 7), (⟨"Layerbook", "spread", "(IIJJ)LLayerbook$Share;"⟩, 7), (⟨"Layerbook", "find", "(I)LLayerbook$Movement;"⟩, 7), (⟨"Layerbook", "checkDispensable", "(LLayerbook$Movement;)V"⟩, 7), (⟨"Layerbook", "replayed", "(IIZ)LLayerbook$Valuation;"⟩, 7), (⟨"Layerbook", "findLayer", "(III)LLayerbook$Layer;"⟩, 7), (⟨"LayerbookModel", "post", "(IIIII)I"⟩, 26), (⟨"LayerbookModel", "wrong", "(IIII)I"⟩, 26)]
theorem lw_r1 : ∀ q ∈ lw_privs_1, lw_okq q := List.forall_mem_cons.mpr ⟨lw_p0, List.forall_mem_cons.mpr ⟨lw_p1, List.forall_mem_cons.mpr ⟨lw_p2, List.forall_mem_cons.mpr ⟨lw_p3, List.forall_mem_cons.mpr ⟨lw_p4, List.forall_mem_cons.mpr ⟨lw_p5, List.forall_mem_cons.mpr ⟨lw_p6, List.forall_mem_cons.mpr ⟨lw_p7, List.forall_mem_cons.mpr ⟨lw_p8, List.forall_mem_cons.mpr ⟨lw_p9, List.forall_mem_cons.mpr ⟨lw_p10, List.forall_mem_cons.mpr ⟨lw_p11, List.forall_mem_cons.mpr ⟨lw_p12, List.forall_mem_cons.mpr ⟨lw_p13, List.forall_mem_cons.mpr ⟨lw_p14, List.forall_mem_cons.mpr ⟨lw_p15, fun _ h => absurd h List.not_mem_nil⟩⟩⟩⟩⟩⟩⟩⟩⟩⟩⟩⟩⟩⟩⟩⟩
theorem lw_p16 : lw_okq (⟨"LayerbookModel", "isShut", "(I)Z"⟩, 26) := ⟨⟨by decide +kernel, by decide +kernel⟩, List.mem_of_getElem? (i := 726) (by decide +kernel), List.mem_of_getElem? (i := 839) (by decide +kernel), List.mem_of_getElem? (i := 840) (by decide +kernel)⟩
theorem lw_p17 : lw_okq (⟨"LayerbookModel", "goes", "(I)Z"⟩, 26) := ⟨⟨by decide +kernel, by decide +kernel⟩, List.mem_of_getElem? (i := 726) (by decide +kernel), List.mem_of_getElem? (i := 843) (by decide +kernel), List.mem_of_getElem? (i := 844) (by decide +kernel)⟩
theorem lw_p18 : lw_okq (⟨"LayerbookModel", "posts", "(IIIII)Z"⟩, 26) := ⟨⟨by decide +kernel, by decide +kernel⟩, List.mem_of_getElem? (i := 726) (by decide +kernel), List.mem_of_getElem? (i := 847) (by decide +kernel), List.mem_of_getElem? (i := 848) (by decide +kernel)⟩
theorem lw_p19 : lw_okq (⟨"LayerbookModel", "isValid", "(I)Z"⟩, 26) := ⟨⟨by decide +kernel, by decide +kernel⟩, List.mem_of_getElem? (i := 726) (by decide +kernel), List.mem_of_getElem? (i := 851) (by decide +kernel), List.mem_of_getElem? (i := 852) (by decide +kernel)⟩
theorem lw_p20 : lw_okq (⟨"LayerbookModel", "orders", "()V"⟩, 26) := ⟨⟨by decide +kernel, by decide +kernel⟩, List.mem_of_getElem? (i := 726) (by decide +kernel), List.mem_of_getElem? (i := 855) (by decide +kernel), List.mem_of_getElem? (i := 856) (by decide +kernel)⟩
theorem lw_p21 : lw_okq (⟨"LayerbookModel", "takesUnits", "(II)Z"⟩, 26) := ⟨⟨by decide +kernel, by decide +kernel⟩, List.mem_of_getElem? (i := 726) (by decide +kernel), List.mem_of_getElem? (i := 859) (by decide +kernel), List.mem_of_getElem? (i := 860) (by decide +kernel)⟩
theorem lw_p22 : lw_okq (⟨"LayerbookModel", "change", "(II)I"⟩, 26) := ⟨⟨by decide +kernel, by decide +kernel⟩, List.mem_of_getElem? (i := 726) (by decide +kernel), List.mem_of_getElem? (i := 863) (by decide +kernel), List.mem_of_getElem? (i := 864) (by decide +kernel)⟩
theorem lw_p23 : lw_okq (⟨"LayerbookModel", "areMovements", "(J)Z"⟩, 26) := ⟨⟨by decide +kernel, by decide +kernel⟩, List.mem_of_getElem? (i := 726) (by decide +kernel), List.mem_of_getElem? (i := 879) (by decide +kernel), List.mem_of_getElem? (i := 880) (by decide +kernel)⟩
theorem lw_p24 : lw_okq (⟨"LayerbookModel", "areReceipts", "(JI)Z"⟩, 26) := ⟨⟨by decide +kernel, by decide +kernel⟩, List.mem_of_getElem? (i := 726) (by decide +kernel), List.mem_of_getElem? (i := 886) (by decide +kernel), List.mem_of_getElem? (i := 887) (by decide +kernel)⟩
theorem lw_p25 : lw_okq (⟨"LayerbookModel", "sumOf", "(JI)J"⟩, 26) := ⟨⟨by decide +kernel, by decide +kernel⟩, List.mem_of_getElem? (i := 726) (by decide +kernel), List.mem_of_getElem? (i := 890) (by decide +kernel), List.mem_of_getElem? (i := 891) (by decide +kernel)⟩
theorem lw_p26 : lw_okq (⟨"LayerbookModel", "basisOf", "(II)J"⟩, 26) := ⟨⟨by decide +kernel, by decide +kernel⟩, List.mem_of_getElem? (i := 726) (by decide +kernel), List.mem_of_getElem? (i := 894) (by decide +kernel), List.mem_of_getElem? (i := 895) (by decide +kernel)⟩
theorem lw_p27 : lw_okq (⟨"LayerbookModel", "spreads", "(IIIJ)V"⟩, 26) := ⟨⟨by decide +kernel, by decide +kernel⟩, List.mem_of_getElem? (i := 726) (by decide +kernel), List.mem_of_getElem? (i := 898) (by decide +kernel), List.mem_of_getElem? (i := 899) (by decide +kernel)⟩
theorem lw_p28 : lw_okq (⟨"LayerbookModel", "next", "()I"⟩, 26) := ⟨⟨by decide +kernel, by decide +kernel⟩, List.mem_of_getElem? (i := 726) (by decide +kernel), List.mem_of_getElem? (i := 903) (by decide +kernel), List.mem_of_getElem? (i := 904) (by decide +kernel)⟩
theorem lw_p29 : lw_okq (⟨"LayerbookModel", "isMovement", "(I)Z"⟩, 26) := ⟨⟨by decide +kernel, by decide +kernel⟩, List.mem_of_getElem? (i := 726) (by decide +kernel), List.mem_of_getElem? (i := 911) (by decide +kernel), List.mem_of_getElem? (i := 912) (by decide +kernel)⟩
theorem lw_p30 : lw_okq (⟨"LayerbookModel", "isLanded", "(I)Z"⟩, 26) := ⟨⟨by decide +kernel, by decide +kernel⟩, List.mem_of_getElem? (i := 726) (by decide +kernel), List.mem_of_getElem? (i := 915) (by decide +kernel), List.mem_of_getElem? (i := 916) (by decide +kernel)⟩
theorem lw_p31 : lw_okq (⟨"LayerbookModel", "isSpreadOver", "(II)Z"⟩, 26) := ⟨⟨by decide +kernel, by decide +kernel⟩, List.mem_of_getElem? (i := 726) (by decide +kernel), List.mem_of_getElem? (i := 919) (by decide +kernel), List.mem_of_getElem? (i := 920) (by decide +kernel)⟩
def lw_privs_2 : List (MethodName × Nat) := [(⟨"LayerbookModel", "isShut", "(I)Z"⟩, 26), (⟨"LayerbookModel", "goes", "(I)Z"⟩, 26), (⟨"LayerbookModel", "posts", "(IIIII)Z"⟩, 26), (⟨"LayerbookModel", "isValid", "(I)Z"⟩, 26), (⟨"LayerbookModel", "orders", "()V"⟩, 26), (⟨"LayerbookModel", "takesUnits", "(II)Z"⟩, 26), (⟨"LayerbookModel", "change", "(II)I"⟩, 26), (⟨"LayerbookModel", "areMovements", "(J)Z"⟩, 26), (⟨"LayerbookModel", "areReceipts", "(JI)Z"⟩, 26), (⟨"LayerbookModel", "sumOf", "(JI)J"⟩, 26), (⟨"LayerbookModel", "basisOf", "(II)J"⟩, 26), (⟨"LayerbookModel", "spreads", "(IIIJ)V"⟩, 26), (⟨"LayerbookModel", "next", "()I"⟩, 26), (⟨"LayerbookModel", "isMovement", "(I)Z"⟩, 26), (⟨"LayerbookModel", "isLanded", "(I)Z"⟩, 26), (⟨"LayerbookModel", "isSpreadOver", "(II)Z"⟩, 26)]
theorem lw_r2 : ∀ q ∈ lw_privs_2, lw_okq q := List.forall_mem_cons.mpr ⟨lw_p16, List.forall_mem_cons.mpr ⟨lw_p17, List.forall_mem_cons.mpr ⟨lw_p18, List.forall_mem_cons.mpr ⟨lw_p19, List.forall_mem_cons.mpr ⟨lw_p20, List.forall_mem_cons.mpr ⟨lw_p21, List.forall_mem_cons.mpr ⟨lw_p22, List.forall_mem_cons.mpr ⟨lw_p23, List.forall_mem_cons.mpr ⟨lw_p24, List.forall_mem_cons.mpr ⟨lw_p25, List.forall_mem_cons.mpr ⟨lw_p26, List.forall_mem_cons.mpr ⟨lw_p27, List.forall_mem_cons.mpr ⟨lw_p28, List.forall_mem_cons.mpr ⟨lw_p29, List.forall_mem_cons.mpr ⟨lw_p30, List.forall_mem_cons.mpr ⟨lw_p31, fun _ h => absurd h List.not_mem_nil⟩⟩⟩⟩⟩⟩⟩⟩⟩⟩⟩⟩⟩⟩⟩⟩
theorem lw_p32 : lw_okq (⟨"LayerbookModel", "walks", "(II)V"⟩, 26) := ⟨⟨by decide +kernel, by decide +kernel⟩, List.mem_of_getElem? (i := 726) (by decide +kernel), List.mem_of_getElem? (i := 959) (by decide +kernel), List.mem_of_getElem? (i := 960) (by decide +kernel)⟩
theorem lw_p33 : lw_okq (⟨"LayerbookModel", "lands", "(II)V"⟩, 26) := ⟨⟨by decide +kernel, by decide +kernel⟩, List.mem_of_getElem? (i := 726) (by decide +kernel), List.mem_of_getElem? (i := 963) (by decide +kernel), List.mem_of_getElem? (i := 964) (by decide +kernel)⟩
theorem lw_p34 : lw_okq (⟨"LayerbookModel", "layerOf", "(I)I"⟩, 26) := ⟨⟨by decide +kernel, by decide +kernel⟩, List.mem_of_getElem? (i := 726) (by decide +kernel), List.mem_of_getElem? (i := 967) (by decide +kernel), List.mem_of_getElem? (i := 968) (by decide +kernel)⟩
theorem lw_p35 : lw_okq (⟨"LayerbookModel", "moves", "(I)V"⟩, 26) := ⟨⟨by decide +kernel, by decide +kernel⟩, List.mem_of_getElem? (i := 726) (by decide +kernel), List.mem_of_getElem? (i := 971) (by decide +kernel), List.mem_of_getElem? (i := 972) (by decide +kernel)⟩
theorem lw_p36 : lw_okq (⟨"LayerbookModel", "takes", "(I)J"⟩, 26) := ⟨⟨by decide +kernel, by decide +kernel⟩, List.mem_of_getElem? (i := 726) (by decide +kernel), List.mem_of_getElem? (i := 975) (by decide +kernel), List.mem_of_getElem? (i := 976) (by decide +kernel)⟩
theorem lw_p37 : lw_okq (⟨"LayerbookModel", "drops", "()V"⟩, 26) := ⟨⟨by decide +kernel, by decide +kernel⟩, List.mem_of_getElem? (i := 726) (by decide +kernel), List.mem_of_getElem? (i := 979) (by decide +kernel), List.mem_of_getElem? (i := 980) (by decide +kernel)⟩
theorem lw_p38 : lw_okq (⟨"LayerbookModel", "lays", "(II)V"⟩, 26) := ⟨⟨by decide +kernel, by decide +kernel⟩, List.mem_of_getElem? (i := 726) (by decide +kernel), List.mem_of_getElem? (i := 983) (by decide +kernel), List.mem_of_getElem? (i := 984) (by decide +kernel)⟩
theorem lw_p39 : lw_okq (⟨"LayerbookModel", "asks", "(II)Z"⟩, 26) := ⟨⟨by decide +kernel, by decide +kernel⟩, List.mem_of_getElem? (i := 726) (by decide +kernel), List.mem_of_getElem? (i := 991) (by decide +kernel), List.mem_of_getElem? (i := 992) (by decide +kernel)⟩
theorem lw_p40 : lw_okq (⟨"LayerbookModel", "handAt", "(II)I"⟩, 26) := ⟨⟨by decide +kernel, by decide +kernel⟩, List.mem_of_getElem? (i := 726) (by decide +kernel), List.mem_of_getElem? (i := 999) (by decide +kernel), List.mem_of_getElem? (i := 1000) (by decide +kernel)⟩
theorem lw_p41 : lw_okq (⟨"LayerbookModel", "asksLayer", "(III)Z"⟩, 26) := ⟨⟨by decide +kernel, by decide +kernel⟩, List.mem_of_getElem? (i := 726) (by decide +kernel), List.mem_of_getElem? (i := 1031) (by decide +kernel), List.mem_of_getElem? (i := 1032) (by decide +kernel)⟩
def lw_privs_3 : List (MethodName × Nat) := [(⟨"LayerbookModel", "walks", "(II)V"⟩, 26), (⟨"LayerbookModel", "lands", "(II)V"⟩, 26), (⟨"LayerbookModel", "layerOf", "(I)I"⟩, 26), (⟨"LayerbookModel", "moves", "(I)V"⟩, 26), (⟨"LayerbookModel", "takes", "(I)J"⟩, 26), (⟨"LayerbookModel", "drops", "()V"⟩, 26), (⟨"LayerbookModel", "lays", "(II)V"⟩, 26), (⟨"LayerbookModel", "asks", "(II)Z"⟩, 26), (⟨"LayerbookModel", "handAt", "(II)I"⟩, 26), (⟨"LayerbookModel", "asksLayer", "(III)Z"⟩, 26)]
theorem lw_r3 : ∀ q ∈ lw_privs_3, lw_okq q := List.forall_mem_cons.mpr ⟨lw_p32, List.forall_mem_cons.mpr ⟨lw_p33, List.forall_mem_cons.mpr ⟨lw_p34, List.forall_mem_cons.mpr ⟨lw_p35, List.forall_mem_cons.mpr ⟨lw_p36, List.forall_mem_cons.mpr ⟨lw_p37, List.forall_mem_cons.mpr ⟨lw_p38, List.forall_mem_cons.mpr ⟨lw_p39, List.forall_mem_cons.mpr ⟨lw_p40, List.forall_mem_cons.mpr ⟨lw_p41, fun _ h => absurd h List.not_mem_nil⟩⟩⟩⟩⟩⟩⟩⟩⟩⟩
def lw_privs : List (MethodName × Nat) := lw_privs_1 ++ (lw_privs_2 ++ (lw_privs_3))
def lw_tbl : List Cond := k2_sels lw_privs ++ tables_1
theorem lw_privs_ok : ∀ q ∈ lw_privs, lw_okq q := by
  show ∀ q ∈ lw_privs_1 ++ (lw_privs_2 ++ (lw_privs_3)), lw_okq q
  exact List.forall_mem_append.mpr ⟨lw_r1, List.forall_mem_append.mpr ⟨lw_r2, lw_r3⟩⟩
end
section
/-! ===== BEGIN words of one list among another's, by their places ===== -/
theorem goodIn_r {big : List Cond} (ws : List Cond) (ps : List Nat) (hp : ws = ps.filterMap (fun i => big[i]?)) (h : ws.all goodWord = true) : GoodIn big ws := by
  intro w hw
  have h1 := List.all_eq_true.mp h w hw
  rw [hp] at hw
  obtain ⟨i, -, hi⟩ := List.mem_filterMap.mp hw
  have hm : w ∈ big := by first | exact List.mem_of_getElem? hi | exact List.getElem?_mem hi
  exact ⟨hm, good_of_word h1⟩
theorem goodIn_app {big a b : List Cond} (ha : GoodIn big a) (hb : GoodIn big b) : GoodIn big (a ++ b) := fun w h => (List.mem_append.mp h).elim (ha w) (hb w)
theorem goodIn_ca {big a b : List Cond} {c : Cond} (ha : GoodIn big (c :: a)) (hb : GoodIn big b) : GoodIn big (c :: (a ++ b)) := fun w h => (List.mem_cons.mp h).elim (fun e => ha w (List.mem_cons.mpr (Or.inl e))) (fun h => (List.mem_append.mp h).elim (fun h => ha w (List.mem_cons.mpr (Or.inr h))) (hb w))
theorem goodIn_sub {big ws : List Cond} (hm : ∀ w ∈ ws, w ∈ big) (h : ws.all goodWord = true) : GoodIn big ws := fun w hw => ⟨hm w hw, good_of_word (List.all_eq_true.mp h w hw)⟩
/-! ===== END ===== -/

/-! ===== BEGIN exceptions that leave a method, and their catching by the caller (launches without stack traces) ===== -/
section VXA
/-! The laws vx_back, vx_callV, vx_callS, vx_callSW, vx_throw0, vx_throwS follow proofs of the library, with one case more: JvmDerived/Free/Laws.lean (Back.of_free), Shelf42/LK1.lean (callV, callS), Shelf/KitTraced.lean (throwNew0V, throwNewS). -/
/-- where a method has thrown q: the class by its name, the cell, what was written, the world -/
def vx_T (XC : String → State → State → Prop) (st : State) (q : Addr) (t : State) (mc ms : Nat) (free : Addr → Prop) : Prop :=
  ∃ (E : String) (ce : Cell) (L : List Loc), XC E st t ∧ t.heap[q]? = some ce ∧ ce.vm = .none ∧ st.vm.findClass E = some ce.cls ∧ st.WarmedH t.vm ∧ st.sameButNew ({ t with vm := st.vm } : State) L mc ms ∧ ∀ z ∈ L, free z.base
def vx_Q (Qc : Array Value → State → Outcome → State → Prop) (XC : String → State → State → Prop) (mc ms : Nat) (free : Addr → Prop) : Array Value → State → Outcome → State → Prop := fun a st o t =>
  (Qc a st o t ∧ ∃ L, FrameEnd st o t L mc ms ∧ ∀ q ∈ L, free q.base) ∨ ∃ q, o = .threw q ∧ vx_T XC st q t mc ms free
/-- a callee that returns or throws -/
def vx_Met (l : Launch) (y : MethodName) (ws : List Cond) (rm : Room) (Pc : Array Value → State → Prop) (Qc : Array Value → State → Outcome → State → Prop) (XC : String → State → State → Prop) (mc ms : Nat) (free : Addr → Prop) : Prop :=
  MetFree l y (headSpec ws rm) Pc (fun _ _ _ _ _ => True) (vx_Q Qc XC mc ms free)
def vx_Post (XC : String → State → State → Prop) (mc ms : Nat) (free : Addr → Prop) : Pt → Array Value → Addr → Pt → Prop := fun A a q B =>
  ∃ (g : JFrame) (mk : MethodId) (t : State) (L : List Loc) (E : String) (ce : Cell), B.U.heap = t.heap ∧ B.U.vm = t.vm ∧ XC E (A.U.calling g mk a) t ∧ t.heap[q]? = some ce ∧ ce.vm = .none ∧ A.U.vm.findClass E = some ce.cls ∧ B.locs = A.locs ++ L ∧ (∀ z ∈ L, free z.base) ∧ B.cells = A.cells + mc ∧ B.slots = A.slots + ms
def vx_Back (l : Launch) (R : Room) (p : Program) (e : Env) (below : List Frame) (s : State) (sargs : Array Value) (y : MethodName) (len W9 : Nat)
    (Pre : Pt → Array Value → Prop) (Post : Pt → Array Value → Option Value → Pt → Prop) (PostX : Pt → Array Value → Addr → Pt → Prop) : Prop :=
  ∀ (m : MethodId) (meth : Method) (c : Code) (A : Pt) (g : JFrame) (ig : Instr) (mk : MethodId) (a : Array Value),
    Stand p l e R s m sargs below meth c A.U A.locs A.cells A.slots → g.method = m → g.locals.size = c.maxLocals → decode c.code g.pc = .ok (ig, len) →
    2 * g.monitorRoom + (g.stack.map fun v => v.category).sum ≤ W9 → A.U.methodNamed? y = some mk → Pre A a →
    (∃ (v : Option Value) (B : Pt), Stand p l e R s m sargs below meth c B.U B.locs B.cells B.slots ∧ Post A a v B ∧
      Steps p.tables e below (doInvoke e (A.U.setTop g) [] mk a).1 (B.U.setTop { g with pc := g.pc + len, stack := v.toList ++ g.stack })) ∨
    (∃ (q : Addr) (B : Pt), Stand p l e R s m sargs below meth c B.U B.locs B.cells B.slots ∧ PostX A a q B ∧
      Steps p.tables e below (doInvoke e (A.U.setTop g) [] mk a).1 ((B.U.setTop g).pushFrame (.throwing q)))
section Payer
variable {l : Launch} {R : Room} {p : Program} {e : Env} {below : List Frame} {s : State} {sargs : Array Value} {y : MethodName} {len W9 : Nat}
theorem vx_back {ws : List Cond} {rm : Room} {Pc : Array Value → State → Prop} {Qc : Array Value → State → Outcome → State → Prop} {XC : String → State → State → Prop} {mc ms : Nat} {free : Addr → Prop} {bytes : ByteArray} {maxL : Nat} {ret : Option FieldType}
    (hM : vx_Met l y ws rm Pc Qc XC mc ms free) (hblind : FrameBlind Pc) (hrc : rm.cells = mc) (hrs : rm.slots = ms)
    (hframes : rm.frames + 1 ≤ R.frames) (hlocals : W9 + (maxL + 11) + rm.locals ≤ R.locals)
    (hws : ∀ w ∈ ws, ∀ a' U, s.WarmedH U.vm → w.before a' U = true) (hcode : Cond.code y bytes maxL ret ∈ ws) (hinit : ∀ a' U, s.WarmedH U.vm → (Cond.initialized y.cls).before a' U = true) :
    vx_Back l R p e below s sargs y len W9 (PreOf R mc ms Pc) (PostOf Qc mc ms free) (vx_Post XC mc ms free) := by
  intro m meth c A g ig mk a X hg hsize hdg hW hn hp
  have h1 : (headSpec ws rm).pre.before a A.U = true := atoms_intro fun w hw => hws w hw _ _ X.warmed
  have h2 : (Cond.code y bytes maxL ret).before a A.U = true := hws _ hcode _ _ X.warmed
  have h3 : (Cond.initialized y.cls).before a A.U = true := hinit _ _ X.warmed
  have h4 : A.cells + (headSpec ws rm).room.cells ≤ R.cells := by rw [show (headSpec ws rm).room.cells = mc from hrc]; exact hp.1
  have h5 : A.slots + (headSpec ws rm).room.slots ≤ R.slots := by rw [show (headSpec ws rm).room.slots = ms from hrs]; exact hp.2.1
  have hPc : Pc a (A.U.calling g mk a) := hblind _ _ _ _ hp.2.2
  obtain ⟨U, Ls, c0, s0⟩ := A
  dsimp only [Pt.U, Pt.locs, Pt.cells, Pt.slots] at h1 h2 h3 h4 h5 X hn hPc ⊢
  obtain ⟨methY, cY, hmY, hcY, -, hlY, -, -, -, -⟩ := Cond.code_spec hn h2
  obtain ⟨kY, hkY, -⟩ := className_of_methodNamed hn
  have hinitY : kY.init = .initialized := Cond.initialized_spec (findClass_of_methodNamed hn) hkY h3
  have h : At U g.method c below := by rw [hg]; exact X.here
  have hlocals9 : W9 + (maxL + 11) + (headSpec ws rm).room.locals ≤ R.locals := hlocals
  have happ : (headSpec ws rm).appliesLoose y e.platform (U.calling g mk a) = true :=
    Spec.appliesLoose_calling (g := g) h hdg hn hkY hinitY
      (X.room_calling (g := g) (R' := (headSpec ws rm).room) hsize hmY hcY hframes (by rw [hlY]; omega) h4 h5) h1
  obtain ⟨mid, hmid⟩ := h.above
  have hfr : (U.setTop g).frames = (.java g :: mid) ++ below := by rw [State.frames_setTop' g h.top, hmid]; rfl
  obtain ⟨o, s₂, hsteps, -, hend, hq⟩ := Steps.callFree hM p X.admits X.cas X.clock (acts := []) hfr happ hPc trivial
  have hq' : vx_Q Qc XC mc ms free a (U.calling g mk a) o s₂ := hq
  rw [State.frames_setTop' g h.top] at hend
  obtain ⟨g₀, hg0⟩ := Option.isSome_iff_exists.mp h.top
  obtain ⟨r, hr⟩ := State.topJava?_eq_some.mp hg0
  have hr' : (({ U with heap := s₂.heap, slotsUsed := s₂.slotsUsed } : State).setVm s₂.vm).frames = .java g₀ :: r := hr
  rcases hq' with ⟨hqc, L, hfe, hL⟩ | ⟨q, rfl, E, ce, L, hx, hce, hcv, hcl, hW₂, hsm, hL⟩
  · obtain ⟨⟨v, rfl⟩, hW₂, e2, q2, q3, q4, q5, q6⟩ := id hfe
    have e3 : s₂ = ({ (U.calling g mk a).setFrames s₂.frames with heap := s₂.heap, slotsUsed := s₂.slotsUsed } : State).setVm s₂.vm := by
      have : s₂ = ({ s₂ with vm := (U.calling g mk a).vm } : State).setVm s₂.vm := rfl
      rw [e2] at this
      exact this
    obtain ⟨c₂, i₂, len₂, hc₂, hd₂, hf₂⟩ := hend
    have hW' : U.WarmedH s₂.vm := hW₂
    have hcc : c₂ = c := by
      have h1 : s₂.code? g.method = U.code? g.method := by
        rw [State.code?_eq, State.code?_eq, hW'.alike.method?]
      exact Option.some.inj (hc₂.symm.trans (h1.trans h.code))
    subst hcc
    have hlen : len₂ = len := by rw [hdg] at hd₂; cases hd₂; rfl
    subst hlen
    have hs₂ : s₂ = (({ U with heap := s₂.heap, slotsUsed := s₂.slotsUsed } : State).setVm s₂.vm).setTop { g with pc := g.pc + len₂, stack := v.toList ++ g.stack } := by
      refine e3.trans ?_
      rw [hf₂, State.calling_eq h.top, State.setFrames_setFrames, State.setTop_of_frames _ hr', hr]
      rfl
    have hsame : U.sameButNew ({ U with heap := s₂.heap, slotsUsed := s₂.slotsUsed } : State) L mc ms := by
      refine ⟨?_, q2, q3, q4, q5, q6⟩
      obtain ⟨t, ht, -⟩ := State.frames_cons hr
      show ({ U with heap := s₂.heap, slotsUsed := s₂.slotsUsed } : State) = { U.setFrames U.frames with heap := s₂.heap, slotsUsed := s₂.slotsUsed }
      rw [State.setFrames_self ht]
    subst hg
    refine Or.inl ⟨v, ⟨(({ U with heap := s₂.heap, slotsUsed := s₂.slotsUsed } : State).setVm s₂.vm), Ls ++ L, c0 + mc, s0 + ms⟩,
      ⟨X.admits, X.cas, X.clock, X.frames, X.room, X.hears, X.method, X.code, (X.here.setHeapUsed s₂.heap s₂.slotsUsed).setVm hW'.alike, X.tail, State.WarmedH.trans X.warmed hW', X.limits, X.bytes, X.same.trans (hsame.setVm s.vm)⟩,
      ⟨g, mk, s₂, L, rfl, rfl, hqc, rfl, hL, rfl, rfl⟩, ?_⟩
    show Steps p.tables e below _ ((({ U with heap := s₂.heap, slotsUsed := s₂.slotsUsed } : State).setVm s₂.vm).setTop { g with pc := g.pc + len₂, stack := v.toList ++ g.stack })
    rw [← hs₂]
    exact hsteps
  · obtain ⟨e2, q2, q3, q4, q5, q6⟩ := id hsm
    have e3 : s₂ = ({ (U.calling g mk a).setFrames s₂.frames with heap := s₂.heap, slotsUsed := s₂.slotsUsed } : State).setVm s₂.vm := by
      have : s₂ = ({ s₂ with vm := (U.calling g mk a).vm } : State).setVm s₂.vm := rfl
      rw [e2] at this
      exact this
    have hf₂ : s₂.frames = .throwing q :: .java g :: U.frames.tail := hend
    have hW' : U.WarmedH s₂.vm := hW₂
    have hs₂ : s₂ = ((({ U with heap := s₂.heap, slotsUsed := s₂.slotsUsed } : State).setVm s₂.vm).setTop g).pushFrame (.throwing q) := by
      refine e3.trans ?_
      rw [hf₂, State.calling_eq h.top, State.setFrames_setFrames, State.pushFrame, State.frames_setTop _ hr', State.setTop_of_frames _ hr', State.setFrames_setFrames, hr]
      rfl
    have hsame : U.sameButNew ({ U with heap := s₂.heap, slotsUsed := s₂.slotsUsed } : State) L mc ms := by
      refine ⟨?_, q2, q3, q4, q5, q6⟩
      obtain ⟨t, ht, -⟩ := State.frames_cons hr
      show ({ U with heap := s₂.heap, slotsUsed := s₂.slotsUsed } : State) = { U.setFrames U.frames with heap := s₂.heap, slotsUsed := s₂.slotsUsed }
      rw [State.setFrames_self ht]
    subst hg
    refine Or.inr ⟨q, ⟨(({ U with heap := s₂.heap, slotsUsed := s₂.slotsUsed } : State).setVm s₂.vm), Ls ++ L, c0 + mc, s0 + ms⟩,
      ⟨X.admits, X.cas, X.clock, X.frames, X.room, X.hears, X.method, X.code, (X.here.setHeapUsed s₂.heap s₂.slotsUsed).setVm hW'.alike, X.tail, State.WarmedH.trans X.warmed hW', X.limits, X.bytes, X.same.trans (hsame.setVm s.vm)⟩,
      ⟨g, mk, s₂, L, E, ce, rfl, rfl, hx, hce, hcv, hcl, rfl, hL, rfl, rfl⟩, ?_⟩
    show Steps p.tables e below _ (((({ U with heap := s₂.heap, slotsUsed := s₂.slotsUsed } : State).setVm s₂.vm).setTop g).pushFrame (.throwing q))
    rw [← hs₂]
    exact hsteps
end Payer
section Calls
variable {p : Program} {l : Launch} {e : Env} {R : Room} {s : State} {m : MethodId} {args : Array Value} {below : List Frame} {meth : Method} {c : Code} {T : State} {locs : List Loc} {cells slots : Nat}
theorem vx_callV (X : Stand p l e R s m args below meth c T locs cells slots) (hexec : p.tables.exec = Jvm.exec) {own C : String} {index : Nat} {y : MethodName} {bytes : ByteArray} {maxL : Nat} {ret : Option FieldType}
    (hown : s.vm.findClass own = some m.cls) (hlink : (Cond.methodLink own index y).before args s = true) (hinst : (Cond.instanceMethod y).before args s = true) (hsel : (Cond.selects C y y).before args s = true)
    (hcode : (Cond.code y bytes maxL ret).before args s = true) (hy : y.cls ≠ "java/lang/invoke/MethodHandle" ∧ y.cls ≠ "java/lang/invoke/VarHandle")
    {W9 : Nat} {Pre : Pt → Array Value → Prop} {Post : Pt → Array Value → Option Value → Pt → Prop} {PostX : Pt → Array Value → Addr → Pt → Prop} (hK : vx_Back l R p e below s args y 3 W9 Pre Post PostX)
    {b : Addr} {cellB : Cell} (hcell : T.heap[b]? = some cellB) (hobj : cellB.vm.isStatics = false) (hcls : s.vm.findClass C = some cellB.cls)
    {g : JFrame} (hg : g.method = m) (hsize : g.locals.size = c.maxLocals) {argsL rest : List Value} (hlen : ∀ sig, parseMethodDescriptor y.desc = some sig → argsL.length = sig.parameters.length)
    (hstack : g.stack = argsL.reverse ++ .ref b :: rest) (hW : 2 * g.monitorRoom + (rest.map fun v => v.category).sum ≤ W9) (hdg : decode c.code g.pc = .ok (.invokevirtual index, 3))
    (hpre : ∀ vm₁, s.WarmedH vm₁ → Pre ⟨T.setVm vm₁, locs, cells, slots⟩ (Value.ref b :: argsL).toArray) :
    (∃ (v : Option Value) (vm₁ : Vm) (B : Pt), s.WarmedH vm₁ ∧ Stand p l e R s m args below meth c B.U B.locs B.cells B.slots ∧ Post ⟨T.setVm vm₁, locs, cells, slots⟩ (Value.ref b :: argsL).toArray v B ∧
      ∀ target, Steps p.tables e below (B.U.setTop { g with pc := g.pc + 3, stack := v.toList ++ rest }) target → Steps p.tables e below (T.setTop g) target) ∨
    (∃ (q : Addr) (vm₁ : Vm) (B : Pt), s.WarmedH vm₁ ∧ Stand p l e R s m args below meth c B.U B.locs B.cells B.slots ∧ PostX ⟨T.setVm vm₁, locs, cells, slots⟩ (Value.ref b :: argsL).toArray q B ∧
      Steps p.tables e below (T.setTop g) ((B.U.setTop { g with stack := rest }).pushFrame (.throwing q))) := by
  obtain ⟨mk, methM, hnamed, hmethM, hstM, habM⟩ := Cond.instanceMethod_spec hinst
  obtain ⟨methM', cM, hmethM', -, -, -, -, -, -, hsigM⟩ := Cond.code_spec hnamed hcode
  cases hmethM.symm.trans hmethM'
  obtain ⟨c2, r2, m2, q1, q2, q3, q4, kP, hkP, hkPi⟩ := Cond.selects_spec hsel
  cases hcls.symm.trans q1
  cases (State.methodFound?_of_named hnamed hy).symm.trans q2
  cases hnamed.symm.trans q3
  have hselP : selectMethod e.platform s.vm cellB.cls mk = .method mk := by rw [Launch.admits_selectMethod X.admits]; exact q4
  obtain ⟨vm₁, X₁, hstep₁⟩ := X.invokevirtual hexec hown hlink hnamed hmethM hstM hkP hkPi hy (a := b) (cell := cellB) hcell
    (fun z h => by rw [h] at hobj; cases hobj) hselP hmethM habM hkP hkPi (g := g) hg (argsL := argsL) (rest := rest) (hlen _ hsigM) hstack hdg
  rcases hK m meth c ⟨T.setVm vm₁, locs, cells, slots⟩ { g with stack := rest } (.invokevirtual index) mk (Value.ref b :: argsL).toArray X₁ hg hsize hdg hW (X₁.named hnamed) (hpre vm₁ X₁.warmed) with ⟨v, B, X', hpost, hsteps⟩ | ⟨q, B, X', hpost, hsteps⟩
  · exact Or.inl ⟨v, vm₁, B, X₁.warmed, X', hpost, fun target h => hstep₁ _ fun acts => by rw [doInvoke_state]; exact hsteps.trans h⟩
  · exact Or.inr ⟨q, vm₁, B, X₁.warmed, X', hpost, hstep₁ _ fun acts => by rw [doInvoke_state]; exact hsteps⟩
theorem vx_callS (X : Stand p l e R s m args below meth c T locs cells slots) (hexec : p.tables.exec = Jvm.exec) {own : String} {index : Nat} {y : MethodName} {bytes : ByteArray} {maxL : Nat} {ret : Option FieldType}
    (hown : s.vm.findClass own = some m.cls) (hlink : (Cond.methodLink own index y).before args s = true) (hstat : (Cond.static y).before args s = true) (hinit : (Cond.initialized y.cls).before args s = true)
    (hcode : (Cond.code y bytes maxL ret).before args s = true) (hy : y.cls ≠ "java/lang/invoke/MethodHandle" ∧ y.cls ≠ "java/lang/invoke/VarHandle")
    {W9 : Nat} {Pre : Pt → Array Value → Prop} {Post : Pt → Array Value → Option Value → Pt → Prop} {PostX : Pt → Array Value → Addr → Pt → Prop} (hK : vx_Back l R p e below s args y 3 W9 Pre Post PostX)
    {g : JFrame} (hg : g.method = m) (hsize : g.locals.size = c.maxLocals) {argsL rest : List Value} (hlen : ∀ sig, parseMethodDescriptor y.desc = some sig → argsL.length = sig.parameters.length)
    (hstack : g.stack = argsL.reverse ++ rest) (hW : 2 * g.monitorRoom + (rest.map fun v => v.category).sum ≤ W9) (hdg : decode c.code g.pc = .ok (.invokestatic index, 3))
    (hpre : ∀ vm₁, s.WarmedH vm₁ → Pre ⟨T.setVm vm₁, locs, cells, slots⟩ argsL.toArray) :
    (∃ (v : Option Value) (vm₁ : Vm) (B : Pt), s.WarmedH vm₁ ∧ Stand p l e R s m args below meth c B.U B.locs B.cells B.slots ∧ Post ⟨T.setVm vm₁, locs, cells, slots⟩ argsL.toArray v B ∧
      ∀ target, Steps p.tables e below (B.U.setTop { g with pc := g.pc + 3, stack := v.toList ++ rest }) target → Steps p.tables e below (T.setTop g) target) ∨
    (∃ (q : Addr) (vm₁ : Vm) (B : Pt), s.WarmedH vm₁ ∧ Stand p l e R s m args below meth c B.U B.locs B.cells B.slots ∧ PostX ⟨T.setVm vm₁, locs, cells, slots⟩ argsL.toArray q B ∧
      Steps p.tables e below (T.setTop g) ((B.U.setTop { g with stack := rest }).pushFrame (.throwing q))) := by
  obtain ⟨mk, hnamed⟩ := Cond.code_named hcode
  obtain ⟨methM, cM, hmethM, -, -, -, -, -, -, hsigM⟩ := Cond.code_spec hnamed hcode
  have hstatic : methM.isStatic = true := Cond.static_spec hnamed hmethM hstat
  obtain ⟨kP, hkP, -⟩ := className_of_methodNamed hnamed
  have hinitP : kP.init = .initialized := Cond.initialized_spec (findClass_of_methodNamed hnamed) hkP hinit
  obtain ⟨vm₁, X₁, hstep₁⟩ := X.invokestatic hexec hown hlink hnamed hmethM hstatic hkP hinitP hy (g := g) hg (argsL := argsL) (rest := rest) (hlen _ hsigM) hstack hdg
  rcases hK m meth c ⟨T.setVm vm₁, locs, cells, slots⟩ { g with stack := rest } (.invokestatic index) mk argsL.toArray X₁ hg hsize hdg hW (X₁.named hnamed) (hpre vm₁ X₁.warmed) with ⟨v, B, X', hpost, hsteps⟩ | ⟨q, B, X', hpost, hsteps⟩
  · exact Or.inl ⟨v, vm₁, B, X₁.warmed, X', hpost, fun target h => hstep₁ _ fun acts => by rw [doInvoke_state]; exact hsteps.trans h⟩
  · exact Or.inr ⟨q, vm₁, B, X₁.warmed, X', hpost, hstep₁ _ fun acts => by rw [doInvoke_state]; exact hsteps⟩
end Calls
theorem vx_cls {s : State} {T : State} {vm₁ : Vm} {E : String} {k : ClassId} (hW : s.WarmedH vm₁) (h : (T.setVm vm₁).vm.findClass E = some k) : s.vm.findClass E = some k := by
  have h1 : vm₁.findClass E = some k := h
  rw [hW.alike.findClass] at h1
  exact h1
/-- the method's frame g, with q thrown over it -/
def vx_W (p : Program) (l : Launch) (e : Env) (R : Room) (s : State) (m : MethodId) (args : Array Value) (below : List Frame) (meth : Method) (c : Code) (H : Heap) (locs : List Loc) (cells slots : Nat) (Q : State → Prop) (g : JFrame) (q : Addr) : Prop :=
  ∀ T : State, T.heap = H → Stand p l e R s m args below meth c T locs cells slots → ∃ t, Steps p.tables e below ((T.setTop g).pushFrame (.throwing q)) t ∧ Q t
def vx_Run (p : Program) (l : Launch) (e : Env) (R : Room) (s : State) (m : MethodId) (args : Array Value) (below : List Frame) (meth : Method) (c : Code) (H : Heap) (locs : List Loc) (cells slots mc ms : Nat) (g : JFrame) (rest : List Value) (Qa : State → Outcome → State → Prop) (XC : String → State → State → Prop) (free : Addr → Prop) : Prop :=
  ∀ T : State, T.heap = H → Stand p l e R s m args below meth c T locs cells slots →
    (∃ (v : Option Value) (st₀ t T' : State) (L : List Loc), st₀.heap = H ∧ Stand p l e R s m args below meth c T' (locs ++ L) (cells + mc) (slots + ms) ∧ (∀ q ∈ L, free q.base) ∧ T'.heap = t.heap ∧ T'.vm = t.vm ∧ Qa st₀ (.returned v) t ∧
      Goes p e below T g T' { g with pc := g.pc + 3, stack := v.toList ++ rest }) ∨
    (∃ (q : Addr) (st₀ t T' : State) (L : List Loc) (E : String) (ce : Cell), st₀.heap = H ∧ Stand p l e R s m args below meth c T' (locs ++ L) (cells + mc) (slots + ms) ∧ (∀ z ∈ L, free z.base) ∧ T'.heap = t.heap ∧ T'.vm = t.vm ∧ XC E st₀ t ∧ t.heap[q]? = some ce ∧ ce.vm = .none ∧ s.vm.findClass E = some ce.cls ∧
      Steps p.tables e below (T.setTop g) ((T'.setTop { g with stack := rest }).pushFrame (.throwing q)))
def vx_X {S : Type} (px : S → Prop) (B : String → S → State → Prop) (A : Nat → Prop) : String → State → State → Prop := fun E st t => ∃ u : S, px u ∧ B E u t ∧ va_F A st t
section Runs
variable {p : Program} {l : Launch} {e : Env} {R : Room} {s : State} {m : MethodId} {args : Array Value} {below : List Frame} {meth : Method} {c : Code} {H : Heap} {locs : List Loc} {cells slots : Nat}
variable {y : MethodName} {bytes cc : ByteArray} {maxL nL mc ms n index : Nat} {ret : Option FieldType} {ws : List Cond} {rm : Room} {Pc : Array Value → State → Prop} {Qc : Array Value → State → Outcome → State → Prop} {XC : String → State → State → Prop} {free : Addr → Prop} {Ts : List Cond} {own C : String} {b : Addr} {As rest : List Value} {g : JFrame}
theorem vx_callBack (cb : CallB R s args own index y bytes maxL ret ws rm mc ms n) (hM : vx_Met l y ws rm Pc Qc XC mc ms free) (hbl : FrameBlind Pc) : vx_Back l R p e below s args y 3 8 (PreOf R mc ms Pc) (PostOf Qc mc ms free) (vx_Post XC mc ms free) := by
  obtain ⟨hrc, hrs, hfr, hlo, hws, hcw, -, hini, -⟩ := cb
  exact vx_back (bytes := bytes) (maxL := maxL) (ret := ret) hM hbl hrc hrs hfr hlo hws hcw (fun a' U hW => word_at hW (Or.inl (by first | rfl | simp [Cond.onTables, Cond.keeps, Cond.steady])) hini)
theorem vx_runV (S : CallFix p m c cc nL s args Ts own) (hM : vx_Met l y ws rm Pc Qc XC mc ms free) (cw : CallW R s args own C index y bytes maxL ret ws rm mc ms n) (hp : PreV s H C b Pc As)
    (hg : g.method = m) (hn : As.length = n) (hsize : g.locals.size = nL) (hstack : g.stack = As.reverse ++ .ref b :: rest) (hW : 2 * g.monitorRoom + (rest.map fun v => v.category).sum ≤ 8) (hdg : decode cc g.pc = .ok (.invokevirtual index, 3)) (hf : cells + mc ≤ R.cells ∧ slots + ms ≤ R.slots) :
    vx_Run p l e R s m args below meth c H locs cells slots mc ms g rest (Qc (Value.ref b :: As).toArray) XC free := by
  have hK : vx_Back l R p e below s args y 3 8 (PreOf R mc ms Pc) (PostOf Qc mc ms free) (vx_Post XC mc ms free) := vx_callBack cw.1 hM hp.1
  obtain ⟨⟨-, -, -, -, -, -, hcode, -, hy, hlen, hl⟩, hin, hse⟩ := cw
  obtain ⟨hx, hb, hml, ho, -⟩ := S
  obtain ⟨-, ⟨cellB, hcB, hoB, hclB⟩, hPc⟩ := hp
  intro T hT X
  rcases vx_callV X hx (C := C) (bytes := bytes) (maxL := maxL) (ret := ret) ho hl hin hse hcode hy hK (by rw [hT]; exact hcB) hoB hclB hg (hsize.trans hml.symm) (argsL := As) (rest := rest) (fun sig h => hn.trans (hlen sig h)) hstack hW (by rw [hb]; exact hdg)
    (fun vm₁ hW₁ => ⟨hf.1, hf.2, hPc (T.setVm vm₁) hT hW₁⟩) with ⟨v, vm₁, ⟨U', l2, c2, s2⟩, hW₁, X', ⟨g', mk, t, L, e1, e2, hq, h1, hL, h2, h3⟩, st⟩ | ⟨q, vm₁, ⟨U', l2, c2, s2⟩, hW₁, X', ⟨g', mk, t, L, E, ce, e1, e2, hq, hce, hcv, hcl, h1, hL, h2, h3⟩, st⟩
  · dsimp only [Pt.U, Pt.locs, Pt.cells, Pt.slots] at X' e1 e2 h1 h2 h3 st
    subst h1; subst h2; subst h3
    exact Or.inl ⟨v, (T.setVm vm₁).calling g' mk (Value.ref b :: As).toArray, t, U', L, hT, X', hL, e1, e2, hq, st⟩
  · dsimp only [Pt.U, Pt.locs, Pt.cells, Pt.slots] at X' e1 e2 h1 h2 h3 st hcl
    subst h1; subst h2; subst h3
    exact Or.inr ⟨q, (T.setVm vm₁).calling g' mk (Value.ref b :: As).toArray, t, U', L, E, ce, hT, X', hL, e1, e2, hq, hce, hcv, vx_cls hW₁ hcl, st⟩
theorem vx_runS (S : CallFix p m c cc nL s args Ts own) (hM : vx_Met l y ws rm Pc Qc XC mc ms free) (cw : CallB R s args own index y bytes maxL ret ws rm mc ms n ∧ (Cond.static y).before args s = true) (hp : PreS s H Pc As)
    (hg : g.method = m) (hn : As.length = n) (hsize : g.locals.size = nL) (hstack : g.stack = As.reverse ++ rest) (hW : 2 * g.monitorRoom + (rest.map fun v => v.category).sum ≤ 8) (hdg : decode cc g.pc = .ok (.invokestatic index, 3)) (hf : cells + mc ≤ R.cells ∧ slots + ms ≤ R.slots) :
    vx_Run p l e R s m args below meth c H locs cells slots mc ms g rest (Qc As.toArray) XC free := by
  have hK : vx_Back l R p e below s args y 3 8 (PreOf R mc ms Pc) (PostOf Qc mc ms free) (vx_Post XC mc ms free) := vx_callBack cw.1 hM hp.1
  obtain ⟨⟨-, -, -, -, -, -, hcode, hini, hy, hlen, hl⟩, hstt⟩ := cw
  obtain ⟨hx, hb, hml, ho, -⟩ := S
  intro T hT X
  rcases vx_callS X hx (bytes := bytes) (maxL := maxL) (ret := ret) ho hl hstt hini hcode hy hK hg (hsize.trans hml.symm) (argsL := As) (rest := rest) (fun sig h => hn.trans (hlen sig h)) hstack hW (by rw [hb]; exact hdg)
    (fun vm₁ hW₁ => ⟨hf.1, hf.2, hp.2 (T.setVm vm₁) hT hW₁⟩) with ⟨v, vm₁, ⟨U', l2, c2, s2⟩, hW₁, X', ⟨g', mk, t, L, e1, e2, hq, h1, hL, h2, h3⟩, st⟩ | ⟨q, vm₁, ⟨U', l2, c2, s2⟩, hW₁, X', ⟨g', mk, t, L, E, ce, e1, e2, hq, hce, hcv, hcl, h1, hL, h2, h3⟩, st⟩
  · dsimp only [Pt.U, Pt.locs, Pt.cells, Pt.slots] at X' e1 e2 h1 h2 h3 st
    subst h1; subst h2; subst h3
    exact Or.inl ⟨v, (T.setVm vm₁).calling g' mk As.toArray, t, U', L, hT, X', hL, e1, e2, hq, st⟩
  · dsimp only [Pt.U, Pt.locs, Pt.cells, Pt.slots] at X' e1 e2 h1 h2 h3 st hcl
    subst h1; subst h2; subst h3
    exact Or.inr ⟨q, (T.setVm vm₁).calling g' mk As.toArray, t, U', L, E, ce, hT, X', hL, e1, e2, hq, hce, hcv, vx_cls hW₁ hcl, st⟩
end Runs
section Rows
variable {p : Program} {l : Launch} {e : Env} {R : Room} {s : State} {m : MethodId} {args : Array Value} {below : List Frame} {meth : Method} {c : Code} {H : Heap} {locs : List Loc} {cells slots : Nat} {Q : State → Prop}
variable {mc ms : Nat} {free : Addr → Prop} {A0 A1 : Nat → Prop} {H0 : Heap} {a : Array Value} {pc : Nat} {ls : Array Slot} {st0 rest : List Value}
theorem vx_keep {st₀ t T' : State} {L : List Loc} (h0 : st₀.heap = H) (e1 : T'.heap = t.heap) (hS : va_S A0 H0 H locs) (hA : ∀ q, q < H.size → A1 q → A0 q) (hf : ∀ q, free q → A0 q) (hL : ∀ q ∈ L, free q.base) (hF : va_F A1 st₀ t) :
    H.size ≤ T'.heap.size ∧ (∀ q : Nat, q < H.size → ¬ A1 q → T'.heap[q]? = H[q]?) ∧ va_S A0 H0 T'.heap (locs ++ L) := by
  obtain ⟨hz, hk⟩ := hF
  rw [h0] at hz hk
  exact ⟨by rw [e1]; exact hz, fun q h1 h2 => by rw [e1]; exact hk q h1 h2,
    ⟨Nat.le_trans hS.1 (by rw [e1]; exact hz), fun q h1 h2 => by rw [e1, hk q (Nat.lt_of_lt_of_le h1 hS.1) (fun z => h2 (hA q (Nat.lt_of_lt_of_le h1 hS.1) z))]; exact hS.2.1 q h1 h2, fun q hq => by
      rcases List.mem_append.mp hq with h | h
      · exact hS.2.2 q h
      · exact hf _ (hL q h)⟩⟩
theorem vx_calli {S SX : Type} {post : Int32 → S → Prop} {px : SX → Prop} {B : S → State → Prop} {BX : String → SX → State → Prop} {AX : Nat → Prop} (hr : vx_Run p l e R s m args below meth c H locs cells slots mc ms (F0 m pc ls st0) rest (va_Qi post B A1 a) (vx_X px BX AX) free) (hS : va_S A0 H0 H locs) (hA : ∀ q, q < H.size → A1 q → A0 q) (hf : ∀ q, free q → A0 q) (hAX : ∀ q, q < H.size → AX q → A0 q)
    (kx : ∀ (E : String) (ce : Cell) (q9 : Addr) (u : SX) (t : State) (H1 : Heap) (locs1 : List Loc), t.heap = H1 → s.vm.Alike t.vm → px u → BX E u t → H.size ≤ H1.size → (∀ q : Nat, q < H.size → ¬ AX q → H1[q]? = H[q]?) → va_S A0 H0 H1 locs1 → H1[q9]? = some ce → ce.vm = .none → s.vm.findClass E = some ce.cls → vx_W p l e R s m args below meth c H1 locs1 (cells + mc) (slots + ms) Q (F0 m pc ls rest) q9)
    (kk : ∀ (r : Int32) (u : S) (t : State) (H1 : Heap) (locs1 : List Loc), t.heap = H1 → s.vm.Alike t.vm → post r u → B u t → H.size ≤ H1.size → (∀ q : Nat, q < H.size → ¬ A1 q → H1[q]? = H[q]?) → va_S A0 H0 H1 locs1 → W p l e R s m args below meth c H1 locs1 (cells + mc) (slots + ms) Q (F0 m (pc + 3) ls (.int r :: rest))) : W p l e R s m args below meth c H locs cells slots Q (F0 m pc ls st0) := by
  intro T hT X
  rcases hr T hT X with ⟨v, st₀, t, T', L, h0, X', hL, e1, e2, ⟨⟨r, u, hv, hp, hb⟩, hF⟩, st⟩ | ⟨q, st₀, t, T', L, E, ce, h0, X', hL, e1, e2, ⟨u, hp, hb, hF⟩, hce, hcv, hcl, st⟩
  · cases hv
    obtain ⟨k1, k2, k3⟩ := vx_keep h0 e1 hS hA hf hL hF
    obtain ⟨t2, a1, b1⟩ := kk r u t T'.heap (locs ++ L) e1.symm (by rw [← e2]; exact X'.warmed.alike) hp hb k1 k2 k3 T' rfl X'
    exact ⟨t2, st t2 a1, b1⟩
  · obtain ⟨k1, k2, k3⟩ := vx_keep h0 e1 hS hAX hf hL hF
    obtain ⟨t2, a1, b1⟩ := kx E ce q u t T'.heap (locs ++ L) e1.symm (by rw [← e2]; exact X'.warmed.alike) hp hb k1 k2 k3 (by rw [e1]; exact hce) hcv hcl T' rfl X'
    exact ⟨t2, st.trans a1, b1⟩
theorem vx_calll {S SX : Type} {post : Int64 → S → Prop} {px : SX → Prop} {B : S → State → Prop} {BX : String → SX → State → Prop} {AX : Nat → Prop} (hr : vx_Run p l e R s m args below meth c H locs cells slots mc ms (F0 m pc ls st0) rest (va_Ql post B A1 a) (vx_X px BX AX) free) (hS : va_S A0 H0 H locs) (hA : ∀ q, q < H.size → A1 q → A0 q) (hf : ∀ q, free q → A0 q) (hAX : ∀ q, q < H.size → AX q → A0 q)
    (kx : ∀ (E : String) (ce : Cell) (q9 : Addr) (u : SX) (t : State) (H1 : Heap) (locs1 : List Loc), t.heap = H1 → s.vm.Alike t.vm → px u → BX E u t → H.size ≤ H1.size → (∀ q : Nat, q < H.size → ¬ AX q → H1[q]? = H[q]?) → va_S A0 H0 H1 locs1 → H1[q9]? = some ce → ce.vm = .none → s.vm.findClass E = some ce.cls → vx_W p l e R s m args below meth c H1 locs1 (cells + mc) (slots + ms) Q (F0 m pc ls rest) q9)
    (kk : ∀ (r : Int64) (u : S) (t : State) (H1 : Heap) (locs1 : List Loc), t.heap = H1 → s.vm.Alike t.vm → post r u → B u t → H.size ≤ H1.size → (∀ q : Nat, q < H.size → ¬ A1 q → H1[q]? = H[q]?) → va_S A0 H0 H1 locs1 → W p l e R s m args below meth c H1 locs1 (cells + mc) (slots + ms) Q (F0 m (pc + 3) ls (.long r :: rest))) : W p l e R s m args below meth c H locs cells slots Q (F0 m pc ls st0) := by
  intro T hT X
  rcases hr T hT X with ⟨v, st₀, t, T', L, h0, X', hL, e1, e2, ⟨⟨r, u, hv, hp, hb⟩, hF⟩, st⟩ | ⟨q, st₀, t, T', L, E, ce, h0, X', hL, e1, e2, ⟨u, hp, hb, hF⟩, hce, hcv, hcl, st⟩
  · cases hv
    obtain ⟨k1, k2, k3⟩ := vx_keep h0 e1 hS hA hf hL hF
    obtain ⟨t2, a1, b1⟩ := kk r u t T'.heap (locs ++ L) e1.symm (by rw [← e2]; exact X'.warmed.alike) hp hb k1 k2 k3 T' rfl X'
    exact ⟨t2, st t2 a1, b1⟩
  · obtain ⟨k1, k2, k3⟩ := vx_keep h0 e1 hS hAX hf hL hF
    obtain ⟨t2, a1, b1⟩ := kx E ce q u t T'.heap (locs ++ L) e1.symm (by rw [← e2]; exact X'.warmed.alike) hp hb k1 k2 k3 (by rw [e1]; exact hce) hcv hcl T' rfl X'
    exact ⟨t2, st.trans a1, b1⟩
theorem vx_callf {S SX : Type} {post : UInt32 → S → Prop} {px : SX → Prop} {B : S → State → Prop} {BX : String → SX → State → Prop} {AX : Nat → Prop} (hr : vx_Run p l e R s m args below meth c H locs cells slots mc ms (F0 m pc ls st0) rest (va_Qf post B A1 a) (vx_X px BX AX) free) (hS : va_S A0 H0 H locs) (hA : ∀ q, q < H.size → A1 q → A0 q) (hf : ∀ q, free q → A0 q) (hAX : ∀ q, q < H.size → AX q → A0 q)
    (kx : ∀ (E : String) (ce : Cell) (q9 : Addr) (u : SX) (t : State) (H1 : Heap) (locs1 : List Loc), t.heap = H1 → s.vm.Alike t.vm → px u → BX E u t → H.size ≤ H1.size → (∀ q : Nat, q < H.size → ¬ AX q → H1[q]? = H[q]?) → va_S A0 H0 H1 locs1 → H1[q9]? = some ce → ce.vm = .none → s.vm.findClass E = some ce.cls → vx_W p l e R s m args below meth c H1 locs1 (cells + mc) (slots + ms) Q (F0 m pc ls rest) q9)
    (kk : ∀ (r : UInt32) (u : S) (t : State) (H1 : Heap) (locs1 : List Loc), t.heap = H1 → s.vm.Alike t.vm → post r u → B u t → H.size ≤ H1.size → (∀ q : Nat, q < H.size → ¬ A1 q → H1[q]? = H[q]?) → va_S A0 H0 H1 locs1 → W p l e R s m args below meth c H1 locs1 (cells + mc) (slots + ms) Q (F0 m (pc + 3) ls (.float r :: rest))) : W p l e R s m args below meth c H locs cells slots Q (F0 m pc ls st0) := by
  intro T hT X
  rcases hr T hT X with ⟨v, st₀, t, T', L, h0, X', hL, e1, e2, ⟨⟨r, u, hv, hp, hb⟩, hF⟩, st⟩ | ⟨q, st₀, t, T', L, E, ce, h0, X', hL, e1, e2, ⟨u, hp, hb, hF⟩, hce, hcv, hcl, st⟩
  · cases hv
    obtain ⟨k1, k2, k3⟩ := vx_keep h0 e1 hS hA hf hL hF
    obtain ⟨t2, a1, b1⟩ := kk r u t T'.heap (locs ++ L) e1.symm (by rw [← e2]; exact X'.warmed.alike) hp hb k1 k2 k3 T' rfl X'
    exact ⟨t2, st t2 a1, b1⟩
  · obtain ⟨k1, k2, k3⟩ := vx_keep h0 e1 hS hAX hf hL hF
    obtain ⟨t2, a1, b1⟩ := kx E ce q u t T'.heap (locs ++ L) e1.symm (by rw [← e2]; exact X'.warmed.alike) hp hb k1 k2 k3 (by rw [e1]; exact hce) hcv hcl T' rfl X'
    exact ⟨t2, st.trans a1, b1⟩
theorem vx_calld {S SX : Type} {post : UInt64 → S → Prop} {px : SX → Prop} {B : S → State → Prop} {BX : String → SX → State → Prop} {AX : Nat → Prop} (hr : vx_Run p l e R s m args below meth c H locs cells slots mc ms (F0 m pc ls st0) rest (va_Qd post B A1 a) (vx_X px BX AX) free) (hS : va_S A0 H0 H locs) (hA : ∀ q, q < H.size → A1 q → A0 q) (hf : ∀ q, free q → A0 q) (hAX : ∀ q, q < H.size → AX q → A0 q)
    (kx : ∀ (E : String) (ce : Cell) (q9 : Addr) (u : SX) (t : State) (H1 : Heap) (locs1 : List Loc), t.heap = H1 → s.vm.Alike t.vm → px u → BX E u t → H.size ≤ H1.size → (∀ q : Nat, q < H.size → ¬ AX q → H1[q]? = H[q]?) → va_S A0 H0 H1 locs1 → H1[q9]? = some ce → ce.vm = .none → s.vm.findClass E = some ce.cls → vx_W p l e R s m args below meth c H1 locs1 (cells + mc) (slots + ms) Q (F0 m pc ls rest) q9)
    (kk : ∀ (r : UInt64) (u : S) (t : State) (H1 : Heap) (locs1 : List Loc), t.heap = H1 → s.vm.Alike t.vm → post r u → B u t → H.size ≤ H1.size → (∀ q : Nat, q < H.size → ¬ A1 q → H1[q]? = H[q]?) → va_S A0 H0 H1 locs1 → W p l e R s m args below meth c H1 locs1 (cells + mc) (slots + ms) Q (F0 m (pc + 3) ls (.double r :: rest))) : W p l e R s m args below meth c H locs cells slots Q (F0 m pc ls st0) := by
  intro T hT X
  rcases hr T hT X with ⟨v, st₀, t, T', L, h0, X', hL, e1, e2, ⟨⟨r, u, hv, hp, hb⟩, hF⟩, st⟩ | ⟨q, st₀, t, T', L, E, ce, h0, X', hL, e1, e2, ⟨u, hp, hb, hF⟩, hce, hcv, hcl, st⟩
  · cases hv
    obtain ⟨k1, k2, k3⟩ := vx_keep h0 e1 hS hA hf hL hF
    obtain ⟨t2, a1, b1⟩ := kk r u t T'.heap (locs ++ L) e1.symm (by rw [← e2]; exact X'.warmed.alike) hp hb k1 k2 k3 T' rfl X'
    exact ⟨t2, st t2 a1, b1⟩
  · obtain ⟨k1, k2, k3⟩ := vx_keep h0 e1 hS hAX hf hL hF
    obtain ⟨t2, a1, b1⟩ := kx E ce q u t T'.heap (locs ++ L) e1.symm (by rw [← e2]; exact X'.warmed.alike) hp hb k1 k2 k3 (by rw [e1]; exact hce) hcv hcl T' rfl X'
    exact ⟨t2, st.trans a1, b1⟩
theorem vx_callv {S SX : Type} {post : S → Prop} {px : SX → Prop} {B : S → State → Prop} {BX : String → SX → State → Prop} {AX : Nat → Prop} (hr : vx_Run p l e R s m args below meth c H locs cells slots mc ms (F0 m pc ls st0) rest (va_Qv post B A1 a) (vx_X px BX AX) free) (hS : va_S A0 H0 H locs) (hA : ∀ q, q < H.size → A1 q → A0 q) (hf : ∀ q, free q → A0 q) (hAX : ∀ q, q < H.size → AX q → A0 q)
    (kx : ∀ (E : String) (ce : Cell) (q9 : Addr) (u : SX) (t : State) (H1 : Heap) (locs1 : List Loc), t.heap = H1 → s.vm.Alike t.vm → px u → BX E u t → H.size ≤ H1.size → (∀ q : Nat, q < H.size → ¬ AX q → H1[q]? = H[q]?) → va_S A0 H0 H1 locs1 → H1[q9]? = some ce → ce.vm = .none → s.vm.findClass E = some ce.cls → vx_W p l e R s m args below meth c H1 locs1 (cells + mc) (slots + ms) Q (F0 m pc ls rest) q9)
    (kk : ∀ (u : S) (t : State) (H1 : Heap) (locs1 : List Loc), t.heap = H1 → s.vm.Alike t.vm → post u → B u t → H.size ≤ H1.size → (∀ q : Nat, q < H.size → ¬ A1 q → H1[q]? = H[q]?) → va_S A0 H0 H1 locs1 → W p l e R s m args below meth c H1 locs1 (cells + mc) (slots + ms) Q (F0 m (pc + 3) ls (rest))) : W p l e R s m args below meth c H locs cells slots Q (F0 m pc ls st0) := by
  intro T hT X
  rcases hr T hT X with ⟨v, st₀, t, T', L, h0, X', hL, e1, e2, ⟨⟨u, hv, hp, hb⟩, hF⟩, st⟩ | ⟨q, st₀, t, T', L, E, ce, h0, X', hL, e1, e2, ⟨u, hp, hb, hF⟩, hce, hcv, hcl, st⟩
  · cases hv
    obtain ⟨k1, k2, k3⟩ := vx_keep h0 e1 hS hA hf hL hF
    obtain ⟨t2, a1, b1⟩ := kk u t T'.heap (locs ++ L) e1.symm (by rw [← e2]; exact X'.warmed.alike) hp hb k1 k2 k3 T' rfl X'
    exact ⟨t2, st t2 a1, b1⟩
  · obtain ⟨k1, k2, k3⟩ := vx_keep h0 e1 hS hAX hf hL hF
    obtain ⟨t2, a1, b1⟩ := kx E ce q u t T'.heap (locs ++ L) e1.symm (by rw [← e2]; exact X'.warmed.alike) hp hb k1 k2 k3 (by rw [e1]; exact hce) hcv hcl T' rfl X'
    exact ⟨t2, st.trans a1, b1⟩
/-- caught by the row x of this method's table; the rows ahead don't take it -/
theorem vx_catch {own name : String} {E : String} {ce : Cell} {q : Addr} (hown : s.vm.findClass own = some m.cls) (pre : List ExceptionTableEntry) (x : ExceptionTableEntry) (suf : List ExceptionTableEntry) (hsplit : c.exceptionTable.toList = pre ++ x :: suf)
    (hpass : ∀ z ∈ pre, covers z pc = false ∨ (z.catchType ≠ 0 ∧ ∃ nm : String, (Cond.classLink own z.catchType nm).before args s = true ∧ va_Nc E nm s)) (hx : covers x pc = true) (h0 : x.catchType ≠ 0)
    (hlink : (Cond.classLink own x.catchType name).before args s = true) (hcast : (Cond.castable E name).before args s = true) (hcell : H[q]? = some ce) (hv : ce.vm = .none) (hcl : s.vm.findClass E = some ce.cls)
    (kk : W p l e R s m args below meth c H locs cells slots Q (F0 m x.handlerPc ls [.ref q])) : vx_W p l e R s m args below meth c H locs cells slots Q (F0 m pc ls rest) q := by
  intro T hT X
  have hpl : e.platform.magicAccessors = ({} : Platform).magicAccessors := by rw [X.admits.platform]
  obtain ⟨c3, c4, hc3, hc4, hasg⟩ := Cond.castable_spec hcast
  cases Option.some.inj (hc3.symm.trans hcl)
  obtain ⟨c5, hc5, hcl5⟩ := Cond.classLink_spec hown hlink e.platform hpl
  cases Option.some.inj (hc4.symm.trans hc5)
  obtain ⟨vm', X', st⟩ := X.thenCaughtThrough q (g := F0 m pc ls rest) rfl (Steps.refl _) (by rw [hT]; exact hcell) (by rw [hv]; rfl) (by obtain ⟨k9, h9, -⟩ := Vm.findClass_spec hcl; exact ⟨k9, h9⟩) pre x suf hsplit
    (fun z hz => by
      rcases hpass z hz with h | ⟨hz0, nm, hl1, hn1⟩
      · exact Or.inl h
      · obtain ⟨c6, hc6, hcl6⟩ := Cond.classLink_spec hown hl1 e.platform hpl
        obtain ⟨a8, b8, h1, h2, h3⟩ := hn1
        cases Option.some.inj (h1.symm.trans hcl)
        cases Option.some.inj (h2.symm.trans hc6)
        exact Or.inr ⟨hz0, _, hcl6, h3⟩) hx (Or.inr ⟨h0, c4, hcl5, hasg⟩)
  obtain ⟨t, a1, b1⟩ := kk (T.setVm vm') hT X'
  exact ⟨t, st.trans a1, b1⟩
end Rows
section Ends
variable {p : Program} {l : Launch} {e : Env} {R : Room} {s : State} {m : MethodId} {args : Array Value} {below : List Frame} {meth : Method} {c : Code} {H : Heap} {locs : List Loc} {cells slots : Nat} {Q : State → Prop}
variable {mc ms : Nat} {free : Addr → Prop} {A0 A1 : Nat → Prop} {H0 : Heap} {a : Array Value} {ls : Array Slot} {st0 rest : List Value}
variable {Qc : Array Value → State → Outcome → State → Prop} {XC : String → State → State → Prop}
/-- what a body that may throw owes at its end -/
def vx_MQ (below : List Frame) (Qc : Array Value → State → Outcome → State → Prop) (XC : String → State → State → Prop) (a : Array Value) (s : State) (mc ms : Nat) (free : Addr → Prop) : State → Prop := fun t =>
  ∃ o, t.status = .running ∧ Ended t below o ∧ vx_Q Qc XC mc ms free a s o t
theorem vx_ret {g : JFrame} {mc ms : Nat} (k : W p l e R s m args below meth c H locs cells slots (MQ below Qc args s mc ms free) g) : W p l e R s m args below meth c H locs cells slots (vx_MQ below Qc XC args s mc ms free) g := by
  intro T hT X
  obtain ⟨t, a1, o, b1, b2, b3, b4⟩ := k T hT X
  exact ⟨t, a1, o, b1, b2, Or.inl ⟨b3, b4⟩⟩
/-- not caught here: it goes on to the caller -/
theorem vx_widen {g : JFrame} {q : Addr} {k n : Nat} (h1 : cells ≤ k) (h2 : slots ≤ n) (kk : vx_W p l e R s m args below meth c H locs k n Q g q) : vx_W p l e R s m args below meth c H locs cells slots Q g q := fun T hT X => kk T hT (stand_widen X h1 h2)
theorem vx_out {pc : Nat} {E : String} {ce : Cell} {q : Addr} {mc ms : Nat} (hout : ∀ x ∈ c.exceptionTable.toList, covers x pc = false) (hlocks : meth.locks = false) (hcell : H[q]? = some ce) (hv : ce.vm = .none) (hcl : s.vm.findClass E = some ce.cls)
    (hx : ∀ t : State, t.heap = H → s.vm.Alike t.vm → XC E s t) (hf : ∀ z ∈ locs, free z.base) (hc : cells ≤ mc) (hs : slots ≤ ms) :
    vx_W p l e R s m args below meth c H locs cells slots (vx_MQ below Qc XC args s mc ms free) (F0 m pc ls rest) q := by
  intro T hT X
  obtain ⟨st1, hrun, hend, hW, hsm⟩ := X.leaveThrown q (g := F0 m pc ls rest) rfl rfl rfl hout hlocks
  have hcell9 : (T.setFrames (.throwing q :: below)).heap[q]? = some ce := by
    show T.heap[q]? = some ce
    rw [hT]; exact hcell
  exact ⟨_, st1, .threw q, hrun, hend, Or.inr ⟨q, rfl, E, ce, locs, hx _ hT hW.alike, hcell9, hv, hcl, hW, hsm.mono hc hs, hf⟩⟩
theorem vx_frame {U : State} {k n : Nat} (h : s.sameButNew ({ U with vm := s.vm } : State) locs k n) : s.heap.size ≤ U.heap.size ∧ ∀ q : Nat, q < s.heap.size → (∀ z ∈ locs, z.base ≠ q) → U.heap[q]? = s.heap[q]? := by
  obtain ⟨-, h2, -, -, -, h6⟩ := h
  refine ⟨h2, fun q hq hz => ?_⟩
  obtain ⟨c9, e1, e2, e3, e4⟩ := h6 q _ (Array.getElem?_eq_getElem hq)
  have hs : c9.slots = (s.heap[q]).slots := Array.ext_getElem? fun i => e4 i fun hm => hz _ hm rfl
  have h9 : c9 = s.heap[q] := by
    rw [hs] at e2
    exact e2
  have e5 : U.heap[q]? = some c9 := e1
  rw [e5, h9, Array.getElem?_eq_getElem hq]
/-- the words of a throw but the four that speak of the heap -/
def vx_no (w : Cond) : Bool := decide (w ≠ .isRef (.static Bundle.tN "UNASSIGNED_STACK" Bundle.steD)) && decide (w ≠ .isRef (.static Bundle.tN "SUPPRESSED_SENTINEL" Bundle.listD)) && decide (w ≠ .laysStatic Bundle.tN "UNASSIGNED_STACK" Bundle.steD) && decide (w ≠ .laysStatic Bundle.tN "SUPPRESSED_SENTINEL" Bundle.listD)
def vx_at0 (own : String) (ic : Nat) (X : String) (names : List String) : List Cond := (Bundle.ownAtoms0 own ic X names).filter vx_no
def vx_atS (own : String) (ic : Nat) (X : String) (names : List String) : List Cond := (Bundle.ownAtoms own ic X names).filter vx_no
/-- a word that the tables alone decide, or a good one -/
def vx_ot (w : Cond) : Bool := w.onTables || goodWord w
theorem vx_ot_at {args a' : Array Value} {s U : State} {w : Cond} (hW : s.WarmedH U.vm) (hvm : s.vm = U.vm) (hg : vx_ot w = true) (h : w.before args s = true) : w.before a' U = true := by
  simp only [vx_ot, Bool.or_eq_true] at hg
  rcases hg with hg | hg
  · exact va_tabs hg hvm h
  · exact word_at hW (good_of_word hg) h
/-- a list's words: the good ones out of the method's own list, the others by premises of their own -/
theorem vx_hat {args : Array Value} {s : State} {L B : List Cond} (h1 : ∀ w ∈ L.filter goodWord, w.before args s = true) (h2 : ∀ w ∈ L.filter (fun w => !goodWord w), w ∈ B) (h3 : ∀ w ∈ B, w.before args s = true) : ∀ w ∈ L, w.before args s = true := by
  intro w hw
  by_cases g : goodWord w = true
  · exact h1 w (List.mem_filter.mpr ⟨hw, g⟩)
  · refine h3 w (h2 w (List.mem_filter.mpr ⟨hw, ?_⟩))
    show (!goodWord w) = true
    cases hgw : goodWord w
    · rfl
    · exact absurd hgw g
theorem vx_c {args : Array Value} {s : State} {w : Cond} {B : List Cond} (h : w.before args s = true) (t : ∀ w ∈ B, w.before args s = true) : ∀ w' ∈ w :: B, w'.before args s = true := fun w' h' => (List.mem_cons.mp h').elim (fun e => by rw [e]; exact h) (t w')
theorem vx_n {args : Array Value} {s : State} : ∀ w ∈ ([] : List Cond), w.before args s = true := fun _ h => nomatch h
theorem vx_own {args : Array Value} {s : State} {L : List Cond} (h1 : ∀ w ∈ L.filter vx_no, w.before args s = true)
    (hU : (Cond.isRef (.static Bundle.tN "UNASSIGNED_STACK" Bundle.steD)).before args s = true) (hN : (Cond.isRef (.static Bundle.tN "SUPPRESSED_SENTINEL" Bundle.listD)).before args s = true)
    (lU : (Cond.laysStatic Bundle.tN "UNASSIGNED_STACK" Bundle.steD).before args s = true) (lN : (Cond.laysStatic Bundle.tN "SUPPRESSED_SENTINEL" Bundle.listD).before args s = true) : ∀ w ∈ L, w.before args s = true := by
  intro w hw
  by_cases e1 : w = .isRef (.static Bundle.tN "UNASSIGNED_STACK" Bundle.steD)
  · rw [e1]; exact hU
  · by_cases e2 : w = .isRef (.static Bundle.tN "SUPPRESSED_SENTINEL" Bundle.listD)
    · rw [e2]; exact hN
    · by_cases e3 : w = .laysStatic Bundle.tN "UNASSIGNED_STACK" Bundle.steD
      · rw [e3]; exact lU
      · by_cases e4 : w = .laysStatic Bundle.tN "SUPPRESSED_SENTINEL" Bundle.listD
        · rw [e4]; exact lN
        · exact h1 w (List.mem_filter.mpr ⟨hw, by unfold vx_no; rw [decide_eq_true e1, decide_eq_true e2, decide_eq_true e3, decide_eq_true e4]; rfl⟩)
/-- where a static field lies, its class's statics cell in H -/
def vx_L (C n d : String) (A : Nat → Prop) (U : State) (H : Heap) : Prop := ∃ (c : ClassId) (k : Class) (i : Nat) (f : Field) (a : Nat) (cell : Cell), U.vm.findClass C = some c ∧ U.fieldFound? C n d = some (c, k, i, f) ∧ f.isStatic = true ∧ k.statics = some a ∧ H[a]? = some cell ∧ cell.vm.isStatics = true ∧ cell.cls = c ∧ f.slot < cell.slots.size ∧ k.staticTypes[f.slot]? = some f.type ∧ ¬ A a
theorem vx_L.moved {C n d : String} {A : Nat → Prop} {u U : State} {H : Heap} (hvm : u.vm.Alike U.vm) (h : vx_L C n d A u H) : vx_L C n d A U H := by
  obtain ⟨c, k, i, f, a, cell, h1, h2, h3, h4, h5, h6, h7, h8, h9, h10⟩ := h
  obtain ⟨k', hi', he⟩ := State.fieldFound?_setVm hvm h2
  exact ⟨c, k', i, f, a, cell, by rw [hvm.findClass]; exact h1, hi', h3, by rw [he]; exact h4, h5, h6, h7, h8, by rw [he]; exact h9, h10⟩
theorem vx_L.kept {C n d : String} {A : Nat → Prop} {U : State} {H H1 : Heap} (h : vx_L C n d A U H) (hq : ∀ a : Nat, a < H.size → ¬ A a → H1[a]? = H[a]?) : vx_L C n d A U H1 := by
  obtain ⟨c, k, i, f, a, cell, h1, h2, h3, h4, h5, h6, h7, h8, h9, h10⟩ := h
  exact ⟨c, k, i, f, a, cell, h1, h2, h3, h4, by rw [hq a (Array.getElem?_eq_some_iff.mp h5).1 h10]; exact h5, h6, h7, h8, h9, h10⟩
theorem vx_L.narrow {C n d : String} {A B : Nat → Prop} {U : State} {H : Heap} (h : vx_L C n d A U H) (hAB : ∀ q, B q → A q) : vx_L C n d B U H := by
  obtain ⟨c, k, i, f, a, cell, h1, h2, h3, h4, h5, h6, h7, h8, h9, h10⟩ := h
  exact ⟨c, k, i, f, a, cell, h1, h2, h3, h4, h5, h6, h7, h8, h9, fun z => h10 (hAB _ z)⟩
theorem vx_L.word {C n d : String} {A : Nat → Prop} {s : State} {args : Array Value} (h : vx_L C n d A s s.heap) : (Cond.laysStatic C n d).before args s = true := by
  obtain ⟨c, k, i, f, a, cell, h1, h2, h3, h4, h5, h6, h7, h8, h9, -⟩ := h
  show (Cond.laysStatic C n d).holds args s none s [] = true
  exact Cond.laysStatic_of h1 h2 h3 h4 h5 h6 h7 h8 h9
/-- .. and what it holds: null or some reference -/
def vx_Zq (C n d : String) (A : Nat → Prop) (U : State) (H : Heap) : Prop := va_Zq C n d A U H ∧ vx_L C n d A U H
theorem vx_Zq.moved {C n d : String} {A : Nat → Prop} {u U : State} {H : Heap} (hvm : u.vm.Alike U.vm) (h : vx_Zq C n d A u H) : vx_Zq C n d A U H := ⟨va_Zq.moved hvm h.1, vx_L.moved hvm h.2⟩
theorem vx_Zq.kept {C n d : String} {A : Nat → Prop} {U : State} {H H1 : Heap} (h : vx_Zq C n d A U H) (hq : ∀ a : Nat, a < H.size → ¬ A a → H1[a]? = H[a]?) : vx_Zq C n d A U H1 := ⟨va_Zq.kept h.1 hq, vx_L.kept h.2 hq⟩
theorem vx_Zq.narrow {C n d : String} {A B : Nat → Prop} {U : State} {H : Heap} (h : vx_Zq C n d A U H) (hAB : ∀ q, B q → A q) : vx_Zq C n d B U H := ⟨va_Zq.narrow h.1 hAB, vx_L.narrow h.2 hAB⟩
theorem vx_Zqof {args : Array Value} {s : State} {C n d : String} {A : Nat → Prop} (hl : (Cond.laysStatic C n d).before args s = true) (hini : (Cond.initialized C).before args s = true) (h : (Cond.isRef (.static C n d)).before args s = true) (hA : ∀ a : Nat, a < s.heap.size → ¬ A a) : vx_Zq C n d A s s.heap := by
  refine ⟨va_Zqof hl hini h hA, ?_⟩
  obtain ⟨c, k, i, f, a, cell, h1, h2, h3, h4, h5, h6, h7, h8, h9⟩ := Cond.laysStatic_spec hl
  exact ⟨c, k, i, f, a, cell, h1, h2, h3, h4, h5, h6, h7, h8, h9, hA a (Array.getElem?_eq_some_iff.mp h5).1⟩
theorem vx_isRef {C n d : String} {v : Value} {A : Nat → Prop} {s : State} {args : Array Value} (h : va_Z C n d v A s s.heap) (hv : v.isRef = true) : (Cond.isRef (.static C n d)).before args s = true := by
  obtain ⟨cf, kf, fi, f, a, cell, h1, h2, h3, h4, h5, h6, h7, -⟩ := h
  have he : (Term.static C n d).eval args s none [] s = some v := by
    simp [Term.eval, State.fieldNamed?, h1, h2, h4, h5, h6, h7]
  simp only [Cond.before, Cond.holds, Cond.value, he]
  cases v <;> simp_all [Value.isRef]
theorem vx_isRefq {C n d : String} {A : Nat → Prop} {s : State} {args : Array Value} (h : va_Zq C n d A s s.heap) : (Cond.isRef (.static C n d)).before args s = true := by
  rcases h with h | ⟨t, h⟩
  · exact vx_isRef h rfl
  · exact vx_isRef h rfl
/-- the same frame, seen from here: as if the method were called anew in this heap -/
theorem vx_rebase {T : State} (X : Stand p l e R s m args below meth c T locs cells slots) {R' : Room} (hf : R'.frames ≤ R.frames) (hl : R'.locals ≤ R.locals) (hc : cells + R'.cells ≤ R.cells) (hs : slots + R'.slots ≤ R.slots) :
    Stand p l e R' ((T.setVm s.vm).setFrames (.invoking m args :: below)) m args below meth c T [] 0 0 := by
  have htop : (T.setVm s.vm).topJava?.isSome := X.here.top
  have hF : ((T.setVm s.vm).setFrames (.invoking m args :: below)).frames = .invoking m args :: below := State.frames_setFrames _ (State.cur_lt_of_top htop)
  obtain ⟨g₀, hg0⟩ := Option.isSome_iff_exists.mp htop
  obtain ⟨r, hr⟩ := State.topJava?_eq_some.mp hg0
  have hl9 : e.platform.stackLimits (T.setVm s.vm).me = e.platform.stackLimits s.me := X.limits
  have hb9 : (T.setVm s.vm).me.stackBytes = s.me.stackBytes := X.bytes
  refine ⟨X.admits, X.cas, X.clock, hF, ?_, X.hears, X.method, X.code, X.here, X.tail, X.warmed, ?_, ?_, ?_⟩
  · have h := X.room
    have hU : ((T.setVm s.vm).setFrames (.invoking m args :: below)).localsInUse = s.localsInUse := by
      rw [State.localsInUse_invoking hF (meth := meth) (c := c) X.method X.code, State.localsInUse_invoking X.frames X.method X.code]
    simp only [State.hasRoom, Bool.and_eq_true, decide_eq_true_eq] at h ⊢
    obtain ⟨⟨⟨⟨h1, h2, h3, h4, h5, h6⟩, h7⟩, h8⟩, h9⟩ := h
    rw [X.frames, List.length_cons] at h2 h3
    have q1 := X.heapSize
    have q2 := X.used
    simp only [hF, hU, List.length_cons, State.stackLimits_setFrames, State.stackBytes_setFrames, hl9, hb9]
    refine ⟨⟨⟨⟨by omega, by omega, by omega, by omega, by omega, h6⟩, ?_⟩, ?_⟩, X.book⟩
    · show T.heap.size + R'.cells ≤ e.platform.maxCells
      omega
    · show T.slotsUsed + R'.slots ≤ e.platform.maxSlots
      omega
  · rw [State.stackLimits_setFrames]; rfl
  · rw [State.stackBytes_setFrames]; rfl
  · refine ⟨?_, Nat.le_refl _, Nat.le_refl _, ?_, ?_, fun a c9 h9 => ⟨c9, h9, rfl, rfl, fun _ _ => rfl⟩⟩
    · obtain ⟨t, ht, -⟩ := State.frames_cons hr
      show T.setVm s.vm = { ((T.setVm s.vm).setFrames (.invoking m args :: below)).setFrames (T.setVm s.vm).frames with heap := T.heap, slotsUsed := T.slotsUsed }
      rw [State.setFrames_setFrames, State.setFrames_self ht]
      rfl
    · show T.slotsUsed = T.slotsUsed + ((T.heap.toList.drop T.heap.size).map (·.slots.size)).sum
      rw [List.drop_eq_nil_of_le (Nat.le_of_eq Array.length_toList)]
      rfl
    · show ((T.heap.toList.drop T.heap.size).map (·.slots.size)).sum ≤ 0
      rw [List.drop_eq_nil_of_le (Nat.le_of_eq Array.length_toList)]
      exact Nat.le_refl _
/-- 'throw new E()': new; dup; invokespecial; athrow -/
theorem vx_throw0 {cc : ByteArray} {pc : Nat} (hexec : p.tables.exec = Jvm.exec) (hb : c.code = cc) (hl : l.stackTraces = false) {own cls : String} {names : List String} {ik ic mc ms : Nat} {A : Nat → Prop}
    (hown : s.vm.findClass own = some m.cls) (hcls : Bundle.fit cls = true) (hnames : ∀ n ∈ names, Bundle.fit n = true)
    (hk : (Cond.classLink own ik cls).before args s = true) (hini : (Cond.initialized cls).before args s = true) (hat : ∀ w ∈ vx_at0 own ic cls names, w.before args s = true)
    (hgood : ∀ w ∈ Cond.classLink own ik cls :: Cond.initialized cls :: vx_at0 own ic cls names, vx_ot w = true)
    (hU : vx_Zq Bundle.tN "UNASSIGNED_STACK" Bundle.steD A s s.heap) (hN : vx_Zq Bundle.tN "SUPPRESSED_SENTINEL" Bundle.listD A s s.heap) (hS : va_S A s.heap H locs) (hsize : ls.size = c.maxLocals)
    (d0 : decode cc pc = .ok (.new ik, 3)) (d3 : decode cc (pc + 3) = .ok (.dup, 1)) (d4 : decode cc (pc + 4) = .ok (.invokespecial ic, 3)) (d7 : decode cc (pc + 7) = .ok (.athrow, 1))
    (hout : ∀ x ∈ c.exceptionTable.toList, covers x (pc + 7) = false)
    (hRframes : names.length + 3 < R.frames) (hRlocals : (rest.map fun v => v.category).sum + (13 * (names.length + 1) + 42) ≤ R.locals) (hRcells : cells + 1 ≤ R.cells) (hRslots : slots + 6 ≤ R.slots) (hlocks : meth.locks = false)
    (hx : ∀ t : State, s.vm.Alike t.vm → H.size ≤ t.heap.size → (∀ q : Nat, q < H.size → t.heap[q]? = H[q]?) → XC cls s t)
    (hf : ∀ z ∈ locs, free z.base) (hc : cells + 1 ≤ mc) (hs : slots + 6 ≤ ms) :
    W p l e R s m args below meth c H locs cells slots (vx_MQ below Qc XC args s mc ms free) (F0 m pc ls rest) := by
  intro T hT X
  have htr : e.platform.stackTraces = false := (show e.platform.stackTraces = l.stackTraces by rw [X.admits.platform]).trans hl
  have Y := vx_rebase X (R' := { frames := R.frames, locals := R.locals, cells := 1, slots := 6 }) (Nat.le_refl _) (Nat.le_refl _) hRcells hRslots
  obtain ⟨s', hA⟩ : ∃ z, z = (T.setVm s.vm).setFrames (.invoking m args :: below) := ⟨_, rfl⟩
  rw [← hA] at Y
  have hvm : s'.vm = s.vm := by rw [hA]; rfl
  have hhp : s'.heap = H := by rw [hA]; exact hT
  have hW0 : s.WarmedH s'.vm := by rw [hvm]; exact State.WarmedH.refl s
  have hat' : ∀ w ∈ vx_at0 own ic cls names, w.before args s' = true := fun w hw => vx_ot_at hW0 hvm.symm (hgood w (List.mem_cons_of_mem _ (List.mem_cons_of_mem _ hw))) (hat w hw)
  have hk' : (Cond.classLink own ik cls).before args s' = true := vx_ot_at hW0 hvm.symm (hgood _ List.mem_cons_self) hk
  have hini' : (Cond.initialized cls).before args s' = true := vx_ot_at hW0 hvm.symm (hgood _ (List.mem_cons_of_mem _ List.mem_cons_self)) hini
  have hU' : vx_Zq Bundle.tN "UNASSIGNED_STACK" Bundle.steD A s' s'.heap := by rw [hhp]; exact vx_Zq.moved hW0.alike (hU.kept hS.2.1)
  have hN' : vx_Zq Bundle.tN "SUPPRESSED_SENTINEL" Bundle.listD A s' s'.heap := by rw [hhp]; exact vx_Zq.moved hW0.alike (hN.kept hS.2.1)
  have h : ∀ w ∈ Bundle.ownAtoms0 own ic cls names, w.before args s' = true := vx_own hat' (vx_isRefq hU'.1) (vx_isRefq hN'.1) hU'.2.word hN'.2.word
  have hown' : s'.vm.findClass own = some m.cls := by rw [hvm]; exact hown
  have hins : (Cond.instantiable cls 6).before args s' = true := h _ (by simp [Bundle.ownAtoms0])
  obtain ⟨vm₁, cX, kX, hfX, hkX, -, -, X₁, st1⟩ := Y.newCold hexec (own := own) (C := cls) (index := ik) (n := 6) hown' hk' hins hini'
    (g := F0 m pc ls rest) rfl (by rw [hb]; exact d0) (Nat.le_refl _) (Nat.le_refl _)
  generalize hT1 : (T.setVm vm₁).pushCell { cls := cX, slots := kX.instanceTypes.map defaultValue, vm := .none } = T1 at X₁ st1
  have hcat : (Value.ref T.heap.size).category = 1 := rfl
  have hcellA : T1.heap[T.heap.size]? = some (freshCell cX kX) := by rw [← hT1]; exact State.heap_pushCell_size _ _
  have d3' : decode c.code (pc + 3) = .ok (.dup, 1) := by rw [hb]; exact d3
  obtain ⟨U, hsteps, hrun, hend, hW, hsame, ce, hce, hO⟩ := X₁.ctorThrow0 hexec htr (own := own) (cls := cls) (names := names) (ic := ic) hown' hcls hnames h (fun x hx => nomatch hx) hfX hkX hcellA (by rw [hhp, hT]; exact Nat.le_refl _)
    (g := { method := m, pc := pc + 4, locals := ls, stack := .ref T.heap.size :: .ref T.heap.size :: rest, locked := none }) rfl hsize rfl rfl (rest := rest) rfl
    (by rw [hb]; exact d4) (by rw [hb]; exact d7) hout hRframes (by simp only [List.map_cons, List.sum_cons, hcat]; omega) hlocks
  obtain ⟨f1, f2⟩ := vx_frame hsame
  rw [hhp] at f1 f2
  have hWs : s.WarmedH U.vm := State.WarmedH.trans hW0 hW
  have hcl : s.vm.findClass cls = some ce.cls := by
    have h9 := hO.cls
    rw [hvm] at h9
    exact h9
  have hall : s.sameButNew ({ U with vm := s.vm } : State) locs mc ms := by
    subst hA
    obtain ⟨e1, e2⟩ := hsame
    rw [State.setFrames_setFrames] at e1
    have h2 : (T.setVm s.vm).sameButNew ({ U with vm := s.vm } : State) [] (0 + 1) (0 + 6) := ⟨e1, e2⟩
    have h3 := X.same.trans h2
    rw [List.append_nil] at h3
    exact h3.mono hc hs
  refine ⟨U, ?_, .threw T.heap.size, hrun, hend, Or.inr ⟨T.heap.size, rfl, cls, ce, locs, hx U hWs.alike f1 (fun q hq => f2 q hq (fun z hz => nomatch hz)), hce, hO.vm, hcl, hWs, hall, hf⟩⟩
  refine st1 _ ?_
  show Steps p.tables e below (T1.setTop { method := m, pc := pc + 3, locals := ls, stack := .ref T.heap.size :: rest, locked := none }) _
  jvm_step X₁.here [X₁.here.top, hexec, d3', Value.category]
  exact hsteps
/-- 'throw new E("text")': new; dup; ldc; invokespecial; athrow -/
theorem vx_throwS {cc : ByteArray} {pc : Nat} (hexec : p.tables.exec = Jvm.exec) (hb : c.code = cc) (hl : l.stackTraces = false) {own cls text : String} {names : List String} {ik is ic mc ms sa : Nat} {A : Nat → Prop}
    (hown : s.vm.findClass own = some m.cls) (hcls : Bundle.fit cls = true) (hnames : ∀ n ∈ names, Bundle.fit n = true)
    (hk : (Cond.classLink own ik cls).before args s = true) (hini : (Cond.initialized cls).before args s = true) (hstr : vk_R own is text sa s) (hat : ∀ w ∈ vx_atS own ic cls names, w.before args s = true)
    (hgood : ∀ w ∈ Cond.classLink own ik cls :: Cond.initialized cls :: vx_atS own ic cls names, vx_ot w = true)
    (hU : vx_Zq Bundle.tN "UNASSIGNED_STACK" Bundle.steD A s s.heap) (hN : vx_Zq Bundle.tN "SUPPRESSED_SENTINEL" Bundle.listD A s s.heap) (hS : va_S A s.heap H locs) (hsize : ls.size = c.maxLocals)
    (d0 : decode cc pc = .ok (.new ik, 3)) (d3 : decode cc (pc + 3) = .ok (.dup, 1)) (d4 : decode cc (pc + 4) = .ok (.ldc is, 2)) (d6 : decode cc (pc + 6) = .ok (.invokespecial ic, 3)) (d9 : decode cc (pc + 9) = .ok (.athrow, 1))
    (hout : ∀ x ∈ c.exceptionTable.toList, covers x (pc + 9) = false)
    (hRframes : names.length + 3 < R.frames) (hRlocals : (rest.map fun v => v.category).sum + (13 * (names.length + 1) + 43) ≤ R.locals) (hRcells : cells + 1 ≤ R.cells) (hRslots : slots + 6 ≤ R.slots) (hlocks : meth.locks = false)
    (hx : ∀ t : State, s.vm.Alike t.vm → H.size ≤ t.heap.size → (∀ q : Nat, q < H.size → t.heap[q]? = H[q]?) → XC cls s t)
    (hf : ∀ z ∈ locs, free z.base) (hc : cells + 1 ≤ mc) (hs : slots + 6 ≤ ms) :
    W p l e R s m args below meth c H locs cells slots (vx_MQ below Qc XC args s mc ms free) (F0 m pc ls rest) := by
  intro T hT X
  have htr : e.platform.stackTraces = false := (show e.platform.stackTraces = l.stackTraces by rw [X.admits.platform]).trans hl
  have Y := vx_rebase X (R' := { frames := R.frames, locals := R.locals, cells := 1, slots := 6 }) (Nat.le_refl _) (Nat.le_refl _) hRcells hRslots
  obtain ⟨s', hA⟩ : ∃ z, z = (T.setVm s.vm).setFrames (.invoking m args :: below) := ⟨_, rfl⟩
  rw [← hA] at Y
  have hvm : s'.vm = s.vm := by rw [hA]; rfl
  have hhp : s'.heap = H := by rw [hA]; exact hT
  have hW0 : s.WarmedH s'.vm := by rw [hvm]; exact State.WarmedH.refl s
  have hat' : ∀ w ∈ vx_atS own ic cls names, w.before args s' = true := fun w hw => vx_ot_at hW0 hvm.symm (hgood w (List.mem_cons_of_mem _ (List.mem_cons_of_mem _ hw))) (hat w hw)
  have hk' : (Cond.classLink own ik cls).before args s' = true := vx_ot_at hW0 hvm.symm (hgood _ List.mem_cons_self) hk
  have hini' : (Cond.initialized cls).before args s' = true := vx_ot_at hW0 hvm.symm (hgood _ (List.mem_cons_of_mem _ List.mem_cons_self)) hini
  have hU' : vx_Zq Bundle.tN "UNASSIGNED_STACK" Bundle.steD A s' s'.heap := by rw [hhp]; exact vx_Zq.moved hW0.alike (hU.kept hS.2.1)
  have hN' : vx_Zq Bundle.tN "SUPPRESSED_SENTINEL" Bundle.listD A s' s'.heap := by rw [hhp]; exact vx_Zq.moved hW0.alike (hN.kept hS.2.1)
  have h : ∀ w ∈ Bundle.ownAtoms own ic cls names, w.before args s' = true := vx_own hat' (vx_isRefq hU'.1) (vx_isRefq hN'.1) hU'.2.word hN'.2.word
  have hown' : s'.vm.findClass own = some m.cls := by rw [hvm]; exact hown
  have hins : (Cond.instantiable cls 6).before args s' = true := h _ (by simp [Bundle.ownAtoms])
  obtain ⟨vm₁, cX, kX, hfX, hkX, -, -, X₁, st1⟩ := Y.newCold hexec (own := own) (C := cls) (index := ik) (n := 6) hown' hk' hins hini'
    (g := F0 m pc ls rest) rfl (by rw [hb]; exact d0) (Nat.le_refl _) (Nat.le_refl _)
  generalize hT1 : (T.setVm vm₁).pushCell { cls := cX, slots := kX.instanceTypes.map defaultValue, vm := .none } = T1 at X₁ st1
  have hcat : (Value.ref T.heap.size).category = 1 := rfl
  have hcellA : T1.heap[T.heap.size]? = some (freshCell cX kX) := by rw [← hT1]; exact State.heap_pushCell_size _ _
  have d3' : decode c.code (pc + 3) = .ok (.dup, 1) := by rw [hb]; exact d3
  have d4' : decode c.code (pc + 4) = .ok (.ldc is, 2) := by rw [hb]; exact d4
  have hstr' : vk_R own is text sa s' := vk_R.warm hW0 hstr
  obtain ⟨U, hsteps, hrun, hend, hW, hsame, ce, hce, hO⟩ := X₁.ctorThrowS hexec htr (own := own) (cls := cls) (names := names) (ic := ic) hown' hcls hnames h (fun x hx => nomatch hx) hfX hkX hcellA (by rw [hhp, hT]; exact Nat.le_refl _) (msg := .ref sa) rfl
    (g := { method := m, pc := pc + 6, locals := ls, stack := .ref sa :: .ref T.heap.size :: .ref T.heap.size :: rest, locked := none }) rfl hsize rfl rfl (rest := rest) rfl
    (by rw [hb]; exact d6) (by rw [hb]; exact d9) hout hRframes (by simp only [List.map_cons, List.sum_cons, hcat]; omega) hlocks
  obtain ⟨f1, f2⟩ := vx_frame hsame
  rw [hhp] at f1 f2
  have hWs : s.WarmedH U.vm := State.WarmedH.trans hW0 hW
  have hcl : s.vm.findClass cls = some ce.cls := by
    have h9 := hO.cls
    rw [hvm] at h9
    exact h9
  have hall : s.sameButNew ({ U with vm := s.vm } : State) locs mc ms := by
    subst hA
    obtain ⟨e1, e2⟩ := hsame
    rw [State.setFrames_setFrames] at e1
    have h2 : (T.setVm s.vm).sameButNew ({ U with vm := s.vm } : State) [] (0 + 1) (0 + 6) := ⟨e1, e2⟩
    have h3 := X.same.trans h2
    rw [List.append_nil] at h3
    exact h3.mono hc hs
  refine ⟨U, ?_, .threw T.heap.size, hrun, hend, Or.inr ⟨T.heap.size, rfl, cls, ce, locs, hx U hWs.alike f1 (fun q hq => f2 q hq (fun z hz => nomatch hz)), hce, hO.vm, hcl, hWs, hall, hf⟩⟩
  refine st1 _ ?_
  show Steps p.tables e below (T1.setTop { method := m, pc := pc + 3, locals := ls, stack := .ref T.heap.size :: rest, locked := none }) _
  jvm_step X₁.here [X₁.here.top, hexec, d3', Value.category]
  exact X₁.ldcString hexec (own := own) (text := text) (index := is) (a := sa) hown' hstr'.1 hstr'.2
    (g := { method := m, pc := pc + 4, locals := ls, stack := .ref T.heap.size :: .ref T.heap.size :: rest, locked := none }) rfl d4' _ hsteps
/-- 'throw new E("text")', the text by a wide index -/
theorem vx_throwSW {cc : ByteArray} {pc : Nat} (hexec : p.tables.exec = Jvm.exec) (hb : c.code = cc) (hl : l.stackTraces = false) {own cls text : String} {names : List String} {ik is ic mc ms sa : Nat} {A : Nat → Prop}
    (hown : s.vm.findClass own = some m.cls) (hcls : Bundle.fit cls = true) (hnames : ∀ n ∈ names, Bundle.fit n = true)
    (hk : (Cond.classLink own ik cls).before args s = true) (hini : (Cond.initialized cls).before args s = true) (hstr : vk_R own is text sa s) (hat : ∀ w ∈ vx_atS own ic cls names, w.before args s = true)
    (hgood : ∀ w ∈ Cond.classLink own ik cls :: Cond.initialized cls :: vx_atS own ic cls names, vx_ot w = true)
    (hU : vx_Zq Bundle.tN "UNASSIGNED_STACK" Bundle.steD A s s.heap) (hN : vx_Zq Bundle.tN "SUPPRESSED_SENTINEL" Bundle.listD A s s.heap) (hS : va_S A s.heap H locs) (hsize : ls.size = c.maxLocals)
    (d0 : decode cc pc = .ok (.new ik, 3)) (d3 : decode cc (pc + 3) = .ok (.dup, 1)) (d4 : decode cc (pc + 4) = .ok (.ldc_w is, 3)) (d7 : decode cc (pc + 7) = .ok (.invokespecial ic, 3)) (d10 : decode cc (pc + 10) = .ok (.athrow, 1))
    (hout : ∀ x ∈ c.exceptionTable.toList, covers x (pc + 10) = false)
    (hRframes : names.length + 3 < R.frames) (hRlocals : (rest.map fun v => v.category).sum + (13 * (names.length + 1) + 43) ≤ R.locals) (hRcells : cells + 1 ≤ R.cells) (hRslots : slots + 6 ≤ R.slots) (hlocks : meth.locks = false)
    (hx : ∀ t : State, s.vm.Alike t.vm → H.size ≤ t.heap.size → (∀ q : Nat, q < H.size → t.heap[q]? = H[q]?) → XC cls s t)
    (hf : ∀ z ∈ locs, free z.base) (hc : cells + 1 ≤ mc) (hs : slots + 6 ≤ ms) :
    W p l e R s m args below meth c H locs cells slots (vx_MQ below Qc XC args s mc ms free) (F0 m pc ls rest) := by
  intro T hT X
  have htr : e.platform.stackTraces = false := (show e.platform.stackTraces = l.stackTraces by rw [X.admits.platform]).trans hl
  have Y := vx_rebase X (R' := { frames := R.frames, locals := R.locals, cells := 1, slots := 6 }) (Nat.le_refl _) (Nat.le_refl _) hRcells hRslots
  obtain ⟨s', hA⟩ : ∃ z, z = (T.setVm s.vm).setFrames (.invoking m args :: below) := ⟨_, rfl⟩
  rw [← hA] at Y
  have hvm : s'.vm = s.vm := by rw [hA]; rfl
  have hhp : s'.heap = H := by rw [hA]; exact hT
  have hW0 : s.WarmedH s'.vm := by rw [hvm]; exact State.WarmedH.refl s
  have hat' : ∀ w ∈ vx_atS own ic cls names, w.before args s' = true := fun w hw => vx_ot_at hW0 hvm.symm (hgood w (List.mem_cons_of_mem _ (List.mem_cons_of_mem _ hw))) (hat w hw)
  have hk' : (Cond.classLink own ik cls).before args s' = true := vx_ot_at hW0 hvm.symm (hgood _ List.mem_cons_self) hk
  have hini' : (Cond.initialized cls).before args s' = true := vx_ot_at hW0 hvm.symm (hgood _ (List.mem_cons_of_mem _ List.mem_cons_self)) hini
  have hU' : vx_Zq Bundle.tN "UNASSIGNED_STACK" Bundle.steD A s' s'.heap := by rw [hhp]; exact vx_Zq.moved hW0.alike (hU.kept hS.2.1)
  have hN' : vx_Zq Bundle.tN "SUPPRESSED_SENTINEL" Bundle.listD A s' s'.heap := by rw [hhp]; exact vx_Zq.moved hW0.alike (hN.kept hS.2.1)
  have h : ∀ w ∈ Bundle.ownAtoms own ic cls names, w.before args s' = true := vx_own hat' (vx_isRefq hU'.1) (vx_isRefq hN'.1) hU'.2.word hN'.2.word
  have hown' : s'.vm.findClass own = some m.cls := by rw [hvm]; exact hown
  have hins : (Cond.instantiable cls 6).before args s' = true := h _ (by simp [Bundle.ownAtoms])
  obtain ⟨vm₁, cX, kX, hfX, hkX, -, -, X₁, st1⟩ := Y.newCold hexec (own := own) (C := cls) (index := ik) (n := 6) hown' hk' hins hini'
    (g := F0 m pc ls rest) rfl (by rw [hb]; exact d0) (Nat.le_refl _) (Nat.le_refl _)
  generalize hT1 : (T.setVm vm₁).pushCell { cls := cX, slots := kX.instanceTypes.map defaultValue, vm := .none } = T1 at X₁ st1
  have hcat : (Value.ref T.heap.size).category = 1 := rfl
  have hcellA : T1.heap[T.heap.size]? = some (freshCell cX kX) := by rw [← hT1]; exact State.heap_pushCell_size _ _
  have d3' : decode c.code (pc + 3) = .ok (.dup, 1) := by rw [hb]; exact d3
  have d4' : decode c.code (pc + 4) = .ok (.ldc_w is, 3) := by rw [hb]; exact d4
  have hstr' : vk_R own is text sa s' := vk_R.warm hW0 hstr
  obtain ⟨U, hsteps, hrun, hend, hW, hsame, ce, hce, hO⟩ := X₁.ctorThrowS hexec htr (own := own) (cls := cls) (names := names) (ic := ic) hown' hcls hnames h (fun x hx => nomatch hx) hfX hkX hcellA (by rw [hhp, hT]; exact Nat.le_refl _) (msg := .ref sa) rfl
    (g := { method := m, pc := pc + 7, locals := ls, stack := .ref sa :: .ref T.heap.size :: .ref T.heap.size :: rest, locked := none }) rfl hsize rfl rfl (rest := rest) rfl
    (by rw [hb]; exact d7) (by rw [hb]; exact d10) hout hRframes (by simp only [List.map_cons, List.sum_cons, hcat]; omega) hlocks
  obtain ⟨f1, f2⟩ := vx_frame hsame
  rw [hhp] at f1 f2
  have hWs : s.WarmedH U.vm := State.WarmedH.trans hW0 hW
  have hcl : s.vm.findClass cls = some ce.cls := by
    have h9 := hO.cls
    rw [hvm] at h9
    exact h9
  have hall : s.sameButNew ({ U with vm := s.vm } : State) locs mc ms := by
    subst hA
    obtain ⟨e1, e2⟩ := hsame
    rw [State.setFrames_setFrames] at e1
    have h2 : (T.setVm s.vm).sameButNew ({ U with vm := s.vm } : State) [] (0 + 1) (0 + 6) := ⟨e1, e2⟩
    have h3 := X.same.trans h2
    rw [List.append_nil] at h3
    exact h3.mono hc hs
  refine ⟨U, ?_, .threw T.heap.size, hrun, hend, Or.inr ⟨T.heap.size, rfl, cls, ce, locs, hx U hWs.alike f1 (fun q hq => f2 q hq (fun z hz => nomatch hz)), hce, hO.vm, hcl, hWs, hall, hf⟩⟩
  refine st1 _ ?_
  show Steps p.tables e below (T1.setTop { method := m, pc := pc + 3, locals := ls, stack := .ref T.heap.size :: rest, locked := none }) _
  jvm_step X₁.here [X₁.here.top, hexec, d3', Value.category]
  exact X₁.ldcStringW hexec (own := own) (text := text) (index := is) (a := sa) hown' hstr'.1 hstr'.2
    (g := { method := m, pc := pc + 4, locals := ls, stack := .ref T.heap.size :: .ref T.heap.size :: rest, locked := none }) rfl d4' _ hsteps
end Ends
section Bodies
variable {l : Launch}
theorem vx_ofW {y : MethodName} {ws ws' : List Cond} {rm : Room} {Pc : Array Value → State → Prop} {Qc : Array Value → State → Outcome → State → Prop} {XC : String → State → State → Prop} {mc ms : Nat} {free : Addr → Prop} {cc : ByteArray} {maxL : Nat} {ret : Option FieldType}
    (hy : plainName y.cls = true) (hw : ws = Cond.code y cc maxL ret :: ws')
    (body : ∀ p e s m args below meth c s₁, BodyLoose p l y (headSpec ws rm) cc maxL ret e s m args below meth c s₁ → c.maxLocals = maxL → (∀ x ∈ c.exceptionTable.toList, False) → Pc args s →
      W p l e (headSpec ws rm).room s m args below meth c s.heap [] 0 0 (vx_MQ below Qc XC args s mc ms free) (entryFrame m args maxL)) : vx_Met l y ws rm Pc Qc XC mc ms free := by
  refine MetFree.of_bodyS (code := cc) (maxLocals := maxL) (ret := ret) hy ?_ ?_
  · intro args s m h hn
    obtain ⟨meth, c, h1, h2, h3, h4, h5, h6, -, -⟩ := Cond.code_spec hn (atoms_spec (ws := ws) h _ (by rw [hw]; exact List.mem_cons_self))
    exact ⟨meth, c, h1, h2, h3, h4, h5, h6⟩
  · intro p e s m args below meth c s₁ B hml hP _
    have hh0 : s₁.heap = s.heap := by rw [B.state]; rfl
    have ht : ∀ x ∈ c.exceptionTable.toList, False := by
      obtain ⟨meth9, c9, h1, h2, -, -, -, -, h7, -⟩ := Cond.code_spec B.named (atoms_spec (ws := ws) B.pre _ (by rw [hw]; exact List.mem_cons_self))
      cases Option.some.inj (h1.symm.trans B.method)
      cases Option.some.inj (h2.symm.trans (Stand.of_body B).code)
      intro x hx
      rw [Array.isEmpty_iff.mp h7] at hx
      cases hx
    obtain ⟨t, a1, o, b1, b2, b3⟩ := body p e s m args below meth c s₁ B hml ht hP s₁ hh0 (Stand.of_body B)
    exact ⟨t, o, a1, b1, b2, b3⟩
/-- the table of a body with handlers -/
theorem vx_table {p : Program} {x y : MethodName} {S : Spec} {cc bytes : ByteArray} {maxL maxL' : Nat} {ret ret' : Option FieldType} {e : Env} {s s₁ : State} {m : MethodId} {args : Array Value} {below : List Frame} {meth : Method} {c : Code} {hh : List (Nat × Nat × Nat × Nat)}
    (B : BodyLoose p l y S cc maxL ret e s m args below meth c s₁) (h : (Cond.codeWith y bytes maxL' ret' hh).before args s = true) : c.exceptionTable.toList = tableOf hh := by
  obtain ⟨m9, meth9, c9, hn9, h1, h2, -, -, h6, -⟩ := Cond.codeWith_spec h
  cases Option.some.inj (hn9.symm.trans B.named)
  cases Option.some.inj (h1.symm.trans B.method)
  cases Option.some.inj (h2.symm.trans (Stand.of_body B).code)
  rw [← h6, table_eq]
end Bodies
end VXA
/-! ===== END ===== -/
/-! ===== BEGIN a static call of a method with an exception table ===== -/
section VXS
variable {p : Program} {l : Launch} {e : Env} {R : Room} {s : State} {m : MethodId} {args : Array Value} {below : List Frame} {meth : Method} {c : Code} {T : State} {H : Heap} {locs : List Loc} {cells slots : Nat}
abbrev vx_CSW (R : Room) (s : State) (args : Array Value) (own : String) (index : Nat) (y : MethodName) (bytes : ByteArray) (maxL : Nat) (ret : Option FieldType) (hh : List (Nat × Nat × Nat × Nat)) (ws : List Cond) (rm : Room) (mc ms n : Nat) : Prop :=
  (rm.cells = mc ∧ rm.slots = ms ∧ rm.frames + 1 ≤ R.frames ∧ 8 + (maxL + 11) + rm.locals ≤ R.locals ∧ (∀ w ∈ ws, ∀ (a' : Array Value) (U : State), s.WarmedH U.vm → w.before a' U = true) ∧ Cond.codeWith y bytes maxL ret hh ∈ ws) ∧
  (Cond.codeWith y bytes maxL ret hh).before args s = true ∧ (Cond.initialized y.cls).before args s = true ∧ (y.cls ≠ "java/lang/invoke/MethodHandle" ∧ y.cls ≠ "java/lang/invoke/VarHandle") ∧
  (∀ sig, parseMethodDescriptor y.desc = some sig → n = sig.parameters.length) ∧ (Cond.methodLink own index y).before args s = true ∧ (Cond.static y).before args s = true
theorem vx_cwSW {own : String} {index maxL mc ms : Nat} {y : MethodName} {bytes : ByteArray} {ret : Option FieldType} {hh : List (Nat × Nat × Nat × Nat)} {Ts ws ws' : List Cond} {rm : Room} (n : Nat) (ht : ∀ w ∈ Ts, w.before args s = true) (hT : GoodIn Ts (va_wsS own index y ws)) (hw : ws = Cond.codeWith y bytes maxL ret hh :: ws') (hrc : rm.cells = mc) (hrs : rm.slots = ms)
    (hd : y.cls ≠ "java/lang/invoke/MethodHandle" ∧ y.cls ≠ "java/lang/invoke/VarHandle" ∧ (parseMethodDescriptor y.desc).map (fun d => d.parameters.length) = some n) (hR : rm.frames + 1 ≤ R.frames ∧ 8 + (maxL + 11) + rm.locals ≤ R.locals) :
    vx_CSW R s args own index y bytes maxL ret hh ws rm mc ms n := by
  have ok : ∀ w ∈ va_wsS own index y ws, w.before args s = true := fun w h => ht w (hT w h).1
  have hG : GoodIn Ts ws := fun w h => hT w (by unfold va_wsS; exact List.mem_append_right _ h)
  have hc : Cond.codeWith y bytes maxL ret hh ∈ ws := by rw [hw]; exact List.mem_cons_self
  refine ⟨⟨hrc, hrs, hR.1, hR.2, pay_in ht hG, hc⟩, ht _ (hG _ hc).1, ok _ (by simp [va_wsS]), ⟨hd.1, hd.2.1⟩, fun sig h => ?_, ok _ (by simp [va_wsS]), ok _ (by simp [va_wsS])⟩
  have h2 := hd.2.2
  rw [h] at h2
  exact (Option.some.inj h2).symm
theorem vx_callSW (X : Stand p l e R s m args below meth c T locs cells slots) (hexec : p.tables.exec = Jvm.exec) {own : String} {index : Nat} {y : MethodName} {bytes : ByteArray} {maxL : Nat} {ret : Option FieldType} {hh : List (Nat × Nat × Nat × Nat)}
    (hown : s.vm.findClass own = some m.cls) (hlink : (Cond.methodLink own index y).before args s = true) (hstat : (Cond.static y).before args s = true) (hinit : (Cond.initialized y.cls).before args s = true)
    (hcode : (Cond.codeWith y bytes maxL ret hh).before args s = true) (hy : y.cls ≠ "java/lang/invoke/MethodHandle" ∧ y.cls ≠ "java/lang/invoke/VarHandle")
    {W9 : Nat} {Pre : Pt → Array Value → Prop} {Post : Pt → Array Value → Option Value → Pt → Prop} (hK : Back l R p e below s args y 3 W9 Pre Post)
    {g : JFrame} (hg : g.method = m) (hsize : g.locals.size = c.maxLocals) {argsL rest : List Value} (hlen : ∀ sig, parseMethodDescriptor y.desc = some sig → argsL.length = sig.parameters.length)
    (hstack : g.stack = argsL.reverse ++ rest) (hW : 2 * g.monitorRoom + (rest.map fun v => v.category).sum ≤ W9) (hdg : decode c.code g.pc = .ok (.invokestatic index, 3))
    (hpre : ∀ vm₁, s.WarmedH vm₁ → Pre ⟨T.setVm vm₁, locs, cells, slots⟩ argsL.toArray) :
    ∃ (v : Option Value) (vm₁ : Vm) (B : Pt), s.WarmedH vm₁ ∧ Stand p l e R s m args below meth c B.U B.locs B.cells B.slots ∧ Post ⟨T.setVm vm₁, locs, cells, slots⟩ argsL.toArray v B ∧
      ∀ target, Steps p.tables e below (B.U.setTop { g with pc := g.pc + 3, stack := v.toList ++ rest }) target → Steps p.tables e below (T.setTop g) target := by
  obtain ⟨mk, methM, cM, hnamed, hmethM, -, -, -, -, -, -, hsigM⟩ := Cond.codeWith_spec hcode
  have hstatic : methM.isStatic = true := Cond.static_spec hnamed hmethM hstat
  obtain ⟨kP, hkP, -⟩ := className_of_methodNamed hnamed
  have hinitP : kP.init = .initialized := Cond.initialized_spec (findClass_of_methodNamed hnamed) hkP hinit
  obtain ⟨vm₁, X₁, hstep₁⟩ := X.invokestatic hexec hown hlink hnamed hmethM hstatic hkP hinitP hy (g := g) hg (argsL := argsL) (rest := rest) (hlen _ hsigM) hstack hdg
  obtain ⟨v, B, X', hpost, hsteps⟩ := hK m meth c ⟨T.setVm vm₁, locs, cells, slots⟩ { g with stack := rest } (.invokestatic index) mk argsL.toArray X₁ hg hsize hdg hW (X₁.named hnamed) (hpre vm₁ X₁.warmed)
  exact ⟨v, vm₁, B, X₁.warmed, X', hpost, fun target h => hstep₁ _ fun acts => by rw [doInvoke_state]; exact hsteps.trans h⟩
theorem vx_runSW {y : MethodName} {bytes cc : ByteArray} {maxL nL mc ms n index : Nat} {ret : Option FieldType} {hh : List (Nat × Nat × Nat × Nat)} {ws : List Cond} {rm : Room} {Pc : Array Value → State → Prop} {Qc : Array Value → State → Outcome → State → Prop} {free : Addr → Prop} {Ts : List Cond} {own : String} {As rest : List Value} {g : JFrame}
    (S : CallFix p m c cc nL s args Ts own) (hM : Met l y ws rm Pc Qc mc ms free) (cw : vx_CSW R s args own index y bytes maxL ret hh ws rm mc ms n) (hp : PreS s H Pc As)
    (hg : g.method = m) (hn : As.length = n) (hsize : g.locals.size = nL) (hstack : g.stack = As.reverse ++ rest) (hW : 2 * g.monitorRoom + (rest.map fun v => v.category).sum ≤ 8) (hdg : decode cc g.pc = .ok (.invokestatic index, 3)) (hf : cells + mc ≤ R.cells ∧ slots + ms ≤ R.slots) :
    va_Run p l e R s m args below meth c H locs cells slots mc ms g rest (Qc As.toArray) (free) := by
  obtain ⟨⟨hrc, hrs, hfr, hlo, hws, hcw⟩, hcode, hini, hy, hlen, hl, hstt⟩ := cw
  have hK : Back l R p e below s args y 3 8 (PreOf R mc ms Pc) (PostOf Qc mc ms free) := va_backW (hh := hh) (bytes := bytes) (maxL := maxL) (ret := ret) hM hp.1 hrc hrs hfr hlo hws hcw (fun a' U hW => word_at hW (Or.inl (by first | rfl | simp [Cond.onTables, Cond.keeps, Cond.steady])) hini)
  obtain ⟨hx, hb, hml, ho, -⟩ := S
  intro T hT X
  obtain ⟨v, vm₁, ⟨U', l2, c2, s2⟩, hW₁, X', ⟨g', mk, t, L, e1, e2, hq, h1, hL, h2, h3⟩, st⟩ := vx_callSW X hx (hh := hh) (bytes := bytes) (maxL := maxL) (ret := ret) ho hl hstt hini hcode hy hK hg (hsize.trans hml.symm) (argsL := As) (rest := rest) (fun sig h => hn.trans (hlen sig h)) hstack hW (by rw [hb]; exact hdg)
    (fun vm₁ hW₁ => ⟨hf.1, hf.2, hp.2 (T.setVm vm₁) hT hW₁⟩)
  dsimp only [Pt.U, Pt.locs, Pt.cells, Pt.slots] at X' e1 e2 h1 h2 h3 st
  subst h1; subst h2; subst h3
  exact ⟨v, (T.setVm vm₁).calling g' mk As.toArray, t, U', L, hT, X', hL, e1, e2, hq, st⟩
/-- not caught here, past rows that name other classes: it goes on to the caller -/
theorem vx_outP {p : Program} {l : Launch} {e : Env} {R : Room} {s : State} {m : MethodId} {args : Array Value} {below : List Frame} {meth : Method} {c : Code} {H : Heap} {locs : List Loc} {cells slots : Nat} {free : Addr → Prop} {ls : Array Slot} {rest : List Value} {Qc : Array Value → State → Outcome → State → Prop} {XC : String → State → State → Prop}
    {pc : Nat} {own E : String} {ce : Cell} {q : Addr} {mc ms : Nat} (hown : s.vm.findClass own = some m.cls) (hlocks : meth.locks = false)
    (hpass : ∀ z ∈ c.exceptionTable.toList, covers z pc = false ∨ (z.catchType ≠ 0 ∧ ∃ nm : String, (Cond.classLink own z.catchType nm).before args s = true ∧ va_Nc E nm s)) (hcell : H[q]? = some ce) (hv : ce.vm = .none) (hcl : s.vm.findClass E = some ce.cls)
    (hx : ∀ t : State, t.heap = H → s.vm.Alike t.vm → XC E s t) (hf : ∀ z ∈ locs, free z.base) (hc : cells ≤ mc) (hs : slots ≤ ms) :
    vx_W p l e R s m args below meth c H locs cells slots (vx_MQ below Qc XC args s mc ms free) (F0 m pc ls rest) q := by
  intro T hT X
  have hpl : e.platform.magicAccessors = ({} : Platform).magicAccessors := by rw [X.admits.platform]
  obtain ⟨vm', hW', X', st⟩ := X.outThrough hlocks q (g := F0 m pc ls rest) rfl rfl rfl (cell := ce) (by rw [hT]; exact hcell) (by rw [hv]; rfl)
    (by obtain ⟨k9, h9, -⟩ := Vm.findClass_spec hcl; exact ⟨k9, h9⟩) (fun z hz => by
      rcases hpass z hz with h | ⟨hz0, nm, hl1, hn1⟩
      · exact Or.inl h
      · obtain ⟨c6, hc6, hcl6⟩ := Cond.classLink_spec hown hl1 e.platform hpl
        obtain ⟨a8, b8, h1, h2, h3⟩ := hn1
        cases Option.some.inj (h1.symm.trans hcl)
        cases Option.some.inj (h2.symm.trans hc6)
        exact Or.inr ⟨hz0, _, hcl6, h3⟩)
  obtain ⟨g₀, hfr⟩ := X'.frames_eq
  have hcell9 : ((T.setVm vm').setFrames (.throwing q :: below)).heap[q]? = some ce := by
    show T.heap[q]? = some ce
    rw [hT]; exact hcell
  have hend : Ended ((T.setVm vm').setFrames (.throwing q :: below)) below (.threw q) := State.frames_setFrames _ (State.cur_lt_of_frames hfr)
  refine ⟨(T.setVm vm').setFrames (.throwing q :: below), ?_, .threw q, X'.here.running, hend, Or.inr ⟨q, rfl, E, ce, locs, hx _ hT (X'.ends _).1.alike, hcell9, hv, hcl, (X'.ends _).1, (X'.ends _).2.mono hc hs, hf⟩⟩
  rw [X.pushThrowing_eq]
  exact st
/-- a thing of a world lies in the heap -/
theorem vx_lt {D : va_G} {cl : List vw_C} {ws : va_W} {H1 : Heap} (h : va_P D cl ws H1) {k : Nat} {q : Nat × va_E} (hk : ws[k]? = some q) : q.1 < H1.size := (h k q hk).lt
end VXS
/-! ===== END ===== -/
/-! ===== BEGIN methods with a table of their own: called by a name, returning or throwing ===== -/
section VXH
/-! vx_backW, vx_callVX, vx_callSX, vx_callVW, vx_runVW, vx_runVX, vx_runSX, vx_ofWH follow the same proofs as their sisters above (Free/Laws.lean, Shelf42/LK1.lean); vx_outP calls Shelf42/NT130.lean (outThrough). -/
section
variable {l : Launch} {R : Room} {p : Program} {e : Env} {below : List Frame} {s : State} {sargs : Array Value} {y : MethodName} {len W9 : Nat}
theorem vx_backW {ws : List Cond} {rm : Room} {Pc : Array Value → State → Prop} {Qc : Array Value → State → Outcome → State → Prop} {XC : String → State → State → Prop} {mc ms : Nat} {free : Addr → Prop} {bytes : ByteArray} {maxL : Nat} {ret : Option FieldType} {hh : List (Nat × Nat × Nat × Nat)}
    (hM : vx_Met l y ws rm Pc Qc XC mc ms free) (hblind : FrameBlind Pc) (hrc : rm.cells = mc) (hrs : rm.slots = ms)
    (hframes : rm.frames + 1 ≤ R.frames) (hlocals : W9 + (maxL + 11) + rm.locals ≤ R.locals)
    (hws : ∀ w ∈ ws, ∀ a' U, s.WarmedH U.vm → w.before a' U = true) (hcode : Cond.codeWith y bytes maxL ret hh ∈ ws) (hinit : ∀ a' U, s.WarmedH U.vm → (Cond.initialized y.cls).before a' U = true) :
    vx_Back l R p e below s sargs y len W9 (PreOf R mc ms Pc) (PostOf Qc mc ms free) (vx_Post XC mc ms free) := by
  intro m meth c A g ig mk a X hg hsize hdg hW hn hp
  have h1 : (headSpec ws rm).pre.before a A.U = true := atoms_intro fun w hw => hws w hw _ _ X.warmed
  have h2 : (Cond.codeWith y bytes maxL ret hh).before a A.U = true := hws _ hcode _ _ X.warmed
  have h3 : (Cond.initialized y.cls).before a A.U = true := hinit _ _ X.warmed
  have h4 : A.cells + (headSpec ws rm).room.cells ≤ R.cells := by rw [show (headSpec ws rm).room.cells = mc from hrc]; exact hp.1
  have h5 : A.slots + (headSpec ws rm).room.slots ≤ R.slots := by rw [show (headSpec ws rm).room.slots = ms from hrs]; exact hp.2.1
  have hPc : Pc a (A.U.calling g mk a) := hblind _ _ _ _ hp.2.2
  obtain ⟨U, Ls, c0, s0⟩ := A
  dsimp only [Pt.U, Pt.locs, Pt.cells, Pt.slots] at h1 h2 h3 h4 h5 X hn hPc ⊢
  obtain ⟨m9, methY, cY, hn9, hmY, hcY, -, hlY, -⟩ := Cond.codeWith_spec h2
  cases Option.some.inj (hn9.symm.trans hn)
  obtain ⟨kY, hkY, -⟩ := className_of_methodNamed hn
  have hinitY : kY.init = .initialized := Cond.initialized_spec (findClass_of_methodNamed hn) hkY h3
  have h : At U g.method c below := by rw [hg]; exact X.here
  have hlocals9 : W9 + (maxL + 11) + (headSpec ws rm).room.locals ≤ R.locals := hlocals
  have happ : (headSpec ws rm).appliesLoose y e.platform (U.calling g mk a) = true :=
    Spec.appliesLoose_calling (g := g) h hdg hn hkY hinitY
      (X.room_calling (g := g) (R' := (headSpec ws rm).room) hsize hmY hcY hframes (by rw [hlY]; omega) h4 h5) h1
  obtain ⟨mid, hmid⟩ := h.above
  have hfr : (U.setTop g).frames = (.java g :: mid) ++ below := by rw [State.frames_setTop' g h.top, hmid]; rfl
  obtain ⟨o, s₂, hsteps, -, hend, hq⟩ := Steps.callFree hM p X.admits X.cas X.clock (acts := []) hfr happ hPc trivial
  have hq' : vx_Q Qc XC mc ms free a (U.calling g mk a) o s₂ := hq
  rw [State.frames_setTop' g h.top] at hend
  obtain ⟨g₀, hg0⟩ := Option.isSome_iff_exists.mp h.top
  obtain ⟨r, hr⟩ := State.topJava?_eq_some.mp hg0
  have hr' : (({ U with heap := s₂.heap, slotsUsed := s₂.slotsUsed } : State).setVm s₂.vm).frames = .java g₀ :: r := hr
  rcases hq' with ⟨hqc, L, hfe, hL⟩ | ⟨q, rfl, E, ce, L, hx, hce, hcv, hcl, hW₂, hsm, hL⟩
  · obtain ⟨⟨v, rfl⟩, hW₂, e2, q2, q3, q4, q5, q6⟩ := id hfe
    have e3 : s₂ = ({ (U.calling g mk a).setFrames s₂.frames with heap := s₂.heap, slotsUsed := s₂.slotsUsed } : State).setVm s₂.vm := by
      have : s₂ = ({ s₂ with vm := (U.calling g mk a).vm } : State).setVm s₂.vm := rfl
      rw [e2] at this
      exact this
    obtain ⟨c₂, i₂, len₂, hc₂, hd₂, hf₂⟩ := hend
    have hW' : U.WarmedH s₂.vm := hW₂
    have hcc : c₂ = c := by
      have h1 : s₂.code? g.method = U.code? g.method := by
        rw [State.code?_eq, State.code?_eq, hW'.alike.method?]
      exact Option.some.inj (hc₂.symm.trans (h1.trans h.code))
    subst hcc
    have hlen : len₂ = len := by rw [hdg] at hd₂; cases hd₂; rfl
    subst hlen
    have hs₂ : s₂ = (({ U with heap := s₂.heap, slotsUsed := s₂.slotsUsed } : State).setVm s₂.vm).setTop { g with pc := g.pc + len₂, stack := v.toList ++ g.stack } := by
      refine e3.trans ?_
      rw [hf₂, State.calling_eq h.top, State.setFrames_setFrames, State.setTop_of_frames _ hr', hr]
      rfl
    have hsame : U.sameButNew ({ U with heap := s₂.heap, slotsUsed := s₂.slotsUsed } : State) L mc ms := by
      refine ⟨?_, q2, q3, q4, q5, q6⟩
      obtain ⟨t, ht, -⟩ := State.frames_cons hr
      show ({ U with heap := s₂.heap, slotsUsed := s₂.slotsUsed } : State) = { U.setFrames U.frames with heap := s₂.heap, slotsUsed := s₂.slotsUsed }
      rw [State.setFrames_self ht]
    subst hg
    refine Or.inl ⟨v, ⟨(({ U with heap := s₂.heap, slotsUsed := s₂.slotsUsed } : State).setVm s₂.vm), Ls ++ L, c0 + mc, s0 + ms⟩,
      ⟨X.admits, X.cas, X.clock, X.frames, X.room, X.hears, X.method, X.code, (X.here.setHeapUsed s₂.heap s₂.slotsUsed).setVm hW'.alike, X.tail, State.WarmedH.trans X.warmed hW', X.limits, X.bytes, X.same.trans (hsame.setVm s.vm)⟩,
      ⟨g, mk, s₂, L, rfl, rfl, hqc, rfl, hL, rfl, rfl⟩, ?_⟩
    show Steps p.tables e below _ ((({ U with heap := s₂.heap, slotsUsed := s₂.slotsUsed } : State).setVm s₂.vm).setTop { g with pc := g.pc + len₂, stack := v.toList ++ g.stack })
    rw [← hs₂]
    exact hsteps
  · obtain ⟨e2, q2, q3, q4, q5, q6⟩ := id hsm
    have e3 : s₂ = ({ (U.calling g mk a).setFrames s₂.frames with heap := s₂.heap, slotsUsed := s₂.slotsUsed } : State).setVm s₂.vm := by
      have : s₂ = ({ s₂ with vm := (U.calling g mk a).vm } : State).setVm s₂.vm := rfl
      rw [e2] at this
      exact this
    have hf₂ : s₂.frames = .throwing q :: .java g :: U.frames.tail := hend
    have hW' : U.WarmedH s₂.vm := hW₂
    have hs₂ : s₂ = ((({ U with heap := s₂.heap, slotsUsed := s₂.slotsUsed } : State).setVm s₂.vm).setTop g).pushFrame (.throwing q) := by
      refine e3.trans ?_
      rw [hf₂, State.calling_eq h.top, State.setFrames_setFrames, State.pushFrame, State.frames_setTop _ hr', State.setTop_of_frames _ hr', State.setFrames_setFrames, hr]
      rfl
    have hsame : U.sameButNew ({ U with heap := s₂.heap, slotsUsed := s₂.slotsUsed } : State) L mc ms := by
      refine ⟨?_, q2, q3, q4, q5, q6⟩
      obtain ⟨t, ht, -⟩ := State.frames_cons hr
      show ({ U with heap := s₂.heap, slotsUsed := s₂.slotsUsed } : State) = { U.setFrames U.frames with heap := s₂.heap, slotsUsed := s₂.slotsUsed }
      rw [State.setFrames_self ht]
    subst hg
    refine Or.inr ⟨q, ⟨(({ U with heap := s₂.heap, slotsUsed := s₂.slotsUsed } : State).setVm s₂.vm), Ls ++ L, c0 + mc, s0 + ms⟩,
      ⟨X.admits, X.cas, X.clock, X.frames, X.room, X.hears, X.method, X.code, (X.here.setHeapUsed s₂.heap s₂.slotsUsed).setVm hW'.alike, X.tail, State.WarmedH.trans X.warmed hW', X.limits, X.bytes, X.same.trans (hsame.setVm s.vm)⟩,
      ⟨g, mk, s₂, L, E, ce, rfl, rfl, hx, hce, hcv, hcl, rfl, hL, rfl, rfl⟩, ?_⟩
    show Steps p.tables e below _ (((({ U with heap := s₂.heap, slotsUsed := s₂.slotsUsed } : State).setVm s₂.vm).setTop g).pushFrame (.throwing q))
    rw [← hs₂]
    exact hsteps
end
variable {p : Program} {l : Launch} {e : Env} {R : Room} {s : State} {m : MethodId} {args : Array Value} {below : List Frame} {meth : Method} {c : Code} {T : State} {H : Heap} {locs : List Loc} {cells slots : Nat}
theorem vx_callVX (X : Stand p l e R s m args below meth c T locs cells slots) (hexec : p.tables.exec = Jvm.exec) {own C : String} {index : Nat} {y : MethodName} {bytes : ByteArray} {maxL : Nat} {ret : Option FieldType} {hh : List (Nat × Nat × Nat × Nat)}
    (hown : s.vm.findClass own = some m.cls) (hlink : (Cond.methodLink own index y).before args s = true) (hinst : (Cond.instanceMethod y).before args s = true) (hsel : (Cond.selects C y y).before args s = true)
    (hcode : (Cond.codeWith y bytes maxL ret hh).before args s = true) (hy : y.cls ≠ "java/lang/invoke/MethodHandle" ∧ y.cls ≠ "java/lang/invoke/VarHandle")
    {W9 : Nat} {Pre : Pt → Array Value → Prop} {Post : Pt → Array Value → Option Value → Pt → Prop} {PostX : Pt → Array Value → Addr → Pt → Prop} (hK : vx_Back l R p e below s args y 3 W9 Pre Post PostX)
    {b : Addr} {cellB : Cell} (hcell : T.heap[b]? = some cellB) (hobj : cellB.vm.isStatics = false) (hcls : s.vm.findClass C = some cellB.cls)
    {g : JFrame} (hg : g.method = m) (hsize : g.locals.size = c.maxLocals) {argsL rest : List Value} (hlen : ∀ sig, parseMethodDescriptor y.desc = some sig → argsL.length = sig.parameters.length)
    (hstack : g.stack = argsL.reverse ++ .ref b :: rest) (hW : 2 * g.monitorRoom + (rest.map fun v => v.category).sum ≤ W9) (hdg : decode c.code g.pc = .ok (.invokevirtual index, 3))
    (hpre : ∀ vm₁, s.WarmedH vm₁ → Pre ⟨T.setVm vm₁, locs, cells, slots⟩ (Value.ref b :: argsL).toArray) :
    (∃ (v : Option Value) (vm₁ : Vm) (B : Pt), s.WarmedH vm₁ ∧ Stand p l e R s m args below meth c B.U B.locs B.cells B.slots ∧ Post ⟨T.setVm vm₁, locs, cells, slots⟩ (Value.ref b :: argsL).toArray v B ∧
      ∀ target, Steps p.tables e below (B.U.setTop { g with pc := g.pc + 3, stack := v.toList ++ rest }) target → Steps p.tables e below (T.setTop g) target) ∨
    (∃ (q : Addr) (vm₁ : Vm) (B : Pt), s.WarmedH vm₁ ∧ Stand p l e R s m args below meth c B.U B.locs B.cells B.slots ∧ PostX ⟨T.setVm vm₁, locs, cells, slots⟩ (Value.ref b :: argsL).toArray q B ∧
      Steps p.tables e below (T.setTop g) ((B.U.setTop { g with stack := rest }).pushFrame (.throwing q))) := by
  obtain ⟨mk, methM, hnamed, hmethM, hstM, habM⟩ := Cond.instanceMethod_spec hinst
  obtain ⟨m8, methM', cM, hn8, hmethM', -, -, -, -, -, -, hsigM⟩ := Cond.codeWith_spec hcode
  cases Option.some.inj (hn8.symm.trans hnamed)
  cases hmethM.symm.trans hmethM'
  obtain ⟨c2, r2, m2, q1, q2, q3, q4, kP, hkP, hkPi⟩ := Cond.selects_spec hsel
  cases hcls.symm.trans q1
  cases (State.methodFound?_of_named hnamed hy).symm.trans q2
  cases hnamed.symm.trans q3
  have hselP : selectMethod e.platform s.vm cellB.cls mk = .method mk := by rw [Launch.admits_selectMethod X.admits]; exact q4
  obtain ⟨vm₁, X₁, hstep₁⟩ := X.invokevirtual hexec hown hlink hnamed hmethM hstM hkP hkPi hy (a := b) (cell := cellB) hcell
    (fun z h => by rw [h] at hobj; cases hobj) hselP hmethM habM hkP hkPi (g := g) hg (argsL := argsL) (rest := rest) (hlen _ hsigM) hstack hdg
  rcases hK m meth c ⟨T.setVm vm₁, locs, cells, slots⟩ { g with stack := rest } (.invokevirtual index) mk (Value.ref b :: argsL).toArray X₁ hg hsize hdg hW (X₁.named hnamed) (hpre vm₁ X₁.warmed) with ⟨v, B, X', hpost, hsteps⟩ | ⟨q, B, X', hpost, hsteps⟩
  · exact Or.inl ⟨v, vm₁, B, X₁.warmed, X', hpost, fun target h => hstep₁ _ fun acts => by rw [doInvoke_state]; exact hsteps.trans h⟩
  · exact Or.inr ⟨q, vm₁, B, X₁.warmed, X', hpost, hstep₁ _ fun acts => by rw [doInvoke_state]; exact hsteps⟩
theorem vx_callSX (X : Stand p l e R s m args below meth c T locs cells slots) (hexec : p.tables.exec = Jvm.exec) {own : String} {index : Nat} {y : MethodName} {bytes : ByteArray} {maxL : Nat} {ret : Option FieldType} {hh : List (Nat × Nat × Nat × Nat)}
    (hown : s.vm.findClass own = some m.cls) (hlink : (Cond.methodLink own index y).before args s = true) (hstat : (Cond.static y).before args s = true) (hinit : (Cond.initialized y.cls).before args s = true)
    (hcode : (Cond.codeWith y bytes maxL ret hh).before args s = true) (hy : y.cls ≠ "java/lang/invoke/MethodHandle" ∧ y.cls ≠ "java/lang/invoke/VarHandle")
    {W9 : Nat} {Pre : Pt → Array Value → Prop} {Post : Pt → Array Value → Option Value → Pt → Prop} {PostX : Pt → Array Value → Addr → Pt → Prop} (hK : vx_Back l R p e below s args y 3 W9 Pre Post PostX)
    {g : JFrame} (hg : g.method = m) (hsize : g.locals.size = c.maxLocals) {argsL rest : List Value} (hlen : ∀ sig, parseMethodDescriptor y.desc = some sig → argsL.length = sig.parameters.length)
    (hstack : g.stack = argsL.reverse ++ rest) (hW : 2 * g.monitorRoom + (rest.map fun v => v.category).sum ≤ W9) (hdg : decode c.code g.pc = .ok (.invokestatic index, 3))
    (hpre : ∀ vm₁, s.WarmedH vm₁ → Pre ⟨T.setVm vm₁, locs, cells, slots⟩ argsL.toArray) :
    (∃ (v : Option Value) (vm₁ : Vm) (B : Pt), s.WarmedH vm₁ ∧ Stand p l e R s m args below meth c B.U B.locs B.cells B.slots ∧ Post ⟨T.setVm vm₁, locs, cells, slots⟩ argsL.toArray v B ∧
      ∀ target, Steps p.tables e below (B.U.setTop { g with pc := g.pc + 3, stack := v.toList ++ rest }) target → Steps p.tables e below (T.setTop g) target) ∨
    (∃ (q : Addr) (vm₁ : Vm) (B : Pt), s.WarmedH vm₁ ∧ Stand p l e R s m args below meth c B.U B.locs B.cells B.slots ∧ PostX ⟨T.setVm vm₁, locs, cells, slots⟩ argsL.toArray q B ∧
      Steps p.tables e below (T.setTop g) ((B.U.setTop { g with stack := rest }).pushFrame (.throwing q))) := by
  obtain ⟨mk, methM, cM, hnamed, hmethM, -, -, -, -, -, -, hsigM⟩ := Cond.codeWith_spec hcode
  have hstatic : methM.isStatic = true := Cond.static_spec hnamed hmethM hstat
  obtain ⟨kP, hkP, -⟩ := className_of_methodNamed hnamed
  have hinitP : kP.init = .initialized := Cond.initialized_spec (findClass_of_methodNamed hnamed) hkP hinit
  obtain ⟨vm₁, X₁, hstep₁⟩ := X.invokestatic hexec hown hlink hnamed hmethM hstatic hkP hinitP hy (g := g) hg (argsL := argsL) (rest := rest) (hlen _ hsigM) hstack hdg
  rcases hK m meth c ⟨T.setVm vm₁, locs, cells, slots⟩ { g with stack := rest } (.invokestatic index) mk argsL.toArray X₁ hg hsize hdg hW (X₁.named hnamed) (hpre vm₁ X₁.warmed) with ⟨v, B, X', hpost, hsteps⟩ | ⟨q, B, X', hpost, hsteps⟩
  · exact Or.inl ⟨v, vm₁, B, X₁.warmed, X', hpost, fun target h => hstep₁ _ fun acts => by rw [doInvoke_state]; exact hsteps.trans h⟩
  · exact Or.inr ⟨q, vm₁, B, X₁.warmed, X', hpost, hstep₁ _ fun acts => by rw [doInvoke_state]; exact hsteps⟩
theorem vx_callVW (X : Stand p l e R s m args below meth c T locs cells slots) (hexec : p.tables.exec = Jvm.exec) {own C : String} {index : Nat} {y : MethodName} {bytes : ByteArray} {maxL : Nat} {ret : Option FieldType} {hh : List (Nat × Nat × Nat × Nat)}
    (hown : s.vm.findClass own = some m.cls) (hlink : (Cond.methodLink own index y).before args s = true) (hinst : (Cond.instanceMethod y).before args s = true) (hsel : (Cond.selects C y y).before args s = true)
    (hcode : (Cond.codeWith y bytes maxL ret hh).before args s = true) (hy : y.cls ≠ "java/lang/invoke/MethodHandle" ∧ y.cls ≠ "java/lang/invoke/VarHandle")
    {W9 : Nat} {Pre : Pt → Array Value → Prop} {Post : Pt → Array Value → Option Value → Pt → Prop} (hK : Back l R p e below s args y 3 W9 Pre Post)
    {b : Addr} {cellB : Cell} (hcell : T.heap[b]? = some cellB) (hobj : cellB.vm.isStatics = false) (hcls : s.vm.findClass C = some cellB.cls)
    {g : JFrame} (hg : g.method = m) (hsize : g.locals.size = c.maxLocals) {argsL rest : List Value} (hlen : ∀ sig, parseMethodDescriptor y.desc = some sig → argsL.length = sig.parameters.length)
    (hstack : g.stack = argsL.reverse ++ .ref b :: rest) (hW : 2 * g.monitorRoom + (rest.map fun v => v.category).sum ≤ W9) (hdg : decode c.code g.pc = .ok (.invokevirtual index, 3))
    (hpre : ∀ vm₁, s.WarmedH vm₁ → Pre ⟨T.setVm vm₁, locs, cells, slots⟩ (Value.ref b :: argsL).toArray) :
    ∃ (v : Option Value) (vm₁ : Vm) (B : Pt), s.WarmedH vm₁ ∧ Stand p l e R s m args below meth c B.U B.locs B.cells B.slots ∧ Post ⟨T.setVm vm₁, locs, cells, slots⟩ (Value.ref b :: argsL).toArray v B ∧
      ∀ target, Steps p.tables e below (B.U.setTop { g with pc := g.pc + 3, stack := v.toList ++ rest }) target → Steps p.tables e below (T.setTop g) target := by
  obtain ⟨mk, methM, hnamed, hmethM, hstM, habM⟩ := Cond.instanceMethod_spec hinst
  obtain ⟨m8, methM', cM, hn8, hmethM', -, -, -, -, -, -, hsigM⟩ := Cond.codeWith_spec hcode
  cases Option.some.inj (hn8.symm.trans hnamed)
  cases hmethM.symm.trans hmethM'
  obtain ⟨c2, r2, m2, q1, q2, q3, q4, kP, hkP, hkPi⟩ := Cond.selects_spec hsel
  cases hcls.symm.trans q1
  cases (State.methodFound?_of_named hnamed hy).symm.trans q2
  cases hnamed.symm.trans q3
  have hselP : selectMethod e.platform s.vm cellB.cls mk = .method mk := by rw [Launch.admits_selectMethod X.admits]; exact q4
  obtain ⟨vm₁, X₁, hstep₁⟩ := X.invokevirtual hexec hown hlink hnamed hmethM hstM hkP hkPi hy (a := b) (cell := cellB) hcell
    (fun z h => by rw [h] at hobj; cases hobj) hselP hmethM habM hkP hkPi (g := g) hg (argsL := argsL) (rest := rest) (hlen _ hsigM) hstack hdg
  obtain ⟨v, B, X', hpost, hsteps⟩ := hK m meth c ⟨T.setVm vm₁, locs, cells, slots⟩ { g with stack := rest } (.invokevirtual index) mk (Value.ref b :: argsL).toArray X₁ hg hsize hdg hW (X₁.named hnamed) (hpre vm₁ X₁.warmed)
  exact ⟨v, vm₁, B, X₁.warmed, X', hpost, fun target h => hstep₁ _ fun acts => by rw [doInvoke_state]; exact hsteps.trans h⟩
abbrev vx_CVW (R : Room) (s : State) (args : Array Value) (own C : String) (index : Nat) (y : MethodName) (bytes : ByteArray) (maxL : Nat) (ret : Option FieldType) (hh : List (Nat × Nat × Nat × Nat)) (ws : List Cond) (rm : Room) (mc ms n : Nat) : Prop :=
  (rm.cells = mc ∧ rm.slots = ms ∧ rm.frames + 1 ≤ R.frames ∧ 8 + (maxL + 11) + rm.locals ≤ R.locals ∧ (∀ w ∈ ws, ∀ (a' : Array Value) (U : State), s.WarmedH U.vm → w.before a' U = true) ∧ Cond.codeWith y bytes maxL ret hh ∈ ws) ∧
  (Cond.codeWith y bytes maxL ret hh).before args s = true ∧ (Cond.initialized y.cls).before args s = true ∧ (y.cls ≠ "java/lang/invoke/MethodHandle" ∧ y.cls ≠ "java/lang/invoke/VarHandle") ∧
  (∀ sig, parseMethodDescriptor y.desc = some sig → n = sig.parameters.length) ∧ (Cond.methodLink own index y).before args s = true ∧ (Cond.instanceMethod y).before args s = true ∧ (Cond.selects C y y).before args s = true
theorem vx_cwVW {own C : String} {index maxL mc ms : Nat} {y : MethodName} {bytes : ByteArray} {ret : Option FieldType} {hh : List (Nat × Nat × Nat × Nat)} {Ts ws ws' : List Cond} {rm : Room} (n : Nat) (ht : ∀ w ∈ Ts, w.before args s = true) (hT : GoodIn Ts (wsV own index C y ws)) (hw : ws = Cond.codeWith y bytes maxL ret hh :: ws') (hrc : rm.cells = mc) (hrs : rm.slots = ms)
    (hd : y.cls = C ∧ y.cls ≠ "java/lang/invoke/MethodHandle" ∧ y.cls ≠ "java/lang/invoke/VarHandle" ∧ (parseMethodDescriptor y.desc).map (fun d => d.parameters.length) = some n) (hR : rm.frames + 1 ≤ R.frames ∧ 8 + (maxL + 11) + rm.locals ≤ R.locals) :
    vx_CVW R s args own C index y bytes maxL ret hh ws rm mc ms n := by
  obtain ⟨hC, hd⟩ := hd
  subst hC
  have ok : ∀ w ∈ wsV own index y.cls y ws, w.before args s = true := fun w h => ht w (hT w h).1
  have hG : GoodIn Ts ws := fun w h => hT w (by unfold wsV; exact List.mem_append_right _ h)
  have hc : Cond.codeWith y bytes maxL ret hh ∈ ws := by rw [hw]; exact List.mem_cons_self
  refine ⟨⟨hrc, hrs, hR.1, hR.2, pay_in ht hG, hc⟩, ht _ (hG _ hc).1, ok _ (by simp [wsV]), ⟨hd.1, hd.2.1⟩, fun sig h => ?_, ok _ (by simp [wsV]), ok _ (by simp [wsV]), ok _ (by simp [wsV])⟩
  have h2 := hd.2.2
  rw [h] at h2
  exact (Option.some.inj h2).symm
theorem vx_runVW {y : MethodName} {bytes cc : ByteArray} {maxL nL mc ms n index : Nat} {ret : Option FieldType} {hh : List (Nat × Nat × Nat × Nat)} {ws : List Cond} {rm : Room} {Pc : Array Value → State → Prop} {Qc : Array Value → State → Outcome → State → Prop} {free : Addr → Prop} {Ts : List Cond} {own C : String} {b : Addr} {As rest : List Value} {g : JFrame}
    (S : CallFix p m c cc nL s args Ts own) (hM : Met l y ws rm Pc Qc mc ms free) (cw : vx_CVW R s args own C index y bytes maxL ret hh ws rm mc ms n) (hp : PreV s H C b Pc As)
    (hg : g.method = m) (hn : As.length = n) (hsize : g.locals.size = nL) (hstack : g.stack = As.reverse ++ .ref b :: rest) (hW : 2 * g.monitorRoom + (rest.map fun v => v.category).sum ≤ 8) (hdg : decode cc g.pc = .ok (.invokevirtual index, 3)) (hf : cells + mc ≤ R.cells ∧ slots + ms ≤ R.slots) :
    va_Run p l e R s m args below meth c H locs cells slots mc ms g rest (Qc (Value.ref b :: As).toArray) free := by
  obtain ⟨⟨hrc, hrs, hfr, hlo, hws, hcw⟩, hcode, hini, hy, hlen, hl, hin, hse⟩ := cw
  have hK : Back l R p e below s args y 3 8 (PreOf R mc ms Pc) (PostOf Qc mc ms free) := va_backW (hh := hh) (bytes := bytes) (maxL := maxL) (ret := ret) hM hp.1 hrc hrs hfr hlo hws hcw (fun a' U hW => word_at hW (Or.inl (by first | rfl | simp [Cond.onTables, Cond.keeps, Cond.steady])) hini)
  obtain ⟨hx, hb, hml, ho, -⟩ := S
  obtain ⟨-, ⟨cellB, hcB, hoB, hclB⟩, hPc⟩ := hp
  intro T hT X
  obtain ⟨v, vm₁, ⟨U', l2, c2, s2⟩, hW₁, X', ⟨g', mk, t, L, e1, e2, hq, h1, hL, h2, h3⟩, st⟩ := vx_callVW X hx (C := C) (hh := hh) (bytes := bytes) (maxL := maxL) (ret := ret) ho hl hin hse hcode hy hK (by rw [hT]; exact hcB) hoB hclB hg (hsize.trans hml.symm) (argsL := As) (rest := rest) (fun sig h => hn.trans (hlen sig h)) hstack hW (by rw [hb]; exact hdg)
    (fun vm₁ hW₁ => ⟨hf.1, hf.2, hPc (T.setVm vm₁) hT hW₁⟩)
  dsimp only [Pt.U, Pt.locs, Pt.cells, Pt.slots] at X' e1 e2 h1 h2 h3 st
  subst h1; subst h2; subst h3
  exact ⟨v, (T.setVm vm₁).calling g' mk (Value.ref b :: As).toArray, t, U', L, hT, X', hL, e1, e2, hq, st⟩
section
variable {y : MethodName} {bytes cc : ByteArray} {maxL nL mc ms n index : Nat} {ret : Option FieldType} {ws : List Cond} {rm : Room} {Pc : Array Value → State → Prop} {Qc : Array Value → State → Outcome → State → Prop} {XC : String → State → State → Prop} {free : Addr → Prop} {Ts : List Cond} {own C : String} {b : Addr} {As rest : List Value} {g : JFrame}
theorem vx_runVX {hh : List (Nat × Nat × Nat × Nat)} (S : CallFix p m c cc nL s args Ts own) (hM : vx_Met l y ws rm Pc Qc XC mc ms free) (cw : vx_CVW R s args own C index y bytes maxL ret hh ws rm mc ms n) (hp : PreV s H C b Pc As)
    (hg : g.method = m) (hn : As.length = n) (hsize : g.locals.size = nL) (hstack : g.stack = As.reverse ++ .ref b :: rest) (hW : 2 * g.monitorRoom + (rest.map fun v => v.category).sum ≤ 8) (hdg : decode cc g.pc = .ok (.invokevirtual index, 3)) (hf : cells + mc ≤ R.cells ∧ slots + ms ≤ R.slots) :
    vx_Run p l e R s m args below meth c H locs cells slots mc ms g rest (Qc (Value.ref b :: As).toArray) XC free := by
  obtain ⟨⟨hrc, hrs, hfr, hlo, hws, hcw⟩, hcode, hini, hy, hlen, hl, hin, hse⟩ := cw
  have hK : vx_Back l R p e below s args y 3 8 (PreOf R mc ms Pc) (PostOf Qc mc ms free) (vx_Post XC mc ms free) := vx_backW (hh := hh) (bytes := bytes) (maxL := maxL) (ret := ret) hM hp.1 hrc hrs hfr hlo hws hcw (fun a' U hW => word_at hW (Or.inl (by first | rfl | simp [Cond.onTables, Cond.keeps, Cond.steady])) hini)
  obtain ⟨hx, hb, hml, ho, -⟩ := S
  obtain ⟨-, ⟨cellB, hcB, hoB, hclB⟩, hPc⟩ := hp
  intro T hT X
  rcases vx_callVX X hx (C := C) (hh := hh) (bytes := bytes) (maxL := maxL) (ret := ret) ho hl hin hse hcode hy hK (by rw [hT]; exact hcB) hoB hclB hg (hsize.trans hml.symm) (argsL := As) (rest := rest) (fun sig h => hn.trans (hlen sig h)) hstack hW (by rw [hb]; exact hdg)
    (fun vm₁ hW₁ => ⟨hf.1, hf.2, hPc (T.setVm vm₁) hT hW₁⟩) with ⟨v, vm₁, ⟨U', l2, c2, s2⟩, hW₁, X', ⟨g', mk, t, L, e1, e2, hq, h1, hL, h2, h3⟩, st⟩ | ⟨q, vm₁, ⟨U', l2, c2, s2⟩, hW₁, X', ⟨g', mk, t, L, E, ce, e1, e2, hq, hce, hcv, hcl, h1, hL, h2, h3⟩, st⟩
  · dsimp only [Pt.U, Pt.locs, Pt.cells, Pt.slots] at X' e1 e2 h1 h2 h3 st
    subst h1; subst h2; subst h3
    exact Or.inl ⟨v, (T.setVm vm₁).calling g' mk (Value.ref b :: As).toArray, t, U', L, hT, X', hL, e1, e2, hq, st⟩
  · dsimp only [Pt.U, Pt.locs, Pt.cells, Pt.slots] at X' e1 e2 h1 h2 h3 st hcl
    subst h1; subst h2; subst h3
    exact Or.inr ⟨q, (T.setVm vm₁).calling g' mk (Value.ref b :: As).toArray, t, U', L, E, ce, hT, X', hL, e1, e2, hq, hce, hcv, vx_cls hW₁ hcl, st⟩
theorem vx_runSX {hh : List (Nat × Nat × Nat × Nat)} (S : CallFix p m c cc nL s args Ts own) (hM : vx_Met l y ws rm Pc Qc XC mc ms free) (cw : vx_CSW R s args own index y bytes maxL ret hh ws rm mc ms n) (hp : PreS s H Pc As)
    (hg : g.method = m) (hn : As.length = n) (hsize : g.locals.size = nL) (hstack : g.stack = As.reverse ++ rest) (hW : 2 * g.monitorRoom + (rest.map fun v => v.category).sum ≤ 8) (hdg : decode cc g.pc = .ok (.invokestatic index, 3)) (hf : cells + mc ≤ R.cells ∧ slots + ms ≤ R.slots) :
    vx_Run p l e R s m args below meth c H locs cells slots mc ms g rest (Qc As.toArray) XC free := by
  obtain ⟨⟨hrc, hrs, hfr, hlo, hws, hcw⟩, hcode, hini, hy, hlen, hl, hstt⟩ := cw
  have hK : vx_Back l R p e below s args y 3 8 (PreOf R mc ms Pc) (PostOf Qc mc ms free) (vx_Post XC mc ms free) := vx_backW (hh := hh) (bytes := bytes) (maxL := maxL) (ret := ret) hM hp.1 hrc hrs hfr hlo hws hcw (fun a' U hW => word_at hW (Or.inl (by first | rfl | simp [Cond.onTables, Cond.keeps, Cond.steady])) hini)
  obtain ⟨hx, hb, hml, ho, -⟩ := S
  intro T hT X
  rcases vx_callSX X hx (hh := hh) (bytes := bytes) (maxL := maxL) (ret := ret) ho hl hstt hini hcode hy hK hg (hsize.trans hml.symm) (argsL := As) (rest := rest) (fun sig h => hn.trans (hlen sig h)) hstack hW (by rw [hb]; exact hdg)
    (fun vm₁ hW₁ => ⟨hf.1, hf.2, hp.2 (T.setVm vm₁) hT hW₁⟩) with ⟨v, vm₁, ⟨U', l2, c2, s2⟩, hW₁, X', ⟨g', mk, t, L, e1, e2, hq, h1, hL, h2, h3⟩, st⟩ | ⟨q, vm₁, ⟨U', l2, c2, s2⟩, hW₁, X', ⟨g', mk, t, L, E, ce, e1, e2, hq, hce, hcv, hcl, h1, hL, h2, h3⟩, st⟩
  · dsimp only [Pt.U, Pt.locs, Pt.cells, Pt.slots] at X' e1 e2 h1 h2 h3 st
    subst h1; subst h2; subst h3
    exact Or.inl ⟨v, (T.setVm vm₁).calling g' mk As.toArray, t, U', L, hT, X', hL, e1, e2, hq, st⟩
  · dsimp only [Pt.U, Pt.locs, Pt.cells, Pt.slots] at X' e1 e2 h1 h2 h3 st hcl
    subst h1; subst h2; subst h3
    exact Or.inr ⟨q, (T.setVm vm₁).calling g' mk As.toArray, t, U', L, E, ce, hT, X', hL, e1, e2, hq, hce, hcv, vx_cls hW₁ hcl, st⟩
end
end VXH
theorem vx_ofWH {l : Launch} {y : MethodName} {ws ws' : List Cond} {rm : Room} {Pc : Array Value → State → Prop} {Qc : Array Value → State → Outcome → State → Prop} {XC : String → State → State → Prop} {mc ms : Nat} {free : Addr → Prop} {cc : ByteArray} {maxL : Nat} {ret : Option FieldType} {hh : List (Nat × Nat × Nat × Nat)}
    (hy : plainName y.cls = true) (hw : ws = Cond.codeWith y cc maxL ret hh :: ws')
    (body : ∀ p e s m args below meth c s₁, BodyLoose p l y (headSpec ws rm) cc maxL ret e s m args below meth c s₁ → c.maxLocals = maxL → Pc args s →
      W p l e (headSpec ws rm).room s m args below meth c s.heap [] 0 0 (vx_MQ below Qc XC args s mc ms free) (entryFrame m args maxL)) : vx_Met l y ws rm Pc Qc XC mc ms free := by
  refine MetFree.of_bodyS (code := cc) (maxLocals := maxL) (ret := ret) hy ?_ ?_
  · intro args s m h hn
    obtain ⟨m9, meth, c, hn9, h1, h2, h3, h4, -, h5, h6, -⟩ := Cond.codeWith_spec (atoms_spec (ws := ws) h _ (by rw [hw]; exact List.mem_cons_self))
    cases hn.symm.trans hn9
    exact ⟨meth, c, h1, h2, h3, h4, h5, h6⟩
  · intro p e s m args below meth c s₁ B hml hP _
    have hh0 : s₁.heap = s.heap := by rw [B.state]; rfl
    obtain ⟨t, a1, o, b1, b2, b3⟩ := body p e s m args below meth c s₁ B hml hP s₁ hh0 (Stand.of_body B)
    exact ⟨t, o, a1, b1, b2, b3⟩
/-! ===== END ===== -/
end
section
/-! ===== BEGIN printed: names, fields, word lists, decode rows ===== -/
def RX0 : String := "Layerbook$FirstInFirstOut"
def TX0 : u_T := fun k => match k with
  | 0 => ("Layerbook$Valuation", "units", "I", false)
  | 1 => ("Layerbook$Valuation", "received", "J", false)
  | 2 => ("Layerbook$Valuation", "issued", "J", false)
  | 3 => ("Layerbook$Valuation", "revalued", "J", false)
  | 4 => ("Layerbook$Valuation", "expensed", "J", false)
  | 5 => ("Layerbook$FirstInFirstOut", "first", "LLayerbook$Layer;", false)
  | _ => ("Layerbook$FirstInFirstOut", "last", "LLayerbook$Layer;", false)
def tyX0 : Nat → FieldType := fun k => match k with
  | 0 => .int
  | 1 => .long
  | 2 => .long
  | 3 => .long
  | 4 => .long
  | 5 => .object "Layerbook$Layer"
  | _ => .object "Layerbook$Layer"
abbrev wsX00 : List Cond := u_ws RX0 TX0 7
theorem nmX0 : ∀ a, a < 7 → ∀ b, b < 7 → a ≠ b → (TX0 a).2.1 ≠ (TX0 b).2.1 := by decide +kernel
theorem tyX0_ok : ∀ k, k < 7 → parseFieldDescriptor (TX0 k).2.2.1 = some (tyX0 k) := by decide +kernel
abbrev cX0_init : ByteArray := prog_2_method_1_code
def yX0_init : MethodName := ⟨RX0, "<init>", "()V"⟩
abbrev cX0_empty : ByteArray := prog_2_method_2_code
def yX0_empty : MethodName := ⟨RX0, "empty", "()V"⟩
abbrev cX0_bring : ByteArray := prog_2_method_3_code
def yX0_bring : MethodName := ⟨RX0, "bring", "(LLayerbook$Movement;)V"⟩
abbrev cX0_take : ByteArray := prog_2_method_4_code
def yX0_take : MethodName := ⟨RX0, "take", "(I)J"⟩
abbrev cX0_bringBack : ByteArray := prog_2_method_5_code
def yX0_bringBack : MethodName := ⟨RX0, "bringBack", "(LLayerbook$Movement;)V"⟩
abbrev cX0_absorb : ByteArray := prog_2_method_6_code
def yX0_absorb : MethodName := ⟨RX0, "absorb", "(LLayerbook$Movement;I)J"⟩
abbrev cX0_worth : ByteArray := prog_2_method_7_code
def yX0_worth : MethodName := ⟨RX0, "worth", "()J"⟩
abbrev cX0_length : ByteArray := prog_2_method_8_code
def yX0_length : MethodName := ⟨RX0, "length", "()I"⟩
abbrev cX0_layerAt : ByteArray := prog_2_method_9_code
def yX0_layerAt : MethodName := ⟨RX0, "layerAt", "(I)LLayerbook$Layer;"⟩
def RX1 : String := "Layerbook$Layer"
def TX1 : u_T := fun k => match k with
  | 0 => ("Layerbook$Layer", "origin", "I", true)
  | 1 => ("Layerbook$Layer", "units", "I", false)
  | 2 => ("Layerbook$Layer", "cost", "J", false)
  | _ => ("Layerbook$Layer", "next", "LLayerbook$Layer;", false)
def tyX1 : Nat → FieldType := fun k => match k with
  | 0 => .int
  | 1 => .int
  | 2 => .long
  | _ => .object "Layerbook$Layer"
abbrev wsX10 : List Cond := u_ws RX1 TX1 4
theorem nmX1 : ∀ a, a < 4 → ∀ b, b < 4 → a ≠ b → (TX1 a).2.1 ≠ (TX1 b).2.1 := by decide +kernel
theorem tyX1_ok : ∀ k, k < 4 → parseFieldDescriptor (TX1 k).2.2.1 = some (tyX1 k) := by decide +kernel
abbrev cX1_init : ByteArray := prog_3_method_1_code
def yX1_init : MethodName := ⟨RX1, "<init>", "(I)V"⟩
abbrev cX1_fill : ByteArray := prog_3_method_2_code
def yX1_fill : MethodName := ⟨RX1, "fill", "(IJLLayerbook$Layer;)V"⟩
abbrev cX1_take : ByteArray := prog_3_method_3_code
def yX1_take : MethodName := ⟨RX1, "take", "(I)J"⟩
def RX2 : String := "Layerbook$Ledger"
def TX2 : u_T := fun k => match k with
  | 0 => ("Layerbook$Ledger", "first", "LLayerbook$Movement;", false)
  | _ => ("Layerbook$Ledger", "size", "I", false)
def tyX2 : Nat → FieldType := fun k => match k with
  | 0 => .object "Layerbook$Movement"
  | _ => .int
abbrev wsX20 : List Cond := u_ws RX2 TX2 2
theorem nmX2 : ∀ a, a < 2 → ∀ b, b < 2 → a ≠ b → (TX2 a).2.1 ≠ (TX2 b).2.1 := by decide +kernel
theorem tyX2_ok : ∀ k, k < 2 → parseFieldDescriptor (TX2 k).2.2.1 = some (tyX2 k) := by decide +kernel
abbrev cX2_init : ByteArray := prog_4_method_1_code
def yX2_init : MethodName := ⟨RX2, "<init>", "()V"⟩
abbrev cX2_insert : ByteArray := prog_4_method_2_code
def yX2_insert : MethodName := ⟨RX2, "insert", "(LLayerbook$Movement;)V"⟩
abbrev cX2_remove : ByteArray := prog_4_method_3_code
def yX2_remove : MethodName := ⟨RX2, "remove", "(LLayerbook$Movement;)V"⟩
abbrev cX2_place : ByteArray := prog_4_method_4_code
def yX2_place : MethodName := ⟨RX2, "place", "(LLayerbook$Movement;)I"⟩
abbrev cX2_units : ByteArray := prog_4_method_5_code
def yX2_units : MethodName := ⟨RX2, "units", "(II)I"⟩
abbrev cX2_spare : ByteArray := prog_4_method_6_code
def yX2_spare : MethodName := ⟨RX2, "spare", "(III)I"⟩
abbrev cX2_spreadsOver : ByteArray := prog_4_method_7_code
def yX2_spreadsOver : MethodName := ⟨RX2, "spreadsOver", "(LLayerbook$Movement;)Z"⟩
def RX3 : String := "Layerbook$Movement"
def TX3 : u_T := fun k => match k with
  | 0 => ("Layerbook$Movement", "number", "I", true)
  | 1 => ("Layerbook$Movement", "kind", "I", true)
  | 2 => ("Layerbook$Movement", "day", "I", true)
  | 3 => ("Layerbook$Movement", "item", "I", true)
  | 4 => ("Layerbook$Movement", "quantity", "I", true)
  | 5 => ("Layerbook$Movement", "cost", "I", true)
  | 6 => ("Layerbook$Movement", "layer", "LLayerbook$Layer;", true)
  | 7 => ("Layerbook$Movement", "cancelled", "Z", false)
  | 8 => ("Layerbook$Movement", "next", "LLayerbook$Movement;", false)
  | 9 => ("Layerbook$Movement", "shares", "LLayerbook$Share;", false)
  | _ => ("Layerbook$Movement", "taken", "J", false)
def tyX3 : Nat → FieldType := fun k => match k with
  | 0 => .int
  | 1 => .int
  | 2 => .int
  | 3 => .int
  | 4 => .int
  | 5 => .int
  | 6 => .object "Layerbook$Layer"
  | 7 => .boolean
  | 8 => .object "Layerbook$Movement"
  | 9 => .object "Layerbook$Share"
  | _ => .long
abbrev wsX30 : List Cond := u_ws RX3 TX3 11
theorem nmX3 : ∀ a, a < 11 → ∀ b, b < 11 → a ≠ b → (TX3 a).2.1 ≠ (TX3 b).2.1 := by decide +kernel
theorem tyX3_ok : ∀ k, k < 11 → parseFieldDescriptor (TX3 k).2.2.1 = some (tyX3 k) := by decide +kernel
abbrev cX3_init : ByteArray := prog_5_method_1_code
def yX3_init : MethodName := ⟨RX3, "<init>", "(IIIIII)V"⟩
abbrev cX3_change : ByteArray := prog_5_method_2_code
def yX3_change : MethodName := ⟨RX3, "change", "()I"⟩
abbrev cX3_needsUnits : ByteArray := prog_5_method_3_code
def yX3_needsUnits : MethodName := ⟨RX3, "needsUnits", "()Z"⟩
abbrev cX3_isBehind : ByteArray := prog_5_method_4_code
def yX3_isBehind : MethodName := ⟨RX3, "isBehind", "(II)Z"⟩
abbrev cX3_shareOf : ByteArray := prog_5_method_5_code
def yX3_shareOf : MethodName := ⟨RX3, "shareOf", "(LLayerbook$Movement;)LLayerbook$Share;"⟩
def RX4 : String := "Layerbook$MovingAverage"
def TX4 : u_T := fun k => match k with
  | 0 => ("Layerbook$Valuation", "units", "I", false)
  | 1 => ("Layerbook$Valuation", "received", "J", false)
  | 2 => ("Layerbook$Valuation", "issued", "J", false)
  | 3 => ("Layerbook$Valuation", "revalued", "J", false)
  | 4 => ("Layerbook$Valuation", "expensed", "J", false)
  | _ => ("Layerbook$MovingAverage", "worth", "J", false)
def tyX4 : Nat → FieldType := fun k => match k with
  | 0 => .int
  | 1 => .long
  | 2 => .long
  | 3 => .long
  | 4 => .long
  | _ => .long
abbrev wsX40 : List Cond := u_ws RX4 TX4 6
theorem nmX4 : ∀ a, a < 6 → ∀ b, b < 6 → a ≠ b → (TX4 a).2.1 ≠ (TX4 b).2.1 := by decide +kernel
theorem tyX4_ok : ∀ k, k < 6 → parseFieldDescriptor (TX4 k).2.2.1 = some (tyX4 k) := by decide +kernel
abbrev cX4_init : ByteArray := prog_6_method_1_code
def yX4_init : MethodName := ⟨RX4, "<init>", "()V"⟩
abbrev cX4_empty : ByteArray := prog_6_method_2_code
def yX4_empty : MethodName := ⟨RX4, "empty", "()V"⟩
abbrev cX4_bring : ByteArray := prog_6_method_3_code
def yX4_bring : MethodName := ⟨RX4, "bring", "(LLayerbook$Movement;)V"⟩
abbrev cX4_take : ByteArray := prog_6_method_4_code
def yX4_take : MethodName := ⟨RX4, "take", "(I)J"⟩
abbrev cX4_bringBack : ByteArray := prog_6_method_5_code
def yX4_bringBack : MethodName := ⟨RX4, "bringBack", "(LLayerbook$Movement;)V"⟩
abbrev cX4_absorb : ByteArray := prog_6_method_6_code
def yX4_absorb : MethodName := ⟨RX4, "absorb", "(LLayerbook$Movement;I)J"⟩
abbrev cX4_worth : ByteArray := prog_6_method_7_code
def yX4_worth : MethodName := ⟨RX4, "worth", "()J"⟩
def RX5 : String := "Layerbook$Share"
def TX5 : u_T := fun k => match k with
  | 0 => ("Layerbook$Share", "receipt", "LLayerbook$Movement;", true)
  | 1 => ("Layerbook$Share", "next", "LLayerbook$Share;", true)
  | 2 => ("Layerbook$Share", "part", "I", false)
  | _ => ("Layerbook$Share", "remainder", "J", false)
def tyX5 : Nat → FieldType := fun k => match k with
  | 0 => .object "Layerbook$Movement"
  | 1 => .object "Layerbook$Share"
  | 2 => .int
  | _ => .long
abbrev wsX50 : List Cond := u_ws RX5 TX5 4
theorem nmX5 : ∀ a, a < 4 → ∀ b, b < 4 → a ≠ b → (TX5 a).2.1 ≠ (TX5 b).2.1 := by decide +kernel
theorem tyX5_ok : ∀ k, k < 4 → parseFieldDescriptor (TX5 k).2.2.1 = some (tyX5 k) := by decide +kernel
abbrev cX5_init : ByteArray := prog_7_method_1_code
def yX5_init : MethodName := ⟨RX5, "<init>", "(LLayerbook$Movement;IJLLayerbook$Share;)V"⟩
def RX6 : String := "Layerbook$Valuation"
def TX6 : u_T := fun k => match k with
  | _ => ("", "", "", false)
def tyX6 : Nat → FieldType := fun k => match k with
  | _ => .int
abbrev wsX60 : List Cond := u_ws RX6 TX6 0
theorem nmX6 : ∀ a, a < 0 → ∀ b, b < 0 → a ≠ b → (TX6 a).2.1 ≠ (TX6 b).2.1 := by decide +kernel
theorem tyX6_ok : ∀ k, k < 0 → parseFieldDescriptor (TX6 k).2.2.1 = some (tyX6 k) := by decide +kernel
abbrev cX6_init : ByteArray := prog_8_method_1_code
def yX6_init : MethodName := ⟨RX6, "<init>", "()V"⟩
abbrev cX6_replay : ByteArray := prog_8_method_8_code
def yX6_replay : MethodName := ⟨RX6, "replay", "(LLayerbook$Movement;II)V"⟩
abbrev cX6_apply : ByteArray := prog_8_method_9_code
def yX6_apply : MethodName := ⟨RX6, "apply", "(LLayerbook$Movement;)V"⟩
abbrev cX6_applyShares : ByteArray := prog_8_method_10_code
def yX6_applyShares : MethodName := ⟨RX6, "applyShares", "(LLayerbook$Movement;I)V"⟩
abbrev cX6_portion : ByteArray := prog_8_method_11_code
def yX6_portion : MethodName := ⟨RX6, "portion", "(LLayerbook$Movement;II)J"⟩
def RX7 : String := "Layerbook"
def TX7 : u_T := fun k => match k with
  | 0 => ("Layerbook", "posted", "[LLayerbook$Movement;", true)
  | 1 => ("Layerbook", "ledger", "LLayerbook$Ledger;", true)
  | 2 => ("Layerbook", "fifo", "LLayerbook$FirstInFirstOut;", true)
  | 3 => ("Layerbook", "average", "LLayerbook$MovingAverage;", true)
  | 4 => ("Layerbook", "weights", "[I", true)
  | 5 => ("Layerbook", "count", "I", false)
  | _ => ("Layerbook", "closedUpTo", "I", false)
def tyX7 : Nat → FieldType := fun k => match k with
  | 0 => .array (.object "Layerbook$Movement")
  | 1 => .object "Layerbook$Ledger"
  | 2 => .object "Layerbook$FirstInFirstOut"
  | 3 => .object "Layerbook$MovingAverage"
  | 4 => .array .int
  | 5 => .int
  | _ => .int
abbrev wsX70 : List Cond := u_ws RX7 TX7 7
theorem nmX7 : ∀ a, a < 7 → ∀ b, b < 7 → a ≠ b → (TX7 a).2.1 ≠ (TX7 b).2.1 := by decide +kernel
theorem tyX7_ok : ∀ k, k < 7 → parseFieldDescriptor (TX7 k).2.2.1 = some (tyX7 k) := by decide +kernel
abbrev cX7_init : ByteArray := prog_1_method_1_code
def yX7_init : MethodName := ⟨RX7, "<init>", "()V"⟩
abbrev cX7_receive : ByteArray := prog_1_method_2_code
def yX7_receive : MethodName := ⟨RX7, "receive", "(IIII)I"⟩
abbrev cX7_issue : ByteArray := prog_1_method_3_code
def yX7_issue : MethodName := ⟨RX7, "issue", "(III)I"⟩
abbrev cX7_revalue : ByteArray := prog_1_method_4_code
def yX7_revalue : MethodName := ⟨RX7, "revalue", "(IIII)I"⟩
abbrev cX7_land : ByteArray := prog_1_method_5_code
def yX7_land : MethodName := ⟨RX7, "land", "(IIIJ)I"⟩
abbrev cX7_cancel : ByteArray := prog_1_method_6_code
def yX7_cancel : MethodName := ⟨RX7, "cancel", "(I)I"⟩
abbrev cX7_close : ByteArray := prog_1_method_7_code
def yX7_close : MethodName := ⟨RX7, "close", "(I)I"⟩
abbrev cX7_setWeight : ByteArray := prog_1_method_8_code
def yX7_setWeight : MethodName := ⟨RX7, "setWeight", "(II)I"⟩
abbrev cX7_movements : ByteArray := prog_1_method_9_code
def yX7_movements : MethodName := ⟨RX7, "movements", "()I"⟩
abbrev cX7_kindOf : ByteArray := prog_1_method_10_code
def yX7_kindOf : MethodName := ⟨RX7, "kindOf", "(I)I"⟩
abbrev cX7_dayOf : ByteArray := prog_1_method_11_code
def yX7_dayOf : MethodName := ⟨RX7, "dayOf", "(I)I"⟩
abbrev cX7_isCancelled : ByteArray := prog_1_method_12_code
def yX7_isCancelled : MethodName := ⟨RX7, "isCancelled", "(I)Z"⟩
abbrev cX7_placeOf : ByteArray := prog_1_method_13_code
def yX7_placeOf : MethodName := ⟨RX7, "placeOf", "(I)I"⟩
abbrev cX7_partOf : ByteArray := prog_1_method_14_code
def yX7_partOf : MethodName := ⟨RX7, "partOf", "(II)I"⟩
abbrev cX7_costOf : ByteArray := prog_1_method_15_code
def yX7_costOf : MethodName := ⟨RX7, "costOf", "(IZ)J"⟩
abbrev cX7_onHand : ByteArray := prog_1_method_16_code
def yX7_onHand : MethodName := ⟨RX7, "onHand", "(II)I"⟩
abbrev cX7_available : ByteArray := prog_1_method_17_code
def yX7_available : MethodName := ⟨RX7, "available", "(II)I"⟩
abbrev cX7_value : ByteArray := prog_1_method_18_code
def yX7_value : MethodName := ⟨RX7, "value", "(IIZ)J"⟩
abbrev cX7_received : ByteArray := prog_1_method_19_code
def yX7_received : MethodName := ⟨RX7, "received", "(II)J"⟩
abbrev cX7_issued : ByteArray := prog_1_method_20_code
def yX7_issued : MethodName := ⟨RX7, "issued", "(IIZ)J"⟩
abbrev cX7_revalued : ByteArray := prog_1_method_21_code
def yX7_revalued : MethodName := ⟨RX7, "revalued", "(IIZ)J"⟩
abbrev cX7_expensed : ByteArray := prog_1_method_22_code
def yX7_expensed : MethodName := ⟨RX7, "expensed", "(IIZ)J"⟩
abbrev cX7_layers : ByteArray := prog_1_method_23_code
def yX7_layers : MethodName := ⟨RX7, "layers", "(II)I"⟩
abbrev cX7_layerQuantity : ByteArray := prog_1_method_24_code
def yX7_layerQuantity : MethodName := ⟨RX7, "layerQuantity", "(III)I"⟩
abbrev cX7_layerCost : ByteArray := prog_1_method_25_code
def yX7_layerCost : MethodName := ⟨RX7, "layerCost", "(III)J"⟩
abbrev cX7_layerOrigin : ByteArray := prog_1_method_26_code
def yX7_layerOrigin : MethodName := ⟨RX7, "layerOrigin", "(III)I"⟩
abbrev cX7_checkRange : ByteArray := prog_1_method_27_code
def yX7_checkRange : MethodName := ⟨RX7, "checkRange", "(III)V"⟩
abbrev cX7_checkItemAndDay : ByteArray := prog_1_method_28_code
def yX7_checkItemAndDay : MethodName := ⟨RX7, "checkItemAndDay", "(II)V"⟩
abbrev cX7_checkOpen : ByteArray := prog_1_method_29_code
def yX7_checkOpen : MethodName := ⟨RX7, "checkOpen", "(I)V"⟩
abbrev cX7_checkPosting : ByteArray := prog_1_method_30_code
def yX7_checkPosting : MethodName := ⟨RX7, "checkPosting", "(I)V"⟩
abbrev cX7_checkOnHand : ByteArray := prog_1_method_31_code
def yX7_checkOnHand : MethodName := ⟨RX7, "checkOnHand", "(II)V"⟩
abbrev cX7_checkReceipts : ByteArray := prog_1_method_32_code
def yX7_checkReceipts : MethodName := ⟨RX7, "checkReceipts", "(JI)V"⟩
abbrev cX7_checkDispensable : ByteArray := prog_1_method_33_code
def yX7_checkDispensable : MethodName := ⟨RX7, "checkDispensable", "(LLayerbook$Movement;)V"⟩
abbrev cX7_find : ByteArray := prog_1_method_34_code
def yX7_find : MethodName := ⟨RX7, "find", "(I)LLayerbook$Movement;"⟩
abbrev cX7_findLayer : ByteArray := prog_1_method_35_code
def yX7_findLayer : MethodName := ⟨RX7, "findLayer", "(III)LLayerbook$Layer;"⟩
abbrev cX7_post : ByteArray := prog_1_method_36_code
def yX7_post : MethodName := ⟨RX7, "post", "(LLayerbook$Movement;)I"⟩
abbrev cX7_replayed : ByteArray := prog_1_method_37_code
def yX7_replayed : MethodName := ⟨RX7, "replayed", "(IIZ)LLayerbook$Valuation;"⟩
abbrev cX7_weightOf : ByteArray := prog_1_method_38_code
def yX7_weightOf : MethodName := ⟨RX7, "weightOf", "(I)I"⟩
abbrev cX7_chosen : ByteArray := prog_1_method_39_code
def yX7_chosen : MethodName := ⟨RX7, "chosen", "(JI)LLayerbook$Movement;"⟩
abbrev cX7_basisOf : ByteArray := prog_1_method_40_code
def yX7_basisOf : MethodName := ⟨RX7, "basisOf", "(LLayerbook$Movement;I)J"⟩
abbrev cX7_sumOfBasis : ByteArray := prog_1_method_41_code
def yX7_sumOfBasis : MethodName := ⟨RX7, "sumOfBasis", "(JI)J"⟩
abbrev cX7_spread : ByteArray := prog_1_method_42_code
def yX7_spread : MethodName := ⟨RX7, "spread", "(IIJJ)LLayerbook$Share;"⟩
abbrev cX7_giveCent : ByteArray := prog_1_method_43_code
def yX7_giveCent : MethodName := ⟨RX7, "giveCent", "(LLayerbook$Share;)V"⟩
def RX8 : String := "LayerbookModel"
def TX8 : u_T := fun k => match k with
  | 0 => ("LayerbookModel", "kinds", "[I", true)
  | 1 => ("LayerbookModel", "days", "[I", true)
  | 2 => ("LayerbookModel", "items", "[I", true)
  | 3 => ("LayerbookModel", "quantities", "[I", true)
  | 4 => ("LayerbookModel", "costs", "[I", true)
  | 5 => ("LayerbookModel", "isGone", "[Z", true)
  | 6 => ("LayerbookModel", "spread", "[J", true)
  | 7 => ("LayerbookModel", "parts", "[I", true)
  | 8 => ("LayerbookModel", "many", "I", false)
  | 9 => ("LayerbookModel", "closed", "I", false)
  | 10 => ("LayerbookModel", "weights", "[I", true)
  | 11 => ("LayerbookModel", "ledger", "[I", true)
  | 12 => ("LayerbookModel", "places", "I", false)
  | 13 => ("LayerbookModel", "hand", "I", false)
  | 14 => ("LayerbookModel", "average", "J", false)
  | 15 => ("LayerbookModel", "received", "J", false)
  | 16 => ("LayerbookModel", "issued", "[J", true)
  | 17 => ("LayerbookModel", "revalued", "[J", true)
  | 18 => ("LayerbookModel", "expensed", "[J", true)
  | 19 => ("LayerbookModel", "issueCosts", "[J", true)
  | 20 => ("LayerbookModel", "layers", "I", false)
  | 21 => ("LayerbookModel", "layerQuantities", "[I", true)
  | 22 => ("LayerbookModel", "layerCosts", "[J", true)
  | 23 => ("LayerbookModel", "origins", "[I", true)
  | 24 => ("LayerbookModel", "remainders", "[J", true)
  | _ => ("LayerbookModel", "thrown", "I", false)
def tyX8 : Nat → FieldType := fun k => match k with
  | 0 => .array .int
  | 1 => .array .int
  | 2 => .array .int
  | 3 => .array .int
  | 4 => .array .int
  | 5 => .array .boolean
  | 6 => .array .long
  | 7 => .array .int
  | 8 => .int
  | 9 => .int
  | 10 => .array .int
  | 11 => .array .int
  | 12 => .int
  | 13 => .int
  | 14 => .long
  | 15 => .long
  | 16 => .array .long
  | 17 => .array .long
  | 18 => .array .long
  | 19 => .array .long
  | 20 => .int
  | 21 => .array .int
  | 22 => .array .long
  | 23 => .array .int
  | 24 => .array .long
  | _ => .int
abbrev wsX80 : List Cond := u_ws RX8 TX8 26
theorem nmX8 : ∀ a, a < 26 → ∀ b, b < 26 → a ≠ b → (TX8 a).2.1 ≠ (TX8 b).2.1 := by decide +kernel
theorem tyX8_ok : ∀ k, k < 26 → parseFieldDescriptor (TX8 k).2.2.1 = some (tyX8 k) := by decide +kernel
abbrev cX8_init : ByteArray := prog_10_method_1_code
def yX8_init : MethodName := ⟨RX8, "<init>", "()V"⟩
abbrev cX8_thrown : ByteArray := prog_10_method_2_code
def yX8_thrown : MethodName := ⟨RX8, "thrown", "()I"⟩
abbrev cX8_goes : ByteArray := prog_10_method_3_code
def yX8_goes : MethodName := ⟨RX8, "goes", "(I)Z"⟩
abbrev cX8_isIn : ByteArray := prog_10_method_4_code
def yX8_isIn : MethodName := ⟨RX8, "isIn", "(III)Z"⟩
abbrev cX8_isDay : ByteArray := prog_10_method_5_code
def yX8_isDay : MethodName := ⟨RX8, "isDay", "(I)Z"⟩
abbrev cX8_isItem : ByteArray := prog_10_method_6_code
def yX8_isItem : MethodName := ⟨RX8, "isItem", "(I)Z"⟩
abbrev cX8_isMovement : ByteArray := prog_10_method_7_code
def yX8_isMovement : MethodName := ⟨RX8, "isMovement", "(I)Z"⟩
abbrev cX8_isShut : ByteArray := prog_10_method_8_code
def yX8_isShut : MethodName := ⟨RX8, "isShut", "(I)Z"⟩
abbrev cX8_orders : ByteArray := prog_10_method_9_code
def yX8_orders : MethodName := ⟨RX8, "orders", "()V"⟩
abbrev cX8_change : ByteArray := prog_10_method_10_code
def yX8_change : MethodName := ⟨RX8, "change", "(II)I"⟩
abbrev cX8_takesUnits : ByteArray := prog_10_method_11_code
def yX8_takesUnits : MethodName := ⟨RX8, "takesUnits", "(II)Z"⟩
abbrev cX8_isValid : ByteArray := prog_10_method_12_code
def yX8_isValid : MethodName := ⟨RX8, "isValid", "(I)Z"⟩
abbrev cX8_posts : ByteArray := prog_10_method_13_code
def yX8_posts : MethodName := ⟨RX8, "posts", "(IIIII)Z"⟩
abbrev cX8_wrong : ByteArray := prog_10_method_14_code
def yX8_wrong : MethodName := ⟨RX8, "wrong", "(IIII)I"⟩
abbrev cX8_post : ByteArray := prog_10_method_15_code
def yX8_post : MethodName := ⟨RX8, "post", "(IIIII)I"⟩
abbrev cX8_receive : ByteArray := prog_10_method_16_code
def yX8_receive : MethodName := ⟨RX8, "receive", "(IIII)I"⟩
abbrev cX8_issue : ByteArray := prog_10_method_17_code
def yX8_issue : MethodName := ⟨RX8, "issue", "(III)I"⟩
abbrev cX8_revalue : ByteArray := prog_10_method_18_code
def yX8_revalue : MethodName := ⟨RX8, "revalue", "(IIII)I"⟩
abbrev cX8_has : ByteArray := prog_10_method_19_code
def yX8_has : MethodName := ⟨RX8, "has", "(JI)Z"⟩
abbrev cX8_basisOf : ByteArray := prog_10_method_20_code
def yX8_basisOf : MethodName := ⟨RX8, "basisOf", "(II)J"⟩
abbrev cX8_sumOf : ByteArray := prog_10_method_21_code
def yX8_sumOf : MethodName := ⟨RX8, "sumOf", "(JI)J"⟩
abbrev cX8_areReceipts : ByteArray := prog_10_method_22_code
def yX8_areReceipts : MethodName := ⟨RX8, "areReceipts", "(JI)Z"⟩
abbrev cX8_areMovements : ByteArray := prog_10_method_23_code
def yX8_areMovements : MethodName := ⟨RX8, "areMovements", "(J)Z"⟩
abbrev cX8_next : ByteArray := prog_10_method_24_code
def yX8_next : MethodName := ⟨RX8, "next", "()I"⟩
abbrev cX8_spreads : ByteArray := prog_10_method_25_code
def yX8_spreads : MethodName := ⟨RX8, "spreads", "(IIIJ)V"⟩
abbrev cX8_land : ByteArray := prog_10_method_26_code
def yX8_land : MethodName := ⟨RX8, "land", "(IIIJ)I"⟩
abbrev cX8_isLanded : ByteArray := prog_10_method_27_code
def yX8_isLanded : MethodName := ⟨RX8, "isLanded", "(I)Z"⟩
abbrev cX8_isSpreadOver : ByteArray := prog_10_method_28_code
def yX8_isSpreadOver : MethodName := ⟨RX8, "isSpreadOver", "(II)Z"⟩
abbrev cX8_cancel : ByteArray := prog_10_method_29_code
def yX8_cancel : MethodName := ⟨RX8, "cancel", "(I)I"⟩
abbrev cX8_close : ByteArray := prog_10_method_30_code
def yX8_close : MethodName := ⟨RX8, "close", "(I)I"⟩
abbrev cX8_setWeight : ByteArray := prog_10_method_31_code
def yX8_setWeight : MethodName := ⟨RX8, "setWeight", "(II)I"⟩
abbrev cX8_movements : ByteArray := prog_10_method_32_code
def yX8_movements : MethodName := ⟨RX8, "movements", "()I"⟩
abbrev cX8_kindOf : ByteArray := prog_10_method_33_code
def yX8_kindOf : MethodName := ⟨RX8, "kindOf", "(I)I"⟩
abbrev cX8_dayOf : ByteArray := prog_10_method_34_code
def yX8_dayOf : MethodName := ⟨RX8, "dayOf", "(I)I"⟩
abbrev cX8_isCancelled : ByteArray := prog_10_method_35_code
def yX8_isCancelled : MethodName := ⟨RX8, "isCancelled", "(I)Z"⟩
abbrev cX8_placeOf : ByteArray := prog_10_method_36_code
def yX8_placeOf : MethodName := ⟨RX8, "placeOf", "(I)I"⟩
abbrev cX8_partOf : ByteArray := prog_10_method_37_code
def yX8_partOf : MethodName := ⟨RX8, "partOf", "(II)I"⟩
abbrev cX8_drops : ByteArray := prog_10_method_38_code
def yX8_drops : MethodName := ⟨RX8, "drops", "()V"⟩
abbrev cX8_takes : ByteArray := prog_10_method_39_code
def yX8_takes : MethodName := ⟨RX8, "takes", "(I)J"⟩
abbrev cX8_lays : ByteArray := prog_10_method_40_code
def yX8_lays : MethodName := ⟨RX8, "lays", "(II)V"⟩
abbrev cX8_layerOf : ByteArray := prog_10_method_41_code
def yX8_layerOf : MethodName := ⟨RX8, "layerOf", "(I)I"⟩
abbrev cX8_lands : ByteArray := prog_10_method_42_code
def yX8_lands : MethodName := ⟨RX8, "lands", "(II)V"⟩
abbrev cX8_moves : ByteArray := prog_10_method_43_code
def yX8_moves : MethodName := ⟨RX8, "moves", "(I)V"⟩
abbrev cX8_walks : ByteArray := prog_10_method_44_code
def yX8_walks : MethodName := ⟨RX8, "walks", "(II)V"⟩
abbrev cX8_asks : ByteArray := prog_10_method_45_code
def yX8_asks : MethodName := ⟨RX8, "asks", "(II)Z"⟩
abbrev cX8_costOf : ByteArray := prog_10_method_46_code
def yX8_costOf : MethodName := ⟨RX8, "costOf", "(IZ)J"⟩
abbrev cX8_onHand : ByteArray := prog_10_method_47_code
def yX8_onHand : MethodName := ⟨RX8, "onHand", "(II)I"⟩
abbrev cX8_available : ByteArray := prog_10_method_48_code
def yX8_available : MethodName := ⟨RX8, "available", "(II)I"⟩
abbrev cX8_handAt : ByteArray := prog_10_method_49_code
def yX8_handAt : MethodName := ⟨RX8, "handAt", "(II)I"⟩
abbrev cX8_value : ByteArray := prog_10_method_50_code
def yX8_value : MethodName := ⟨RX8, "value", "(IIZ)J"⟩
abbrev cX8_received : ByteArray := prog_10_method_51_code
def yX8_received : MethodName := ⟨RX8, "received", "(II)J"⟩
abbrev cX8_issued : ByteArray := prog_10_method_52_code
def yX8_issued : MethodName := ⟨RX8, "issued", "(IIZ)J"⟩
abbrev cX8_revalued : ByteArray := prog_10_method_53_code
def yX8_revalued : MethodName := ⟨RX8, "revalued", "(IIZ)J"⟩
abbrev cX8_expensed : ByteArray := prog_10_method_54_code
def yX8_expensed : MethodName := ⟨RX8, "expensed", "(IIZ)J"⟩
abbrev cX8_layers : ByteArray := prog_10_method_55_code
def yX8_layers : MethodName := ⟨RX8, "layers", "(II)I"⟩
abbrev cX8_asksLayer : ByteArray := prog_10_method_56_code
def yX8_asksLayer : MethodName := ⟨RX8, "asksLayer", "(III)Z"⟩
abbrev cX8_layerQuantity : ByteArray := prog_10_method_57_code
def yX8_layerQuantity : MethodName := ⟨RX8, "layerQuantity", "(III)I"⟩
abbrev cX8_layerCost : ByteArray := prog_10_method_58_code
def yX8_layerCost : MethodName := ⟨RX8, "layerCost", "(III)J"⟩
abbrev cX8_layerOrigin : ByteArray := prog_10_method_59_code
def yX8_layerOrigin : MethodName := ⟨RX8, "layerOrigin", "(III)I"⟩
def RJ9 : String := "java/lang/Math"
def TJ9 : u_T := fun k => match k with
  | _ => ("", "", "", false)
def tyJ9 : Nat → FieldType := fun k => match k with
  | _ => .int
abbrev wsJ90 : List Cond := u_ws RJ9 TJ9 0
theorem nmJ9 : ∀ a, a < 0 → ∀ b, b < 0 → a ≠ b → (TJ9 a).2.1 ≠ (TJ9 b).2.1 := by decide +kernel
theorem tyJ9_ok : ∀ k, k < 0 → parseFieldDescriptor (TJ9 k).2.2.1 = some (tyJ9 k) := by decide +kernel
abbrev cJ9_min_7cf53 : ByteArray := prog_15_method_69_code
def yJ9_min_7cf53 : MethodName := ⟨RJ9, "min", "(II)I"⟩
def RJ0 : String := "java/lang/String"
def TJ0 : u_T := fun k => match k with
  | _ => ("", "", "", false)
def tyJ0 : Nat → FieldType := fun k => match k with
  | _ => .int
abbrev wsJ00 : List Cond := u_ws RJ0 TJ0 0
theorem nmJ0 : ∀ a, a < 0 → ∀ b, b < 0 → a ≠ b → (TJ0 a).2.1 ≠ (TJ0 b).2.1 := by decide +kernel
theorem tyJ0_ok : ∀ k, k < 0 → parseFieldDescriptor (TJ0 k).2.2.1 = some (tyJ0 k) := by decide +kernel
def RL : String := "LayerbookLaw"
abbrev cL_receive : ByteArray := method_3_code
def yL_receive : MethodName := ⟨RL, "receive", "(LLayerbook;IIII[J)I"⟩
abbrev cL_issue : ByteArray := method_4_code
def yL_issue : MethodName := ⟨RL, "issue", "(LLayerbook;III[J)I"⟩
abbrev cL_revalue : ByteArray := method_5_code
def yL_revalue : MethodName := ⟨RL, "revalue", "(LLayerbook;IIII[J)I"⟩
abbrev cL_land : ByteArray := method_6_code
def yL_land : MethodName := ⟨RL, "land", "(LLayerbook;IIIJ[J)I"⟩
abbrev cL_cancel : ByteArray := method_7_code
def yL_cancel : MethodName := ⟨RL, "cancel", "(LLayerbook;I[J)I"⟩
abbrev cL_close : ByteArray := method_8_code
def yL_close : MethodName := ⟨RL, "close", "(LLayerbook;I[J)I"⟩
abbrev cL_setWeight : ByteArray := method_9_code
def yL_setWeight : MethodName := ⟨RL, "setWeight", "(LLayerbook;II[J)I"⟩
abbrev cL_kindOf : ByteArray := method_10_code
def yL_kindOf : MethodName := ⟨RL, "kindOf", "(LLayerbook;I[J)I"⟩
abbrev cL_dayOf : ByteArray := method_11_code
def yL_dayOf : MethodName := ⟨RL, "dayOf", "(LLayerbook;I[J)I"⟩
abbrev cL_isCancelled : ByteArray := method_12_code
def yL_isCancelled : MethodName := ⟨RL, "isCancelled", "(LLayerbook;I[J)I"⟩
abbrev cL_placeOf : ByteArray := method_13_code
def yL_placeOf : MethodName := ⟨RL, "placeOf", "(LLayerbook;I[J)I"⟩
abbrev cL_partOf : ByteArray := method_14_code
def yL_partOf : MethodName := ⟨RL, "partOf", "(LLayerbook;II[J)I"⟩
abbrev cL_costOf : ByteArray := method_15_code
def yL_costOf : MethodName := ⟨RL, "costOf", "(LLayerbook;IZ[J)I"⟩
abbrev cL_onHand : ByteArray := method_16_code
def yL_onHand : MethodName := ⟨RL, "onHand", "(LLayerbook;II[J)I"⟩
abbrev cL_available : ByteArray := method_17_code
def yL_available : MethodName := ⟨RL, "available", "(LLayerbook;II[J)I"⟩
abbrev cL_value : ByteArray := method_18_code
def yL_value : MethodName := ⟨RL, "value", "(LLayerbook;IIZ[J)I"⟩
abbrev cL_received : ByteArray := method_19_code
def yL_received : MethodName := ⟨RL, "received", "(LLayerbook;II[J)I"⟩
abbrev cL_issued : ByteArray := method_20_code
def yL_issued : MethodName := ⟨RL, "issued", "(LLayerbook;IIZ[J)I"⟩
abbrev cL_revalued : ByteArray := method_21_code
def yL_revalued : MethodName := ⟨RL, "revalued", "(LLayerbook;IIZ[J)I"⟩
abbrev cL_expensed : ByteArray := method_22_code
def yL_expensed : MethodName := ⟨RL, "expensed", "(LLayerbook;IIZ[J)I"⟩
abbrev cL_layers : ByteArray := method_23_code
def yL_layers : MethodName := ⟨RL, "layers", "(LLayerbook;II[J)I"⟩
abbrev cL_layerQuantity : ByteArray := method_24_code
def yL_layerQuantity : MethodName := ⟨RL, "layerQuantity", "(LLayerbook;III[J)I"⟩
abbrev cL_layerCost : ByteArray := method_25_code
def yL_layerCost : MethodName := ⟨RL, "layerCost", "(LLayerbook;III[J)I"⟩
abbrev cL_layerOrigin : ByteArray := method_26_code
def yL_layerOrigin : MethodName := ⟨RL, "layerOrigin", "(LLayerbook;III[J)I"⟩
abbrev cL_law : ByteArray := code
def yL_law : MethodName := ⟨RL, "law", "([I)Z"⟩
abbrev vwCl : List vw_C := [(RX0, TX0, 7), (RX1, TX1, 4), (RX2, TX2, 2), (RX3, TX3, 11), (RX4, TX4, 6), (RX5, TX5, 4), (RX7, TX7, 7), (RX8, TX8, 26)]
end
section
theorem dX0_init_0 : decode cX0_init 0 = .ok (.aload_n 0, 1) := by decide +kernel
theorem dX0_init_1 : decode cX0_init 1 = .ok (.invokespecial 1, 3) := by decide +kernel
theorem dX0_init_4 : decode cX0_init 4 = .ok (.return_, 1) := by decide +kernel
theorem dX0_empty_0 : decode cX0_empty 0 = .ok (.aload_n 0, 1) := by decide +kernel
theorem dX0_empty_1 : decode cX0_empty 1 = .ok (.aconst_null, 1) := by decide +kernel
theorem dX0_empty_2 : decode cX0_empty 2 = .ok (.putfield 7, 3) := by decide +kernel
theorem dX0_empty_5 : decode cX0_empty 5 = .ok (.aload_n 0, 1) := by decide +kernel
theorem dX0_empty_6 : decode cX0_empty 6 = .ok (.aconst_null, 1) := by decide +kernel
theorem dX0_empty_7 : decode cX0_empty 7 = .ok (.putfield 13, 3) := by decide +kernel
theorem dX0_empty_10 : decode cX0_empty 10 = .ok (.return_, 1) := by decide +kernel
theorem dX0_bring_0 : decode cX0_bring 0 = .ok (.aload_n 1, 1) := by decide +kernel
theorem dX0_bring_1 : decode cX0_bring 1 = .ok (.getfield 16, 3) := by decide +kernel
theorem dX0_bring_4 : decode cX0_bring 4 = .ok (.astore_n 2, 1) := by decide +kernel
theorem dX0_bring_5 : decode cX0_bring 5 = .ok (.aload_n 2, 1) := by decide +kernel
theorem dX0_bring_6 : decode cX0_bring 6 = .ok (.aload_n 1, 1) := by decide +kernel
theorem dX0_bring_7 : decode cX0_bring 7 = .ok (.getfield 21, 3) := by decide +kernel
theorem dX0_bring_10 : decode cX0_bring 10 = .ok (.aload_n 1, 1) := by decide +kernel
theorem dX0_bring_11 : decode cX0_bring 11 = .ok (.getfield 25, 3) := by decide +kernel
theorem dX0_bring_14 : decode cX0_bring 14 = .ok (.i2l, 1) := by decide +kernel
theorem dX0_bring_15 : decode cX0_bring 15 = .ok (.aconst_null, 1) := by decide +kernel
theorem dX0_bring_16 : decode cX0_bring 16 = .ok (.invokevirtual 28, 3) := by decide +kernel
theorem dX0_bring_19 : decode cX0_bring 19 = .ok (.aload_n 0, 1) := by decide +kernel
theorem dX0_bring_20 : decode cX0_bring 20 = .ok (.getfield 13, 3) := by decide +kernel
theorem dX0_bring_23 : decode cX0_bring 23 = .ok (.ifnonnull 11, 3) := by decide +kernel
theorem dX0_bring_26 : decode cX0_bring 26 = .ok (.aload_n 0, 1) := by decide +kernel
theorem dX0_bring_27 : decode cX0_bring 27 = .ok (.aload_n 2, 1) := by decide +kernel
theorem dX0_bring_28 : decode cX0_bring 28 = .ok (.putfield 7, 3) := by decide +kernel
theorem dX0_bring_31 : decode cX0_bring 31 = .ok (.goto 11, 3) := by decide +kernel
theorem dX0_bring_34 : decode cX0_bring 34 = .ok (.aload_n 0, 1) := by decide +kernel
theorem dX0_bring_35 : decode cX0_bring 35 = .ok (.getfield 13, 3) := by decide +kernel
theorem dX0_bring_38 : decode cX0_bring 38 = .ok (.aload_n 2, 1) := by decide +kernel
theorem dX0_bring_39 : decode cX0_bring 39 = .ok (.putfield 34, 3) := by decide +kernel
theorem dX0_bring_42 : decode cX0_bring 42 = .ok (.aload_n 0, 1) := by decide +kernel
theorem dX0_bring_43 : decode cX0_bring 43 = .ok (.aload_n 2, 1) := by decide +kernel
theorem dX0_bring_44 : decode cX0_bring 44 = .ok (.putfield 13, 3) := by decide +kernel
theorem dX0_bring_47 : decode cX0_bring 47 = .ok (.return_, 1) := by decide +kernel
theorem dX0_take_0 : decode cX0_take 0 = .ok (.lconst 0, 1) := by decide +kernel
theorem dX0_take_1 : decode cX0_take 1 = .ok (.lstore_n 2, 1) := by decide +kernel
theorem dX0_take_2 : decode cX0_take 2 = .ok (.iload_n 1, 1) := by decide +kernel
theorem dX0_take_3 : decode cX0_take 3 = .ok (.istore 4, 2) := by decide +kernel
theorem dX0_take_5 : decode cX0_take 5 = .ok (.aload_n 0, 1) := by decide +kernel
theorem dX0_take_6 : decode cX0_take 6 = .ok (.getfield 7, 3) := by decide +kernel
theorem dX0_take_9 : decode cX0_take 9 = .ok (.astore 5, 2) := by decide +kernel
theorem dX0_take_11 : decode cX0_take 11 = .ok (.aload 5, 2) := by decide +kernel
theorem dX0_take_13 : decode cX0_take 13 = .ok (.ifnull 69, 3) := by decide +kernel
theorem dX0_take_16 : decode cX0_take 16 = .ok (.iload 4, 2) := by decide +kernel
theorem dX0_take_18 : decode cX0_take 18 = .ok (.ifCond .le 64, 3) := by decide +kernel
theorem dX0_take_21 : decode cX0_take 21 = .ok (.iload 4, 2) := by decide +kernel
theorem dX0_take_23 : decode cX0_take 23 = .ok (.aload 5, 2) := by decide +kernel
theorem dX0_take_25 : decode cX0_take 25 = .ok (.getfield 37, 3) := by decide +kernel
theorem dX0_take_28 : decode cX0_take 28 = .ok (.invokestatic 40, 3) := by decide +kernel
theorem dX0_take_31 : decode cX0_take 31 = .ok (.istore 6, 2) := by decide +kernel
theorem dX0_take_33 : decode cX0_take 33 = .ok (.lload_n 2, 1) := by decide +kernel
theorem dX0_take_34 : decode cX0_take 34 = .ok (.aload 5, 2) := by decide +kernel
theorem dX0_take_36 : decode cX0_take 36 = .ok (.iload 6, 2) := by decide +kernel
theorem dX0_take_38 : decode cX0_take 38 = .ok (.invokevirtual 46, 3) := by decide +kernel
theorem dX0_take_41 : decode cX0_take 41 = .ok (.ladd, 1) := by decide +kernel
theorem dX0_take_42 : decode cX0_take 42 = .ok (.lstore_n 2, 1) := by decide +kernel
theorem dX0_take_43 : decode cX0_take 43 = .ok (.iload 4, 2) := by decide +kernel
theorem dX0_take_45 : decode cX0_take 45 = .ok (.iload 6, 2) := by decide +kernel
theorem dX0_take_47 : decode cX0_take 47 = .ok (.isub, 1) := by decide +kernel
theorem dX0_take_48 : decode cX0_take 48 = .ok (.istore 4, 2) := by decide +kernel
theorem dX0_take_50 : decode cX0_take 50 = .ok (.aload_n 0, 1) := by decide +kernel
theorem dX0_take_51 : decode cX0_take 51 = .ok (.aload 5, 2) := by decide +kernel
theorem dX0_take_53 : decode cX0_take 53 = .ok (.getfield 37, 3) := by decide +kernel
theorem dX0_take_56 : decode cX0_take 56 = .ok (.ifCond .le 8, 3) := by decide +kernel
theorem dX0_take_59 : decode cX0_take 59 = .ok (.aload 5, 2) := by decide +kernel
theorem dX0_take_61 : decode cX0_take 61 = .ok (.goto 8, 3) := by decide +kernel
theorem dX0_take_64 : decode cX0_take 64 = .ok (.aload 5, 2) := by decide +kernel
theorem dX0_take_66 : decode cX0_take 66 = .ok (.getfield 34, 3) := by decide +kernel
theorem dX0_take_69 : decode cX0_take 69 = .ok (.putfield 7, 3) := by decide +kernel
theorem dX0_take_72 : decode cX0_take 72 = .ok (.aload 5, 2) := by decide +kernel
theorem dX0_take_74 : decode cX0_take 74 = .ok (.getfield 34, 3) := by decide +kernel
theorem dX0_take_77 : decode cX0_take 77 = .ok (.astore 5, 2) := by decide +kernel
theorem dX0_take_79 : decode cX0_take 79 = .ok (.goto (-68), 3) := by decide +kernel
theorem dX0_take_82 : decode cX0_take 82 = .ok (.aload_n 0, 1) := by decide +kernel
theorem dX0_take_83 : decode cX0_take 83 = .ok (.getfield 7, 3) := by decide +kernel
theorem dX0_take_86 : decode cX0_take 86 = .ok (.ifnonnull 8, 3) := by decide +kernel
theorem dX0_take_89 : decode cX0_take 89 = .ok (.aload_n 0, 1) := by decide +kernel
theorem dX0_take_90 : decode cX0_take 90 = .ok (.aconst_null, 1) := by decide +kernel
theorem dX0_take_91 : decode cX0_take 91 = .ok (.putfield 13, 3) := by decide +kernel
theorem dX0_take_94 : decode cX0_take 94 = .ok (.lload_n 2, 1) := by decide +kernel
theorem dX0_take_95 : decode cX0_take 95 = .ok (.lreturn, 1) := by decide +kernel
theorem dX0_bringBack_0 : decode cX0_bringBack 0 = .ok (.aload_n 1, 1) := by decide +kernel
theorem dX0_bringBack_1 : decode cX0_bringBack 1 = .ok (.getfield 16, 3) := by decide +kernel
theorem dX0_bringBack_4 : decode cX0_bringBack 4 = .ok (.astore_n 2, 1) := by decide +kernel
theorem dX0_bringBack_5 : decode cX0_bringBack 5 = .ok (.aload_n 2, 1) := by decide +kernel
theorem dX0_bringBack_6 : decode cX0_bringBack 6 = .ok (.aload_n 1, 1) := by decide +kernel
theorem dX0_bringBack_7 : decode cX0_bringBack 7 = .ok (.getfield 21, 3) := by decide +kernel
theorem dX0_bringBack_10 : decode cX0_bringBack 10 = .ok (.aload_n 1, 1) := by decide +kernel
theorem dX0_bringBack_11 : decode cX0_bringBack 11 = .ok (.getfield 25, 3) := by decide +kernel
theorem dX0_bringBack_14 : decode cX0_bringBack 14 = .ok (.i2l, 1) := by decide +kernel
theorem dX0_bringBack_15 : decode cX0_bringBack 15 = .ok (.aload_n 0, 1) := by decide +kernel
theorem dX0_bringBack_16 : decode cX0_bringBack 16 = .ok (.getfield 7, 3) := by decide +kernel
theorem dX0_bringBack_19 : decode cX0_bringBack 19 = .ok (.invokevirtual 28, 3) := by decide +kernel
theorem dX0_bringBack_22 : decode cX0_bringBack 22 = .ok (.aload_n 0, 1) := by decide +kernel
theorem dX0_bringBack_23 : decode cX0_bringBack 23 = .ok (.aload_n 2, 1) := by decide +kernel
theorem dX0_bringBack_24 : decode cX0_bringBack 24 = .ok (.putfield 7, 3) := by decide +kernel
theorem dX0_bringBack_27 : decode cX0_bringBack 27 = .ok (.aload_n 0, 1) := by decide +kernel
theorem dX0_bringBack_28 : decode cX0_bringBack 28 = .ok (.getfield 13, 3) := by decide +kernel
theorem dX0_bringBack_31 : decode cX0_bringBack 31 = .ok (.ifnonnull 8, 3) := by decide +kernel
theorem dX0_bringBack_34 : decode cX0_bringBack 34 = .ok (.aload_n 0, 1) := by decide +kernel
theorem dX0_bringBack_35 : decode cX0_bringBack 35 = .ok (.aload_n 2, 1) := by decide +kernel
theorem dX0_bringBack_36 : decode cX0_bringBack 36 = .ok (.putfield 13, 3) := by decide +kernel
theorem dX0_bringBack_39 : decode cX0_bringBack 39 = .ok (.return_, 1) := by decide +kernel
theorem dX0_absorb_0 : decode cX0_absorb 0 = .ok (.aload_n 1, 1) := by decide +kernel
theorem dX0_absorb_1 : decode cX0_absorb 1 = .ok (.getfield 16, 3) := by decide +kernel
theorem dX0_absorb_4 : decode cX0_absorb 4 = .ok (.astore_n 3, 1) := by decide +kernel
theorem dX0_absorb_5 : decode cX0_absorb 5 = .ok (.aload_n 1, 1) := by decide +kernel
theorem dX0_absorb_6 : decode cX0_absorb 6 = .ok (.iload_n 2, 1) := by decide +kernel
theorem dX0_absorb_7 : decode cX0_absorb 7 = .ok (.aload_n 3, 1) := by decide +kernel
theorem dX0_absorb_8 : decode cX0_absorb 8 = .ok (.getfield 37, 3) := by decide +kernel
theorem dX0_absorb_11 : decode cX0_absorb 11 = .ok (.invokestatic 50, 3) := by decide +kernel
theorem dX0_absorb_14 : decode cX0_absorb 14 = .ok (.lstore 4, 2) := by decide +kernel
theorem dX0_absorb_16 : decode cX0_absorb 16 = .ok (.aload_n 3, 1) := by decide +kernel
theorem dX0_absorb_17 : decode cX0_absorb 17 = .ok (.dup, 1) := by decide +kernel
theorem dX0_absorb_18 : decode cX0_absorb 18 = .ok (.getfield 54, 3) := by decide +kernel
theorem dX0_absorb_21 : decode cX0_absorb 21 = .ok (.lload 4, 2) := by decide +kernel
theorem dX0_absorb_23 : decode cX0_absorb 23 = .ok (.ladd, 1) := by decide +kernel
theorem dX0_absorb_24 : decode cX0_absorb 24 = .ok (.putfield 54, 3) := by decide +kernel
theorem dX0_absorb_27 : decode cX0_absorb 27 = .ok (.lload 4, 2) := by decide +kernel
theorem dX0_absorb_29 : decode cX0_absorb 29 = .ok (.lreturn, 1) := by decide +kernel
theorem dX0_worth_0 : decode cX0_worth 0 = .ok (.lconst 0, 1) := by decide +kernel
theorem dX0_worth_1 : decode cX0_worth 1 = .ok (.lstore_n 1, 1) := by decide +kernel
theorem dX0_worth_2 : decode cX0_worth 2 = .ok (.aload_n 0, 1) := by decide +kernel
theorem dX0_worth_3 : decode cX0_worth 3 = .ok (.getfield 7, 3) := by decide +kernel
theorem dX0_worth_6 : decode cX0_worth 6 = .ok (.astore_n 3, 1) := by decide +kernel
theorem dX0_worth_7 : decode cX0_worth 7 = .ok (.aload_n 3, 1) := by decide +kernel
theorem dX0_worth_8 : decode cX0_worth 8 = .ok (.ifnull 18, 3) := by decide +kernel
theorem dX0_worth_11 : decode cX0_worth 11 = .ok (.lload_n 1, 1) := by decide +kernel
theorem dX0_worth_12 : decode cX0_worth 12 = .ok (.aload_n 3, 1) := by decide +kernel
theorem dX0_worth_13 : decode cX0_worth 13 = .ok (.getfield 54, 3) := by decide +kernel
theorem dX0_worth_16 : decode cX0_worth 16 = .ok (.ladd, 1) := by decide +kernel
theorem dX0_worth_17 : decode cX0_worth 17 = .ok (.lstore_n 1, 1) := by decide +kernel
theorem dX0_worth_18 : decode cX0_worth 18 = .ok (.aload_n 3, 1) := by decide +kernel
theorem dX0_worth_19 : decode cX0_worth 19 = .ok (.getfield 34, 3) := by decide +kernel
theorem dX0_worth_22 : decode cX0_worth 22 = .ok (.astore_n 3, 1) := by decide +kernel
theorem dX0_worth_23 : decode cX0_worth 23 = .ok (.goto (-16), 3) := by decide +kernel
theorem dX0_worth_26 : decode cX0_worth 26 = .ok (.lload_n 1, 1) := by decide +kernel
theorem dX0_worth_27 : decode cX0_worth 27 = .ok (.lreturn, 1) := by decide +kernel
theorem dX0_length_0 : decode cX0_length 0 = .ok (.iconst 0, 1) := by decide +kernel
theorem dX0_length_1 : decode cX0_length 1 = .ok (.istore_n 1, 1) := by decide +kernel
theorem dX0_length_2 : decode cX0_length 2 = .ok (.aload_n 0, 1) := by decide +kernel
theorem dX0_length_3 : decode cX0_length 3 = .ok (.getfield 7, 3) := by decide +kernel
theorem dX0_length_6 : decode cX0_length 6 = .ok (.astore_n 2, 1) := by decide +kernel
theorem dX0_length_7 : decode cX0_length 7 = .ok (.aload_n 2, 1) := by decide +kernel
theorem dX0_length_8 : decode cX0_length 8 = .ok (.ifnull 14, 3) := by decide +kernel
theorem dX0_length_11 : decode cX0_length 11 = .ok (.iinc 1 1, 3) := by decide +kernel
theorem dX0_length_14 : decode cX0_length 14 = .ok (.aload_n 2, 1) := by decide +kernel
theorem dX0_length_15 : decode cX0_length 15 = .ok (.getfield 34, 3) := by decide +kernel
theorem dX0_length_18 : decode cX0_length 18 = .ok (.astore_n 2, 1) := by decide +kernel
theorem dX0_length_19 : decode cX0_length 19 = .ok (.goto (-12), 3) := by decide +kernel
theorem dX0_length_22 : decode cX0_length 22 = .ok (.iload_n 1, 1) := by decide +kernel
theorem dX0_length_23 : decode cX0_length 23 = .ok (.ireturn, 1) := by decide +kernel
theorem dX0_layerAt_0 : decode cX0_layerAt 0 = .ok (.iload_n 1, 1) := by decide +kernel
theorem dX0_layerAt_1 : decode cX0_layerAt 1 = .ok (.ifCond .ge 7, 3) := by decide +kernel
theorem dX0_layerAt_4 : decode cX0_layerAt 4 = .ok (.aconst_null, 1) := by decide +kernel
theorem dX0_layerAt_5 : decode cX0_layerAt 5 = .ok (.goto 7, 3) := by decide +kernel
theorem dX0_layerAt_8 : decode cX0_layerAt 8 = .ok (.aload_n 0, 1) := by decide +kernel
theorem dX0_layerAt_9 : decode cX0_layerAt 9 = .ok (.getfield 7, 3) := by decide +kernel
theorem dX0_layerAt_12 : decode cX0_layerAt 12 = .ok (.astore_n 2, 1) := by decide +kernel
theorem dX0_layerAt_13 : decode cX0_layerAt 13 = .ok (.iconst 0, 1) := by decide +kernel
theorem dX0_layerAt_14 : decode cX0_layerAt 14 = .ok (.istore_n 3, 1) := by decide +kernel
theorem dX0_layerAt_15 : decode cX0_layerAt 15 = .ok (.iload_n 3, 1) := by decide +kernel
theorem dX0_layerAt_16 : decode cX0_layerAt 16 = .ok (.iload_n 1, 1) := by decide +kernel
theorem dX0_layerAt_17 : decode cX0_layerAt 17 = .ok (.if_icmp .ge 18, 3) := by decide +kernel
theorem dX0_layerAt_20 : decode cX0_layerAt 20 = .ok (.aload_n 2, 1) := by decide +kernel
theorem dX0_layerAt_21 : decode cX0_layerAt 21 = .ok (.ifnull 14, 3) := by decide +kernel
theorem dX0_layerAt_24 : decode cX0_layerAt 24 = .ok (.aload_n 2, 1) := by decide +kernel
theorem dX0_layerAt_25 : decode cX0_layerAt 25 = .ok (.getfield 34, 3) := by decide +kernel
theorem dX0_layerAt_28 : decode cX0_layerAt 28 = .ok (.astore_n 2, 1) := by decide +kernel
theorem dX0_layerAt_29 : decode cX0_layerAt 29 = .ok (.iinc 3 1, 3) := by decide +kernel
theorem dX0_layerAt_32 : decode cX0_layerAt 32 = .ok (.goto (-17), 3) := by decide +kernel
theorem dX0_layerAt_35 : decode cX0_layerAt 35 = .ok (.aload_n 2, 1) := by decide +kernel
theorem dX0_layerAt_36 : decode cX0_layerAt 36 = .ok (.areturn, 1) := by decide +kernel
theorem dX1_init_0 : decode cX1_init 0 = .ok (.aload_n 0, 1) := by decide +kernel
theorem dX1_init_1 : decode cX1_init 1 = .ok (.invokespecial 1, 3) := by decide +kernel
theorem dX1_init_4 : decode cX1_init 4 = .ok (.aload_n 0, 1) := by decide +kernel
theorem dX1_init_5 : decode cX1_init 5 = .ok (.iload_n 1, 1) := by decide +kernel
theorem dX1_init_6 : decode cX1_init 6 = .ok (.putfield 7, 3) := by decide +kernel
theorem dX1_init_9 : decode cX1_init 9 = .ok (.return_, 1) := by decide +kernel
theorem dX1_fill_0 : decode cX1_fill 0 = .ok (.aload_n 0, 1) := by decide +kernel
theorem dX1_fill_1 : decode cX1_fill 1 = .ok (.iload_n 1, 1) := by decide +kernel
theorem dX1_fill_2 : decode cX1_fill 2 = .ok (.putfield 13, 3) := by decide +kernel
theorem dX1_fill_5 : decode cX1_fill 5 = .ok (.aload_n 0, 1) := by decide +kernel
theorem dX1_fill_6 : decode cX1_fill 6 = .ok (.lload_n 2, 1) := by decide +kernel
theorem dX1_fill_7 : decode cX1_fill 7 = .ok (.putfield 16, 3) := by decide +kernel
theorem dX1_fill_10 : decode cX1_fill 10 = .ok (.aload_n 0, 1) := by decide +kernel
theorem dX1_fill_11 : decode cX1_fill 11 = .ok (.aload 4, 2) := by decide +kernel
theorem dX1_fill_13 : decode cX1_fill 13 = .ok (.putfield 20, 3) := by decide +kernel
theorem dX1_fill_16 : decode cX1_fill 16 = .ok (.return_, 1) := by decide +kernel
theorem dX1_take_0 : decode cX1_take 0 = .ok (.aload_n 0, 1) := by decide +kernel
theorem dX1_take_1 : decode cX1_take 1 = .ok (.getfield 13, 3) := by decide +kernel
theorem dX1_take_4 : decode cX1_take 4 = .ok (.ifCond .le 19, 3) := by decide +kernel
theorem dX1_take_7 : decode cX1_take 7 = .ok (.aload_n 0, 1) := by decide +kernel
theorem dX1_take_8 : decode cX1_take 8 = .ok (.getfield 16, 3) := by decide +kernel
theorem dX1_take_11 : decode cX1_take 11 = .ok (.iload_n 1, 1) := by decide +kernel
theorem dX1_take_12 : decode cX1_take 12 = .ok (.i2l, 1) := by decide +kernel
theorem dX1_take_13 : decode cX1_take 13 = .ok (.lmul, 1) := by decide +kernel
theorem dX1_take_14 : decode cX1_take 14 = .ok (.aload_n 0, 1) := by decide +kernel
theorem dX1_take_15 : decode cX1_take 15 = .ok (.getfield 13, 3) := by decide +kernel
theorem dX1_take_18 : decode cX1_take 18 = .ok (.i2l, 1) := by decide +kernel
theorem dX1_take_19 : decode cX1_take 19 = .ok (.ldiv, 1) := by decide +kernel
theorem dX1_take_20 : decode cX1_take 20 = .ok (.goto 4, 3) := by decide +kernel
theorem dX1_take_23 : decode cX1_take 23 = .ok (.lconst 0, 1) := by decide +kernel
theorem dX1_take_24 : decode cX1_take 24 = .ok (.lstore_n 2, 1) := by decide +kernel
theorem dX1_take_25 : decode cX1_take 25 = .ok (.aload_n 0, 1) := by decide +kernel
theorem dX1_take_26 : decode cX1_take 26 = .ok (.dup, 1) := by decide +kernel
theorem dX1_take_27 : decode cX1_take 27 = .ok (.getfield 13, 3) := by decide +kernel
theorem dX1_take_30 : decode cX1_take 30 = .ok (.iload_n 1, 1) := by decide +kernel
theorem dX1_take_31 : decode cX1_take 31 = .ok (.isub, 1) := by decide +kernel
theorem dX1_take_32 : decode cX1_take 32 = .ok (.putfield 13, 3) := by decide +kernel
theorem dX1_take_35 : decode cX1_take 35 = .ok (.aload_n 0, 1) := by decide +kernel
theorem dX1_take_36 : decode cX1_take 36 = .ok (.dup, 1) := by decide +kernel
theorem dX1_take_37 : decode cX1_take 37 = .ok (.getfield 16, 3) := by decide +kernel
theorem dX1_take_40 : decode cX1_take 40 = .ok (.lload_n 2, 1) := by decide +kernel
theorem dX1_take_41 : decode cX1_take 41 = .ok (.lsub, 1) := by decide +kernel
theorem dX1_take_42 : decode cX1_take 42 = .ok (.putfield 16, 3) := by decide +kernel
theorem dX1_take_45 : decode cX1_take 45 = .ok (.lload_n 2, 1) := by decide +kernel
theorem dX1_take_46 : decode cX1_take 46 = .ok (.lreturn, 1) := by decide +kernel
theorem dX2_init_0 : decode cX2_init 0 = .ok (.aload_n 0, 1) := by decide +kernel
theorem dX2_init_1 : decode cX2_init 1 = .ok (.invokespecial 1, 3) := by decide +kernel
theorem dX2_init_4 : decode cX2_init 4 = .ok (.return_, 1) := by decide +kernel
theorem dX2_insert_0 : decode cX2_insert 0 = .ok (.aconst_null, 1) := by decide +kernel
theorem dX2_insert_1 : decode cX2_insert 1 = .ok (.astore_n 2, 1) := by decide +kernel
theorem dX2_insert_2 : decode cX2_insert 2 = .ok (.aload_n 0, 1) := by decide +kernel
theorem dX2_insert_3 : decode cX2_insert 3 = .ok (.getfield 7, 3) := by decide +kernel
theorem dX2_insert_6 : decode cX2_insert 6 = .ok (.astore_n 3, 1) := by decide +kernel
theorem dX2_insert_7 : decode cX2_insert 7 = .ok (.aload_n 3, 1) := by decide +kernel
theorem dX2_insert_8 : decode cX2_insert 8 = .ok (.ifnull 24, 3) := by decide +kernel
theorem dX2_insert_11 : decode cX2_insert 11 = .ok (.aload_n 3, 1) := by decide +kernel
theorem dX2_insert_12 : decode cX2_insert 12 = .ok (.getfield 13, 3) := by decide +kernel
theorem dX2_insert_15 : decode cX2_insert 15 = .ok (.aload_n 1, 1) := by decide +kernel
theorem dX2_insert_16 : decode cX2_insert 16 = .ok (.getfield 13, 3) := by decide +kernel
theorem dX2_insert_19 : decode cX2_insert 19 = .ok (.if_icmp .gt 13, 3) := by decide +kernel
theorem dX2_insert_22 : decode cX2_insert 22 = .ok (.aload_n 3, 1) := by decide +kernel
theorem dX2_insert_23 : decode cX2_insert 23 = .ok (.astore_n 2, 1) := by decide +kernel
theorem dX2_insert_24 : decode cX2_insert 24 = .ok (.aload_n 3, 1) := by decide +kernel
theorem dX2_insert_25 : decode cX2_insert 25 = .ok (.getfield 19, 3) := by decide +kernel
theorem dX2_insert_28 : decode cX2_insert 28 = .ok (.astore_n 3, 1) := by decide +kernel
theorem dX2_insert_29 : decode cX2_insert 29 = .ok (.goto (-22), 3) := by decide +kernel
theorem dX2_insert_32 : decode cX2_insert 32 = .ok (.aload_n 2, 1) := by decide +kernel
theorem dX2_insert_33 : decode cX2_insert 33 = .ok (.ifnonnull 19, 3) := by decide +kernel
theorem dX2_insert_36 : decode cX2_insert 36 = .ok (.aload_n 1, 1) := by decide +kernel
theorem dX2_insert_37 : decode cX2_insert 37 = .ok (.aload_n 0, 1) := by decide +kernel
theorem dX2_insert_38 : decode cX2_insert 38 = .ok (.getfield 7, 3) := by decide +kernel
theorem dX2_insert_41 : decode cX2_insert 41 = .ok (.putfield 19, 3) := by decide +kernel
theorem dX2_insert_44 : decode cX2_insert 44 = .ok (.aload_n 0, 1) := by decide +kernel
theorem dX2_insert_45 : decode cX2_insert 45 = .ok (.aload_n 1, 1) := by decide +kernel
theorem dX2_insert_46 : decode cX2_insert 46 = .ok (.putfield 7, 3) := by decide +kernel
theorem dX2_insert_49 : decode cX2_insert 49 = .ok (.goto 16, 3) := by decide +kernel
theorem dX2_insert_52 : decode cX2_insert 52 = .ok (.aload_n 1, 1) := by decide +kernel
theorem dX2_insert_53 : decode cX2_insert 53 = .ok (.aload_n 2, 1) := by decide +kernel
theorem dX2_insert_54 : decode cX2_insert 54 = .ok (.getfield 19, 3) := by decide +kernel
theorem dX2_insert_57 : decode cX2_insert 57 = .ok (.putfield 19, 3) := by decide +kernel
theorem dX2_insert_60 : decode cX2_insert 60 = .ok (.aload_n 2, 1) := by decide +kernel
theorem dX2_insert_61 : decode cX2_insert 61 = .ok (.aload_n 1, 1) := by decide +kernel
theorem dX2_insert_62 : decode cX2_insert 62 = .ok (.putfield 19, 3) := by decide +kernel
theorem dX2_insert_65 : decode cX2_insert 65 = .ok (.aload_n 0, 1) := by decide +kernel
theorem dX2_insert_66 : decode cX2_insert 66 = .ok (.dup, 1) := by decide +kernel
theorem dX2_insert_67 : decode cX2_insert 67 = .ok (.getfield 22, 3) := by decide +kernel
theorem dX2_insert_70 : decode cX2_insert 70 = .ok (.iconst 1, 1) := by decide +kernel
theorem dX2_insert_71 : decode cX2_insert 71 = .ok (.iadd, 1) := by decide +kernel
theorem dX2_insert_72 : decode cX2_insert 72 = .ok (.putfield 22, 3) := by decide +kernel
theorem dX2_insert_75 : decode cX2_insert 75 = .ok (.return_, 1) := by decide +kernel
theorem dX2_remove_0 : decode cX2_remove 0 = .ok (.aconst_null, 1) := by decide +kernel
theorem dX2_remove_1 : decode cX2_remove 1 = .ok (.astore_n 2, 1) := by decide +kernel
theorem dX2_remove_2 : decode cX2_remove 2 = .ok (.aload_n 0, 1) := by decide +kernel
theorem dX2_remove_3 : decode cX2_remove 3 = .ok (.getfield 7, 3) := by decide +kernel
theorem dX2_remove_6 : decode cX2_remove 6 = .ok (.astore_n 3, 1) := by decide +kernel
theorem dX2_remove_7 : decode cX2_remove 7 = .ok (.aload_n 3, 1) := by decide +kernel
theorem dX2_remove_8 : decode cX2_remove 8 = .ok (.ifnull 18, 3) := by decide +kernel
theorem dX2_remove_11 : decode cX2_remove 11 = .ok (.aload_n 3, 1) := by decide +kernel
theorem dX2_remove_12 : decode cX2_remove 12 = .ok (.aload_n 1, 1) := by decide +kernel
theorem dX2_remove_13 : decode cX2_remove 13 = .ok (.if_acmp .eq 13, 3) := by decide +kernel
theorem dX2_remove_16 : decode cX2_remove 16 = .ok (.aload_n 3, 1) := by decide +kernel
theorem dX2_remove_17 : decode cX2_remove 17 = .ok (.astore_n 2, 1) := by decide +kernel
theorem dX2_remove_18 : decode cX2_remove 18 = .ok (.aload_n 3, 1) := by decide +kernel
theorem dX2_remove_19 : decode cX2_remove 19 = .ok (.getfield 19, 3) := by decide +kernel
theorem dX2_remove_22 : decode cX2_remove 22 = .ok (.astore_n 3, 1) := by decide +kernel
theorem dX2_remove_23 : decode cX2_remove 23 = .ok (.goto (-16), 3) := by decide +kernel
theorem dX2_remove_26 : decode cX2_remove 26 = .ok (.aload_n 2, 1) := by decide +kernel
theorem dX2_remove_27 : decode cX2_remove 27 = .ok (.ifnonnull 14, 3) := by decide +kernel
theorem dX2_remove_30 : decode cX2_remove 30 = .ok (.aload_n 0, 1) := by decide +kernel
theorem dX2_remove_31 : decode cX2_remove 31 = .ok (.aload_n 1, 1) := by decide +kernel
theorem dX2_remove_32 : decode cX2_remove 32 = .ok (.getfield 19, 3) := by decide +kernel
theorem dX2_remove_35 : decode cX2_remove 35 = .ok (.putfield 7, 3) := by decide +kernel
theorem dX2_remove_38 : decode cX2_remove 38 = .ok (.goto 11, 3) := by decide +kernel
theorem dX2_remove_41 : decode cX2_remove 41 = .ok (.aload_n 2, 1) := by decide +kernel
theorem dX2_remove_42 : decode cX2_remove 42 = .ok (.aload_n 1, 1) := by decide +kernel
theorem dX2_remove_43 : decode cX2_remove 43 = .ok (.getfield 19, 3) := by decide +kernel
theorem dX2_remove_46 : decode cX2_remove 46 = .ok (.putfield 19, 3) := by decide +kernel
theorem dX2_remove_49 : decode cX2_remove 49 = .ok (.aload_n 1, 1) := by decide +kernel
theorem dX2_remove_50 : decode cX2_remove 50 = .ok (.aconst_null, 1) := by decide +kernel
theorem dX2_remove_51 : decode cX2_remove 51 = .ok (.putfield 19, 3) := by decide +kernel
theorem dX2_remove_54 : decode cX2_remove 54 = .ok (.aload_n 0, 1) := by decide +kernel
theorem dX2_remove_55 : decode cX2_remove 55 = .ok (.dup, 1) := by decide +kernel
theorem dX2_remove_56 : decode cX2_remove 56 = .ok (.getfield 22, 3) := by decide +kernel
theorem dX2_remove_59 : decode cX2_remove 59 = .ok (.iconst 1, 1) := by decide +kernel
theorem dX2_remove_60 : decode cX2_remove 60 = .ok (.isub, 1) := by decide +kernel
theorem dX2_remove_61 : decode cX2_remove 61 = .ok (.putfield 22, 3) := by decide +kernel
theorem dX2_remove_64 : decode cX2_remove 64 = .ok (.return_, 1) := by decide +kernel
theorem dX2_place_0 : decode cX2_place 0 = .ok (.iconst 0, 1) := by decide +kernel
theorem dX2_place_1 : decode cX2_place 1 = .ok (.istore_n 2, 1) := by decide +kernel
theorem dX2_place_2 : decode cX2_place 2 = .ok (.aload_n 0, 1) := by decide +kernel
theorem dX2_place_3 : decode cX2_place 3 = .ok (.getfield 7, 3) := by decide +kernel
theorem dX2_place_6 : decode cX2_place 6 = .ok (.astore_n 3, 1) := by decide +kernel
theorem dX2_place_7 : decode cX2_place 7 = .ok (.aload_n 3, 1) := by decide +kernel
theorem dX2_place_8 : decode cX2_place 8 = .ok (.ifnull 19, 3) := by decide +kernel
theorem dX2_place_11 : decode cX2_place 11 = .ok (.aload_n 3, 1) := by decide +kernel
theorem dX2_place_12 : decode cX2_place 12 = .ok (.aload_n 1, 1) := by decide +kernel
theorem dX2_place_13 : decode cX2_place 13 = .ok (.if_acmp .eq 14, 3) := by decide +kernel
theorem dX2_place_16 : decode cX2_place 16 = .ok (.iinc 2 1, 3) := by decide +kernel
theorem dX2_place_19 : decode cX2_place 19 = .ok (.aload_n 3, 1) := by decide +kernel
theorem dX2_place_20 : decode cX2_place 20 = .ok (.getfield 19, 3) := by decide +kernel
theorem dX2_place_23 : decode cX2_place 23 = .ok (.astore_n 3, 1) := by decide +kernel
theorem dX2_place_24 : decode cX2_place 24 = .ok (.goto (-17), 3) := by decide +kernel
theorem dX2_place_27 : decode cX2_place 27 = .ok (.iload_n 2, 1) := by decide +kernel
theorem dX2_place_28 : decode cX2_place 28 = .ok (.ireturn, 1) := by decide +kernel
theorem dX2_units_0 : decode cX2_units 0 = .ok (.iconst 0, 1) := by decide +kernel
theorem dX2_units_1 : decode cX2_units 1 = .ok (.istore_n 3, 1) := by decide +kernel
theorem dX2_units_2 : decode cX2_units 2 = .ok (.aload_n 0, 1) := by decide +kernel
theorem dX2_units_3 : decode cX2_units 3 = .ok (.getfield 7, 3) := by decide +kernel
theorem dX2_units_6 : decode cX2_units 6 = .ok (.astore 4, 2) := by decide +kernel
theorem dX2_units_8 : decode cX2_units 8 = .ok (.aload 4, 2) := by decide +kernel
theorem dX2_units_10 : decode cX2_units 10 = .ok (.ifnull 39, 3) := by decide +kernel
theorem dX2_units_13 : decode cX2_units 13 = .ok (.aload 4, 2) := by decide +kernel
theorem dX2_units_15 : decode cX2_units 15 = .ok (.getfield 13, 3) := by decide +kernel
theorem dX2_units_18 : decode cX2_units 18 = .ok (.iload_n 2, 1) := by decide +kernel
theorem dX2_units_19 : decode cX2_units 19 = .ok (.if_icmp .gt 30, 3) := by decide +kernel
theorem dX2_units_22 : decode cX2_units 22 = .ok (.aload 4, 2) := by decide +kernel
theorem dX2_units_24 : decode cX2_units 24 = .ok (.getfield 25, 3) := by decide +kernel
theorem dX2_units_27 : decode cX2_units 27 = .ok (.iload_n 1, 1) := by decide +kernel
theorem dX2_units_28 : decode cX2_units 28 = .ok (.if_icmp .ne 11, 3) := by decide +kernel
theorem dX2_units_31 : decode cX2_units 31 = .ok (.iload_n 3, 1) := by decide +kernel
theorem dX2_units_32 : decode cX2_units 32 = .ok (.aload 4, 2) := by decide +kernel
theorem dX2_units_34 : decode cX2_units 34 = .ok (.invokevirtual 28, 3) := by decide +kernel
theorem dX2_units_37 : decode cX2_units 37 = .ok (.iadd, 1) := by decide +kernel
theorem dX2_units_38 : decode cX2_units 38 = .ok (.istore_n 3, 1) := by decide +kernel
theorem dX2_units_39 : decode cX2_units 39 = .ok (.aload 4, 2) := by decide +kernel
theorem dX2_units_41 : decode cX2_units 41 = .ok (.getfield 19, 3) := by decide +kernel
theorem dX2_units_44 : decode cX2_units 44 = .ok (.astore 4, 2) := by decide +kernel
theorem dX2_units_46 : decode cX2_units 46 = .ok (.goto (-38), 3) := by decide +kernel
theorem dX2_units_49 : decode cX2_units 49 = .ok (.iload_n 3, 1) := by decide +kernel
theorem dX2_units_50 : decode cX2_units 50 = .ok (.ireturn, 1) := by decide +kernel
theorem dX2_spare_0 : decode cX2_spare 0 = .ok (.iconst 0, 1) := by decide +kernel
theorem dX2_spare_1 : decode cX2_spare 1 = .ok (.istore 4, 2) := by decide +kernel
theorem dX2_spare_3 : decode cX2_spare 3 = .ok (.iconst 0, 1) := by decide +kernel
theorem dX2_spare_4 : decode cX2_spare 4 = .ok (.istore 5, 2) := by decide +kernel
theorem dX2_spare_6 : decode cX2_spare 6 = .ok (.aload_n 0, 1) := by decide +kernel
theorem dX2_spare_7 : decode cX2_spare 7 = .ok (.getfield 7, 3) := by decide +kernel
theorem dX2_spare_10 : decode cX2_spare 10 = .ok (.astore 6, 2) := by decide +kernel
theorem dX2_spare_12 : decode cX2_spare 12 = .ok (.aload 6, 2) := by decide +kernel
theorem dX2_spare_14 : decode cX2_spare 14 = .ok (.ifnull 83, 3) := by decide +kernel
theorem dX2_spare_17 : decode cX2_spare 17 = .ok (.aload 6, 2) := by decide +kernel
theorem dX2_spare_19 : decode cX2_spare 19 = .ok (.getfield 25, 3) := by decide +kernel
theorem dX2_spare_22 : decode cX2_spare 22 = .ok (.iload_n 1, 1) := by decide +kernel
theorem dX2_spare_23 : decode cX2_spare 23 = .ok (.if_icmp .ne 64, 3) := by decide +kernel
theorem dX2_spare_26 : decode cX2_spare 26 = .ok (.aload 6, 2) := by decide +kernel
theorem dX2_spare_28 : decode cX2_spare 28 = .ok (.iload_n 2, 1) := by decide +kernel
theorem dX2_spare_29 : decode cX2_spare 29 = .ok (.iload_n 3, 1) := by decide +kernel
theorem dX2_spare_30 : decode cX2_spare 30 = .ok (.invokevirtual 32, 3) := by decide +kernel
theorem dX2_spare_33 : decode cX2_spare 33 = .ok (.istore 7, 2) := by decide +kernel
theorem dX2_spare_35 : decode cX2_spare 35 = .ok (.iload 7, 2) := by decide +kernel
theorem dX2_spare_37 : decode cX2_spare 37 = .ok (.ifCond .eq 26, 3) := by decide +kernel
theorem dX2_spare_40 : decode cX2_spare 40 = .ok (.aload 6, 2) := by decide +kernel
theorem dX2_spare_42 : decode cX2_spare 42 = .ok (.invokevirtual 36, 3) := by decide +kernel
theorem dX2_spare_45 : decode cX2_spare 45 = .ok (.ifCond .eq 18, 3) := by decide +kernel
theorem dX2_spare_48 : decode cX2_spare 48 = .ok (.iload 5, 2) := by decide +kernel
theorem dX2_spare_50 : decode cX2_spare 50 = .ok (.iload 4, 2) := by decide +kernel
theorem dX2_spare_52 : decode cX2_spare 52 = .ok (.aload 6, 2) := by decide +kernel
theorem dX2_spare_54 : decode cX2_spare 54 = .ok (.getfield 40, 3) := by decide +kernel
theorem dX2_spare_57 : decode cX2_spare 57 = .ok (.isub, 1) := by decide +kernel
theorem dX2_spare_58 : decode cX2_spare 58 = .ok (.invokestatic 43, 3) := by decide +kernel
theorem dX2_spare_61 : decode cX2_spare 61 = .ok (.istore 5, 2) := by decide +kernel
theorem dX2_spare_63 : decode cX2_spare 63 = .ok (.iload 4, 2) := by decide +kernel
theorem dX2_spare_65 : decode cX2_spare 65 = .ok (.aload 6, 2) := by decide +kernel
theorem dX2_spare_67 : decode cX2_spare 67 = .ok (.invokevirtual 28, 3) := by decide +kernel
theorem dX2_spare_70 : decode cX2_spare 70 = .ok (.iadd, 1) := by decide +kernel
theorem dX2_spare_71 : decode cX2_spare 71 = .ok (.istore 4, 2) := by decide +kernel
theorem dX2_spare_73 : decode cX2_spare 73 = .ok (.iload 7, 2) := by decide +kernel
theorem dX2_spare_75 : decode cX2_spare 75 = .ok (.ifCond .eq 8, 3) := by decide +kernel
theorem dX2_spare_78 : decode cX2_spare 78 = .ok (.iload 5, 2) := by decide +kernel
theorem dX2_spare_80 : decode cX2_spare 80 = .ok (.goto 5, 3) := by decide +kernel
theorem dX2_spare_83 : decode cX2_spare 83 = .ok (.iload 4, 2) := by decide +kernel
theorem dX2_spare_85 : decode cX2_spare 85 = .ok (.istore 5, 2) := by decide +kernel
theorem dX2_spare_87 : decode cX2_spare 87 = .ok (.aload 6, 2) := by decide +kernel
theorem dX2_spare_89 : decode cX2_spare 89 = .ok (.getfield 19, 3) := by decide +kernel
theorem dX2_spare_92 : decode cX2_spare 92 = .ok (.astore 6, 2) := by decide +kernel
theorem dX2_spare_94 : decode cX2_spare 94 = .ok (.goto (-82), 3) := by decide +kernel
theorem dX2_spare_97 : decode cX2_spare 97 = .ok (.iload 5, 2) := by decide +kernel
theorem dX2_spare_99 : decode cX2_spare 99 = .ok (.ireturn, 1) := by decide +kernel
theorem dX2_spreadsOver_0 : decode cX2_spreadsOver 0 = .ok (.aload_n 0, 1) := by decide +kernel
theorem dX2_spreadsOver_1 : decode cX2_spreadsOver 1 = .ok (.getfield 7, 3) := by decide +kernel
theorem dX2_spreadsOver_4 : decode cX2_spreadsOver 4 = .ok (.astore_n 2, 1) := by decide +kernel
theorem dX2_spreadsOver_5 : decode cX2_spreadsOver 5 = .ok (.aload_n 2, 1) := by decide +kernel
theorem dX2_spreadsOver_6 : decode cX2_spreadsOver 6 = .ok (.ifnull 19, 3) := by decide +kernel
theorem dX2_spreadsOver_9 : decode cX2_spreadsOver 9 = .ok (.aload_n 2, 1) := by decide +kernel
theorem dX2_spreadsOver_10 : decode cX2_spreadsOver 10 = .ok (.aload_n 1, 1) := by decide +kernel
theorem dX2_spreadsOver_11 : decode cX2_spreadsOver 11 = .ok (.invokevirtual 49, 3) := by decide +kernel
theorem dX2_spreadsOver_14 : decode cX2_spreadsOver 14 = .ok (.ifnonnull 11, 3) := by decide +kernel
theorem dX2_spreadsOver_17 : decode cX2_spreadsOver 17 = .ok (.aload_n 2, 1) := by decide +kernel
theorem dX2_spreadsOver_18 : decode cX2_spreadsOver 18 = .ok (.getfield 19, 3) := by decide +kernel
theorem dX2_spreadsOver_21 : decode cX2_spreadsOver 21 = .ok (.astore_n 2, 1) := by decide +kernel
theorem dX2_spreadsOver_22 : decode cX2_spreadsOver 22 = .ok (.goto (-17), 3) := by decide +kernel
theorem dX2_spreadsOver_25 : decode cX2_spreadsOver 25 = .ok (.aload_n 2, 1) := by decide +kernel
theorem dX2_spreadsOver_26 : decode cX2_spreadsOver 26 = .ok (.ifnull 7, 3) := by decide +kernel
theorem dX2_spreadsOver_29 : decode cX2_spreadsOver 29 = .ok (.iconst 1, 1) := by decide +kernel
theorem dX2_spreadsOver_30 : decode cX2_spreadsOver 30 = .ok (.goto 4, 3) := by decide +kernel
theorem dX2_spreadsOver_33 : decode cX2_spreadsOver 33 = .ok (.iconst 0, 1) := by decide +kernel
theorem dX2_spreadsOver_34 : decode cX2_spreadsOver 34 = .ok (.ireturn, 1) := by decide +kernel
theorem dX3_init_0 : decode cX3_init 0 = .ok (.aload_n 0, 1) := by decide +kernel
theorem dX3_init_1 : decode cX3_init 1 = .ok (.invokespecial 3, 3) := by decide +kernel
theorem dX3_init_4 : decode cX3_init 4 = .ok (.aload_n 0, 1) := by decide +kernel
theorem dX3_init_5 : decode cX3_init 5 = .ok (.iload_n 1, 1) := by decide +kernel
theorem dX3_init_6 : decode cX3_init 6 = .ok (.putfield 9, 3) := by decide +kernel
theorem dX3_init_9 : decode cX3_init 9 = .ok (.aload_n 0, 1) := by decide +kernel
theorem dX3_init_10 : decode cX3_init 10 = .ok (.iload_n 2, 1) := by decide +kernel
theorem dX3_init_11 : decode cX3_init 11 = .ok (.putfield 15, 3) := by decide +kernel
theorem dX3_init_14 : decode cX3_init 14 = .ok (.aload_n 0, 1) := by decide +kernel
theorem dX3_init_15 : decode cX3_init 15 = .ok (.iload_n 3, 1) := by decide +kernel
theorem dX3_init_16 : decode cX3_init 16 = .ok (.putfield 18, 3) := by decide +kernel
theorem dX3_init_19 : decode cX3_init 19 = .ok (.aload_n 0, 1) := by decide +kernel
theorem dX3_init_20 : decode cX3_init 20 = .ok (.iload 4, 2) := by decide +kernel
theorem dX3_init_22 : decode cX3_init 22 = .ok (.putfield 21, 3) := by decide +kernel
theorem dX3_init_25 : decode cX3_init 25 = .ok (.aload_n 0, 1) := by decide +kernel
theorem dX3_init_26 : decode cX3_init 26 = .ok (.iload 5, 2) := by decide +kernel
theorem dX3_init_28 : decode cX3_init 28 = .ok (.putfield 24, 3) := by decide +kernel
theorem dX3_init_31 : decode cX3_init 31 = .ok (.aload_n 0, 1) := by decide +kernel
theorem dX3_init_32 : decode cX3_init 32 = .ok (.iload 6, 2) := by decide +kernel
theorem dX3_init_34 : decode cX3_init 34 = .ok (.putfield 27, 3) := by decide +kernel
theorem dX3_init_37 : decode cX3_init 37 = .ok (.aload_n 0, 1) := by decide +kernel
theorem dX3_init_38 : decode cX3_init 38 = .ok (.new 30, 3) := by decide +kernel
theorem dX3_init_41 : decode cX3_init 41 = .ok (.dup, 1) := by decide +kernel
theorem dX3_init_42 : decode cX3_init 42 = .ok (.iload_n 1, 1) := by decide +kernel
theorem dX3_init_43 : decode cX3_init 43 = .ok (.invokespecial 32, 3) := by decide +kernel
theorem dX3_init_46 : decode cX3_init 46 = .ok (.putfield 35, 3) := by decide +kernel
theorem dX3_init_49 : decode cX3_init 49 = .ok (.return_, 1) := by decide +kernel
theorem dX3_change_0 : decode cX3_change 0 = .ok (.aload_n 0, 1) := by decide +kernel
theorem dX3_change_1 : decode cX3_change 1 = .ok (.getfield 15, 3) := by decide +kernel
theorem dX3_change_4 : decode cX3_change 4 = .ok (.ifCond .ne 8, 3) := by decide +kernel
theorem dX3_change_7 : decode cX3_change 7 = .ok (.aload_n 0, 1) := by decide +kernel
theorem dX3_change_8 : decode cX3_change 8 = .ok (.getfield 24, 3) := by decide +kernel
theorem dX3_change_11 : decode cX3_change 11 = .ok (.ireturn, 1) := by decide +kernel
theorem dX3_change_12 : decode cX3_change 12 = .ok (.aload_n 0, 1) := by decide +kernel
theorem dX3_change_13 : decode cX3_change 13 = .ok (.getfield 15, 3) := by decide +kernel
theorem dX3_change_16 : decode cX3_change 16 = .ok (.iconst 1, 1) := by decide +kernel
theorem dX3_change_17 : decode cX3_change 17 = .ok (.if_icmp .ne 11, 3) := by decide +kernel
theorem dX3_change_20 : decode cX3_change 20 = .ok (.aload_n 0, 1) := by decide +kernel
theorem dX3_change_21 : decode cX3_change 21 = .ok (.getfield 24, 3) := by decide +kernel
theorem dX3_change_24 : decode cX3_change 24 = .ok (.ineg, 1) := by decide +kernel
theorem dX3_change_25 : decode cX3_change 25 = .ok (.goto 4, 3) := by decide +kernel
theorem dX3_change_28 : decode cX3_change 28 = .ok (.iconst 0, 1) := by decide +kernel
theorem dX3_change_29 : decode cX3_change 29 = .ok (.ireturn, 1) := by decide +kernel
theorem dX3_needsUnits_0 : decode cX3_needsUnits 0 = .ok (.aload_n 0, 1) := by decide +kernel
theorem dX3_needsUnits_1 : decode cX3_needsUnits 1 = .ok (.getfield 15, 3) := by decide +kernel
theorem dX3_needsUnits_4 : decode cX3_needsUnits 4 = .ok (.iconst 1, 1) := by decide +kernel
theorem dX3_needsUnits_5 : decode cX3_needsUnits 5 = .ok (.if_icmp .eq 11, 3) := by decide +kernel
theorem dX3_needsUnits_8 : decode cX3_needsUnits 8 = .ok (.aload_n 0, 1) := by decide +kernel
theorem dX3_needsUnits_9 : decode cX3_needsUnits 9 = .ok (.getfield 15, 3) := by decide +kernel
theorem dX3_needsUnits_12 : decode cX3_needsUnits 12 = .ok (.iconst 2, 1) := by decide +kernel
theorem dX3_needsUnits_13 : decode cX3_needsUnits 13 = .ok (.if_icmp .ne 7, 3) := by decide +kernel
theorem dX3_needsUnits_16 : decode cX3_needsUnits 16 = .ok (.iconst 1, 1) := by decide +kernel
theorem dX3_needsUnits_17 : decode cX3_needsUnits 17 = .ok (.goto 4, 3) := by decide +kernel
theorem dX3_needsUnits_20 : decode cX3_needsUnits 20 = .ok (.iconst 0, 1) := by decide +kernel
theorem dX3_needsUnits_21 : decode cX3_needsUnits 21 = .ok (.ireturn, 1) := by decide +kernel
theorem dX3_isBehind_0 : decode cX3_isBehind 0 = .ok (.aload_n 0, 1) := by decide +kernel
theorem dX3_isBehind_1 : decode cX3_isBehind 1 = .ok (.getfield 18, 3) := by decide +kernel
theorem dX3_isBehind_4 : decode cX3_isBehind 4 = .ok (.iload_n 1, 1) := by decide +kernel
theorem dX3_isBehind_5 : decode cX3_isBehind 5 = .ok (.if_icmp .gt 19, 3) := by decide +kernel
theorem dX3_isBehind_8 : decode cX3_isBehind 8 = .ok (.aload_n 0, 1) := by decide +kernel
theorem dX3_isBehind_9 : decode cX3_isBehind 9 = .ok (.getfield 18, 3) := by decide +kernel
theorem dX3_isBehind_12 : decode cX3_isBehind 12 = .ok (.iload_n 1, 1) := by decide +kernel
theorem dX3_isBehind_13 : decode cX3_isBehind 13 = .ok (.if_icmp .ne 15, 3) := by decide +kernel
theorem dX3_isBehind_16 : decode cX3_isBehind 16 = .ok (.aload_n 0, 1) := by decide +kernel
theorem dX3_isBehind_17 : decode cX3_isBehind 17 = .ok (.getfield 9, 3) := by decide +kernel
theorem dX3_isBehind_20 : decode cX3_isBehind 20 = .ok (.iload_n 2, 1) := by decide +kernel
theorem dX3_isBehind_21 : decode cX3_isBehind 21 = .ok (.if_icmp .le 7, 3) := by decide +kernel
theorem dX3_isBehind_24 : decode cX3_isBehind 24 = .ok (.iconst 1, 1) := by decide +kernel
theorem dX3_isBehind_25 : decode cX3_isBehind 25 = .ok (.goto 4, 3) := by decide +kernel
theorem dX3_isBehind_28 : decode cX3_isBehind 28 = .ok (.iconst 0, 1) := by decide +kernel
theorem dX3_isBehind_29 : decode cX3_isBehind 29 = .ok (.ireturn, 1) := by decide +kernel
theorem dX3_shareOf_0 : decode cX3_shareOf 0 = .ok (.aload_n 0, 1) := by decide +kernel
theorem dX3_shareOf_1 : decode cX3_shareOf 1 = .ok (.getfield 39, 3) := by decide +kernel
theorem dX3_shareOf_4 : decode cX3_shareOf 4 = .ok (.astore_n 2, 1) := by decide +kernel
theorem dX3_shareOf_5 : decode cX3_shareOf 5 = .ok (.aload_n 2, 1) := by decide +kernel
theorem dX3_shareOf_6 : decode cX3_shareOf 6 = .ok (.ifnull 19, 3) := by decide +kernel
theorem dX3_shareOf_9 : decode cX3_shareOf 9 = .ok (.aload_n 2, 1) := by decide +kernel
theorem dX3_shareOf_10 : decode cX3_shareOf 10 = .ok (.getfield 43, 3) := by decide +kernel
theorem dX3_shareOf_13 : decode cX3_shareOf 13 = .ok (.aload_n 1, 1) := by decide +kernel
theorem dX3_shareOf_14 : decode cX3_shareOf 14 = .ok (.if_acmp .eq 11, 3) := by decide +kernel
theorem dX3_shareOf_17 : decode cX3_shareOf 17 = .ok (.aload_n 2, 1) := by decide +kernel
theorem dX3_shareOf_18 : decode cX3_shareOf 18 = .ok (.getfield 49, 3) := by decide +kernel
theorem dX3_shareOf_21 : decode cX3_shareOf 21 = .ok (.astore_n 2, 1) := by decide +kernel
theorem dX3_shareOf_22 : decode cX3_shareOf 22 = .ok (.goto (-17), 3) := by decide +kernel
theorem dX3_shareOf_25 : decode cX3_shareOf 25 = .ok (.aload_n 2, 1) := by decide +kernel
theorem dX3_shareOf_26 : decode cX3_shareOf 26 = .ok (.areturn, 1) := by decide +kernel
theorem dX4_init_0 : decode cX4_init 0 = .ok (.aload_n 0, 1) := by decide +kernel
theorem dX4_init_1 : decode cX4_init 1 = .ok (.invokespecial 1, 3) := by decide +kernel
theorem dX4_init_4 : decode cX4_init 4 = .ok (.return_, 1) := by decide +kernel
theorem dX4_empty_0 : decode cX4_empty 0 = .ok (.aload_n 0, 1) := by decide +kernel
theorem dX4_empty_1 : decode cX4_empty 1 = .ok (.lconst 0, 1) := by decide +kernel
theorem dX4_empty_2 : decode cX4_empty 2 = .ok (.putfield 7, 3) := by decide +kernel
theorem dX4_empty_5 : decode cX4_empty 5 = .ok (.return_, 1) := by decide +kernel
theorem dX4_bring_0 : decode cX4_bring 0 = .ok (.aload_n 0, 1) := by decide +kernel
theorem dX4_bring_1 : decode cX4_bring 1 = .ok (.dup, 1) := by decide +kernel
theorem dX4_bring_2 : decode cX4_bring 2 = .ok (.getfield 7, 3) := by decide +kernel
theorem dX4_bring_5 : decode cX4_bring 5 = .ok (.aload_n 1, 1) := by decide +kernel
theorem dX4_bring_6 : decode cX4_bring 6 = .ok (.getfield 13, 3) := by decide +kernel
theorem dX4_bring_9 : decode cX4_bring 9 = .ok (.i2l, 1) := by decide +kernel
theorem dX4_bring_10 : decode cX4_bring 10 = .ok (.ladd, 1) := by decide +kernel
theorem dX4_bring_11 : decode cX4_bring 11 = .ok (.putfield 7, 3) := by decide +kernel
theorem dX4_bring_14 : decode cX4_bring 14 = .ok (.return_, 1) := by decide +kernel
theorem dX4_take_0 : decode cX4_take 0 = .ok (.aload_n 0, 1) := by decide +kernel
theorem dX4_take_1 : decode cX4_take 1 = .ok (.getfield 19, 3) := by decide +kernel
theorem dX4_take_4 : decode cX4_take 4 = .ok (.ifCond .le 19, 3) := by decide +kernel
theorem dX4_take_7 : decode cX4_take 7 = .ok (.aload_n 0, 1) := by decide +kernel
theorem dX4_take_8 : decode cX4_take 8 = .ok (.getfield 7, 3) := by decide +kernel
theorem dX4_take_11 : decode cX4_take 11 = .ok (.iload_n 1, 1) := by decide +kernel
theorem dX4_take_12 : decode cX4_take 12 = .ok (.i2l, 1) := by decide +kernel
theorem dX4_take_13 : decode cX4_take 13 = .ok (.lmul, 1) := by decide +kernel
theorem dX4_take_14 : decode cX4_take 14 = .ok (.aload_n 0, 1) := by decide +kernel
theorem dX4_take_15 : decode cX4_take 15 = .ok (.getfield 19, 3) := by decide +kernel
theorem dX4_take_18 : decode cX4_take 18 = .ok (.i2l, 1) := by decide +kernel
theorem dX4_take_19 : decode cX4_take 19 = .ok (.ldiv, 1) := by decide +kernel
theorem dX4_take_20 : decode cX4_take 20 = .ok (.goto 4, 3) := by decide +kernel
theorem dX4_take_23 : decode cX4_take 23 = .ok (.lconst 0, 1) := by decide +kernel
theorem dX4_take_24 : decode cX4_take 24 = .ok (.lstore_n 2, 1) := by decide +kernel
theorem dX4_take_25 : decode cX4_take 25 = .ok (.aload_n 0, 1) := by decide +kernel
theorem dX4_take_26 : decode cX4_take 26 = .ok (.dup, 1) := by decide +kernel
theorem dX4_take_27 : decode cX4_take 27 = .ok (.getfield 7, 3) := by decide +kernel
theorem dX4_take_30 : decode cX4_take 30 = .ok (.lload_n 2, 1) := by decide +kernel
theorem dX4_take_31 : decode cX4_take 31 = .ok (.lsub, 1) := by decide +kernel
theorem dX4_take_32 : decode cX4_take 32 = .ok (.putfield 7, 3) := by decide +kernel
theorem dX4_take_35 : decode cX4_take 35 = .ok (.lload_n 2, 1) := by decide +kernel
theorem dX4_take_36 : decode cX4_take 36 = .ok (.lreturn, 1) := by decide +kernel
theorem dX4_bringBack_0 : decode cX4_bringBack 0 = .ok (.aload_n 0, 1) := by decide +kernel
theorem dX4_bringBack_1 : decode cX4_bringBack 1 = .ok (.dup, 1) := by decide +kernel
theorem dX4_bringBack_2 : decode cX4_bringBack 2 = .ok (.getfield 7, 3) := by decide +kernel
theorem dX4_bringBack_5 : decode cX4_bringBack 5 = .ok (.aload_n 1, 1) := by decide +kernel
theorem dX4_bringBack_6 : decode cX4_bringBack 6 = .ok (.getfield 13, 3) := by decide +kernel
theorem dX4_bringBack_9 : decode cX4_bringBack 9 = .ok (.i2l, 1) := by decide +kernel
theorem dX4_bringBack_10 : decode cX4_bringBack 10 = .ok (.ladd, 1) := by decide +kernel
theorem dX4_bringBack_11 : decode cX4_bringBack 11 = .ok (.putfield 7, 3) := by decide +kernel
theorem dX4_bringBack_14 : decode cX4_bringBack 14 = .ok (.return_, 1) := by decide +kernel
theorem dX4_absorb_0 : decode cX4_absorb 0 = .ok (.aload_n 1, 1) := by decide +kernel
theorem dX4_absorb_1 : decode cX4_absorb 1 = .ok (.iload_n 2, 1) := by decide +kernel
theorem dX4_absorb_2 : decode cX4_absorb 2 = .ok (.aload_n 0, 1) := by decide +kernel
theorem dX4_absorb_3 : decode cX4_absorb 3 = .ok (.getfield 19, 3) := by decide +kernel
theorem dX4_absorb_6 : decode cX4_absorb 6 = .ok (.aload_n 1, 1) := by decide +kernel
theorem dX4_absorb_7 : decode cX4_absorb 7 = .ok (.getfield 22, 3) := by decide +kernel
theorem dX4_absorb_10 : decode cX4_absorb 10 = .ok (.invokestatic 25, 3) := by decide +kernel
theorem dX4_absorb_13 : decode cX4_absorb 13 = .ok (.invokestatic 31, 3) := by decide +kernel
theorem dX4_absorb_16 : decode cX4_absorb 16 = .ok (.lstore_n 3, 1) := by decide +kernel
theorem dX4_absorb_17 : decode cX4_absorb 17 = .ok (.aload_n 0, 1) := by decide +kernel
theorem dX4_absorb_18 : decode cX4_absorb 18 = .ok (.dup, 1) := by decide +kernel
theorem dX4_absorb_19 : decode cX4_absorb 19 = .ok (.getfield 7, 3) := by decide +kernel
theorem dX4_absorb_22 : decode cX4_absorb 22 = .ok (.lload_n 3, 1) := by decide +kernel
theorem dX4_absorb_23 : decode cX4_absorb 23 = .ok (.ladd, 1) := by decide +kernel
theorem dX4_absorb_24 : decode cX4_absorb 24 = .ok (.putfield 7, 3) := by decide +kernel
theorem dX4_absorb_27 : decode cX4_absorb 27 = .ok (.lload_n 3, 1) := by decide +kernel
theorem dX4_absorb_28 : decode cX4_absorb 28 = .ok (.lreturn, 1) := by decide +kernel
theorem dX4_worth_0 : decode cX4_worth 0 = .ok (.aload_n 0, 1) := by decide +kernel
theorem dX4_worth_1 : decode cX4_worth 1 = .ok (.getfield 7, 3) := by decide +kernel
theorem dX4_worth_4 : decode cX4_worth 4 = .ok (.lreturn, 1) := by decide +kernel
theorem dX5_init_0 : decode cX5_init 0 = .ok (.aload_n 0, 1) := by decide +kernel
theorem dX5_init_1 : decode cX5_init 1 = .ok (.invokespecial 1, 3) := by decide +kernel
theorem dX5_init_4 : decode cX5_init 4 = .ok (.aload_n 0, 1) := by decide +kernel
theorem dX5_init_5 : decode cX5_init 5 = .ok (.aload_n 1, 1) := by decide +kernel
theorem dX5_init_6 : decode cX5_init 6 = .ok (.putfield 7, 3) := by decide +kernel
theorem dX5_init_9 : decode cX5_init 9 = .ok (.aload_n 0, 1) := by decide +kernel
theorem dX5_init_10 : decode cX5_init 10 = .ok (.iload_n 2, 1) := by decide +kernel
theorem dX5_init_11 : decode cX5_init 11 = .ok (.putfield 13, 3) := by decide +kernel
theorem dX5_init_14 : decode cX5_init 14 = .ok (.aload_n 0, 1) := by decide +kernel
theorem dX5_init_15 : decode cX5_init 15 = .ok (.lload_n 3, 1) := by decide +kernel
theorem dX5_init_16 : decode cX5_init 16 = .ok (.putfield 17, 3) := by decide +kernel
theorem dX5_init_19 : decode cX5_init 19 = .ok (.aload_n 0, 1) := by decide +kernel
theorem dX5_init_20 : decode cX5_init 20 = .ok (.aload 5, 2) := by decide +kernel
theorem dX5_init_22 : decode cX5_init 22 = .ok (.putfield 21, 3) := by decide +kernel
theorem dX5_init_25 : decode cX5_init 25 = .ok (.return_, 1) := by decide +kernel
theorem dX6_init_0 : decode cX6_init 0 = .ok (.aload_n 0, 1) := by decide +kernel
theorem dX6_init_1 : decode cX6_init 1 = .ok (.invokespecial 3, 3) := by decide +kernel
theorem dX6_init_4 : decode cX6_init 4 = .ok (.return_, 1) := by decide +kernel
theorem dX6_replay_0 : decode cX6_replay 0 = .ok (.aload_n 0, 1) := by decide +kernel
theorem dX6_replay_1 : decode cX6_replay 1 = .ok (.iconst 0, 1) := by decide +kernel
theorem dX6_replay_2 : decode cX6_replay 2 = .ok (.putfield 9, 3) := by decide +kernel
theorem dX6_replay_5 : decode cX6_replay 5 = .ok (.aload_n 0, 1) := by decide +kernel
theorem dX6_replay_6 : decode cX6_replay 6 = .ok (.lconst 0, 1) := by decide +kernel
theorem dX6_replay_7 : decode cX6_replay 7 = .ok (.putfield 15, 3) := by decide +kernel
theorem dX6_replay_10 : decode cX6_replay 10 = .ok (.aload_n 0, 1) := by decide +kernel
theorem dX6_replay_11 : decode cX6_replay 11 = .ok (.lconst 0, 1) := by decide +kernel
theorem dX6_replay_12 : decode cX6_replay 12 = .ok (.putfield 19, 3) := by decide +kernel
theorem dX6_replay_15 : decode cX6_replay 15 = .ok (.aload_n 0, 1) := by decide +kernel
theorem dX6_replay_16 : decode cX6_replay 16 = .ok (.lconst 0, 1) := by decide +kernel
theorem dX6_replay_17 : decode cX6_replay 17 = .ok (.putfield 22, 3) := by decide +kernel
theorem dX6_replay_20 : decode cX6_replay 20 = .ok (.aload_n 0, 1) := by decide +kernel
theorem dX6_replay_21 : decode cX6_replay 21 = .ok (.lconst 0, 1) := by decide +kernel
theorem dX6_replay_22 : decode cX6_replay 22 = .ok (.putfield 25, 3) := by decide +kernel
theorem dX6_replay_25 : decode cX6_replay 25 = .ok (.aload_n 0, 1) := by decide +kernel
theorem dX6_replay_26 : decode cX6_replay 26 = .ok (.invokevirtual 28, 3) := by decide +kernel
theorem dX6_replay_29 : decode cX6_replay 29 = .ok (.aload_n 1, 1) := by decide +kernel
theorem dX6_replay_30 : decode cX6_replay 30 = .ok (.astore 4, 2) := by decide +kernel
theorem dX6_replay_32 : decode cX6_replay 32 = .ok (.aload 4, 2) := by decide +kernel
theorem dX6_replay_34 : decode cX6_replay 34 = .ok (.ifnull 56, 3) := by decide +kernel
theorem dX6_replay_37 : decode cX6_replay 37 = .ok (.aload 4, 2) := by decide +kernel
theorem dX6_replay_39 : decode cX6_replay 39 = .ok (.getfield 31, 3) := by decide +kernel
theorem dX6_replay_42 : decode cX6_replay 42 = .ok (.iload_n 3, 1) := by decide +kernel
theorem dX6_replay_43 : decode cX6_replay 43 = .ok (.if_icmp .gt 47, 3) := by decide +kernel
theorem dX6_replay_46 : decode cX6_replay 46 = .ok (.aload 4, 2) := by decide +kernel
theorem dX6_replay_48 : decode cX6_replay 48 = .ok (.getfield 36, 3) := by decide +kernel
theorem dX6_replay_51 : decode cX6_replay 51 = .ok (.iconst 3, 1) := by decide +kernel
theorem dX6_replay_52 : decode cX6_replay 52 = .ok (.if_icmp .ne 13, 3) := by decide +kernel
theorem dX6_replay_55 : decode cX6_replay 55 = .ok (.aload_n 0, 1) := by decide +kernel
theorem dX6_replay_56 : decode cX6_replay 56 = .ok (.aload 4, 2) := by decide +kernel
theorem dX6_replay_58 : decode cX6_replay 58 = .ok (.iload_n 2, 1) := by decide +kernel
theorem dX6_replay_59 : decode cX6_replay 59 = .ok (.invokevirtual 39, 3) := by decide +kernel
theorem dX6_replay_62 : decode cX6_replay 62 = .ok (.goto 18, 3) := by decide +kernel
theorem dX6_replay_65 : decode cX6_replay 65 = .ok (.aload 4, 2) := by decide +kernel
theorem dX6_replay_67 : decode cX6_replay 67 = .ok (.getfield 43, 3) := by decide +kernel
theorem dX6_replay_70 : decode cX6_replay 70 = .ok (.iload_n 2, 1) := by decide +kernel
theorem dX6_replay_71 : decode cX6_replay 71 = .ok (.if_icmp .ne 9, 3) := by decide +kernel
theorem dX6_replay_74 : decode cX6_replay 74 = .ok (.aload_n 0, 1) := by decide +kernel
theorem dX6_replay_75 : decode cX6_replay 75 = .ok (.aload 4, 2) := by decide +kernel
theorem dX6_replay_77 : decode cX6_replay 77 = .ok (.invokevirtual 46, 3) := by decide +kernel
theorem dX6_replay_80 : decode cX6_replay 80 = .ok (.aload 4, 2) := by decide +kernel
theorem dX6_replay_82 : decode cX6_replay 82 = .ok (.getfield 50, 3) := by decide +kernel
theorem dX6_replay_85 : decode cX6_replay 85 = .ok (.astore 4, 2) := by decide +kernel
theorem dX6_replay_87 : decode cX6_replay 87 = .ok (.goto (-55), 3) := by decide +kernel
theorem dX6_replay_90 : decode cX6_replay 90 = .ok (.return_, 1) := by decide +kernel
theorem dX6_apply_0 : decode cX6_apply 0 = .ok (.aload_n 1, 1) := by decide +kernel
theorem dX6_apply_1 : decode cX6_apply 1 = .ok (.getfield 36, 3) := by decide +kernel
theorem dX6_apply_4 : decode cX6_apply 4 = .ok (.ifCond .ne 25, 3) := by decide +kernel
theorem dX6_apply_7 : decode cX6_apply 7 = .ok (.aload_n 0, 1) := by decide +kernel
theorem dX6_apply_8 : decode cX6_apply 8 = .ok (.aload_n 1, 1) := by decide +kernel
theorem dX6_apply_9 : decode cX6_apply 9 = .ok (.invokevirtual 54, 3) := by decide +kernel
theorem dX6_apply_12 : decode cX6_apply 12 = .ok (.aload_n 0, 1) := by decide +kernel
theorem dX6_apply_13 : decode cX6_apply 13 = .ok (.dup, 1) := by decide +kernel
theorem dX6_apply_14 : decode cX6_apply 14 = .ok (.getfield 15, 3) := by decide +kernel
theorem dX6_apply_17 : decode cX6_apply 17 = .ok (.aload_n 1, 1) := by decide +kernel
theorem dX6_apply_18 : decode cX6_apply 18 = .ok (.getfield 57, 3) := by decide +kernel
theorem dX6_apply_21 : decode cX6_apply 21 = .ok (.i2l, 1) := by decide +kernel
theorem dX6_apply_22 : decode cX6_apply 22 = .ok (.ladd, 1) := by decide +kernel
theorem dX6_apply_23 : decode cX6_apply 23 = .ok (.putfield 15, 3) := by decide +kernel
theorem dX6_apply_26 : decode cX6_apply 26 = .ok (.goto 67, 3) := by decide +kernel
theorem dX6_apply_29 : decode cX6_apply 29 = .ok (.aload_n 1, 1) := by decide +kernel
theorem dX6_apply_30 : decode cX6_apply 30 = .ok (.getfield 36, 3) := by decide +kernel
theorem dX6_apply_33 : decode cX6_apply 33 = .ok (.iconst 1, 1) := by decide +kernel
theorem dX6_apply_34 : decode cX6_apply 34 = .ok (.if_icmp .ne 31, 3) := by decide +kernel
theorem dX6_apply_37 : decode cX6_apply 37 = .ok (.aload_n 1, 1) := by decide +kernel
theorem dX6_apply_38 : decode cX6_apply 38 = .ok (.aload_n 0, 1) := by decide +kernel
theorem dX6_apply_39 : decode cX6_apply 39 = .ok (.aload_n 1, 1) := by decide +kernel
theorem dX6_apply_40 : decode cX6_apply 40 = .ok (.getfield 60, 3) := by decide +kernel
theorem dX6_apply_43 : decode cX6_apply 43 = .ok (.invokevirtual 63, 3) := by decide +kernel
theorem dX6_apply_46 : decode cX6_apply 46 = .ok (.putfield 67, 3) := by decide +kernel
theorem dX6_apply_49 : decode cX6_apply 49 = .ok (.aload_n 0, 1) := by decide +kernel
theorem dX6_apply_50 : decode cX6_apply 50 = .ok (.dup, 1) := by decide +kernel
theorem dX6_apply_51 : decode cX6_apply 51 = .ok (.getfield 19, 3) := by decide +kernel
theorem dX6_apply_54 : decode cX6_apply 54 = .ok (.aload_n 1, 1) := by decide +kernel
theorem dX6_apply_55 : decode cX6_apply 55 = .ok (.getfield 67, 3) := by decide +kernel
theorem dX6_apply_58 : decode cX6_apply 58 = .ok (.ladd, 1) := by decide +kernel
theorem dX6_apply_59 : decode cX6_apply 59 = .ok (.putfield 19, 3) := by decide +kernel
theorem dX6_apply_62 : decode cX6_apply 62 = .ok (.goto 31, 3) := by decide +kernel
theorem dX6_apply_65 : decode cX6_apply 65 = .ok (.aload_n 0, 1) := by decide +kernel
theorem dX6_apply_66 : decode cX6_apply 66 = .ok (.dup, 1) := by decide +kernel
theorem dX6_apply_67 : decode cX6_apply 67 = .ok (.getfield 22, 3) := by decide +kernel
theorem dX6_apply_70 : decode cX6_apply 70 = .ok (.aload_n 1, 1) := by decide +kernel
theorem dX6_apply_71 : decode cX6_apply 71 = .ok (.getfield 57, 3) := by decide +kernel
theorem dX6_apply_74 : decode cX6_apply 74 = .ok (.i2l, 1) := by decide +kernel
theorem dX6_apply_75 : decode cX6_apply 75 = .ok (.aload_n 0, 1) := by decide +kernel
theorem dX6_apply_76 : decode cX6_apply 76 = .ok (.aload_n 1, 1) := by decide +kernel
theorem dX6_apply_77 : decode cX6_apply 77 = .ok (.getfield 60, 3) := by decide +kernel
theorem dX6_apply_80 : decode cX6_apply 80 = .ok (.invokevirtual 63, 3) := by decide +kernel
theorem dX6_apply_83 : decode cX6_apply 83 = .ok (.lsub, 1) := by decide +kernel
theorem dX6_apply_84 : decode cX6_apply 84 = .ok (.ladd, 1) := by decide +kernel
theorem dX6_apply_85 : decode cX6_apply 85 = .ok (.putfield 22, 3) := by decide +kernel
theorem dX6_apply_88 : decode cX6_apply 88 = .ok (.aload_n 0, 1) := by decide +kernel
theorem dX6_apply_89 : decode cX6_apply 89 = .ok (.aload_n 1, 1) := by decide +kernel
theorem dX6_apply_90 : decode cX6_apply 90 = .ok (.invokevirtual 70, 3) := by decide +kernel
theorem dX6_apply_93 : decode cX6_apply 93 = .ok (.aload_n 0, 1) := by decide +kernel
theorem dX6_apply_94 : decode cX6_apply 94 = .ok (.dup, 1) := by decide +kernel
theorem dX6_apply_95 : decode cX6_apply 95 = .ok (.getfield 9, 3) := by decide +kernel
theorem dX6_apply_98 : decode cX6_apply 98 = .ok (.aload_n 1, 1) := by decide +kernel
theorem dX6_apply_99 : decode cX6_apply 99 = .ok (.invokevirtual 73, 3) := by decide +kernel
theorem dX6_apply_102 : decode cX6_apply 102 = .ok (.iadd, 1) := by decide +kernel
theorem dX6_apply_103 : decode cX6_apply 103 = .ok (.putfield 9, 3) := by decide +kernel
theorem dX6_apply_106 : decode cX6_apply 106 = .ok (.return_, 1) := by decide +kernel
theorem dX6_applyShares_0 : decode cX6_applyShares 0 = .ok (.aload_n 1, 1) := by decide +kernel
theorem dX6_applyShares_1 : decode cX6_applyShares 1 = .ok (.getfield 77, 3) := by decide +kernel
theorem dX6_applyShares_4 : decode cX6_applyShares 4 = .ok (.astore_n 3, 1) := by decide +kernel
theorem dX6_applyShares_5 : decode cX6_applyShares 5 = .ok (.aload_n 3, 1) := by decide +kernel
theorem dX6_applyShares_6 : decode cX6_applyShares 6 = .ok (.ifnull 63, 3) := by decide +kernel
theorem dX6_applyShares_9 : decode cX6_applyShares 9 = .ok (.aload_n 3, 1) := by decide +kernel
theorem dX6_applyShares_10 : decode cX6_applyShares 10 = .ok (.getfield 81, 3) := by decide +kernel
theorem dX6_applyShares_13 : decode cX6_applyShares 13 = .ok (.getfield 43, 3) := by decide +kernel
theorem dX6_applyShares_16 : decode cX6_applyShares 16 = .ok (.iload_n 2, 1) := by decide +kernel
theorem dX6_applyShares_17 : decode cX6_applyShares 17 = .ok (.if_icmp .ne 44, 3) := by decide +kernel
theorem dX6_applyShares_20 : decode cX6_applyShares 20 = .ok (.aload_n 0, 1) := by decide +kernel
theorem dX6_applyShares_21 : decode cX6_applyShares 21 = .ok (.dup, 1) := by decide +kernel
theorem dX6_applyShares_22 : decode cX6_applyShares 22 = .ok (.getfield 15, 3) := by decide +kernel
theorem dX6_applyShares_25 : decode cX6_applyShares 25 = .ok (.aload_n 3, 1) := by decide +kernel
theorem dX6_applyShares_26 : decode cX6_applyShares 26 = .ok (.getfield 86, 3) := by decide +kernel
theorem dX6_applyShares_29 : decode cX6_applyShares 29 = .ok (.i2l, 1) := by decide +kernel
theorem dX6_applyShares_30 : decode cX6_applyShares 30 = .ok (.ladd, 1) := by decide +kernel
theorem dX6_applyShares_31 : decode cX6_applyShares 31 = .ok (.putfield 15, 3) := by decide +kernel
theorem dX6_applyShares_34 : decode cX6_applyShares 34 = .ok (.aload_n 0, 1) := by decide +kernel
theorem dX6_applyShares_35 : decode cX6_applyShares 35 = .ok (.dup, 1) := by decide +kernel
theorem dX6_applyShares_36 : decode cX6_applyShares 36 = .ok (.getfield 25, 3) := by decide +kernel
theorem dX6_applyShares_39 : decode cX6_applyShares 39 = .ok (.aload_n 3, 1) := by decide +kernel
theorem dX6_applyShares_40 : decode cX6_applyShares 40 = .ok (.getfield 86, 3) := by decide +kernel
theorem dX6_applyShares_43 : decode cX6_applyShares 43 = .ok (.i2l, 1) := by decide +kernel
theorem dX6_applyShares_44 : decode cX6_applyShares 44 = .ok (.aload_n 0, 1) := by decide +kernel
theorem dX6_applyShares_45 : decode cX6_applyShares 45 = .ok (.aload_n 3, 1) := by decide +kernel
theorem dX6_applyShares_46 : decode cX6_applyShares 46 = .ok (.getfield 81, 3) := by decide +kernel
theorem dX6_applyShares_49 : decode cX6_applyShares 49 = .ok (.aload_n 3, 1) := by decide +kernel
theorem dX6_applyShares_50 : decode cX6_applyShares 50 = .ok (.getfield 86, 3) := by decide +kernel
theorem dX6_applyShares_53 : decode cX6_applyShares 53 = .ok (.invokevirtual 89, 3) := by decide +kernel
theorem dX6_applyShares_56 : decode cX6_applyShares 56 = .ok (.lsub, 1) := by decide +kernel
theorem dX6_applyShares_57 : decode cX6_applyShares 57 = .ok (.ladd, 1) := by decide +kernel
theorem dX6_applyShares_58 : decode cX6_applyShares 58 = .ok (.putfield 25, 3) := by decide +kernel
theorem dX6_applyShares_61 : decode cX6_applyShares 61 = .ok (.aload_n 3, 1) := by decide +kernel
theorem dX6_applyShares_62 : decode cX6_applyShares 62 = .ok (.getfield 93, 3) := by decide +kernel
theorem dX6_applyShares_65 : decode cX6_applyShares 65 = .ok (.astore_n 3, 1) := by decide +kernel
theorem dX6_applyShares_66 : decode cX6_applyShares 66 = .ok (.goto (-61), 3) := by decide +kernel
theorem dX6_applyShares_69 : decode cX6_applyShares 69 = .ok (.return_, 1) := by decide +kernel
theorem dX6_portion_0 : decode cX6_portion 0 = .ok (.aload_n 0, 1) := by decide +kernel
theorem dX6_portion_1 : decode cX6_portion 1 = .ok (.getfield 60, 3) := by decide +kernel
theorem dX6_portion_4 : decode cX6_portion 4 = .ok (.ifCond .le 17, 3) := by decide +kernel
theorem dX6_portion_7 : decode cX6_portion 7 = .ok (.iload_n 1, 1) := by decide +kernel
theorem dX6_portion_8 : decode cX6_portion 8 = .ok (.i2l, 1) := by decide +kernel
theorem dX6_portion_9 : decode cX6_portion 9 = .ok (.iload_n 2, 1) := by decide +kernel
theorem dX6_portion_10 : decode cX6_portion 10 = .ok (.i2l, 1) := by decide +kernel
theorem dX6_portion_11 : decode cX6_portion 11 = .ok (.lmul, 1) := by decide +kernel
theorem dX6_portion_12 : decode cX6_portion 12 = .ok (.aload_n 0, 1) := by decide +kernel
theorem dX6_portion_13 : decode cX6_portion 13 = .ok (.getfield 60, 3) := by decide +kernel
theorem dX6_portion_16 : decode cX6_portion 16 = .ok (.i2l, 1) := by decide +kernel
theorem dX6_portion_17 : decode cX6_portion 17 = .ok (.ldiv, 1) := by decide +kernel
theorem dX6_portion_18 : decode cX6_portion 18 = .ok (.goto 4, 3) := by decide +kernel
theorem dX6_portion_21 : decode cX6_portion 21 = .ok (.lconst 0, 1) := by decide +kernel
theorem dX6_portion_22 : decode cX6_portion 22 = .ok (.lreturn, 1) := by decide +kernel
theorem dX7_init_0 : decode cX7_init 0 = .ok (.aload_n 0, 1) := by decide +kernel
theorem dX7_init_1 : decode cX7_init 1 = .ok (.invokespecial 1, 3) := by decide +kernel
theorem dX7_init_4 : decode cX7_init 4 = .ok (.aload_n 0, 1) := by decide +kernel
theorem dX7_init_5 : decode cX7_init 5 = .ok (.bipush 60, 2) := by decide +kernel
theorem dX7_init_7 : decode cX7_init 7 = .ok (.anewarray 9, 3) := by decide +kernel
theorem dX7_init_10 : decode cX7_init 10 = .ok (.putfield 11, 3) := by decide +kernel
theorem dX7_init_13 : decode cX7_init 13 = .ok (.aload_n 0, 1) := by decide +kernel
theorem dX7_init_14 : decode cX7_init 14 = .ok (.new 15, 3) := by decide +kernel
theorem dX7_init_17 : decode cX7_init 17 = .ok (.dup, 1) := by decide +kernel
theorem dX7_init_18 : decode cX7_init 18 = .ok (.invokespecial 17, 3) := by decide +kernel
theorem dX7_init_21 : decode cX7_init 21 = .ok (.putfield 18, 3) := by decide +kernel
theorem dX7_init_24 : decode cX7_init 24 = .ok (.aload_n 0, 1) := by decide +kernel
theorem dX7_init_25 : decode cX7_init 25 = .ok (.new 22, 3) := by decide +kernel
theorem dX7_init_28 : decode cX7_init 28 = .ok (.dup, 1) := by decide +kernel
theorem dX7_init_29 : decode cX7_init 29 = .ok (.invokespecial 24, 3) := by decide +kernel
theorem dX7_init_32 : decode cX7_init 32 = .ok (.putfield 25, 3) := by decide +kernel
theorem dX7_init_35 : decode cX7_init 35 = .ok (.aload_n 0, 1) := by decide +kernel
theorem dX7_init_36 : decode cX7_init 36 = .ok (.new 29, 3) := by decide +kernel
theorem dX7_init_39 : decode cX7_init 39 = .ok (.dup, 1) := by decide +kernel
theorem dX7_init_40 : decode cX7_init 40 = .ok (.invokespecial 31, 3) := by decide +kernel
theorem dX7_init_43 : decode cX7_init 43 = .ok (.putfield 32, 3) := by decide +kernel
theorem dX7_init_46 : decode cX7_init 46 = .ok (.aload_n 0, 1) := by decide +kernel
theorem dX7_init_47 : decode cX7_init 47 = .ok (.bipush 6, 2) := by decide +kernel
theorem dX7_init_49 : decode cX7_init 49 = .ok (.newarray .int, 2) := by decide +kernel
theorem dX7_init_51 : decode cX7_init 51 = .ok (.putfield 36, 3) := by decide +kernel
theorem dX7_init_54 : decode cX7_init 54 = .ok (.iconst 0, 1) := by decide +kernel
theorem dX7_init_55 : decode cX7_init 55 = .ok (.istore_n 1, 1) := by decide +kernel
theorem dX7_init_56 : decode cX7_init 56 = .ok (.iload_n 1, 1) := by decide +kernel
theorem dX7_init_57 : decode cX7_init 57 = .ok (.aload_n 0, 1) := by decide +kernel
theorem dX7_init_58 : decode cX7_init 58 = .ok (.getfield 36, 3) := by decide +kernel
theorem dX7_init_61 : decode cX7_init 61 = .ok (.arraylength, 1) := by decide +kernel
theorem dX7_init_62 : decode cX7_init 62 = .ok (.if_icmp .ge 16, 3) := by decide +kernel
theorem dX7_init_65 : decode cX7_init 65 = .ok (.aload_n 0, 1) := by decide +kernel
theorem dX7_init_66 : decode cX7_init 66 = .ok (.getfield 36, 3) := by decide +kernel
theorem dX7_init_69 : decode cX7_init 69 = .ok (.iload_n 1, 1) := by decide +kernel
theorem dX7_init_70 : decode cX7_init 70 = .ok (.iconst 1, 1) := by decide +kernel
theorem dX7_init_71 : decode cX7_init 71 = .ok (.iastore, 1) := by decide +kernel
theorem dX7_init_72 : decode cX7_init 72 = .ok (.iinc 1 1, 3) := by decide +kernel
theorem dX7_init_75 : decode cX7_init 75 = .ok (.goto (-19), 3) := by decide +kernel
theorem dX7_init_78 : decode cX7_init 78 = .ok (.aload_n 0, 1) := by decide +kernel
theorem dX7_init_79 : decode cX7_init 79 = .ok (.iconst (-1), 1) := by decide +kernel
theorem dX7_init_80 : decode cX7_init 80 = .ok (.putfield 40, 3) := by decide +kernel
theorem dX7_init_83 : decode cX7_init 83 = .ok (.return_, 1) := by decide +kernel
theorem dX7_receive_0 : decode cX7_receive 0 = .ok (.iload_n 2, 1) := by decide +kernel
theorem dX7_receive_1 : decode cX7_receive 1 = .ok (.iload_n 1, 1) := by decide +kernel
theorem dX7_receive_2 : decode cX7_receive 2 = .ok (.invokestatic 44, 3) := by decide +kernel
theorem dX7_receive_5 : decode cX7_receive 5 = .ok (.iload_n 3, 1) := by decide +kernel
theorem dX7_receive_6 : decode cX7_receive 6 = .ok (.iconst 1, 1) := by decide +kernel
theorem dX7_receive_7 : decode cX7_receive 7 = .ok (.sipush 1000, 3) := by decide +kernel
theorem dX7_receive_10 : decode cX7_receive 10 = .ok (.invokestatic 48, 3) := by decide +kernel
theorem dX7_receive_13 : decode cX7_receive 13 = .ok (.iload 4, 2) := by decide +kernel
theorem dX7_receive_15 : decode cX7_receive 15 = .ok (.iconst 0, 1) := by decide +kernel
theorem dX7_receive_16 : decode cX7_receive 16 = .ok (.ldc 52, 2) := by decide +kernel
theorem dX7_receive_18 : decode cX7_receive 18 = .ok (.invokestatic 48, 3) := by decide +kernel
theorem dX7_receive_21 : decode cX7_receive 21 = .ok (.aload_n 0, 1) := by decide +kernel
theorem dX7_receive_22 : decode cX7_receive 22 = .ok (.iload_n 1, 1) := by decide +kernel
theorem dX7_receive_23 : decode cX7_receive 23 = .ok (.invokevirtual 53, 3) := by decide +kernel
theorem dX7_receive_26 : decode cX7_receive 26 = .ok (.aload_n 0, 1) := by decide +kernel
theorem dX7_receive_27 : decode cX7_receive 27 = .ok (.new 9, 3) := by decide +kernel
theorem dX7_receive_30 : decode cX7_receive 30 = .ok (.dup, 1) := by decide +kernel
theorem dX7_receive_31 : decode cX7_receive 31 = .ok (.aload_n 0, 1) := by decide +kernel
theorem dX7_receive_32 : decode cX7_receive 32 = .ok (.getfield 57, 3) := by decide +kernel
theorem dX7_receive_35 : decode cX7_receive 35 = .ok (.iconst 0, 1) := by decide +kernel
theorem dX7_receive_36 : decode cX7_receive 36 = .ok (.iload_n 1, 1) := by decide +kernel
theorem dX7_receive_37 : decode cX7_receive 37 = .ok (.iload_n 2, 1) := by decide +kernel
theorem dX7_receive_38 : decode cX7_receive 38 = .ok (.iload_n 3, 1) := by decide +kernel
theorem dX7_receive_39 : decode cX7_receive 39 = .ok (.iload 4, 2) := by decide +kernel
theorem dX7_receive_41 : decode cX7_receive 41 = .ok (.invokespecial 60, 3) := by decide +kernel
theorem dX7_receive_44 : decode cX7_receive 44 = .ok (.invokevirtual 63, 3) := by decide +kernel
theorem dX7_receive_47 : decode cX7_receive 47 = .ok (.ireturn, 1) := by decide +kernel
theorem dX7_issue_0 : decode cX7_issue 0 = .ok (.iload_n 2, 1) := by decide +kernel
theorem dX7_issue_1 : decode cX7_issue 1 = .ok (.iload_n 1, 1) := by decide +kernel
theorem dX7_issue_2 : decode cX7_issue 2 = .ok (.invokestatic 44, 3) := by decide +kernel
theorem dX7_issue_5 : decode cX7_issue 5 = .ok (.iload_n 3, 1) := by decide +kernel
theorem dX7_issue_6 : decode cX7_issue 6 = .ok (.iconst 1, 1) := by decide +kernel
theorem dX7_issue_7 : decode cX7_issue 7 = .ok (.sipush 1000, 3) := by decide +kernel
theorem dX7_issue_10 : decode cX7_issue 10 = .ok (.invokestatic 48, 3) := by decide +kernel
theorem dX7_issue_13 : decode cX7_issue 13 = .ok (.aload_n 0, 1) := by decide +kernel
theorem dX7_issue_14 : decode cX7_issue 14 = .ok (.iload_n 1, 1) := by decide +kernel
theorem dX7_issue_15 : decode cX7_issue 15 = .ok (.invokevirtual 53, 3) := by decide +kernel
theorem dX7_issue_18 : decode cX7_issue 18 = .ok (.iload_n 3, 1) := by decide +kernel
theorem dX7_issue_19 : decode cX7_issue 19 = .ok (.aload_n 0, 1) := by decide +kernel
theorem dX7_issue_20 : decode cX7_issue 20 = .ok (.getfield 18, 3) := by decide +kernel
theorem dX7_issue_23 : decode cX7_issue 23 = .ok (.iload_n 2, 1) := by decide +kernel
theorem dX7_issue_24 : decode cX7_issue 24 = .ok (.iload_n 1, 1) := by decide +kernel
theorem dX7_issue_25 : decode cX7_issue 25 = .ok (.bipush 60, 2) := by decide +kernel
theorem dX7_issue_27 : decode cX7_issue 27 = .ok (.invokevirtual 67, 3) := by decide +kernel
theorem dX7_issue_30 : decode cX7_issue 30 = .ok (.invokestatic 71, 3) := by decide +kernel
theorem dX7_issue_33 : decode cX7_issue 33 = .ok (.aload_n 0, 1) := by decide +kernel
theorem dX7_issue_34 : decode cX7_issue 34 = .ok (.new 9, 3) := by decide +kernel
theorem dX7_issue_37 : decode cX7_issue 37 = .ok (.dup, 1) := by decide +kernel
theorem dX7_issue_38 : decode cX7_issue 38 = .ok (.aload_n 0, 1) := by decide +kernel
theorem dX7_issue_39 : decode cX7_issue 39 = .ok (.getfield 57, 3) := by decide +kernel
theorem dX7_issue_42 : decode cX7_issue 42 = .ok (.iconst 1, 1) := by decide +kernel
theorem dX7_issue_43 : decode cX7_issue 43 = .ok (.iload_n 1, 1) := by decide +kernel
theorem dX7_issue_44 : decode cX7_issue 44 = .ok (.iload_n 2, 1) := by decide +kernel
theorem dX7_issue_45 : decode cX7_issue 45 = .ok (.iload_n 3, 1) := by decide +kernel
theorem dX7_issue_46 : decode cX7_issue 46 = .ok (.iconst 0, 1) := by decide +kernel
theorem dX7_issue_47 : decode cX7_issue 47 = .ok (.invokespecial 60, 3) := by decide +kernel
theorem dX7_issue_50 : decode cX7_issue 50 = .ok (.invokevirtual 63, 3) := by decide +kernel
theorem dX7_issue_53 : decode cX7_issue 53 = .ok (.ireturn, 1) := by decide +kernel
theorem dX7_revalue_0 : decode cX7_revalue 0 = .ok (.iload_n 2, 1) := by decide +kernel
theorem dX7_revalue_1 : decode cX7_revalue 1 = .ok (.iload_n 1, 1) := by decide +kernel
theorem dX7_revalue_2 : decode cX7_revalue 2 = .ok (.invokestatic 44, 3) := by decide +kernel
theorem dX7_revalue_5 : decode cX7_revalue 5 = .ok (.iload_n 3, 1) := by decide +kernel
theorem dX7_revalue_6 : decode cX7_revalue 6 = .ok (.iconst 1, 1) := by decide +kernel
theorem dX7_revalue_7 : decode cX7_revalue 7 = .ok (.sipush 1000, 3) := by decide +kernel
theorem dX7_revalue_10 : decode cX7_revalue 10 = .ok (.invokestatic 48, 3) := by decide +kernel
theorem dX7_revalue_13 : decode cX7_revalue 13 = .ok (.iload 4, 2) := by decide +kernel
theorem dX7_revalue_15 : decode cX7_revalue 15 = .ok (.iconst 0, 1) := by decide +kernel
theorem dX7_revalue_16 : decode cX7_revalue 16 = .ok (.ldc 52, 2) := by decide +kernel
theorem dX7_revalue_18 : decode cX7_revalue 18 = .ok (.invokestatic 48, 3) := by decide +kernel
theorem dX7_revalue_21 : decode cX7_revalue 21 = .ok (.aload_n 0, 1) := by decide +kernel
theorem dX7_revalue_22 : decode cX7_revalue 22 = .ok (.iload_n 1, 1) := by decide +kernel
theorem dX7_revalue_23 : decode cX7_revalue 23 = .ok (.invokevirtual 53, 3) := by decide +kernel
theorem dX7_revalue_26 : decode cX7_revalue 26 = .ok (.iload_n 3, 1) := by decide +kernel
theorem dX7_revalue_27 : decode cX7_revalue 27 = .ok (.aload_n 0, 1) := by decide +kernel
theorem dX7_revalue_28 : decode cX7_revalue 28 = .ok (.getfield 18, 3) := by decide +kernel
theorem dX7_revalue_31 : decode cX7_revalue 31 = .ok (.iload_n 2, 1) := by decide +kernel
theorem dX7_revalue_32 : decode cX7_revalue 32 = .ok (.iload_n 1, 1) := by decide +kernel
theorem dX7_revalue_33 : decode cX7_revalue 33 = .ok (.invokevirtual 74, 3) := by decide +kernel
theorem dX7_revalue_36 : decode cX7_revalue 36 = .ok (.invokestatic 71, 3) := by decide +kernel
theorem dX7_revalue_39 : decode cX7_revalue 39 = .ok (.aload_n 0, 1) := by decide +kernel
theorem dX7_revalue_40 : decode cX7_revalue 40 = .ok (.new 9, 3) := by decide +kernel
theorem dX7_revalue_43 : decode cX7_revalue 43 = .ok (.dup, 1) := by decide +kernel
theorem dX7_revalue_44 : decode cX7_revalue 44 = .ok (.aload_n 0, 1) := by decide +kernel
theorem dX7_revalue_45 : decode cX7_revalue 45 = .ok (.getfield 57, 3) := by decide +kernel
theorem dX7_revalue_48 : decode cX7_revalue 48 = .ok (.iconst 2, 1) := by decide +kernel
theorem dX7_revalue_49 : decode cX7_revalue 49 = .ok (.iload_n 1, 1) := by decide +kernel
theorem dX7_revalue_50 : decode cX7_revalue 50 = .ok (.iload_n 2, 1) := by decide +kernel
theorem dX7_revalue_51 : decode cX7_revalue 51 = .ok (.iload_n 3, 1) := by decide +kernel
theorem dX7_revalue_52 : decode cX7_revalue 52 = .ok (.iload 4, 2) := by decide +kernel
theorem dX7_revalue_54 : decode cX7_revalue 54 = .ok (.invokespecial 60, 3) := by decide +kernel
theorem dX7_revalue_57 : decode cX7_revalue 57 = .ok (.invokevirtual 63, 3) := by decide +kernel
theorem dX7_revalue_60 : decode cX7_revalue 60 = .ok (.ireturn, 1) := by decide +kernel
theorem dX7_land_0 : decode cX7_land 0 = .ok (.iload_n 1, 1) := by decide +kernel
theorem dX7_land_1 : decode cX7_land 1 = .ok (.iconst 0, 1) := by decide +kernel
theorem dX7_land_2 : decode cX7_land 2 = .ok (.sipush 364, 3) := by decide +kernel
theorem dX7_land_5 : decode cX7_land 5 = .ok (.invokestatic 48, 3) := by decide +kernel
theorem dX7_land_8 : decode cX7_land 8 = .ok (.iload_n 2, 1) := by decide +kernel
theorem dX7_land_9 : decode cX7_land 9 = .ok (.iconst 1, 1) := by decide +kernel
theorem dX7_land_10 : decode cX7_land 10 = .ok (.ldc 52, 2) := by decide +kernel
theorem dX7_land_12 : decode cX7_land 12 = .ok (.invokestatic 48, 3) := by decide +kernel
theorem dX7_land_15 : decode cX7_land 15 = .ok (.iload_n 3, 1) := by decide +kernel
theorem dX7_land_16 : decode cX7_land 16 = .ok (.iconst 0, 1) := by decide +kernel
theorem dX7_land_17 : decode cX7_land 17 = .ok (.iconst 2, 1) := by decide +kernel
theorem dX7_land_18 : decode cX7_land 18 = .ok (.invokestatic 48, 3) := by decide +kernel
theorem dX7_land_21 : decode cX7_land 21 = .ok (.lload 4, 2) := by decide +kernel
theorem dX7_land_23 : decode cX7_land 23 = .ok (.lconst 0, 1) := by decide +kernel
theorem dX7_land_24 : decode cX7_land 24 = .ok (.lcmp, 1) := by decide +kernel
theorem dX7_land_25 : decode cX7_land 25 = .ok (.ifCond .ne 13, 3) := by decide +kernel
theorem dX7_land_28 : decode cX7_land 28 = .ok (.new 78, 3) := by decide +kernel
theorem dX7_land_31 : decode cX7_land 31 = .ok (.dup, 1) := by decide +kernel
theorem dX7_land_32 : decode cX7_land 32 = .ok (.ldc 80, 2) := by decide +kernel
theorem dX7_land_34 : decode cX7_land 34 = .ok (.invokespecial 82, 3) := by decide +kernel
theorem dX7_land_37 : decode cX7_land 37 = .ok (.athrow, 1) := by decide +kernel
theorem dX7_land_38 : decode cX7_land 38 = .ok (.lload 4, 2) := by decide +kernel
theorem dX7_land_40 : decode cX7_land 40 = .ok (.aload_n 0, 1) := by decide +kernel
theorem dX7_land_41 : decode cX7_land 41 = .ok (.getfield 57, 3) := by decide +kernel
theorem dX7_land_44 : decode cX7_land 44 = .ok (.lushr, 1) := by decide +kernel
theorem dX7_land_45 : decode cX7_land 45 = .ok (.lconst 0, 1) := by decide +kernel
theorem dX7_land_46 : decode cX7_land 46 = .ok (.lcmp, 1) := by decide +kernel
theorem dX7_land_47 : decode cX7_land 47 = .ok (.ifCond .eq 13, 3) := by decide +kernel
theorem dX7_land_50 : decode cX7_land 50 = .ok (.new 85, 3) := by decide +kernel
theorem dX7_land_53 : decode cX7_land 53 = .ok (.dup, 1) := by decide +kernel
theorem dX7_land_54 : decode cX7_land 54 = .ok (.ldc 87, 2) := by decide +kernel
theorem dX7_land_56 : decode cX7_land 56 = .ok (.invokespecial 89, 3) := by decide +kernel
theorem dX7_land_59 : decode cX7_land 59 = .ok (.athrow, 1) := by decide +kernel
theorem dX7_land_60 : decode cX7_land 60 = .ok (.aload_n 0, 1) := by decide +kernel
theorem dX7_land_61 : decode cX7_land 61 = .ok (.iload_n 1, 1) := by decide +kernel
theorem dX7_land_62 : decode cX7_land 62 = .ok (.invokevirtual 53, 3) := by decide +kernel
theorem dX7_land_65 : decode cX7_land 65 = .ok (.aload_n 0, 1) := by decide +kernel
theorem dX7_land_66 : decode cX7_land 66 = .ok (.lload 4, 2) := by decide +kernel
theorem dX7_land_68 : decode cX7_land 68 = .ok (.iload_n 1, 1) := by decide +kernel
theorem dX7_land_69 : decode cX7_land 69 = .ok (.invokevirtual 90, 3) := by decide +kernel
theorem dX7_land_72 : decode cX7_land 72 = .ok (.aload_n 0, 1) := by decide +kernel
theorem dX7_land_73 : decode cX7_land 73 = .ok (.lload 4, 2) := by decide +kernel
theorem dX7_land_75 : decode cX7_land 75 = .ok (.iload_n 3, 1) := by decide +kernel
theorem dX7_land_76 : decode cX7_land 76 = .ok (.invokevirtual 94, 3) := by decide +kernel
theorem dX7_land_79 : decode cX7_land 79 = .ok (.lstore 6, 2) := by decide +kernel
theorem dX7_land_81 : decode cX7_land 81 = .ok (.lload 6, 2) := by decide +kernel
theorem dX7_land_83 : decode cX7_land 83 = .ok (.lconst 0, 1) := by decide +kernel
theorem dX7_land_84 : decode cX7_land 84 = .ok (.lcmp, 1) := by decide +kernel
theorem dX7_land_85 : decode cX7_land 85 = .ok (.ifCond .gt 13, 3) := by decide +kernel
theorem dX7_land_88 : decode cX7_land 88 = .ok (.new 98, 3) := by decide +kernel
theorem dX7_land_91 : decode cX7_land 91 = .ok (.dup, 1) := by decide +kernel
theorem dX7_land_92 : decode cX7_land 92 = .ok (.ldc 100, 2) := by decide +kernel
theorem dX7_land_94 : decode cX7_land 94 = .ok (.invokespecial 102, 3) := by decide +kernel
theorem dX7_land_97 : decode cX7_land 97 = .ok (.athrow, 1) := by decide +kernel
theorem dX7_land_98 : decode cX7_land 98 = .ok (.new 9, 3) := by decide +kernel
theorem dX7_land_101 : decode cX7_land 101 = .ok (.dup, 1) := by decide +kernel
theorem dX7_land_102 : decode cX7_land 102 = .ok (.aload_n 0, 1) := by decide +kernel
theorem dX7_land_103 : decode cX7_land 103 = .ok (.getfield 57, 3) := by decide +kernel
theorem dX7_land_106 : decode cX7_land 106 = .ok (.iconst 3, 1) := by decide +kernel
theorem dX7_land_107 : decode cX7_land 107 = .ok (.iload_n 1, 1) := by decide +kernel
theorem dX7_land_108 : decode cX7_land 108 = .ok (.iconst (-1), 1) := by decide +kernel
theorem dX7_land_109 : decode cX7_land 109 = .ok (.iconst 0, 1) := by decide +kernel
theorem dX7_land_110 : decode cX7_land 110 = .ok (.iload_n 2, 1) := by decide +kernel
theorem dX7_land_111 : decode cX7_land 111 = .ok (.invokespecial 60, 3) := by decide +kernel
theorem dX7_land_114 : decode cX7_land 114 = .ok (.astore 8, 2) := by decide +kernel
theorem dX7_land_116 : decode cX7_land 116 = .ok (.aload 8, 2) := by decide +kernel
theorem dX7_land_118 : decode cX7_land 118 = .ok (.aload_n 0, 1) := by decide +kernel
theorem dX7_land_119 : decode cX7_land 119 = .ok (.iload_n 2, 1) := by decide +kernel
theorem dX7_land_120 : decode cX7_land 120 = .ok (.iload_n 3, 1) := by decide +kernel
theorem dX7_land_121 : decode cX7_land 121 = .ok (.lload 4, 2) := by decide +kernel
theorem dX7_land_123 : decode cX7_land 123 = .ok (.lload 6, 2) := by decide +kernel
theorem dX7_land_125 : decode cX7_land 125 = .ok (.invokevirtual 103, 3) := by decide +kernel
theorem dX7_land_128 : decode cX7_land 128 = .ok (.putfield 107, 3) := by decide +kernel
theorem dX7_land_131 : decode cX7_land 131 = .ok (.aload_n 0, 1) := by decide +kernel
theorem dX7_land_132 : decode cX7_land 132 = .ok (.aload 8, 2) := by decide +kernel
theorem dX7_land_134 : decode cX7_land 134 = .ok (.invokevirtual 63, 3) := by decide +kernel
theorem dX7_land_137 : decode cX7_land 137 = .ok (.ireturn, 1) := by decide +kernel
theorem dX7_cancel_0 : decode cX7_cancel 0 = .ok (.aload_n 0, 1) := by decide +kernel
theorem dX7_cancel_1 : decode cX7_cancel 1 = .ok (.iload_n 1, 1) := by decide +kernel
theorem dX7_cancel_2 : decode cX7_cancel 2 = .ok (.invokevirtual 111, 3) := by decide +kernel
theorem dX7_cancel_5 : decode cX7_cancel 5 = .ok (.astore_n 2, 1) := by decide +kernel
theorem dX7_cancel_6 : decode cX7_cancel 6 = .ok (.aload_n 2, 1) := by decide +kernel
theorem dX7_cancel_7 : decode cX7_cancel 7 = .ok (.getfield 115, 3) := by decide +kernel
theorem dX7_cancel_10 : decode cX7_cancel 10 = .ok (.ifCond .eq 13, 3) := by decide +kernel
theorem dX7_cancel_13 : decode cX7_cancel 13 = .ok (.new 98, 3) := by decide +kernel
theorem dX7_cancel_16 : decode cX7_cancel 16 = .ok (.dup, 1) := by decide +kernel
theorem dX7_cancel_17 : decode cX7_cancel 17 = .ok (.ldc 119, 2) := by decide +kernel
theorem dX7_cancel_19 : decode cX7_cancel 19 = .ok (.invokespecial 102, 3) := by decide +kernel
theorem dX7_cancel_22 : decode cX7_cancel 22 = .ok (.athrow, 1) := by decide +kernel
theorem dX7_cancel_23 : decode cX7_cancel 23 = .ok (.aload_n 0, 1) := by decide +kernel
theorem dX7_cancel_24 : decode cX7_cancel 24 = .ok (.aload_n 2, 1) := by decide +kernel
theorem dX7_cancel_25 : decode cX7_cancel 25 = .ok (.getfield 121, 3) := by decide +kernel
theorem dX7_cancel_28 : decode cX7_cancel 28 = .ok (.invokevirtual 124, 3) := by decide +kernel
theorem dX7_cancel_31 : decode cX7_cancel 31 = .ok (.aload_n 2, 1) := by decide +kernel
theorem dX7_cancel_32 : decode cX7_cancel 32 = .ok (.getfield 127, 3) := by decide +kernel
theorem dX7_cancel_35 : decode cX7_cancel 35 = .ok (.ifCond .ne 8, 3) := by decide +kernel
theorem dX7_cancel_38 : decode cX7_cancel 38 = .ok (.aload_n 0, 1) := by decide +kernel
theorem dX7_cancel_39 : decode cX7_cancel 39 = .ok (.aload_n 2, 1) := by decide +kernel
theorem dX7_cancel_40 : decode cX7_cancel 40 = .ok (.invokevirtual 130, 3) := by decide +kernel
theorem dX7_cancel_43 : decode cX7_cancel 43 = .ok (.aload_n 2, 1) := by decide +kernel
theorem dX7_cancel_44 : decode cX7_cancel 44 = .ok (.iconst 1, 1) := by decide +kernel
theorem dX7_cancel_45 : decode cX7_cancel 45 = .ok (.putfield 115, 3) := by decide +kernel
theorem dX7_cancel_48 : decode cX7_cancel 48 = .ok (.aload_n 0, 1) := by decide +kernel
theorem dX7_cancel_49 : decode cX7_cancel 49 = .ok (.getfield 18, 3) := by decide +kernel
theorem dX7_cancel_52 : decode cX7_cancel 52 = .ok (.aload_n 2, 1) := by decide +kernel
theorem dX7_cancel_53 : decode cX7_cancel 53 = .ok (.invokevirtual 134, 3) := by decide +kernel
theorem dX7_cancel_56 : decode cX7_cancel 56 = .ok (.aload_n 0, 1) := by decide +kernel
theorem dX7_cancel_57 : decode cX7_cancel 57 = .ok (.getfield 18, 3) := by decide +kernel
theorem dX7_cancel_60 : decode cX7_cancel 60 = .ok (.getfield 137, 3) := by decide +kernel
theorem dX7_cancel_63 : decode cX7_cancel 63 = .ok (.ireturn, 1) := by decide +kernel
theorem dX7_close_0 : decode cX7_close 0 = .ok (.iload_n 1, 1) := by decide +kernel
theorem dX7_close_1 : decode cX7_close 1 = .ok (.iconst 0, 1) := by decide +kernel
theorem dX7_close_2 : decode cX7_close 2 = .ok (.sipush 364, 3) := by decide +kernel
theorem dX7_close_5 : decode cX7_close 5 = .ok (.invokestatic 48, 3) := by decide +kernel
theorem dX7_close_8 : decode cX7_close 8 = .ok (.aload_n 0, 1) := by decide +kernel
theorem dX7_close_9 : decode cX7_close 9 = .ok (.iload_n 1, 1) := by decide +kernel
theorem dX7_close_10 : decode cX7_close 10 = .ok (.invokevirtual 124, 3) := by decide +kernel
theorem dX7_close_13 : decode cX7_close 13 = .ok (.aload_n 0, 1) := by decide +kernel
theorem dX7_close_14 : decode cX7_close 14 = .ok (.getfield 40, 3) := by decide +kernel
theorem dX7_close_17 : decode cX7_close 17 = .ok (.istore_n 2, 1) := by decide +kernel
theorem dX7_close_18 : decode cX7_close 18 = .ok (.aload_n 0, 1) := by decide +kernel
theorem dX7_close_19 : decode cX7_close 19 = .ok (.iload_n 1, 1) := by decide +kernel
theorem dX7_close_20 : decode cX7_close 20 = .ok (.putfield 40, 3) := by decide +kernel
theorem dX7_close_23 : decode cX7_close 23 = .ok (.iload_n 2, 1) := by decide +kernel
theorem dX7_close_24 : decode cX7_close 24 = .ok (.ireturn, 1) := by decide +kernel
theorem dX7_setWeight_0 : decode cX7_setWeight 0 = .ok (.iload_n 1, 1) := by decide +kernel
theorem dX7_setWeight_1 : decode cX7_setWeight 1 = .ok (.iconst 0, 1) := by decide +kernel
theorem dX7_setWeight_2 : decode cX7_setWeight 2 = .ok (.iconst 5, 1) := by decide +kernel
theorem dX7_setWeight_3 : decode cX7_setWeight 3 = .ok (.invokestatic 48, 3) := by decide +kernel
theorem dX7_setWeight_6 : decode cX7_setWeight 6 = .ok (.iload_n 2, 1) := by decide +kernel
theorem dX7_setWeight_7 : decode cX7_setWeight 7 = .ok (.iconst 1, 1) := by decide +kernel
theorem dX7_setWeight_8 : decode cX7_setWeight 8 = .ok (.bipush 100, 2) := by decide +kernel
theorem dX7_setWeight_10 : decode cX7_setWeight 10 = .ok (.invokestatic 48, 3) := by decide +kernel
theorem dX7_setWeight_13 : decode cX7_setWeight 13 = .ok (.aload_n 0, 1) := by decide +kernel
theorem dX7_setWeight_14 : decode cX7_setWeight 14 = .ok (.iload_n 1, 1) := by decide +kernel
theorem dX7_setWeight_15 : decode cX7_setWeight 15 = .ok (.invokevirtual 140, 3) := by decide +kernel
theorem dX7_setWeight_18 : decode cX7_setWeight 18 = .ok (.istore_n 3, 1) := by decide +kernel
theorem dX7_setWeight_19 : decode cX7_setWeight 19 = .ok (.iload_n 1, 1) := by decide +kernel
theorem dX7_setWeight_20 : decode cX7_setWeight 20 = .ok (.ifCond .lt 19, 3) := by decide +kernel
theorem dX7_setWeight_23 : decode cX7_setWeight 23 = .ok (.iload_n 1, 1) := by decide +kernel
theorem dX7_setWeight_24 : decode cX7_setWeight 24 = .ok (.aload_n 0, 1) := by decide +kernel
theorem dX7_setWeight_25 : decode cX7_setWeight 25 = .ok (.getfield 36, 3) := by decide +kernel
theorem dX7_setWeight_28 : decode cX7_setWeight 28 = .ok (.arraylength, 1) := by decide +kernel
theorem dX7_setWeight_29 : decode cX7_setWeight 29 = .ok (.if_icmp .ge 10, 3) := by decide +kernel
theorem dX7_setWeight_32 : decode cX7_setWeight 32 = .ok (.aload_n 0, 1) := by decide +kernel
theorem dX7_setWeight_33 : decode cX7_setWeight 33 = .ok (.getfield 36, 3) := by decide +kernel
theorem dX7_setWeight_36 : decode cX7_setWeight 36 = .ok (.iload_n 1, 1) := by decide +kernel
theorem dX7_setWeight_37 : decode cX7_setWeight 37 = .ok (.iload_n 2, 1) := by decide +kernel
theorem dX7_setWeight_38 : decode cX7_setWeight 38 = .ok (.iastore, 1) := by decide +kernel
theorem dX7_setWeight_39 : decode cX7_setWeight 39 = .ok (.iload_n 3, 1) := by decide +kernel
theorem dX7_setWeight_40 : decode cX7_setWeight 40 = .ok (.ireturn, 1) := by decide +kernel
theorem dX7_movements_0 : decode cX7_movements 0 = .ok (.aload_n 0, 1) := by decide +kernel
theorem dX7_movements_1 : decode cX7_movements 1 = .ok (.getfield 57, 3) := by decide +kernel
theorem dX7_movements_4 : decode cX7_movements 4 = .ok (.ireturn, 1) := by decide +kernel
theorem dX7_kindOf_0 : decode cX7_kindOf 0 = .ok (.aload_n 0, 1) := by decide +kernel
theorem dX7_kindOf_1 : decode cX7_kindOf 1 = .ok (.iload_n 1, 1) := by decide +kernel
theorem dX7_kindOf_2 : decode cX7_kindOf 2 = .ok (.invokevirtual 111, 3) := by decide +kernel
theorem dX7_kindOf_5 : decode cX7_kindOf 5 = .ok (.getfield 127, 3) := by decide +kernel
theorem dX7_kindOf_8 : decode cX7_kindOf 8 = .ok (.ireturn, 1) := by decide +kernel
theorem dX7_dayOf_0 : decode cX7_dayOf 0 = .ok (.aload_n 0, 1) := by decide +kernel
theorem dX7_dayOf_1 : decode cX7_dayOf 1 = .ok (.iload_n 1, 1) := by decide +kernel
theorem dX7_dayOf_2 : decode cX7_dayOf 2 = .ok (.invokevirtual 111, 3) := by decide +kernel
theorem dX7_dayOf_5 : decode cX7_dayOf 5 = .ok (.getfield 121, 3) := by decide +kernel
theorem dX7_dayOf_8 : decode cX7_dayOf 8 = .ok (.ireturn, 1) := by decide +kernel
theorem dX7_isCancelled_0 : decode cX7_isCancelled 0 = .ok (.aload_n 0, 1) := by decide +kernel
theorem dX7_isCancelled_1 : decode cX7_isCancelled 1 = .ok (.iload_n 1, 1) := by decide +kernel
theorem dX7_isCancelled_2 : decode cX7_isCancelled 2 = .ok (.invokevirtual 111, 3) := by decide +kernel
theorem dX7_isCancelled_5 : decode cX7_isCancelled 5 = .ok (.getfield 115, 3) := by decide +kernel
theorem dX7_isCancelled_8 : decode cX7_isCancelled 8 = .ok (.ireturn, 1) := by decide +kernel
theorem dX7_placeOf_0 : decode cX7_placeOf 0 = .ok (.aload_n 0, 1) := by decide +kernel
theorem dX7_placeOf_1 : decode cX7_placeOf 1 = .ok (.iload_n 1, 1) := by decide +kernel
theorem dX7_placeOf_2 : decode cX7_placeOf 2 = .ok (.invokevirtual 111, 3) := by decide +kernel
theorem dX7_placeOf_5 : decode cX7_placeOf 5 = .ok (.astore_n 2, 1) := by decide +kernel
theorem dX7_placeOf_6 : decode cX7_placeOf 6 = .ok (.aload_n 2, 1) := by decide +kernel
theorem dX7_placeOf_7 : decode cX7_placeOf 7 = .ok (.getfield 115, 3) := by decide +kernel
theorem dX7_placeOf_10 : decode cX7_placeOf 10 = .ok (.ifCond .eq 7, 3) := by decide +kernel
theorem dX7_placeOf_13 : decode cX7_placeOf 13 = .ok (.iconst (-1), 1) := by decide +kernel
theorem dX7_placeOf_14 : decode cX7_placeOf 14 = .ok (.goto 11, 3) := by decide +kernel
theorem dX7_placeOf_17 : decode cX7_placeOf 17 = .ok (.aload_n 0, 1) := by decide +kernel
theorem dX7_placeOf_18 : decode cX7_placeOf 18 = .ok (.getfield 18, 3) := by decide +kernel
theorem dX7_placeOf_21 : decode cX7_placeOf 21 = .ok (.aload_n 2, 1) := by decide +kernel
theorem dX7_placeOf_22 : decode cX7_placeOf 22 = .ok (.invokevirtual 144, 3) := by decide +kernel
theorem dX7_placeOf_25 : decode cX7_placeOf 25 = .ok (.ireturn, 1) := by decide +kernel
theorem dX7_partOf_0 : decode cX7_partOf 0 = .ok (.aload_n 0, 1) := by decide +kernel
theorem dX7_partOf_1 : decode cX7_partOf 1 = .ok (.iload_n 1, 1) := by decide +kernel
theorem dX7_partOf_2 : decode cX7_partOf 2 = .ok (.invokevirtual 111, 3) := by decide +kernel
theorem dX7_partOf_5 : decode cX7_partOf 5 = .ok (.astore_n 3, 1) := by decide +kernel
theorem dX7_partOf_6 : decode cX7_partOf 6 = .ok (.aload_n 0, 1) := by decide +kernel
theorem dX7_partOf_7 : decode cX7_partOf 7 = .ok (.iload_n 2, 1) := by decide +kernel
theorem dX7_partOf_8 : decode cX7_partOf 8 = .ok (.invokevirtual 111, 3) := by decide +kernel
theorem dX7_partOf_11 : decode cX7_partOf 11 = .ok (.astore 4, 2) := by decide +kernel
theorem dX7_partOf_13 : decode cX7_partOf 13 = .ok (.aload_n 3, 1) := by decide +kernel
theorem dX7_partOf_14 : decode cX7_partOf 14 = .ok (.getfield 127, 3) := by decide +kernel
theorem dX7_partOf_17 : decode cX7_partOf 17 = .ok (.iconst 3, 1) := by decide +kernel
theorem dX7_partOf_18 : decode cX7_partOf 18 = .ok (.if_icmp .eq 13, 3) := by decide +kernel
theorem dX7_partOf_21 : decode cX7_partOf 21 = .ok (.new 98, 3) := by decide +kernel
theorem dX7_partOf_24 : decode cX7_partOf 24 = .ok (.dup, 1) := by decide +kernel
theorem dX7_partOf_25 : decode cX7_partOf 25 = .ok (.ldc 147, 2) := by decide +kernel
theorem dX7_partOf_27 : decode cX7_partOf 27 = .ok (.invokespecial 102, 3) := by decide +kernel
theorem dX7_partOf_30 : decode cX7_partOf 30 = .ok (.athrow, 1) := by decide +kernel
theorem dX7_partOf_31 : decode cX7_partOf 31 = .ok (.aload_n 3, 1) := by decide +kernel
theorem dX7_partOf_32 : decode cX7_partOf 32 = .ok (.aload 4, 2) := by decide +kernel
theorem dX7_partOf_34 : decode cX7_partOf 34 = .ok (.invokevirtual 149, 3) := by decide +kernel
theorem dX7_partOf_37 : decode cX7_partOf 37 = .ok (.astore 5, 2) := by decide +kernel
theorem dX7_partOf_39 : decode cX7_partOf 39 = .ok (.aload 5, 2) := by decide +kernel
theorem dX7_partOf_41 : decode cX7_partOf 41 = .ok (.ifnonnull 7, 3) := by decide +kernel
theorem dX7_partOf_44 : decode cX7_partOf 44 = .ok (.iconst 0, 1) := by decide +kernel
theorem dX7_partOf_45 : decode cX7_partOf 45 = .ok (.goto 8, 3) := by decide +kernel
theorem dX7_partOf_48 : decode cX7_partOf 48 = .ok (.aload 5, 2) := by decide +kernel
theorem dX7_partOf_50 : decode cX7_partOf 50 = .ok (.getfield 153, 3) := by decide +kernel
theorem dX7_partOf_53 : decode cX7_partOf 53 = .ok (.ireturn, 1) := by decide +kernel
theorem dX7_costOf_0 : decode cX7_costOf 0 = .ok (.aload_n 0, 1) := by decide +kernel
theorem dX7_costOf_1 : decode cX7_costOf 1 = .ok (.iload_n 1, 1) := by decide +kernel
theorem dX7_costOf_2 : decode cX7_costOf 2 = .ok (.invokevirtual 111, 3) := by decide +kernel
theorem dX7_costOf_5 : decode cX7_costOf 5 = .ok (.astore_n 3, 1) := by decide +kernel
theorem dX7_costOf_6 : decode cX7_costOf 6 = .ok (.aload_n 3, 1) := by decide +kernel
theorem dX7_costOf_7 : decode cX7_costOf 7 = .ok (.getfield 127, 3) := by decide +kernel
theorem dX7_costOf_10 : decode cX7_costOf 10 = .ok (.iconst 1, 1) := by decide +kernel
theorem dX7_costOf_11 : decode cX7_costOf 11 = .ok (.if_icmp .ne 10, 3) := by decide +kernel
theorem dX7_costOf_14 : decode cX7_costOf 14 = .ok (.aload_n 3, 1) := by decide +kernel
theorem dX7_costOf_15 : decode cX7_costOf 15 = .ok (.getfield 115, 3) := by decide +kernel
theorem dX7_costOf_18 : decode cX7_costOf 18 = .ok (.ifCond .eq 13, 3) := by decide +kernel
theorem dX7_costOf_21 : decode cX7_costOf 21 = .ok (.new 98, 3) := by decide +kernel
theorem dX7_costOf_24 : decode cX7_costOf 24 = .ok (.dup, 1) := by decide +kernel
theorem dX7_costOf_25 : decode cX7_costOf 25 = .ok (.ldc 158, 2) := by decide +kernel
theorem dX7_costOf_27 : decode cX7_costOf 27 = .ok (.invokespecial 102, 3) := by decide +kernel
theorem dX7_costOf_30 : decode cX7_costOf 30 = .ok (.athrow, 1) := by decide +kernel
theorem dX7_costOf_31 : decode cX7_costOf 31 = .ok (.aload_n 0, 1) := by decide +kernel
theorem dX7_costOf_32 : decode cX7_costOf 32 = .ok (.aload_n 3, 1) := by decide +kernel
theorem dX7_costOf_33 : decode cX7_costOf 33 = .ok (.getfield 160, 3) := by decide +kernel
theorem dX7_costOf_36 : decode cX7_costOf 36 = .ok (.aload_n 3, 1) := by decide +kernel
theorem dX7_costOf_37 : decode cX7_costOf 37 = .ok (.getfield 121, 3) := by decide +kernel
theorem dX7_costOf_40 : decode cX7_costOf 40 = .ok (.iload_n 2, 1) := by decide +kernel
theorem dX7_costOf_41 : decode cX7_costOf 41 = .ok (.invokevirtual 163, 3) := by decide +kernel
theorem dX7_costOf_44 : decode cX7_costOf 44 = .ok (.pop, 1) := by decide +kernel
theorem dX7_costOf_45 : decode cX7_costOf 45 = .ok (.aload_n 3, 1) := by decide +kernel
theorem dX7_costOf_46 : decode cX7_costOf 46 = .ok (.getfield 167, 3) := by decide +kernel
theorem dX7_costOf_49 : decode cX7_costOf 49 = .ok (.lreturn, 1) := by decide +kernel
theorem dX7_onHand_0 : decode cX7_onHand 0 = .ok (.iload_n 1, 1) := by decide +kernel
theorem dX7_onHand_1 : decode cX7_onHand 1 = .ok (.iload_n 2, 1) := by decide +kernel
theorem dX7_onHand_2 : decode cX7_onHand 2 = .ok (.invokestatic 44, 3) := by decide +kernel
theorem dX7_onHand_5 : decode cX7_onHand 5 = .ok (.aload_n 0, 1) := by decide +kernel
theorem dX7_onHand_6 : decode cX7_onHand 6 = .ok (.getfield 18, 3) := by decide +kernel
theorem dX7_onHand_9 : decode cX7_onHand 9 = .ok (.iload_n 1, 1) := by decide +kernel
theorem dX7_onHand_10 : decode cX7_onHand 10 = .ok (.iload_n 2, 1) := by decide +kernel
theorem dX7_onHand_11 : decode cX7_onHand 11 = .ok (.invokevirtual 74, 3) := by decide +kernel
theorem dX7_onHand_14 : decode cX7_onHand 14 = .ok (.ireturn, 1) := by decide +kernel
theorem dX7_available_0 : decode cX7_available 0 = .ok (.iload_n 1, 1) := by decide +kernel
theorem dX7_available_1 : decode cX7_available 1 = .ok (.iload_n 2, 1) := by decide +kernel
theorem dX7_available_2 : decode cX7_available 2 = .ok (.invokestatic 44, 3) := by decide +kernel
theorem dX7_available_5 : decode cX7_available 5 = .ok (.aload_n 0, 1) := by decide +kernel
theorem dX7_available_6 : decode cX7_available 6 = .ok (.getfield 18, 3) := by decide +kernel
theorem dX7_available_9 : decode cX7_available 9 = .ok (.iload_n 1, 1) := by decide +kernel
theorem dX7_available_10 : decode cX7_available 10 = .ok (.iload_n 2, 1) := by decide +kernel
theorem dX7_available_11 : decode cX7_available 11 = .ok (.bipush 60, 2) := by decide +kernel
theorem dX7_available_13 : decode cX7_available 13 = .ok (.invokevirtual 67, 3) := by decide +kernel
theorem dX7_available_16 : decode cX7_available 16 = .ok (.sipush 1000, 3) := by decide +kernel
theorem dX7_available_19 : decode cX7_available 19 = .ok (.invokestatic 171, 3) := by decide +kernel
theorem dX7_available_22 : decode cX7_available 22 = .ok (.ireturn, 1) := by decide +kernel
theorem dX7_value_0 : decode cX7_value 0 = .ok (.iload_n 1, 1) := by decide +kernel
theorem dX7_value_1 : decode cX7_value 1 = .ok (.iload_n 2, 1) := by decide +kernel
theorem dX7_value_2 : decode cX7_value 2 = .ok (.invokestatic 44, 3) := by decide +kernel
theorem dX7_value_5 : decode cX7_value 5 = .ok (.aload_n 0, 1) := by decide +kernel
theorem dX7_value_6 : decode cX7_value 6 = .ok (.iload_n 1, 1) := by decide +kernel
theorem dX7_value_7 : decode cX7_value 7 = .ok (.iload_n 2, 1) := by decide +kernel
theorem dX7_value_8 : decode cX7_value 8 = .ok (.iload_n 3, 1) := by decide +kernel
theorem dX7_value_9 : decode cX7_value 9 = .ok (.invokevirtual 163, 3) := by decide +kernel
theorem dX7_value_12 : decode cX7_value 12 = .ok (.invokevirtual 176, 3) := by decide +kernel
theorem dX7_value_15 : decode cX7_value 15 = .ok (.lreturn, 1) := by decide +kernel
theorem dX7_received_0 : decode cX7_received 0 = .ok (.iload_n 1, 1) := by decide +kernel
theorem dX7_received_1 : decode cX7_received 1 = .ok (.iload_n 2, 1) := by decide +kernel
theorem dX7_received_2 : decode cX7_received 2 = .ok (.invokestatic 44, 3) := by decide +kernel
theorem dX7_received_5 : decode cX7_received 5 = .ok (.aload_n 0, 1) := by decide +kernel
theorem dX7_received_6 : decode cX7_received 6 = .ok (.iload_n 1, 1) := by decide +kernel
theorem dX7_received_7 : decode cX7_received 7 = .ok (.iload_n 2, 1) := by decide +kernel
theorem dX7_received_8 : decode cX7_received 8 = .ok (.iconst 1, 1) := by decide +kernel
theorem dX7_received_9 : decode cX7_received 9 = .ok (.invokevirtual 163, 3) := by decide +kernel
theorem dX7_received_12 : decode cX7_received 12 = .ok (.getfield 182, 3) := by decide +kernel
theorem dX7_received_15 : decode cX7_received 15 = .ok (.lreturn, 1) := by decide +kernel
theorem dX7_issued_0 : decode cX7_issued 0 = .ok (.iload_n 1, 1) := by decide +kernel
theorem dX7_issued_1 : decode cX7_issued 1 = .ok (.iload_n 2, 1) := by decide +kernel
theorem dX7_issued_2 : decode cX7_issued 2 = .ok (.invokestatic 44, 3) := by decide +kernel
theorem dX7_issued_5 : decode cX7_issued 5 = .ok (.aload_n 0, 1) := by decide +kernel
theorem dX7_issued_6 : decode cX7_issued 6 = .ok (.iload_n 1, 1) := by decide +kernel
theorem dX7_issued_7 : decode cX7_issued 7 = .ok (.iload_n 2, 1) := by decide +kernel
theorem dX7_issued_8 : decode cX7_issued 8 = .ok (.iload_n 3, 1) := by decide +kernel
theorem dX7_issued_9 : decode cX7_issued 9 = .ok (.invokevirtual 163, 3) := by decide +kernel
theorem dX7_issued_12 : decode cX7_issued 12 = .ok (.getfield 185, 3) := by decide +kernel
theorem dX7_issued_15 : decode cX7_issued 15 = .ok (.lreturn, 1) := by decide +kernel
theorem dX7_revalued_0 : decode cX7_revalued 0 = .ok (.iload_n 1, 1) := by decide +kernel
theorem dX7_revalued_1 : decode cX7_revalued 1 = .ok (.iload_n 2, 1) := by decide +kernel
theorem dX7_revalued_2 : decode cX7_revalued 2 = .ok (.invokestatic 44, 3) := by decide +kernel
theorem dX7_revalued_5 : decode cX7_revalued 5 = .ok (.aload_n 0, 1) := by decide +kernel
theorem dX7_revalued_6 : decode cX7_revalued 6 = .ok (.iload_n 1, 1) := by decide +kernel
theorem dX7_revalued_7 : decode cX7_revalued 7 = .ok (.iload_n 2, 1) := by decide +kernel
theorem dX7_revalued_8 : decode cX7_revalued 8 = .ok (.iload_n 3, 1) := by decide +kernel
theorem dX7_revalued_9 : decode cX7_revalued 9 = .ok (.invokevirtual 163, 3) := by decide +kernel
theorem dX7_revalued_12 : decode cX7_revalued 12 = .ok (.getfield 188, 3) := by decide +kernel
theorem dX7_revalued_15 : decode cX7_revalued 15 = .ok (.lreturn, 1) := by decide +kernel
theorem dX7_expensed_0 : decode cX7_expensed 0 = .ok (.iload_n 1, 1) := by decide +kernel
theorem dX7_expensed_1 : decode cX7_expensed 1 = .ok (.iload_n 2, 1) := by decide +kernel
theorem dX7_expensed_2 : decode cX7_expensed 2 = .ok (.invokestatic 44, 3) := by decide +kernel
theorem dX7_expensed_5 : decode cX7_expensed 5 = .ok (.aload_n 0, 1) := by decide +kernel
theorem dX7_expensed_6 : decode cX7_expensed 6 = .ok (.iload_n 1, 1) := by decide +kernel
theorem dX7_expensed_7 : decode cX7_expensed 7 = .ok (.iload_n 2, 1) := by decide +kernel
theorem dX7_expensed_8 : decode cX7_expensed 8 = .ok (.iload_n 3, 1) := by decide +kernel
theorem dX7_expensed_9 : decode cX7_expensed 9 = .ok (.invokevirtual 163, 3) := by decide +kernel
theorem dX7_expensed_12 : decode cX7_expensed 12 = .ok (.getfield 191, 3) := by decide +kernel
theorem dX7_expensed_15 : decode cX7_expensed 15 = .ok (.lreturn, 1) := by decide +kernel
theorem dX7_layers_0 : decode cX7_layers 0 = .ok (.iload_n 1, 1) := by decide +kernel
theorem dX7_layers_1 : decode cX7_layers 1 = .ok (.iload_n 2, 1) := by decide +kernel
theorem dX7_layers_2 : decode cX7_layers 2 = .ok (.invokestatic 44, 3) := by decide +kernel
theorem dX7_layers_5 : decode cX7_layers 5 = .ok (.aload_n 0, 1) := by decide +kernel
theorem dX7_layers_6 : decode cX7_layers 6 = .ok (.getfield 25, 3) := by decide +kernel
theorem dX7_layers_9 : decode cX7_layers 9 = .ok (.aload_n 0, 1) := by decide +kernel
theorem dX7_layers_10 : decode cX7_layers 10 = .ok (.getfield 18, 3) := by decide +kernel
theorem dX7_layers_13 : decode cX7_layers 13 = .ok (.getfield 194, 3) := by decide +kernel
theorem dX7_layers_16 : decode cX7_layers 16 = .ok (.iload_n 1, 1) := by decide +kernel
theorem dX7_layers_17 : decode cX7_layers 17 = .ok (.iload_n 2, 1) := by decide +kernel
theorem dX7_layers_18 : decode cX7_layers 18 = .ok (.invokevirtual 198, 3) := by decide +kernel
theorem dX7_layers_21 : decode cX7_layers 21 = .ok (.aload_n 0, 1) := by decide +kernel
theorem dX7_layers_22 : decode cX7_layers 22 = .ok (.getfield 25, 3) := by decide +kernel
theorem dX7_layers_25 : decode cX7_layers 25 = .ok (.invokevirtual 202, 3) := by decide +kernel
theorem dX7_layers_28 : decode cX7_layers 28 = .ok (.ireturn, 1) := by decide +kernel
theorem dX7_layerQuantity_0 : decode cX7_layerQuantity 0 = .ok (.aload_n 0, 1) := by decide +kernel
theorem dX7_layerQuantity_1 : decode cX7_layerQuantity 1 = .ok (.iload_n 1, 1) := by decide +kernel
theorem dX7_layerQuantity_2 : decode cX7_layerQuantity 2 = .ok (.iload_n 2, 1) := by decide +kernel
theorem dX7_layerQuantity_3 : decode cX7_layerQuantity 3 = .ok (.iload_n 3, 1) := by decide +kernel
theorem dX7_layerQuantity_4 : decode cX7_layerQuantity 4 = .ok (.invokevirtual 206, 3) := by decide +kernel
theorem dX7_layerQuantity_7 : decode cX7_layerQuantity 7 = .ok (.getfield 210, 3) := by decide +kernel
theorem dX7_layerQuantity_10 : decode cX7_layerQuantity 10 = .ok (.ireturn, 1) := by decide +kernel
theorem dX7_layerCost_0 : decode cX7_layerCost 0 = .ok (.aload_n 0, 1) := by decide +kernel
theorem dX7_layerCost_1 : decode cX7_layerCost 1 = .ok (.iload_n 1, 1) := by decide +kernel
theorem dX7_layerCost_2 : decode cX7_layerCost 2 = .ok (.iload_n 2, 1) := by decide +kernel
theorem dX7_layerCost_3 : decode cX7_layerCost 3 = .ok (.iload_n 3, 1) := by decide +kernel
theorem dX7_layerCost_4 : decode cX7_layerCost 4 = .ok (.invokevirtual 206, 3) := by decide +kernel
theorem dX7_layerCost_7 : decode cX7_layerCost 7 = .ok (.getfield 214, 3) := by decide +kernel
theorem dX7_layerCost_10 : decode cX7_layerCost 10 = .ok (.lreturn, 1) := by decide +kernel
theorem dX7_layerOrigin_0 : decode cX7_layerOrigin 0 = .ok (.aload_n 0, 1) := by decide +kernel
theorem dX7_layerOrigin_1 : decode cX7_layerOrigin 1 = .ok (.iload_n 1, 1) := by decide +kernel
theorem dX7_layerOrigin_2 : decode cX7_layerOrigin 2 = .ok (.iload_n 2, 1) := by decide +kernel
theorem dX7_layerOrigin_3 : decode cX7_layerOrigin 3 = .ok (.iload_n 3, 1) := by decide +kernel
theorem dX7_layerOrigin_4 : decode cX7_layerOrigin 4 = .ok (.invokevirtual 206, 3) := by decide +kernel
theorem dX7_layerOrigin_7 : decode cX7_layerOrigin 7 = .ok (.getfield 217, 3) := by decide +kernel
theorem dX7_layerOrigin_10 : decode cX7_layerOrigin 10 = .ok (.ireturn, 1) := by decide +kernel
theorem dX7_checkRange_0 : decode cX7_checkRange 0 = .ok (.iload_n 0, 1) := by decide +kernel
theorem dX7_checkRange_1 : decode cX7_checkRange 1 = .ok (.iload_n 1, 1) := by decide +kernel
theorem dX7_checkRange_2 : decode cX7_checkRange 2 = .ok (.if_icmp .lt 8, 3) := by decide +kernel
theorem dX7_checkRange_5 : decode cX7_checkRange 5 = .ok (.iload_n 0, 1) := by decide +kernel
theorem dX7_checkRange_6 : decode cX7_checkRange 6 = .ok (.iload_n 2, 1) := by decide +kernel
theorem dX7_checkRange_7 : decode cX7_checkRange 7 = .ok (.if_icmp .le 13, 3) := by decide +kernel
theorem dX7_checkRange_10 : decode cX7_checkRange 10 = .ok (.new 78, 3) := by decide +kernel
theorem dX7_checkRange_13 : decode cX7_checkRange 13 = .ok (.dup, 1) := by decide +kernel
theorem dX7_checkRange_14 : decode cX7_checkRange 14 = .ok (.ldc 220, 2) := by decide +kernel
theorem dX7_checkRange_16 : decode cX7_checkRange 16 = .ok (.invokespecial 82, 3) := by decide +kernel
theorem dX7_checkRange_19 : decode cX7_checkRange 19 = .ok (.athrow, 1) := by decide +kernel
theorem dX7_checkRange_20 : decode cX7_checkRange 20 = .ok (.return_, 1) := by decide +kernel
theorem dX7_checkItemAndDay_0 : decode cX7_checkItemAndDay 0 = .ok (.iload_n 0, 1) := by decide +kernel
theorem dX7_checkItemAndDay_1 : decode cX7_checkItemAndDay 1 = .ok (.iconst 0, 1) := by decide +kernel
theorem dX7_checkItemAndDay_2 : decode cX7_checkItemAndDay 2 = .ok (.iconst 5, 1) := by decide +kernel
theorem dX7_checkItemAndDay_3 : decode cX7_checkItemAndDay 3 = .ok (.invokestatic 48, 3) := by decide +kernel
theorem dX7_checkItemAndDay_6 : decode cX7_checkItemAndDay 6 = .ok (.iload_n 1, 1) := by decide +kernel
theorem dX7_checkItemAndDay_7 : decode cX7_checkItemAndDay 7 = .ok (.iconst 0, 1) := by decide +kernel
theorem dX7_checkItemAndDay_8 : decode cX7_checkItemAndDay 8 = .ok (.sipush 364, 3) := by decide +kernel
theorem dX7_checkItemAndDay_11 : decode cX7_checkItemAndDay 11 = .ok (.invokestatic 48, 3) := by decide +kernel
theorem dX7_checkItemAndDay_14 : decode cX7_checkItemAndDay 14 = .ok (.return_, 1) := by decide +kernel
theorem dX7_checkOpen_0 : decode cX7_checkOpen 0 = .ok (.iload_n 1, 1) := by decide +kernel
theorem dX7_checkOpen_1 : decode cX7_checkOpen 1 = .ok (.aload_n 0, 1) := by decide +kernel
theorem dX7_checkOpen_2 : decode cX7_checkOpen 2 = .ok (.getfield 40, 3) := by decide +kernel
theorem dX7_checkOpen_5 : decode cX7_checkOpen 5 = .ok (.if_icmp .gt 13, 3) := by decide +kernel
theorem dX7_checkOpen_8 : decode cX7_checkOpen 8 = .ok (.new 98, 3) := by decide +kernel
theorem dX7_checkOpen_11 : decode cX7_checkOpen 11 = .ok (.dup, 1) := by decide +kernel
theorem dX7_checkOpen_12 : decode cX7_checkOpen 12 = .ok (.ldc 222, 2) := by decide +kernel
theorem dX7_checkOpen_14 : decode cX7_checkOpen 14 = .ok (.invokespecial 102, 3) := by decide +kernel
theorem dX7_checkOpen_17 : decode cX7_checkOpen 17 = .ok (.athrow, 1) := by decide +kernel
theorem dX7_checkOpen_18 : decode cX7_checkOpen 18 = .ok (.return_, 1) := by decide +kernel
theorem dX7_checkPosting_0 : decode cX7_checkPosting 0 = .ok (.aload_n 0, 1) := by decide +kernel
theorem dX7_checkPosting_1 : decode cX7_checkPosting 1 = .ok (.iload_n 1, 1) := by decide +kernel
theorem dX7_checkPosting_2 : decode cX7_checkPosting 2 = .ok (.invokevirtual 124, 3) := by decide +kernel
theorem dX7_checkPosting_5 : decode cX7_checkPosting 5 = .ok (.aload_n 0, 1) := by decide +kernel
theorem dX7_checkPosting_6 : decode cX7_checkPosting 6 = .ok (.getfield 57, 3) := by decide +kernel
theorem dX7_checkPosting_9 : decode cX7_checkPosting 9 = .ok (.bipush 60, 2) := by decide +kernel
theorem dX7_checkPosting_11 : decode cX7_checkPosting 11 = .ok (.if_icmp .lt 13, 3) := by decide +kernel
theorem dX7_checkPosting_14 : decode cX7_checkPosting 14 = .ok (.new 98, 3) := by decide +kernel
theorem dX7_checkPosting_17 : decode cX7_checkPosting 17 = .ok (.dup, 1) := by decide +kernel
theorem dX7_checkPosting_18 : decode cX7_checkPosting 18 = .ok (.ldc 224, 2) := by decide +kernel
theorem dX7_checkPosting_20 : decode cX7_checkPosting 20 = .ok (.invokespecial 102, 3) := by decide +kernel
theorem dX7_checkPosting_23 : decode cX7_checkPosting 23 = .ok (.athrow, 1) := by decide +kernel
theorem dX7_checkPosting_24 : decode cX7_checkPosting 24 = .ok (.return_, 1) := by decide +kernel
theorem dX7_checkOnHand_0 : decode cX7_checkOnHand 0 = .ok (.iload_n 0, 1) := by decide +kernel
theorem dX7_checkOnHand_1 : decode cX7_checkOnHand 1 = .ok (.iload_n 1, 1) := by decide +kernel
theorem dX7_checkOnHand_2 : decode cX7_checkOnHand 2 = .ok (.if_icmp .le 13, 3) := by decide +kernel
theorem dX7_checkOnHand_5 : decode cX7_checkOnHand 5 = .ok (.new 98, 3) := by decide +kernel
theorem dX7_checkOnHand_8 : decode cX7_checkOnHand 8 = .ok (.dup, 1) := by decide +kernel
theorem dX7_checkOnHand_9 : decode cX7_checkOnHand 9 = .ok (.ldc 226, 2) := by decide +kernel
theorem dX7_checkOnHand_11 : decode cX7_checkOnHand 11 = .ok (.invokespecial 102, 3) := by decide +kernel
theorem dX7_checkOnHand_14 : decode cX7_checkOnHand 14 = .ok (.athrow, 1) := by decide +kernel
theorem dX7_checkOnHand_15 : decode cX7_checkOnHand 15 = .ok (.return_, 1) := by decide +kernel
theorem dX7_checkReceipts_0 : decode cX7_checkReceipts 0 = .ok (.iconst 0, 1) := by decide +kernel
theorem dX7_checkReceipts_1 : decode cX7_checkReceipts 1 = .ok (.istore 4, 2) := by decide +kernel
theorem dX7_checkReceipts_3 : decode cX7_checkReceipts 3 = .ok (.iload 4, 2) := by decide +kernel
theorem dX7_checkReceipts_5 : decode cX7_checkReceipts 5 = .ok (.bipush 60, 2) := by decide +kernel
theorem dX7_checkReceipts_7 : decode cX7_checkReceipts 7 = .ok (.if_icmp .ge 58, 3) := by decide +kernel
theorem dX7_checkReceipts_10 : decode cX7_checkReceipts 10 = .ok (.aload_n 0, 1) := by decide +kernel
theorem dX7_checkReceipts_11 : decode cX7_checkReceipts 11 = .ok (.lload_n 1, 1) := by decide +kernel
theorem dX7_checkReceipts_12 : decode cX7_checkReceipts 12 = .ok (.iload 4, 2) := by decide +kernel
theorem dX7_checkReceipts_14 : decode cX7_checkReceipts 14 = .ok (.invokevirtual 228, 3) := by decide +kernel
theorem dX7_checkReceipts_17 : decode cX7_checkReceipts 17 = .ok (.astore 5, 2) := by decide +kernel
theorem dX7_checkReceipts_19 : decode cX7_checkReceipts 19 = .ok (.aload 5, 2) := by decide +kernel
theorem dX7_checkReceipts_21 : decode cX7_checkReceipts 21 = .ok (.ifnull 38, 3) := by decide +kernel
theorem dX7_checkReceipts_24 : decode cX7_checkReceipts 24 = .ok (.aload 5, 2) := by decide +kernel
theorem dX7_checkReceipts_26 : decode cX7_checkReceipts 26 = .ok (.getfield 127, 3) := by decide +kernel
theorem dX7_checkReceipts_29 : decode cX7_checkReceipts 29 = .ok (.ifCond .ne 20, 3) := by decide +kernel
theorem dX7_checkReceipts_32 : decode cX7_checkReceipts 32 = .ok (.aload 5, 2) := by decide +kernel
theorem dX7_checkReceipts_34 : decode cX7_checkReceipts 34 = .ok (.getfield 115, 3) := by decide +kernel
theorem dX7_checkReceipts_37 : decode cX7_checkReceipts 37 = .ok (.ifCond .ne 12, 3) := by decide +kernel
theorem dX7_checkReceipts_40 : decode cX7_checkReceipts 40 = .ok (.aload 5, 2) := by decide +kernel
theorem dX7_checkReceipts_42 : decode cX7_checkReceipts 42 = .ok (.getfield 121, 3) := by decide +kernel
theorem dX7_checkReceipts_45 : decode cX7_checkReceipts 45 = .ok (.iload_n 3, 1) := by decide +kernel
theorem dX7_checkReceipts_46 : decode cX7_checkReceipts 46 = .ok (.if_icmp .le 13, 3) := by decide +kernel
theorem dX7_checkReceipts_49 : decode cX7_checkReceipts 49 = .ok (.new 98, 3) := by decide +kernel
theorem dX7_checkReceipts_52 : decode cX7_checkReceipts 52 = .ok (.dup, 1) := by decide +kernel
theorem dX7_checkReceipts_53 : decode cX7_checkReceipts 53 = .ok (.ldc 232, 2) := by decide +kernel
theorem dX7_checkReceipts_55 : decode cX7_checkReceipts 55 = .ok (.invokespecial 102, 3) := by decide +kernel
theorem dX7_checkReceipts_58 : decode cX7_checkReceipts 58 = .ok (.athrow, 1) := by decide +kernel
theorem dX7_checkReceipts_59 : decode cX7_checkReceipts 59 = .ok (.iinc 4 1, 3) := by decide +kernel
theorem dX7_checkReceipts_62 : decode cX7_checkReceipts 62 = .ok (.goto (-59), 3) := by decide +kernel
theorem dX7_checkReceipts_65 : decode cX7_checkReceipts 65 = .ok (.return_, 1) := by decide +kernel
theorem dX7_checkDispensable_0 : decode cX7_checkDispensable 0 = .ok (.aload_n 0, 1) := by decide +kernel
theorem dX7_checkDispensable_1 : decode cX7_checkDispensable 1 = .ok (.getfield 18, 3) := by decide +kernel
theorem dX7_checkDispensable_4 : decode cX7_checkDispensable 4 = .ok (.aload_n 1, 1) := by decide +kernel
theorem dX7_checkDispensable_5 : decode cX7_checkDispensable 5 = .ok (.invokevirtual 234, 3) := by decide +kernel
theorem dX7_checkDispensable_8 : decode cX7_checkDispensable 8 = .ok (.ifCond .eq 13, 3) := by decide +kernel
theorem dX7_checkDispensable_11 : decode cX7_checkDispensable 11 = .ok (.new 98, 3) := by decide +kernel
theorem dX7_checkDispensable_14 : decode cX7_checkDispensable 14 = .ok (.dup, 1) := by decide +kernel
theorem dX7_checkDispensable_15 : decode cX7_checkDispensable 15 = .ok (.ldc 238, 2) := by decide +kernel
theorem dX7_checkDispensable_17 : decode cX7_checkDispensable 17 = .ok (.invokespecial 102, 3) := by decide +kernel
theorem dX7_checkDispensable_20 : decode cX7_checkDispensable 20 = .ok (.athrow, 1) := by decide +kernel
theorem dX7_checkDispensable_21 : decode cX7_checkDispensable 21 = .ok (.aload_n 1, 1) := by decide +kernel
theorem dX7_checkDispensable_22 : decode cX7_checkDispensable 22 = .ok (.getfield 240, 3) := by decide +kernel
theorem dX7_checkDispensable_25 : decode cX7_checkDispensable 25 = .ok (.aload_n 0, 1) := by decide +kernel
theorem dX7_checkDispensable_26 : decode cX7_checkDispensable 26 = .ok (.getfield 18, 3) := by decide +kernel
theorem dX7_checkDispensable_29 : decode cX7_checkDispensable 29 = .ok (.aload_n 1, 1) := by decide +kernel
theorem dX7_checkDispensable_30 : decode cX7_checkDispensable 30 = .ok (.getfield 160, 3) := by decide +kernel
theorem dX7_checkDispensable_33 : decode cX7_checkDispensable 33 = .ok (.aload_n 1, 1) := by decide +kernel
theorem dX7_checkDispensable_34 : decode cX7_checkDispensable 34 = .ok (.getfield 121, 3) := by decide +kernel
theorem dX7_checkDispensable_37 : decode cX7_checkDispensable 37 = .ok (.aload_n 1, 1) := by decide +kernel
theorem dX7_checkDispensable_38 : decode cX7_checkDispensable 38 = .ok (.getfield 243, 3) := by decide +kernel
theorem dX7_checkDispensable_41 : decode cX7_checkDispensable 41 = .ok (.invokevirtual 67, 3) := by decide +kernel
theorem dX7_checkDispensable_44 : decode cX7_checkDispensable 44 = .ok (.invokestatic 71, 3) := by decide +kernel
theorem dX7_checkDispensable_47 : decode cX7_checkDispensable 47 = .ok (.return_, 1) := by decide +kernel
theorem dX7_find_0 : decode cX7_find 0 = .ok (.iload_n 1, 1) := by decide +kernel
theorem dX7_find_1 : decode cX7_find 1 = .ok (.ifCond .lt 21, 3) := by decide +kernel
theorem dX7_find_4 : decode cX7_find 4 = .ok (.iload_n 1, 1) := by decide +kernel
theorem dX7_find_5 : decode cX7_find 5 = .ok (.aload_n 0, 1) := by decide +kernel
theorem dX7_find_6 : decode cX7_find 6 = .ok (.getfield 11, 3) := by decide +kernel
theorem dX7_find_9 : decode cX7_find 9 = .ok (.arraylength, 1) := by decide +kernel
theorem dX7_find_10 : decode cX7_find 10 = .ok (.if_icmp .ge 12, 3) := by decide +kernel
theorem dX7_find_13 : decode cX7_find 13 = .ok (.aload_n 0, 1) := by decide +kernel
theorem dX7_find_14 : decode cX7_find 14 = .ok (.getfield 11, 3) := by decide +kernel
theorem dX7_find_17 : decode cX7_find 17 = .ok (.iload_n 1, 1) := by decide +kernel
theorem dX7_find_18 : decode cX7_find 18 = .ok (.aaload, 1) := by decide +kernel
theorem dX7_find_19 : decode cX7_find 19 = .ok (.goto 4, 3) := by decide +kernel
theorem dX7_find_22 : decode cX7_find 22 = .ok (.aconst_null, 1) := by decide +kernel
theorem dX7_find_23 : decode cX7_find 23 = .ok (.astore_n 2, 1) := by decide +kernel
theorem dX7_find_24 : decode cX7_find 24 = .ok (.aload_n 2, 1) := by decide +kernel
theorem dX7_find_25 : decode cX7_find 25 = .ok (.ifnonnull 13, 3) := by decide +kernel
theorem dX7_find_28 : decode cX7_find 28 = .ok (.new 85, 3) := by decide +kernel
theorem dX7_find_31 : decode cX7_find 31 = .ok (.dup, 1) := by decide +kernel
theorem dX7_find_32 : decode cX7_find 32 = .ok (.ldc 246, 2) := by decide +kernel
theorem dX7_find_34 : decode cX7_find 34 = .ok (.invokespecial 89, 3) := by decide +kernel
theorem dX7_find_37 : decode cX7_find 37 = .ok (.athrow, 1) := by decide +kernel
theorem dX7_find_38 : decode cX7_find 38 = .ok (.aload_n 2, 1) := by decide +kernel
theorem dX7_find_39 : decode cX7_find 39 = .ok (.areturn, 1) := by decide +kernel
theorem dX7_findLayer_0 : decode cX7_findLayer 0 = .ok (.iload_n 1, 1) := by decide +kernel
theorem dX7_findLayer_1 : decode cX7_findLayer 1 = .ok (.iload_n 2, 1) := by decide +kernel
theorem dX7_findLayer_2 : decode cX7_findLayer 2 = .ok (.invokestatic 44, 3) := by decide +kernel
theorem dX7_findLayer_5 : decode cX7_findLayer 5 = .ok (.aload_n 0, 1) := by decide +kernel
theorem dX7_findLayer_6 : decode cX7_findLayer 6 = .ok (.getfield 25, 3) := by decide +kernel
theorem dX7_findLayer_9 : decode cX7_findLayer 9 = .ok (.aload_n 0, 1) := by decide +kernel
theorem dX7_findLayer_10 : decode cX7_findLayer 10 = .ok (.getfield 18, 3) := by decide +kernel
theorem dX7_findLayer_13 : decode cX7_findLayer 13 = .ok (.getfield 194, 3) := by decide +kernel
theorem dX7_findLayer_16 : decode cX7_findLayer 16 = .ok (.iload_n 1, 1) := by decide +kernel
theorem dX7_findLayer_17 : decode cX7_findLayer 17 = .ok (.iload_n 2, 1) := by decide +kernel
theorem dX7_findLayer_18 : decode cX7_findLayer 18 = .ok (.invokevirtual 198, 3) := by decide +kernel
theorem dX7_findLayer_21 : decode cX7_findLayer 21 = .ok (.aload_n 0, 1) := by decide +kernel
theorem dX7_findLayer_22 : decode cX7_findLayer 22 = .ok (.getfield 25, 3) := by decide +kernel
theorem dX7_findLayer_25 : decode cX7_findLayer 25 = .ok (.iload_n 3, 1) := by decide +kernel
theorem dX7_findLayer_26 : decode cX7_findLayer 26 = .ok (.invokevirtual 248, 3) := by decide +kernel
theorem dX7_findLayer_29 : decode cX7_findLayer 29 = .ok (.astore 4, 2) := by decide +kernel
theorem dX7_findLayer_31 : decode cX7_findLayer 31 = .ok (.aload 4, 2) := by decide +kernel
theorem dX7_findLayer_33 : decode cX7_findLayer 33 = .ok (.ifnonnull 13, 3) := by decide +kernel
theorem dX7_findLayer_36 : decode cX7_findLayer 36 = .ok (.new 85, 3) := by decide +kernel
theorem dX7_findLayer_39 : decode cX7_findLayer 39 = .ok (.dup, 1) := by decide +kernel
theorem dX7_findLayer_40 : decode cX7_findLayer 40 = .ok (.ldc 252, 2) := by decide +kernel
theorem dX7_findLayer_42 : decode cX7_findLayer 42 = .ok (.invokespecial 89, 3) := by decide +kernel
theorem dX7_findLayer_45 : decode cX7_findLayer 45 = .ok (.athrow, 1) := by decide +kernel
theorem dX7_findLayer_46 : decode cX7_findLayer 46 = .ok (.aload 4, 2) := by decide +kernel
theorem dX7_findLayer_48 : decode cX7_findLayer 48 = .ok (.areturn, 1) := by decide +kernel
theorem dX7_post_0 : decode cX7_post 0 = .ok (.aload_n 0, 1) := by decide +kernel
theorem dX7_post_1 : decode cX7_post 1 = .ok (.getfield 57, 3) := by decide +kernel
theorem dX7_post_4 : decode cX7_post 4 = .ok (.ifCond .lt 43, 3) := by decide +kernel
theorem dX7_post_7 : decode cX7_post 7 = .ok (.aload_n 0, 1) := by decide +kernel
theorem dX7_post_8 : decode cX7_post 8 = .ok (.getfield 57, 3) := by decide +kernel
theorem dX7_post_11 : decode cX7_post 11 = .ok (.aload_n 0, 1) := by decide +kernel
theorem dX7_post_12 : decode cX7_post 12 = .ok (.getfield 11, 3) := by decide +kernel
theorem dX7_post_15 : decode cX7_post 15 = .ok (.arraylength, 1) := by decide +kernel
theorem dX7_post_16 : decode cX7_post 16 = .ok (.if_icmp .ge 31, 3) := by decide +kernel
theorem dX7_post_19 : decode cX7_post 19 = .ok (.aload_n 0, 1) := by decide +kernel
theorem dX7_post_20 : decode cX7_post 20 = .ok (.getfield 11, 3) := by decide +kernel
theorem dX7_post_23 : decode cX7_post 23 = .ok (.aload_n 0, 1) := by decide +kernel
theorem dX7_post_24 : decode cX7_post 24 = .ok (.getfield 57, 3) := by decide +kernel
theorem dX7_post_27 : decode cX7_post 27 = .ok (.aload_n 1, 1) := by decide +kernel
theorem dX7_post_28 : decode cX7_post 28 = .ok (.aastore, 1) := by decide +kernel
theorem dX7_post_29 : decode cX7_post 29 = .ok (.aload_n 0, 1) := by decide +kernel
theorem dX7_post_30 : decode cX7_post 30 = .ok (.dup, 1) := by decide +kernel
theorem dX7_post_31 : decode cX7_post 31 = .ok (.getfield 57, 3) := by decide +kernel
theorem dX7_post_34 : decode cX7_post 34 = .ok (.iconst 1, 1) := by decide +kernel
theorem dX7_post_35 : decode cX7_post 35 = .ok (.iadd, 1) := by decide +kernel
theorem dX7_post_36 : decode cX7_post 36 = .ok (.putfield 57, 3) := by decide +kernel
theorem dX7_post_39 : decode cX7_post 39 = .ok (.aload_n 0, 1) := by decide +kernel
theorem dX7_post_40 : decode cX7_post 40 = .ok (.getfield 18, 3) := by decide +kernel
theorem dX7_post_43 : decode cX7_post 43 = .ok (.aload_n 1, 1) := by decide +kernel
theorem dX7_post_44 : decode cX7_post 44 = .ok (.invokevirtual 254, 3) := by decide +kernel
theorem dX7_post_47 : decode cX7_post 47 = .ok (.aload_n 1, 1) := by decide +kernel
theorem dX7_post_48 : decode cX7_post 48 = .ok (.getfield 243, 3) := by decide +kernel
theorem dX7_post_51 : decode cX7_post 51 = .ok (.ireturn, 1) := by decide +kernel
theorem dX7_replayed_0 : decode cX7_replayed 0 = .ok (.iload_n 3, 1) := by decide +kernel
theorem dX7_replayed_1 : decode cX7_replayed 1 = .ok (.ifCond .eq 10, 3) := by decide +kernel
theorem dX7_replayed_4 : decode cX7_replayed 4 = .ok (.aload_n 0, 1) := by decide +kernel
theorem dX7_replayed_5 : decode cX7_replayed 5 = .ok (.getfield 32, 3) := by decide +kernel
theorem dX7_replayed_8 : decode cX7_replayed 8 = .ok (.goto 7, 3) := by decide +kernel
theorem dX7_replayed_11 : decode cX7_replayed 11 = .ok (.aload_n 0, 1) := by decide +kernel
theorem dX7_replayed_12 : decode cX7_replayed 12 = .ok (.getfield 25, 3) := by decide +kernel
theorem dX7_replayed_15 : decode cX7_replayed 15 = .ok (.astore 4, 2) := by decide +kernel
theorem dX7_replayed_17 : decode cX7_replayed 17 = .ok (.aload 4, 2) := by decide +kernel
theorem dX7_replayed_19 : decode cX7_replayed 19 = .ok (.aload_n 0, 1) := by decide +kernel
theorem dX7_replayed_20 : decode cX7_replayed 20 = .ok (.getfield 18, 3) := by decide +kernel
theorem dX7_replayed_23 : decode cX7_replayed 23 = .ok (.getfield 194, 3) := by decide +kernel
theorem dX7_replayed_26 : decode cX7_replayed 26 = .ok (.iload_n 1, 1) := by decide +kernel
theorem dX7_replayed_27 : decode cX7_replayed 27 = .ok (.iload_n 2, 1) := by decide +kernel
theorem dX7_replayed_28 : decode cX7_replayed 28 = .ok (.invokevirtual 257, 3) := by decide +kernel
theorem dX7_replayed_31 : decode cX7_replayed 31 = .ok (.aload 4, 2) := by decide +kernel
theorem dX7_replayed_33 : decode cX7_replayed 33 = .ok (.areturn, 1) := by decide +kernel
theorem dX7_weightOf_0 : decode cX7_weightOf 0 = .ok (.iload_n 1, 1) := by decide +kernel
theorem dX7_weightOf_1 : decode cX7_weightOf 1 = .ok (.ifCond .lt 21, 3) := by decide +kernel
theorem dX7_weightOf_4 : decode cX7_weightOf 4 = .ok (.iload_n 1, 1) := by decide +kernel
theorem dX7_weightOf_5 : decode cX7_weightOf 5 = .ok (.aload_n 0, 1) := by decide +kernel
theorem dX7_weightOf_6 : decode cX7_weightOf 6 = .ok (.getfield 36, 3) := by decide +kernel
theorem dX7_weightOf_9 : decode cX7_weightOf 9 = .ok (.arraylength, 1) := by decide +kernel
theorem dX7_weightOf_10 : decode cX7_weightOf 10 = .ok (.if_icmp .ge 12, 3) := by decide +kernel
theorem dX7_weightOf_13 : decode cX7_weightOf 13 = .ok (.aload_n 0, 1) := by decide +kernel
theorem dX7_weightOf_14 : decode cX7_weightOf 14 = .ok (.getfield 36, 3) := by decide +kernel
theorem dX7_weightOf_17 : decode cX7_weightOf 17 = .ok (.iload_n 1, 1) := by decide +kernel
theorem dX7_weightOf_18 : decode cX7_weightOf 18 = .ok (.iaload, 1) := by decide +kernel
theorem dX7_weightOf_19 : decode cX7_weightOf 19 = .ok (.goto 4, 3) := by decide +kernel
theorem dX7_weightOf_22 : decode cX7_weightOf 22 = .ok (.iconst 0, 1) := by decide +kernel
theorem dX7_weightOf_23 : decode cX7_weightOf 23 = .ok (.ireturn, 1) := by decide +kernel
theorem dX7_chosen_0 : decode cX7_chosen 0 = .ok (.iload_n 3, 1) := by decide +kernel
theorem dX7_chosen_1 : decode cX7_chosen 1 = .ok (.ifCond .lt 26, 3) := by decide +kernel
theorem dX7_chosen_4 : decode cX7_chosen 4 = .ok (.iload_n 3, 1) := by decide +kernel
theorem dX7_chosen_5 : decode cX7_chosen 5 = .ok (.aload_n 0, 1) := by decide +kernel
theorem dX7_chosen_6 : decode cX7_chosen 6 = .ok (.getfield 11, 3) := by decide +kernel
theorem dX7_chosen_9 : decode cX7_chosen 9 = .ok (.arraylength, 1) := by decide +kernel
theorem dX7_chosen_10 : decode cX7_chosen 10 = .ok (.if_icmp .ge 17, 3) := by decide +kernel
theorem dX7_chosen_13 : decode cX7_chosen 13 = .ok (.lload_n 1, 1) := by decide +kernel
theorem dX7_chosen_14 : decode cX7_chosen 14 = .ok (.iload_n 3, 1) := by decide +kernel
theorem dX7_chosen_15 : decode cX7_chosen 15 = .ok (.lushr, 1) := by decide +kernel
theorem dX7_chosen_16 : decode cX7_chosen 16 = .ok (.lconst 1, 1) := by decide +kernel
theorem dX7_chosen_17 : decode cX7_chosen 17 = .ok (.land, 1) := by decide +kernel
theorem dX7_chosen_18 : decode cX7_chosen 18 = .ok (.lconst 1, 1) := by decide +kernel
theorem dX7_chosen_19 : decode cX7_chosen 19 = .ok (.lcmp, 1) := by decide +kernel
theorem dX7_chosen_20 : decode cX7_chosen 20 = .ok (.ifCond .ne 7, 3) := by decide +kernel
theorem dX7_chosen_23 : decode cX7_chosen 23 = .ok (.iconst 1, 1) := by decide +kernel
theorem dX7_chosen_24 : decode cX7_chosen 24 = .ok (.goto 4, 3) := by decide +kernel
theorem dX7_chosen_27 : decode cX7_chosen 27 = .ok (.iconst 0, 1) := by decide +kernel
theorem dX7_chosen_28 : decode cX7_chosen 28 = .ok (.istore 4, 2) := by decide +kernel
theorem dX7_chosen_30 : decode cX7_chosen 30 = .ok (.iload 4, 2) := by decide +kernel
theorem dX7_chosen_32 : decode cX7_chosen 32 = .ok (.ifCond .eq 12, 3) := by decide +kernel
theorem dX7_chosen_35 : decode cX7_chosen 35 = .ok (.aload_n 0, 1) := by decide +kernel
theorem dX7_chosen_36 : decode cX7_chosen 36 = .ok (.getfield 11, 3) := by decide +kernel
theorem dX7_chosen_39 : decode cX7_chosen 39 = .ok (.iload_n 3, 1) := by decide +kernel
theorem dX7_chosen_40 : decode cX7_chosen 40 = .ok (.aaload, 1) := by decide +kernel
theorem dX7_chosen_41 : decode cX7_chosen 41 = .ok (.goto 4, 3) := by decide +kernel
theorem dX7_chosen_44 : decode cX7_chosen 44 = .ok (.aconst_null, 1) := by decide +kernel
theorem dX7_chosen_45 : decode cX7_chosen 45 = .ok (.areturn, 1) := by decide +kernel
theorem dX7_basisOf_0 : decode cX7_basisOf 0 = .ok (.iload_n 2, 1) := by decide +kernel
theorem dX7_basisOf_1 : decode cX7_basisOf 1 = .ok (.iconst 1, 1) := by decide +kernel
theorem dX7_basisOf_2 : decode cX7_basisOf 2 = .ok (.if_icmp .ne 9, 3) := by decide +kernel
theorem dX7_basisOf_5 : decode cX7_basisOf 5 = .ok (.aload_n 1, 1) := by decide +kernel
theorem dX7_basisOf_6 : decode cX7_basisOf 6 = .ok (.getfield 258, 3) := by decide +kernel
theorem dX7_basisOf_9 : decode cX7_basisOf 9 = .ok (.i2l, 1) := by decide +kernel
theorem dX7_basisOf_10 : decode cX7_basisOf 10 = .ok (.lreturn, 1) := by decide +kernel
theorem dX7_basisOf_11 : decode cX7_basisOf 11 = .ok (.iload_n 2, 1) := by decide +kernel
theorem dX7_basisOf_12 : decode cX7_basisOf 12 = .ok (.iconst 2, 1) := by decide +kernel
theorem dX7_basisOf_13 : decode cX7_basisOf 13 = .ok (.if_icmp .ne 20, 3) := by decide +kernel
theorem dX7_basisOf_16 : decode cX7_basisOf 16 = .ok (.aload_n 1, 1) := by decide +kernel
theorem dX7_basisOf_17 : decode cX7_basisOf 17 = .ok (.getfield 240, 3) := by decide +kernel
theorem dX7_basisOf_20 : decode cX7_basisOf 20 = .ok (.aload_n 0, 1) := by decide +kernel
theorem dX7_basisOf_21 : decode cX7_basisOf 21 = .ok (.aload_n 1, 1) := by decide +kernel
theorem dX7_basisOf_22 : decode cX7_basisOf 22 = .ok (.getfield 160, 3) := by decide +kernel
theorem dX7_basisOf_25 : decode cX7_basisOf 25 = .ok (.invokevirtual 140, 3) := by decide +kernel
theorem dX7_basisOf_28 : decode cX7_basisOf 28 = .ok (.imul, 1) := by decide +kernel
theorem dX7_basisOf_29 : decode cX7_basisOf 29 = .ok (.i2l, 1) := by decide +kernel
theorem dX7_basisOf_30 : decode cX7_basisOf 30 = .ok (.goto 8, 3) := by decide +kernel
theorem dX7_basisOf_33 : decode cX7_basisOf 33 = .ok (.aload_n 1, 1) := by decide +kernel
theorem dX7_basisOf_34 : decode cX7_basisOf 34 = .ok (.getfield 240, 3) := by decide +kernel
theorem dX7_basisOf_37 : decode cX7_basisOf 37 = .ok (.i2l, 1) := by decide +kernel
theorem dX7_basisOf_38 : decode cX7_basisOf 38 = .ok (.lreturn, 1) := by decide +kernel
theorem dX7_sumOfBasis_0 : decode cX7_sumOfBasis 0 = .ok (.lconst 0, 1) := by decide +kernel
theorem dX7_sumOfBasis_1 : decode cX7_sumOfBasis 1 = .ok (.lstore 4, 2) := by decide +kernel
theorem dX7_sumOfBasis_3 : decode cX7_sumOfBasis 3 = .ok (.iconst 0, 1) := by decide +kernel
theorem dX7_sumOfBasis_4 : decode cX7_sumOfBasis 4 = .ok (.istore 6, 2) := by decide +kernel
theorem dX7_sumOfBasis_6 : decode cX7_sumOfBasis 6 = .ok (.iload 6, 2) := by decide +kernel
theorem dX7_sumOfBasis_8 : decode cX7_sumOfBasis 8 = .ok (.bipush 60, 2) := by decide +kernel
theorem dX7_sumOfBasis_10 : decode cX7_sumOfBasis 10 = .ok (.if_icmp .ge 35, 3) := by decide +kernel
theorem dX7_sumOfBasis_13 : decode cX7_sumOfBasis 13 = .ok (.aload_n 0, 1) := by decide +kernel
theorem dX7_sumOfBasis_14 : decode cX7_sumOfBasis 14 = .ok (.lload_n 1, 1) := by decide +kernel
theorem dX7_sumOfBasis_15 : decode cX7_sumOfBasis 15 = .ok (.iload 6, 2) := by decide +kernel
theorem dX7_sumOfBasis_17 : decode cX7_sumOfBasis 17 = .ok (.invokevirtual 228, 3) := by decide +kernel
theorem dX7_sumOfBasis_20 : decode cX7_sumOfBasis 20 = .ok (.astore 7, 2) := by decide +kernel
theorem dX7_sumOfBasis_22 : decode cX7_sumOfBasis 22 = .ok (.aload 7, 2) := by decide +kernel
theorem dX7_sumOfBasis_24 : decode cX7_sumOfBasis 24 = .ok (.ifnull 15, 3) := by decide +kernel
theorem dX7_sumOfBasis_27 : decode cX7_sumOfBasis 27 = .ok (.lload 4, 2) := by decide +kernel
theorem dX7_sumOfBasis_29 : decode cX7_sumOfBasis 29 = .ok (.aload_n 0, 1) := by decide +kernel
theorem dX7_sumOfBasis_30 : decode cX7_sumOfBasis 30 = .ok (.aload 7, 2) := by decide +kernel
end
section
theorem dX7_sumOfBasis_32 : decode cX7_sumOfBasis 32 = .ok (.iload_n 3, 1) := by decide +kernel
theorem dX7_sumOfBasis_33 : decode cX7_sumOfBasis 33 = .ok (.invokevirtual 260, 3) := by decide +kernel
theorem dX7_sumOfBasis_36 : decode cX7_sumOfBasis 36 = .ok (.ladd, 1) := by decide +kernel
theorem dX7_sumOfBasis_37 : decode cX7_sumOfBasis 37 = .ok (.lstore 4, 2) := by decide +kernel
theorem dX7_sumOfBasis_39 : decode cX7_sumOfBasis 39 = .ok (.iinc 6 1, 3) := by decide +kernel
theorem dX7_sumOfBasis_42 : decode cX7_sumOfBasis 42 = .ok (.goto (-36), 3) := by decide +kernel
theorem dX7_sumOfBasis_45 : decode cX7_sumOfBasis 45 = .ok (.lload 4, 2) := by decide +kernel
theorem dX7_sumOfBasis_47 : decode cX7_sumOfBasis 47 = .ok (.lreturn, 1) := by decide +kernel
theorem dX7_spread_0 : decode cX7_spread 0 = .ok (.aconst_null, 1) := by decide +kernel
theorem dX7_spread_1 : decode cX7_spread 1 = .ok (.astore 7, 2) := by decide +kernel
theorem dX7_spread_3 : decode cX7_spread 3 = .ok (.iload_n 1, 1) := by decide +kernel
theorem dX7_spread_4 : decode cX7_spread 4 = .ok (.istore 8, 2) := by decide +kernel
theorem dX7_spread_6 : decode cX7_spread 6 = .ok (.bipush 59, 2) := by decide +kernel
theorem dX7_spread_8 : decode cX7_spread 8 = .ok (.istore 9, 2) := by decide +kernel
theorem dX7_spread_10 : decode cX7_spread 10 = .ok (.iload 9, 2) := by decide +kernel
theorem dX7_spread_12 : decode cX7_spread 12 = .ok (.ifCond .lt 76, 3) := by decide +kernel
theorem dX7_spread_15 : decode cX7_spread 15 = .ok (.aload_n 0, 1) := by decide +kernel
theorem dX7_spread_16 : decode cX7_spread 16 = .ok (.lload_n 3, 1) := by decide +kernel
theorem dX7_spread_17 : decode cX7_spread 17 = .ok (.iload 9, 2) := by decide +kernel
theorem dX7_spread_19 : decode cX7_spread 19 = .ok (.invokevirtual 228, 3) := by decide +kernel
theorem dX7_spread_22 : decode cX7_spread 22 = .ok (.astore 10, 2) := by decide +kernel
theorem dX7_spread_24 : decode cX7_spread 24 = .ok (.aload 10, 2) := by decide +kernel
theorem dX7_spread_26 : decode cX7_spread 26 = .ok (.ifnull 56, 3) := by decide +kernel
theorem dX7_spread_29 : decode cX7_spread 29 = .ok (.lload 5, 2) := by decide +kernel
theorem dX7_spread_31 : decode cX7_spread 31 = .ok (.lconst 0, 1) := by decide +kernel
theorem dX7_spread_32 : decode cX7_spread 32 = .ok (.lcmp, 1) := by decide +kernel
theorem dX7_spread_33 : decode cX7_spread 33 = .ok (.ifCond .le 49, 3) := by decide +kernel
theorem dX7_spread_36 : decode cX7_spread 36 = .ok (.iload_n 1, 1) := by decide +kernel
theorem dX7_spread_37 : decode cX7_spread 37 = .ok (.i2l, 1) := by decide +kernel
theorem dX7_spread_38 : decode cX7_spread 38 = .ok (.aload_n 0, 1) := by decide +kernel
theorem dX7_spread_39 : decode cX7_spread 39 = .ok (.aload 10, 2) := by decide +kernel
theorem dX7_spread_41 : decode cX7_spread 41 = .ok (.iload_n 2, 1) := by decide +kernel
theorem dX7_spread_42 : decode cX7_spread 42 = .ok (.invokevirtual 260, 3) := by decide +kernel
theorem dX7_spread_45 : decode cX7_spread 45 = .ok (.lmul, 1) := by decide +kernel
theorem dX7_spread_46 : decode cX7_spread 46 = .ok (.lstore 11, 2) := by decide +kernel
theorem dX7_spread_48 : decode cX7_spread 48 = .ok (.new 154, 3) := by decide +kernel
theorem dX7_spread_51 : decode cX7_spread 51 = .ok (.dup, 1) := by decide +kernel
theorem dX7_spread_52 : decode cX7_spread 52 = .ok (.aload 10, 2) := by decide +kernel
theorem dX7_spread_54 : decode cX7_spread 54 = .ok (.lload 11, 2) := by decide +kernel
theorem dX7_spread_56 : decode cX7_spread 56 = .ok (.lload 5, 2) := by decide +kernel
theorem dX7_spread_58 : decode cX7_spread 58 = .ok (.ldiv, 1) := by decide +kernel
theorem dX7_spread_59 : decode cX7_spread 59 = .ok (.l2i, 1) := by decide +kernel
theorem dX7_spread_60 : decode cX7_spread 60 = .ok (.lload 11, 2) := by decide +kernel
theorem dX7_spread_62 : decode cX7_spread 62 = .ok (.lload 5, 2) := by decide +kernel
theorem dX7_spread_64 : decode cX7_spread 64 = .ok (.lrem, 1) := by decide +kernel
theorem dX7_spread_65 : decode cX7_spread 65 = .ok (.aload 7, 2) := by decide +kernel
theorem dX7_spread_67 : decode cX7_spread 67 = .ok (.invokespecial 264, 3) := by decide +kernel
theorem dX7_spread_70 : decode cX7_spread 70 = .ok (.astore 7, 2) := by decide +kernel
theorem dX7_spread_72 : decode cX7_spread 72 = .ok (.iload 8, 2) := by decide +kernel
theorem dX7_spread_74 : decode cX7_spread 74 = .ok (.aload 7, 2) := by decide +kernel
theorem dX7_spread_76 : decode cX7_spread 76 = .ok (.getfield 153, 3) := by decide +kernel
theorem dX7_spread_79 : decode cX7_spread 79 = .ok (.isub, 1) := by decide +kernel
theorem dX7_spread_80 : decode cX7_spread 80 = .ok (.istore 8, 2) := by decide +kernel
theorem dX7_spread_82 : decode cX7_spread 82 = .ok (.iinc 9 (-1), 3) := by decide +kernel
theorem dX7_spread_85 : decode cX7_spread 85 = .ok (.goto (-75), 3) := by decide +kernel
theorem dX7_spread_88 : decode cX7_spread 88 = .ok (.iconst 0, 1) := by decide +kernel
theorem dX7_spread_89 : decode cX7_spread 89 = .ok (.istore 9, 2) := by decide +kernel
theorem dX7_spread_91 : decode cX7_spread 91 = .ok (.iload 9, 2) := by decide +kernel
theorem dX7_spread_93 : decode cX7_spread 93 = .ok (.iload 8, 2) := by decide +kernel
theorem dX7_spread_95 : decode cX7_spread 95 = .ok (.if_icmp .ge 14, 3) := by decide +kernel
theorem dX7_spread_98 : decode cX7_spread 98 = .ok (.aload 7, 2) := by decide +kernel
theorem dX7_spread_100 : decode cX7_spread 100 = .ok (.invokestatic 267, 3) := by decide +kernel
theorem dX7_spread_103 : decode cX7_spread 103 = .ok (.iinc 9 1, 3) := by decide +kernel
theorem dX7_spread_106 : decode cX7_spread 106 = .ok (.goto (-15), 3) := by decide +kernel
theorem dX7_spread_109 : decode cX7_spread 109 = .ok (.aload 7, 2) := by decide +kernel
theorem dX7_spread_111 : decode cX7_spread 111 = .ok (.areturn, 1) := by decide +kernel
theorem dX7_giveCent_0 : decode cX7_giveCent 0 = .ok (.aload_n 0, 1) := by decide +kernel
theorem dX7_giveCent_1 : decode cX7_giveCent 1 = .ok (.astore_n 1, 1) := by decide +kernel
theorem dX7_giveCent_2 : decode cX7_giveCent 2 = .ok (.aload_n 0, 1) := by decide +kernel
theorem dX7_giveCent_3 : decode cX7_giveCent 3 = .ok (.astore_n 2, 1) := by decide +kernel
theorem dX7_giveCent_4 : decode cX7_giveCent 4 = .ok (.aload_n 2, 1) := by decide +kernel
theorem dX7_giveCent_5 : decode cX7_giveCent 5 = .ok (.ifnull 29, 3) := by decide +kernel
theorem dX7_giveCent_8 : decode cX7_giveCent 8 = .ok (.aload_n 1, 1) := by decide +kernel
theorem dX7_giveCent_9 : decode cX7_giveCent 9 = .ok (.ifnull 17, 3) := by decide +kernel
theorem dX7_giveCent_12 : decode cX7_giveCent 12 = .ok (.aload_n 2, 1) := by decide +kernel
theorem dX7_giveCent_13 : decode cX7_giveCent 13 = .ok (.getfield 271, 3) := by decide +kernel
theorem dX7_giveCent_16 : decode cX7_giveCent 16 = .ok (.aload_n 1, 1) := by decide +kernel
theorem dX7_giveCent_17 : decode cX7_giveCent 17 = .ok (.getfield 271, 3) := by decide +kernel
theorem dX7_giveCent_20 : decode cX7_giveCent 20 = .ok (.lcmp, 1) := by decide +kernel
theorem dX7_giveCent_21 : decode cX7_giveCent 21 = .ok (.ifCond .le 5, 3) := by decide +kernel
theorem dX7_giveCent_24 : decode cX7_giveCent 24 = .ok (.aload_n 2, 1) := by decide +kernel
theorem dX7_giveCent_25 : decode cX7_giveCent 25 = .ok (.astore_n 1, 1) := by decide +kernel
theorem dX7_giveCent_26 : decode cX7_giveCent 26 = .ok (.aload_n 2, 1) := by decide +kernel
theorem dX7_giveCent_27 : decode cX7_giveCent 27 = .ok (.getfield 274, 3) := by decide +kernel
theorem dX7_giveCent_30 : decode cX7_giveCent 30 = .ok (.astore_n 2, 1) := by decide +kernel
theorem dX7_giveCent_31 : decode cX7_giveCent 31 = .ok (.goto (-27), 3) := by decide +kernel
theorem dX7_giveCent_34 : decode cX7_giveCent 34 = .ok (.aload_n 1, 1) := by decide +kernel
theorem dX7_giveCent_35 : decode cX7_giveCent 35 = .ok (.ifnull 20, 3) := by decide +kernel
theorem dX7_giveCent_38 : decode cX7_giveCent 38 = .ok (.aload_n 1, 1) := by decide +kernel
theorem dX7_giveCent_39 : decode cX7_giveCent 39 = .ok (.dup, 1) := by decide +kernel
theorem dX7_giveCent_40 : decode cX7_giveCent 40 = .ok (.getfield 153, 3) := by decide +kernel
theorem dX7_giveCent_43 : decode cX7_giveCent 43 = .ok (.iconst 1, 1) := by decide +kernel
theorem dX7_giveCent_44 : decode cX7_giveCent 44 = .ok (.iadd, 1) := by decide +kernel
theorem dX7_giveCent_45 : decode cX7_giveCent 45 = .ok (.putfield 153, 3) := by decide +kernel
theorem dX7_giveCent_48 : decode cX7_giveCent 48 = .ok (.aload_n 1, 1) := by decide +kernel
theorem dX7_giveCent_49 : decode cX7_giveCent 49 = .ok (.ldc2_w 277, 3) := by decide +kernel
theorem dX7_giveCent_52 : decode cX7_giveCent 52 = .ok (.putfield 271, 3) := by decide +kernel
theorem dX7_giveCent_55 : decode cX7_giveCent 55 = .ok (.return_, 1) := by decide +kernel
theorem dX8_init_0 : decode cX8_init 0 = .ok (.aload_n 0, 1) := by decide +kernel
theorem dX8_init_1 : decode cX8_init 1 = .ok (.invokespecial 1, 3) := by decide +kernel
theorem dX8_init_4 : decode cX8_init 4 = .ok (.aload_n 0, 1) := by decide +kernel
theorem dX8_init_5 : decode cX8_init 5 = .ok (.bipush 60, 2) := by decide +kernel
theorem dX8_init_7 : decode cX8_init 7 = .ok (.newarray .int, 2) := by decide +kernel
theorem dX8_init_9 : decode cX8_init 9 = .ok (.putfield 7, 3) := by decide +kernel
theorem dX8_init_12 : decode cX8_init 12 = .ok (.aload_n 0, 1) := by decide +kernel
theorem dX8_init_13 : decode cX8_init 13 = .ok (.bipush 60, 2) := by decide +kernel
theorem dX8_init_15 : decode cX8_init 15 = .ok (.newarray .int, 2) := by decide +kernel
theorem dX8_init_17 : decode cX8_init 17 = .ok (.putfield 13, 3) := by decide +kernel
theorem dX8_init_20 : decode cX8_init 20 = .ok (.aload_n 0, 1) := by decide +kernel
theorem dX8_init_21 : decode cX8_init 21 = .ok (.bipush 60, 2) := by decide +kernel
theorem dX8_init_23 : decode cX8_init 23 = .ok (.newarray .int, 2) := by decide +kernel
theorem dX8_init_25 : decode cX8_init 25 = .ok (.putfield 16, 3) := by decide +kernel
theorem dX8_init_28 : decode cX8_init 28 = .ok (.aload_n 0, 1) := by decide +kernel
theorem dX8_init_29 : decode cX8_init 29 = .ok (.bipush 60, 2) := by decide +kernel
theorem dX8_init_31 : decode cX8_init 31 = .ok (.newarray .int, 2) := by decide +kernel
theorem dX8_init_33 : decode cX8_init 33 = .ok (.putfield 19, 3) := by decide +kernel
theorem dX8_init_36 : decode cX8_init 36 = .ok (.aload_n 0, 1) := by decide +kernel
theorem dX8_init_37 : decode cX8_init 37 = .ok (.bipush 60, 2) := by decide +kernel
theorem dX8_init_39 : decode cX8_init 39 = .ok (.newarray .int, 2) := by decide +kernel
theorem dX8_init_41 : decode cX8_init 41 = .ok (.putfield 22, 3) := by decide +kernel
theorem dX8_init_44 : decode cX8_init 44 = .ok (.aload_n 0, 1) := by decide +kernel
theorem dX8_init_45 : decode cX8_init 45 = .ok (.bipush 60, 2) := by decide +kernel
theorem dX8_init_47 : decode cX8_init 47 = .ok (.newarray .boolean, 2) := by decide +kernel
theorem dX8_init_49 : decode cX8_init 49 = .ok (.putfield 25, 3) := by decide +kernel
theorem dX8_init_52 : decode cX8_init 52 = .ok (.aload_n 0, 1) := by decide +kernel
theorem dX8_init_53 : decode cX8_init 53 = .ok (.bipush 60, 2) := by decide +kernel
theorem dX8_init_55 : decode cX8_init 55 = .ok (.newarray .long, 2) := by decide +kernel
theorem dX8_init_57 : decode cX8_init 57 = .ok (.putfield 29, 3) := by decide +kernel
theorem dX8_init_60 : decode cX8_init 60 = .ok (.aload_n 0, 1) := by decide +kernel
theorem dX8_init_61 : decode cX8_init 61 = .ok (.sipush 3600, 3) := by decide +kernel
theorem dX8_init_64 : decode cX8_init 64 = .ok (.newarray .int, 2) := by decide +kernel
theorem dX8_init_66 : decode cX8_init 66 = .ok (.putfield 33, 3) := by decide +kernel
theorem dX8_init_69 : decode cX8_init 69 = .ok (.aload_n 0, 1) := by decide +kernel
theorem dX8_init_70 : decode cX8_init 70 = .ok (.iconst (-1), 1) := by decide +kernel
theorem dX8_init_71 : decode cX8_init 71 = .ok (.putfield 36, 3) := by decide +kernel
theorem dX8_init_74 : decode cX8_init 74 = .ok (.aload_n 0, 1) := by decide +kernel
theorem dX8_init_75 : decode cX8_init 75 = .ok (.bipush 6, 2) := by decide +kernel
theorem dX8_init_77 : decode cX8_init 77 = .ok (.newarray .int, 2) := by decide +kernel
theorem dX8_init_79 : decode cX8_init 79 = .ok (.putfield 40, 3) := by decide +kernel
theorem dX8_init_82 : decode cX8_init 82 = .ok (.aload_n 0, 1) := by decide +kernel
theorem dX8_init_83 : decode cX8_init 83 = .ok (.bipush 60, 2) := by decide +kernel
theorem dX8_init_85 : decode cX8_init 85 = .ok (.newarray .int, 2) := by decide +kernel
theorem dX8_init_87 : decode cX8_init 87 = .ok (.putfield 43, 3) := by decide +kernel
theorem dX8_init_90 : decode cX8_init 90 = .ok (.aload_n 0, 1) := by decide +kernel
theorem dX8_init_91 : decode cX8_init 91 = .ok (.iconst 2, 1) := by decide +kernel
theorem dX8_init_92 : decode cX8_init 92 = .ok (.newarray .long, 2) := by decide +kernel
theorem dX8_init_94 : decode cX8_init 94 = .ok (.putfield 46, 3) := by decide +kernel
theorem dX8_init_97 : decode cX8_init 97 = .ok (.aload_n 0, 1) := by decide +kernel
theorem dX8_init_98 : decode cX8_init 98 = .ok (.iconst 2, 1) := by decide +kernel
theorem dX8_init_99 : decode cX8_init 99 = .ok (.newarray .long, 2) := by decide +kernel
theorem dX8_init_101 : decode cX8_init 101 = .ok (.putfield 49, 3) := by decide +kernel
theorem dX8_init_104 : decode cX8_init 104 = .ok (.aload_n 0, 1) := by decide +kernel
theorem dX8_init_105 : decode cX8_init 105 = .ok (.iconst 2, 1) := by decide +kernel
theorem dX8_init_106 : decode cX8_init 106 = .ok (.newarray .long, 2) := by decide +kernel
theorem dX8_init_108 : decode cX8_init 108 = .ok (.putfield 52, 3) := by decide +kernel
theorem dX8_init_111 : decode cX8_init 111 = .ok (.aload_n 0, 1) := by decide +kernel
theorem dX8_init_112 : decode cX8_init 112 = .ok (.bipush 120, 2) := by decide +kernel
theorem dX8_init_114 : decode cX8_init 114 = .ok (.newarray .long, 2) := by decide +kernel
theorem dX8_init_116 : decode cX8_init 116 = .ok (.putfield 55, 3) := by decide +kernel
theorem dX8_init_119 : decode cX8_init 119 = .ok (.aload_n 0, 1) := by decide +kernel
theorem dX8_init_120 : decode cX8_init 120 = .ok (.bipush 60, 2) := by decide +kernel
theorem dX8_init_122 : decode cX8_init 122 = .ok (.newarray .int, 2) := by decide +kernel
theorem dX8_init_124 : decode cX8_init 124 = .ok (.putfield 58, 3) := by decide +kernel
theorem dX8_init_127 : decode cX8_init 127 = .ok (.aload_n 0, 1) := by decide +kernel
theorem dX8_init_128 : decode cX8_init 128 = .ok (.bipush 60, 2) := by decide +kernel
theorem dX8_init_130 : decode cX8_init 130 = .ok (.newarray .long, 2) := by decide +kernel
theorem dX8_init_132 : decode cX8_init 132 = .ok (.putfield 61, 3) := by decide +kernel
theorem dX8_init_135 : decode cX8_init 135 = .ok (.aload_n 0, 1) := by decide +kernel
theorem dX8_init_136 : decode cX8_init 136 = .ok (.bipush 60, 2) := by decide +kernel
theorem dX8_init_138 : decode cX8_init 138 = .ok (.newarray .int, 2) := by decide +kernel
theorem dX8_init_140 : decode cX8_init 140 = .ok (.putfield 64, 3) := by decide +kernel
theorem dX8_init_143 : decode cX8_init 143 = .ok (.aload_n 0, 1) := by decide +kernel
theorem dX8_init_144 : decode cX8_init 144 = .ok (.bipush 60, 2) := by decide +kernel
theorem dX8_init_146 : decode cX8_init 146 = .ok (.newarray .long, 2) := by decide +kernel
theorem dX8_init_148 : decode cX8_init 148 = .ok (.putfield 67, 3) := by decide +kernel
theorem dX8_init_151 : decode cX8_init 151 = .ok (.iconst 0, 1) := by decide +kernel
theorem dX8_init_152 : decode cX8_init 152 = .ok (.istore_n 1, 1) := by decide +kernel
theorem dX8_init_153 : decode cX8_init 153 = .ok (.iload_n 1, 1) := by decide +kernel
theorem dX8_init_154 : decode cX8_init 154 = .ok (.bipush 6, 2) := by decide +kernel
theorem dX8_init_156 : decode cX8_init 156 = .ok (.if_icmp .ge 16, 3) := by decide +kernel
theorem dX8_init_159 : decode cX8_init 159 = .ok (.aload_n 0, 1) := by decide +kernel
theorem dX8_init_160 : decode cX8_init 160 = .ok (.getfield 40, 3) := by decide +kernel
theorem dX8_init_163 : decode cX8_init 163 = .ok (.iload_n 1, 1) := by decide +kernel
theorem dX8_init_164 : decode cX8_init 164 = .ok (.iconst 1, 1) := by decide +kernel
theorem dX8_init_165 : decode cX8_init 165 = .ok (.iastore, 1) := by decide +kernel
theorem dX8_init_166 : decode cX8_init 166 = .ok (.iinc 1 1, 3) := by decide +kernel
theorem dX8_init_169 : decode cX8_init 169 = .ok (.goto (-16), 3) := by decide +kernel
theorem dX8_init_172 : decode cX8_init 172 = .ok (.return_, 1) := by decide +kernel
theorem dX8_thrown_0 : decode cX8_thrown 0 = .ok (.aload_n 0, 1) := by decide +kernel
theorem dX8_thrown_1 : decode cX8_thrown 1 = .ok (.getfield 70, 3) := by decide +kernel
theorem dX8_thrown_4 : decode cX8_thrown 4 = .ok (.ireturn, 1) := by decide +kernel
theorem dX8_goes_0 : decode cX8_goes 0 = .ok (.aload_n 0, 1) := by decide +kernel
theorem dX8_goes_1 : decode cX8_goes 1 = .ok (.iload_n 1, 1) := by decide +kernel
theorem dX8_goes_2 : decode cX8_goes 2 = .ok (.putfield 70, 3) := by decide +kernel
theorem dX8_goes_5 : decode cX8_goes 5 = .ok (.iload_n 1, 1) := by decide +kernel
theorem dX8_goes_6 : decode cX8_goes 6 = .ok (.ifCond .ne 7, 3) := by decide +kernel
theorem dX8_goes_9 : decode cX8_goes 9 = .ok (.iconst 1, 1) := by decide +kernel
theorem dX8_goes_10 : decode cX8_goes 10 = .ok (.goto 4, 3) := by decide +kernel
theorem dX8_goes_13 : decode cX8_goes 13 = .ok (.iconst 0, 1) := by decide +kernel
theorem dX8_goes_14 : decode cX8_goes 14 = .ok (.ireturn, 1) := by decide +kernel
theorem dX8_isIn_0 : decode cX8_isIn 0 = .ok (.iload_n 0, 1) := by decide +kernel
theorem dX8_isIn_1 : decode cX8_isIn 1 = .ok (.iload_n 1, 1) := by decide +kernel
theorem dX8_isIn_2 : decode cX8_isIn 2 = .ok (.if_icmp .lt 12, 3) := by decide +kernel
theorem dX8_isIn_5 : decode cX8_isIn 5 = .ok (.iload_n 0, 1) := by decide +kernel
theorem dX8_isIn_6 : decode cX8_isIn 6 = .ok (.iload_n 2, 1) := by decide +kernel
theorem dX8_isIn_7 : decode cX8_isIn 7 = .ok (.if_icmp .gt 7, 3) := by decide +kernel
theorem dX8_isIn_10 : decode cX8_isIn 10 = .ok (.iconst 1, 1) := by decide +kernel
theorem dX8_isIn_11 : decode cX8_isIn 11 = .ok (.goto 4, 3) := by decide +kernel
theorem dX8_isIn_14 : decode cX8_isIn 14 = .ok (.iconst 0, 1) := by decide +kernel
theorem dX8_isIn_15 : decode cX8_isIn 15 = .ok (.ireturn, 1) := by decide +kernel
theorem dX8_isDay_0 : decode cX8_isDay 0 = .ok (.iload_n 0, 1) := by decide +kernel
theorem dX8_isDay_1 : decode cX8_isDay 1 = .ok (.iconst 0, 1) := by decide +kernel
theorem dX8_isDay_2 : decode cX8_isDay 2 = .ok (.sipush 364, 3) := by decide +kernel
theorem dX8_isDay_5 : decode cX8_isDay 5 = .ok (.invokestatic 73, 3) := by decide +kernel
theorem dX8_isDay_8 : decode cX8_isDay 8 = .ok (.ireturn, 1) := by decide +kernel
theorem dX8_isItem_0 : decode cX8_isItem 0 = .ok (.iload_n 0, 1) := by decide +kernel
theorem dX8_isItem_1 : decode cX8_isItem 1 = .ok (.iconst 0, 1) := by decide +kernel
theorem dX8_isItem_2 : decode cX8_isItem 2 = .ok (.iconst 5, 1) := by decide +kernel
theorem dX8_isItem_3 : decode cX8_isItem 3 = .ok (.invokestatic 73, 3) := by decide +kernel
theorem dX8_isItem_6 : decode cX8_isItem 6 = .ok (.ireturn, 1) := by decide +kernel
theorem dX8_isMovement_0 : decode cX8_isMovement 0 = .ok (.iload_n 1, 1) := by decide +kernel
theorem dX8_isMovement_1 : decode cX8_isMovement 1 = .ok (.iconst 0, 1) := by decide +kernel
theorem dX8_isMovement_2 : decode cX8_isMovement 2 = .ok (.aload_n 0, 1) := by decide +kernel
theorem dX8_isMovement_3 : decode cX8_isMovement 3 = .ok (.getfield 77, 3) := by decide +kernel
theorem dX8_isMovement_6 : decode cX8_isMovement 6 = .ok (.iconst 1, 1) := by decide +kernel
theorem dX8_isMovement_7 : decode cX8_isMovement 7 = .ok (.isub, 1) := by decide +kernel
theorem dX8_isMovement_8 : decode cX8_isMovement 8 = .ok (.invokestatic 73, 3) := by decide +kernel
theorem dX8_isMovement_11 : decode cX8_isMovement 11 = .ok (.ireturn, 1) := by decide +kernel
theorem dX8_isShut_0 : decode cX8_isShut 0 = .ok (.iload_n 1, 1) := by decide +kernel
theorem dX8_isShut_1 : decode cX8_isShut 1 = .ok (.aload_n 0, 1) := by decide +kernel
theorem dX8_isShut_2 : decode cX8_isShut 2 = .ok (.getfield 36, 3) := by decide +kernel
theorem dX8_isShut_5 : decode cX8_isShut 5 = .ok (.if_icmp .le 12, 3) := by decide +kernel
theorem dX8_isShut_8 : decode cX8_isShut 8 = .ok (.aload_n 0, 1) := by decide +kernel
theorem dX8_isShut_9 : decode cX8_isShut 9 = .ok (.getfield 77, 3) := by decide +kernel
theorem dX8_isShut_12 : decode cX8_isShut 12 = .ok (.bipush 60, 2) := by decide +kernel
theorem dX8_isShut_14 : decode cX8_isShut 14 = .ok (.if_icmp .ne 7, 3) := by decide +kernel
theorem dX8_isShut_17 : decode cX8_isShut 17 = .ok (.iconst 1, 1) := by decide +kernel
theorem dX8_isShut_18 : decode cX8_isShut 18 = .ok (.goto 4, 3) := by decide +kernel
theorem dX8_isShut_21 : decode cX8_isShut 21 = .ok (.iconst 0, 1) := by decide +kernel
theorem dX8_isShut_22 : decode cX8_isShut 22 = .ok (.ireturn, 1) := by decide +kernel
theorem dX8_orders_0 : decode cX8_orders 0 = .ok (.aload_n 0, 1) := by decide +kernel
theorem dX8_orders_1 : decode cX8_orders 1 = .ok (.iconst 0, 1) := by decide +kernel
theorem dX8_orders_2 : decode cX8_orders 2 = .ok (.putfield 80, 3) := by decide +kernel
theorem dX8_orders_5 : decode cX8_orders 5 = .ok (.iconst 0, 1) := by decide +kernel
theorem dX8_orders_6 : decode cX8_orders 6 = .ok (.istore_n 1, 1) := by decide +kernel
theorem dX8_orders_7 : decode cX8_orders 7 = .ok (.iload_n 1, 1) := by decide +kernel
theorem dX8_orders_8 : decode cX8_orders 8 = .ok (.aload_n 0, 1) := by decide +kernel
theorem dX8_orders_9 : decode cX8_orders 9 = .ok (.getfield 77, 3) := by decide +kernel
theorem dX8_orders_12 : decode cX8_orders 12 = .ok (.if_icmp .ge 86, 3) := by decide +kernel
theorem dX8_orders_15 : decode cX8_orders 15 = .ok (.aload_n 0, 1) := by decide +kernel
theorem dX8_orders_16 : decode cX8_orders 16 = .ok (.getfield 25, 3) := by decide +kernel
theorem dX8_orders_19 : decode cX8_orders 19 = .ok (.iload_n 1, 1) := by decide +kernel
theorem dX8_orders_20 : decode cX8_orders 20 = .ok (.baload, 1) := by decide +kernel
theorem dX8_orders_21 : decode cX8_orders 21 = .ok (.ifCond .ne 71, 3) := by decide +kernel
theorem dX8_orders_24 : decode cX8_orders 24 = .ok (.aload_n 0, 1) := by decide +kernel
theorem dX8_orders_25 : decode cX8_orders 25 = .ok (.getfield 80, 3) := by decide +kernel
theorem dX8_orders_28 : decode cX8_orders 28 = .ok (.istore_n 2, 1) := by decide +kernel
theorem dX8_orders_29 : decode cX8_orders 29 = .ok (.iload_n 2, 1) := by decide +kernel
theorem dX8_orders_30 : decode cX8_orders 30 = .ok (.ifCond .le 45, 3) := by decide +kernel
theorem dX8_orders_33 : decode cX8_orders 33 = .ok (.aload_n 0, 1) := by decide +kernel
theorem dX8_orders_34 : decode cX8_orders 34 = .ok (.getfield 13, 3) := by decide +kernel
theorem dX8_orders_37 : decode cX8_orders 37 = .ok (.aload_n 0, 1) := by decide +kernel
theorem dX8_orders_38 : decode cX8_orders 38 = .ok (.getfield 43, 3) := by decide +kernel
theorem dX8_orders_41 : decode cX8_orders 41 = .ok (.iload_n 2, 1) := by decide +kernel
theorem dX8_orders_42 : decode cX8_orders 42 = .ok (.iconst 1, 1) := by decide +kernel
theorem dX8_orders_43 : decode cX8_orders 43 = .ok (.isub, 1) := by decide +kernel
theorem dX8_orders_44 : decode cX8_orders 44 = .ok (.iaload, 1) := by decide +kernel
theorem dX8_orders_45 : decode cX8_orders 45 = .ok (.iaload, 1) := by decide +kernel
theorem dX8_orders_46 : decode cX8_orders 46 = .ok (.aload_n 0, 1) := by decide +kernel
theorem dX8_orders_47 : decode cX8_orders 47 = .ok (.getfield 13, 3) := by decide +kernel
theorem dX8_orders_50 : decode cX8_orders 50 = .ok (.iload_n 1, 1) := by decide +kernel
theorem dX8_orders_51 : decode cX8_orders 51 = .ok (.iaload, 1) := by decide +kernel
theorem dX8_orders_52 : decode cX8_orders 52 = .ok (.if_icmp .le 23, 3) := by decide +kernel
theorem dX8_orders_55 : decode cX8_orders 55 = .ok (.aload_n 0, 1) := by decide +kernel
theorem dX8_orders_56 : decode cX8_orders 56 = .ok (.getfield 43, 3) := by decide +kernel
theorem dX8_orders_59 : decode cX8_orders 59 = .ok (.iload_n 2, 1) := by decide +kernel
theorem dX8_orders_60 : decode cX8_orders 60 = .ok (.aload_n 0, 1) := by decide +kernel
theorem dX8_orders_61 : decode cX8_orders 61 = .ok (.getfield 43, 3) := by decide +kernel
theorem dX8_orders_64 : decode cX8_orders 64 = .ok (.iload_n 2, 1) := by decide +kernel
theorem dX8_orders_65 : decode cX8_orders 65 = .ok (.iconst 1, 1) := by decide +kernel
theorem dX8_orders_66 : decode cX8_orders 66 = .ok (.isub, 1) := by decide +kernel
theorem dX8_orders_67 : decode cX8_orders 67 = .ok (.iaload, 1) := by decide +kernel
theorem dX8_orders_68 : decode cX8_orders 68 = .ok (.iastore, 1) := by decide +kernel
theorem dX8_orders_69 : decode cX8_orders 69 = .ok (.iinc 2 (-1), 3) := by decide +kernel
theorem dX8_orders_72 : decode cX8_orders 72 = .ok (.goto (-43), 3) := by decide +kernel
theorem dX8_orders_75 : decode cX8_orders 75 = .ok (.aload_n 0, 1) := by decide +kernel
theorem dX8_orders_76 : decode cX8_orders 76 = .ok (.getfield 43, 3) := by decide +kernel
theorem dX8_orders_79 : decode cX8_orders 79 = .ok (.iload_n 2, 1) := by decide +kernel
theorem dX8_orders_80 : decode cX8_orders 80 = .ok (.iload_n 1, 1) := by decide +kernel
theorem dX8_orders_81 : decode cX8_orders 81 = .ok (.iastore, 1) := by decide +kernel
theorem dX8_orders_82 : decode cX8_orders 82 = .ok (.aload_n 0, 1) := by decide +kernel
theorem dX8_orders_83 : decode cX8_orders 83 = .ok (.dup, 1) := by decide +kernel
theorem dX8_orders_84 : decode cX8_orders 84 = .ok (.getfield 80, 3) := by decide +kernel
theorem dX8_orders_87 : decode cX8_orders 87 = .ok (.iconst 1, 1) := by decide +kernel
theorem dX8_orders_88 : decode cX8_orders 88 = .ok (.iadd, 1) := by decide +kernel
theorem dX8_orders_89 : decode cX8_orders 89 = .ok (.putfield 80, 3) := by decide +kernel
theorem dX8_orders_92 : decode cX8_orders 92 = .ok (.iinc 1 1, 3) := by decide +kernel
theorem dX8_orders_95 : decode cX8_orders 95 = .ok (.goto (-88), 3) := by decide +kernel
theorem dX8_orders_98 : decode cX8_orders 98 = .ok (.return_, 1) := by decide +kernel
theorem dX8_change_0 : decode cX8_change 0 = .ok (.aload_n 0, 1) := by decide +kernel
theorem dX8_change_1 : decode cX8_change 1 = .ok (.getfield 16, 3) := by decide +kernel
theorem dX8_change_4 : decode cX8_change 4 = .ok (.iload_n 1, 1) := by decide +kernel
theorem dX8_change_5 : decode cX8_change 5 = .ok (.iaload, 1) := by decide +kernel
theorem dX8_change_6 : decode cX8_change 6 = .ok (.iload_n 2, 1) := by decide +kernel
theorem dX8_change_7 : decode cX8_change 7 = .ok (.if_icmp .eq 7, 3) := by decide +kernel
theorem dX8_change_10 : decode cX8_change 10 = .ok (.iconst 0, 1) := by decide +kernel
theorem dX8_change_11 : decode cX8_change 11 = .ok (.goto 42, 3) := by decide +kernel
theorem dX8_change_14 : decode cX8_change 14 = .ok (.aload_n 0, 1) := by decide +kernel
theorem dX8_change_15 : decode cX8_change 15 = .ok (.getfield 7, 3) := by decide +kernel
theorem dX8_change_18 : decode cX8_change 18 = .ok (.iload_n 1, 1) := by decide +kernel
theorem dX8_change_19 : decode cX8_change 19 = .ok (.iaload, 1) := by decide +kernel
theorem dX8_change_20 : decode cX8_change 20 = .ok (.ifCond .ne 12, 3) := by decide +kernel
theorem dX8_change_23 : decode cX8_change 23 = .ok (.aload_n 0, 1) := by decide +kernel
theorem dX8_change_24 : decode cX8_change 24 = .ok (.getfield 19, 3) := by decide +kernel
theorem dX8_change_27 : decode cX8_change 27 = .ok (.iload_n 1, 1) := by decide +kernel
theorem dX8_change_28 : decode cX8_change 28 = .ok (.iaload, 1) := by decide +kernel
theorem dX8_change_29 : decode cX8_change 29 = .ok (.goto 24, 3) := by decide +kernel
theorem dX8_change_32 : decode cX8_change 32 = .ok (.aload_n 0, 1) := by decide +kernel
theorem dX8_change_33 : decode cX8_change 33 = .ok (.getfield 7, 3) := by decide +kernel
theorem dX8_change_36 : decode cX8_change 36 = .ok (.iload_n 1, 1) := by decide +kernel
theorem dX8_change_37 : decode cX8_change 37 = .ok (.iaload, 1) := by decide +kernel
theorem dX8_change_38 : decode cX8_change 38 = .ok (.iconst 1, 1) := by decide +kernel
theorem dX8_change_39 : decode cX8_change 39 = .ok (.if_icmp .ne 13, 3) := by decide +kernel
theorem dX8_change_42 : decode cX8_change 42 = .ok (.aload_n 0, 1) := by decide +kernel
theorem dX8_change_43 : decode cX8_change 43 = .ok (.getfield 19, 3) := by decide +kernel
theorem dX8_change_46 : decode cX8_change 46 = .ok (.iload_n 1, 1) := by decide +kernel
theorem dX8_change_47 : decode cX8_change 47 = .ok (.iaload, 1) := by decide +kernel
theorem dX8_change_48 : decode cX8_change 48 = .ok (.ineg, 1) := by decide +kernel
theorem dX8_change_49 : decode cX8_change 49 = .ok (.goto 4, 3) := by decide +kernel
theorem dX8_change_52 : decode cX8_change 52 = .ok (.iconst 0, 1) := by decide +kernel
theorem dX8_change_53 : decode cX8_change 53 = .ok (.ireturn, 1) := by decide +kernel
theorem dX8_takesUnits_0 : decode cX8_takesUnits 0 = .ok (.aload_n 0, 1) := by decide +kernel
theorem dX8_takesUnits_1 : decode cX8_takesUnits 1 = .ok (.getfield 16, 3) := by decide +kernel
theorem dX8_takesUnits_4 : decode cX8_takesUnits 4 = .ok (.iload_n 1, 1) := by decide +kernel
theorem dX8_takesUnits_5 : decode cX8_takesUnits 5 = .ok (.iaload, 1) := by decide +kernel
theorem dX8_takesUnits_6 : decode cX8_takesUnits 6 = .ok (.iload_n 2, 1) := by decide +kernel
theorem dX8_takesUnits_7 : decode cX8_takesUnits 7 = .ok (.if_icmp .ne 27, 3) := by decide +kernel
theorem dX8_takesUnits_10 : decode cX8_takesUnits 10 = .ok (.aload_n 0, 1) := by decide +kernel
theorem dX8_takesUnits_11 : decode cX8_takesUnits 11 = .ok (.getfield 7, 3) := by decide +kernel
theorem dX8_takesUnits_14 : decode cX8_takesUnits 14 = .ok (.iload_n 1, 1) := by decide +kernel
theorem dX8_takesUnits_15 : decode cX8_takesUnits 15 = .ok (.iaload, 1) := by decide +kernel
theorem dX8_takesUnits_16 : decode cX8_takesUnits 16 = .ok (.iconst 1, 1) := by decide +kernel
theorem dX8_takesUnits_17 : decode cX8_takesUnits 17 = .ok (.if_icmp .eq 13, 3) := by decide +kernel
theorem dX8_takesUnits_20 : decode cX8_takesUnits 20 = .ok (.aload_n 0, 1) := by decide +kernel
theorem dX8_takesUnits_21 : decode cX8_takesUnits 21 = .ok (.getfield 7, 3) := by decide +kernel
theorem dX8_takesUnits_24 : decode cX8_takesUnits 24 = .ok (.iload_n 1, 1) := by decide +kernel
theorem dX8_takesUnits_25 : decode cX8_takesUnits 25 = .ok (.iaload, 1) := by decide +kernel
theorem dX8_takesUnits_26 : decode cX8_takesUnits 26 = .ok (.iconst 2, 1) := by decide +kernel
theorem dX8_takesUnits_27 : decode cX8_takesUnits 27 = .ok (.if_icmp .ne 7, 3) := by decide +kernel
theorem dX8_takesUnits_30 : decode cX8_takesUnits 30 = .ok (.iconst 1, 1) := by decide +kernel
theorem dX8_takesUnits_31 : decode cX8_takesUnits 31 = .ok (.goto 4, 3) := by decide +kernel
theorem dX8_takesUnits_34 : decode cX8_takesUnits 34 = .ok (.iconst 0, 1) := by decide +kernel
theorem dX8_takesUnits_35 : decode cX8_takesUnits 35 = .ok (.ireturn, 1) := by decide +kernel
theorem dX8_isValid_0 : decode cX8_isValid 0 = .ok (.iconst 0, 1) := by decide +kernel
theorem dX8_isValid_1 : decode cX8_isValid 1 = .ok (.istore_n 2, 1) := by decide +kernel
theorem dX8_isValid_2 : decode cX8_isValid 2 = .ok (.iconst 1, 1) := by decide +kernel
theorem dX8_isValid_3 : decode cX8_isValid 3 = .ok (.istore_n 3, 1) := by decide +kernel
theorem dX8_isValid_4 : decode cX8_isValid 4 = .ok (.aload_n 0, 1) := by decide +kernel
theorem dX8_isValid_5 : decode cX8_isValid 5 = .ok (.invokevirtual 83, 3) := by decide +kernel
theorem dX8_isValid_8 : decode cX8_isValid 8 = .ok (.iconst 0, 1) := by decide +kernel
theorem dX8_isValid_9 : decode cX8_isValid 9 = .ok (.istore 4, 2) := by decide +kernel
theorem dX8_isValid_11 : decode cX8_isValid 11 = .ok (.iload 4, 2) := by decide +kernel
theorem dX8_isValid_13 : decode cX8_isValid 13 = .ok (.aload_n 0, 1) := by decide +kernel
theorem dX8_isValid_14 : decode cX8_isValid 14 = .ok (.getfield 80, 3) := by decide +kernel
theorem dX8_isValid_17 : decode cX8_isValid 17 = .ok (.if_icmp .ge 59, 3) := by decide +kernel
theorem dX8_isValid_20 : decode cX8_isValid 20 = .ok (.aload_n 0, 1) := by decide +kernel
theorem dX8_isValid_21 : decode cX8_isValid 21 = .ok (.getfield 43, 3) := by decide +kernel
theorem dX8_isValid_24 : decode cX8_isValid 24 = .ok (.iload 4, 2) := by decide +kernel
theorem dX8_isValid_26 : decode cX8_isValid 26 = .ok (.iaload, 1) := by decide +kernel
theorem dX8_isValid_27 : decode cX8_isValid 27 = .ok (.istore 5, 2) := by decide +kernel
theorem dX8_isValid_29 : decode cX8_isValid 29 = .ok (.iload_n 3, 1) := by decide +kernel
theorem dX8_isValid_30 : decode cX8_isValid 30 = .ok (.ifCond .eq 28, 3) := by decide +kernel
theorem dX8_isValid_33 : decode cX8_isValid 33 = .ok (.aload_n 0, 1) := by decide +kernel
theorem dX8_isValid_34 : decode cX8_isValid 34 = .ok (.iload 5, 2) := by decide +kernel
theorem dX8_isValid_36 : decode cX8_isValid 36 = .ok (.iload_n 1, 1) := by decide +kernel
theorem dX8_isValid_37 : decode cX8_isValid 37 = .ok (.invokevirtual 86, 3) := by decide +kernel
theorem dX8_isValid_40 : decode cX8_isValid 40 = .ok (.ifCond .eq 14, 3) := by decide +kernel
theorem dX8_isValid_43 : decode cX8_isValid 43 = .ok (.aload_n 0, 1) := by decide +kernel
theorem dX8_isValid_44 : decode cX8_isValid 44 = .ok (.getfield 19, 3) := by decide +kernel
theorem dX8_isValid_47 : decode cX8_isValid 47 = .ok (.iload 5, 2) := by decide +kernel
theorem dX8_isValid_49 : decode cX8_isValid 49 = .ok (.iaload, 1) := by decide +kernel
theorem dX8_isValid_50 : decode cX8_isValid 50 = .ok (.iload_n 2, 1) := by decide +kernel
theorem dX8_isValid_51 : decode cX8_isValid 51 = .ok (.if_icmp .gt 7, 3) := by decide +kernel
theorem dX8_isValid_54 : decode cX8_isValid 54 = .ok (.iconst 1, 1) := by decide +kernel
theorem dX8_isValid_55 : decode cX8_isValid 55 = .ok (.goto 4, 3) := by decide +kernel
theorem dX8_isValid_58 : decode cX8_isValid 58 = .ok (.iconst 0, 1) := by decide +kernel
theorem dX8_isValid_59 : decode cX8_isValid 59 = .ok (.istore_n 3, 1) := by decide +kernel
theorem dX8_isValid_60 : decode cX8_isValid 60 = .ok (.iload_n 2, 1) := by decide +kernel
theorem dX8_isValid_61 : decode cX8_isValid 61 = .ok (.aload_n 0, 1) := by decide +kernel
theorem dX8_isValid_62 : decode cX8_isValid 62 = .ok (.iload 5, 2) := by decide +kernel
theorem dX8_isValid_64 : decode cX8_isValid 64 = .ok (.iload_n 1, 1) := by decide +kernel
theorem dX8_isValid_65 : decode cX8_isValid 65 = .ok (.invokevirtual 90, 3) := by decide +kernel
theorem dX8_isValid_68 : decode cX8_isValid 68 = .ok (.iadd, 1) := by decide +kernel
theorem dX8_isValid_69 : decode cX8_isValid 69 = .ok (.istore_n 2, 1) := by decide +kernel
theorem dX8_isValid_70 : decode cX8_isValid 70 = .ok (.iinc 4 1, 3) := by decide +kernel
theorem dX8_isValid_73 : decode cX8_isValid 73 = .ok (.goto (-62), 3) := by decide +kernel
theorem dX8_isValid_76 : decode cX8_isValid 76 = .ok (.iload_n 3, 1) := by decide +kernel
theorem dX8_isValid_77 : decode cX8_isValid 77 = .ok (.ireturn, 1) := by decide +kernel
theorem dX8_posts_0 : decode cX8_posts 0 = .ok (.aload_n 0, 1) := by decide +kernel
theorem dX8_posts_1 : decode cX8_posts 1 = .ok (.getfield 7, 3) := by decide +kernel
theorem dX8_posts_4 : decode cX8_posts 4 = .ok (.aload_n 0, 1) := by decide +kernel
theorem dX8_posts_5 : decode cX8_posts 5 = .ok (.getfield 77, 3) := by decide +kernel
theorem dX8_posts_8 : decode cX8_posts 8 = .ok (.iload_n 1, 1) := by decide +kernel
theorem dX8_posts_9 : decode cX8_posts 9 = .ok (.iastore, 1) := by decide +kernel
theorem dX8_posts_10 : decode cX8_posts 10 = .ok (.aload_n 0, 1) := by decide +kernel
theorem dX8_posts_11 : decode cX8_posts 11 = .ok (.getfield 13, 3) := by decide +kernel
theorem dX8_posts_14 : decode cX8_posts 14 = .ok (.aload_n 0, 1) := by decide +kernel
theorem dX8_posts_15 : decode cX8_posts 15 = .ok (.getfield 77, 3) := by decide +kernel
theorem dX8_posts_18 : decode cX8_posts 18 = .ok (.iload_n 2, 1) := by decide +kernel
theorem dX8_posts_19 : decode cX8_posts 19 = .ok (.iastore, 1) := by decide +kernel
theorem dX8_posts_20 : decode cX8_posts 20 = .ok (.aload_n 0, 1) := by decide +kernel
theorem dX8_posts_21 : decode cX8_posts 21 = .ok (.getfield 16, 3) := by decide +kernel
theorem dX8_posts_24 : decode cX8_posts 24 = .ok (.aload_n 0, 1) := by decide +kernel
theorem dX8_posts_25 : decode cX8_posts 25 = .ok (.getfield 77, 3) := by decide +kernel
theorem dX8_posts_28 : decode cX8_posts 28 = .ok (.iload_n 3, 1) := by decide +kernel
theorem dX8_posts_29 : decode cX8_posts 29 = .ok (.iastore, 1) := by decide +kernel
theorem dX8_posts_30 : decode cX8_posts 30 = .ok (.aload_n 0, 1) := by decide +kernel
theorem dX8_posts_31 : decode cX8_posts 31 = .ok (.getfield 19, 3) := by decide +kernel
theorem dX8_posts_34 : decode cX8_posts 34 = .ok (.aload_n 0, 1) := by decide +kernel
theorem dX8_posts_35 : decode cX8_posts 35 = .ok (.getfield 77, 3) := by decide +kernel
theorem dX8_posts_38 : decode cX8_posts 38 = .ok (.iload 4, 2) := by decide +kernel
theorem dX8_posts_40 : decode cX8_posts 40 = .ok (.iastore, 1) := by decide +kernel
theorem dX8_posts_41 : decode cX8_posts 41 = .ok (.aload_n 0, 1) := by decide +kernel
theorem dX8_posts_42 : decode cX8_posts 42 = .ok (.getfield 22, 3) := by decide +kernel
theorem dX8_posts_45 : decode cX8_posts 45 = .ok (.aload_n 0, 1) := by decide +kernel
theorem dX8_posts_46 : decode cX8_posts 46 = .ok (.getfield 77, 3) := by decide +kernel
theorem dX8_posts_49 : decode cX8_posts 49 = .ok (.iload 5, 2) := by decide +kernel
theorem dX8_posts_51 : decode cX8_posts 51 = .ok (.iastore, 1) := by decide +kernel
theorem dX8_posts_52 : decode cX8_posts 52 = .ok (.aload_n 0, 1) := by decide +kernel
theorem dX8_posts_53 : decode cX8_posts 53 = .ok (.getfield 25, 3) := by decide +kernel
theorem dX8_posts_56 : decode cX8_posts 56 = .ok (.aload_n 0, 1) := by decide +kernel
theorem dX8_posts_57 : decode cX8_posts 57 = .ok (.getfield 77, 3) := by decide +kernel
theorem dX8_posts_60 : decode cX8_posts 60 = .ok (.iconst 0, 1) := by decide +kernel
theorem dX8_posts_61 : decode cX8_posts 61 = .ok (.bastore, 1) := by decide +kernel
theorem dX8_posts_62 : decode cX8_posts 62 = .ok (.iconst 0, 1) := by decide +kernel
theorem dX8_posts_63 : decode cX8_posts 63 = .ok (.istore 6, 2) := by decide +kernel
theorem dX8_posts_65 : decode cX8_posts 65 = .ok (.iload 6, 2) := by decide +kernel
theorem dX8_posts_67 : decode cX8_posts 67 = .ok (.bipush 60, 2) := by decide +kernel
theorem dX8_posts_69 : decode cX8_posts 69 = .ok (.if_icmp .ge 25, 3) := by decide +kernel
theorem dX8_posts_72 : decode cX8_posts 72 = .ok (.aload_n 0, 1) := by decide +kernel
theorem dX8_posts_73 : decode cX8_posts 73 = .ok (.getfield 33, 3) := by decide +kernel
theorem dX8_posts_76 : decode cX8_posts 76 = .ok (.bipush 60, 2) := by decide +kernel
theorem dX8_posts_78 : decode cX8_posts 78 = .ok (.aload_n 0, 1) := by decide +kernel
theorem dX8_posts_79 : decode cX8_posts 79 = .ok (.getfield 77, 3) := by decide +kernel
theorem dX8_posts_82 : decode cX8_posts 82 = .ok (.imul, 1) := by decide +kernel
theorem dX8_posts_83 : decode cX8_posts 83 = .ok (.iload 6, 2) := by decide +kernel
theorem dX8_posts_85 : decode cX8_posts 85 = .ok (.iadd, 1) := by decide +kernel
theorem dX8_posts_86 : decode cX8_posts 86 = .ok (.iconst 0, 1) := by decide +kernel
theorem dX8_posts_87 : decode cX8_posts 87 = .ok (.iastore, 1) := by decide +kernel
theorem dX8_posts_88 : decode cX8_posts 88 = .ok (.iinc 6 1, 3) := by decide +kernel
theorem dX8_posts_91 : decode cX8_posts 91 = .ok (.goto (-26), 3) := by decide +kernel
theorem dX8_posts_94 : decode cX8_posts 94 = .ok (.aload_n 0, 1) := by decide +kernel
theorem dX8_posts_95 : decode cX8_posts 95 = .ok (.dup, 1) := by decide +kernel
theorem dX8_posts_96 : decode cX8_posts 96 = .ok (.getfield 77, 3) := by decide +kernel
theorem dX8_posts_99 : decode cX8_posts 99 = .ok (.iconst 1, 1) := by decide +kernel
theorem dX8_posts_100 : decode cX8_posts 100 = .ok (.iadd, 1) := by decide +kernel
theorem dX8_posts_101 : decode cX8_posts 101 = .ok (.putfield 77, 3) := by decide +kernel
theorem dX8_posts_104 : decode cX8_posts 104 = .ok (.iload_n 1, 1) := by decide +kernel
theorem dX8_posts_105 : decode cX8_posts 105 = .ok (.iconst 3, 1) := by decide +kernel
theorem dX8_posts_106 : decode cX8_posts 106 = .ok (.if_icmp .eq 11, 3) := by decide +kernel
theorem dX8_posts_109 : decode cX8_posts 109 = .ok (.aload_n 0, 1) := by decide +kernel
theorem dX8_posts_110 : decode cX8_posts 110 = .ok (.iload_n 3, 1) := by decide +kernel
theorem dX8_posts_111 : decode cX8_posts 111 = .ok (.invokevirtual 94, 3) := by decide +kernel
theorem dX8_posts_114 : decode cX8_posts 114 = .ok (.ifCond .eq 7, 3) := by decide +kernel
theorem dX8_posts_117 : decode cX8_posts 117 = .ok (.iconst 1, 1) := by decide +kernel
theorem dX8_posts_118 : decode cX8_posts 118 = .ok (.goto 4, 3) := by decide +kernel
theorem dX8_posts_121 : decode cX8_posts 121 = .ok (.iconst 0, 1) := by decide +kernel
theorem dX8_posts_122 : decode cX8_posts 122 = .ok (.istore 6, 2) := by decide +kernel
theorem dX8_posts_124 : decode cX8_posts 124 = .ok (.aload_n 0, 1) := by decide +kernel
theorem dX8_posts_125 : decode cX8_posts 125 = .ok (.dup, 1) := by decide +kernel
theorem dX8_posts_126 : decode cX8_posts 126 = .ok (.getfield 77, 3) := by decide +kernel
theorem dX8_posts_129 : decode cX8_posts 129 = .ok (.iload 6, 2) := by decide +kernel
theorem dX8_posts_131 : decode cX8_posts 131 = .ok (.ifCond .eq 7, 3) := by decide +kernel
theorem dX8_posts_134 : decode cX8_posts 134 = .ok (.iconst 0, 1) := by decide +kernel
theorem dX8_posts_135 : decode cX8_posts 135 = .ok (.goto 4, 3) := by decide +kernel
theorem dX8_posts_138 : decode cX8_posts 138 = .ok (.iconst 1, 1) := by decide +kernel
theorem dX8_posts_139 : decode cX8_posts 139 = .ok (.isub, 1) := by decide +kernel
theorem dX8_posts_140 : decode cX8_posts 140 = .ok (.putfield 77, 3) := by decide +kernel
theorem dX8_posts_143 : decode cX8_posts 143 = .ok (.iload 6, 2) := by decide +kernel
theorem dX8_posts_145 : decode cX8_posts 145 = .ok (.ireturn, 1) := by decide +kernel
theorem dX8_wrong_0 : decode cX8_wrong 0 = .ok (.iload_n 1, 1) := by decide +kernel
theorem dX8_wrong_1 : decode cX8_wrong 1 = .ok (.invokestatic 98, 3) := by decide +kernel
theorem dX8_wrong_4 : decode cX8_wrong 4 = .ok (.ifCond .eq 32, 3) := by decide +kernel
theorem dX8_wrong_7 : decode cX8_wrong 7 = .ok (.iload_n 2, 1) := by decide +kernel
theorem dX8_wrong_8 : decode cX8_wrong 8 = .ok (.invokestatic 101, 3) := by decide +kernel
theorem dX8_wrong_11 : decode cX8_wrong 11 = .ok (.ifCond .eq 25, 3) := by decide +kernel
theorem dX8_wrong_14 : decode cX8_wrong 14 = .ok (.iload_n 3, 1) := by decide +kernel
theorem dX8_wrong_15 : decode cX8_wrong 15 = .ok (.iconst 1, 1) := by decide +kernel
theorem dX8_wrong_16 : decode cX8_wrong 16 = .ok (.sipush 1000, 3) := by decide +kernel
theorem dX8_wrong_19 : decode cX8_wrong 19 = .ok (.invokestatic 73, 3) := by decide +kernel
theorem dX8_wrong_22 : decode cX8_wrong 22 = .ok (.ifCond .eq 14, 3) := by decide +kernel
theorem dX8_wrong_25 : decode cX8_wrong 25 = .ok (.iload 4, 2) := by decide +kernel
theorem dX8_wrong_27 : decode cX8_wrong 27 = .ok (.iconst 0, 1) := by decide +kernel
theorem dX8_wrong_28 : decode cX8_wrong 28 = .ok (.ldc 104, 2) := by decide +kernel
theorem dX8_wrong_30 : decode cX8_wrong 30 = .ok (.invokestatic 73, 3) := by decide +kernel
theorem dX8_wrong_33 : decode cX8_wrong 33 = .ok (.ifCond .ne 7, 3) := by decide +kernel
theorem dX8_wrong_36 : decode cX8_wrong 36 = .ok (.iconst 1, 1) := by decide +kernel
theorem dX8_wrong_37 : decode cX8_wrong 37 = .ok (.goto 16, 3) := by decide +kernel
theorem dX8_wrong_40 : decode cX8_wrong 40 = .ok (.aload_n 0, 1) := by decide +kernel
theorem dX8_wrong_41 : decode cX8_wrong 41 = .ok (.iload_n 1, 1) := by decide +kernel
theorem dX8_wrong_42 : decode cX8_wrong 42 = .ok (.invokevirtual 105, 3) := by decide +kernel
theorem dX8_wrong_45 : decode cX8_wrong 45 = .ok (.ifCond .eq 7, 3) := by decide +kernel
theorem dX8_wrong_48 : decode cX8_wrong 48 = .ok (.iconst 2, 1) := by decide +kernel
theorem dX8_wrong_49 : decode cX8_wrong 49 = .ok (.goto 4, 3) := by decide +kernel
theorem dX8_wrong_52 : decode cX8_wrong 52 = .ok (.iconst 0, 1) := by decide +kernel
theorem dX8_wrong_53 : decode cX8_wrong 53 = .ok (.ireturn, 1) := by decide +kernel
theorem dX8_post_0 : decode cX8_post 0 = .ok (.aload_n 0, 1) := by decide +kernel
theorem dX8_post_1 : decode cX8_post 1 = .ok (.aload_n 0, 1) := by decide +kernel
theorem dX8_post_2 : decode cX8_post 2 = .ok (.iload_n 2, 1) := by decide +kernel
theorem dX8_post_3 : decode cX8_post 3 = .ok (.iload_n 3, 1) := by decide +kernel
theorem dX8_post_4 : decode cX8_post 4 = .ok (.iload 4, 2) := by decide +kernel
theorem dX8_post_6 : decode cX8_post 6 = .ok (.iload 5, 2) := by decide +kernel
theorem dX8_post_8 : decode cX8_post 8 = .ok (.invokevirtual 108, 3) := by decide +kernel
theorem dX8_post_11 : decode cX8_post 11 = .ok (.invokevirtual 112, 3) := by decide +kernel
theorem dX8_post_14 : decode cX8_post 14 = .ok (.ifCond .ne 5, 3) := by decide +kernel
theorem dX8_post_17 : decode cX8_post 17 = .ok (.iconst 0, 1) := by decide +kernel
theorem dX8_post_18 : decode cX8_post 18 = .ok (.ireturn, 1) := by decide +kernel
theorem dX8_post_19 : decode cX8_post 19 = .ok (.aload_n 0, 1) := by decide +kernel
theorem dX8_post_20 : decode cX8_post 20 = .ok (.aload_n 0, 1) := by decide +kernel
theorem dX8_post_21 : decode cX8_post 21 = .ok (.iload_n 1, 1) := by decide +kernel
theorem dX8_post_22 : decode cX8_post 22 = .ok (.iload_n 2, 1) := by decide +kernel
theorem dX8_post_23 : decode cX8_post 23 = .ok (.iload_n 3, 1) := by decide +kernel
theorem dX8_post_24 : decode cX8_post 24 = .ok (.iload 4, 2) := by decide +kernel
theorem dX8_post_26 : decode cX8_post 26 = .ok (.iload 5, 2) := by decide +kernel
theorem dX8_post_28 : decode cX8_post 28 = .ok (.invokevirtual 115, 3) := by decide +kernel
theorem dX8_post_31 : decode cX8_post 31 = .ok (.ifCond .eq 7, 3) := by decide +kernel
theorem dX8_post_34 : decode cX8_post 34 = .ok (.iconst 0, 1) := by decide +kernel
theorem dX8_post_35 : decode cX8_post 35 = .ok (.goto 4, 3) := by decide +kernel
theorem dX8_post_38 : decode cX8_post 38 = .ok (.iconst 2, 1) := by decide +kernel
theorem dX8_post_39 : decode cX8_post 39 = .ok (.invokevirtual 112, 3) := by decide +kernel
theorem dX8_post_42 : decode cX8_post 42 = .ok (.ifCond .eq 12, 3) := by decide +kernel
theorem dX8_post_45 : decode cX8_post 45 = .ok (.aload_n 0, 1) := by decide +kernel
theorem dX8_post_46 : decode cX8_post 46 = .ok (.getfield 77, 3) := by decide +kernel
theorem dX8_post_49 : decode cX8_post 49 = .ok (.iconst 1, 1) := by decide +kernel
theorem dX8_post_50 : decode cX8_post 50 = .ok (.isub, 1) := by decide +kernel
theorem dX8_post_51 : decode cX8_post 51 = .ok (.goto 4, 3) := by decide +kernel
theorem dX8_post_54 : decode cX8_post 54 = .ok (.iconst 0, 1) := by decide +kernel
theorem dX8_post_55 : decode cX8_post 55 = .ok (.ireturn, 1) := by decide +kernel
theorem dX8_receive_0 : decode cX8_receive 0 = .ok (.aload_n 0, 1) := by decide +kernel
theorem dX8_receive_1 : decode cX8_receive 1 = .ok (.iconst 0, 1) := by decide +kernel
theorem dX8_receive_2 : decode cX8_receive 2 = .ok (.iload_n 1, 1) := by decide +kernel
theorem dX8_receive_3 : decode cX8_receive 3 = .ok (.iload_n 2, 1) := by decide +kernel
theorem dX8_receive_4 : decode cX8_receive 4 = .ok (.iload_n 3, 1) := by decide +kernel
theorem dX8_receive_5 : decode cX8_receive 5 = .ok (.iload 4, 2) := by decide +kernel
theorem dX8_receive_7 : decode cX8_receive 7 = .ok (.invokevirtual 119, 3) := by decide +kernel
theorem dX8_receive_10 : decode cX8_receive 10 = .ok (.ireturn, 1) := by decide +kernel
theorem dX8_issue_0 : decode cX8_issue 0 = .ok (.aload_n 0, 1) := by decide +kernel
theorem dX8_issue_1 : decode cX8_issue 1 = .ok (.iconst 1, 1) := by decide +kernel
theorem dX8_issue_2 : decode cX8_issue 2 = .ok (.iload_n 1, 1) := by decide +kernel
theorem dX8_issue_3 : decode cX8_issue 3 = .ok (.iload_n 2, 1) := by decide +kernel
theorem dX8_issue_4 : decode cX8_issue 4 = .ok (.iload_n 3, 1) := by decide +kernel
theorem dX8_issue_5 : decode cX8_issue 5 = .ok (.iconst 0, 1) := by decide +kernel
theorem dX8_issue_6 : decode cX8_issue 6 = .ok (.invokevirtual 119, 3) := by decide +kernel
theorem dX8_issue_9 : decode cX8_issue 9 = .ok (.ireturn, 1) := by decide +kernel
theorem dX8_revalue_0 : decode cX8_revalue 0 = .ok (.aload_n 0, 1) := by decide +kernel
theorem dX8_revalue_1 : decode cX8_revalue 1 = .ok (.iconst 2, 1) := by decide +kernel
theorem dX8_revalue_2 : decode cX8_revalue 2 = .ok (.iload_n 1, 1) := by decide +kernel
theorem dX8_revalue_3 : decode cX8_revalue 3 = .ok (.iload_n 2, 1) := by decide +kernel
theorem dX8_revalue_4 : decode cX8_revalue 4 = .ok (.iload_n 3, 1) := by decide +kernel
theorem dX8_revalue_5 : decode cX8_revalue 5 = .ok (.iload 4, 2) := by decide +kernel
theorem dX8_revalue_7 : decode cX8_revalue 7 = .ok (.invokevirtual 119, 3) := by decide +kernel
theorem dX8_revalue_10 : decode cX8_revalue 10 = .ok (.ireturn, 1) := by decide +kernel
theorem dX8_has_0 : decode cX8_has 0 = .ok (.lload_n 0, 1) := by decide +kernel
theorem dX8_has_1 : decode cX8_has 1 = .ok (.iload_n 2, 1) := by decide +kernel
theorem dX8_has_2 : decode cX8_has 2 = .ok (.lshr, 1) := by decide +kernel
theorem dX8_has_3 : decode cX8_has 3 = .ok (.lconst 1, 1) := by decide +kernel
theorem dX8_has_4 : decode cX8_has 4 = .ok (.land, 1) := by decide +kernel
theorem dX8_has_5 : decode cX8_has 5 = .ok (.lconst 1, 1) := by decide +kernel
theorem dX8_has_6 : decode cX8_has 6 = .ok (.lcmp, 1) := by decide +kernel
theorem dX8_has_7 : decode cX8_has 7 = .ok (.ifCond .ne 7, 3) := by decide +kernel
theorem dX8_has_10 : decode cX8_has 10 = .ok (.iconst 1, 1) := by decide +kernel
theorem dX8_has_11 : decode cX8_has 11 = .ok (.goto 4, 3) := by decide +kernel
theorem dX8_has_14 : decode cX8_has 14 = .ok (.iconst 0, 1) := by decide +kernel
theorem dX8_has_15 : decode cX8_has 15 = .ok (.ireturn, 1) := by decide +kernel
theorem dX8_basisOf_0 : decode cX8_basisOf 0 = .ok (.iload_n 2, 1) := by decide +kernel
theorem dX8_basisOf_1 : decode cX8_basisOf 1 = .ok (.ifCond .ne 13, 3) := by decide +kernel
theorem dX8_basisOf_4 : decode cX8_basisOf 4 = .ok (.aload_n 0, 1) := by decide +kernel
theorem dX8_basisOf_5 : decode cX8_basisOf 5 = .ok (.getfield 19, 3) := by decide +kernel
theorem dX8_basisOf_8 : decode cX8_basisOf 8 = .ok (.iload_n 1, 1) := by decide +kernel
theorem dX8_basisOf_9 : decode cX8_basisOf 9 = .ok (.iaload, 1) := by decide +kernel
theorem dX8_basisOf_10 : decode cX8_basisOf 10 = .ok (.i2l, 1) := by decide +kernel
theorem dX8_basisOf_11 : decode cX8_basisOf 11 = .ok (.goto 38, 3) := by decide +kernel
theorem dX8_basisOf_14 : decode cX8_basisOf 14 = .ok (.iload_n 2, 1) := by decide +kernel
theorem dX8_basisOf_15 : decode cX8_basisOf 15 = .ok (.iconst 1, 1) := by decide +kernel
theorem dX8_basisOf_16 : decode cX8_basisOf 16 = .ok (.if_icmp .ne 13, 3) := by decide +kernel
theorem dX8_basisOf_19 : decode cX8_basisOf 19 = .ok (.aload_n 0, 1) := by decide +kernel
theorem dX8_basisOf_20 : decode cX8_basisOf 20 = .ok (.getfield 22, 3) := by decide +kernel
theorem dX8_basisOf_23 : decode cX8_basisOf 23 = .ok (.iload_n 1, 1) := by decide +kernel
theorem dX8_basisOf_24 : decode cX8_basisOf 24 = .ok (.iaload, 1) := by decide +kernel
theorem dX8_basisOf_25 : decode cX8_basisOf 25 = .ok (.i2l, 1) := by decide +kernel
theorem dX8_basisOf_26 : decode cX8_basisOf 26 = .ok (.goto 23, 3) := by decide +kernel
theorem dX8_basisOf_29 : decode cX8_basisOf 29 = .ok (.aload_n 0, 1) := by decide +kernel
theorem dX8_basisOf_30 : decode cX8_basisOf 30 = .ok (.getfield 19, 3) := by decide +kernel
theorem dX8_basisOf_33 : decode cX8_basisOf 33 = .ok (.iload_n 1, 1) := by decide +kernel
theorem dX8_basisOf_34 : decode cX8_basisOf 34 = .ok (.iaload, 1) := by decide +kernel
theorem dX8_basisOf_35 : decode cX8_basisOf 35 = .ok (.i2l, 1) := by decide +kernel
theorem dX8_basisOf_36 : decode cX8_basisOf 36 = .ok (.aload_n 0, 1) := by decide +kernel
theorem dX8_basisOf_37 : decode cX8_basisOf 37 = .ok (.getfield 40, 3) := by decide +kernel
theorem dX8_basisOf_40 : decode cX8_basisOf 40 = .ok (.aload_n 0, 1) := by decide +kernel
theorem dX8_basisOf_41 : decode cX8_basisOf 41 = .ok (.getfield 16, 3) := by decide +kernel
theorem dX8_basisOf_44 : decode cX8_basisOf 44 = .ok (.iload_n 1, 1) := by decide +kernel
theorem dX8_basisOf_45 : decode cX8_basisOf 45 = .ok (.iaload, 1) := by decide +kernel
theorem dX8_basisOf_46 : decode cX8_basisOf 46 = .ok (.iaload, 1) := by decide +kernel
theorem dX8_basisOf_47 : decode cX8_basisOf 47 = .ok (.i2l, 1) := by decide +kernel
theorem dX8_basisOf_48 : decode cX8_basisOf 48 = .ok (.lmul, 1) := by decide +kernel
theorem dX8_basisOf_49 : decode cX8_basisOf 49 = .ok (.lreturn, 1) := by decide +kernel
theorem dX8_sumOf_0 : decode cX8_sumOf 0 = .ok (.lconst 0, 1) := by decide +kernel
theorem dX8_sumOf_1 : decode cX8_sumOf 1 = .ok (.lstore 4, 2) := by decide +kernel
theorem dX8_sumOf_3 : decode cX8_sumOf 3 = .ok (.iconst 0, 1) := by decide +kernel
theorem dX8_sumOf_4 : decode cX8_sumOf 4 = .ok (.istore 6, 2) := by decide +kernel
theorem dX8_sumOf_6 : decode cX8_sumOf 6 = .ok (.iload 6, 2) := by decide +kernel
theorem dX8_sumOf_8 : decode cX8_sumOf 8 = .ok (.aload_n 0, 1) := by decide +kernel
theorem dX8_sumOf_9 : decode cX8_sumOf 9 = .ok (.getfield 77, 3) := by decide +kernel
theorem dX8_sumOf_12 : decode cX8_sumOf 12 = .ok (.if_icmp .ge 34, 3) := by decide +kernel
theorem dX8_sumOf_15 : decode cX8_sumOf 15 = .ok (.lload 4, 2) := by decide +kernel
theorem dX8_sumOf_17 : decode cX8_sumOf 17 = .ok (.lload_n 1, 1) := by decide +kernel
theorem dX8_sumOf_18 : decode cX8_sumOf 18 = .ok (.iload 6, 2) := by decide +kernel
theorem dX8_sumOf_20 : decode cX8_sumOf 20 = .ok (.invokestatic 123, 3) := by decide +kernel
theorem dX8_sumOf_23 : decode cX8_sumOf 23 = .ok (.ifCond .eq 13, 3) := by decide +kernel
theorem dX8_sumOf_26 : decode cX8_sumOf 26 = .ok (.aload_n 0, 1) := by decide +kernel
theorem dX8_sumOf_27 : decode cX8_sumOf 27 = .ok (.iload 6, 2) := by decide +kernel
theorem dX8_sumOf_29 : decode cX8_sumOf 29 = .ok (.iload_n 3, 1) := by decide +kernel
theorem dX8_sumOf_30 : decode cX8_sumOf 30 = .ok (.invokevirtual 127, 3) := by decide +kernel
theorem dX8_sumOf_33 : decode cX8_sumOf 33 = .ok (.goto 4, 3) := by decide +kernel
theorem dX8_sumOf_36 : decode cX8_sumOf 36 = .ok (.lconst 0, 1) := by decide +kernel
theorem dX8_sumOf_37 : decode cX8_sumOf 37 = .ok (.ladd, 1) := by decide +kernel
theorem dX8_sumOf_38 : decode cX8_sumOf 38 = .ok (.lstore 4, 2) := by decide +kernel
theorem dX8_sumOf_40 : decode cX8_sumOf 40 = .ok (.iinc 6 1, 3) := by decide +kernel
theorem dX8_sumOf_43 : decode cX8_sumOf 43 = .ok (.goto (-37), 3) := by decide +kernel
theorem dX8_sumOf_46 : decode cX8_sumOf 46 = .ok (.lload 4, 2) := by decide +kernel
theorem dX8_sumOf_48 : decode cX8_sumOf 48 = .ok (.lreturn, 1) := by decide +kernel
theorem dX8_areReceipts_0 : decode cX8_areReceipts 0 = .ok (.iconst 1, 1) := by decide +kernel
theorem dX8_areReceipts_1 : decode cX8_areReceipts 1 = .ok (.istore 4, 2) := by decide +kernel
theorem dX8_areReceipts_3 : decode cX8_areReceipts 3 = .ok (.iconst 0, 1) := by decide +kernel
theorem dX8_areReceipts_4 : decode cX8_areReceipts 4 = .ok (.istore 5, 2) := by decide +kernel
theorem dX8_areReceipts_6 : decode cX8_areReceipts 6 = .ok (.iload 5, 2) := by decide +kernel
theorem dX8_areReceipts_8 : decode cX8_areReceipts 8 = .ok (.aload_n 0, 1) := by decide +kernel
theorem dX8_areReceipts_9 : decode cX8_areReceipts 9 = .ok (.getfield 77, 3) := by decide +kernel
theorem dX8_areReceipts_12 : decode cX8_areReceipts 12 = .ok (.if_icmp .ge 61, 3) := by decide +kernel
theorem dX8_areReceipts_15 : decode cX8_areReceipts 15 = .ok (.iload 4, 2) := by decide +kernel
theorem dX8_areReceipts_17 : decode cX8_areReceipts 17 = .ok (.ifCond .eq 47, 3) := by decide +kernel
theorem dX8_areReceipts_20 : decode cX8_areReceipts 20 = .ok (.lload_n 1, 1) := by decide +kernel
theorem dX8_areReceipts_21 : decode cX8_areReceipts 21 = .ok (.iload 5, 2) := by decide +kernel
theorem dX8_areReceipts_23 : decode cX8_areReceipts 23 = .ok (.invokestatic 123, 3) := by decide +kernel
theorem dX8_areReceipts_26 : decode cX8_areReceipts 26 = .ok (.ifCond .eq 34, 3) := by decide +kernel
theorem dX8_areReceipts_29 : decode cX8_areReceipts 29 = .ok (.aload_n 0, 1) := by decide +kernel
theorem dX8_areReceipts_30 : decode cX8_areReceipts 30 = .ok (.getfield 25, 3) := by decide +kernel
theorem dX8_areReceipts_33 : decode cX8_areReceipts 33 = .ok (.iload 5, 2) := by decide +kernel
theorem dX8_areReceipts_35 : decode cX8_areReceipts 35 = .ok (.baload, 1) := by decide +kernel
theorem dX8_areReceipts_36 : decode cX8_areReceipts 36 = .ok (.ifCond .ne 28, 3) := by decide +kernel
theorem dX8_areReceipts_39 : decode cX8_areReceipts 39 = .ok (.aload_n 0, 1) := by decide +kernel
theorem dX8_areReceipts_40 : decode cX8_areReceipts 40 = .ok (.getfield 7, 3) := by decide +kernel
theorem dX8_areReceipts_43 : decode cX8_areReceipts 43 = .ok (.iload 5, 2) := by decide +kernel
theorem dX8_areReceipts_45 : decode cX8_areReceipts 45 = .ok (.iaload, 1) := by decide +kernel
theorem dX8_areReceipts_46 : decode cX8_areReceipts 46 = .ok (.ifCond .ne 18, 3) := by decide +kernel
theorem dX8_areReceipts_49 : decode cX8_areReceipts 49 = .ok (.aload_n 0, 1) := by decide +kernel
theorem dX8_areReceipts_50 : decode cX8_areReceipts 50 = .ok (.getfield 13, 3) := by decide +kernel
theorem dX8_areReceipts_53 : decode cX8_areReceipts 53 = .ok (.iload 5, 2) := by decide +kernel
theorem dX8_areReceipts_55 : decode cX8_areReceipts 55 = .ok (.iaload, 1) := by decide +kernel
theorem dX8_areReceipts_56 : decode cX8_areReceipts 56 = .ok (.iload_n 3, 1) := by decide +kernel
theorem dX8_areReceipts_57 : decode cX8_areReceipts 57 = .ok (.if_icmp .gt 7, 3) := by decide +kernel
theorem dX8_areReceipts_60 : decode cX8_areReceipts 60 = .ok (.iconst 1, 1) := by decide +kernel
theorem dX8_areReceipts_61 : decode cX8_areReceipts 61 = .ok (.goto 4, 3) := by decide +kernel
theorem dX8_areReceipts_64 : decode cX8_areReceipts 64 = .ok (.iconst 0, 1) := by decide +kernel
theorem dX8_areReceipts_65 : decode cX8_areReceipts 65 = .ok (.istore 4, 2) := by decide +kernel
theorem dX8_areReceipts_67 : decode cX8_areReceipts 67 = .ok (.iinc 5 1, 3) := by decide +kernel
theorem dX8_areReceipts_70 : decode cX8_areReceipts 70 = .ok (.goto (-64), 3) := by decide +kernel
theorem dX8_areReceipts_73 : decode cX8_areReceipts 73 = .ok (.iload 4, 2) := by decide +kernel
theorem dX8_areReceipts_75 : decode cX8_areReceipts 75 = .ok (.ireturn, 1) := by decide +kernel
theorem dX8_areMovements_0 : decode cX8_areMovements 0 = .ok (.iconst 1, 1) := by decide +kernel
theorem dX8_areMovements_1 : decode cX8_areMovements 1 = .ok (.istore_n 3, 1) := by decide +kernel
theorem dX8_areMovements_2 : decode cX8_areMovements 2 = .ok (.aload_n 0, 1) := by decide +kernel
theorem dX8_areMovements_3 : decode cX8_areMovements 3 = .ok (.getfield 77, 3) := by decide +kernel
theorem dX8_areMovements_6 : decode cX8_areMovements 6 = .ok (.istore 4, 2) := by decide +kernel
theorem dX8_areMovements_8 : decode cX8_areMovements 8 = .ok (.iload 4, 2) := by decide +kernel
theorem dX8_areMovements_10 : decode cX8_areMovements 10 = .ok (.bipush 64, 2) := by decide +kernel
theorem dX8_areMovements_12 : decode cX8_areMovements 12 = .ok (.if_icmp .ge 28, 3) := by decide +kernel
theorem dX8_areMovements_15 : decode cX8_areMovements 15 = .ok (.iload_n 3, 1) := by decide +kernel
theorem dX8_areMovements_16 : decode cX8_areMovements 16 = .ok (.ifCond .eq 16, 3) := by decide +kernel
theorem dX8_areMovements_19 : decode cX8_areMovements 19 = .ok (.lload_n 1, 1) := by decide +kernel
theorem dX8_areMovements_20 : decode cX8_areMovements 20 = .ok (.iload 4, 2) := by decide +kernel
theorem dX8_areMovements_22 : decode cX8_areMovements 22 = .ok (.invokestatic 123, 3) := by decide +kernel
theorem dX8_areMovements_25 : decode cX8_areMovements 25 = .ok (.ifCond .ne 7, 3) := by decide +kernel
theorem dX8_areMovements_28 : decode cX8_areMovements 28 = .ok (.iconst 1, 1) := by decide +kernel
theorem dX8_areMovements_29 : decode cX8_areMovements 29 = .ok (.goto 4, 3) := by decide +kernel
theorem dX8_areMovements_32 : decode cX8_areMovements 32 = .ok (.iconst 0, 1) := by decide +kernel
theorem dX8_areMovements_33 : decode cX8_areMovements 33 = .ok (.istore_n 3, 1) := by decide +kernel
theorem dX8_areMovements_34 : decode cX8_areMovements 34 = .ok (.iinc 4 1, 3) := by decide +kernel
theorem dX8_areMovements_37 : decode cX8_areMovements 37 = .ok (.goto (-29), 3) := by decide +kernel
theorem dX8_areMovements_40 : decode cX8_areMovements 40 = .ok (.iload_n 3, 1) := by decide +kernel
theorem dX8_areMovements_41 : decode cX8_areMovements 41 = .ok (.ireturn, 1) := by decide +kernel
theorem dX8_next_0 : decode cX8_next 0 = .ok (.iconst 0, 1) := by decide +kernel
theorem dX8_next_1 : decode cX8_next 1 = .ok (.istore_n 1, 1) := by decide +kernel
theorem dX8_next_2 : decode cX8_next 2 = .ok (.iconst 1, 1) := by decide +kernel
theorem dX8_next_3 : decode cX8_next 3 = .ok (.istore_n 2, 1) := by decide +kernel
theorem dX8_next_4 : decode cX8_next 4 = .ok (.iload_n 2, 1) := by decide +kernel
theorem dX8_next_5 : decode cX8_next 5 = .ok (.aload_n 0, 1) := by decide +kernel
theorem dX8_next_6 : decode cX8_next 6 = .ok (.getfield 77, 3) := by decide +kernel
theorem dX8_next_9 : decode cX8_next 9 = .ok (.if_icmp .ge 31, 3) := by decide +kernel
theorem dX8_next_12 : decode cX8_next 12 = .ok (.aload_n 0, 1) := by decide +kernel
theorem dX8_next_13 : decode cX8_next 13 = .ok (.getfield 67, 3) := by decide +kernel
theorem dX8_next_16 : decode cX8_next 16 = .ok (.iload_n 2, 1) := by decide +kernel
theorem dX8_next_17 : decode cX8_next 17 = .ok (.laload, 1) := by decide +kernel
theorem dX8_next_18 : decode cX8_next 18 = .ok (.aload_n 0, 1) := by decide +kernel
theorem dX8_next_19 : decode cX8_next 19 = .ok (.getfield 67, 3) := by decide +kernel
theorem dX8_next_22 : decode cX8_next 22 = .ok (.iload_n 1, 1) := by decide +kernel
theorem dX8_next_23 : decode cX8_next 23 = .ok (.laload, 1) := by decide +kernel
theorem dX8_next_24 : decode cX8_next 24 = .ok (.lcmp, 1) := by decide +kernel
theorem dX8_next_25 : decode cX8_next 25 = .ok (.ifCond .le 7, 3) := by decide +kernel
theorem dX8_next_28 : decode cX8_next 28 = .ok (.iload_n 2, 1) := by decide +kernel
theorem dX8_next_29 : decode cX8_next 29 = .ok (.goto 4, 3) := by decide +kernel
theorem dX8_next_32 : decode cX8_next 32 = .ok (.iload_n 1, 1) := by decide +kernel
theorem dX8_next_33 : decode cX8_next 33 = .ok (.istore_n 1, 1) := by decide +kernel
theorem dX8_next_34 : decode cX8_next 34 = .ok (.iinc 2 1, 3) := by decide +kernel
theorem dX8_next_37 : decode cX8_next 37 = .ok (.goto (-33), 3) := by decide +kernel
theorem dX8_next_40 : decode cX8_next 40 = .ok (.aload_n 0, 1) := by decide +kernel
theorem dX8_next_41 : decode cX8_next 41 = .ok (.getfield 67, 3) := by decide +kernel
theorem dX8_next_44 : decode cX8_next 44 = .ok (.iload_n 1, 1) := by decide +kernel
theorem dX8_next_45 : decode cX8_next 45 = .ok (.ldc2_w 131, 3) := by decide +kernel
theorem dX8_next_48 : decode cX8_next 48 = .ok (.lastore, 1) := by decide +kernel
theorem dX8_next_49 : decode cX8_next 49 = .ok (.iload_n 1, 1) := by decide +kernel
theorem dX8_next_50 : decode cX8_next 50 = .ok (.ireturn, 1) := by decide +kernel
theorem dX8_spreads_0 : decode cX8_spreads 0 = .ok (.aload_n 0, 1) := by decide +kernel
theorem dX8_spreads_1 : decode cX8_spreads 1 = .ok (.lload 4, 2) := by decide +kernel
theorem dX8_spreads_3 : decode cX8_spreads 3 = .ok (.iload_n 3, 1) := by decide +kernel
theorem dX8_spreads_4 : decode cX8_spreads 4 = .ok (.invokevirtual 133, 3) := by decide +kernel
theorem dX8_spreads_7 : decode cX8_spreads 7 = .ok (.lstore 6, 2) := by decide +kernel
theorem dX8_spreads_9 : decode cX8_spreads 9 = .ok (.iload_n 2, 1) := by decide +kernel
theorem dX8_spreads_10 : decode cX8_spreads 10 = .ok (.istore 8, 2) := by decide +kernel
theorem dX8_spreads_12 : decode cX8_spreads 12 = .ok (.iconst 0, 1) := by decide +kernel
theorem dX8_spreads_13 : decode cX8_spreads 13 = .ok (.istore 9, 2) := by decide +kernel
theorem dX8_spreads_15 : decode cX8_spreads 15 = .ok (.iload 9, 2) := by decide +kernel
theorem dX8_spreads_17 : decode cX8_spreads 17 = .ok (.aload_n 0, 1) := by decide +kernel
theorem dX8_spreads_18 : decode cX8_spreads 18 = .ok (.getfield 77, 3) := by decide +kernel
theorem dX8_spreads_21 : decode cX8_spreads 21 = .ok (.if_icmp .ge 82, 3) := by decide +kernel
theorem dX8_spreads_24 : decode cX8_spreads 24 = .ok (.aload_n 0, 1) := by decide +kernel
theorem dX8_spreads_25 : decode cX8_spreads 25 = .ok (.getfield 67, 3) := by decide +kernel
theorem dX8_spreads_28 : decode cX8_spreads 28 = .ok (.iload 9, 2) := by decide +kernel
theorem dX8_spreads_30 : decode cX8_spreads 30 = .ok (.ldc2_w 131, 3) := by decide +kernel
theorem dX8_spreads_33 : decode cX8_spreads 33 = .ok (.lastore, 1) := by decide +kernel
theorem dX8_spreads_34 : decode cX8_spreads 34 = .ok (.lload 4, 2) := by decide +kernel
theorem dX8_spreads_36 : decode cX8_spreads 36 = .ok (.iload 9, 2) := by decide +kernel
theorem dX8_spreads_38 : decode cX8_spreads 38 = .ok (.invokestatic 123, 3) := by decide +kernel
theorem dX8_spreads_41 : decode cX8_spreads 41 = .ok (.ifCond .eq 56, 3) := by decide +kernel
theorem dX8_spreads_44 : decode cX8_spreads 44 = .ok (.iload_n 2, 1) := by decide +kernel
theorem dX8_spreads_45 : decode cX8_spreads 45 = .ok (.i2l, 1) := by decide +kernel
theorem dX8_spreads_46 : decode cX8_spreads 46 = .ok (.aload_n 0, 1) := by decide +kernel
theorem dX8_spreads_47 : decode cX8_spreads 47 = .ok (.iload 9, 2) := by decide +kernel
theorem dX8_spreads_49 : decode cX8_spreads 49 = .ok (.iload_n 3, 1) := by decide +kernel
theorem dX8_spreads_50 : decode cX8_spreads 50 = .ok (.invokevirtual 127, 3) := by decide +kernel
theorem dX8_spreads_53 : decode cX8_spreads 53 = .ok (.lmul, 1) := by decide +kernel
theorem dX8_spreads_54 : decode cX8_spreads 54 = .ok (.lstore 10, 2) := by decide +kernel
theorem dX8_spreads_56 : decode cX8_spreads 56 = .ok (.aload_n 0, 1) := by decide +kernel
theorem dX8_spreads_57 : decode cX8_spreads 57 = .ok (.getfield 33, 3) := by decide +kernel
theorem dX8_spreads_60 : decode cX8_spreads 60 = .ok (.bipush 60, 2) := by decide +kernel
theorem dX8_spreads_62 : decode cX8_spreads 62 = .ok (.iload_n 1, 1) := by decide +kernel
theorem dX8_spreads_63 : decode cX8_spreads 63 = .ok (.imul, 1) := by decide +kernel
theorem dX8_spreads_64 : decode cX8_spreads 64 = .ok (.iload 9, 2) := by decide +kernel
theorem dX8_spreads_66 : decode cX8_spreads 66 = .ok (.iadd, 1) := by decide +kernel
theorem dX8_spreads_67 : decode cX8_spreads 67 = .ok (.lload 10, 2) := by decide +kernel
theorem dX8_spreads_69 : decode cX8_spreads 69 = .ok (.lload 6, 2) := by decide +kernel
theorem dX8_spreads_71 : decode cX8_spreads 71 = .ok (.ldiv, 1) := by decide +kernel
theorem dX8_spreads_72 : decode cX8_spreads 72 = .ok (.l2i, 1) := by decide +kernel
theorem dX8_spreads_73 : decode cX8_spreads 73 = .ok (.iastore, 1) := by decide +kernel
theorem dX8_spreads_74 : decode cX8_spreads 74 = .ok (.aload_n 0, 1) := by decide +kernel
theorem dX8_spreads_75 : decode cX8_spreads 75 = .ok (.getfield 67, 3) := by decide +kernel
theorem dX8_spreads_78 : decode cX8_spreads 78 = .ok (.iload 9, 2) := by decide +kernel
theorem dX8_spreads_80 : decode cX8_spreads 80 = .ok (.lload 10, 2) := by decide +kernel
theorem dX8_spreads_82 : decode cX8_spreads 82 = .ok (.lload 6, 2) := by decide +kernel
theorem dX8_spreads_84 : decode cX8_spreads 84 = .ok (.lrem, 1) := by decide +kernel
theorem dX8_spreads_85 : decode cX8_spreads 85 = .ok (.lastore, 1) := by decide +kernel
theorem dX8_spreads_86 : decode cX8_spreads 86 = .ok (.iload 8, 2) := by decide +kernel
theorem dX8_spreads_88 : decode cX8_spreads 88 = .ok (.lload 10, 2) := by decide +kernel
theorem dX8_spreads_90 : decode cX8_spreads 90 = .ok (.lload 6, 2) := by decide +kernel
theorem dX8_spreads_92 : decode cX8_spreads 92 = .ok (.ldiv, 1) := by decide +kernel
theorem dX8_spreads_93 : decode cX8_spreads 93 = .ok (.l2i, 1) := by decide +kernel
theorem dX8_spreads_94 : decode cX8_spreads 94 = .ok (.isub, 1) := by decide +kernel
theorem dX8_spreads_95 : decode cX8_spreads 95 = .ok (.istore 8, 2) := by decide +kernel
theorem dX8_spreads_97 : decode cX8_spreads 97 = .ok (.iinc 9 1, 3) := by decide +kernel
theorem dX8_spreads_100 : decode cX8_spreads 100 = .ok (.goto (-85), 3) := by decide +kernel
theorem dX8_spreads_103 : decode cX8_spreads 103 = .ok (.iconst 0, 1) := by decide +kernel
theorem dX8_spreads_104 : decode cX8_spreads 104 = .ok (.istore 9, 2) := by decide +kernel
theorem dX8_spreads_106 : decode cX8_spreads 106 = .ok (.iload 9, 2) := by decide +kernel
theorem dX8_spreads_108 : decode cX8_spreads 108 = .ok (.iload 8, 2) := by decide +kernel
theorem dX8_spreads_110 : decode cX8_spreads 110 = .ok (.if_icmp .ge 27, 3) := by decide +kernel
theorem dX8_spreads_113 : decode cX8_spreads 113 = .ok (.aload_n 0, 1) := by decide +kernel
theorem dX8_spreads_114 : decode cX8_spreads 114 = .ok (.getfield 33, 3) := by decide +kernel
theorem dX8_spreads_117 : decode cX8_spreads 117 = .ok (.bipush 60, 2) := by decide +kernel
theorem dX8_spreads_119 : decode cX8_spreads 119 = .ok (.iload_n 1, 1) := by decide +kernel
theorem dX8_spreads_120 : decode cX8_spreads 120 = .ok (.imul, 1) := by decide +kernel
theorem dX8_spreads_121 : decode cX8_spreads 121 = .ok (.aload_n 0, 1) := by decide +kernel
theorem dX8_spreads_122 : decode cX8_spreads 122 = .ok (.invokevirtual 137, 3) := by decide +kernel
theorem dX8_spreads_125 : decode cX8_spreads 125 = .ok (.iadd, 1) := by decide +kernel
theorem dX8_spreads_126 : decode cX8_spreads 126 = .ok (.dup2, 1) := by decide +kernel
theorem dX8_spreads_127 : decode cX8_spreads 127 = .ok (.iaload, 1) := by decide +kernel
theorem dX8_spreads_128 : decode cX8_spreads 128 = .ok (.iconst 1, 1) := by decide +kernel
theorem dX8_spreads_129 : decode cX8_spreads 129 = .ok (.iadd, 1) := by decide +kernel
theorem dX8_spreads_130 : decode cX8_spreads 130 = .ok (.iastore, 1) := by decide +kernel
theorem dX8_spreads_131 : decode cX8_spreads 131 = .ok (.iinc 9 1, 3) := by decide +kernel
theorem dX8_spreads_134 : decode cX8_spreads 134 = .ok (.goto (-28), 3) := by decide +kernel
theorem dX8_spreads_137 : decode cX8_spreads 137 = .ok (.return_, 1) := by decide +kernel
theorem dX8_land_0 : decode cX8_land 0 = .ok (.iload_n 1, 1) := by decide +kernel
theorem dX8_land_1 : decode cX8_land 1 = .ok (.invokestatic 98, 3) := by decide +kernel
theorem dX8_land_4 : decode cX8_land 4 = .ok (.ifCond .eq 29, 3) := by decide +kernel
theorem dX8_land_7 : decode cX8_land 7 = .ok (.iload_n 2, 1) := by decide +kernel
theorem dX8_land_8 : decode cX8_land 8 = .ok (.iconst 1, 1) := by decide +kernel
theorem dX8_land_9 : decode cX8_land 9 = .ok (.ldc 104, 2) := by decide +kernel
theorem dX8_land_11 : decode cX8_land 11 = .ok (.invokestatic 73, 3) := by decide +kernel
theorem dX8_land_14 : decode cX8_land 14 = .ok (.ifCond .eq 19, 3) := by decide +kernel
theorem dX8_land_17 : decode cX8_land 17 = .ok (.iload_n 3, 1) := by decide +kernel
theorem dX8_land_18 : decode cX8_land 18 = .ok (.iconst 0, 1) := by decide +kernel
theorem dX8_land_19 : decode cX8_land 19 = .ok (.iconst 2, 1) := by decide +kernel
theorem dX8_land_20 : decode cX8_land 20 = .ok (.invokestatic 73, 3) := by decide +kernel
theorem dX8_land_23 : decode cX8_land 23 = .ok (.ifCond .eq 10, 3) := by decide +kernel
theorem dX8_land_26 : decode cX8_land 26 = .ok (.lload 4, 2) := by decide +kernel
theorem dX8_land_28 : decode cX8_land 28 = .ok (.lconst 0, 1) := by decide +kernel
theorem dX8_land_29 : decode cX8_land 29 = .ok (.lcmp, 1) := by decide +kernel
theorem dX8_land_30 : decode cX8_land 30 = .ok (.ifCond .ne 7, 3) := by decide +kernel
theorem dX8_land_33 : decode cX8_land 33 = .ok (.iconst 1, 1) := by decide +kernel
theorem dX8_land_34 : decode cX8_land 34 = .ok (.goto 51, 3) := by decide +kernel
theorem dX8_land_37 : decode cX8_land 37 = .ok (.aload_n 0, 1) := by decide +kernel
theorem dX8_land_38 : decode cX8_land 38 = .ok (.lload 4, 2) := by decide +kernel
theorem dX8_land_40 : decode cX8_land 40 = .ok (.invokevirtual 141, 3) := by decide +kernel
theorem dX8_land_43 : decode cX8_land 43 = .ok (.ifCond .ne 7, 3) := by decide +kernel
theorem dX8_land_46 : decode cX8_land 46 = .ok (.iconst 2, 1) := by decide +kernel
theorem dX8_land_47 : decode cX8_land 47 = .ok (.goto 38, 3) := by decide +kernel
theorem dX8_land_50 : decode cX8_land 50 = .ok (.aload_n 0, 1) := by decide +kernel
theorem dX8_land_51 : decode cX8_land 51 = .ok (.iload_n 1, 1) := by decide +kernel
theorem dX8_land_52 : decode cX8_land 52 = .ok (.invokevirtual 105, 3) := by decide +kernel
theorem dX8_land_55 : decode cX8_land 55 = .ok (.ifCond .ne 25, 3) := by decide +kernel
theorem dX8_land_58 : decode cX8_land 58 = .ok (.aload_n 0, 1) := by decide +kernel
theorem dX8_land_59 : decode cX8_land 59 = .ok (.lload 4, 2) := by decide +kernel
theorem dX8_land_61 : decode cX8_land 61 = .ok (.iload_n 1, 1) := by decide +kernel
theorem dX8_land_62 : decode cX8_land 62 = .ok (.invokevirtual 145, 3) := by decide +kernel
theorem dX8_land_65 : decode cX8_land 65 = .ok (.ifCond .eq 15, 3) := by decide +kernel
theorem dX8_land_68 : decode cX8_land 68 = .ok (.aload_n 0, 1) := by decide +kernel
theorem dX8_land_69 : decode cX8_land 69 = .ok (.lload 4, 2) := by decide +kernel
theorem dX8_land_71 : decode cX8_land 71 = .ok (.iload_n 3, 1) := by decide +kernel
theorem dX8_land_72 : decode cX8_land 72 = .ok (.invokevirtual 133, 3) := by decide +kernel
theorem dX8_land_75 : decode cX8_land 75 = .ok (.lconst 0, 1) := by decide +kernel
theorem dX8_land_76 : decode cX8_land 76 = .ok (.lcmp, 1) := by decide +kernel
theorem dX8_land_77 : decode cX8_land 77 = .ok (.ifCond .ne 7, 3) := by decide +kernel
theorem dX8_land_80 : decode cX8_land 80 = .ok (.iconst 3, 1) := by decide +kernel
theorem dX8_land_81 : decode cX8_land 81 = .ok (.goto 4, 3) := by decide +kernel
theorem dX8_land_84 : decode cX8_land 84 = .ok (.iconst 0, 1) := by decide +kernel
theorem dX8_land_85 : decode cX8_land 85 = .ok (.istore 6, 2) := by decide +kernel
theorem dX8_land_87 : decode cX8_land 87 = .ok (.aload_n 0, 1) := by decide +kernel
theorem dX8_land_88 : decode cX8_land 88 = .ok (.iload 6, 2) := by decide +kernel
theorem dX8_land_90 : decode cX8_land 90 = .ok (.invokevirtual 112, 3) := by decide +kernel
theorem dX8_land_93 : decode cX8_land 93 = .ok (.ifCond .ne 5, 3) := by decide +kernel
theorem dX8_land_96 : decode cX8_land 96 = .ok (.iconst 0, 1) := by decide +kernel
theorem dX8_land_97 : decode cX8_land 97 = .ok (.ireturn, 1) := by decide +kernel
theorem dX8_land_98 : decode cX8_land 98 = .ok (.aload_n 0, 1) := by decide +kernel
theorem dX8_land_99 : decode cX8_land 99 = .ok (.iconst 3, 1) := by decide +kernel
theorem dX8_land_100 : decode cX8_land 100 = .ok (.iload_n 1, 1) := by decide +kernel
theorem dX8_land_101 : decode cX8_land 101 = .ok (.iconst (-1), 1) := by decide +kernel
theorem dX8_land_102 : decode cX8_land 102 = .ok (.iconst 0, 1) := by decide +kernel
theorem dX8_land_103 : decode cX8_land 103 = .ok (.iload_n 2, 1) := by decide +kernel
theorem dX8_land_104 : decode cX8_land 104 = .ok (.invokevirtual 115, 3) := by decide +kernel
theorem dX8_land_107 : decode cX8_land 107 = .ok (.istore 7, 2) := by decide +kernel
theorem dX8_land_109 : decode cX8_land 109 = .ok (.aload_n 0, 1) := by decide +kernel
theorem dX8_land_110 : decode cX8_land 110 = .ok (.getfield 29, 3) := by decide +kernel
theorem dX8_land_113 : decode cX8_land 113 = .ok (.aload_n 0, 1) := by decide +kernel
theorem dX8_land_114 : decode cX8_land 114 = .ok (.getfield 77, 3) := by decide +kernel
theorem dX8_land_117 : decode cX8_land 117 = .ok (.iconst 1, 1) := by decide +kernel
theorem dX8_land_118 : decode cX8_land 118 = .ok (.isub, 1) := by decide +kernel
theorem dX8_land_119 : decode cX8_land 119 = .ok (.lload 4, 2) := by decide +kernel
theorem dX8_land_121 : decode cX8_land 121 = .ok (.lastore, 1) := by decide +kernel
theorem dX8_land_122 : decode cX8_land 122 = .ok (.aload_n 0, 1) := by decide +kernel
theorem dX8_land_123 : decode cX8_land 123 = .ok (.aload_n 0, 1) := by decide +kernel
theorem dX8_land_124 : decode cX8_land 124 = .ok (.getfield 77, 3) := by decide +kernel
theorem dX8_land_127 : decode cX8_land 127 = .ok (.iconst 1, 1) := by decide +kernel
theorem dX8_land_128 : decode cX8_land 128 = .ok (.isub, 1) := by decide +kernel
theorem dX8_land_129 : decode cX8_land 129 = .ok (.iload_n 2, 1) := by decide +kernel
theorem dX8_land_130 : decode cX8_land 130 = .ok (.iload_n 3, 1) := by decide +kernel
theorem dX8_land_131 : decode cX8_land 131 = .ok (.lload 4, 2) := by decide +kernel
theorem dX8_land_133 : decode cX8_land 133 = .ok (.invokevirtual 148, 3) := by decide +kernel
theorem dX8_land_136 : decode cX8_land 136 = .ok (.aload_n 0, 1) := by decide +kernel
theorem dX8_land_137 : decode cX8_land 137 = .ok (.getfield 77, 3) := by decide +kernel
theorem dX8_land_140 : decode cX8_land 140 = .ok (.iconst 1, 1) := by decide +kernel
theorem dX8_land_141 : decode cX8_land 141 = .ok (.isub, 1) := by decide +kernel
theorem dX8_land_142 : decode cX8_land 142 = .ok (.ireturn, 1) := by decide +kernel
theorem dX8_isLanded_0 : decode cX8_isLanded 0 = .ok (.iconst 0, 1) := by decide +kernel
theorem dX8_isLanded_1 : decode cX8_isLanded 1 = .ok (.istore_n 2, 1) := by decide +kernel
theorem dX8_isLanded_2 : decode cX8_isLanded 2 = .ok (.iconst 0, 1) := by decide +kernel
theorem dX8_isLanded_3 : decode cX8_isLanded 3 = .ok (.istore_n 3, 1) := by decide +kernel
theorem dX8_isLanded_4 : decode cX8_isLanded 4 = .ok (.iload_n 3, 1) := by decide +kernel
theorem dX8_isLanded_5 : decode cX8_isLanded 5 = .ok (.aload_n 0, 1) := by decide +kernel
theorem dX8_isLanded_6 : decode cX8_isLanded 6 = .ok (.getfield 77, 3) := by decide +kernel
theorem dX8_isLanded_9 : decode cX8_isLanded 9 = .ok (.if_icmp .ge 47, 3) := by decide +kernel
theorem dX8_isLanded_12 : decode cX8_isLanded 12 = .ok (.iload_n 2, 1) := by decide +kernel
theorem dX8_isLanded_13 : decode cX8_isLanded 13 = .ok (.ifCond .ne 31, 3) := by decide +kernel
theorem dX8_isLanded_16 : decode cX8_isLanded 16 = .ok (.aload_n 0, 1) := by decide +kernel
theorem dX8_isLanded_17 : decode cX8_isLanded 17 = .ok (.getfield 7, 3) := by decide +kernel
theorem dX8_isLanded_20 : decode cX8_isLanded 20 = .ok (.iload_n 3, 1) := by decide +kernel
theorem dX8_isLanded_21 : decode cX8_isLanded 21 = .ok (.iaload, 1) := by decide +kernel
theorem dX8_isLanded_22 : decode cX8_isLanded 22 = .ok (.iconst 3, 1) := by decide +kernel
theorem dX8_isLanded_23 : decode cX8_isLanded 23 = .ok (.if_icmp .ne 25, 3) := by decide +kernel
theorem dX8_isLanded_26 : decode cX8_isLanded 26 = .ok (.aload_n 0, 1) := by decide +kernel
theorem dX8_isLanded_27 : decode cX8_isLanded 27 = .ok (.getfield 25, 3) := by decide +kernel
theorem dX8_isLanded_30 : decode cX8_isLanded 30 = .ok (.iload_n 3, 1) := by decide +kernel
theorem dX8_isLanded_31 : decode cX8_isLanded 31 = .ok (.baload, 1) := by decide +kernel
theorem dX8_isLanded_32 : decode cX8_isLanded 32 = .ok (.ifCond .ne 16, 3) := by decide +kernel
theorem dX8_isLanded_35 : decode cX8_isLanded 35 = .ok (.aload_n 0, 1) := by decide +kernel
theorem dX8_isLanded_36 : decode cX8_isLanded 36 = .ok (.iload_n 3, 1) := by decide +kernel
theorem dX8_isLanded_37 : decode cX8_isLanded 37 = .ok (.iload_n 1, 1) := by decide +kernel
theorem dX8_isLanded_38 : decode cX8_isLanded 38 = .ok (.invokevirtual 152, 3) := by decide +kernel
theorem dX8_isLanded_41 : decode cX8_isLanded 41 = .ok (.ifCond .eq 7, 3) := by decide +kernel
theorem dX8_isLanded_44 : decode cX8_isLanded 44 = .ok (.iconst 1, 1) := by decide +kernel
theorem dX8_isLanded_45 : decode cX8_isLanded 45 = .ok (.goto 4, 3) := by decide +kernel
theorem dX8_isLanded_48 : decode cX8_isLanded 48 = .ok (.iconst 0, 1) := by decide +kernel
theorem dX8_isLanded_49 : decode cX8_isLanded 49 = .ok (.istore_n 2, 1) := by decide +kernel
theorem dX8_isLanded_50 : decode cX8_isLanded 50 = .ok (.iinc 3 1, 3) := by decide +kernel
theorem dX8_isLanded_53 : decode cX8_isLanded 53 = .ok (.goto (-49), 3) := by decide +kernel
theorem dX8_isLanded_56 : decode cX8_isLanded 56 = .ok (.iload_n 2, 1) := by decide +kernel
theorem dX8_isLanded_57 : decode cX8_isLanded 57 = .ok (.ireturn, 1) := by decide +kernel
theorem dX8_isSpreadOver_0 : decode cX8_isSpreadOver 0 = .ok (.aload_n 0, 1) := by decide +kernel
theorem dX8_isSpreadOver_1 : decode cX8_isSpreadOver 1 = .ok (.getfield 29, 3) := by decide +kernel
theorem dX8_isSpreadOver_4 : decode cX8_isSpreadOver 4 = .ok (.iload_n 1, 1) := by decide +kernel
theorem dX8_isSpreadOver_5 : decode cX8_isSpreadOver 5 = .ok (.laload, 1) := by decide +kernel
theorem dX8_isSpreadOver_6 : decode cX8_isSpreadOver 6 = .ok (.iload_n 2, 1) := by decide +kernel
theorem dX8_isSpreadOver_7 : decode cX8_isSpreadOver 7 = .ok (.invokestatic 123, 3) := by decide +kernel
theorem dX8_isSpreadOver_10 : decode cX8_isSpreadOver 10 = .ok (.ireturn, 1) := by decide +kernel
theorem dX8_cancel_0 : decode cX8_cancel 0 = .ok (.aload_n 0, 1) := by decide +kernel
theorem dX8_cancel_1 : decode cX8_cancel 1 = .ok (.aload_n 0, 1) := by decide +kernel
theorem dX8_cancel_2 : decode cX8_cancel 2 = .ok (.iload_n 1, 1) := by decide +kernel
theorem dX8_cancel_3 : decode cX8_cancel 3 = .ok (.invokevirtual 155, 3) := by decide +kernel
theorem dX8_cancel_6 : decode cX8_cancel 6 = .ok (.ifCond .ne 7, 3) := by decide +kernel
theorem dX8_cancel_9 : decode cX8_cancel 9 = .ok (.iconst 1, 1) := by decide +kernel
theorem dX8_cancel_10 : decode cX8_cancel 10 = .ok (.goto 38, 3) := by decide +kernel
theorem dX8_cancel_13 : decode cX8_cancel 13 = .ok (.aload_n 0, 1) := by decide +kernel
theorem dX8_cancel_14 : decode cX8_cancel 14 = .ok (.getfield 25, 3) := by decide +kernel
theorem dX8_cancel_17 : decode cX8_cancel 17 = .ok (.iload_n 1, 1) := by decide +kernel
theorem dX8_cancel_18 : decode cX8_cancel 18 = .ok (.baload, 1) := by decide +kernel
theorem dX8_cancel_19 : decode cX8_cancel 19 = .ok (.ifCond .ne 24, 3) := by decide +kernel
theorem dX8_cancel_22 : decode cX8_cancel 22 = .ok (.aload_n 0, 1) := by decide +kernel
theorem dX8_cancel_23 : decode cX8_cancel 23 = .ok (.getfield 13, 3) := by decide +kernel
theorem dX8_cancel_26 : decode cX8_cancel 26 = .ok (.iload_n 1, 1) := by decide +kernel
theorem dX8_cancel_27 : decode cX8_cancel 27 = .ok (.iaload, 1) := by decide +kernel
theorem dX8_cancel_28 : decode cX8_cancel 28 = .ok (.aload_n 0, 1) := by decide +kernel
theorem dX8_cancel_29 : decode cX8_cancel 29 = .ok (.getfield 36, 3) := by decide +kernel
theorem dX8_cancel_32 : decode cX8_cancel 32 = .ok (.if_icmp .le 11, 3) := by decide +kernel
theorem dX8_cancel_35 : decode cX8_cancel 35 = .ok (.aload_n 0, 1) := by decide +kernel
theorem dX8_cancel_36 : decode cX8_cancel 36 = .ok (.iload_n 1, 1) := by decide +kernel
theorem dX8_cancel_37 : decode cX8_cancel 37 = .ok (.invokevirtual 158, 3) := by decide +kernel
theorem dX8_cancel_40 : decode cX8_cancel 40 = .ok (.ifCond .eq 7, 3) := by decide +kernel
theorem dX8_cancel_43 : decode cX8_cancel 43 = .ok (.iconst 2, 1) := by decide +kernel
theorem dX8_cancel_44 : decode cX8_cancel 44 = .ok (.goto 4, 3) := by decide +kernel
theorem dX8_cancel_47 : decode cX8_cancel 47 = .ok (.iconst 0, 1) := by decide +kernel
theorem dX8_cancel_48 : decode cX8_cancel 48 = .ok (.invokevirtual 112, 3) := by decide +kernel
theorem dX8_cancel_51 : decode cX8_cancel 51 = .ok (.ifCond .ne 5, 3) := by decide +kernel
theorem dX8_cancel_54 : decode cX8_cancel 54 = .ok (.iconst 0, 1) := by decide +kernel
theorem dX8_cancel_55 : decode cX8_cancel 55 = .ok (.ireturn, 1) := by decide +kernel
theorem dX8_cancel_56 : decode cX8_cancel 56 = .ok (.aload_n 0, 1) := by decide +kernel
theorem dX8_cancel_57 : decode cX8_cancel 57 = .ok (.getfield 25, 3) := by decide +kernel
theorem dX8_cancel_60 : decode cX8_cancel 60 = .ok (.iload_n 1, 1) := by decide +kernel
theorem dX8_cancel_61 : decode cX8_cancel 61 = .ok (.iconst 1, 1) := by decide +kernel
theorem dX8_cancel_62 : decode cX8_cancel 62 = .ok (.bastore, 1) := by decide +kernel
theorem dX8_cancel_63 : decode cX8_cancel 63 = .ok (.aload_n 0, 1) := by decide +kernel
theorem dX8_cancel_64 : decode cX8_cancel 64 = .ok (.aload_n 0, 1) := by decide +kernel
theorem dX8_cancel_65 : decode cX8_cancel 65 = .ok (.aload_n 0, 1) := by decide +kernel
theorem dX8_cancel_66 : decode cX8_cancel 66 = .ok (.getfield 16, 3) := by decide +kernel
theorem dX8_cancel_69 : decode cX8_cancel 69 = .ok (.iload_n 1, 1) := by decide +kernel
theorem dX8_cancel_70 : decode cX8_cancel 70 = .ok (.iaload, 1) := by decide +kernel
theorem dX8_cancel_71 : decode cX8_cancel 71 = .ok (.invokevirtual 94, 3) := by decide +kernel
theorem dX8_cancel_74 : decode cX8_cancel 74 = .ok (.ifCond .eq 7, 3) := by decide +kernel
theorem dX8_cancel_77 : decode cX8_cancel 77 = .ok (.iconst 0, 1) := by decide +kernel
theorem dX8_cancel_78 : decode cX8_cancel 78 = .ok (.goto 4, 3) := by decide +kernel
theorem dX8_cancel_81 : decode cX8_cancel 81 = .ok (.iconst 2, 1) := by decide +kernel
theorem dX8_cancel_82 : decode cX8_cancel 82 = .ok (.invokevirtual 112, 3) := by decide +kernel
theorem dX8_cancel_85 : decode cX8_cancel 85 = .ok (.ifCond .ne 12, 3) := by decide +kernel
theorem dX8_cancel_88 : decode cX8_cancel 88 = .ok (.aload_n 0, 1) := by decide +kernel
theorem dX8_cancel_89 : decode cX8_cancel 89 = .ok (.getfield 25, 3) := by decide +kernel
theorem dX8_cancel_92 : decode cX8_cancel 92 = .ok (.iload_n 1, 1) := by decide +kernel
theorem dX8_cancel_93 : decode cX8_cancel 93 = .ok (.iconst 0, 1) := by decide +kernel
theorem dX8_cancel_94 : decode cX8_cancel 94 = .ok (.bastore, 1) := by decide +kernel
theorem dX8_cancel_95 : decode cX8_cancel 95 = .ok (.iconst 0, 1) := by decide +kernel
theorem dX8_cancel_96 : decode cX8_cancel 96 = .ok (.ireturn, 1) := by decide +kernel
theorem dX8_cancel_97 : decode cX8_cancel 97 = .ok (.aload_n 0, 1) := by decide +kernel
theorem dX8_cancel_98 : decode cX8_cancel 98 = .ok (.getfield 80, 3) := by decide +kernel
theorem dX8_cancel_101 : decode cX8_cancel 101 = .ok (.ireturn, 1) := by decide +kernel
theorem dX8_close_0 : decode cX8_close 0 = .ok (.aload_n 0, 1) := by decide +kernel
theorem dX8_close_1 : decode cX8_close 1 = .ok (.iload_n 1, 1) := by decide +kernel
theorem dX8_close_2 : decode cX8_close 2 = .ok (.invokestatic 98, 3) := by decide +kernel
theorem dX8_close_5 : decode cX8_close 5 = .ok (.ifCond .ne 7, 3) := by decide +kernel
theorem dX8_close_8 : decode cX8_close 8 = .ok (.iconst 1, 1) := by decide +kernel
theorem dX8_close_9 : decode cX8_close 9 = .ok (.goto 16, 3) := by decide +kernel
theorem dX8_close_12 : decode cX8_close 12 = .ok (.iload_n 1, 1) := by decide +kernel
theorem dX8_close_13 : decode cX8_close 13 = .ok (.aload_n 0, 1) := by decide +kernel
theorem dX8_close_14 : decode cX8_close 14 = .ok (.getfield 36, 3) := by decide +kernel
theorem dX8_close_17 : decode cX8_close 17 = .ok (.if_icmp .gt 7, 3) := by decide +kernel
theorem dX8_close_20 : decode cX8_close 20 = .ok (.iconst 2, 1) := by decide +kernel
theorem dX8_close_21 : decode cX8_close 21 = .ok (.goto 4, 3) := by decide +kernel
theorem dX8_close_24 : decode cX8_close 24 = .ok (.iconst 0, 1) := by decide +kernel
theorem dX8_close_25 : decode cX8_close 25 = .ok (.invokevirtual 112, 3) := by decide +kernel
theorem dX8_close_28 : decode cX8_close 28 = .ok (.ifCond .ne 5, 3) := by decide +kernel
theorem dX8_close_31 : decode cX8_close 31 = .ok (.iconst 0, 1) := by decide +kernel
theorem dX8_close_32 : decode cX8_close 32 = .ok (.ireturn, 1) := by decide +kernel
theorem dX8_close_33 : decode cX8_close 33 = .ok (.aload_n 0, 1) := by decide +kernel
theorem dX8_close_34 : decode cX8_close 34 = .ok (.getfield 36, 3) := by decide +kernel
theorem dX8_close_37 : decode cX8_close 37 = .ok (.istore_n 2, 1) := by decide +kernel
theorem dX8_close_38 : decode cX8_close 38 = .ok (.aload_n 0, 1) := by decide +kernel
theorem dX8_close_39 : decode cX8_close 39 = .ok (.iload_n 1, 1) := by decide +kernel
theorem dX8_close_40 : decode cX8_close 40 = .ok (.putfield 36, 3) := by decide +kernel
theorem dX8_close_43 : decode cX8_close 43 = .ok (.iload_n 2, 1) := by decide +kernel
theorem dX8_close_44 : decode cX8_close 44 = .ok (.ireturn, 1) := by decide +kernel
theorem dX8_setWeight_0 : decode cX8_setWeight 0 = .ok (.aload_n 0, 1) := by decide +kernel
theorem dX8_setWeight_1 : decode cX8_setWeight 1 = .ok (.iload_n 1, 1) := by decide +kernel
theorem dX8_setWeight_2 : decode cX8_setWeight 2 = .ok (.invokestatic 101, 3) := by decide +kernel
theorem dX8_setWeight_5 : decode cX8_setWeight 5 = .ok (.ifCond .eq 17, 3) := by decide +kernel
theorem dX8_setWeight_8 : decode cX8_setWeight 8 = .ok (.iload_n 2, 1) := by decide +kernel
theorem dX8_setWeight_9 : decode cX8_setWeight 9 = .ok (.iconst 1, 1) := by decide +kernel
theorem dX8_setWeight_10 : decode cX8_setWeight 10 = .ok (.bipush 100, 2) := by decide +kernel
theorem dX8_setWeight_12 : decode cX8_setWeight 12 = .ok (.invokestatic 73, 3) := by decide +kernel
theorem dX8_setWeight_15 : decode cX8_setWeight 15 = .ok (.ifCond .eq 7, 3) := by decide +kernel
theorem dX8_setWeight_18 : decode cX8_setWeight 18 = .ok (.iconst 0, 1) := by decide +kernel
theorem dX8_setWeight_19 : decode cX8_setWeight 19 = .ok (.goto 4, 3) := by decide +kernel
theorem dX8_setWeight_22 : decode cX8_setWeight 22 = .ok (.iconst 1, 1) := by decide +kernel
theorem dX8_setWeight_23 : decode cX8_setWeight 23 = .ok (.invokevirtual 112, 3) := by decide +kernel
theorem dX8_setWeight_26 : decode cX8_setWeight 26 = .ok (.ifCond .ne 5, 3) := by decide +kernel
theorem dX8_setWeight_29 : decode cX8_setWeight 29 = .ok (.iconst 0, 1) := by decide +kernel
theorem dX8_setWeight_30 : decode cX8_setWeight 30 = .ok (.ireturn, 1) := by decide +kernel
theorem dX8_setWeight_31 : decode cX8_setWeight 31 = .ok (.aload_n 0, 1) := by decide +kernel
theorem dX8_setWeight_32 : decode cX8_setWeight 32 = .ok (.getfield 40, 3) := by decide +kernel
theorem dX8_setWeight_35 : decode cX8_setWeight 35 = .ok (.iload_n 1, 1) := by decide +kernel
theorem dX8_setWeight_36 : decode cX8_setWeight 36 = .ok (.iaload, 1) := by decide +kernel
theorem dX8_setWeight_37 : decode cX8_setWeight 37 = .ok (.istore_n 3, 1) := by decide +kernel
theorem dX8_setWeight_38 : decode cX8_setWeight 38 = .ok (.aload_n 0, 1) := by decide +kernel
theorem dX8_setWeight_39 : decode cX8_setWeight 39 = .ok (.getfield 40, 3) := by decide +kernel
theorem dX8_setWeight_42 : decode cX8_setWeight 42 = .ok (.iload_n 1, 1) := by decide +kernel
theorem dX8_setWeight_43 : decode cX8_setWeight 43 = .ok (.iload_n 2, 1) := by decide +kernel
theorem dX8_setWeight_44 : decode cX8_setWeight 44 = .ok (.iastore, 1) := by decide +kernel
theorem dX8_setWeight_45 : decode cX8_setWeight 45 = .ok (.iload_n 3, 1) := by decide +kernel
theorem dX8_setWeight_46 : decode cX8_setWeight 46 = .ok (.ireturn, 1) := by decide +kernel
theorem dX8_movements_0 : decode cX8_movements 0 = .ok (.aload_n 0, 1) := by decide +kernel
theorem dX8_movements_1 : decode cX8_movements 1 = .ok (.iconst 0, 1) := by decide +kernel
theorem dX8_movements_2 : decode cX8_movements 2 = .ok (.putfield 70, 3) := by decide +kernel
theorem dX8_movements_5 : decode cX8_movements 5 = .ok (.aload_n 0, 1) := by decide +kernel
theorem dX8_movements_6 : decode cX8_movements 6 = .ok (.getfield 77, 3) := by decide +kernel
theorem dX8_movements_9 : decode cX8_movements 9 = .ok (.ireturn, 1) := by decide +kernel
theorem dX8_kindOf_0 : decode cX8_kindOf 0 = .ok (.aload_n 0, 1) := by decide +kernel
theorem dX8_kindOf_1 : decode cX8_kindOf 1 = .ok (.aload_n 0, 1) := by decide +kernel
theorem dX8_kindOf_2 : decode cX8_kindOf 2 = .ok (.iload_n 1, 1) := by decide +kernel
theorem dX8_kindOf_3 : decode cX8_kindOf 3 = .ok (.invokevirtual 155, 3) := by decide +kernel
theorem dX8_kindOf_6 : decode cX8_kindOf 6 = .ok (.ifCond .eq 7, 3) := by decide +kernel
theorem dX8_kindOf_9 : decode cX8_kindOf 9 = .ok (.iconst 0, 1) := by decide +kernel
theorem dX8_kindOf_10 : decode cX8_kindOf 10 = .ok (.goto 4, 3) := by decide +kernel
theorem dX8_kindOf_13 : decode cX8_kindOf 13 = .ok (.iconst 1, 1) := by decide +kernel
theorem dX8_kindOf_14 : decode cX8_kindOf 14 = .ok (.invokevirtual 112, 3) := by decide +kernel
theorem dX8_kindOf_17 : decode cX8_kindOf 17 = .ok (.ifCond .eq 12, 3) := by decide +kernel
theorem dX8_kindOf_20 : decode cX8_kindOf 20 = .ok (.aload_n 0, 1) := by decide +kernel
theorem dX8_kindOf_21 : decode cX8_kindOf 21 = .ok (.getfield 7, 3) := by decide +kernel
theorem dX8_kindOf_24 : decode cX8_kindOf 24 = .ok (.iload_n 1, 1) := by decide +kernel
theorem dX8_kindOf_25 : decode cX8_kindOf 25 = .ok (.iaload, 1) := by decide +kernel
theorem dX8_kindOf_26 : decode cX8_kindOf 26 = .ok (.goto 4, 3) := by decide +kernel
theorem dX8_kindOf_29 : decode cX8_kindOf 29 = .ok (.iconst 0, 1) := by decide +kernel
theorem dX8_kindOf_30 : decode cX8_kindOf 30 = .ok (.ireturn, 1) := by decide +kernel
theorem dX8_dayOf_0 : decode cX8_dayOf 0 = .ok (.aload_n 0, 1) := by decide +kernel
theorem dX8_dayOf_1 : decode cX8_dayOf 1 = .ok (.aload_n 0, 1) := by decide +kernel
theorem dX8_dayOf_2 : decode cX8_dayOf 2 = .ok (.iload_n 1, 1) := by decide +kernel
theorem dX8_dayOf_3 : decode cX8_dayOf 3 = .ok (.invokevirtual 155, 3) := by decide +kernel
theorem dX8_dayOf_6 : decode cX8_dayOf 6 = .ok (.ifCond .eq 7, 3) := by decide +kernel
theorem dX8_dayOf_9 : decode cX8_dayOf 9 = .ok (.iconst 0, 1) := by decide +kernel
theorem dX8_dayOf_10 : decode cX8_dayOf 10 = .ok (.goto 4, 3) := by decide +kernel
theorem dX8_dayOf_13 : decode cX8_dayOf 13 = .ok (.iconst 1, 1) := by decide +kernel
theorem dX8_dayOf_14 : decode cX8_dayOf 14 = .ok (.invokevirtual 112, 3) := by decide +kernel
theorem dX8_dayOf_17 : decode cX8_dayOf 17 = .ok (.ifCond .eq 12, 3) := by decide +kernel
theorem dX8_dayOf_20 : decode cX8_dayOf 20 = .ok (.aload_n 0, 1) := by decide +kernel
theorem dX8_dayOf_21 : decode cX8_dayOf 21 = .ok (.getfield 13, 3) := by decide +kernel
theorem dX8_dayOf_24 : decode cX8_dayOf 24 = .ok (.iload_n 1, 1) := by decide +kernel
theorem dX8_dayOf_25 : decode cX8_dayOf 25 = .ok (.iaload, 1) := by decide +kernel
theorem dX8_dayOf_26 : decode cX8_dayOf 26 = .ok (.goto 4, 3) := by decide +kernel
theorem dX8_dayOf_29 : decode cX8_dayOf 29 = .ok (.iconst 0, 1) := by decide +kernel
theorem dX8_dayOf_30 : decode cX8_dayOf 30 = .ok (.ireturn, 1) := by decide +kernel
theorem dX8_isCancelled_0 : decode cX8_isCancelled 0 = .ok (.aload_n 0, 1) := by decide +kernel
theorem dX8_isCancelled_1 : decode cX8_isCancelled 1 = .ok (.aload_n 0, 1) := by decide +kernel
theorem dX8_isCancelled_2 : decode cX8_isCancelled 2 = .ok (.iload_n 1, 1) := by decide +kernel
theorem dX8_isCancelled_3 : decode cX8_isCancelled 3 = .ok (.invokevirtual 155, 3) := by decide +kernel
theorem dX8_isCancelled_6 : decode cX8_isCancelled 6 = .ok (.ifCond .eq 7, 3) := by decide +kernel
theorem dX8_isCancelled_9 : decode cX8_isCancelled 9 = .ok (.iconst 0, 1) := by decide +kernel
theorem dX8_isCancelled_10 : decode cX8_isCancelled 10 = .ok (.goto 4, 3) := by decide +kernel
theorem dX8_isCancelled_13 : decode cX8_isCancelled 13 = .ok (.iconst 1, 1) := by decide +kernel
theorem dX8_isCancelled_14 : decode cX8_isCancelled 14 = .ok (.invokevirtual 112, 3) := by decide +kernel
theorem dX8_isCancelled_17 : decode cX8_isCancelled 17 = .ok (.ifCond .eq 16, 3) := by decide +kernel
theorem dX8_isCancelled_20 : decode cX8_isCancelled 20 = .ok (.aload_n 0, 1) := by decide +kernel
theorem dX8_isCancelled_21 : decode cX8_isCancelled 21 = .ok (.getfield 25, 3) := by decide +kernel
theorem dX8_isCancelled_24 : decode cX8_isCancelled 24 = .ok (.iload_n 1, 1) := by decide +kernel
theorem dX8_isCancelled_25 : decode cX8_isCancelled 25 = .ok (.baload, 1) := by decide +kernel
theorem dX8_isCancelled_26 : decode cX8_isCancelled 26 = .ok (.ifCond .eq 7, 3) := by decide +kernel
theorem dX8_isCancelled_29 : decode cX8_isCancelled 29 = .ok (.iconst 1, 1) := by decide +kernel
theorem dX8_isCancelled_30 : decode cX8_isCancelled 30 = .ok (.goto 4, 3) := by decide +kernel
theorem dX8_isCancelled_33 : decode cX8_isCancelled 33 = .ok (.iconst 0, 1) := by decide +kernel
theorem dX8_isCancelled_34 : decode cX8_isCancelled 34 = .ok (.ireturn, 1) := by decide +kernel
theorem dX8_placeOf_0 : decode cX8_placeOf 0 = .ok (.iconst (-1), 1) := by decide +kernel
theorem dX8_placeOf_1 : decode cX8_placeOf 1 = .ok (.istore_n 2, 1) := by decide +kernel
theorem dX8_placeOf_2 : decode cX8_placeOf 2 = .ok (.aload_n 0, 1) := by decide +kernel
theorem dX8_placeOf_3 : decode cX8_placeOf 3 = .ok (.aload_n 0, 1) := by decide +kernel
theorem dX8_placeOf_4 : decode cX8_placeOf 4 = .ok (.iload_n 1, 1) := by decide +kernel
theorem dX8_placeOf_5 : decode cX8_placeOf 5 = .ok (.invokevirtual 155, 3) := by decide +kernel
theorem dX8_placeOf_8 : decode cX8_placeOf 8 = .ok (.ifCond .eq 7, 3) := by decide +kernel
theorem dX8_placeOf_11 : decode cX8_placeOf 11 = .ok (.iconst 0, 1) := by decide +kernel
theorem dX8_placeOf_12 : decode cX8_placeOf 12 = .ok (.goto 4, 3) := by decide +kernel
theorem dX8_placeOf_15 : decode cX8_placeOf 15 = .ok (.iconst 1, 1) := by decide +kernel
theorem dX8_placeOf_16 : decode cX8_placeOf 16 = .ok (.invokevirtual 112, 3) := by decide +kernel
theorem dX8_placeOf_19 : decode cX8_placeOf 19 = .ok (.istore_n 3, 1) := by decide +kernel
theorem dX8_placeOf_20 : decode cX8_placeOf 20 = .ok (.aload_n 0, 1) := by decide +kernel
theorem dX8_placeOf_21 : decode cX8_placeOf 21 = .ok (.invokevirtual 83, 3) := by decide +kernel
theorem dX8_placeOf_24 : decode cX8_placeOf 24 = .ok (.iconst 0, 1) := by decide +kernel
theorem dX8_placeOf_25 : decode cX8_placeOf 25 = .ok (.istore 4, 2) := by decide +kernel
theorem dX8_placeOf_27 : decode cX8_placeOf 27 = .ok (.iload 4, 2) := by decide +kernel
theorem dX8_placeOf_29 : decode cX8_placeOf 29 = .ok (.aload_n 0, 1) := by decide +kernel
theorem dX8_placeOf_30 : decode cX8_placeOf 30 = .ok (.getfield 80, 3) := by decide +kernel
theorem dX8_placeOf_33 : decode cX8_placeOf 33 = .ok (.if_icmp .ge 27, 3) := by decide +kernel
theorem dX8_placeOf_36 : decode cX8_placeOf 36 = .ok (.aload_n 0, 1) := by decide +kernel
theorem dX8_placeOf_37 : decode cX8_placeOf 37 = .ok (.getfield 43, 3) := by decide +kernel
theorem dX8_placeOf_40 : decode cX8_placeOf 40 = .ok (.iload 4, 2) := by decide +kernel
theorem dX8_placeOf_42 : decode cX8_placeOf 42 = .ok (.iaload, 1) := by decide +kernel
theorem dX8_placeOf_43 : decode cX8_placeOf 43 = .ok (.iload_n 1, 1) := by decide +kernel
theorem dX8_placeOf_44 : decode cX8_placeOf 44 = .ok (.if_icmp .ne 8, 3) := by decide +kernel
theorem dX8_placeOf_47 : decode cX8_placeOf 47 = .ok (.iload 4, 2) := by decide +kernel
theorem dX8_placeOf_49 : decode cX8_placeOf 49 = .ok (.goto 4, 3) := by decide +kernel
theorem dX8_placeOf_52 : decode cX8_placeOf 52 = .ok (.iload_n 2, 1) := by decide +kernel
theorem dX8_placeOf_53 : decode cX8_placeOf 53 = .ok (.istore_n 2, 1) := by decide +kernel
theorem dX8_placeOf_54 : decode cX8_placeOf 54 = .ok (.iinc 4 1, 3) := by decide +kernel
theorem dX8_placeOf_57 : decode cX8_placeOf 57 = .ok (.goto (-30), 3) := by decide +kernel
theorem dX8_placeOf_60 : decode cX8_placeOf 60 = .ok (.iload_n 3, 1) := by decide +kernel
theorem dX8_placeOf_61 : decode cX8_placeOf 61 = .ok (.ifCond .eq 7, 3) := by decide +kernel
theorem dX8_placeOf_64 : decode cX8_placeOf 64 = .ok (.iload_n 2, 1) := by decide +kernel
theorem dX8_placeOf_65 : decode cX8_placeOf 65 = .ok (.goto 4, 3) := by decide +kernel
theorem dX8_placeOf_68 : decode cX8_placeOf 68 = .ok (.iconst 0, 1) := by decide +kernel
theorem dX8_placeOf_69 : decode cX8_placeOf 69 = .ok (.ireturn, 1) := by decide +kernel
theorem dX8_partOf_0 : decode cX8_partOf 0 = .ok (.aload_n 0, 1) := by decide +kernel
theorem dX8_partOf_1 : decode cX8_partOf 1 = .ok (.aload_n 0, 1) := by decide +kernel
theorem dX8_partOf_2 : decode cX8_partOf 2 = .ok (.iload_n 1, 1) := by decide +kernel
theorem dX8_partOf_3 : decode cX8_partOf 3 = .ok (.invokevirtual 155, 3) := by decide +kernel
theorem dX8_partOf_6 : decode cX8_partOf 6 = .ok (.ifCond .eq 11, 3) := by decide +kernel
theorem dX8_partOf_9 : decode cX8_partOf 9 = .ok (.aload_n 0, 1) := by decide +kernel
theorem dX8_partOf_10 : decode cX8_partOf 10 = .ok (.iload_n 2, 1) := by decide +kernel
theorem dX8_partOf_11 : decode cX8_partOf 11 = .ok (.invokevirtual 155, 3) := by decide +kernel
theorem dX8_partOf_14 : decode cX8_partOf 14 = .ok (.ifCond .ne 7, 3) := by decide +kernel
theorem dX8_partOf_17 : decode cX8_partOf 17 = .ok (.iconst 1, 1) := by decide +kernel
theorem dX8_partOf_18 : decode cX8_partOf 18 = .ok (.goto 18, 3) := by decide +kernel
theorem dX8_partOf_21 : decode cX8_partOf 21 = .ok (.aload_n 0, 1) := by decide +kernel
theorem dX8_partOf_22 : decode cX8_partOf 22 = .ok (.getfield 7, 3) := by decide +kernel
theorem dX8_partOf_25 : decode cX8_partOf 25 = .ok (.iload_n 1, 1) := by decide +kernel
theorem dX8_partOf_26 : decode cX8_partOf 26 = .ok (.iaload, 1) := by decide +kernel
theorem dX8_partOf_27 : decode cX8_partOf 27 = .ok (.iconst 3, 1) := by decide +kernel
theorem dX8_partOf_28 : decode cX8_partOf 28 = .ok (.if_icmp .eq 7, 3) := by decide +kernel
theorem dX8_partOf_31 : decode cX8_partOf 31 = .ok (.iconst 2, 1) := by decide +kernel
theorem dX8_partOf_32 : decode cX8_partOf 32 = .ok (.goto 4, 3) := by decide +kernel
theorem dX8_partOf_35 : decode cX8_partOf 35 = .ok (.iconst 0, 1) := by decide +kernel
theorem dX8_partOf_36 : decode cX8_partOf 36 = .ok (.invokevirtual 112, 3) := by decide +kernel
theorem dX8_partOf_39 : decode cX8_partOf 39 = .ok (.istore_n 3, 1) := by decide +kernel
theorem dX8_partOf_40 : decode cX8_partOf 40 = .ok (.iload_n 3, 1) := by decide +kernel
theorem dX8_partOf_41 : decode cX8_partOf 41 = .ok (.ifCond .eq 17, 3) := by decide +kernel
theorem dX8_partOf_44 : decode cX8_partOf 44 = .ok (.aload_n 0, 1) := by decide +kernel
theorem dX8_partOf_45 : decode cX8_partOf 45 = .ok (.getfield 33, 3) := by decide +kernel
theorem dX8_partOf_48 : decode cX8_partOf 48 = .ok (.bipush 60, 2) := by decide +kernel
theorem dX8_partOf_50 : decode cX8_partOf 50 = .ok (.iload_n 1, 1) := by decide +kernel
theorem dX8_partOf_51 : decode cX8_partOf 51 = .ok (.imul, 1) := by decide +kernel
theorem dX8_partOf_52 : decode cX8_partOf 52 = .ok (.iload_n 2, 1) := by decide +kernel
theorem dX8_partOf_53 : decode cX8_partOf 53 = .ok (.iadd, 1) := by decide +kernel
theorem dX8_partOf_54 : decode cX8_partOf 54 = .ok (.iaload, 1) := by decide +kernel
theorem dX8_partOf_55 : decode cX8_partOf 55 = .ok (.goto 4, 3) := by decide +kernel
theorem dX8_partOf_58 : decode cX8_partOf 58 = .ok (.iconst 0, 1) := by decide +kernel
theorem dX8_partOf_59 : decode cX8_partOf 59 = .ok (.ireturn, 1) := by decide +kernel
theorem dX8_drops_0 : decode cX8_drops 0 = .ok (.aload_n 0, 1) := by decide +kernel
theorem dX8_drops_1 : decode cX8_drops 1 = .ok (.dup, 1) := by decide +kernel
theorem dX8_drops_2 : decode cX8_drops 2 = .ok (.getfield 161, 3) := by decide +kernel
theorem dX8_drops_5 : decode cX8_drops 5 = .ok (.iconst 1, 1) := by decide +kernel
theorem dX8_drops_6 : decode cX8_drops 6 = .ok (.isub, 1) := by decide +kernel
theorem dX8_drops_7 : decode cX8_drops 7 = .ok (.putfield 161, 3) := by decide +kernel
theorem dX8_drops_10 : decode cX8_drops 10 = .ok (.iconst 0, 1) := by decide +kernel
theorem dX8_drops_11 : decode cX8_drops 11 = .ok (.istore_n 1, 1) := by decide +kernel
theorem dX8_drops_12 : decode cX8_drops 12 = .ok (.iload_n 1, 1) := by decide +kernel
theorem dX8_drops_13 : decode cX8_drops 13 = .ok (.aload_n 0, 1) := by decide +kernel
theorem dX8_drops_14 : decode cX8_drops 14 = .ok (.getfield 161, 3) := by decide +kernel
theorem dX8_drops_17 : decode cX8_drops 17 = .ok (.if_icmp .ge 51, 3) := by decide +kernel
theorem dX8_drops_20 : decode cX8_drops 20 = .ok (.aload_n 0, 1) := by decide +kernel
theorem dX8_drops_21 : decode cX8_drops 21 = .ok (.getfield 58, 3) := by decide +kernel
theorem dX8_drops_24 : decode cX8_drops 24 = .ok (.iload_n 1, 1) := by decide +kernel
theorem dX8_drops_25 : decode cX8_drops 25 = .ok (.aload_n 0, 1) := by decide +kernel
theorem dX8_drops_26 : decode cX8_drops 26 = .ok (.getfield 58, 3) := by decide +kernel
theorem dX8_drops_29 : decode cX8_drops 29 = .ok (.iload_n 1, 1) := by decide +kernel
theorem dX8_drops_30 : decode cX8_drops 30 = .ok (.iconst 1, 1) := by decide +kernel
theorem dX8_drops_31 : decode cX8_drops 31 = .ok (.iadd, 1) := by decide +kernel
theorem dX8_drops_32 : decode cX8_drops 32 = .ok (.iaload, 1) := by decide +kernel
theorem dX8_drops_33 : decode cX8_drops 33 = .ok (.iastore, 1) := by decide +kernel
theorem dX8_drops_34 : decode cX8_drops 34 = .ok (.aload_n 0, 1) := by decide +kernel
theorem dX8_drops_35 : decode cX8_drops 35 = .ok (.getfield 61, 3) := by decide +kernel
theorem dX8_drops_38 : decode cX8_drops 38 = .ok (.iload_n 1, 1) := by decide +kernel
theorem dX8_drops_39 : decode cX8_drops 39 = .ok (.aload_n 0, 1) := by decide +kernel
theorem dX8_drops_40 : decode cX8_drops 40 = .ok (.getfield 61, 3) := by decide +kernel
theorem dX8_drops_43 : decode cX8_drops 43 = .ok (.iload_n 1, 1) := by decide +kernel
theorem dX8_drops_44 : decode cX8_drops 44 = .ok (.iconst 1, 1) := by decide +kernel
theorem dX8_drops_45 : decode cX8_drops 45 = .ok (.iadd, 1) := by decide +kernel
theorem dX8_drops_46 : decode cX8_drops 46 = .ok (.laload, 1) := by decide +kernel
theorem dX8_drops_47 : decode cX8_drops 47 = .ok (.lastore, 1) := by decide +kernel
theorem dX8_drops_48 : decode cX8_drops 48 = .ok (.aload_n 0, 1) := by decide +kernel
theorem dX8_drops_49 : decode cX8_drops 49 = .ok (.getfield 64, 3) := by decide +kernel
theorem dX8_drops_52 : decode cX8_drops 52 = .ok (.iload_n 1, 1) := by decide +kernel
theorem dX8_drops_53 : decode cX8_drops 53 = .ok (.aload_n 0, 1) := by decide +kernel
theorem dX8_drops_54 : decode cX8_drops 54 = .ok (.getfield 64, 3) := by decide +kernel
theorem dX8_drops_57 : decode cX8_drops 57 = .ok (.iload_n 1, 1) := by decide +kernel
theorem dX8_drops_58 : decode cX8_drops 58 = .ok (.iconst 1, 1) := by decide +kernel
theorem dX8_drops_59 : decode cX8_drops 59 = .ok (.iadd, 1) := by decide +kernel
theorem dX8_drops_60 : decode cX8_drops 60 = .ok (.iaload, 1) := by decide +kernel
theorem dX8_drops_61 : decode cX8_drops 61 = .ok (.iastore, 1) := by decide +kernel
theorem dX8_drops_62 : decode cX8_drops 62 = .ok (.iinc 1 1, 3) := by decide +kernel
theorem dX8_drops_65 : decode cX8_drops 65 = .ok (.goto (-53), 3) := by decide +kernel
theorem dX8_drops_68 : decode cX8_drops 68 = .ok (.return_, 1) := by decide +kernel
theorem dX8_takes_0 : decode cX8_takes 0 = .ok (.lconst 0, 1) := by decide +kernel
theorem dX8_takes_1 : decode cX8_takes 1 = .ok (.lstore_n 2, 1) := by decide +kernel
theorem dX8_takes_2 : decode cX8_takes 2 = .ok (.iload_n 1, 1) := by decide +kernel
theorem dX8_takes_3 : decode cX8_takes 3 = .ok (.istore 4, 2) := by decide +kernel
theorem dX8_takes_5 : decode cX8_takes 5 = .ok (.iload 4, 2) := by decide +kernel
theorem dX8_takes_7 : decode cX8_takes 7 = .ok (.ifCond .le 97, 3) := by decide +kernel
theorem dX8_takes_10 : decode cX8_takes 10 = .ok (.aload_n 0, 1) := by decide +kernel
theorem dX8_takes_11 : decode cX8_takes 11 = .ok (.getfield 58, 3) := by decide +kernel
theorem dX8_takes_14 : decode cX8_takes 14 = .ok (.iconst 0, 1) := by decide +kernel
theorem dX8_takes_15 : decode cX8_takes 15 = .ok (.iaload, 1) := by decide +kernel
theorem dX8_takes_16 : decode cX8_takes 16 = .ok (.iload 4, 2) := by decide +kernel
theorem dX8_takes_18 : decode cX8_takes 18 = .ok (.if_icmp .ge 12, 3) := by decide +kernel
theorem dX8_takes_21 : decode cX8_takes 21 = .ok (.aload_n 0, 1) := by decide +kernel
theorem dX8_takes_22 : decode cX8_takes 22 = .ok (.getfield 58, 3) := by decide +kernel
theorem dX8_takes_25 : decode cX8_takes 25 = .ok (.iconst 0, 1) := by decide +kernel
theorem dX8_takes_26 : decode cX8_takes 26 = .ok (.iaload, 1) := by decide +kernel
theorem dX8_takes_27 : decode cX8_takes 27 = .ok (.goto 5, 3) := by decide +kernel
theorem dX8_takes_30 : decode cX8_takes 30 = .ok (.iload 4, 2) := by decide +kernel
theorem dX8_takes_32 : decode cX8_takes 32 = .ok (.istore 5, 2) := by decide +kernel
theorem dX8_takes_34 : decode cX8_takes 34 = .ok (.aload_n 0, 1) := by decide +kernel
theorem dX8_takes_35 : decode cX8_takes 35 = .ok (.getfield 61, 3) := by decide +kernel
theorem dX8_takes_38 : decode cX8_takes 38 = .ok (.iconst 0, 1) := by decide +kernel
theorem dX8_takes_39 : decode cX8_takes 39 = .ok (.laload, 1) := by decide +kernel
theorem dX8_takes_40 : decode cX8_takes 40 = .ok (.iload 5, 2) := by decide +kernel
theorem dX8_takes_42 : decode cX8_takes 42 = .ok (.i2l, 1) := by decide +kernel
theorem dX8_takes_43 : decode cX8_takes 43 = .ok (.lmul, 1) := by decide +kernel
theorem dX8_takes_44 : decode cX8_takes 44 = .ok (.aload_n 0, 1) := by decide +kernel
theorem dX8_takes_45 : decode cX8_takes 45 = .ok (.getfield 58, 3) := by decide +kernel
theorem dX8_takes_48 : decode cX8_takes 48 = .ok (.iconst 0, 1) := by decide +kernel
theorem dX8_takes_49 : decode cX8_takes 49 = .ok (.iaload, 1) := by decide +kernel
theorem dX8_takes_50 : decode cX8_takes 50 = .ok (.i2l, 1) := by decide +kernel
theorem dX8_takes_51 : decode cX8_takes 51 = .ok (.ldiv, 1) := by decide +kernel
theorem dX8_takes_52 : decode cX8_takes 52 = .ok (.lstore 6, 2) := by decide +kernel
theorem dX8_takes_54 : decode cX8_takes 54 = .ok (.lload_n 2, 1) := by decide +kernel
theorem dX8_takes_55 : decode cX8_takes 55 = .ok (.lload 6, 2) := by decide +kernel
theorem dX8_takes_57 : decode cX8_takes 57 = .ok (.ladd, 1) := by decide +kernel
theorem dX8_takes_58 : decode cX8_takes 58 = .ok (.lstore_n 2, 1) := by decide +kernel
theorem dX8_takes_59 : decode cX8_takes 59 = .ok (.iload 4, 2) := by decide +kernel
theorem dX8_takes_61 : decode cX8_takes 61 = .ok (.iload 5, 2) := by decide +kernel
theorem dX8_takes_63 : decode cX8_takes 63 = .ok (.isub, 1) := by decide +kernel
theorem dX8_takes_64 : decode cX8_takes 64 = .ok (.istore 4, 2) := by decide +kernel
theorem dX8_takes_66 : decode cX8_takes 66 = .ok (.aload_n 0, 1) := by decide +kernel
theorem dX8_takes_67 : decode cX8_takes 67 = .ok (.getfield 61, 3) := by decide +kernel
theorem dX8_takes_70 : decode cX8_takes 70 = .ok (.iconst 0, 1) := by decide +kernel
theorem dX8_takes_71 : decode cX8_takes 71 = .ok (.dup2, 1) := by decide +kernel
theorem dX8_takes_72 : decode cX8_takes 72 = .ok (.laload, 1) := by decide +kernel
theorem dX8_takes_73 : decode cX8_takes 73 = .ok (.lload 6, 2) := by decide +kernel
theorem dX8_takes_75 : decode cX8_takes 75 = .ok (.lsub, 1) := by decide +kernel
theorem dX8_takes_76 : decode cX8_takes 76 = .ok (.lastore, 1) := by decide +kernel
theorem dX8_takes_77 : decode cX8_takes 77 = .ok (.aload_n 0, 1) := by decide +kernel
theorem dX8_takes_78 : decode cX8_takes 78 = .ok (.getfield 58, 3) := by decide +kernel
theorem dX8_takes_81 : decode cX8_takes 81 = .ok (.iconst 0, 1) := by decide +kernel
theorem dX8_takes_82 : decode cX8_takes 82 = .ok (.dup2, 1) := by decide +kernel
theorem dX8_takes_83 : decode cX8_takes 83 = .ok (.iaload, 1) := by decide +kernel
theorem dX8_takes_84 : decode cX8_takes 84 = .ok (.iload 5, 2) := by decide +kernel
theorem dX8_takes_86 : decode cX8_takes 86 = .ok (.isub, 1) := by decide +kernel
theorem dX8_takes_87 : decode cX8_takes 87 = .ok (.iastore, 1) := by decide +kernel
theorem dX8_takes_88 : decode cX8_takes 88 = .ok (.aload_n 0, 1) := by decide +kernel
theorem dX8_takes_89 : decode cX8_takes 89 = .ok (.getfield 58, 3) := by decide +kernel
theorem dX8_takes_92 : decode cX8_takes 92 = .ok (.iconst 0, 1) := by decide +kernel
theorem dX8_takes_93 : decode cX8_takes 93 = .ok (.iaload, 1) := by decide +kernel
theorem dX8_takes_94 : decode cX8_takes 94 = .ok (.ifCond .ne 7, 3) := by decide +kernel
theorem dX8_takes_97 : decode cX8_takes 97 = .ok (.aload_n 0, 1) := by decide +kernel
theorem dX8_takes_98 : decode cX8_takes 98 = .ok (.invokevirtual 164, 3) := by decide +kernel
theorem dX8_takes_101 : decode cX8_takes 101 = .ok (.goto (-96), 3) := by decide +kernel
theorem dX8_takes_104 : decode cX8_takes 104 = .ok (.lload_n 2, 1) := by decide +kernel
theorem dX8_takes_105 : decode cX8_takes 105 = .ok (.lreturn, 1) := by decide +kernel
theorem dX8_lays_0 : decode cX8_lays 0 = .ok (.aload_n 0, 1) := by decide +kernel
theorem dX8_lays_1 : decode cX8_lays 1 = .ok (.getfield 161, 3) := by decide +kernel
theorem dX8_lays_4 : decode cX8_lays 4 = .ok (.istore_n 3, 1) := by decide +kernel
theorem dX8_lays_5 : decode cX8_lays 5 = .ok (.iload_n 3, 1) := by decide +kernel
theorem dX8_lays_6 : decode cX8_lays 6 = .ok (.iload_n 1, 1) := by decide +kernel
theorem dX8_lays_7 : decode cX8_lays 7 = .ok (.if_icmp .le 51, 3) := by decide +kernel
theorem dX8_lays_10 : decode cX8_lays 10 = .ok (.aload_n 0, 1) := by decide +kernel
theorem dX8_lays_11 : decode cX8_lays 11 = .ok (.getfield 58, 3) := by decide +kernel
theorem dX8_lays_14 : decode cX8_lays 14 = .ok (.iload_n 3, 1) := by decide +kernel
theorem dX8_lays_15 : decode cX8_lays 15 = .ok (.aload_n 0, 1) := by decide +kernel
theorem dX8_lays_16 : decode cX8_lays 16 = .ok (.getfield 58, 3) := by decide +kernel
theorem dX8_lays_19 : decode cX8_lays 19 = .ok (.iload_n 3, 1) := by decide +kernel
theorem dX8_lays_20 : decode cX8_lays 20 = .ok (.iconst 1, 1) := by decide +kernel
theorem dX8_lays_21 : decode cX8_lays 21 = .ok (.isub, 1) := by decide +kernel
theorem dX8_lays_22 : decode cX8_lays 22 = .ok (.iaload, 1) := by decide +kernel
theorem dX8_lays_23 : decode cX8_lays 23 = .ok (.iastore, 1) := by decide +kernel
theorem dX8_lays_24 : decode cX8_lays 24 = .ok (.aload_n 0, 1) := by decide +kernel
theorem dX8_lays_25 : decode cX8_lays 25 = .ok (.getfield 61, 3) := by decide +kernel
theorem dX8_lays_28 : decode cX8_lays 28 = .ok (.iload_n 3, 1) := by decide +kernel
theorem dX8_lays_29 : decode cX8_lays 29 = .ok (.aload_n 0, 1) := by decide +kernel
theorem dX8_lays_30 : decode cX8_lays 30 = .ok (.getfield 61, 3) := by decide +kernel
theorem dX8_lays_33 : decode cX8_lays 33 = .ok (.iload_n 3, 1) := by decide +kernel
theorem dX8_lays_34 : decode cX8_lays 34 = .ok (.iconst 1, 1) := by decide +kernel
theorem dX8_lays_35 : decode cX8_lays 35 = .ok (.isub, 1) := by decide +kernel
theorem dX8_lays_36 : decode cX8_lays 36 = .ok (.laload, 1) := by decide +kernel
theorem dX8_lays_37 : decode cX8_lays 37 = .ok (.lastore, 1) := by decide +kernel
theorem dX8_lays_38 : decode cX8_lays 38 = .ok (.aload_n 0, 1) := by decide +kernel
theorem dX8_lays_39 : decode cX8_lays 39 = .ok (.getfield 64, 3) := by decide +kernel
theorem dX8_lays_42 : decode cX8_lays 42 = .ok (.iload_n 3, 1) := by decide +kernel
theorem dX8_lays_43 : decode cX8_lays 43 = .ok (.aload_n 0, 1) := by decide +kernel
theorem dX8_lays_44 : decode cX8_lays 44 = .ok (.getfield 64, 3) := by decide +kernel
theorem dX8_lays_47 : decode cX8_lays 47 = .ok (.iload_n 3, 1) := by decide +kernel
theorem dX8_lays_48 : decode cX8_lays 48 = .ok (.iconst 1, 1) := by decide +kernel
theorem dX8_lays_49 : decode cX8_lays 49 = .ok (.isub, 1) := by decide +kernel
theorem dX8_lays_50 : decode cX8_lays 50 = .ok (.iaload, 1) := by decide +kernel
theorem dX8_lays_51 : decode cX8_lays 51 = .ok (.iastore, 1) := by decide +kernel
theorem dX8_lays_52 : decode cX8_lays 52 = .ok (.iinc 3 (-1), 3) := by decide +kernel
theorem dX8_lays_55 : decode cX8_lays 55 = .ok (.goto (-50), 3) := by decide +kernel
theorem dX8_lays_58 : decode cX8_lays 58 = .ok (.aload_n 0, 1) := by decide +kernel
theorem dX8_lays_59 : decode cX8_lays 59 = .ok (.getfield 58, 3) := by decide +kernel
theorem dX8_lays_62 : decode cX8_lays 62 = .ok (.iload_n 1, 1) := by decide +kernel
theorem dX8_lays_63 : decode cX8_lays 63 = .ok (.aload_n 0, 1) := by decide +kernel
theorem dX8_lays_64 : decode cX8_lays 64 = .ok (.getfield 19, 3) := by decide +kernel
theorem dX8_lays_67 : decode cX8_lays 67 = .ok (.iload_n 2, 1) := by decide +kernel
theorem dX8_lays_68 : decode cX8_lays 68 = .ok (.iaload, 1) := by decide +kernel
theorem dX8_lays_69 : decode cX8_lays 69 = .ok (.iastore, 1) := by decide +kernel
theorem dX8_lays_70 : decode cX8_lays 70 = .ok (.aload_n 0, 1) := by decide +kernel
theorem dX8_lays_71 : decode cX8_lays 71 = .ok (.getfield 61, 3) := by decide +kernel
theorem dX8_lays_74 : decode cX8_lays 74 = .ok (.iload_n 1, 1) := by decide +kernel
theorem dX8_lays_75 : decode cX8_lays 75 = .ok (.aload_n 0, 1) := by decide +kernel
theorem dX8_lays_76 : decode cX8_lays 76 = .ok (.getfield 22, 3) := by decide +kernel
theorem dX8_lays_79 : decode cX8_lays 79 = .ok (.iload_n 2, 1) := by decide +kernel
theorem dX8_lays_80 : decode cX8_lays 80 = .ok (.iaload, 1) := by decide +kernel
theorem dX8_lays_81 : decode cX8_lays 81 = .ok (.i2l, 1) := by decide +kernel
theorem dX8_lays_82 : decode cX8_lays 82 = .ok (.lastore, 1) := by decide +kernel
theorem dX8_lays_83 : decode cX8_lays 83 = .ok (.aload_n 0, 1) := by decide +kernel
theorem dX8_lays_84 : decode cX8_lays 84 = .ok (.getfield 64, 3) := by decide +kernel
theorem dX8_lays_87 : decode cX8_lays 87 = .ok (.iload_n 1, 1) := by decide +kernel
theorem dX8_lays_88 : decode cX8_lays 88 = .ok (.iload_n 2, 1) := by decide +kernel
theorem dX8_lays_89 : decode cX8_lays 89 = .ok (.iastore, 1) := by decide +kernel
theorem dX8_lays_90 : decode cX8_lays 90 = .ok (.aload_n 0, 1) := by decide +kernel
theorem dX8_lays_91 : decode cX8_lays 91 = .ok (.dup, 1) := by decide +kernel
theorem dX8_lays_92 : decode cX8_lays 92 = .ok (.getfield 161, 3) := by decide +kernel
theorem dX8_lays_95 : decode cX8_lays 95 = .ok (.iconst 1, 1) := by decide +kernel
theorem dX8_lays_96 : decode cX8_lays 96 = .ok (.iadd, 1) := by decide +kernel
theorem dX8_lays_97 : decode cX8_lays 97 = .ok (.putfield 161, 3) := by decide +kernel
theorem dX8_lays_100 : decode cX8_lays 100 = .ok (.return_, 1) := by decide +kernel
theorem dX8_layerOf_0 : decode cX8_layerOf 0 = .ok (.iconst (-1), 1) := by decide +kernel
theorem dX8_layerOf_1 : decode cX8_layerOf 1 = .ok (.istore_n 2, 1) := by decide +kernel
theorem dX8_layerOf_2 : decode cX8_layerOf 2 = .ok (.iconst 0, 1) := by decide +kernel
theorem dX8_layerOf_3 : decode cX8_layerOf 3 = .ok (.istore_n 3, 1) := by decide +kernel
theorem dX8_layerOf_4 : decode cX8_layerOf 4 = .ok (.iload_n 3, 1) := by decide +kernel
theorem dX8_layerOf_5 : decode cX8_layerOf 5 = .ok (.aload_n 0, 1) := by decide +kernel
theorem dX8_layerOf_6 : decode cX8_layerOf 6 = .ok (.getfield 161, 3) := by decide +kernel
theorem dX8_layerOf_9 : decode cX8_layerOf 9 = .ok (.if_icmp .ge 25, 3) := by decide +kernel
theorem dX8_layerOf_12 : decode cX8_layerOf 12 = .ok (.aload_n 0, 1) := by decide +kernel
theorem dX8_layerOf_13 : decode cX8_layerOf 13 = .ok (.getfield 64, 3) := by decide +kernel
theorem dX8_layerOf_16 : decode cX8_layerOf 16 = .ok (.iload_n 3, 1) := by decide +kernel
theorem dX8_layerOf_17 : decode cX8_layerOf 17 = .ok (.iaload, 1) := by decide +kernel
theorem dX8_layerOf_18 : decode cX8_layerOf 18 = .ok (.iload_n 1, 1) := by decide +kernel
theorem dX8_layerOf_19 : decode cX8_layerOf 19 = .ok (.if_icmp .ne 7, 3) := by decide +kernel
theorem dX8_layerOf_22 : decode cX8_layerOf 22 = .ok (.iload_n 3, 1) := by decide +kernel
theorem dX8_layerOf_23 : decode cX8_layerOf 23 = .ok (.goto 4, 3) := by decide +kernel
theorem dX8_layerOf_26 : decode cX8_layerOf 26 = .ok (.iload_n 2, 1) := by decide +kernel
theorem dX8_layerOf_27 : decode cX8_layerOf 27 = .ok (.istore_n 2, 1) := by decide +kernel
theorem dX8_layerOf_28 : decode cX8_layerOf 28 = .ok (.iinc 3 1, 3) := by decide +kernel
theorem dX8_layerOf_31 : decode cX8_layerOf 31 = .ok (.goto (-27), 3) := by decide +kernel
theorem dX8_layerOf_34 : decode cX8_layerOf 34 = .ok (.iload_n 2, 1) := by decide +kernel
theorem dX8_layerOf_35 : decode cX8_layerOf 35 = .ok (.ireturn, 1) := by decide +kernel
theorem dX8_lands_0 : decode cX8_lands 0 = .ok (.aload_n 0, 1) := by decide +kernel
theorem dX8_lands_1 : decode cX8_lands 1 = .ok (.getfield 19, 3) := by decide +kernel
theorem dX8_lands_4 : decode cX8_lands 4 = .ok (.iload_n 2, 1) := by decide +kernel
theorem dX8_lands_5 : decode cX8_lands 5 = .ok (.iaload, 1) := by decide +kernel
theorem dX8_lands_6 : decode cX8_lands 6 = .ok (.istore_n 3, 1) := by decide +kernel
theorem dX8_lands_7 : decode cX8_lands 7 = .ok (.aload_n 0, 1) := by decide +kernel
theorem dX8_lands_8 : decode cX8_lands 8 = .ok (.iload_n 2, 1) := by decide +kernel
theorem dX8_lands_9 : decode cX8_lands 9 = .ok (.invokevirtual 167, 3) := by decide +kernel
theorem dX8_lands_12 : decode cX8_lands 12 = .ok (.istore 4, 2) := by decide +kernel
theorem dX8_lands_14 : decode cX8_lands 14 = .ok (.iload 4, 2) := by decide +kernel
theorem dX8_lands_16 : decode cX8_lands 16 = .ok (.iconst (-1), 1) := by decide +kernel
theorem dX8_lands_17 : decode cX8_lands 17 = .ok (.if_icmp .ne 7, 3) := by decide +kernel
theorem dX8_lands_20 : decode cX8_lands 20 = .ok (.lconst 0, 1) := by decide +kernel
theorem dX8_lands_21 : decode cX8_lands 21 = .ok (.goto 17, 3) := by decide +kernel
theorem dX8_lands_24 : decode cX8_lands 24 = .ok (.iload_n 1, 1) := by decide +kernel
theorem dX8_lands_25 : decode cX8_lands 25 = .ok (.i2l, 1) := by decide +kernel
theorem dX8_lands_26 : decode cX8_lands 26 = .ok (.aload_n 0, 1) := by decide +kernel
theorem dX8_lands_27 : decode cX8_lands 27 = .ok (.getfield 58, 3) := by decide +kernel
theorem dX8_lands_30 : decode cX8_lands 30 = .ok (.iload 4, 2) := by decide +kernel
theorem dX8_lands_32 : decode cX8_lands 32 = .ok (.iaload, 1) := by decide +kernel
theorem dX8_lands_33 : decode cX8_lands 33 = .ok (.i2l, 1) := by decide +kernel
theorem dX8_lands_34 : decode cX8_lands 34 = .ok (.lmul, 1) := by decide +kernel
theorem dX8_lands_35 : decode cX8_lands 35 = .ok (.iload_n 3, 1) := by decide +kernel
theorem dX8_lands_36 : decode cX8_lands 36 = .ok (.i2l, 1) := by decide +kernel
theorem dX8_lands_37 : decode cX8_lands 37 = .ok (.ldiv, 1) := by decide +kernel
theorem dX8_lands_38 : decode cX8_lands 38 = .ok (.lstore 5, 2) := by decide +kernel
theorem dX8_lands_40 : decode cX8_lands 40 = .ok (.iload 4, 2) := by decide +kernel
theorem dX8_lands_42 : decode cX8_lands 42 = .ok (.iconst (-1), 1) := by decide +kernel
theorem dX8_lands_43 : decode cX8_lands 43 = .ok (.if_icmp .eq 15, 3) := by decide +kernel
theorem dX8_lands_46 : decode cX8_lands 46 = .ok (.aload_n 0, 1) := by decide +kernel
theorem dX8_lands_47 : decode cX8_lands 47 = .ok (.getfield 61, 3) := by decide +kernel
theorem dX8_lands_50 : decode cX8_lands 50 = .ok (.iload 4, 2) := by decide +kernel
theorem dX8_lands_52 : decode cX8_lands 52 = .ok (.dup2, 1) := by decide +kernel
theorem dX8_lands_53 : decode cX8_lands 53 = .ok (.laload, 1) := by decide +kernel
theorem dX8_lands_54 : decode cX8_lands 54 = .ok (.lload 5, 2) := by decide +kernel
theorem dX8_lands_56 : decode cX8_lands 56 = .ok (.ladd, 1) := by decide +kernel
theorem dX8_lands_57 : decode cX8_lands 57 = .ok (.lastore, 1) := by decide +kernel
theorem dX8_lands_58 : decode cX8_lands 58 = .ok (.aload_n 0, 1) := by decide +kernel
theorem dX8_lands_59 : decode cX8_lands 59 = .ok (.dup, 1) := by decide +kernel
theorem dX8_lands_60 : decode cX8_lands 60 = .ok (.getfield 171, 3) := by decide +kernel
theorem dX8_lands_63 : decode cX8_lands 63 = .ok (.iload_n 1, 1) := by decide +kernel
theorem dX8_lands_64 : decode cX8_lands 64 = .ok (.i2l, 1) := by decide +kernel
theorem dX8_lands_65 : decode cX8_lands 65 = .ok (.ladd, 1) := by decide +kernel
theorem dX8_lands_66 : decode cX8_lands 66 = .ok (.putfield 171, 3) := by decide +kernel
theorem dX8_lands_69 : decode cX8_lands 69 = .ok (.aload_n 0, 1) := by decide +kernel
theorem dX8_lands_70 : decode cX8_lands 70 = .ok (.getfield 52, 3) := by decide +kernel
theorem dX8_lands_73 : decode cX8_lands 73 = .ok (.iconst 0, 1) := by decide +kernel
theorem dX8_lands_74 : decode cX8_lands 74 = .ok (.dup2, 1) := by decide +kernel
theorem dX8_lands_75 : decode cX8_lands 75 = .ok (.laload, 1) := by decide +kernel
theorem dX8_lands_76 : decode cX8_lands 76 = .ok (.iload_n 1, 1) := by decide +kernel
theorem dX8_lands_77 : decode cX8_lands 77 = .ok (.i2l, 1) := by decide +kernel
theorem dX8_lands_78 : decode cX8_lands 78 = .ok (.lload 5, 2) := by decide +kernel
theorem dX8_lands_80 : decode cX8_lands 80 = .ok (.lsub, 1) := by decide +kernel
theorem dX8_lands_81 : decode cX8_lands 81 = .ok (.ladd, 1) := by decide +kernel
theorem dX8_lands_82 : decode cX8_lands 82 = .ok (.lastore, 1) := by decide +kernel
theorem dX8_lands_83 : decode cX8_lands 83 = .ok (.iload_n 1, 1) := by decide +kernel
theorem dX8_lands_84 : decode cX8_lands 84 = .ok (.i2l, 1) := by decide +kernel
theorem dX8_lands_85 : decode cX8_lands 85 = .ok (.aload_n 0, 1) := by decide +kernel
theorem dX8_lands_86 : decode cX8_lands 86 = .ok (.getfield 175, 3) := by decide +kernel
theorem dX8_lands_89 : decode cX8_lands 89 = .ok (.iload_n 3, 1) := by decide +kernel
theorem dX8_lands_90 : decode cX8_lands 90 = .ok (.if_icmp .ge 10, 3) := by decide +kernel
theorem dX8_lands_93 : decode cX8_lands 93 = .ok (.aload_n 0, 1) := by decide +kernel
theorem dX8_lands_94 : decode cX8_lands 94 = .ok (.getfield 175, 3) := by decide +kernel
theorem dX8_lands_97 : decode cX8_lands 97 = .ok (.goto 4, 3) := by decide +kernel
theorem dX8_lands_100 : decode cX8_lands 100 = .ok (.iload_n 3, 1) := by decide +kernel
theorem dX8_lands_101 : decode cX8_lands 101 = .ok (.i2l, 1) := by decide +kernel
theorem dX8_lands_102 : decode cX8_lands 102 = .ok (.lmul, 1) := by decide +kernel
theorem dX8_lands_103 : decode cX8_lands 103 = .ok (.iload_n 3, 1) := by decide +kernel
theorem dX8_lands_104 : decode cX8_lands 104 = .ok (.i2l, 1) := by decide +kernel
theorem dX8_lands_105 : decode cX8_lands 105 = .ok (.ldiv, 1) := by decide +kernel
theorem dX8_lands_106 : decode cX8_lands 106 = .ok (.lstore 5, 2) := by decide +kernel
theorem dX8_lands_108 : decode cX8_lands 108 = .ok (.aload_n 0, 1) := by decide +kernel
theorem dX8_lands_109 : decode cX8_lands 109 = .ok (.dup, 1) := by decide +kernel
theorem dX8_lands_110 : decode cX8_lands 110 = .ok (.getfield 178, 3) := by decide +kernel
theorem dX8_lands_113 : decode cX8_lands 113 = .ok (.lload 5, 2) := by decide +kernel
theorem dX8_lands_115 : decode cX8_lands 115 = .ok (.ladd, 1) := by decide +kernel
theorem dX8_lands_116 : decode cX8_lands 116 = .ok (.putfield 178, 3) := by decide +kernel
theorem dX8_lands_119 : decode cX8_lands 119 = .ok (.aload_n 0, 1) := by decide +kernel
theorem dX8_lands_120 : decode cX8_lands 120 = .ok (.getfield 52, 3) := by decide +kernel
theorem dX8_lands_123 : decode cX8_lands 123 = .ok (.iconst 1, 1) := by decide +kernel
theorem dX8_lands_124 : decode cX8_lands 124 = .ok (.dup2, 1) := by decide +kernel
theorem dX8_lands_125 : decode cX8_lands 125 = .ok (.laload, 1) := by decide +kernel
theorem dX8_lands_126 : decode cX8_lands 126 = .ok (.iload_n 1, 1) := by decide +kernel
theorem dX8_lands_127 : decode cX8_lands 127 = .ok (.i2l, 1) := by decide +kernel
theorem dX8_lands_128 : decode cX8_lands 128 = .ok (.lload 5, 2) := by decide +kernel
theorem dX8_lands_130 : decode cX8_lands 130 = .ok (.lsub, 1) := by decide +kernel
theorem dX8_lands_131 : decode cX8_lands 131 = .ok (.ladd, 1) := by decide +kernel
theorem dX8_lands_132 : decode cX8_lands 132 = .ok (.lastore, 1) := by decide +kernel
theorem dX8_lands_133 : decode cX8_lands 133 = .ok (.return_, 1) := by decide +kernel
theorem dX8_moves_0 : decode cX8_moves 0 = .ok (.aload_n 0, 1) := by decide +kernel
theorem dX8_moves_1 : decode cX8_moves 1 = .ok (.getfield 7, 3) := by decide +kernel
theorem dX8_moves_4 : decode cX8_moves 4 = .ok (.iload_n 1, 1) := by decide +kernel
theorem dX8_moves_5 : decode cX8_moves 5 = .ok (.iaload, 1) := by decide +kernel
theorem dX8_moves_6 : decode cX8_moves 6 = .ok (.ifCond .ne 7, 3) := by decide +kernel
theorem dX8_moves_9 : decode cX8_moves 9 = .ok (.lconst 0, 1) := by decide +kernel
theorem dX8_moves_10 : decode cX8_moves 10 = .ok (.goto 13, 3) := by decide +kernel
theorem dX8_moves_13 : decode cX8_moves 13 = .ok (.aload_n 0, 1) := by decide +kernel
theorem dX8_moves_14 : decode cX8_moves 14 = .ok (.aload_n 0, 1) := by decide +kernel
theorem dX8_moves_15 : decode cX8_moves 15 = .ok (.getfield 19, 3) := by decide +kernel
theorem dX8_moves_18 : decode cX8_moves 18 = .ok (.iload_n 1, 1) := by decide +kernel
theorem dX8_moves_19 : decode cX8_moves 19 = .ok (.iaload, 1) := by decide +kernel
theorem dX8_moves_20 : decode cX8_moves 20 = .ok (.invokevirtual 181, 3) := by decide +kernel
theorem dX8_moves_23 : decode cX8_moves 23 = .ok (.lstore_n 2, 1) := by decide +kernel
theorem dX8_moves_24 : decode cX8_moves 24 = .ok (.aload_n 0, 1) := by decide +kernel
theorem dX8_moves_25 : decode cX8_moves 25 = .ok (.getfield 7, 3) := by decide +kernel
theorem dX8_moves_28 : decode cX8_moves 28 = .ok (.iload_n 1, 1) := by decide +kernel
theorem dX8_moves_29 : decode cX8_moves 29 = .ok (.iaload, 1) := by decide +kernel
theorem dX8_moves_30 : decode cX8_moves 30 = .ok (.ifCond .ne 7, 3) := by decide +kernel
theorem dX8_moves_33 : decode cX8_moves 33 = .ok (.lconst 0, 1) := by decide +kernel
theorem dX8_moves_34 : decode cX8_moves 34 = .ok (.goto 21, 3) := by decide +kernel
theorem dX8_moves_37 : decode cX8_moves 37 = .ok (.aload_n 0, 1) := by decide +kernel
theorem dX8_moves_38 : decode cX8_moves 38 = .ok (.getfield 178, 3) := by decide +kernel
theorem dX8_moves_41 : decode cX8_moves 41 = .ok (.aload_n 0, 1) := by decide +kernel
theorem dX8_moves_42 : decode cX8_moves 42 = .ok (.getfield 19, 3) := by decide +kernel
theorem dX8_moves_45 : decode cX8_moves 45 = .ok (.iload_n 1, 1) := by decide +kernel
theorem dX8_moves_46 : decode cX8_moves 46 = .ok (.iaload, 1) := by decide +kernel
theorem dX8_moves_47 : decode cX8_moves 47 = .ok (.i2l, 1) := by decide +kernel
theorem dX8_moves_48 : decode cX8_moves 48 = .ok (.lmul, 1) := by decide +kernel
theorem dX8_moves_49 : decode cX8_moves 49 = .ok (.aload_n 0, 1) := by decide +kernel
theorem dX8_moves_50 : decode cX8_moves 50 = .ok (.getfield 175, 3) := by decide +kernel
theorem dX8_moves_53 : decode cX8_moves 53 = .ok (.i2l, 1) := by decide +kernel
theorem dX8_moves_54 : decode cX8_moves 54 = .ok (.ldiv, 1) := by decide +kernel
theorem dX8_moves_55 : decode cX8_moves 55 = .ok (.lstore 4, 2) := by decide +kernel
theorem dX8_moves_57 : decode cX8_moves 57 = .ok (.aload_n 0, 1) := by decide +kernel
theorem dX8_moves_58 : decode cX8_moves 58 = .ok (.getfield 7, 3) := by decide +kernel
theorem dX8_moves_61 : decode cX8_moves 61 = .ok (.iload_n 1, 1) := by decide +kernel
theorem dX8_moves_62 : decode cX8_moves 62 = .ok (.iaload, 1) := by decide +kernel
theorem dX8_moves_63 : decode cX8_moves 63 = .ok (.ifCond .ne 31, 3) := by decide +kernel
theorem dX8_moves_66 : decode cX8_moves 66 = .ok (.aload_n 0, 1) := by decide +kernel
theorem dX8_moves_67 : decode cX8_moves 67 = .ok (.aload_n 0, 1) := by decide +kernel
theorem dX8_moves_68 : decode cX8_moves 68 = .ok (.getfield 161, 3) := by decide +kernel
theorem dX8_moves_71 : decode cX8_moves 71 = .ok (.iload_n 1, 1) := by decide +kernel
theorem dX8_moves_72 : decode cX8_moves 72 = .ok (.invokevirtual 185, 3) := by decide +kernel
end
section
theorem dX8_moves_75 : decode cX8_moves 75 = .ok (.aload_n 0, 1) := by decide +kernel
theorem dX8_moves_76 : decode cX8_moves 76 = .ok (.dup, 1) := by decide +kernel
theorem dX8_moves_77 : decode cX8_moves 77 = .ok (.getfield 171, 3) := by decide +kernel
theorem dX8_moves_80 : decode cX8_moves 80 = .ok (.aload_n 0, 1) := by decide +kernel
theorem dX8_moves_81 : decode cX8_moves 81 = .ok (.getfield 22, 3) := by decide +kernel
theorem dX8_moves_84 : decode cX8_moves 84 = .ok (.iload_n 1, 1) := by decide +kernel
theorem dX8_moves_85 : decode cX8_moves 85 = .ok (.iaload, 1) := by decide +kernel
theorem dX8_moves_86 : decode cX8_moves 86 = .ok (.i2l, 1) := by decide +kernel
theorem dX8_moves_87 : decode cX8_moves 87 = .ok (.ladd, 1) := by decide +kernel
theorem dX8_moves_88 : decode cX8_moves 88 = .ok (.putfield 171, 3) := by decide +kernel
theorem dX8_moves_91 : decode cX8_moves 91 = .ok (.goto 101, 3) := by decide +kernel
theorem dX8_moves_94 : decode cX8_moves 94 = .ok (.aload_n 0, 1) := by decide +kernel
theorem dX8_moves_95 : decode cX8_moves 95 = .ok (.getfield 7, 3) := by decide +kernel
theorem dX8_moves_98 : decode cX8_moves 98 = .ok (.iload_n 1, 1) := by decide +kernel
theorem dX8_moves_99 : decode cX8_moves 99 = .ok (.iaload, 1) := by decide +kernel
theorem dX8_moves_100 : decode cX8_moves 100 = .ok (.iconst 1, 1) := by decide +kernel
theorem dX8_moves_101 : decode cX8_moves 101 = .ok (.if_icmp .ne 48, 3) := by decide +kernel
theorem dX8_moves_104 : decode cX8_moves 104 = .ok (.aload_n 0, 1) := by decide +kernel
theorem dX8_moves_105 : decode cX8_moves 105 = .ok (.getfield 46, 3) := by decide +kernel
theorem dX8_moves_108 : decode cX8_moves 108 = .ok (.iconst 0, 1) := by decide +kernel
theorem dX8_moves_109 : decode cX8_moves 109 = .ok (.dup2, 1) := by decide +kernel
theorem dX8_moves_110 : decode cX8_moves 110 = .ok (.laload, 1) := by decide +kernel
theorem dX8_moves_111 : decode cX8_moves 111 = .ok (.lload_n 2, 1) := by decide +kernel
theorem dX8_moves_112 : decode cX8_moves 112 = .ok (.ladd, 1) := by decide +kernel
theorem dX8_moves_113 : decode cX8_moves 113 = .ok (.lastore, 1) := by decide +kernel
theorem dX8_moves_114 : decode cX8_moves 114 = .ok (.aload_n 0, 1) := by decide +kernel
theorem dX8_moves_115 : decode cX8_moves 115 = .ok (.getfield 46, 3) := by decide +kernel
theorem dX8_moves_118 : decode cX8_moves 118 = .ok (.iconst 1, 1) := by decide +kernel
theorem dX8_moves_119 : decode cX8_moves 119 = .ok (.dup2, 1) := by decide +kernel
theorem dX8_moves_120 : decode cX8_moves 120 = .ok (.laload, 1) := by decide +kernel
theorem dX8_moves_121 : decode cX8_moves 121 = .ok (.lload 4, 2) := by decide +kernel
theorem dX8_moves_123 : decode cX8_moves 123 = .ok (.ladd, 1) := by decide +kernel
theorem dX8_moves_124 : decode cX8_moves 124 = .ok (.lastore, 1) := by decide +kernel
theorem dX8_moves_125 : decode cX8_moves 125 = .ok (.aload_n 0, 1) := by decide +kernel
theorem dX8_moves_126 : decode cX8_moves 126 = .ok (.getfield 55, 3) := by decide +kernel
theorem dX8_moves_129 : decode cX8_moves 129 = .ok (.iconst 2, 1) := by decide +kernel
theorem dX8_moves_130 : decode cX8_moves 130 = .ok (.iload_n 1, 1) := by decide +kernel
theorem dX8_moves_131 : decode cX8_moves 131 = .ok (.imul, 1) := by decide +kernel
theorem dX8_moves_132 : decode cX8_moves 132 = .ok (.lload_n 2, 1) := by decide +kernel
theorem dX8_moves_133 : decode cX8_moves 133 = .ok (.lastore, 1) := by decide +kernel
theorem dX8_moves_134 : decode cX8_moves 134 = .ok (.aload_n 0, 1) := by decide +kernel
theorem dX8_moves_135 : decode cX8_moves 135 = .ok (.getfield 55, 3) := by decide +kernel
theorem dX8_moves_138 : decode cX8_moves 138 = .ok (.iconst 2, 1) := by decide +kernel
theorem dX8_moves_139 : decode cX8_moves 139 = .ok (.iload_n 1, 1) := by decide +kernel
theorem dX8_moves_140 : decode cX8_moves 140 = .ok (.imul, 1) := by decide +kernel
theorem dX8_moves_141 : decode cX8_moves 141 = .ok (.iconst 1, 1) := by decide +kernel
theorem dX8_moves_142 : decode cX8_moves 142 = .ok (.iadd, 1) := by decide +kernel
theorem dX8_moves_143 : decode cX8_moves 143 = .ok (.lload 4, 2) := by decide +kernel
theorem dX8_moves_145 : decode cX8_moves 145 = .ok (.lastore, 1) := by decide +kernel
theorem dX8_moves_146 : decode cX8_moves 146 = .ok (.goto 46, 3) := by decide +kernel
theorem dX8_moves_149 : decode cX8_moves 149 = .ok (.aload_n 0, 1) := by decide +kernel
theorem dX8_moves_150 : decode cX8_moves 150 = .ok (.iconst 0, 1) := by decide +kernel
theorem dX8_moves_151 : decode cX8_moves 151 = .ok (.iload_n 1, 1) := by decide +kernel
theorem dX8_moves_152 : decode cX8_moves 152 = .ok (.invokevirtual 185, 3) := by decide +kernel
theorem dX8_moves_155 : decode cX8_moves 155 = .ok (.aload_n 0, 1) := by decide +kernel
theorem dX8_moves_156 : decode cX8_moves 156 = .ok (.getfield 49, 3) := by decide +kernel
theorem dX8_moves_159 : decode cX8_moves 159 = .ok (.iconst 0, 1) := by decide +kernel
theorem dX8_moves_160 : decode cX8_moves 160 = .ok (.dup2, 1) := by decide +kernel
theorem dX8_moves_161 : decode cX8_moves 161 = .ok (.laload, 1) := by decide +kernel
theorem dX8_moves_162 : decode cX8_moves 162 = .ok (.aload_n 0, 1) := by decide +kernel
theorem dX8_moves_163 : decode cX8_moves 163 = .ok (.getfield 22, 3) := by decide +kernel
theorem dX8_moves_166 : decode cX8_moves 166 = .ok (.iload_n 1, 1) := by decide +kernel
theorem dX8_moves_167 : decode cX8_moves 167 = .ok (.iaload, 1) := by decide +kernel
theorem dX8_moves_168 : decode cX8_moves 168 = .ok (.i2l, 1) := by decide +kernel
theorem dX8_moves_169 : decode cX8_moves 169 = .ok (.lload_n 2, 1) := by decide +kernel
theorem dX8_moves_170 : decode cX8_moves 170 = .ok (.lsub, 1) := by decide +kernel
theorem dX8_moves_171 : decode cX8_moves 171 = .ok (.ladd, 1) := by decide +kernel
theorem dX8_moves_172 : decode cX8_moves 172 = .ok (.lastore, 1) := by decide +kernel
theorem dX8_moves_173 : decode cX8_moves 173 = .ok (.aload_n 0, 1) := by decide +kernel
theorem dX8_moves_174 : decode cX8_moves 174 = .ok (.getfield 49, 3) := by decide +kernel
theorem dX8_moves_177 : decode cX8_moves 177 = .ok (.iconst 1, 1) := by decide +kernel
theorem dX8_moves_178 : decode cX8_moves 178 = .ok (.dup2, 1) := by decide +kernel
theorem dX8_moves_179 : decode cX8_moves 179 = .ok (.laload, 1) := by decide +kernel
theorem dX8_moves_180 : decode cX8_moves 180 = .ok (.aload_n 0, 1) := by decide +kernel
theorem dX8_moves_181 : decode cX8_moves 181 = .ok (.getfield 22, 3) := by decide +kernel
theorem dX8_moves_184 : decode cX8_moves 184 = .ok (.iload_n 1, 1) := by decide +kernel
theorem dX8_moves_185 : decode cX8_moves 185 = .ok (.iaload, 1) := by decide +kernel
theorem dX8_moves_186 : decode cX8_moves 186 = .ok (.i2l, 1) := by decide +kernel
theorem dX8_moves_187 : decode cX8_moves 187 = .ok (.lload 4, 2) := by decide +kernel
theorem dX8_moves_189 : decode cX8_moves 189 = .ok (.lsub, 1) := by decide +kernel
theorem dX8_moves_190 : decode cX8_moves 190 = .ok (.ladd, 1) := by decide +kernel
theorem dX8_moves_191 : decode cX8_moves 191 = .ok (.lastore, 1) := by decide +kernel
theorem dX8_moves_192 : decode cX8_moves 192 = .ok (.aload_n 0, 1) := by decide +kernel
theorem dX8_moves_193 : decode cX8_moves 193 = .ok (.dup, 1) := by decide +kernel
theorem dX8_moves_194 : decode cX8_moves 194 = .ok (.getfield 178, 3) := by decide +kernel
theorem dX8_moves_197 : decode cX8_moves 197 = .ok (.aload_n 0, 1) := by decide +kernel
theorem dX8_moves_198 : decode cX8_moves 198 = .ok (.getfield 22, 3) := by decide +kernel
theorem dX8_moves_201 : decode cX8_moves 201 = .ok (.iload_n 1, 1) := by decide +kernel
theorem dX8_moves_202 : decode cX8_moves 202 = .ok (.iaload, 1) := by decide +kernel
theorem dX8_moves_203 : decode cX8_moves 203 = .ok (.i2l, 1) := by decide +kernel
theorem dX8_moves_204 : decode cX8_moves 204 = .ok (.lload 4, 2) := by decide +kernel
theorem dX8_moves_206 : decode cX8_moves 206 = .ok (.lsub, 1) := by decide +kernel
theorem dX8_moves_207 : decode cX8_moves 207 = .ok (.ladd, 1) := by decide +kernel
theorem dX8_moves_208 : decode cX8_moves 208 = .ok (.putfield 178, 3) := by decide +kernel
theorem dX8_moves_211 : decode cX8_moves 211 = .ok (.aload_n 0, 1) := by decide +kernel
theorem dX8_moves_212 : decode cX8_moves 212 = .ok (.dup, 1) := by decide +kernel
theorem dX8_moves_213 : decode cX8_moves 213 = .ok (.getfield 175, 3) := by decide +kernel
theorem dX8_moves_216 : decode cX8_moves 216 = .ok (.aload_n 0, 1) := by decide +kernel
theorem dX8_moves_217 : decode cX8_moves 217 = .ok (.iload_n 1, 1) := by decide +kernel
theorem dX8_moves_218 : decode cX8_moves 218 = .ok (.aload_n 0, 1) := by decide +kernel
theorem dX8_moves_219 : decode cX8_moves 219 = .ok (.getfield 16, 3) := by decide +kernel
theorem dX8_moves_222 : decode cX8_moves 222 = .ok (.iload_n 1, 1) := by decide +kernel
theorem dX8_moves_223 : decode cX8_moves 223 = .ok (.iaload, 1) := by decide +kernel
theorem dX8_moves_224 : decode cX8_moves 224 = .ok (.invokevirtual 90, 3) := by decide +kernel
theorem dX8_moves_227 : decode cX8_moves 227 = .ok (.iadd, 1) := by decide +kernel
theorem dX8_moves_228 : decode cX8_moves 228 = .ok (.putfield 175, 3) := by decide +kernel
theorem dX8_moves_231 : decode cX8_moves 231 = .ok (.return_, 1) := by decide +kernel
theorem dX8_walks_0 : decode cX8_walks 0 = .ok (.aload_n 0, 1) := by decide +kernel
theorem dX8_walks_1 : decode cX8_walks 1 = .ok (.iconst 0, 1) := by decide +kernel
theorem dX8_walks_2 : decode cX8_walks 2 = .ok (.putfield 175, 3) := by decide +kernel
theorem dX8_walks_5 : decode cX8_walks 5 = .ok (.aload_n 0, 1) := by decide +kernel
theorem dX8_walks_6 : decode cX8_walks 6 = .ok (.lconst 0, 1) := by decide +kernel
theorem dX8_walks_7 : decode cX8_walks 7 = .ok (.putfield 178, 3) := by decide +kernel
theorem dX8_walks_10 : decode cX8_walks 10 = .ok (.aload_n 0, 1) := by decide +kernel
theorem dX8_walks_11 : decode cX8_walks 11 = .ok (.lconst 0, 1) := by decide +kernel
theorem dX8_walks_12 : decode cX8_walks 12 = .ok (.putfield 171, 3) := by decide +kernel
theorem dX8_walks_15 : decode cX8_walks 15 = .ok (.aload_n 0, 1) := by decide +kernel
theorem dX8_walks_16 : decode cX8_walks 16 = .ok (.iconst 0, 1) := by decide +kernel
theorem dX8_walks_17 : decode cX8_walks 17 = .ok (.putfield 161, 3) := by decide +kernel
theorem dX8_walks_20 : decode cX8_walks 20 = .ok (.iconst 0, 1) := by decide +kernel
theorem dX8_walks_21 : decode cX8_walks 21 = .ok (.istore_n 3, 1) := by decide +kernel
theorem dX8_walks_22 : decode cX8_walks 22 = .ok (.iload_n 3, 1) := by decide +kernel
theorem dX8_walks_23 : decode cX8_walks 23 = .ok (.iconst 2, 1) := by decide +kernel
theorem dX8_walks_24 : decode cX8_walks 24 = .ok (.if_icmp .ge 30, 3) := by decide +kernel
theorem dX8_walks_27 : decode cX8_walks 27 = .ok (.aload_n 0, 1) := by decide +kernel
theorem dX8_walks_28 : decode cX8_walks 28 = .ok (.getfield 46, 3) := by decide +kernel
theorem dX8_walks_31 : decode cX8_walks 31 = .ok (.iload_n 3, 1) := by decide +kernel
theorem dX8_walks_32 : decode cX8_walks 32 = .ok (.lconst 0, 1) := by decide +kernel
theorem dX8_walks_33 : decode cX8_walks 33 = .ok (.lastore, 1) := by decide +kernel
theorem dX8_walks_34 : decode cX8_walks 34 = .ok (.aload_n 0, 1) := by decide +kernel
theorem dX8_walks_35 : decode cX8_walks 35 = .ok (.getfield 49, 3) := by decide +kernel
theorem dX8_walks_38 : decode cX8_walks 38 = .ok (.iload_n 3, 1) := by decide +kernel
theorem dX8_walks_39 : decode cX8_walks 39 = .ok (.lconst 0, 1) := by decide +kernel
theorem dX8_walks_40 : decode cX8_walks 40 = .ok (.lastore, 1) := by decide +kernel
theorem dX8_walks_41 : decode cX8_walks 41 = .ok (.aload_n 0, 1) := by decide +kernel
theorem dX8_walks_42 : decode cX8_walks 42 = .ok (.getfield 52, 3) := by decide +kernel
theorem dX8_walks_45 : decode cX8_walks 45 = .ok (.iload_n 3, 1) := by decide +kernel
theorem dX8_walks_46 : decode cX8_walks 46 = .ok (.lconst 0, 1) := by decide +kernel
theorem dX8_walks_47 : decode cX8_walks 47 = .ok (.lastore, 1) := by decide +kernel
theorem dX8_walks_48 : decode cX8_walks 48 = .ok (.iinc 3 1, 3) := by decide +kernel
theorem dX8_walks_51 : decode cX8_walks 51 = .ok (.goto (-29), 3) := by decide +kernel
theorem dX8_walks_54 : decode cX8_walks 54 = .ok (.aload_n 0, 1) := by decide +kernel
theorem dX8_walks_55 : decode cX8_walks 55 = .ok (.invokevirtual 83, 3) := by decide +kernel
theorem dX8_walks_58 : decode cX8_walks 58 = .ok (.iconst 0, 1) := by decide +kernel
theorem dX8_walks_59 : decode cX8_walks 59 = .ok (.istore_n 3, 1) := by decide +kernel
theorem dX8_walks_60 : decode cX8_walks 60 = .ok (.iload_n 3, 1) := by decide +kernel
theorem dX8_walks_61 : decode cX8_walks 61 = .ok (.aload_n 0, 1) := by decide +kernel
theorem dX8_walks_62 : decode cX8_walks 62 = .ok (.getfield 80, 3) := by decide +kernel
theorem dX8_walks_65 : decode cX8_walks 65 = .ok (.if_icmp .ge 134, 3) := by decide +kernel
theorem dX8_walks_68 : decode cX8_walks 68 = .ok (.aload_n 0, 1) := by decide +kernel
theorem dX8_walks_69 : decode cX8_walks 69 = .ok (.getfield 13, 3) := by decide +kernel
theorem dX8_walks_72 : decode cX8_walks 72 = .ok (.aload_n 0, 1) := by decide +kernel
theorem dX8_walks_73 : decode cX8_walks 73 = .ok (.getfield 43, 3) := by decide +kernel
theorem dX8_walks_76 : decode cX8_walks 76 = .ok (.iload_n 3, 1) := by decide +kernel
theorem dX8_walks_77 : decode cX8_walks 77 = .ok (.iaload, 1) := by decide +kernel
theorem dX8_walks_78 : decode cX8_walks 78 = .ok (.iaload, 1) := by decide +kernel
theorem dX8_walks_79 : decode cX8_walks 79 = .ok (.iload_n 2, 1) := by decide +kernel
theorem dX8_walks_80 : decode cX8_walks 80 = .ok (.if_icmp .gt 119, 3) := by decide +kernel
theorem dX8_walks_83 : decode cX8_walks 83 = .ok (.aload_n 0, 1) := by decide +kernel
theorem dX8_walks_84 : decode cX8_walks 84 = .ok (.getfield 43, 3) := by decide +kernel
theorem dX8_walks_87 : decode cX8_walks 87 = .ok (.iload_n 3, 1) := by decide +kernel
theorem dX8_walks_88 : decode cX8_walks 88 = .ok (.iaload, 1) := by decide +kernel
theorem dX8_walks_89 : decode cX8_walks 89 = .ok (.istore 4, 2) := by decide +kernel
theorem dX8_walks_91 : decode cX8_walks 91 = .ok (.iconst 0, 1) := by decide +kernel
theorem dX8_walks_92 : decode cX8_walks 92 = .ok (.istore 5, 2) := by decide +kernel
theorem dX8_walks_94 : decode cX8_walks 94 = .ok (.iload 5, 2) := by decide +kernel
theorem dX8_walks_96 : decode cX8_walks 96 = .ok (.aload_n 0, 1) := by decide +kernel
theorem dX8_walks_97 : decode cX8_walks 97 = .ok (.getfield 77, 3) := by decide +kernel
theorem dX8_walks_100 : decode cX8_walks 100 = .ok (.if_icmp .ge 65, 3) := by decide +kernel
theorem dX8_walks_103 : decode cX8_walks 103 = .ok (.aload_n 0, 1) := by decide +kernel
theorem dX8_walks_104 : decode cX8_walks 104 = .ok (.getfield 7, 3) := by decide +kernel
theorem dX8_walks_107 : decode cX8_walks 107 = .ok (.iload 4, 2) := by decide +kernel
theorem dX8_walks_109 : decode cX8_walks 109 = .ok (.iaload, 1) := by decide +kernel
theorem dX8_walks_110 : decode cX8_walks 110 = .ok (.iconst 3, 1) := by decide +kernel
theorem dX8_walks_111 : decode cX8_walks 111 = .ok (.if_icmp .ne 54, 3) := by decide +kernel
theorem dX8_walks_114 : decode cX8_walks 114 = .ok (.aload_n 0, 1) := by decide +kernel
theorem dX8_walks_115 : decode cX8_walks 115 = .ok (.getfield 29, 3) := by decide +kernel
theorem dX8_walks_118 : decode cX8_walks 118 = .ok (.iload 4, 2) := by decide +kernel
theorem dX8_walks_120 : decode cX8_walks 120 = .ok (.laload, 1) := by decide +kernel
theorem dX8_walks_121 : decode cX8_walks 121 = .ok (.iload 5, 2) := by decide +kernel
theorem dX8_walks_123 : decode cX8_walks 123 = .ok (.invokestatic 123, 3) := by decide +kernel
theorem dX8_walks_126 : decode cX8_walks 126 = .ok (.ifCond .eq 33, 3) := by decide +kernel
theorem dX8_walks_129 : decode cX8_walks 129 = .ok (.aload_n 0, 1) := by decide +kernel
theorem dX8_walks_130 : decode cX8_walks 130 = .ok (.getfield 16, 3) := by decide +kernel
theorem dX8_walks_133 : decode cX8_walks 133 = .ok (.iload 5, 2) := by decide +kernel
theorem dX8_walks_135 : decode cX8_walks 135 = .ok (.iaload, 1) := by decide +kernel
theorem dX8_walks_136 : decode cX8_walks 136 = .ok (.iload_n 1, 1) := by decide +kernel
theorem dX8_walks_137 : decode cX8_walks 137 = .ok (.if_icmp .ne 22, 3) := by decide +kernel
theorem dX8_walks_140 : decode cX8_walks 140 = .ok (.aload_n 0, 1) := by decide +kernel
theorem dX8_walks_141 : decode cX8_walks 141 = .ok (.aload_n 0, 1) := by decide +kernel
theorem dX8_walks_142 : decode cX8_walks 142 = .ok (.getfield 33, 3) := by decide +kernel
theorem dX8_walks_145 : decode cX8_walks 145 = .ok (.bipush 60, 2) := by decide +kernel
theorem dX8_walks_147 : decode cX8_walks 147 = .ok (.iload 4, 2) := by decide +kernel
theorem dX8_walks_149 : decode cX8_walks 149 = .ok (.imul, 1) := by decide +kernel
theorem dX8_walks_150 : decode cX8_walks 150 = .ok (.iload 5, 2) := by decide +kernel
theorem dX8_walks_152 : decode cX8_walks 152 = .ok (.iadd, 1) := by decide +kernel
theorem dX8_walks_153 : decode cX8_walks 153 = .ok (.iaload, 1) := by decide +kernel
theorem dX8_walks_154 : decode cX8_walks 154 = .ok (.iload 5, 2) := by decide +kernel
theorem dX8_walks_156 : decode cX8_walks 156 = .ok (.invokevirtual 189, 3) := by decide +kernel
theorem dX8_walks_159 : decode cX8_walks 159 = .ok (.iinc 5 1, 3) := by decide +kernel
theorem dX8_walks_162 : decode cX8_walks 162 = .ok (.goto (-68), 3) := by decide +kernel
theorem dX8_walks_165 : decode cX8_walks 165 = .ok (.aload_n 0, 1) := by decide +kernel
theorem dX8_walks_166 : decode cX8_walks 166 = .ok (.getfield 7, 3) := by decide +kernel
theorem dX8_walks_169 : decode cX8_walks 169 = .ok (.iload 4, 2) := by decide +kernel
theorem dX8_walks_171 : decode cX8_walks 171 = .ok (.iaload, 1) := by decide +kernel
theorem dX8_walks_172 : decode cX8_walks 172 = .ok (.iconst 3, 1) := by decide +kernel
theorem dX8_walks_173 : decode cX8_walks 173 = .ok (.if_icmp .eq 20, 3) := by decide +kernel
theorem dX8_walks_176 : decode cX8_walks 176 = .ok (.aload_n 0, 1) := by decide +kernel
theorem dX8_walks_177 : decode cX8_walks 177 = .ok (.getfield 16, 3) := by decide +kernel
theorem dX8_walks_180 : decode cX8_walks 180 = .ok (.iload 4, 2) := by decide +kernel
theorem dX8_walks_182 : decode cX8_walks 182 = .ok (.iaload, 1) := by decide +kernel
theorem dX8_walks_183 : decode cX8_walks 183 = .ok (.iload_n 1, 1) := by decide +kernel
theorem dX8_walks_184 : decode cX8_walks 184 = .ok (.if_icmp .ne 9, 3) := by decide +kernel
theorem dX8_walks_187 : decode cX8_walks 187 = .ok (.aload_n 0, 1) := by decide +kernel
theorem dX8_walks_188 : decode cX8_walks 188 = .ok (.iload 4, 2) := by decide +kernel
theorem dX8_walks_190 : decode cX8_walks 190 = .ok (.invokevirtual 192, 3) := by decide +kernel
theorem dX8_walks_193 : decode cX8_walks 193 = .ok (.iinc 3 1, 3) := by decide +kernel
theorem dX8_walks_196 : decode cX8_walks 196 = .ok (.goto (-136), 3) := by decide +kernel
theorem dX8_walks_199 : decode cX8_walks 199 = .ok (.return_, 1) := by decide +kernel
theorem dX8_asks_0 : decode cX8_asks 0 = .ok (.aload_n 0, 1) := by decide +kernel
theorem dX8_asks_1 : decode cX8_asks 1 = .ok (.iload_n 1, 1) := by decide +kernel
theorem dX8_asks_2 : decode cX8_asks 2 = .ok (.invokestatic 101, 3) := by decide +kernel
theorem dX8_asks_5 : decode cX8_asks 5 = .ok (.ifCond .eq 14, 3) := by decide +kernel
theorem dX8_asks_8 : decode cX8_asks 8 = .ok (.iload_n 2, 1) := by decide +kernel
theorem dX8_asks_9 : decode cX8_asks 9 = .ok (.invokestatic 98, 3) := by decide +kernel
theorem dX8_asks_12 : decode cX8_asks 12 = .ok (.ifCond .eq 7, 3) := by decide +kernel
theorem dX8_asks_15 : decode cX8_asks 15 = .ok (.iconst 0, 1) := by decide +kernel
theorem dX8_asks_16 : decode cX8_asks 16 = .ok (.goto 4, 3) := by decide +kernel
theorem dX8_asks_19 : decode cX8_asks 19 = .ok (.iconst 1, 1) := by decide +kernel
theorem dX8_asks_20 : decode cX8_asks 20 = .ok (.invokevirtual 112, 3) := by decide +kernel
theorem dX8_asks_23 : decode cX8_asks 23 = .ok (.istore_n 3, 1) := by decide +kernel
theorem dX8_asks_24 : decode cX8_asks 24 = .ok (.iload_n 3, 1) := by decide +kernel
theorem dX8_asks_25 : decode cX8_asks 25 = .ok (.ifCond .eq 9, 3) := by decide +kernel
theorem dX8_asks_28 : decode cX8_asks 28 = .ok (.aload_n 0, 1) := by decide +kernel
theorem dX8_asks_29 : decode cX8_asks 29 = .ok (.iload_n 1, 1) := by decide +kernel
theorem dX8_asks_30 : decode cX8_asks 30 = .ok (.iload_n 2, 1) := by decide +kernel
theorem dX8_asks_31 : decode cX8_asks 31 = .ok (.invokevirtual 196, 3) := by decide +kernel
theorem dX8_asks_34 : decode cX8_asks 34 = .ok (.iload_n 3, 1) := by decide +kernel
theorem dX8_asks_35 : decode cX8_asks 35 = .ok (.ireturn, 1) := by decide +kernel
theorem dX8_costOf_0 : decode cX8_costOf 0 = .ok (.aload_n 0, 1) := by decide +kernel
theorem dX8_costOf_1 : decode cX8_costOf 1 = .ok (.aload_n 0, 1) := by decide +kernel
theorem dX8_costOf_2 : decode cX8_costOf 2 = .ok (.iload_n 1, 1) := by decide +kernel
theorem dX8_costOf_3 : decode cX8_costOf 3 = .ok (.invokevirtual 155, 3) := by decide +kernel
theorem dX8_costOf_6 : decode cX8_costOf 6 = .ok (.ifCond .ne 7, 3) := by decide +kernel
theorem dX8_costOf_9 : decode cX8_costOf 9 = .ok (.iconst 1, 1) := by decide +kernel
theorem dX8_costOf_10 : decode cX8_costOf 10 = .ok (.goto 27, 3) := by decide +kernel
theorem dX8_costOf_13 : decode cX8_costOf 13 = .ok (.aload_n 0, 1) := by decide +kernel
theorem dX8_costOf_14 : decode cX8_costOf 14 = .ok (.getfield 7, 3) := by decide +kernel
theorem dX8_costOf_17 : decode cX8_costOf 17 = .ok (.iload_n 1, 1) := by decide +kernel
theorem dX8_costOf_18 : decode cX8_costOf 18 = .ok (.iaload, 1) := by decide +kernel
theorem dX8_costOf_19 : decode cX8_costOf 19 = .ok (.iconst 1, 1) := by decide +kernel
theorem dX8_costOf_20 : decode cX8_costOf 20 = .ok (.if_icmp .ne 12, 3) := by decide +kernel
theorem dX8_costOf_23 : decode cX8_costOf 23 = .ok (.aload_n 0, 1) := by decide +kernel
theorem dX8_costOf_24 : decode cX8_costOf 24 = .ok (.getfield 25, 3) := by decide +kernel
theorem dX8_costOf_27 : decode cX8_costOf 27 = .ok (.iload_n 1, 1) := by decide +kernel
theorem dX8_costOf_28 : decode cX8_costOf 28 = .ok (.baload, 1) := by decide +kernel
theorem dX8_costOf_29 : decode cX8_costOf 29 = .ok (.ifCond .eq 7, 3) := by decide +kernel
theorem dX8_costOf_32 : decode cX8_costOf 32 = .ok (.iconst 2, 1) := by decide +kernel
theorem dX8_costOf_33 : decode cX8_costOf 33 = .ok (.goto 4, 3) := by decide +kernel
theorem dX8_costOf_36 : decode cX8_costOf 36 = .ok (.iconst 0, 1) := by decide +kernel
theorem dX8_costOf_37 : decode cX8_costOf 37 = .ok (.invokevirtual 112, 3) := by decide +kernel
theorem dX8_costOf_40 : decode cX8_costOf 40 = .ok (.ifCond .ne 5, 3) := by decide +kernel
theorem dX8_costOf_43 : decode cX8_costOf 43 = .ok (.lconst 0, 1) := by decide +kernel
theorem dX8_costOf_44 : decode cX8_costOf 44 = .ok (.lreturn, 1) := by decide +kernel
theorem dX8_costOf_45 : decode cX8_costOf 45 = .ok (.aload_n 0, 1) := by decide +kernel
theorem dX8_costOf_46 : decode cX8_costOf 46 = .ok (.aload_n 0, 1) := by decide +kernel
theorem dX8_costOf_47 : decode cX8_costOf 47 = .ok (.getfield 16, 3) := by decide +kernel
theorem dX8_costOf_50 : decode cX8_costOf 50 = .ok (.iload_n 1, 1) := by decide +kernel
theorem dX8_costOf_51 : decode cX8_costOf 51 = .ok (.iaload, 1) := by decide +kernel
theorem dX8_costOf_52 : decode cX8_costOf 52 = .ok (.sipush 365, 3) := by decide +kernel
theorem dX8_costOf_55 : decode cX8_costOf 55 = .ok (.invokevirtual 196, 3) := by decide +kernel
theorem dX8_costOf_58 : decode cX8_costOf 58 = .ok (.aload_n 0, 1) := by decide +kernel
theorem dX8_costOf_59 : decode cX8_costOf 59 = .ok (.getfield 55, 3) := by decide +kernel
theorem dX8_costOf_62 : decode cX8_costOf 62 = .ok (.iconst 2, 1) := by decide +kernel
theorem dX8_costOf_63 : decode cX8_costOf 63 = .ok (.iload_n 1, 1) := by decide +kernel
theorem dX8_costOf_64 : decode cX8_costOf 64 = .ok (.imul, 1) := by decide +kernel
theorem dX8_costOf_65 : decode cX8_costOf 65 = .ok (.iload_n 2, 1) := by decide +kernel
theorem dX8_costOf_66 : decode cX8_costOf 66 = .ok (.ifCond .eq 7, 3) := by decide +kernel
theorem dX8_costOf_69 : decode cX8_costOf 69 = .ok (.iconst 1, 1) := by decide +kernel
theorem dX8_costOf_70 : decode cX8_costOf 70 = .ok (.goto 4, 3) := by decide +kernel
theorem dX8_costOf_73 : decode cX8_costOf 73 = .ok (.iconst 0, 1) := by decide +kernel
theorem dX8_costOf_74 : decode cX8_costOf 74 = .ok (.iadd, 1) := by decide +kernel
theorem dX8_costOf_75 : decode cX8_costOf 75 = .ok (.laload, 1) := by decide +kernel
theorem dX8_costOf_76 : decode cX8_costOf 76 = .ok (.lreturn, 1) := by decide +kernel
theorem dX8_onHand_0 : decode cX8_onHand 0 = .ok (.aload_n 0, 1) := by decide +kernel
theorem dX8_onHand_1 : decode cX8_onHand 1 = .ok (.iload_n 1, 1) := by decide +kernel
theorem dX8_onHand_2 : decode cX8_onHand 2 = .ok (.iload_n 2, 1) := by decide +kernel
theorem dX8_onHand_3 : decode cX8_onHand 3 = .ok (.invokevirtual 199, 3) := by decide +kernel
theorem dX8_onHand_6 : decode cX8_onHand 6 = .ok (.ifCond .eq 10, 3) := by decide +kernel
theorem dX8_onHand_9 : decode cX8_onHand 9 = .ok (.aload_n 0, 1) := by decide +kernel
theorem dX8_onHand_10 : decode cX8_onHand 10 = .ok (.getfield 175, 3) := by decide +kernel
theorem dX8_onHand_13 : decode cX8_onHand 13 = .ok (.goto 4, 3) := by decide +kernel
theorem dX8_onHand_16 : decode cX8_onHand 16 = .ok (.iconst 0, 1) := by decide +kernel
theorem dX8_onHand_17 : decode cX8_onHand 17 = .ok (.ireturn, 1) := by decide +kernel
theorem dX8_available_0 : decode cX8_available 0 = .ok (.aload_n 0, 1) := by decide +kernel
theorem dX8_available_1 : decode cX8_available 1 = .ok (.iload_n 1, 1) := by decide +kernel
theorem dX8_available_2 : decode cX8_available 2 = .ok (.invokestatic 101, 3) := by decide +kernel
theorem dX8_available_5 : decode cX8_available 5 = .ok (.ifCond .eq 14, 3) := by decide +kernel
theorem dX8_available_8 : decode cX8_available 8 = .ok (.iload_n 2, 1) := by decide +kernel
theorem dX8_available_9 : decode cX8_available 9 = .ok (.invokestatic 98, 3) := by decide +kernel
theorem dX8_available_12 : decode cX8_available 12 = .ok (.ifCond .eq 7, 3) := by decide +kernel
theorem dX8_available_15 : decode cX8_available 15 = .ok (.iconst 0, 1) := by decide +kernel
theorem dX8_available_16 : decode cX8_available 16 = .ok (.goto 4, 3) := by decide +kernel
theorem dX8_available_19 : decode cX8_available 19 = .ok (.iconst 1, 1) := by decide +kernel
theorem dX8_available_20 : decode cX8_available 20 = .ok (.invokevirtual 112, 3) := by decide +kernel
theorem dX8_available_23 : decode cX8_available 23 = .ok (.ifCond .ne 5, 3) := by decide +kernel
theorem dX8_available_26 : decode cX8_available 26 = .ok (.iconst 0, 1) := by decide +kernel
theorem dX8_available_27 : decode cX8_available 27 = .ok (.ireturn, 1) := by decide +kernel
theorem dX8_available_28 : decode cX8_available 28 = .ok (.iconst 0, 1) := by decide +kernel
theorem dX8_available_29 : decode cX8_available 29 = .ok (.istore_n 3, 1) := by decide +kernel
theorem dX8_available_30 : decode cX8_available 30 = .ok (.sipush 1000, 3) := by decide +kernel
theorem dX8_available_33 : decode cX8_available 33 = .ok (.istore 4, 2) := by decide +kernel
theorem dX8_available_35 : decode cX8_available 35 = .ok (.aload_n 0, 1) := by decide +kernel
theorem dX8_available_36 : decode cX8_available 36 = .ok (.invokevirtual 83, 3) := by decide +kernel
theorem dX8_available_39 : decode cX8_available 39 = .ok (.iconst 0, 1) := by decide +kernel
theorem dX8_available_40 : decode cX8_available 40 = .ok (.istore 5, 2) := by decide +kernel
theorem dX8_available_42 : decode cX8_available 42 = .ok (.iload 5, 2) := by decide +kernel
theorem dX8_available_44 : decode cX8_available 44 = .ok (.aload_n 0, 1) := by decide +kernel
theorem dX8_available_45 : decode cX8_available 45 = .ok (.getfield 80, 3) := by decide +kernel
theorem dX8_available_48 : decode cX8_available 48 = .ok (.if_icmp .gt 132, 3) := by decide +kernel
theorem dX8_available_51 : decode cX8_available 51 = .ok (.iload 5, 2) := by decide +kernel
theorem dX8_available_53 : decode cX8_available 53 = .ok (.aload_n 0, 1) := by decide +kernel
theorem dX8_available_54 : decode cX8_available 54 = .ok (.getfield 80, 3) := by decide +kernel
theorem dX8_available_57 : decode cX8_available 57 = .ok (.if_icmp .ge 13, 3) := by decide +kernel
theorem dX8_available_60 : decode cX8_available 60 = .ok (.aload_n 0, 1) := by decide +kernel
theorem dX8_available_61 : decode cX8_available 61 = .ok (.getfield 43, 3) := by decide +kernel
theorem dX8_available_64 : decode cX8_available 64 = .ok (.iload 5, 2) := by decide +kernel
theorem dX8_available_66 : decode cX8_available 66 = .ok (.iaload, 1) := by decide +kernel
theorem dX8_available_67 : decode cX8_available 67 = .ok (.goto 4, 3) := by decide +kernel
theorem dX8_available_70 : decode cX8_available 70 = .ok (.iconst (-1), 1) := by decide +kernel
theorem dX8_available_71 : decode cX8_available 71 = .ok (.istore 6, 2) := by decide +kernel
theorem dX8_available_73 : decode cX8_available 73 = .ok (.iload 6, 2) := by decide +kernel
theorem dX8_available_75 : decode cX8_available 75 = .ok (.iconst (-1), 1) := by decide +kernel
theorem dX8_available_76 : decode cX8_available 76 = .ok (.if_icmp .eq 14, 3) := by decide +kernel
theorem dX8_available_79 : decode cX8_available 79 = .ok (.aload_n 0, 1) := by decide +kernel
theorem dX8_available_80 : decode cX8_available 80 = .ok (.getfield 13, 3) := by decide +kernel
theorem dX8_available_83 : decode cX8_available 83 = .ok (.iload 6, 2) := by decide +kernel
theorem dX8_available_85 : decode cX8_available 85 = .ok (.iaload, 1) := by decide +kernel
theorem dX8_available_86 : decode cX8_available 86 = .ok (.iload_n 2, 1) := by decide +kernel
theorem dX8_available_87 : decode cX8_available 87 = .ok (.if_icmp .le 7, 3) := by decide +kernel
theorem dX8_available_90 : decode cX8_available 90 = .ok (.iconst 1, 1) := by decide +kernel
theorem dX8_available_91 : decode cX8_available 91 = .ok (.goto 4, 3) := by decide +kernel
theorem dX8_available_94 : decode cX8_available 94 = .ok (.iconst 0, 1) := by decide +kernel
theorem dX8_available_95 : decode cX8_available 95 = .ok (.istore 7, 2) := by decide +kernel
theorem dX8_available_97 : decode cX8_available 97 = .ok (.iload 6, 2) := by decide +kernel
theorem dX8_available_99 : decode cX8_available 99 = .ok (.iconst (-1), 1) := by decide +kernel
theorem dX8_available_100 : decode cX8_available 100 = .ok (.if_icmp .ne 7, 3) := by decide +kernel
theorem dX8_available_103 : decode cX8_available 103 = .ok (.iload_n 3, 1) := by decide +kernel
theorem dX8_available_104 : decode cX8_available 104 = .ok (.goto 27, 3) := by decide +kernel
theorem dX8_available_107 : decode cX8_available 107 = .ok (.aload_n 0, 1) := by decide +kernel
theorem dX8_available_108 : decode cX8_available 108 = .ok (.iload 6, 2) := by decide +kernel
theorem dX8_available_110 : decode cX8_available 110 = .ok (.iload_n 1, 1) := by decide +kernel
theorem dX8_available_111 : decode cX8_available 111 = .ok (.invokevirtual 86, 3) := by decide +kernel
theorem dX8_available_114 : decode cX8_available 114 = .ok (.ifCond .eq 15, 3) := by decide +kernel
theorem dX8_available_117 : decode cX8_available 117 = .ok (.iload_n 3, 1) := by decide +kernel
theorem dX8_available_118 : decode cX8_available 118 = .ok (.aload_n 0, 1) := by decide +kernel
theorem dX8_available_119 : decode cX8_available 119 = .ok (.getfield 19, 3) := by decide +kernel
theorem dX8_available_122 : decode cX8_available 122 = .ok (.iload 6, 2) := by decide +kernel
theorem dX8_available_124 : decode cX8_available 124 = .ok (.iaload, 1) := by decide +kernel
theorem dX8_available_125 : decode cX8_available 125 = .ok (.isub, 1) := by decide +kernel
theorem dX8_available_126 : decode cX8_available 126 = .ok (.goto 5, 3) := by decide +kernel
theorem dX8_available_129 : decode cX8_available 129 = .ok (.iload 4, 2) := by decide +kernel
theorem dX8_available_131 : decode cX8_available 131 = .ok (.istore 8, 2) := by decide +kernel
theorem dX8_available_133 : decode cX8_available 133 = .ok (.iload 7, 2) := by decide +kernel
theorem dX8_available_135 : decode cX8_available 135 = .ok (.ifCond .eq 15, 3) := by decide +kernel
theorem dX8_available_138 : decode cX8_available 138 = .ok (.iload 8, 2) := by decide +kernel
theorem dX8_available_140 : decode cX8_available 140 = .ok (.iload 4, 2) := by decide +kernel
theorem dX8_available_142 : decode cX8_available 142 = .ok (.if_icmp .ge 8, 3) := by decide +kernel
theorem dX8_available_145 : decode cX8_available 145 = .ok (.iload 8, 2) := by decide +kernel
theorem dX8_available_147 : decode cX8_available 147 = .ok (.goto 5, 3) := by decide +kernel
theorem dX8_available_150 : decode cX8_available 150 = .ok (.iload 4, 2) := by decide +kernel
theorem dX8_available_152 : decode cX8_available 152 = .ok (.istore 4, 2) := by decide +kernel
theorem dX8_available_154 : decode cX8_available 154 = .ok (.iload_n 3, 1) := by decide +kernel
theorem dX8_available_155 : decode cX8_available 155 = .ok (.iload 6, 2) := by decide +kernel
theorem dX8_available_157 : decode cX8_available 157 = .ok (.iconst (-1), 1) := by decide +kernel
theorem dX8_available_158 : decode cX8_available 158 = .ok (.if_icmp .ne 7, 3) := by decide +kernel
theorem dX8_available_161 : decode cX8_available 161 = .ok (.iconst 0, 1) := by decide +kernel
theorem dX8_available_162 : decode cX8_available 162 = .ok (.goto 10, 3) := by decide +kernel
theorem dX8_available_165 : decode cX8_available 165 = .ok (.aload_n 0, 1) := by decide +kernel
theorem dX8_available_166 : decode cX8_available 166 = .ok (.iload 6, 2) := by decide +kernel
theorem dX8_available_168 : decode cX8_available 168 = .ok (.iload_n 1, 1) := by decide +kernel
theorem dX8_available_169 : decode cX8_available 169 = .ok (.invokevirtual 90, 3) := by decide +kernel
theorem dX8_available_172 : decode cX8_available 172 = .ok (.iadd, 1) := by decide +kernel
theorem dX8_available_173 : decode cX8_available 173 = .ok (.istore_n 3, 1) := by decide +kernel
theorem dX8_available_174 : decode cX8_available 174 = .ok (.iinc 5 1, 3) := by decide +kernel
theorem dX8_available_177 : decode cX8_available 177 = .ok (.goto (-135), 3) := by decide +kernel
theorem dX8_available_180 : decode cX8_available 180 = .ok (.iload 4, 2) := by decide +kernel
theorem dX8_available_182 : decode cX8_available 182 = .ok (.aload_n 0, 1) := by decide +kernel
theorem dX8_available_183 : decode cX8_available 183 = .ok (.iload_n 1, 1) := by decide +kernel
theorem dX8_available_184 : decode cX8_available 184 = .ok (.iload_n 2, 1) := by decide +kernel
theorem dX8_available_185 : decode cX8_available 185 = .ok (.invokevirtual 202, 3) := by decide +kernel
theorem dX8_available_188 : decode cX8_available 188 = .ok (.if_icmp .ge 8, 3) := by decide +kernel
theorem dX8_available_191 : decode cX8_available 191 = .ok (.iload 4, 2) := by decide +kernel
theorem dX8_available_193 : decode cX8_available 193 = .ok (.goto 9, 3) := by decide +kernel
theorem dX8_available_196 : decode cX8_available 196 = .ok (.aload_n 0, 1) := by decide +kernel
theorem dX8_available_197 : decode cX8_available 197 = .ok (.iload_n 1, 1) := by decide +kernel
theorem dX8_available_198 : decode cX8_available 198 = .ok (.iload_n 2, 1) := by decide +kernel
theorem dX8_available_199 : decode cX8_available 199 = .ok (.invokevirtual 202, 3) := by decide +kernel
theorem dX8_available_202 : decode cX8_available 202 = .ok (.ireturn, 1) := by decide +kernel
theorem dX8_handAt_0 : decode cX8_handAt 0 = .ok (.iconst 0, 1) := by decide +kernel
theorem dX8_handAt_1 : decode cX8_handAt 1 = .ok (.istore_n 3, 1) := by decide +kernel
theorem dX8_handAt_2 : decode cX8_handAt 2 = .ok (.iconst 0, 1) := by decide +kernel
theorem dX8_handAt_3 : decode cX8_handAt 3 = .ok (.istore 4, 2) := by decide +kernel
theorem dX8_handAt_5 : decode cX8_handAt 5 = .ok (.iload 4, 2) := by decide +kernel
theorem dX8_handAt_7 : decode cX8_handAt 7 = .ok (.aload_n 0, 1) := by decide +kernel
theorem dX8_handAt_8 : decode cX8_handAt 8 = .ok (.getfield 80, 3) := by decide +kernel
theorem dX8_handAt_11 : decode cX8_handAt 11 = .ok (.if_icmp .ge 40, 3) := by decide +kernel
theorem dX8_handAt_14 : decode cX8_handAt 14 = .ok (.aload_n 0, 1) := by decide +kernel
theorem dX8_handAt_15 : decode cX8_handAt 15 = .ok (.getfield 13, 3) := by decide +kernel
theorem dX8_handAt_18 : decode cX8_handAt 18 = .ok (.aload_n 0, 1) := by decide +kernel
theorem dX8_handAt_19 : decode cX8_handAt 19 = .ok (.getfield 43, 3) := by decide +kernel
theorem dX8_handAt_22 : decode cX8_handAt 22 = .ok (.iload 4, 2) := by decide +kernel
theorem dX8_handAt_24 : decode cX8_handAt 24 = .ok (.iaload, 1) := by decide +kernel
theorem dX8_handAt_25 : decode cX8_handAt 25 = .ok (.iaload, 1) := by decide +kernel
theorem dX8_handAt_26 : decode cX8_handAt 26 = .ok (.iload_n 2, 1) := by decide +kernel
theorem dX8_handAt_27 : decode cX8_handAt 27 = .ok (.if_icmp .gt 24, 3) := by decide +kernel
theorem dX8_handAt_30 : decode cX8_handAt 30 = .ok (.iload_n 3, 1) := by decide +kernel
theorem dX8_handAt_31 : decode cX8_handAt 31 = .ok (.aload_n 0, 1) := by decide +kernel
theorem dX8_handAt_32 : decode cX8_handAt 32 = .ok (.aload_n 0, 1) := by decide +kernel
theorem dX8_handAt_33 : decode cX8_handAt 33 = .ok (.getfield 43, 3) := by decide +kernel
theorem dX8_handAt_36 : decode cX8_handAt 36 = .ok (.iload 4, 2) := by decide +kernel
theorem dX8_handAt_38 : decode cX8_handAt 38 = .ok (.iaload, 1) := by decide +kernel
theorem dX8_handAt_39 : decode cX8_handAt 39 = .ok (.iload_n 1, 1) := by decide +kernel
theorem dX8_handAt_40 : decode cX8_handAt 40 = .ok (.invokevirtual 90, 3) := by decide +kernel
theorem dX8_handAt_43 : decode cX8_handAt 43 = .ok (.iadd, 1) := by decide +kernel
theorem dX8_handAt_44 : decode cX8_handAt 44 = .ok (.istore_n 3, 1) := by decide +kernel
theorem dX8_handAt_45 : decode cX8_handAt 45 = .ok (.iinc 4 1, 3) := by decide +kernel
theorem dX8_handAt_48 : decode cX8_handAt 48 = .ok (.goto (-43), 3) := by decide +kernel
theorem dX8_handAt_51 : decode cX8_handAt 51 = .ok (.iload_n 3, 1) := by decide +kernel
theorem dX8_handAt_52 : decode cX8_handAt 52 = .ok (.sipush 1000, 3) := by decide +kernel
theorem dX8_handAt_55 : decode cX8_handAt 55 = .ok (.if_icmp .ge 7, 3) := by decide +kernel
theorem dX8_handAt_58 : decode cX8_handAt 58 = .ok (.iload_n 3, 1) := by decide +kernel
theorem dX8_handAt_59 : decode cX8_handAt 59 = .ok (.goto 6, 3) := by decide +kernel
theorem dX8_handAt_62 : decode cX8_handAt 62 = .ok (.sipush 1000, 3) := by decide +kernel
theorem dX8_handAt_65 : decode cX8_handAt 65 = .ok (.ireturn, 1) := by decide +kernel
theorem dX8_value_0 : decode cX8_value 0 = .ok (.aload_n 0, 1) := by decide +kernel
theorem dX8_value_1 : decode cX8_value 1 = .ok (.iload_n 1, 1) := by decide +kernel
theorem dX8_value_2 : decode cX8_value 2 = .ok (.iload_n 2, 1) := by decide +kernel
theorem dX8_value_3 : decode cX8_value 3 = .ok (.invokevirtual 199, 3) := by decide +kernel
theorem dX8_value_6 : decode cX8_value 6 = .ok (.ifCond .ne 5, 3) := by decide +kernel
theorem dX8_value_9 : decode cX8_value 9 = .ok (.lconst 0, 1) := by decide +kernel
theorem dX8_value_10 : decode cX8_value 10 = .ok (.lreturn, 1) := by decide +kernel
theorem dX8_value_11 : decode cX8_value 11 = .ok (.lconst 0, 1) := by decide +kernel
theorem dX8_value_12 : decode cX8_value 12 = .ok (.lstore 4, 2) := by decide +kernel
theorem dX8_value_14 : decode cX8_value 14 = .ok (.iconst 0, 1) := by decide +kernel
theorem dX8_value_15 : decode cX8_value 15 = .ok (.istore 6, 2) := by decide +kernel
theorem dX8_value_17 : decode cX8_value 17 = .ok (.iload 6, 2) := by decide +kernel
theorem dX8_value_19 : decode cX8_value 19 = .ok (.aload_n 0, 1) := by decide +kernel
theorem dX8_value_20 : decode cX8_value 20 = .ok (.getfield 161, 3) := by decide +kernel
theorem dX8_value_23 : decode cX8_value 23 = .ok (.if_icmp .ge 21, 3) := by decide +kernel
theorem dX8_value_26 : decode cX8_value 26 = .ok (.lload 4, 2) := by decide +kernel
theorem dX8_value_28 : decode cX8_value 28 = .ok (.aload_n 0, 1) := by decide +kernel
theorem dX8_value_29 : decode cX8_value 29 = .ok (.getfield 61, 3) := by decide +kernel
theorem dX8_value_32 : decode cX8_value 32 = .ok (.iload 6, 2) := by decide +kernel
theorem dX8_value_34 : decode cX8_value 34 = .ok (.laload, 1) := by decide +kernel
theorem dX8_value_35 : decode cX8_value 35 = .ok (.ladd, 1) := by decide +kernel
theorem dX8_value_36 : decode cX8_value 36 = .ok (.lstore 4, 2) := by decide +kernel
theorem dX8_value_38 : decode cX8_value 38 = .ok (.iinc 6 1, 3) := by decide +kernel
theorem dX8_value_41 : decode cX8_value 41 = .ok (.goto (-24), 3) := by decide +kernel
theorem dX8_value_44 : decode cX8_value 44 = .ok (.iload_n 3, 1) := by decide +kernel
theorem dX8_value_45 : decode cX8_value 45 = .ok (.ifCond .eq 10, 3) := by decide +kernel
theorem dX8_value_48 : decode cX8_value 48 = .ok (.aload_n 0, 1) := by decide +kernel
theorem dX8_value_49 : decode cX8_value 49 = .ok (.getfield 178, 3) := by decide +kernel
theorem dX8_value_52 : decode cX8_value 52 = .ok (.goto 5, 3) := by decide +kernel
theorem dX8_value_55 : decode cX8_value 55 = .ok (.lload 4, 2) := by decide +kernel
theorem dX8_value_57 : decode cX8_value 57 = .ok (.lreturn, 1) := by decide +kernel
theorem dX8_received_0 : decode cX8_received 0 = .ok (.aload_n 0, 1) := by decide +kernel
theorem dX8_received_1 : decode cX8_received 1 = .ok (.iload_n 1, 1) := by decide +kernel
theorem dX8_received_2 : decode cX8_received 2 = .ok (.iload_n 2, 1) := by decide +kernel
theorem dX8_received_3 : decode cX8_received 3 = .ok (.invokevirtual 199, 3) := by decide +kernel
theorem dX8_received_6 : decode cX8_received 6 = .ok (.ifCond .eq 10, 3) := by decide +kernel
theorem dX8_received_9 : decode cX8_received 9 = .ok (.aload_n 0, 1) := by decide +kernel
theorem dX8_received_10 : decode cX8_received 10 = .ok (.getfield 171, 3) := by decide +kernel
theorem dX8_received_13 : decode cX8_received 13 = .ok (.goto 4, 3) := by decide +kernel
theorem dX8_received_16 : decode cX8_received 16 = .ok (.lconst 0, 1) := by decide +kernel
theorem dX8_received_17 : decode cX8_received 17 = .ok (.lreturn, 1) := by decide +kernel
theorem dX8_issued_0 : decode cX8_issued 0 = .ok (.aload_n 0, 1) := by decide +kernel
theorem dX8_issued_1 : decode cX8_issued 1 = .ok (.iload_n 1, 1) := by decide +kernel
theorem dX8_issued_2 : decode cX8_issued 2 = .ok (.iload_n 2, 1) := by decide +kernel
theorem dX8_issued_3 : decode cX8_issued 3 = .ok (.invokevirtual 199, 3) := by decide +kernel
theorem dX8_issued_6 : decode cX8_issued 6 = .ok (.ifCond .eq 20, 3) := by decide +kernel
theorem dX8_issued_9 : decode cX8_issued 9 = .ok (.aload_n 0, 1) := by decide +kernel
theorem dX8_issued_10 : decode cX8_issued 10 = .ok (.getfield 46, 3) := by decide +kernel
theorem dX8_issued_13 : decode cX8_issued 13 = .ok (.iload_n 3, 1) := by decide +kernel
theorem dX8_issued_14 : decode cX8_issued 14 = .ok (.ifCond .eq 7, 3) := by decide +kernel
theorem dX8_issued_17 : decode cX8_issued 17 = .ok (.iconst 1, 1) := by decide +kernel
theorem dX8_issued_18 : decode cX8_issued 18 = .ok (.goto 4, 3) := by decide +kernel
theorem dX8_issued_21 : decode cX8_issued 21 = .ok (.iconst 0, 1) := by decide +kernel
theorem dX8_issued_22 : decode cX8_issued 22 = .ok (.laload, 1) := by decide +kernel
theorem dX8_issued_23 : decode cX8_issued 23 = .ok (.goto 4, 3) := by decide +kernel
theorem dX8_issued_26 : decode cX8_issued 26 = .ok (.lconst 0, 1) := by decide +kernel
theorem dX8_issued_27 : decode cX8_issued 27 = .ok (.lreturn, 1) := by decide +kernel
theorem dX8_revalued_0 : decode cX8_revalued 0 = .ok (.aload_n 0, 1) := by decide +kernel
theorem dX8_revalued_1 : decode cX8_revalued 1 = .ok (.iload_n 1, 1) := by decide +kernel
theorem dX8_revalued_2 : decode cX8_revalued 2 = .ok (.iload_n 2, 1) := by decide +kernel
theorem dX8_revalued_3 : decode cX8_revalued 3 = .ok (.invokevirtual 199, 3) := by decide +kernel
theorem dX8_revalued_6 : decode cX8_revalued 6 = .ok (.ifCond .eq 20, 3) := by decide +kernel
theorem dX8_revalued_9 : decode cX8_revalued 9 = .ok (.aload_n 0, 1) := by decide +kernel
theorem dX8_revalued_10 : decode cX8_revalued 10 = .ok (.getfield 49, 3) := by decide +kernel
theorem dX8_revalued_13 : decode cX8_revalued 13 = .ok (.iload_n 3, 1) := by decide +kernel
theorem dX8_revalued_14 : decode cX8_revalued 14 = .ok (.ifCond .eq 7, 3) := by decide +kernel
theorem dX8_revalued_17 : decode cX8_revalued 17 = .ok (.iconst 1, 1) := by decide +kernel
theorem dX8_revalued_18 : decode cX8_revalued 18 = .ok (.goto 4, 3) := by decide +kernel
theorem dX8_revalued_21 : decode cX8_revalued 21 = .ok (.iconst 0, 1) := by decide +kernel
theorem dX8_revalued_22 : decode cX8_revalued 22 = .ok (.laload, 1) := by decide +kernel
theorem dX8_revalued_23 : decode cX8_revalued 23 = .ok (.goto 4, 3) := by decide +kernel
theorem dX8_revalued_26 : decode cX8_revalued 26 = .ok (.lconst 0, 1) := by decide +kernel
theorem dX8_revalued_27 : decode cX8_revalued 27 = .ok (.lreturn, 1) := by decide +kernel
theorem dX8_expensed_0 : decode cX8_expensed 0 = .ok (.aload_n 0, 1) := by decide +kernel
theorem dX8_expensed_1 : decode cX8_expensed 1 = .ok (.iload_n 1, 1) := by decide +kernel
theorem dX8_expensed_2 : decode cX8_expensed 2 = .ok (.iload_n 2, 1) := by decide +kernel
theorem dX8_expensed_3 : decode cX8_expensed 3 = .ok (.invokevirtual 199, 3) := by decide +kernel
theorem dX8_expensed_6 : decode cX8_expensed 6 = .ok (.ifCond .eq 20, 3) := by decide +kernel
theorem dX8_expensed_9 : decode cX8_expensed 9 = .ok (.aload_n 0, 1) := by decide +kernel
theorem dX8_expensed_10 : decode cX8_expensed 10 = .ok (.getfield 52, 3) := by decide +kernel
theorem dX8_expensed_13 : decode cX8_expensed 13 = .ok (.iload_n 3, 1) := by decide +kernel
theorem dX8_expensed_14 : decode cX8_expensed 14 = .ok (.ifCond .eq 7, 3) := by decide +kernel
theorem dX8_expensed_17 : decode cX8_expensed 17 = .ok (.iconst 1, 1) := by decide +kernel
theorem dX8_expensed_18 : decode cX8_expensed 18 = .ok (.goto 4, 3) := by decide +kernel
theorem dX8_expensed_21 : decode cX8_expensed 21 = .ok (.iconst 0, 1) := by decide +kernel
theorem dX8_expensed_22 : decode cX8_expensed 22 = .ok (.laload, 1) := by decide +kernel
theorem dX8_expensed_23 : decode cX8_expensed 23 = .ok (.goto 4, 3) := by decide +kernel
theorem dX8_expensed_26 : decode cX8_expensed 26 = .ok (.lconst 0, 1) := by decide +kernel
theorem dX8_expensed_27 : decode cX8_expensed 27 = .ok (.lreturn, 1) := by decide +kernel
theorem dX8_layers_0 : decode cX8_layers 0 = .ok (.aload_n 0, 1) := by decide +kernel
theorem dX8_layers_1 : decode cX8_layers 1 = .ok (.iload_n 1, 1) := by decide +kernel
theorem dX8_layers_2 : decode cX8_layers 2 = .ok (.iload_n 2, 1) := by decide +kernel
theorem dX8_layers_3 : decode cX8_layers 3 = .ok (.invokevirtual 199, 3) := by decide +kernel
theorem dX8_layers_6 : decode cX8_layers 6 = .ok (.ifCond .eq 10, 3) := by decide +kernel
theorem dX8_layers_9 : decode cX8_layers 9 = .ok (.aload_n 0, 1) := by decide +kernel
theorem dX8_layers_10 : decode cX8_layers 10 = .ok (.getfield 161, 3) := by decide +kernel
theorem dX8_layers_13 : decode cX8_layers 13 = .ok (.goto 4, 3) := by decide +kernel
theorem dX8_layers_16 : decode cX8_layers 16 = .ok (.iconst 0, 1) := by decide +kernel
theorem dX8_layers_17 : decode cX8_layers 17 = .ok (.ireturn, 1) := by decide +kernel
theorem dX8_asksLayer_0 : decode cX8_asksLayer 0 = .ok (.aload_n 0, 1) := by decide +kernel
theorem dX8_asksLayer_1 : decode cX8_asksLayer 1 = .ok (.iload_n 1, 1) := by decide +kernel
theorem dX8_asksLayer_2 : decode cX8_asksLayer 2 = .ok (.iload_n 2, 1) := by decide +kernel
theorem dX8_asksLayer_3 : decode cX8_asksLayer 3 = .ok (.invokevirtual 199, 3) := by decide +kernel
theorem dX8_asksLayer_6 : decode cX8_asksLayer 6 = .ok (.ifCond .eq 33, 3) := by decide +kernel
theorem dX8_asksLayer_9 : decode cX8_asksLayer 9 = .ok (.aload_n 0, 1) := by decide +kernel
theorem dX8_asksLayer_10 : decode cX8_asksLayer 10 = .ok (.iload_n 3, 1) := by decide +kernel
theorem dX8_asksLayer_11 : decode cX8_asksLayer 11 = .ok (.iconst 0, 1) := by decide +kernel
theorem dX8_asksLayer_12 : decode cX8_asksLayer 12 = .ok (.aload_n 0, 1) := by decide +kernel
theorem dX8_asksLayer_13 : decode cX8_asksLayer 13 = .ok (.getfield 161, 3) := by decide +kernel
theorem dX8_asksLayer_16 : decode cX8_asksLayer 16 = .ok (.iconst 1, 1) := by decide +kernel
theorem dX8_asksLayer_17 : decode cX8_asksLayer 17 = .ok (.isub, 1) := by decide +kernel
theorem dX8_asksLayer_18 : decode cX8_asksLayer 18 = .ok (.invokestatic 73, 3) := by decide +kernel
theorem dX8_asksLayer_21 : decode cX8_asksLayer 21 = .ok (.ifCond .eq 7, 3) := by decide +kernel
theorem dX8_asksLayer_24 : decode cX8_asksLayer 24 = .ok (.iconst 0, 1) := by decide +kernel
theorem dX8_asksLayer_25 : decode cX8_asksLayer 25 = .ok (.goto 4, 3) := by decide +kernel
theorem dX8_asksLayer_28 : decode cX8_asksLayer 28 = .ok (.iconst 2, 1) := by decide +kernel
theorem dX8_asksLayer_29 : decode cX8_asksLayer 29 = .ok (.invokevirtual 112, 3) := by decide +kernel
theorem dX8_asksLayer_32 : decode cX8_asksLayer 32 = .ok (.ifCond .eq 7, 3) := by decide +kernel
theorem dX8_asksLayer_35 : decode cX8_asksLayer 35 = .ok (.iconst 1, 1) := by decide +kernel
theorem dX8_asksLayer_36 : decode cX8_asksLayer 36 = .ok (.goto 4, 3) := by decide +kernel
theorem dX8_asksLayer_39 : decode cX8_asksLayer 39 = .ok (.iconst 0, 1) := by decide +kernel
theorem dX8_asksLayer_40 : decode cX8_asksLayer 40 = .ok (.ireturn, 1) := by decide +kernel
theorem dX8_layerQuantity_0 : decode cX8_layerQuantity 0 = .ok (.aload_n 0, 1) := by decide +kernel
theorem dX8_layerQuantity_1 : decode cX8_layerQuantity 1 = .ok (.iload_n 1, 1) := by decide +kernel
theorem dX8_layerQuantity_2 : decode cX8_layerQuantity 2 = .ok (.iload_n 2, 1) := by decide +kernel
theorem dX8_layerQuantity_3 : decode cX8_layerQuantity 3 = .ok (.iload_n 3, 1) := by decide +kernel
theorem dX8_layerQuantity_4 : decode cX8_layerQuantity 4 = .ok (.invokevirtual 205, 3) := by decide +kernel
theorem dX8_layerQuantity_7 : decode cX8_layerQuantity 7 = .ok (.ifCond .eq 12, 3) := by decide +kernel
theorem dX8_layerQuantity_10 : decode cX8_layerQuantity 10 = .ok (.aload_n 0, 1) := by decide +kernel
theorem dX8_layerQuantity_11 : decode cX8_layerQuantity 11 = .ok (.getfield 58, 3) := by decide +kernel
theorem dX8_layerQuantity_14 : decode cX8_layerQuantity 14 = .ok (.iload_n 3, 1) := by decide +kernel
theorem dX8_layerQuantity_15 : decode cX8_layerQuantity 15 = .ok (.iaload, 1) := by decide +kernel
theorem dX8_layerQuantity_16 : decode cX8_layerQuantity 16 = .ok (.goto 4, 3) := by decide +kernel
theorem dX8_layerQuantity_19 : decode cX8_layerQuantity 19 = .ok (.iconst 0, 1) := by decide +kernel
theorem dX8_layerQuantity_20 : decode cX8_layerQuantity 20 = .ok (.ireturn, 1) := by decide +kernel
theorem dX8_layerCost_0 : decode cX8_layerCost 0 = .ok (.aload_n 0, 1) := by decide +kernel
theorem dX8_layerCost_1 : decode cX8_layerCost 1 = .ok (.iload_n 1, 1) := by decide +kernel
theorem dX8_layerCost_2 : decode cX8_layerCost 2 = .ok (.iload_n 2, 1) := by decide +kernel
theorem dX8_layerCost_3 : decode cX8_layerCost 3 = .ok (.iload_n 3, 1) := by decide +kernel
theorem dX8_layerCost_4 : decode cX8_layerCost 4 = .ok (.invokevirtual 205, 3) := by decide +kernel
theorem dX8_layerCost_7 : decode cX8_layerCost 7 = .ok (.ifCond .eq 12, 3) := by decide +kernel
theorem dX8_layerCost_10 : decode cX8_layerCost 10 = .ok (.aload_n 0, 1) := by decide +kernel
theorem dX8_layerCost_11 : decode cX8_layerCost 11 = .ok (.getfield 61, 3) := by decide +kernel
theorem dX8_layerCost_14 : decode cX8_layerCost 14 = .ok (.iload_n 3, 1) := by decide +kernel
theorem dX8_layerCost_15 : decode cX8_layerCost 15 = .ok (.laload, 1) := by decide +kernel
theorem dX8_layerCost_16 : decode cX8_layerCost 16 = .ok (.goto 4, 3) := by decide +kernel
theorem dX8_layerCost_19 : decode cX8_layerCost 19 = .ok (.lconst 0, 1) := by decide +kernel
theorem dX8_layerCost_20 : decode cX8_layerCost 20 = .ok (.lreturn, 1) := by decide +kernel
theorem dX8_layerOrigin_0 : decode cX8_layerOrigin 0 = .ok (.aload_n 0, 1) := by decide +kernel
theorem dX8_layerOrigin_1 : decode cX8_layerOrigin 1 = .ok (.iload_n 1, 1) := by decide +kernel
theorem dX8_layerOrigin_2 : decode cX8_layerOrigin 2 = .ok (.iload_n 2, 1) := by decide +kernel
theorem dX8_layerOrigin_3 : decode cX8_layerOrigin 3 = .ok (.iload_n 3, 1) := by decide +kernel
theorem dX8_layerOrigin_4 : decode cX8_layerOrigin 4 = .ok (.invokevirtual 205, 3) := by decide +kernel
theorem dX8_layerOrigin_7 : decode cX8_layerOrigin 7 = .ok (.ifCond .eq 12, 3) := by decide +kernel
theorem dX8_layerOrigin_10 : decode cX8_layerOrigin 10 = .ok (.aload_n 0, 1) := by decide +kernel
theorem dX8_layerOrigin_11 : decode cX8_layerOrigin 11 = .ok (.getfield 64, 3) := by decide +kernel
theorem dX8_layerOrigin_14 : decode cX8_layerOrigin 14 = .ok (.iload_n 3, 1) := by decide +kernel
theorem dX8_layerOrigin_15 : decode cX8_layerOrigin 15 = .ok (.iaload, 1) := by decide +kernel
theorem dX8_layerOrigin_16 : decode cX8_layerOrigin 16 = .ok (.goto 4, 3) := by decide +kernel
theorem dX8_layerOrigin_19 : decode cX8_layerOrigin 19 = .ok (.iconst 0, 1) := by decide +kernel
theorem dX8_layerOrigin_20 : decode cX8_layerOrigin 20 = .ok (.ireturn, 1) := by decide +kernel
theorem dJ9_min_7cf53_0 : decode cJ9_min_7cf53 0 = .ok (.iload_n 0, 1) := by decide +kernel
theorem dJ9_min_7cf53_1 : decode cJ9_min_7cf53 1 = .ok (.iload_n 1, 1) := by decide +kernel
theorem dJ9_min_7cf53_2 : decode cJ9_min_7cf53 2 = .ok (.if_icmp .gt 7, 3) := by decide +kernel
theorem dJ9_min_7cf53_5 : decode cJ9_min_7cf53 5 = .ok (.iload_n 0, 1) := by decide +kernel
theorem dJ9_min_7cf53_6 : decode cJ9_min_7cf53 6 = .ok (.goto 4, 3) := by decide +kernel
theorem dJ9_min_7cf53_9 : decode cJ9_min_7cf53 9 = .ok (.iload_n 1, 1) := by decide +kernel
theorem dJ9_min_7cf53_10 : decode cJ9_min_7cf53 10 = .ok (.ireturn, 1) := by decide +kernel
theorem dL_receive_0 : decode cL_receive 0 = .ok (.aload 5, 2) := by decide +kernel
theorem dL_receive_2 : decode cL_receive 2 = .ok (.iconst 0, 1) := by decide +kernel
theorem dL_receive_3 : decode cL_receive 3 = .ok (.aload_n 0, 1) := by decide +kernel
theorem dL_receive_4 : decode cL_receive 4 = .ok (.iload_n 1, 1) := by decide +kernel
theorem dL_receive_5 : decode cL_receive 5 = .ok (.iload_n 2, 1) := by decide +kernel
theorem dL_receive_6 : decode cL_receive 6 = .ok (.iload_n 3, 1) := by decide +kernel
theorem dL_receive_7 : decode cL_receive 7 = .ok (.iload 4, 2) := by decide +kernel
theorem dL_receive_9 : decode cL_receive 9 = .ok (.invokevirtual 7, 3) := by decide +kernel
theorem dL_receive_12 : decode cL_receive 12 = .ok (.i2l, 1) := by decide +kernel
theorem dL_receive_13 : decode cL_receive 13 = .ok (.lastore, 1) := by decide +kernel
theorem dL_receive_14 : decode cL_receive 14 = .ok (.goto 11, 3) := by decide +kernel
theorem dL_receive_17 : decode cL_receive 17 = .ok (.astore 6, 2) := by decide +kernel
theorem dL_receive_19 : decode cL_receive 19 = .ok (.iconst 1, 1) := by decide +kernel
theorem dL_receive_20 : decode cL_receive 20 = .ok (.ireturn, 1) := by decide +kernel
theorem dL_receive_21 : decode cL_receive 21 = .ok (.astore 6, 2) := by decide +kernel
theorem dL_receive_23 : decode cL_receive 23 = .ok (.iconst 2, 1) := by decide +kernel
theorem dL_receive_24 : decode cL_receive 24 = .ok (.ireturn, 1) := by decide +kernel
theorem dL_receive_25 : decode cL_receive 25 = .ok (.iconst 0, 1) := by decide +kernel
theorem dL_receive_26 : decode cL_receive 26 = .ok (.ireturn, 1) := by decide +kernel
theorem dL_issue_0 : decode cL_issue 0 = .ok (.aload 4, 2) := by decide +kernel
theorem dL_issue_2 : decode cL_issue 2 = .ok (.iconst 0, 1) := by decide +kernel
theorem dL_issue_3 : decode cL_issue 3 = .ok (.aload_n 0, 1) := by decide +kernel
theorem dL_issue_4 : decode cL_issue 4 = .ok (.iload_n 1, 1) := by decide +kernel
theorem dL_issue_5 : decode cL_issue 5 = .ok (.iload_n 2, 1) := by decide +kernel
theorem dL_issue_6 : decode cL_issue 6 = .ok (.iload_n 3, 1) := by decide +kernel
theorem dL_issue_7 : decode cL_issue 7 = .ok (.invokevirtual 17, 3) := by decide +kernel
theorem dL_issue_10 : decode cL_issue 10 = .ok (.i2l, 1) := by decide +kernel
theorem dL_issue_11 : decode cL_issue 11 = .ok (.lastore, 1) := by decide +kernel
theorem dL_issue_12 : decode cL_issue 12 = .ok (.goto 11, 3) := by decide +kernel
theorem dL_issue_15 : decode cL_issue 15 = .ok (.astore 5, 2) := by decide +kernel
theorem dL_issue_17 : decode cL_issue 17 = .ok (.iconst 1, 1) := by decide +kernel
theorem dL_issue_18 : decode cL_issue 18 = .ok (.ireturn, 1) := by decide +kernel
theorem dL_issue_19 : decode cL_issue 19 = .ok (.astore 5, 2) := by decide +kernel
theorem dL_issue_21 : decode cL_issue 21 = .ok (.iconst 2, 1) := by decide +kernel
theorem dL_issue_22 : decode cL_issue 22 = .ok (.ireturn, 1) := by decide +kernel
theorem dL_issue_23 : decode cL_issue 23 = .ok (.iconst 0, 1) := by decide +kernel
theorem dL_issue_24 : decode cL_issue 24 = .ok (.ireturn, 1) := by decide +kernel
theorem dL_revalue_0 : decode cL_revalue 0 = .ok (.aload 5, 2) := by decide +kernel
theorem dL_revalue_2 : decode cL_revalue 2 = .ok (.iconst 0, 1) := by decide +kernel
theorem dL_revalue_3 : decode cL_revalue 3 = .ok (.aload_n 0, 1) := by decide +kernel
theorem dL_revalue_4 : decode cL_revalue 4 = .ok (.iload_n 1, 1) := by decide +kernel
theorem dL_revalue_5 : decode cL_revalue 5 = .ok (.iload_n 2, 1) := by decide +kernel
theorem dL_revalue_6 : decode cL_revalue 6 = .ok (.iload_n 3, 1) := by decide +kernel
theorem dL_revalue_7 : decode cL_revalue 7 = .ok (.iload 4, 2) := by decide +kernel
theorem dL_revalue_9 : decode cL_revalue 9 = .ok (.invokevirtual 21, 3) := by decide +kernel
theorem dL_revalue_12 : decode cL_revalue 12 = .ok (.i2l, 1) := by decide +kernel
theorem dL_revalue_13 : decode cL_revalue 13 = .ok (.lastore, 1) := by decide +kernel
theorem dL_revalue_14 : decode cL_revalue 14 = .ok (.goto 11, 3) := by decide +kernel
theorem dL_revalue_17 : decode cL_revalue 17 = .ok (.astore 6, 2) := by decide +kernel
theorem dL_revalue_19 : decode cL_revalue 19 = .ok (.iconst 1, 1) := by decide +kernel
theorem dL_revalue_20 : decode cL_revalue 20 = .ok (.ireturn, 1) := by decide +kernel
theorem dL_revalue_21 : decode cL_revalue 21 = .ok (.astore 6, 2) := by decide +kernel
theorem dL_revalue_23 : decode cL_revalue 23 = .ok (.iconst 2, 1) := by decide +kernel
theorem dL_revalue_24 : decode cL_revalue 24 = .ok (.ireturn, 1) := by decide +kernel
theorem dL_revalue_25 : decode cL_revalue 25 = .ok (.iconst 0, 1) := by decide +kernel
theorem dL_revalue_26 : decode cL_revalue 26 = .ok (.ireturn, 1) := by decide +kernel
theorem dL_land_0 : decode cL_land 0 = .ok (.aload 6, 2) := by decide +kernel
theorem dL_land_2 : decode cL_land 2 = .ok (.iconst 0, 1) := by decide +kernel
theorem dL_land_3 : decode cL_land 3 = .ok (.aload_n 0, 1) := by decide +kernel
theorem dL_land_4 : decode cL_land 4 = .ok (.iload_n 1, 1) := by decide +kernel
theorem dL_land_5 : decode cL_land 5 = .ok (.iload_n 2, 1) := by decide +kernel
theorem dL_land_6 : decode cL_land 6 = .ok (.iload_n 3, 1) := by decide +kernel
theorem dL_land_7 : decode cL_land 7 = .ok (.lload 4, 2) := by decide +kernel
theorem dL_land_9 : decode cL_land 9 = .ok (.invokevirtual 24, 3) := by decide +kernel
theorem dL_land_12 : decode cL_land 12 = .ok (.i2l, 1) := by decide +kernel
theorem dL_land_13 : decode cL_land 13 = .ok (.lastore, 1) := by decide +kernel
theorem dL_land_14 : decode cL_land 14 = .ok (.goto 15, 3) := by decide +kernel
theorem dL_land_17 : decode cL_land 17 = .ok (.astore 7, 2) := by decide +kernel
theorem dL_land_19 : decode cL_land 19 = .ok (.iconst 1, 1) := by decide +kernel
theorem dL_land_20 : decode cL_land 20 = .ok (.ireturn, 1) := by decide +kernel
theorem dL_land_21 : decode cL_land 21 = .ok (.astore 7, 2) := by decide +kernel
theorem dL_land_23 : decode cL_land 23 = .ok (.iconst 2, 1) := by decide +kernel
theorem dL_land_24 : decode cL_land 24 = .ok (.ireturn, 1) := by decide +kernel
theorem dL_land_25 : decode cL_land 25 = .ok (.astore 7, 2) := by decide +kernel
theorem dL_land_27 : decode cL_land 27 = .ok (.iconst 3, 1) := by decide +kernel
theorem dL_land_28 : decode cL_land 28 = .ok (.ireturn, 1) := by decide +kernel
theorem dL_land_29 : decode cL_land 29 = .ok (.iconst 0, 1) := by decide +kernel
theorem dL_land_30 : decode cL_land 30 = .ok (.ireturn, 1) := by decide +kernel
theorem dL_cancel_0 : decode cL_cancel 0 = .ok (.aload_n 2, 1) := by decide +kernel
theorem dL_cancel_1 : decode cL_cancel 1 = .ok (.iconst 0, 1) := by decide +kernel
theorem dL_cancel_2 : decode cL_cancel 2 = .ok (.aload_n 0, 1) := by decide +kernel
theorem dL_cancel_3 : decode cL_cancel 3 = .ok (.iload_n 1, 1) := by decide +kernel
theorem dL_cancel_4 : decode cL_cancel 4 = .ok (.invokevirtual 30, 3) := by decide +kernel
theorem dL_cancel_7 : decode cL_cancel 7 = .ok (.i2l, 1) := by decide +kernel
theorem dL_cancel_8 : decode cL_cancel 8 = .ok (.lastore, 1) := by decide +kernel
theorem dL_cancel_9 : decode cL_cancel 9 = .ok (.goto 9, 3) := by decide +kernel
theorem dL_cancel_12 : decode cL_cancel 12 = .ok (.astore_n 3, 1) := by decide +kernel
theorem dL_cancel_13 : decode cL_cancel 13 = .ok (.iconst 1, 1) := by decide +kernel
theorem dL_cancel_14 : decode cL_cancel 14 = .ok (.ireturn, 1) := by decide +kernel
theorem dL_cancel_15 : decode cL_cancel 15 = .ok (.astore_n 3, 1) := by decide +kernel
theorem dL_cancel_16 : decode cL_cancel 16 = .ok (.iconst 2, 1) := by decide +kernel
theorem dL_cancel_17 : decode cL_cancel 17 = .ok (.ireturn, 1) := by decide +kernel
theorem dL_cancel_18 : decode cL_cancel 18 = .ok (.iconst 0, 1) := by decide +kernel
theorem dL_cancel_19 : decode cL_cancel 19 = .ok (.ireturn, 1) := by decide +kernel
theorem dL_close_0 : decode cL_close 0 = .ok (.aload_n 2, 1) := by decide +kernel
theorem dL_close_1 : decode cL_close 1 = .ok (.iconst 0, 1) := by decide +kernel
theorem dL_close_2 : decode cL_close 2 = .ok (.aload_n 0, 1) := by decide +kernel
theorem dL_close_3 : decode cL_close 3 = .ok (.iload_n 1, 1) := by decide +kernel
theorem dL_close_4 : decode cL_close 4 = .ok (.invokevirtual 34, 3) := by decide +kernel
theorem dL_close_7 : decode cL_close 7 = .ok (.i2l, 1) := by decide +kernel
theorem dL_close_8 : decode cL_close 8 = .ok (.lastore, 1) := by decide +kernel
theorem dL_close_9 : decode cL_close 9 = .ok (.goto 9, 3) := by decide +kernel
theorem dL_close_12 : decode cL_close 12 = .ok (.astore_n 3, 1) := by decide +kernel
theorem dL_close_13 : decode cL_close 13 = .ok (.iconst 1, 1) := by decide +kernel
theorem dL_close_14 : decode cL_close 14 = .ok (.ireturn, 1) := by decide +kernel
theorem dL_close_15 : decode cL_close 15 = .ok (.astore_n 3, 1) := by decide +kernel
theorem dL_close_16 : decode cL_close 16 = .ok (.iconst 2, 1) := by decide +kernel
theorem dL_close_17 : decode cL_close 17 = .ok (.ireturn, 1) := by decide +kernel
theorem dL_close_18 : decode cL_close 18 = .ok (.iconst 0, 1) := by decide +kernel
theorem dL_close_19 : decode cL_close 19 = .ok (.ireturn, 1) := by decide +kernel
theorem dL_setWeight_0 : decode cL_setWeight 0 = .ok (.aload_n 3, 1) := by decide +kernel
theorem dL_setWeight_1 : decode cL_setWeight 1 = .ok (.iconst 0, 1) := by decide +kernel
theorem dL_setWeight_2 : decode cL_setWeight 2 = .ok (.aload_n 0, 1) := by decide +kernel
theorem dL_setWeight_3 : decode cL_setWeight 3 = .ok (.iload_n 1, 1) := by decide +kernel
theorem dL_setWeight_4 : decode cL_setWeight 4 = .ok (.iload_n 2, 1) := by decide +kernel
theorem dL_setWeight_5 : decode cL_setWeight 5 = .ok (.invokevirtual 37, 3) := by decide +kernel
theorem dL_setWeight_8 : decode cL_setWeight 8 = .ok (.i2l, 1) := by decide +kernel
theorem dL_setWeight_9 : decode cL_setWeight 9 = .ok (.lastore, 1) := by decide +kernel
theorem dL_setWeight_10 : decode cL_setWeight 10 = .ok (.goto 7, 3) := by decide +kernel
theorem dL_setWeight_13 : decode cL_setWeight 13 = .ok (.astore 4, 2) := by decide +kernel
theorem dL_setWeight_15 : decode cL_setWeight 15 = .ok (.iconst 1, 1) := by decide +kernel
theorem dL_setWeight_16 : decode cL_setWeight 16 = .ok (.ireturn, 1) := by decide +kernel
theorem dL_setWeight_17 : decode cL_setWeight 17 = .ok (.iconst 0, 1) := by decide +kernel
theorem dL_setWeight_18 : decode cL_setWeight 18 = .ok (.ireturn, 1) := by decide +kernel
theorem dL_kindOf_0 : decode cL_kindOf 0 = .ok (.aload_n 2, 1) := by decide +kernel
theorem dL_kindOf_1 : decode cL_kindOf 1 = .ok (.iconst 0, 1) := by decide +kernel
theorem dL_kindOf_2 : decode cL_kindOf 2 = .ok (.aload_n 0, 1) := by decide +kernel
theorem dL_kindOf_3 : decode cL_kindOf 3 = .ok (.iload_n 1, 1) := by decide +kernel
theorem dL_kindOf_4 : decode cL_kindOf 4 = .ok (.invokevirtual 41, 3) := by decide +kernel
theorem dL_kindOf_7 : decode cL_kindOf 7 = .ok (.i2l, 1) := by decide +kernel
theorem dL_kindOf_8 : decode cL_kindOf 8 = .ok (.lastore, 1) := by decide +kernel
theorem dL_kindOf_9 : decode cL_kindOf 9 = .ok (.goto 6, 3) := by decide +kernel
theorem dL_kindOf_12 : decode cL_kindOf 12 = .ok (.astore_n 3, 1) := by decide +kernel
theorem dL_kindOf_13 : decode cL_kindOf 13 = .ok (.iconst 1, 1) := by decide +kernel
theorem dL_kindOf_14 : decode cL_kindOf 14 = .ok (.ireturn, 1) := by decide +kernel
theorem dL_kindOf_15 : decode cL_kindOf 15 = .ok (.iconst 0, 1) := by decide +kernel
theorem dL_kindOf_16 : decode cL_kindOf 16 = .ok (.ireturn, 1) := by decide +kernel
theorem dL_dayOf_0 : decode cL_dayOf 0 = .ok (.aload_n 2, 1) := by decide +kernel
theorem dL_dayOf_1 : decode cL_dayOf 1 = .ok (.iconst 0, 1) := by decide +kernel
theorem dL_dayOf_2 : decode cL_dayOf 2 = .ok (.aload_n 0, 1) := by decide +kernel
theorem dL_dayOf_3 : decode cL_dayOf 3 = .ok (.iload_n 1, 1) := by decide +kernel
theorem dL_dayOf_4 : decode cL_dayOf 4 = .ok (.invokevirtual 44, 3) := by decide +kernel
theorem dL_dayOf_7 : decode cL_dayOf 7 = .ok (.i2l, 1) := by decide +kernel
theorem dL_dayOf_8 : decode cL_dayOf 8 = .ok (.lastore, 1) := by decide +kernel
theorem dL_dayOf_9 : decode cL_dayOf 9 = .ok (.goto 6, 3) := by decide +kernel
theorem dL_dayOf_12 : decode cL_dayOf 12 = .ok (.astore_n 3, 1) := by decide +kernel
theorem dL_dayOf_13 : decode cL_dayOf 13 = .ok (.iconst 1, 1) := by decide +kernel
theorem dL_dayOf_14 : decode cL_dayOf 14 = .ok (.ireturn, 1) := by decide +kernel
theorem dL_dayOf_15 : decode cL_dayOf 15 = .ok (.iconst 0, 1) := by decide +kernel
theorem dL_dayOf_16 : decode cL_dayOf 16 = .ok (.ireturn, 1) := by decide +kernel
theorem dL_isCancelled_0 : decode cL_isCancelled 0 = .ok (.aload_n 2, 1) := by decide +kernel
theorem dL_isCancelled_1 : decode cL_isCancelled 1 = .ok (.iconst 0, 1) := by decide +kernel
theorem dL_isCancelled_2 : decode cL_isCancelled 2 = .ok (.aload_n 0, 1) := by decide +kernel
theorem dL_isCancelled_3 : decode cL_isCancelled 3 = .ok (.iload_n 1, 1) := by decide +kernel
theorem dL_isCancelled_4 : decode cL_isCancelled 4 = .ok (.invokevirtual 47, 3) := by decide +kernel
theorem dL_isCancelled_7 : decode cL_isCancelled 7 = .ok (.ifCond .eq 7, 3) := by decide +kernel
theorem dL_isCancelled_10 : decode cL_isCancelled 10 = .ok (.lconst 1, 1) := by decide +kernel
theorem dL_isCancelled_11 : decode cL_isCancelled 11 = .ok (.goto 4, 3) := by decide +kernel
theorem dL_isCancelled_14 : decode cL_isCancelled 14 = .ok (.lconst 0, 1) := by decide +kernel
theorem dL_isCancelled_15 : decode cL_isCancelled 15 = .ok (.lastore, 1) := by decide +kernel
theorem dL_isCancelled_16 : decode cL_isCancelled 16 = .ok (.goto 6, 3) := by decide +kernel
theorem dL_isCancelled_19 : decode cL_isCancelled 19 = .ok (.astore_n 3, 1) := by decide +kernel
theorem dL_isCancelled_20 : decode cL_isCancelled 20 = .ok (.iconst 1, 1) := by decide +kernel
theorem dL_isCancelled_21 : decode cL_isCancelled 21 = .ok (.ireturn, 1) := by decide +kernel
theorem dL_isCancelled_22 : decode cL_isCancelled 22 = .ok (.iconst 0, 1) := by decide +kernel
theorem dL_isCancelled_23 : decode cL_isCancelled 23 = .ok (.ireturn, 1) := by decide +kernel
theorem dL_placeOf_0 : decode cL_placeOf 0 = .ok (.aload_n 2, 1) := by decide +kernel
theorem dL_placeOf_1 : decode cL_placeOf 1 = .ok (.iconst 0, 1) := by decide +kernel
theorem dL_placeOf_2 : decode cL_placeOf 2 = .ok (.aload_n 0, 1) := by decide +kernel
theorem dL_placeOf_3 : decode cL_placeOf 3 = .ok (.iload_n 1, 1) := by decide +kernel
theorem dL_placeOf_4 : decode cL_placeOf 4 = .ok (.invokevirtual 51, 3) := by decide +kernel
theorem dL_placeOf_7 : decode cL_placeOf 7 = .ok (.i2l, 1) := by decide +kernel
theorem dL_placeOf_8 : decode cL_placeOf 8 = .ok (.lastore, 1) := by decide +kernel
theorem dL_placeOf_9 : decode cL_placeOf 9 = .ok (.goto 6, 3) := by decide +kernel
theorem dL_placeOf_12 : decode cL_placeOf 12 = .ok (.astore_n 3, 1) := by decide +kernel
theorem dL_placeOf_13 : decode cL_placeOf 13 = .ok (.iconst 1, 1) := by decide +kernel
theorem dL_placeOf_14 : decode cL_placeOf 14 = .ok (.ireturn, 1) := by decide +kernel
theorem dL_placeOf_15 : decode cL_placeOf 15 = .ok (.iconst 0, 1) := by decide +kernel
theorem dL_placeOf_16 : decode cL_placeOf 16 = .ok (.ireturn, 1) := by decide +kernel
theorem dL_partOf_0 : decode cL_partOf 0 = .ok (.aload_n 3, 1) := by decide +kernel
theorem dL_partOf_1 : decode cL_partOf 1 = .ok (.iconst 0, 1) := by decide +kernel
theorem dL_partOf_2 : decode cL_partOf 2 = .ok (.aload_n 0, 1) := by decide +kernel
theorem dL_partOf_3 : decode cL_partOf 3 = .ok (.iload_n 1, 1) := by decide +kernel
theorem dL_partOf_4 : decode cL_partOf 4 = .ok (.iload_n 2, 1) := by decide +kernel
theorem dL_partOf_5 : decode cL_partOf 5 = .ok (.invokevirtual 54, 3) := by decide +kernel
theorem dL_partOf_8 : decode cL_partOf 8 = .ok (.i2l, 1) := by decide +kernel
theorem dL_partOf_9 : decode cL_partOf 9 = .ok (.lastore, 1) := by decide +kernel
theorem dL_partOf_10 : decode cL_partOf 10 = .ok (.goto 11, 3) := by decide +kernel
theorem dL_partOf_13 : decode cL_partOf 13 = .ok (.astore 4, 2) := by decide +kernel
theorem dL_partOf_15 : decode cL_partOf 15 = .ok (.iconst 1, 1) := by decide +kernel
theorem dL_partOf_16 : decode cL_partOf 16 = .ok (.ireturn, 1) := by decide +kernel
theorem dL_partOf_17 : decode cL_partOf 17 = .ok (.astore 4, 2) := by decide +kernel
theorem dL_partOf_19 : decode cL_partOf 19 = .ok (.iconst 2, 1) := by decide +kernel
theorem dL_partOf_20 : decode cL_partOf 20 = .ok (.ireturn, 1) := by decide +kernel
theorem dL_partOf_21 : decode cL_partOf 21 = .ok (.iconst 0, 1) := by decide +kernel
theorem dL_partOf_22 : decode cL_partOf 22 = .ok (.ireturn, 1) := by decide +kernel
theorem dL_costOf_0 : decode cL_costOf 0 = .ok (.aload_n 3, 1) := by decide +kernel
theorem dL_costOf_1 : decode cL_costOf 1 = .ok (.iconst 0, 1) := by decide +kernel
theorem dL_costOf_2 : decode cL_costOf 2 = .ok (.aload_n 0, 1) := by decide +kernel
theorem dL_costOf_3 : decode cL_costOf 3 = .ok (.iload_n 1, 1) := by decide +kernel
theorem dL_costOf_4 : decode cL_costOf 4 = .ok (.iload_n 2, 1) := by decide +kernel
theorem dL_costOf_5 : decode cL_costOf 5 = .ok (.invokevirtual 57, 3) := by decide +kernel
theorem dL_costOf_8 : decode cL_costOf 8 = .ok (.lastore, 1) := by decide +kernel
theorem dL_costOf_9 : decode cL_costOf 9 = .ok (.goto 11, 3) := by decide +kernel
theorem dL_costOf_12 : decode cL_costOf 12 = .ok (.astore 4, 2) := by decide +kernel
theorem dL_costOf_14 : decode cL_costOf 14 = .ok (.iconst 1, 1) := by decide +kernel
theorem dL_costOf_15 : decode cL_costOf 15 = .ok (.ireturn, 1) := by decide +kernel
theorem dL_costOf_16 : decode cL_costOf 16 = .ok (.astore 4, 2) := by decide +kernel
theorem dL_costOf_18 : decode cL_costOf 18 = .ok (.iconst 2, 1) := by decide +kernel
theorem dL_costOf_19 : decode cL_costOf 19 = .ok (.ireturn, 1) := by decide +kernel
theorem dL_costOf_20 : decode cL_costOf 20 = .ok (.iconst 0, 1) := by decide +kernel
theorem dL_costOf_21 : decode cL_costOf 21 = .ok (.ireturn, 1) := by decide +kernel
theorem dL_onHand_0 : decode cL_onHand 0 = .ok (.aload_n 3, 1) := by decide +kernel
theorem dL_onHand_1 : decode cL_onHand 1 = .ok (.iconst 0, 1) := by decide +kernel
theorem dL_onHand_2 : decode cL_onHand 2 = .ok (.aload_n 0, 1) := by decide +kernel
theorem dL_onHand_3 : decode cL_onHand 3 = .ok (.iload_n 1, 1) := by decide +kernel
theorem dL_onHand_4 : decode cL_onHand 4 = .ok (.iload_n 2, 1) := by decide +kernel
theorem dL_onHand_5 : decode cL_onHand 5 = .ok (.invokevirtual 61, 3) := by decide +kernel
theorem dL_onHand_8 : decode cL_onHand 8 = .ok (.i2l, 1) := by decide +kernel
theorem dL_onHand_9 : decode cL_onHand 9 = .ok (.lastore, 1) := by decide +kernel
theorem dL_onHand_10 : decode cL_onHand 10 = .ok (.goto 7, 3) := by decide +kernel
theorem dL_onHand_13 : decode cL_onHand 13 = .ok (.astore 4, 2) := by decide +kernel
theorem dL_onHand_15 : decode cL_onHand 15 = .ok (.iconst 1, 1) := by decide +kernel
theorem dL_onHand_16 : decode cL_onHand 16 = .ok (.ireturn, 1) := by decide +kernel
theorem dL_onHand_17 : decode cL_onHand 17 = .ok (.iconst 0, 1) := by decide +kernel
theorem dL_onHand_18 : decode cL_onHand 18 = .ok (.ireturn, 1) := by decide +kernel
theorem dL_available_0 : decode cL_available 0 = .ok (.aload_n 3, 1) := by decide +kernel
theorem dL_available_1 : decode cL_available 1 = .ok (.iconst 0, 1) := by decide +kernel
theorem dL_available_2 : decode cL_available 2 = .ok (.aload_n 0, 1) := by decide +kernel
theorem dL_available_3 : decode cL_available 3 = .ok (.iload_n 1, 1) := by decide +kernel
theorem dL_available_4 : decode cL_available 4 = .ok (.iload_n 2, 1) := by decide +kernel
theorem dL_available_5 : decode cL_available 5 = .ok (.invokevirtual 64, 3) := by decide +kernel
theorem dL_available_8 : decode cL_available 8 = .ok (.i2l, 1) := by decide +kernel
theorem dL_available_9 : decode cL_available 9 = .ok (.lastore, 1) := by decide +kernel
theorem dL_available_10 : decode cL_available 10 = .ok (.goto 7, 3) := by decide +kernel
theorem dL_available_13 : decode cL_available 13 = .ok (.astore 4, 2) := by decide +kernel
theorem dL_available_15 : decode cL_available 15 = .ok (.iconst 1, 1) := by decide +kernel
theorem dL_available_16 : decode cL_available 16 = .ok (.ireturn, 1) := by decide +kernel
theorem dL_available_17 : decode cL_available 17 = .ok (.iconst 0, 1) := by decide +kernel
theorem dL_available_18 : decode cL_available 18 = .ok (.ireturn, 1) := by decide +kernel
theorem dL_value_0 : decode cL_value 0 = .ok (.aload 4, 2) := by decide +kernel
theorem dL_value_2 : decode cL_value 2 = .ok (.iconst 0, 1) := by decide +kernel
theorem dL_value_3 : decode cL_value 3 = .ok (.aload_n 0, 1) := by decide +kernel
theorem dL_value_4 : decode cL_value 4 = .ok (.iload_n 1, 1) := by decide +kernel
theorem dL_value_5 : decode cL_value 5 = .ok (.iload_n 2, 1) := by decide +kernel
theorem dL_value_6 : decode cL_value 6 = .ok (.iload_n 3, 1) := by decide +kernel
theorem dL_value_7 : decode cL_value 7 = .ok (.invokevirtual 67, 3) := by decide +kernel
theorem dL_value_10 : decode cL_value 10 = .ok (.lastore, 1) := by decide +kernel
theorem dL_value_11 : decode cL_value 11 = .ok (.goto 7, 3) := by decide +kernel
theorem dL_value_14 : decode cL_value 14 = .ok (.astore 5, 2) := by decide +kernel
theorem dL_value_16 : decode cL_value 16 = .ok (.iconst 1, 1) := by decide +kernel
theorem dL_value_17 : decode cL_value 17 = .ok (.ireturn, 1) := by decide +kernel
theorem dL_value_18 : decode cL_value 18 = .ok (.iconst 0, 1) := by decide +kernel
theorem dL_value_19 : decode cL_value 19 = .ok (.ireturn, 1) := by decide +kernel
theorem dL_received_0 : decode cL_received 0 = .ok (.aload_n 3, 1) := by decide +kernel
theorem dL_received_1 : decode cL_received 1 = .ok (.iconst 0, 1) := by decide +kernel
theorem dL_received_2 : decode cL_received 2 = .ok (.aload_n 0, 1) := by decide +kernel
theorem dL_received_3 : decode cL_received 3 = .ok (.iload_n 1, 1) := by decide +kernel
theorem dL_received_4 : decode cL_received 4 = .ok (.iload_n 2, 1) := by decide +kernel
theorem dL_received_5 : decode cL_received 5 = .ok (.invokevirtual 71, 3) := by decide +kernel
theorem dL_received_8 : decode cL_received 8 = .ok (.lastore, 1) := by decide +kernel
theorem dL_received_9 : decode cL_received 9 = .ok (.goto 7, 3) := by decide +kernel
theorem dL_received_12 : decode cL_received 12 = .ok (.astore 4, 2) := by decide +kernel
theorem dL_received_14 : decode cL_received 14 = .ok (.iconst 1, 1) := by decide +kernel
theorem dL_received_15 : decode cL_received 15 = .ok (.ireturn, 1) := by decide +kernel
theorem dL_received_16 : decode cL_received 16 = .ok (.iconst 0, 1) := by decide +kernel
theorem dL_received_17 : decode cL_received 17 = .ok (.ireturn, 1) := by decide +kernel
theorem dL_issued_0 : decode cL_issued 0 = .ok (.aload 4, 2) := by decide +kernel
theorem dL_issued_2 : decode cL_issued 2 = .ok (.iconst 0, 1) := by decide +kernel
theorem dL_issued_3 : decode cL_issued 3 = .ok (.aload_n 0, 1) := by decide +kernel
theorem dL_issued_4 : decode cL_issued 4 = .ok (.iload_n 1, 1) := by decide +kernel
theorem dL_issued_5 : decode cL_issued 5 = .ok (.iload_n 2, 1) := by decide +kernel
theorem dL_issued_6 : decode cL_issued 6 = .ok (.iload_n 3, 1) := by decide +kernel
theorem dL_issued_7 : decode cL_issued 7 = .ok (.invokevirtual 75, 3) := by decide +kernel
theorem dL_issued_10 : decode cL_issued 10 = .ok (.lastore, 1) := by decide +kernel
theorem dL_issued_11 : decode cL_issued 11 = .ok (.goto 7, 3) := by decide +kernel
theorem dL_issued_14 : decode cL_issued 14 = .ok (.astore 5, 2) := by decide +kernel
theorem dL_issued_16 : decode cL_issued 16 = .ok (.iconst 1, 1) := by decide +kernel
theorem dL_issued_17 : decode cL_issued 17 = .ok (.ireturn, 1) := by decide +kernel
theorem dL_issued_18 : decode cL_issued 18 = .ok (.iconst 0, 1) := by decide +kernel
theorem dL_issued_19 : decode cL_issued 19 = .ok (.ireturn, 1) := by decide +kernel
theorem dL_revalued_0 : decode cL_revalued 0 = .ok (.aload 4, 2) := by decide +kernel
theorem dL_revalued_2 : decode cL_revalued 2 = .ok (.iconst 0, 1) := by decide +kernel
theorem dL_revalued_3 : decode cL_revalued 3 = .ok (.aload_n 0, 1) := by decide +kernel
theorem dL_revalued_4 : decode cL_revalued 4 = .ok (.iload_n 1, 1) := by decide +kernel
theorem dL_revalued_5 : decode cL_revalued 5 = .ok (.iload_n 2, 1) := by decide +kernel
theorem dL_revalued_6 : decode cL_revalued 6 = .ok (.iload_n 3, 1) := by decide +kernel
theorem dL_revalued_7 : decode cL_revalued 7 = .ok (.invokevirtual 78, 3) := by decide +kernel
theorem dL_revalued_10 : decode cL_revalued 10 = .ok (.lastore, 1) := by decide +kernel
theorem dL_revalued_11 : decode cL_revalued 11 = .ok (.goto 7, 3) := by decide +kernel
theorem dL_revalued_14 : decode cL_revalued 14 = .ok (.astore 5, 2) := by decide +kernel
theorem dL_revalued_16 : decode cL_revalued 16 = .ok (.iconst 1, 1) := by decide +kernel
theorem dL_revalued_17 : decode cL_revalued 17 = .ok (.ireturn, 1) := by decide +kernel
theorem dL_revalued_18 : decode cL_revalued 18 = .ok (.iconst 0, 1) := by decide +kernel
theorem dL_revalued_19 : decode cL_revalued 19 = .ok (.ireturn, 1) := by decide +kernel
theorem dL_expensed_0 : decode cL_expensed 0 = .ok (.aload 4, 2) := by decide +kernel
theorem dL_expensed_2 : decode cL_expensed 2 = .ok (.iconst 0, 1) := by decide +kernel
theorem dL_expensed_3 : decode cL_expensed 3 = .ok (.aload_n 0, 1) := by decide +kernel
theorem dL_expensed_4 : decode cL_expensed 4 = .ok (.iload_n 1, 1) := by decide +kernel
theorem dL_expensed_5 : decode cL_expensed 5 = .ok (.iload_n 2, 1) := by decide +kernel
theorem dL_expensed_6 : decode cL_expensed 6 = .ok (.iload_n 3, 1) := by decide +kernel
theorem dL_expensed_7 : decode cL_expensed 7 = .ok (.invokevirtual 81, 3) := by decide +kernel
theorem dL_expensed_10 : decode cL_expensed 10 = .ok (.lastore, 1) := by decide +kernel
theorem dL_expensed_11 : decode cL_expensed 11 = .ok (.goto 7, 3) := by decide +kernel
theorem dL_expensed_14 : decode cL_expensed 14 = .ok (.astore 5, 2) := by decide +kernel
theorem dL_expensed_16 : decode cL_expensed 16 = .ok (.iconst 1, 1) := by decide +kernel
theorem dL_expensed_17 : decode cL_expensed 17 = .ok (.ireturn, 1) := by decide +kernel
theorem dL_expensed_18 : decode cL_expensed 18 = .ok (.iconst 0, 1) := by decide +kernel
theorem dL_expensed_19 : decode cL_expensed 19 = .ok (.ireturn, 1) := by decide +kernel
theorem dL_layers_0 : decode cL_layers 0 = .ok (.aload_n 3, 1) := by decide +kernel
theorem dL_layers_1 : decode cL_layers 1 = .ok (.iconst 0, 1) := by decide +kernel
theorem dL_layers_2 : decode cL_layers 2 = .ok (.aload_n 0, 1) := by decide +kernel
theorem dL_layers_3 : decode cL_layers 3 = .ok (.iload_n 1, 1) := by decide +kernel
theorem dL_layers_4 : decode cL_layers 4 = .ok (.iload_n 2, 1) := by decide +kernel
theorem dL_layers_5 : decode cL_layers 5 = .ok (.invokevirtual 84, 3) := by decide +kernel
theorem dL_layers_8 : decode cL_layers 8 = .ok (.i2l, 1) := by decide +kernel
theorem dL_layers_9 : decode cL_layers 9 = .ok (.lastore, 1) := by decide +kernel
theorem dL_layers_10 : decode cL_layers 10 = .ok (.goto 7, 3) := by decide +kernel
theorem dL_layers_13 : decode cL_layers 13 = .ok (.astore 4, 2) := by decide +kernel
theorem dL_layers_15 : decode cL_layers 15 = .ok (.iconst 1, 1) := by decide +kernel
theorem dL_layers_16 : decode cL_layers 16 = .ok (.ireturn, 1) := by decide +kernel
theorem dL_layers_17 : decode cL_layers 17 = .ok (.iconst 0, 1) := by decide +kernel
theorem dL_layers_18 : decode cL_layers 18 = .ok (.ireturn, 1) := by decide +kernel
theorem dL_layerQuantity_0 : decode cL_layerQuantity 0 = .ok (.aload 4, 2) := by decide +kernel
theorem dL_layerQuantity_2 : decode cL_layerQuantity 2 = .ok (.iconst 0, 1) := by decide +kernel
theorem dL_layerQuantity_3 : decode cL_layerQuantity 3 = .ok (.aload_n 0, 1) := by decide +kernel
theorem dL_layerQuantity_4 : decode cL_layerQuantity 4 = .ok (.iload_n 1, 1) := by decide +kernel
theorem dL_layerQuantity_5 : decode cL_layerQuantity 5 = .ok (.iload_n 2, 1) := by decide +kernel
theorem dL_layerQuantity_6 : decode cL_layerQuantity 6 = .ok (.iload_n 3, 1) := by decide +kernel
theorem dL_layerQuantity_7 : decode cL_layerQuantity 7 = .ok (.invokevirtual 87, 3) := by decide +kernel
theorem dL_layerQuantity_10 : decode cL_layerQuantity 10 = .ok (.i2l, 1) := by decide +kernel
theorem dL_layerQuantity_11 : decode cL_layerQuantity 11 = .ok (.lastore, 1) := by decide +kernel
theorem dL_layerQuantity_12 : decode cL_layerQuantity 12 = .ok (.goto 11, 3) := by decide +kernel
theorem dL_layerQuantity_15 : decode cL_layerQuantity 15 = .ok (.astore 5, 2) := by decide +kernel
theorem dL_layerQuantity_17 : decode cL_layerQuantity 17 = .ok (.iconst 1, 1) := by decide +kernel
theorem dL_layerQuantity_18 : decode cL_layerQuantity 18 = .ok (.ireturn, 1) := by decide +kernel
theorem dL_layerQuantity_19 : decode cL_layerQuantity 19 = .ok (.astore 5, 2) := by decide +kernel
theorem dL_layerQuantity_21 : decode cL_layerQuantity 21 = .ok (.iconst 2, 1) := by decide +kernel
theorem dL_layerQuantity_22 : decode cL_layerQuantity 22 = .ok (.ireturn, 1) := by decide +kernel
theorem dL_layerQuantity_23 : decode cL_layerQuantity 23 = .ok (.iconst 0, 1) := by decide +kernel
theorem dL_layerQuantity_24 : decode cL_layerQuantity 24 = .ok (.ireturn, 1) := by decide +kernel
theorem dL_layerCost_0 : decode cL_layerCost 0 = .ok (.aload 4, 2) := by decide +kernel
theorem dL_layerCost_2 : decode cL_layerCost 2 = .ok (.iconst 0, 1) := by decide +kernel
theorem dL_layerCost_3 : decode cL_layerCost 3 = .ok (.aload_n 0, 1) := by decide +kernel
theorem dL_layerCost_4 : decode cL_layerCost 4 = .ok (.iload_n 1, 1) := by decide +kernel
theorem dL_layerCost_5 : decode cL_layerCost 5 = .ok (.iload_n 2, 1) := by decide +kernel
theorem dL_layerCost_6 : decode cL_layerCost 6 = .ok (.iload_n 3, 1) := by decide +kernel
theorem dL_layerCost_7 : decode cL_layerCost 7 = .ok (.invokevirtual 90, 3) := by decide +kernel
theorem dL_layerCost_10 : decode cL_layerCost 10 = .ok (.lastore, 1) := by decide +kernel
theorem dL_layerCost_11 : decode cL_layerCost 11 = .ok (.goto 11, 3) := by decide +kernel
theorem dL_layerCost_14 : decode cL_layerCost 14 = .ok (.astore 5, 2) := by decide +kernel
theorem dL_layerCost_16 : decode cL_layerCost 16 = .ok (.iconst 1, 1) := by decide +kernel
theorem dL_layerCost_17 : decode cL_layerCost 17 = .ok (.ireturn, 1) := by decide +kernel
theorem dL_layerCost_18 : decode cL_layerCost 18 = .ok (.astore 5, 2) := by decide +kernel
theorem dL_layerCost_20 : decode cL_layerCost 20 = .ok (.iconst 2, 1) := by decide +kernel
theorem dL_layerCost_21 : decode cL_layerCost 21 = .ok (.ireturn, 1) := by decide +kernel
theorem dL_layerCost_22 : decode cL_layerCost 22 = .ok (.iconst 0, 1) := by decide +kernel
theorem dL_layerCost_23 : decode cL_layerCost 23 = .ok (.ireturn, 1) := by decide +kernel
theorem dL_layerOrigin_0 : decode cL_layerOrigin 0 = .ok (.aload 4, 2) := by decide +kernel
theorem dL_layerOrigin_2 : decode cL_layerOrigin 2 = .ok (.iconst 0, 1) := by decide +kernel
theorem dL_layerOrigin_3 : decode cL_layerOrigin 3 = .ok (.aload_n 0, 1) := by decide +kernel
theorem dL_layerOrigin_4 : decode cL_layerOrigin 4 = .ok (.iload_n 1, 1) := by decide +kernel
theorem dL_layerOrigin_5 : decode cL_layerOrigin 5 = .ok (.iload_n 2, 1) := by decide +kernel
theorem dL_layerOrigin_6 : decode cL_layerOrigin 6 = .ok (.iload_n 3, 1) := by decide +kernel
theorem dL_layerOrigin_7 : decode cL_layerOrigin 7 = .ok (.invokevirtual 94, 3) := by decide +kernel
theorem dL_layerOrigin_10 : decode cL_layerOrigin 10 = .ok (.i2l, 1) := by decide +kernel
theorem dL_layerOrigin_11 : decode cL_layerOrigin 11 = .ok (.lastore, 1) := by decide +kernel
theorem dL_layerOrigin_12 : decode cL_layerOrigin 12 = .ok (.goto 11, 3) := by decide +kernel
theorem dL_layerOrigin_15 : decode cL_layerOrigin 15 = .ok (.astore 5, 2) := by decide +kernel
theorem dL_layerOrigin_17 : decode cL_layerOrigin 17 = .ok (.iconst 1, 1) := by decide +kernel
theorem dL_layerOrigin_18 : decode cL_layerOrigin 18 = .ok (.ireturn, 1) := by decide +kernel
theorem dL_layerOrigin_19 : decode cL_layerOrigin 19 = .ok (.astore 5, 2) := by decide +kernel
theorem dL_layerOrigin_21 : decode cL_layerOrigin 21 = .ok (.iconst 2, 1) := by decide +kernel
theorem dL_layerOrigin_22 : decode cL_layerOrigin 22 = .ok (.ireturn, 1) := by decide +kernel
theorem dL_layerOrigin_23 : decode cL_layerOrigin 23 = .ok (.iconst 0, 1) := by decide +kernel
theorem dL_layerOrigin_24 : decode cL_layerOrigin 24 = .ok (.ireturn, 1) := by decide +kernel
end
section
theorem dL_law_0 : decode cL_law 0 = .ok (.new 8, 3) := by decide +kernel
theorem dL_law_3 : decode cL_law 3 = .ok (.dup, 1) := by decide +kernel
theorem dL_law_4 : decode cL_law 4 = .ok (.invokespecial 97, 3) := by decide +kernel
theorem dL_law_7 : decode cL_law 7 = .ok (.astore_n 1, 1) := by decide +kernel
theorem dL_law_8 : decode cL_law 8 = .ok (.new 98, 3) := by decide +kernel
theorem dL_law_11 : decode cL_law 11 = .ok (.dup, 1) := by decide +kernel
theorem dL_law_12 : decode cL_law 12 = .ok (.invokespecial 100, 3) := by decide +kernel
theorem dL_law_15 : decode cL_law 15 = .ok (.astore_n 2, 1) := by decide +kernel
theorem dL_law_16 : decode cL_law 16 = .ok (.iconst 1, 1) := by decide +kernel
theorem dL_law_17 : decode cL_law 17 = .ok (.newarray .long, 2) := by decide +kernel
theorem dL_law_19 : decode cL_law 19 = .ok (.astore_n 3, 1) := by decide +kernel
theorem dL_law_20 : decode cL_law 20 = .ok (.iconst 0, 1) := by decide +kernel
theorem dL_law_21 : decode cL_law 21 = .ok (.istore 4, 2) := by decide +kernel
theorem dL_law_23 : decode cL_law 23 = .ok (.iload 4, 2) := by decide +kernel
theorem dL_law_25 : decode cL_law 25 = .ok (.aload_n 0, 1) := by decide +kernel
theorem dL_law_26 : decode cL_law 26 = .ok (.arraylength, 1) := by decide +kernel
theorem dL_law_27 : decode cL_law 27 = .ok (.bipush 6, 2) := by decide +kernel
theorem dL_law_29 : decode cL_law 29 = .ok (.isub, 1) := by decide +kernel
theorem dL_law_30 : decode cL_law 30 = .ok (.if_icmp .gt 1985, 3) := by decide +kernel
theorem dL_law_33 : decode cL_law 33 = .ok (.aload_n 0, 1) := by decide +kernel
theorem dL_law_34 : decode cL_law 34 = .ok (.iload 4, 2) := by decide +kernel
theorem dL_law_36 : decode cL_law 36 = .ok (.iaload, 1) := by decide +kernel
theorem dL_law_37 : decode cL_law 37 = .ok (.bipush 31, 2) := by decide +kernel
theorem dL_law_39 : decode cL_law 39 = .ok (.iand, 1) := by decide +kernel
theorem dL_law_40 : decode cL_law 40 = .ok (.tableswitch 1969 0 24 #[116, 208, 288, 380, 504, 560, 616, 684, 697, 753, 809, 872, 928, 996, 1079, 1147, 1215, 1310, 1377, 1472, 1567, 1662, 1730, 1810, 1889], 116) := by decide +kernel
theorem dL_law_156 : decode cL_law 156 = .ok (.aload_n 1, 1) := by decide +kernel
theorem dL_law_157 : decode cL_law 157 = .ok (.aload_n 0, 1) := by decide +kernel
theorem dL_law_158 : decode cL_law 158 = .ok (.iload 4, 2) := by decide +kernel
theorem dL_law_160 : decode cL_law 160 = .ok (.iconst 1, 1) := by decide +kernel
theorem dL_law_161 : decode cL_law 161 = .ok (.iadd, 1) := by decide +kernel
theorem dL_law_162 : decode cL_law 162 = .ok (.iaload, 1) := by decide +kernel
theorem dL_law_163 : decode cL_law 163 = .ok (.aload_n 0, 1) := by decide +kernel
theorem dL_law_164 : decode cL_law 164 = .ok (.iload 4, 2) := by decide +kernel
theorem dL_law_166 : decode cL_law 166 = .ok (.iconst 2, 1) := by decide +kernel
theorem dL_law_167 : decode cL_law 167 = .ok (.iadd, 1) := by decide +kernel
theorem dL_law_168 : decode cL_law 168 = .ok (.iaload, 1) := by decide +kernel
theorem dL_law_169 : decode cL_law 169 = .ok (.aload_n 0, 1) := by decide +kernel
theorem dL_law_170 : decode cL_law 170 = .ok (.iload 4, 2) := by decide +kernel
theorem dL_law_172 : decode cL_law 172 = .ok (.iconst 3, 1) := by decide +kernel
theorem dL_law_173 : decode cL_law 173 = .ok (.iadd, 1) := by decide +kernel
theorem dL_law_174 : decode cL_law 174 = .ok (.iaload, 1) := by decide +kernel
theorem dL_law_175 : decode cL_law 175 = .ok (.aload_n 0, 1) := by decide +kernel
theorem dL_law_176 : decode cL_law 176 = .ok (.iload 4, 2) := by decide +kernel
theorem dL_law_178 : decode cL_law 178 = .ok (.iconst 4, 1) := by decide +kernel
theorem dL_law_179 : decode cL_law 179 = .ok (.iadd, 1) := by decide +kernel
theorem dL_law_180 : decode cL_law 180 = .ok (.iaload, 1) := by decide +kernel
theorem dL_law_181 : decode cL_law 181 = .ok (.aload_n 3, 1) := by decide +kernel
theorem dL_law_182 : decode cL_law 182 = .ok (.invokestatic 101, 3) := by decide +kernel
theorem dL_law_185 : decode cL_law 185 = .ok (.istore 5, 2) := by decide +kernel
theorem dL_law_187 : decode cL_law 187 = .ok (.aload_n 2, 1) := by decide +kernel
theorem dL_law_188 : decode cL_law 188 = .ok (.aload_n 0, 1) := by decide +kernel
theorem dL_law_189 : decode cL_law 189 = .ok (.iload 4, 2) := by decide +kernel
theorem dL_law_191 : decode cL_law 191 = .ok (.iconst 1, 1) := by decide +kernel
theorem dL_law_192 : decode cL_law 192 = .ok (.iadd, 1) := by decide +kernel
theorem dL_law_193 : decode cL_law 193 = .ok (.iaload, 1) := by decide +kernel
theorem dL_law_194 : decode cL_law 194 = .ok (.aload_n 0, 1) := by decide +kernel
theorem dL_law_195 : decode cL_law 195 = .ok (.iload 4, 2) := by decide +kernel
theorem dL_law_197 : decode cL_law 197 = .ok (.iconst 2, 1) := by decide +kernel
theorem dL_law_198 : decode cL_law 198 = .ok (.iadd, 1) := by decide +kernel
theorem dL_law_199 : decode cL_law 199 = .ok (.iaload, 1) := by decide +kernel
theorem dL_law_200 : decode cL_law 200 = .ok (.aload_n 0, 1) := by decide +kernel
theorem dL_law_201 : decode cL_law 201 = .ok (.iload 4, 2) := by decide +kernel
theorem dL_law_203 : decode cL_law 203 = .ok (.iconst 3, 1) := by decide +kernel
theorem dL_law_204 : decode cL_law 204 = .ok (.iadd, 1) := by decide +kernel
theorem dL_law_205 : decode cL_law 205 = .ok (.iaload, 1) := by decide +kernel
theorem dL_law_206 : decode cL_law 206 = .ok (.aload_n 0, 1) := by decide +kernel
theorem dL_law_207 : decode cL_law 207 = .ok (.iload 4, 2) := by decide +kernel
theorem dL_law_209 : decode cL_law 209 = .ok (.iconst 4, 1) := by decide +kernel
theorem dL_law_210 : decode cL_law 210 = .ok (.iadd, 1) := by decide +kernel
theorem dL_law_211 : decode cL_law 211 = .ok (.iaload, 1) := by decide +kernel
theorem dL_law_212 : decode cL_law 212 = .ok (.invokevirtual 106, 3) := by decide +kernel
theorem dL_law_215 : decode cL_law 215 = .ok (.istore 6, 2) := by decide +kernel
theorem dL_law_217 : decode cL_law 217 = .ok (.aload_n 2, 1) := by decide +kernel
theorem dL_law_218 : decode cL_law 218 = .ok (.invokevirtual 107, 3) := by decide +kernel
theorem dL_law_221 : decode cL_law 221 = .ok (.iload 5, 2) := by decide +kernel
theorem dL_law_223 : decode cL_law 223 = .ok (.if_icmp .eq 5, 3) := by decide +kernel
theorem dL_law_226 : decode cL_law 226 = .ok (.iconst 0, 1) := by decide +kernel
theorem dL_law_227 : decode cL_law 227 = .ok (.ireturn, 1) := by decide +kernel
theorem dL_law_228 : decode cL_law 228 = .ok (.iload 5, 2) := by decide +kernel
theorem dL_law_230 : decode cL_law 230 = .ok (.ifCond .ne 15, 3) := by decide +kernel
theorem dL_law_233 : decode cL_law 233 = .ok (.aload_n 3, 1) := by decide +kernel
theorem dL_law_234 : decode cL_law 234 = .ok (.iconst 0, 1) := by decide +kernel
theorem dL_law_235 : decode cL_law 235 = .ok (.laload, 1) := by decide +kernel
theorem dL_law_236 : decode cL_law 236 = .ok (.iload 6, 2) := by decide +kernel
theorem dL_law_238 : decode cL_law 238 = .ok (.i2l, 1) := by decide +kernel
theorem dL_law_239 : decode cL_law 239 = .ok (.lcmp, 1) := by decide +kernel
theorem dL_law_240 : decode cL_law 240 = .ok (.ifCond .eq 5, 3) := by decide +kernel
theorem dL_law_243 : decode cL_law 243 = .ok (.iconst 0, 1) := by decide +kernel
theorem dL_law_244 : decode cL_law 244 = .ok (.ireturn, 1) := by decide +kernel
theorem dL_law_245 : decode cL_law 245 = .ok (.goto 1764, 3) := by decide +kernel
theorem dL_law_248 : decode cL_law 248 = .ok (.aload_n 1, 1) := by decide +kernel
theorem dL_law_249 : decode cL_law 249 = .ok (.aload_n 0, 1) := by decide +kernel
theorem dL_law_250 : decode cL_law 250 = .ok (.iload 4, 2) := by decide +kernel
theorem dL_law_252 : decode cL_law 252 = .ok (.iconst 1, 1) := by decide +kernel
theorem dL_law_253 : decode cL_law 253 = .ok (.iadd, 1) := by decide +kernel
theorem dL_law_254 : decode cL_law 254 = .ok (.iaload, 1) := by decide +kernel
theorem dL_law_255 : decode cL_law 255 = .ok (.aload_n 0, 1) := by decide +kernel
theorem dL_law_256 : decode cL_law 256 = .ok (.iload 4, 2) := by decide +kernel
theorem dL_law_258 : decode cL_law 258 = .ok (.iconst 2, 1) := by decide +kernel
theorem dL_law_259 : decode cL_law 259 = .ok (.iadd, 1) := by decide +kernel
theorem dL_law_260 : decode cL_law 260 = .ok (.iaload, 1) := by decide +kernel
theorem dL_law_261 : decode cL_law 261 = .ok (.aload_n 0, 1) := by decide +kernel
theorem dL_law_262 : decode cL_law 262 = .ok (.iload 4, 2) := by decide +kernel
theorem dL_law_264 : decode cL_law 264 = .ok (.iconst 3, 1) := by decide +kernel
theorem dL_law_265 : decode cL_law 265 = .ok (.iadd, 1) := by decide +kernel
theorem dL_law_266 : decode cL_law 266 = .ok (.iaload, 1) := by decide +kernel
theorem dL_law_267 : decode cL_law 267 = .ok (.aload_n 3, 1) := by decide +kernel
theorem dL_law_268 : decode cL_law 268 = .ok (.invokestatic 111, 3) := by decide +kernel
theorem dL_law_271 : decode cL_law 271 = .ok (.istore 5, 2) := by decide +kernel
theorem dL_law_273 : decode cL_law 273 = .ok (.aload_n 2, 1) := by decide +kernel
theorem dL_law_274 : decode cL_law 274 = .ok (.aload_n 0, 1) := by decide +kernel
theorem dL_law_275 : decode cL_law 275 = .ok (.iload 4, 2) := by decide +kernel
theorem dL_law_277 : decode cL_law 277 = .ok (.iconst 1, 1) := by decide +kernel
theorem dL_law_278 : decode cL_law 278 = .ok (.iadd, 1) := by decide +kernel
theorem dL_law_279 : decode cL_law 279 = .ok (.iaload, 1) := by decide +kernel
theorem dL_law_280 : decode cL_law 280 = .ok (.aload_n 0, 1) := by decide +kernel
theorem dL_law_281 : decode cL_law 281 = .ok (.iload 4, 2) := by decide +kernel
theorem dL_law_283 : decode cL_law 283 = .ok (.iconst 2, 1) := by decide +kernel
theorem dL_law_284 : decode cL_law 284 = .ok (.iadd, 1) := by decide +kernel
theorem dL_law_285 : decode cL_law 285 = .ok (.iaload, 1) := by decide +kernel
theorem dL_law_286 : decode cL_law 286 = .ok (.aload_n 0, 1) := by decide +kernel
theorem dL_law_287 : decode cL_law 287 = .ok (.iload 4, 2) := by decide +kernel
theorem dL_law_289 : decode cL_law 289 = .ok (.iconst 3, 1) := by decide +kernel
theorem dL_law_290 : decode cL_law 290 = .ok (.iadd, 1) := by decide +kernel
theorem dL_law_291 : decode cL_law 291 = .ok (.iaload, 1) := by decide +kernel
theorem dL_law_292 : decode cL_law 292 = .ok (.invokevirtual 114, 3) := by decide +kernel
theorem dL_law_295 : decode cL_law 295 = .ok (.istore 6, 2) := by decide +kernel
theorem dL_law_297 : decode cL_law 297 = .ok (.aload_n 2, 1) := by decide +kernel
theorem dL_law_298 : decode cL_law 298 = .ok (.invokevirtual 107, 3) := by decide +kernel
theorem dL_law_301 : decode cL_law 301 = .ok (.iload 5, 2) := by decide +kernel
theorem dL_law_303 : decode cL_law 303 = .ok (.if_icmp .eq 5, 3) := by decide +kernel
theorem dL_law_306 : decode cL_law 306 = .ok (.iconst 0, 1) := by decide +kernel
theorem dL_law_307 : decode cL_law 307 = .ok (.ireturn, 1) := by decide +kernel
theorem dL_law_308 : decode cL_law 308 = .ok (.iload 5, 2) := by decide +kernel
theorem dL_law_310 : decode cL_law 310 = .ok (.ifCond .ne 15, 3) := by decide +kernel
theorem dL_law_313 : decode cL_law 313 = .ok (.aload_n 3, 1) := by decide +kernel
theorem dL_law_314 : decode cL_law 314 = .ok (.iconst 0, 1) := by decide +kernel
theorem dL_law_315 : decode cL_law 315 = .ok (.laload, 1) := by decide +kernel
theorem dL_law_316 : decode cL_law 316 = .ok (.iload 6, 2) := by decide +kernel
theorem dL_law_318 : decode cL_law 318 = .ok (.i2l, 1) := by decide +kernel
theorem dL_law_319 : decode cL_law 319 = .ok (.lcmp, 1) := by decide +kernel
theorem dL_law_320 : decode cL_law 320 = .ok (.ifCond .eq 5, 3) := by decide +kernel
theorem dL_law_323 : decode cL_law 323 = .ok (.iconst 0, 1) := by decide +kernel
theorem dL_law_324 : decode cL_law 324 = .ok (.ireturn, 1) := by decide +kernel
theorem dL_law_325 : decode cL_law 325 = .ok (.goto 1684, 3) := by decide +kernel
theorem dL_law_328 : decode cL_law 328 = .ok (.aload_n 1, 1) := by decide +kernel
theorem dL_law_329 : decode cL_law 329 = .ok (.aload_n 0, 1) := by decide +kernel
theorem dL_law_330 : decode cL_law 330 = .ok (.iload 4, 2) := by decide +kernel
theorem dL_law_332 : decode cL_law 332 = .ok (.iconst 1, 1) := by decide +kernel
theorem dL_law_333 : decode cL_law 333 = .ok (.iadd, 1) := by decide +kernel
theorem dL_law_334 : decode cL_law 334 = .ok (.iaload, 1) := by decide +kernel
theorem dL_law_335 : decode cL_law 335 = .ok (.aload_n 0, 1) := by decide +kernel
theorem dL_law_336 : decode cL_law 336 = .ok (.iload 4, 2) := by decide +kernel
theorem dL_law_338 : decode cL_law 338 = .ok (.iconst 2, 1) := by decide +kernel
theorem dL_law_339 : decode cL_law 339 = .ok (.iadd, 1) := by decide +kernel
theorem dL_law_340 : decode cL_law 340 = .ok (.iaload, 1) := by decide +kernel
theorem dL_law_341 : decode cL_law 341 = .ok (.aload_n 0, 1) := by decide +kernel
theorem dL_law_342 : decode cL_law 342 = .ok (.iload 4, 2) := by decide +kernel
theorem dL_law_344 : decode cL_law 344 = .ok (.iconst 3, 1) := by decide +kernel
theorem dL_law_345 : decode cL_law 345 = .ok (.iadd, 1) := by decide +kernel
theorem dL_law_346 : decode cL_law 346 = .ok (.iaload, 1) := by decide +kernel
theorem dL_law_347 : decode cL_law 347 = .ok (.aload_n 0, 1) := by decide +kernel
theorem dL_law_348 : decode cL_law 348 = .ok (.iload 4, 2) := by decide +kernel
theorem dL_law_350 : decode cL_law 350 = .ok (.iconst 4, 1) := by decide +kernel
theorem dL_law_351 : decode cL_law 351 = .ok (.iadd, 1) := by decide +kernel
theorem dL_law_352 : decode cL_law 352 = .ok (.iaload, 1) := by decide +kernel
theorem dL_law_353 : decode cL_law 353 = .ok (.aload_n 3, 1) := by decide +kernel
theorem dL_law_354 : decode cL_law 354 = .ok (.invokestatic 115, 3) := by decide +kernel
theorem dL_law_357 : decode cL_law 357 = .ok (.istore 5, 2) := by decide +kernel
theorem dL_law_359 : decode cL_law 359 = .ok (.aload_n 2, 1) := by decide +kernel
theorem dL_law_360 : decode cL_law 360 = .ok (.aload_n 0, 1) := by decide +kernel
theorem dL_law_361 : decode cL_law 361 = .ok (.iload 4, 2) := by decide +kernel
theorem dL_law_363 : decode cL_law 363 = .ok (.iconst 1, 1) := by decide +kernel
theorem dL_law_364 : decode cL_law 364 = .ok (.iadd, 1) := by decide +kernel
theorem dL_law_365 : decode cL_law 365 = .ok (.iaload, 1) := by decide +kernel
theorem dL_law_366 : decode cL_law 366 = .ok (.aload_n 0, 1) := by decide +kernel
theorem dL_law_367 : decode cL_law 367 = .ok (.iload 4, 2) := by decide +kernel
theorem dL_law_369 : decode cL_law 369 = .ok (.iconst 2, 1) := by decide +kernel
theorem dL_law_370 : decode cL_law 370 = .ok (.iadd, 1) := by decide +kernel
theorem dL_law_371 : decode cL_law 371 = .ok (.iaload, 1) := by decide +kernel
theorem dL_law_372 : decode cL_law 372 = .ok (.aload_n 0, 1) := by decide +kernel
theorem dL_law_373 : decode cL_law 373 = .ok (.iload 4, 2) := by decide +kernel
theorem dL_law_375 : decode cL_law 375 = .ok (.iconst 3, 1) := by decide +kernel
theorem dL_law_376 : decode cL_law 376 = .ok (.iadd, 1) := by decide +kernel
theorem dL_law_377 : decode cL_law 377 = .ok (.iaload, 1) := by decide +kernel
theorem dL_law_378 : decode cL_law 378 = .ok (.aload_n 0, 1) := by decide +kernel
theorem dL_law_379 : decode cL_law 379 = .ok (.iload 4, 2) := by decide +kernel
theorem dL_law_381 : decode cL_law 381 = .ok (.iconst 4, 1) := by decide +kernel
theorem dL_law_382 : decode cL_law 382 = .ok (.iadd, 1) := by decide +kernel
theorem dL_law_383 : decode cL_law 383 = .ok (.iaload, 1) := by decide +kernel
theorem dL_law_384 : decode cL_law 384 = .ok (.invokevirtual 117, 3) := by decide +kernel
theorem dL_law_387 : decode cL_law 387 = .ok (.istore 6, 2) := by decide +kernel
theorem dL_law_389 : decode cL_law 389 = .ok (.aload_n 2, 1) := by decide +kernel
theorem dL_law_390 : decode cL_law 390 = .ok (.invokevirtual 107, 3) := by decide +kernel
theorem dL_law_393 : decode cL_law 393 = .ok (.iload 5, 2) := by decide +kernel
theorem dL_law_395 : decode cL_law 395 = .ok (.if_icmp .eq 5, 3) := by decide +kernel
theorem dL_law_398 : decode cL_law 398 = .ok (.iconst 0, 1) := by decide +kernel
theorem dL_law_399 : decode cL_law 399 = .ok (.ireturn, 1) := by decide +kernel
theorem dL_law_400 : decode cL_law 400 = .ok (.iload 5, 2) := by decide +kernel
theorem dL_law_402 : decode cL_law 402 = .ok (.ifCond .ne 15, 3) := by decide +kernel
theorem dL_law_405 : decode cL_law 405 = .ok (.aload_n 3, 1) := by decide +kernel
theorem dL_law_406 : decode cL_law 406 = .ok (.iconst 0, 1) := by decide +kernel
theorem dL_law_407 : decode cL_law 407 = .ok (.laload, 1) := by decide +kernel
theorem dL_law_408 : decode cL_law 408 = .ok (.iload 6, 2) := by decide +kernel
theorem dL_law_410 : decode cL_law 410 = .ok (.i2l, 1) := by decide +kernel
theorem dL_law_411 : decode cL_law 411 = .ok (.lcmp, 1) := by decide +kernel
theorem dL_law_412 : decode cL_law 412 = .ok (.ifCond .eq 5, 3) := by decide +kernel
theorem dL_law_415 : decode cL_law 415 = .ok (.iconst 0, 1) := by decide +kernel
theorem dL_law_416 : decode cL_law 416 = .ok (.ireturn, 1) := by decide +kernel
theorem dL_law_417 : decode cL_law 417 = .ok (.goto 1592, 3) := by decide +kernel
theorem dL_law_420 : decode cL_law 420 = .ok (.aload_n 1, 1) := by decide +kernel
theorem dL_law_421 : decode cL_law 421 = .ok (.aload_n 0, 1) := by decide +kernel
theorem dL_law_422 : decode cL_law 422 = .ok (.iload 4, 2) := by decide +kernel
theorem dL_law_424 : decode cL_law 424 = .ok (.iconst 1, 1) := by decide +kernel
theorem dL_law_425 : decode cL_law 425 = .ok (.iadd, 1) := by decide +kernel
theorem dL_law_426 : decode cL_law 426 = .ok (.iaload, 1) := by decide +kernel
theorem dL_law_427 : decode cL_law 427 = .ok (.aload_n 0, 1) := by decide +kernel
theorem dL_law_428 : decode cL_law 428 = .ok (.iload 4, 2) := by decide +kernel
theorem dL_law_430 : decode cL_law 430 = .ok (.iconst 2, 1) := by decide +kernel
theorem dL_law_431 : decode cL_law 431 = .ok (.iadd, 1) := by decide +kernel
theorem dL_law_432 : decode cL_law 432 = .ok (.iaload, 1) := by decide +kernel
theorem dL_law_433 : decode cL_law 433 = .ok (.aload_n 0, 1) := by decide +kernel
theorem dL_law_434 : decode cL_law 434 = .ok (.iload 4, 2) := by decide +kernel
theorem dL_law_436 : decode cL_law 436 = .ok (.iconst 3, 1) := by decide +kernel
theorem dL_law_437 : decode cL_law 437 = .ok (.iadd, 1) := by decide +kernel
theorem dL_law_438 : decode cL_law 438 = .ok (.iaload, 1) := by decide +kernel
theorem dL_law_439 : decode cL_law 439 = .ok (.aload_n 0, 1) := by decide +kernel
theorem dL_law_440 : decode cL_law 440 = .ok (.iload 4, 2) := by decide +kernel
theorem dL_law_442 : decode cL_law 442 = .ok (.iconst 4, 1) := by decide +kernel
theorem dL_law_443 : decode cL_law 443 = .ok (.iadd, 1) := by decide +kernel
theorem dL_law_444 : decode cL_law 444 = .ok (.iaload, 1) := by decide +kernel
theorem dL_law_445 : decode cL_law 445 = .ok (.i2l, 1) := by decide +kernel
theorem dL_law_446 : decode cL_law 446 = .ok (.bipush 32, 2) := by decide +kernel
theorem dL_law_448 : decode cL_law 448 = .ok (.lshl, 1) := by decide +kernel
theorem dL_law_449 : decode cL_law 449 = .ok (.aload_n 0, 1) := by decide +kernel
theorem dL_law_450 : decode cL_law 450 = .ok (.iload 4, 2) := by decide +kernel
theorem dL_law_452 : decode cL_law 452 = .ok (.iconst 5, 1) := by decide +kernel
theorem dL_law_453 : decode cL_law 453 = .ok (.iadd, 1) := by decide +kernel
theorem dL_law_454 : decode cL_law 454 = .ok (.iaload, 1) := by decide +kernel
theorem dL_law_455 : decode cL_law 455 = .ok (.i2l, 1) := by decide +kernel
theorem dL_law_456 : decode cL_law 456 = .ok (.ldc2_w 118, 3) := by decide +kernel
theorem dL_law_459 : decode cL_law 459 = .ok (.land, 1) := by decide +kernel
theorem dL_law_460 : decode cL_law 460 = .ok (.lor, 1) := by decide +kernel
theorem dL_law_461 : decode cL_law 461 = .ok (.aload_n 3, 1) := by decide +kernel
theorem dL_law_462 : decode cL_law 462 = .ok (.invokestatic 120, 3) := by decide +kernel
theorem dL_law_465 : decode cL_law 465 = .ok (.istore 5, 2) := by decide +kernel
theorem dL_law_467 : decode cL_law 467 = .ok (.aload_n 2, 1) := by decide +kernel
theorem dL_law_468 : decode cL_law 468 = .ok (.aload_n 0, 1) := by decide +kernel
theorem dL_law_469 : decode cL_law 469 = .ok (.iload 4, 2) := by decide +kernel
theorem dL_law_471 : decode cL_law 471 = .ok (.iconst 1, 1) := by decide +kernel
theorem dL_law_472 : decode cL_law 472 = .ok (.iadd, 1) := by decide +kernel
theorem dL_law_473 : decode cL_law 473 = .ok (.iaload, 1) := by decide +kernel
theorem dL_law_474 : decode cL_law 474 = .ok (.aload_n 0, 1) := by decide +kernel
theorem dL_law_475 : decode cL_law 475 = .ok (.iload 4, 2) := by decide +kernel
theorem dL_law_477 : decode cL_law 477 = .ok (.iconst 2, 1) := by decide +kernel
theorem dL_law_478 : decode cL_law 478 = .ok (.iadd, 1) := by decide +kernel
theorem dL_law_479 : decode cL_law 479 = .ok (.iaload, 1) := by decide +kernel
theorem dL_law_480 : decode cL_law 480 = .ok (.aload_n 0, 1) := by decide +kernel
theorem dL_law_481 : decode cL_law 481 = .ok (.iload 4, 2) := by decide +kernel
theorem dL_law_483 : decode cL_law 483 = .ok (.iconst 3, 1) := by decide +kernel
theorem dL_law_484 : decode cL_law 484 = .ok (.iadd, 1) := by decide +kernel
theorem dL_law_485 : decode cL_law 485 = .ok (.iaload, 1) := by decide +kernel
theorem dL_law_486 : decode cL_law 486 = .ok (.aload_n 0, 1) := by decide +kernel
theorem dL_law_487 : decode cL_law 487 = .ok (.iload 4, 2) := by decide +kernel
theorem dL_law_489 : decode cL_law 489 = .ok (.iconst 4, 1) := by decide +kernel
theorem dL_law_490 : decode cL_law 490 = .ok (.iadd, 1) := by decide +kernel
theorem dL_law_491 : decode cL_law 491 = .ok (.iaload, 1) := by decide +kernel
theorem dL_law_492 : decode cL_law 492 = .ok (.i2l, 1) := by decide +kernel
theorem dL_law_493 : decode cL_law 493 = .ok (.bipush 32, 2) := by decide +kernel
theorem dL_law_495 : decode cL_law 495 = .ok (.lshl, 1) := by decide +kernel
theorem dL_law_496 : decode cL_law 496 = .ok (.aload_n 0, 1) := by decide +kernel
theorem dL_law_497 : decode cL_law 497 = .ok (.iload 4, 2) := by decide +kernel
theorem dL_law_499 : decode cL_law 499 = .ok (.iconst 5, 1) := by decide +kernel
theorem dL_law_500 : decode cL_law 500 = .ok (.iadd, 1) := by decide +kernel
theorem dL_law_501 : decode cL_law 501 = .ok (.iaload, 1) := by decide +kernel
theorem dL_law_502 : decode cL_law 502 = .ok (.i2l, 1) := by decide +kernel
theorem dL_law_503 : decode cL_law 503 = .ok (.ldc2_w 118, 3) := by decide +kernel
theorem dL_law_506 : decode cL_law 506 = .ok (.land, 1) := by decide +kernel
theorem dL_law_507 : decode cL_law 507 = .ok (.lor, 1) := by decide +kernel
theorem dL_law_508 : decode cL_law 508 = .ok (.invokevirtual 123, 3) := by decide +kernel
end
section
theorem dL_law_511 : decode cL_law 511 = .ok (.istore 6, 2) := by decide +kernel
theorem dL_law_513 : decode cL_law 513 = .ok (.aload_n 2, 1) := by decide +kernel
theorem dL_law_514 : decode cL_law 514 = .ok (.invokevirtual 107, 3) := by decide +kernel
theorem dL_law_517 : decode cL_law 517 = .ok (.iload 5, 2) := by decide +kernel
theorem dL_law_519 : decode cL_law 519 = .ok (.if_icmp .eq 5, 3) := by decide +kernel
theorem dL_law_522 : decode cL_law 522 = .ok (.iconst 0, 1) := by decide +kernel
theorem dL_law_523 : decode cL_law 523 = .ok (.ireturn, 1) := by decide +kernel
theorem dL_law_524 : decode cL_law 524 = .ok (.iload 5, 2) := by decide +kernel
theorem dL_law_526 : decode cL_law 526 = .ok (.ifCond .ne 15, 3) := by decide +kernel
theorem dL_law_529 : decode cL_law 529 = .ok (.aload_n 3, 1) := by decide +kernel
theorem dL_law_530 : decode cL_law 530 = .ok (.iconst 0, 1) := by decide +kernel
theorem dL_law_531 : decode cL_law 531 = .ok (.laload, 1) := by decide +kernel
theorem dL_law_532 : decode cL_law 532 = .ok (.iload 6, 2) := by decide +kernel
theorem dL_law_534 : decode cL_law 534 = .ok (.i2l, 1) := by decide +kernel
theorem dL_law_535 : decode cL_law 535 = .ok (.lcmp, 1) := by decide +kernel
theorem dL_law_536 : decode cL_law 536 = .ok (.ifCond .eq 5, 3) := by decide +kernel
theorem dL_law_539 : decode cL_law 539 = .ok (.iconst 0, 1) := by decide +kernel
theorem dL_law_540 : decode cL_law 540 = .ok (.ireturn, 1) := by decide +kernel
theorem dL_law_541 : decode cL_law 541 = .ok (.goto 1468, 3) := by decide +kernel
theorem dL_law_544 : decode cL_law 544 = .ok (.aload_n 1, 1) := by decide +kernel
theorem dL_law_545 : decode cL_law 545 = .ok (.aload_n 0, 1) := by decide +kernel
theorem dL_law_546 : decode cL_law 546 = .ok (.iload 4, 2) := by decide +kernel
theorem dL_law_548 : decode cL_law 548 = .ok (.iconst 1, 1) := by decide +kernel
theorem dL_law_549 : decode cL_law 549 = .ok (.iadd, 1) := by decide +kernel
theorem dL_law_550 : decode cL_law 550 = .ok (.iaload, 1) := by decide +kernel
theorem dL_law_551 : decode cL_law 551 = .ok (.aload_n 3, 1) := by decide +kernel
theorem dL_law_552 : decode cL_law 552 = .ok (.invokestatic 124, 3) := by decide +kernel
theorem dL_law_555 : decode cL_law 555 = .ok (.istore 5, 2) := by decide +kernel
theorem dL_law_557 : decode cL_law 557 = .ok (.aload_n 2, 1) := by decide +kernel
theorem dL_law_558 : decode cL_law 558 = .ok (.aload_n 0, 1) := by decide +kernel
theorem dL_law_559 : decode cL_law 559 = .ok (.iload 4, 2) := by decide +kernel
theorem dL_law_561 : decode cL_law 561 = .ok (.iconst 1, 1) := by decide +kernel
theorem dL_law_562 : decode cL_law 562 = .ok (.iadd, 1) := by decide +kernel
theorem dL_law_563 : decode cL_law 563 = .ok (.iaload, 1) := by decide +kernel
theorem dL_law_564 : decode cL_law 564 = .ok (.invokevirtual 127, 3) := by decide +kernel
theorem dL_law_567 : decode cL_law 567 = .ok (.istore 6, 2) := by decide +kernel
theorem dL_law_569 : decode cL_law 569 = .ok (.aload_n 2, 1) := by decide +kernel
theorem dL_law_570 : decode cL_law 570 = .ok (.invokevirtual 107, 3) := by decide +kernel
theorem dL_law_573 : decode cL_law 573 = .ok (.iload 5, 2) := by decide +kernel
theorem dL_law_575 : decode cL_law 575 = .ok (.if_icmp .eq 5, 3) := by decide +kernel
theorem dL_law_578 : decode cL_law 578 = .ok (.iconst 0, 1) := by decide +kernel
theorem dL_law_579 : decode cL_law 579 = .ok (.ireturn, 1) := by decide +kernel
theorem dL_law_580 : decode cL_law 580 = .ok (.iload 5, 2) := by decide +kernel
theorem dL_law_582 : decode cL_law 582 = .ok (.ifCond .ne 15, 3) := by decide +kernel
theorem dL_law_585 : decode cL_law 585 = .ok (.aload_n 3, 1) := by decide +kernel
theorem dL_law_586 : decode cL_law 586 = .ok (.iconst 0, 1) := by decide +kernel
theorem dL_law_587 : decode cL_law 587 = .ok (.laload, 1) := by decide +kernel
theorem dL_law_588 : decode cL_law 588 = .ok (.iload 6, 2) := by decide +kernel
theorem dL_law_590 : decode cL_law 590 = .ok (.i2l, 1) := by decide +kernel
theorem dL_law_591 : decode cL_law 591 = .ok (.lcmp, 1) := by decide +kernel
theorem dL_law_592 : decode cL_law 592 = .ok (.ifCond .eq 5, 3) := by decide +kernel
theorem dL_law_595 : decode cL_law 595 = .ok (.iconst 0, 1) := by decide +kernel
theorem dL_law_596 : decode cL_law 596 = .ok (.ireturn, 1) := by decide +kernel
theorem dL_law_597 : decode cL_law 597 = .ok (.goto 1412, 3) := by decide +kernel
theorem dL_law_600 : decode cL_law 600 = .ok (.aload_n 1, 1) := by decide +kernel
theorem dL_law_601 : decode cL_law 601 = .ok (.aload_n 0, 1) := by decide +kernel
theorem dL_law_602 : decode cL_law 602 = .ok (.iload 4, 2) := by decide +kernel
theorem dL_law_604 : decode cL_law 604 = .ok (.iconst 1, 1) := by decide +kernel
theorem dL_law_605 : decode cL_law 605 = .ok (.iadd, 1) := by decide +kernel
theorem dL_law_606 : decode cL_law 606 = .ok (.iaload, 1) := by decide +kernel
theorem dL_law_607 : decode cL_law 607 = .ok (.aload_n 3, 1) := by decide +kernel
theorem dL_law_608 : decode cL_law 608 = .ok (.invokestatic 128, 3) := by decide +kernel
theorem dL_law_611 : decode cL_law 611 = .ok (.istore 5, 2) := by decide +kernel
theorem dL_law_613 : decode cL_law 613 = .ok (.aload_n 2, 1) := by decide +kernel
theorem dL_law_614 : decode cL_law 614 = .ok (.aload_n 0, 1) := by decide +kernel
theorem dL_law_615 : decode cL_law 615 = .ok (.iload 4, 2) := by decide +kernel
theorem dL_law_617 : decode cL_law 617 = .ok (.iconst 1, 1) := by decide +kernel
theorem dL_law_618 : decode cL_law 618 = .ok (.iadd, 1) := by decide +kernel
theorem dL_law_619 : decode cL_law 619 = .ok (.iaload, 1) := by decide +kernel
theorem dL_law_620 : decode cL_law 620 = .ok (.invokevirtual 130, 3) := by decide +kernel
theorem dL_law_623 : decode cL_law 623 = .ok (.istore 6, 2) := by decide +kernel
theorem dL_law_625 : decode cL_law 625 = .ok (.aload_n 2, 1) := by decide +kernel
theorem dL_law_626 : decode cL_law 626 = .ok (.invokevirtual 107, 3) := by decide +kernel
theorem dL_law_629 : decode cL_law 629 = .ok (.iload 5, 2) := by decide +kernel
theorem dL_law_631 : decode cL_law 631 = .ok (.if_icmp .eq 5, 3) := by decide +kernel
theorem dL_law_634 : decode cL_law 634 = .ok (.iconst 0, 1) := by decide +kernel
theorem dL_law_635 : decode cL_law 635 = .ok (.ireturn, 1) := by decide +kernel
theorem dL_law_636 : decode cL_law 636 = .ok (.iload 5, 2) := by decide +kernel
theorem dL_law_638 : decode cL_law 638 = .ok (.ifCond .ne 15, 3) := by decide +kernel
theorem dL_law_641 : decode cL_law 641 = .ok (.aload_n 3, 1) := by decide +kernel
theorem dL_law_642 : decode cL_law 642 = .ok (.iconst 0, 1) := by decide +kernel
theorem dL_law_643 : decode cL_law 643 = .ok (.laload, 1) := by decide +kernel
theorem dL_law_644 : decode cL_law 644 = .ok (.iload 6, 2) := by decide +kernel
theorem dL_law_646 : decode cL_law 646 = .ok (.i2l, 1) := by decide +kernel
theorem dL_law_647 : decode cL_law 647 = .ok (.lcmp, 1) := by decide +kernel
theorem dL_law_648 : decode cL_law 648 = .ok (.ifCond .eq 5, 3) := by decide +kernel
theorem dL_law_651 : decode cL_law 651 = .ok (.iconst 0, 1) := by decide +kernel
theorem dL_law_652 : decode cL_law 652 = .ok (.ireturn, 1) := by decide +kernel
theorem dL_law_653 : decode cL_law 653 = .ok (.goto 1356, 3) := by decide +kernel
theorem dL_law_656 : decode cL_law 656 = .ok (.aload_n 1, 1) := by decide +kernel
theorem dL_law_657 : decode cL_law 657 = .ok (.aload_n 0, 1) := by decide +kernel
theorem dL_law_658 : decode cL_law 658 = .ok (.iload 4, 2) := by decide +kernel
theorem dL_law_660 : decode cL_law 660 = .ok (.iconst 1, 1) := by decide +kernel
theorem dL_law_661 : decode cL_law 661 = .ok (.iadd, 1) := by decide +kernel
theorem dL_law_662 : decode cL_law 662 = .ok (.iaload, 1) := by decide +kernel
theorem dL_law_663 : decode cL_law 663 = .ok (.aload_n 0, 1) := by decide +kernel
theorem dL_law_664 : decode cL_law 664 = .ok (.iload 4, 2) := by decide +kernel
theorem dL_law_666 : decode cL_law 666 = .ok (.iconst 2, 1) := by decide +kernel
theorem dL_law_667 : decode cL_law 667 = .ok (.iadd, 1) := by decide +kernel
theorem dL_law_668 : decode cL_law 668 = .ok (.iaload, 1) := by decide +kernel
theorem dL_law_669 : decode cL_law 669 = .ok (.aload_n 3, 1) := by decide +kernel
theorem dL_law_670 : decode cL_law 670 = .ok (.invokestatic 131, 3) := by decide +kernel
theorem dL_law_673 : decode cL_law 673 = .ok (.istore 5, 2) := by decide +kernel
theorem dL_law_675 : decode cL_law 675 = .ok (.aload_n 2, 1) := by decide +kernel
theorem dL_law_676 : decode cL_law 676 = .ok (.aload_n 0, 1) := by decide +kernel
theorem dL_law_677 : decode cL_law 677 = .ok (.iload 4, 2) := by decide +kernel
theorem dL_law_679 : decode cL_law 679 = .ok (.iconst 1, 1) := by decide +kernel
theorem dL_law_680 : decode cL_law 680 = .ok (.iadd, 1) := by decide +kernel
theorem dL_law_681 : decode cL_law 681 = .ok (.iaload, 1) := by decide +kernel
theorem dL_law_682 : decode cL_law 682 = .ok (.aload_n 0, 1) := by decide +kernel
theorem dL_law_683 : decode cL_law 683 = .ok (.iload 4, 2) := by decide +kernel
theorem dL_law_685 : decode cL_law 685 = .ok (.iconst 2, 1) := by decide +kernel
theorem dL_law_686 : decode cL_law 686 = .ok (.iadd, 1) := by decide +kernel
theorem dL_law_687 : decode cL_law 687 = .ok (.iaload, 1) := by decide +kernel
theorem dL_law_688 : decode cL_law 688 = .ok (.invokevirtual 134, 3) := by decide +kernel
theorem dL_law_691 : decode cL_law 691 = .ok (.istore 6, 2) := by decide +kernel
theorem dL_law_693 : decode cL_law 693 = .ok (.aload_n 2, 1) := by decide +kernel
theorem dL_law_694 : decode cL_law 694 = .ok (.invokevirtual 107, 3) := by decide +kernel
theorem dL_law_697 : decode cL_law 697 = .ok (.iload 5, 2) := by decide +kernel
theorem dL_law_699 : decode cL_law 699 = .ok (.if_icmp .eq 5, 3) := by decide +kernel
theorem dL_law_702 : decode cL_law 702 = .ok (.iconst 0, 1) := by decide +kernel
theorem dL_law_703 : decode cL_law 703 = .ok (.ireturn, 1) := by decide +kernel
theorem dL_law_704 : decode cL_law 704 = .ok (.iload 5, 2) := by decide +kernel
theorem dL_law_706 : decode cL_law 706 = .ok (.ifCond .ne 15, 3) := by decide +kernel
theorem dL_law_709 : decode cL_law 709 = .ok (.aload_n 3, 1) := by decide +kernel
theorem dL_law_710 : decode cL_law 710 = .ok (.iconst 0, 1) := by decide +kernel
theorem dL_law_711 : decode cL_law 711 = .ok (.laload, 1) := by decide +kernel
theorem dL_law_712 : decode cL_law 712 = .ok (.iload 6, 2) := by decide +kernel
theorem dL_law_714 : decode cL_law 714 = .ok (.i2l, 1) := by decide +kernel
theorem dL_law_715 : decode cL_law 715 = .ok (.lcmp, 1) := by decide +kernel
theorem dL_law_716 : decode cL_law 716 = .ok (.ifCond .eq 5, 3) := by decide +kernel
theorem dL_law_719 : decode cL_law 719 = .ok (.iconst 0, 1) := by decide +kernel
theorem dL_law_720 : decode cL_law 720 = .ok (.ireturn, 1) := by decide +kernel
theorem dL_law_721 : decode cL_law 721 = .ok (.goto 1288, 3) := by decide +kernel
theorem dL_law_724 : decode cL_law 724 = .ok (.aload_n 1, 1) := by decide +kernel
theorem dL_law_725 : decode cL_law 725 = .ok (.invokevirtual 135, 3) := by decide +kernel
theorem dL_law_728 : decode cL_law 728 = .ok (.aload_n 2, 1) := by decide +kernel
theorem dL_law_729 : decode cL_law 729 = .ok (.invokevirtual 138, 3) := by decide +kernel
theorem dL_law_732 : decode cL_law 732 = .ok (.if_icmp .eq 1277, 3) := by decide +kernel
theorem dL_law_735 : decode cL_law 735 = .ok (.iconst 0, 1) := by decide +kernel
theorem dL_law_736 : decode cL_law 736 = .ok (.ireturn, 1) := by decide +kernel
theorem dL_law_737 : decode cL_law 737 = .ok (.aload_n 1, 1) := by decide +kernel
theorem dL_law_738 : decode cL_law 738 = .ok (.aload_n 0, 1) := by decide +kernel
theorem dL_law_739 : decode cL_law 739 = .ok (.iload 4, 2) := by decide +kernel
theorem dL_law_741 : decode cL_law 741 = .ok (.iconst 1, 1) := by decide +kernel
theorem dL_law_742 : decode cL_law 742 = .ok (.iadd, 1) := by decide +kernel
theorem dL_law_743 : decode cL_law 743 = .ok (.iaload, 1) := by decide +kernel
theorem dL_law_744 : decode cL_law 744 = .ok (.aload_n 3, 1) := by decide +kernel
theorem dL_law_745 : decode cL_law 745 = .ok (.invokestatic 139, 3) := by decide +kernel
theorem dL_law_748 : decode cL_law 748 = .ok (.istore 5, 2) := by decide +kernel
theorem dL_law_750 : decode cL_law 750 = .ok (.aload_n 2, 1) := by decide +kernel
theorem dL_law_751 : decode cL_law 751 = .ok (.aload_n 0, 1) := by decide +kernel
theorem dL_law_752 : decode cL_law 752 = .ok (.iload 4, 2) := by decide +kernel
theorem dL_law_754 : decode cL_law 754 = .ok (.iconst 1, 1) := by decide +kernel
theorem dL_law_755 : decode cL_law 755 = .ok (.iadd, 1) := by decide +kernel
theorem dL_law_756 : decode cL_law 756 = .ok (.iaload, 1) := by decide +kernel
theorem dL_law_757 : decode cL_law 757 = .ok (.invokevirtual 141, 3) := by decide +kernel
theorem dL_law_760 : decode cL_law 760 = .ok (.istore 6, 2) := by decide +kernel
theorem dL_law_762 : decode cL_law 762 = .ok (.aload_n 2, 1) := by decide +kernel
theorem dL_law_763 : decode cL_law 763 = .ok (.invokevirtual 107, 3) := by decide +kernel
theorem dL_law_766 : decode cL_law 766 = .ok (.iload 5, 2) := by decide +kernel
theorem dL_law_768 : decode cL_law 768 = .ok (.if_icmp .eq 5, 3) := by decide +kernel
theorem dL_law_771 : decode cL_law 771 = .ok (.iconst 0, 1) := by decide +kernel
theorem dL_law_772 : decode cL_law 772 = .ok (.ireturn, 1) := by decide +kernel
theorem dL_law_773 : decode cL_law 773 = .ok (.iload 5, 2) := by decide +kernel
theorem dL_law_775 : decode cL_law 775 = .ok (.ifCond .ne 15, 3) := by decide +kernel
theorem dL_law_778 : decode cL_law 778 = .ok (.aload_n 3, 1) := by decide +kernel
theorem dL_law_779 : decode cL_law 779 = .ok (.iconst 0, 1) := by decide +kernel
theorem dL_law_780 : decode cL_law 780 = .ok (.laload, 1) := by decide +kernel
theorem dL_law_781 : decode cL_law 781 = .ok (.iload 6, 2) := by decide +kernel
theorem dL_law_783 : decode cL_law 783 = .ok (.i2l, 1) := by decide +kernel
theorem dL_law_784 : decode cL_law 784 = .ok (.lcmp, 1) := by decide +kernel
theorem dL_law_785 : decode cL_law 785 = .ok (.ifCond .eq 5, 3) := by decide +kernel
theorem dL_law_788 : decode cL_law 788 = .ok (.iconst 0, 1) := by decide +kernel
theorem dL_law_789 : decode cL_law 789 = .ok (.ireturn, 1) := by decide +kernel
theorem dL_law_790 : decode cL_law 790 = .ok (.goto 1219, 3) := by decide +kernel
theorem dL_law_793 : decode cL_law 793 = .ok (.aload_n 1, 1) := by decide +kernel
theorem dL_law_794 : decode cL_law 794 = .ok (.aload_n 0, 1) := by decide +kernel
theorem dL_law_795 : decode cL_law 795 = .ok (.iload 4, 2) := by decide +kernel
theorem dL_law_797 : decode cL_law 797 = .ok (.iconst 1, 1) := by decide +kernel
theorem dL_law_798 : decode cL_law 798 = .ok (.iadd, 1) := by decide +kernel
theorem dL_law_799 : decode cL_law 799 = .ok (.iaload, 1) := by decide +kernel
theorem dL_law_800 : decode cL_law 800 = .ok (.aload_n 3, 1) := by decide +kernel
theorem dL_law_801 : decode cL_law 801 = .ok (.invokestatic 142, 3) := by decide +kernel
theorem dL_law_804 : decode cL_law 804 = .ok (.istore 5, 2) := by decide +kernel
theorem dL_law_806 : decode cL_law 806 = .ok (.aload_n 2, 1) := by decide +kernel
theorem dL_law_807 : decode cL_law 807 = .ok (.aload_n 0, 1) := by decide +kernel
theorem dL_law_808 : decode cL_law 808 = .ok (.iload 4, 2) := by decide +kernel
theorem dL_law_810 : decode cL_law 810 = .ok (.iconst 1, 1) := by decide +kernel
theorem dL_law_811 : decode cL_law 811 = .ok (.iadd, 1) := by decide +kernel
theorem dL_law_812 : decode cL_law 812 = .ok (.iaload, 1) := by decide +kernel
theorem dL_law_813 : decode cL_law 813 = .ok (.invokevirtual 144, 3) := by decide +kernel
theorem dL_law_816 : decode cL_law 816 = .ok (.istore 6, 2) := by decide +kernel
theorem dL_law_818 : decode cL_law 818 = .ok (.aload_n 2, 1) := by decide +kernel
theorem dL_law_819 : decode cL_law 819 = .ok (.invokevirtual 107, 3) := by decide +kernel
theorem dL_law_822 : decode cL_law 822 = .ok (.iload 5, 2) := by decide +kernel
theorem dL_law_824 : decode cL_law 824 = .ok (.if_icmp .eq 5, 3) := by decide +kernel
theorem dL_law_827 : decode cL_law 827 = .ok (.iconst 0, 1) := by decide +kernel
theorem dL_law_828 : decode cL_law 828 = .ok (.ireturn, 1) := by decide +kernel
theorem dL_law_829 : decode cL_law 829 = .ok (.iload 5, 2) := by decide +kernel
theorem dL_law_831 : decode cL_law 831 = .ok (.ifCond .ne 15, 3) := by decide +kernel
theorem dL_law_834 : decode cL_law 834 = .ok (.aload_n 3, 1) := by decide +kernel
theorem dL_law_835 : decode cL_law 835 = .ok (.iconst 0, 1) := by decide +kernel
theorem dL_law_836 : decode cL_law 836 = .ok (.laload, 1) := by decide +kernel
theorem dL_law_837 : decode cL_law 837 = .ok (.iload 6, 2) := by decide +kernel
theorem dL_law_839 : decode cL_law 839 = .ok (.i2l, 1) := by decide +kernel
theorem dL_law_840 : decode cL_law 840 = .ok (.lcmp, 1) := by decide +kernel
theorem dL_law_841 : decode cL_law 841 = .ok (.ifCond .eq 5, 3) := by decide +kernel
theorem dL_law_844 : decode cL_law 844 = .ok (.iconst 0, 1) := by decide +kernel
theorem dL_law_845 : decode cL_law 845 = .ok (.ireturn, 1) := by decide +kernel
theorem dL_law_846 : decode cL_law 846 = .ok (.goto 1163, 3) := by decide +kernel
theorem dL_law_849 : decode cL_law 849 = .ok (.aload_n 1, 1) := by decide +kernel
theorem dL_law_850 : decode cL_law 850 = .ok (.aload_n 0, 1) := by decide +kernel
theorem dL_law_851 : decode cL_law 851 = .ok (.iload 4, 2) := by decide +kernel
theorem dL_law_853 : decode cL_law 853 = .ok (.iconst 1, 1) := by decide +kernel
theorem dL_law_854 : decode cL_law 854 = .ok (.iadd, 1) := by decide +kernel
theorem dL_law_855 : decode cL_law 855 = .ok (.iaload, 1) := by decide +kernel
theorem dL_law_856 : decode cL_law 856 = .ok (.aload_n 3, 1) := by decide +kernel
theorem dL_law_857 : decode cL_law 857 = .ok (.invokestatic 145, 3) := by decide +kernel
theorem dL_law_860 : decode cL_law 860 = .ok (.istore 5, 2) := by decide +kernel
theorem dL_law_862 : decode cL_law 862 = .ok (.aload_n 2, 1) := by decide +kernel
theorem dL_law_863 : decode cL_law 863 = .ok (.aload_n 0, 1) := by decide +kernel
theorem dL_law_864 : decode cL_law 864 = .ok (.iload 4, 2) := by decide +kernel
theorem dL_law_866 : decode cL_law 866 = .ok (.iconst 1, 1) := by decide +kernel
theorem dL_law_867 : decode cL_law 867 = .ok (.iadd, 1) := by decide +kernel
theorem dL_law_868 : decode cL_law 868 = .ok (.iaload, 1) := by decide +kernel
theorem dL_law_869 : decode cL_law 869 = .ok (.invokevirtual 147, 3) := by decide +kernel
theorem dL_law_872 : decode cL_law 872 = .ok (.istore 6, 2) := by decide +kernel
theorem dL_law_874 : decode cL_law 874 = .ok (.aload_n 2, 1) := by decide +kernel
theorem dL_law_875 : decode cL_law 875 = .ok (.invokevirtual 107, 3) := by decide +kernel
theorem dL_law_878 : decode cL_law 878 = .ok (.iload 5, 2) := by decide +kernel
theorem dL_law_880 : decode cL_law 880 = .ok (.if_icmp .eq 5, 3) := by decide +kernel
theorem dL_law_883 : decode cL_law 883 = .ok (.iconst 0, 1) := by decide +kernel
theorem dL_law_884 : decode cL_law 884 = .ok (.ireturn, 1) := by decide +kernel
theorem dL_law_885 : decode cL_law 885 = .ok (.iload 5, 2) := by decide +kernel
theorem dL_law_887 : decode cL_law 887 = .ok (.ifCond .ne 22, 3) := by decide +kernel
theorem dL_law_890 : decode cL_law 890 = .ok (.aload_n 3, 1) := by decide +kernel
theorem dL_law_891 : decode cL_law 891 = .ok (.iconst 0, 1) := by decide +kernel
theorem dL_law_892 : decode cL_law 892 = .ok (.laload, 1) := by decide +kernel
theorem dL_law_893 : decode cL_law 893 = .ok (.iload 6, 2) := by decide +kernel
theorem dL_law_895 : decode cL_law 895 = .ok (.ifCond .eq 7, 3) := by decide +kernel
theorem dL_law_898 : decode cL_law 898 = .ok (.lconst 1, 1) := by decide +kernel
theorem dL_law_899 : decode cL_law 899 = .ok (.goto 4, 3) := by decide +kernel
theorem dL_law_902 : decode cL_law 902 = .ok (.lconst 0, 1) := by decide +kernel
theorem dL_law_903 : decode cL_law 903 = .ok (.lcmp, 1) := by decide +kernel
theorem dL_law_904 : decode cL_law 904 = .ok (.ifCond .eq 5, 3) := by decide +kernel
theorem dL_law_907 : decode cL_law 907 = .ok (.iconst 0, 1) := by decide +kernel
theorem dL_law_908 : decode cL_law 908 = .ok (.ireturn, 1) := by decide +kernel
theorem dL_law_909 : decode cL_law 909 = .ok (.goto 1100, 3) := by decide +kernel
theorem dL_law_912 : decode cL_law 912 = .ok (.aload_n 1, 1) := by decide +kernel
theorem dL_law_913 : decode cL_law 913 = .ok (.aload_n 0, 1) := by decide +kernel
theorem dL_law_914 : decode cL_law 914 = .ok (.iload 4, 2) := by decide +kernel
theorem dL_law_916 : decode cL_law 916 = .ok (.iconst 1, 1) := by decide +kernel
theorem dL_law_917 : decode cL_law 917 = .ok (.iadd, 1) := by decide +kernel
theorem dL_law_918 : decode cL_law 918 = .ok (.iaload, 1) := by decide +kernel
theorem dL_law_919 : decode cL_law 919 = .ok (.aload_n 3, 1) := by decide +kernel
theorem dL_law_920 : decode cL_law 920 = .ok (.invokestatic 148, 3) := by decide +kernel
theorem dL_law_923 : decode cL_law 923 = .ok (.istore 5, 2) := by decide +kernel
theorem dL_law_925 : decode cL_law 925 = .ok (.aload_n 2, 1) := by decide +kernel
theorem dL_law_926 : decode cL_law 926 = .ok (.aload_n 0, 1) := by decide +kernel
theorem dL_law_927 : decode cL_law 927 = .ok (.iload 4, 2) := by decide +kernel
theorem dL_law_929 : decode cL_law 929 = .ok (.iconst 1, 1) := by decide +kernel
theorem dL_law_930 : decode cL_law 930 = .ok (.iadd, 1) := by decide +kernel
theorem dL_law_931 : decode cL_law 931 = .ok (.iaload, 1) := by decide +kernel
theorem dL_law_932 : decode cL_law 932 = .ok (.invokevirtual 150, 3) := by decide +kernel
theorem dL_law_935 : decode cL_law 935 = .ok (.istore 6, 2) := by decide +kernel
theorem dL_law_937 : decode cL_law 937 = .ok (.aload_n 2, 1) := by decide +kernel
theorem dL_law_938 : decode cL_law 938 = .ok (.invokevirtual 107, 3) := by decide +kernel
theorem dL_law_941 : decode cL_law 941 = .ok (.iload 5, 2) := by decide +kernel
theorem dL_law_943 : decode cL_law 943 = .ok (.if_icmp .eq 5, 3) := by decide +kernel
theorem dL_law_946 : decode cL_law 946 = .ok (.iconst 0, 1) := by decide +kernel
theorem dL_law_947 : decode cL_law 947 = .ok (.ireturn, 1) := by decide +kernel
theorem dL_law_948 : decode cL_law 948 = .ok (.iload 5, 2) := by decide +kernel
theorem dL_law_950 : decode cL_law 950 = .ok (.ifCond .ne 15, 3) := by decide +kernel
theorem dL_law_953 : decode cL_law 953 = .ok (.aload_n 3, 1) := by decide +kernel
theorem dL_law_954 : decode cL_law 954 = .ok (.iconst 0, 1) := by decide +kernel
theorem dL_law_955 : decode cL_law 955 = .ok (.laload, 1) := by decide +kernel
theorem dL_law_956 : decode cL_law 956 = .ok (.iload 6, 2) := by decide +kernel
theorem dL_law_958 : decode cL_law 958 = .ok (.i2l, 1) := by decide +kernel
theorem dL_law_959 : decode cL_law 959 = .ok (.lcmp, 1) := by decide +kernel
end
section
theorem dL_law_960 : decode cL_law 960 = .ok (.ifCond .eq 5, 3) := by decide +kernel
theorem dL_law_963 : decode cL_law 963 = .ok (.iconst 0, 1) := by decide +kernel
theorem dL_law_964 : decode cL_law 964 = .ok (.ireturn, 1) := by decide +kernel
theorem dL_law_965 : decode cL_law 965 = .ok (.goto 1044, 3) := by decide +kernel
theorem dL_law_968 : decode cL_law 968 = .ok (.aload_n 1, 1) := by decide +kernel
theorem dL_law_969 : decode cL_law 969 = .ok (.aload_n 0, 1) := by decide +kernel
theorem dL_law_970 : decode cL_law 970 = .ok (.iload 4, 2) := by decide +kernel
theorem dL_law_972 : decode cL_law 972 = .ok (.iconst 1, 1) := by decide +kernel
theorem dL_law_973 : decode cL_law 973 = .ok (.iadd, 1) := by decide +kernel
theorem dL_law_974 : decode cL_law 974 = .ok (.iaload, 1) := by decide +kernel
theorem dL_law_975 : decode cL_law 975 = .ok (.aload_n 0, 1) := by decide +kernel
theorem dL_law_976 : decode cL_law 976 = .ok (.iload 4, 2) := by decide +kernel
theorem dL_law_978 : decode cL_law 978 = .ok (.iconst 2, 1) := by decide +kernel
theorem dL_law_979 : decode cL_law 979 = .ok (.iadd, 1) := by decide +kernel
theorem dL_law_980 : decode cL_law 980 = .ok (.iaload, 1) := by decide +kernel
theorem dL_law_981 : decode cL_law 981 = .ok (.aload_n 3, 1) := by decide +kernel
theorem dL_law_982 : decode cL_law 982 = .ok (.invokestatic 151, 3) := by decide +kernel
theorem dL_law_985 : decode cL_law 985 = .ok (.istore 5, 2) := by decide +kernel
theorem dL_law_987 : decode cL_law 987 = .ok (.aload_n 2, 1) := by decide +kernel
theorem dL_law_988 : decode cL_law 988 = .ok (.aload_n 0, 1) := by decide +kernel
theorem dL_law_989 : decode cL_law 989 = .ok (.iload 4, 2) := by decide +kernel
theorem dL_law_991 : decode cL_law 991 = .ok (.iconst 1, 1) := by decide +kernel
theorem dL_law_992 : decode cL_law 992 = .ok (.iadd, 1) := by decide +kernel
theorem dL_law_993 : decode cL_law 993 = .ok (.iaload, 1) := by decide +kernel
theorem dL_law_994 : decode cL_law 994 = .ok (.aload_n 0, 1) := by decide +kernel
theorem dL_law_995 : decode cL_law 995 = .ok (.iload 4, 2) := by decide +kernel
theorem dL_law_997 : decode cL_law 997 = .ok (.iconst 2, 1) := by decide +kernel
theorem dL_law_998 : decode cL_law 998 = .ok (.iadd, 1) := by decide +kernel
theorem dL_law_999 : decode cL_law 999 = .ok (.iaload, 1) := by decide +kernel
theorem dL_law_1000 : decode cL_law 1000 = .ok (.invokevirtual 153, 3) := by decide +kernel
theorem dL_law_1003 : decode cL_law 1003 = .ok (.istore 6, 2) := by decide +kernel
theorem dL_law_1005 : decode cL_law 1005 = .ok (.aload_n 2, 1) := by decide +kernel
theorem dL_law_1006 : decode cL_law 1006 = .ok (.invokevirtual 107, 3) := by decide +kernel
theorem dL_law_1009 : decode cL_law 1009 = .ok (.iload 5, 2) := by decide +kernel
theorem dL_law_1011 : decode cL_law 1011 = .ok (.if_icmp .eq 5, 3) := by decide +kernel
theorem dL_law_1014 : decode cL_law 1014 = .ok (.iconst 0, 1) := by decide +kernel
theorem dL_law_1015 : decode cL_law 1015 = .ok (.ireturn, 1) := by decide +kernel
theorem dL_law_1016 : decode cL_law 1016 = .ok (.iload 5, 2) := by decide +kernel
theorem dL_law_1018 : decode cL_law 1018 = .ok (.ifCond .ne 15, 3) := by decide +kernel
theorem dL_law_1021 : decode cL_law 1021 = .ok (.aload_n 3, 1) := by decide +kernel
theorem dL_law_1022 : decode cL_law 1022 = .ok (.iconst 0, 1) := by decide +kernel
theorem dL_law_1023 : decode cL_law 1023 = .ok (.laload, 1) := by decide +kernel
theorem dL_law_1024 : decode cL_law 1024 = .ok (.iload 6, 2) := by decide +kernel
theorem dL_law_1026 : decode cL_law 1026 = .ok (.i2l, 1) := by decide +kernel
theorem dL_law_1027 : decode cL_law 1027 = .ok (.lcmp, 1) := by decide +kernel
theorem dL_law_1028 : decode cL_law 1028 = .ok (.ifCond .eq 5, 3) := by decide +kernel
theorem dL_law_1031 : decode cL_law 1031 = .ok (.iconst 0, 1) := by decide +kernel
theorem dL_law_1032 : decode cL_law 1032 = .ok (.ireturn, 1) := by decide +kernel
theorem dL_law_1033 : decode cL_law 1033 = .ok (.goto 976, 3) := by decide +kernel
theorem dL_law_1036 : decode cL_law 1036 = .ok (.aload_n 1, 1) := by decide +kernel
theorem dL_law_1037 : decode cL_law 1037 = .ok (.aload_n 0, 1) := by decide +kernel
theorem dL_law_1038 : decode cL_law 1038 = .ok (.iload 4, 2) := by decide +kernel
theorem dL_law_1040 : decode cL_law 1040 = .ok (.iconst 1, 1) := by decide +kernel
theorem dL_law_1041 : decode cL_law 1041 = .ok (.iadd, 1) := by decide +kernel
theorem dL_law_1042 : decode cL_law 1042 = .ok (.iaload, 1) := by decide +kernel
theorem dL_law_1043 : decode cL_law 1043 = .ok (.aload_n 0, 1) := by decide +kernel
theorem dL_law_1044 : decode cL_law 1044 = .ok (.iload 4, 2) := by decide +kernel
theorem dL_law_1046 : decode cL_law 1046 = .ok (.iconst 2, 1) := by decide +kernel
theorem dL_law_1047 : decode cL_law 1047 = .ok (.iadd, 1) := by decide +kernel
theorem dL_law_1048 : decode cL_law 1048 = .ok (.iaload, 1) := by decide +kernel
theorem dL_law_1049 : decode cL_law 1049 = .ok (.ifCond .eq 7, 3) := by decide +kernel
theorem dL_law_1052 : decode cL_law 1052 = .ok (.iconst 1, 1) := by decide +kernel
theorem dL_law_1053 : decode cL_law 1053 = .ok (.goto 4, 3) := by decide +kernel
theorem dL_law_1056 : decode cL_law 1056 = .ok (.iconst 0, 1) := by decide +kernel
theorem dL_law_1057 : decode cL_law 1057 = .ok (.aload_n 3, 1) := by decide +kernel
theorem dL_law_1058 : decode cL_law 1058 = .ok (.invokestatic 154, 3) := by decide +kernel
theorem dL_law_1061 : decode cL_law 1061 = .ok (.istore 5, 2) := by decide +kernel
theorem dL_law_1063 : decode cL_law 1063 = .ok (.aload_n 2, 1) := by decide +kernel
theorem dL_law_1064 : decode cL_law 1064 = .ok (.aload_n 0, 1) := by decide +kernel
theorem dL_law_1065 : decode cL_law 1065 = .ok (.iload 4, 2) := by decide +kernel
theorem dL_law_1067 : decode cL_law 1067 = .ok (.iconst 1, 1) := by decide +kernel
theorem dL_law_1068 : decode cL_law 1068 = .ok (.iadd, 1) := by decide +kernel
theorem dL_law_1069 : decode cL_law 1069 = .ok (.iaload, 1) := by decide +kernel
theorem dL_law_1070 : decode cL_law 1070 = .ok (.aload_n 0, 1) := by decide +kernel
theorem dL_law_1071 : decode cL_law 1071 = .ok (.iload 4, 2) := by decide +kernel
theorem dL_law_1073 : decode cL_law 1073 = .ok (.iconst 2, 1) := by decide +kernel
theorem dL_law_1074 : decode cL_law 1074 = .ok (.iadd, 1) := by decide +kernel
theorem dL_law_1075 : decode cL_law 1075 = .ok (.iaload, 1) := by decide +kernel
theorem dL_law_1076 : decode cL_law 1076 = .ok (.ifCond .eq 7, 3) := by decide +kernel
theorem dL_law_1079 : decode cL_law 1079 = .ok (.iconst 1, 1) := by decide +kernel
theorem dL_law_1080 : decode cL_law 1080 = .ok (.goto 4, 3) := by decide +kernel
theorem dL_law_1083 : decode cL_law 1083 = .ok (.iconst 0, 1) := by decide +kernel
theorem dL_law_1084 : decode cL_law 1084 = .ok (.invokevirtual 157, 3) := by decide +kernel
theorem dL_law_1087 : decode cL_law 1087 = .ok (.lstore 6, 2) := by decide +kernel
theorem dL_law_1089 : decode cL_law 1089 = .ok (.aload_n 2, 1) := by decide +kernel
theorem dL_law_1090 : decode cL_law 1090 = .ok (.invokevirtual 107, 3) := by decide +kernel
theorem dL_law_1093 : decode cL_law 1093 = .ok (.iload 5, 2) := by decide +kernel
theorem dL_law_1095 : decode cL_law 1095 = .ok (.if_icmp .eq 5, 3) := by decide +kernel
theorem dL_law_1098 : decode cL_law 1098 = .ok (.iconst 0, 1) := by decide +kernel
theorem dL_law_1099 : decode cL_law 1099 = .ok (.ireturn, 1) := by decide +kernel
theorem dL_law_1100 : decode cL_law 1100 = .ok (.iload 5, 2) := by decide +kernel
theorem dL_law_1102 : decode cL_law 1102 = .ok (.ifCond .ne 14, 3) := by decide +kernel
theorem dL_law_1105 : decode cL_law 1105 = .ok (.aload_n 3, 1) := by decide +kernel
theorem dL_law_1106 : decode cL_law 1106 = .ok (.iconst 0, 1) := by decide +kernel
theorem dL_law_1107 : decode cL_law 1107 = .ok (.laload, 1) := by decide +kernel
theorem dL_law_1108 : decode cL_law 1108 = .ok (.lload 6, 2) := by decide +kernel
theorem dL_law_1110 : decode cL_law 1110 = .ok (.lcmp, 1) := by decide +kernel
theorem dL_law_1111 : decode cL_law 1111 = .ok (.ifCond .eq 5, 3) := by decide +kernel
theorem dL_law_1114 : decode cL_law 1114 = .ok (.iconst 0, 1) := by decide +kernel
theorem dL_law_1115 : decode cL_law 1115 = .ok (.ireturn, 1) := by decide +kernel
theorem dL_law_1116 : decode cL_law 1116 = .ok (.goto 893, 3) := by decide +kernel
theorem dL_law_1119 : decode cL_law 1119 = .ok (.aload_n 1, 1) := by decide +kernel
theorem dL_law_1120 : decode cL_law 1120 = .ok (.aload_n 0, 1) := by decide +kernel
theorem dL_law_1121 : decode cL_law 1121 = .ok (.iload 4, 2) := by decide +kernel
theorem dL_law_1123 : decode cL_law 1123 = .ok (.iconst 1, 1) := by decide +kernel
theorem dL_law_1124 : decode cL_law 1124 = .ok (.iadd, 1) := by decide +kernel
theorem dL_law_1125 : decode cL_law 1125 = .ok (.iaload, 1) := by decide +kernel
theorem dL_law_1126 : decode cL_law 1126 = .ok (.aload_n 0, 1) := by decide +kernel
theorem dL_law_1127 : decode cL_law 1127 = .ok (.iload 4, 2) := by decide +kernel
theorem dL_law_1129 : decode cL_law 1129 = .ok (.iconst 2, 1) := by decide +kernel
theorem dL_law_1130 : decode cL_law 1130 = .ok (.iadd, 1) := by decide +kernel
theorem dL_law_1131 : decode cL_law 1131 = .ok (.iaload, 1) := by decide +kernel
theorem dL_law_1132 : decode cL_law 1132 = .ok (.aload_n 3, 1) := by decide +kernel
theorem dL_law_1133 : decode cL_law 1133 = .ok (.invokestatic 158, 3) := by decide +kernel
theorem dL_law_1136 : decode cL_law 1136 = .ok (.istore 5, 2) := by decide +kernel
theorem dL_law_1138 : decode cL_law 1138 = .ok (.aload_n 2, 1) := by decide +kernel
theorem dL_law_1139 : decode cL_law 1139 = .ok (.aload_n 0, 1) := by decide +kernel
theorem dL_law_1140 : decode cL_law 1140 = .ok (.iload 4, 2) := by decide +kernel
theorem dL_law_1142 : decode cL_law 1142 = .ok (.iconst 1, 1) := by decide +kernel
theorem dL_law_1143 : decode cL_law 1143 = .ok (.iadd, 1) := by decide +kernel
theorem dL_law_1144 : decode cL_law 1144 = .ok (.iaload, 1) := by decide +kernel
theorem dL_law_1145 : decode cL_law 1145 = .ok (.aload_n 0, 1) := by decide +kernel
theorem dL_law_1146 : decode cL_law 1146 = .ok (.iload 4, 2) := by decide +kernel
theorem dL_law_1148 : decode cL_law 1148 = .ok (.iconst 2, 1) := by decide +kernel
theorem dL_law_1149 : decode cL_law 1149 = .ok (.iadd, 1) := by decide +kernel
theorem dL_law_1150 : decode cL_law 1150 = .ok (.iaload, 1) := by decide +kernel
theorem dL_law_1151 : decode cL_law 1151 = .ok (.invokevirtual 160, 3) := by decide +kernel
theorem dL_law_1154 : decode cL_law 1154 = .ok (.istore 6, 2) := by decide +kernel
theorem dL_law_1156 : decode cL_law 1156 = .ok (.aload_n 2, 1) := by decide +kernel
theorem dL_law_1157 : decode cL_law 1157 = .ok (.invokevirtual 107, 3) := by decide +kernel
theorem dL_law_1160 : decode cL_law 1160 = .ok (.iload 5, 2) := by decide +kernel
theorem dL_law_1162 : decode cL_law 1162 = .ok (.if_icmp .eq 5, 3) := by decide +kernel
theorem dL_law_1165 : decode cL_law 1165 = .ok (.iconst 0, 1) := by decide +kernel
theorem dL_law_1166 : decode cL_law 1166 = .ok (.ireturn, 1) := by decide +kernel
theorem dL_law_1167 : decode cL_law 1167 = .ok (.iload 5, 2) := by decide +kernel
theorem dL_law_1169 : decode cL_law 1169 = .ok (.ifCond .ne 15, 3) := by decide +kernel
theorem dL_law_1172 : decode cL_law 1172 = .ok (.aload_n 3, 1) := by decide +kernel
theorem dL_law_1173 : decode cL_law 1173 = .ok (.iconst 0, 1) := by decide +kernel
theorem dL_law_1174 : decode cL_law 1174 = .ok (.laload, 1) := by decide +kernel
theorem dL_law_1175 : decode cL_law 1175 = .ok (.iload 6, 2) := by decide +kernel
theorem dL_law_1177 : decode cL_law 1177 = .ok (.i2l, 1) := by decide +kernel
theorem dL_law_1178 : decode cL_law 1178 = .ok (.lcmp, 1) := by decide +kernel
theorem dL_law_1179 : decode cL_law 1179 = .ok (.ifCond .eq 5, 3) := by decide +kernel
theorem dL_law_1182 : decode cL_law 1182 = .ok (.iconst 0, 1) := by decide +kernel
theorem dL_law_1183 : decode cL_law 1183 = .ok (.ireturn, 1) := by decide +kernel
theorem dL_law_1184 : decode cL_law 1184 = .ok (.goto 825, 3) := by decide +kernel
theorem dL_law_1187 : decode cL_law 1187 = .ok (.aload_n 1, 1) := by decide +kernel
theorem dL_law_1188 : decode cL_law 1188 = .ok (.aload_n 0, 1) := by decide +kernel
theorem dL_law_1189 : decode cL_law 1189 = .ok (.iload 4, 2) := by decide +kernel
theorem dL_law_1191 : decode cL_law 1191 = .ok (.iconst 1, 1) := by decide +kernel
theorem dL_law_1192 : decode cL_law 1192 = .ok (.iadd, 1) := by decide +kernel
theorem dL_law_1193 : decode cL_law 1193 = .ok (.iaload, 1) := by decide +kernel
theorem dL_law_1194 : decode cL_law 1194 = .ok (.aload_n 0, 1) := by decide +kernel
theorem dL_law_1195 : decode cL_law 1195 = .ok (.iload 4, 2) := by decide +kernel
theorem dL_law_1197 : decode cL_law 1197 = .ok (.iconst 2, 1) := by decide +kernel
theorem dL_law_1198 : decode cL_law 1198 = .ok (.iadd, 1) := by decide +kernel
theorem dL_law_1199 : decode cL_law 1199 = .ok (.iaload, 1) := by decide +kernel
theorem dL_law_1200 : decode cL_law 1200 = .ok (.aload_n 3, 1) := by decide +kernel
theorem dL_law_1201 : decode cL_law 1201 = .ok (.invokestatic 161, 3) := by decide +kernel
theorem dL_law_1204 : decode cL_law 1204 = .ok (.istore 5, 2) := by decide +kernel
theorem dL_law_1206 : decode cL_law 1206 = .ok (.aload_n 2, 1) := by decide +kernel
theorem dL_law_1207 : decode cL_law 1207 = .ok (.aload_n 0, 1) := by decide +kernel
theorem dL_law_1208 : decode cL_law 1208 = .ok (.iload 4, 2) := by decide +kernel
theorem dL_law_1210 : decode cL_law 1210 = .ok (.iconst 1, 1) := by decide +kernel
theorem dL_law_1211 : decode cL_law 1211 = .ok (.iadd, 1) := by decide +kernel
theorem dL_law_1212 : decode cL_law 1212 = .ok (.iaload, 1) := by decide +kernel
theorem dL_law_1213 : decode cL_law 1213 = .ok (.aload_n 0, 1) := by decide +kernel
theorem dL_law_1214 : decode cL_law 1214 = .ok (.iload 4, 2) := by decide +kernel
theorem dL_law_1216 : decode cL_law 1216 = .ok (.iconst 2, 1) := by decide +kernel
theorem dL_law_1217 : decode cL_law 1217 = .ok (.iadd, 1) := by decide +kernel
theorem dL_law_1218 : decode cL_law 1218 = .ok (.iaload, 1) := by decide +kernel
theorem dL_law_1219 : decode cL_law 1219 = .ok (.invokevirtual 163, 3) := by decide +kernel
theorem dL_law_1222 : decode cL_law 1222 = .ok (.istore 6, 2) := by decide +kernel
theorem dL_law_1224 : decode cL_law 1224 = .ok (.aload_n 2, 1) := by decide +kernel
theorem dL_law_1225 : decode cL_law 1225 = .ok (.invokevirtual 107, 3) := by decide +kernel
theorem dL_law_1228 : decode cL_law 1228 = .ok (.iload 5, 2) := by decide +kernel
theorem dL_law_1230 : decode cL_law 1230 = .ok (.if_icmp .eq 5, 3) := by decide +kernel
theorem dL_law_1233 : decode cL_law 1233 = .ok (.iconst 0, 1) := by decide +kernel
theorem dL_law_1234 : decode cL_law 1234 = .ok (.ireturn, 1) := by decide +kernel
theorem dL_law_1235 : decode cL_law 1235 = .ok (.iload 5, 2) := by decide +kernel
theorem dL_law_1237 : decode cL_law 1237 = .ok (.ifCond .ne 15, 3) := by decide +kernel
theorem dL_law_1240 : decode cL_law 1240 = .ok (.aload_n 3, 1) := by decide +kernel
theorem dL_law_1241 : decode cL_law 1241 = .ok (.iconst 0, 1) := by decide +kernel
theorem dL_law_1242 : decode cL_law 1242 = .ok (.laload, 1) := by decide +kernel
theorem dL_law_1243 : decode cL_law 1243 = .ok (.iload 6, 2) := by decide +kernel
theorem dL_law_1245 : decode cL_law 1245 = .ok (.i2l, 1) := by decide +kernel
theorem dL_law_1246 : decode cL_law 1246 = .ok (.lcmp, 1) := by decide +kernel
theorem dL_law_1247 : decode cL_law 1247 = .ok (.ifCond .eq 5, 3) := by decide +kernel
theorem dL_law_1250 : decode cL_law 1250 = .ok (.iconst 0, 1) := by decide +kernel
theorem dL_law_1251 : decode cL_law 1251 = .ok (.ireturn, 1) := by decide +kernel
theorem dL_law_1252 : decode cL_law 1252 = .ok (.goto 757, 3) := by decide +kernel
theorem dL_law_1255 : decode cL_law 1255 = .ok (.aload_n 1, 1) := by decide +kernel
theorem dL_law_1256 : decode cL_law 1256 = .ok (.aload_n 0, 1) := by decide +kernel
theorem dL_law_1257 : decode cL_law 1257 = .ok (.iload 4, 2) := by decide +kernel
theorem dL_law_1259 : decode cL_law 1259 = .ok (.iconst 1, 1) := by decide +kernel
theorem dL_law_1260 : decode cL_law 1260 = .ok (.iadd, 1) := by decide +kernel
theorem dL_law_1261 : decode cL_law 1261 = .ok (.iaload, 1) := by decide +kernel
theorem dL_law_1262 : decode cL_law 1262 = .ok (.aload_n 0, 1) := by decide +kernel
theorem dL_law_1263 : decode cL_law 1263 = .ok (.iload 4, 2) := by decide +kernel
theorem dL_law_1265 : decode cL_law 1265 = .ok (.iconst 2, 1) := by decide +kernel
theorem dL_law_1266 : decode cL_law 1266 = .ok (.iadd, 1) := by decide +kernel
theorem dL_law_1267 : decode cL_law 1267 = .ok (.iaload, 1) := by decide +kernel
theorem dL_law_1268 : decode cL_law 1268 = .ok (.aload_n 0, 1) := by decide +kernel
theorem dL_law_1269 : decode cL_law 1269 = .ok (.iload 4, 2) := by decide +kernel
theorem dL_law_1271 : decode cL_law 1271 = .ok (.iconst 3, 1) := by decide +kernel
theorem dL_law_1272 : decode cL_law 1272 = .ok (.iadd, 1) := by decide +kernel
theorem dL_law_1273 : decode cL_law 1273 = .ok (.iaload, 1) := by decide +kernel
theorem dL_law_1274 : decode cL_law 1274 = .ok (.ifCond .eq 7, 3) := by decide +kernel
theorem dL_law_1277 : decode cL_law 1277 = .ok (.iconst 1, 1) := by decide +kernel
theorem dL_law_1278 : decode cL_law 1278 = .ok (.goto 4, 3) := by decide +kernel
theorem dL_law_1281 : decode cL_law 1281 = .ok (.iconst 0, 1) := by decide +kernel
theorem dL_law_1282 : decode cL_law 1282 = .ok (.aload_n 3, 1) := by decide +kernel
theorem dL_law_1283 : decode cL_law 1283 = .ok (.invokestatic 164, 3) := by decide +kernel
theorem dL_law_1286 : decode cL_law 1286 = .ok (.istore 5, 2) := by decide +kernel
theorem dL_law_1288 : decode cL_law 1288 = .ok (.aload_n 2, 1) := by decide +kernel
theorem dL_law_1289 : decode cL_law 1289 = .ok (.aload_n 0, 1) := by decide +kernel
theorem dL_law_1290 : decode cL_law 1290 = .ok (.iload 4, 2) := by decide +kernel
theorem dL_law_1292 : decode cL_law 1292 = .ok (.iconst 1, 1) := by decide +kernel
theorem dL_law_1293 : decode cL_law 1293 = .ok (.iadd, 1) := by decide +kernel
theorem dL_law_1294 : decode cL_law 1294 = .ok (.iaload, 1) := by decide +kernel
theorem dL_law_1295 : decode cL_law 1295 = .ok (.aload_n 0, 1) := by decide +kernel
theorem dL_law_1296 : decode cL_law 1296 = .ok (.iload 4, 2) := by decide +kernel
theorem dL_law_1298 : decode cL_law 1298 = .ok (.iconst 2, 1) := by decide +kernel
theorem dL_law_1299 : decode cL_law 1299 = .ok (.iadd, 1) := by decide +kernel
theorem dL_law_1300 : decode cL_law 1300 = .ok (.iaload, 1) := by decide +kernel
theorem dL_law_1301 : decode cL_law 1301 = .ok (.aload_n 0, 1) := by decide +kernel
theorem dL_law_1302 : decode cL_law 1302 = .ok (.iload 4, 2) := by decide +kernel
theorem dL_law_1304 : decode cL_law 1304 = .ok (.iconst 3, 1) := by decide +kernel
theorem dL_law_1305 : decode cL_law 1305 = .ok (.iadd, 1) := by decide +kernel
theorem dL_law_1306 : decode cL_law 1306 = .ok (.iaload, 1) := by decide +kernel
theorem dL_law_1307 : decode cL_law 1307 = .ok (.ifCond .eq 7, 3) := by decide +kernel
theorem dL_law_1310 : decode cL_law 1310 = .ok (.iconst 1, 1) := by decide +kernel
theorem dL_law_1311 : decode cL_law 1311 = .ok (.goto 4, 3) := by decide +kernel
theorem dL_law_1314 : decode cL_law 1314 = .ok (.iconst 0, 1) := by decide +kernel
theorem dL_law_1315 : decode cL_law 1315 = .ok (.invokevirtual 167, 3) := by decide +kernel
theorem dL_law_1318 : decode cL_law 1318 = .ok (.lstore 6, 2) := by decide +kernel
theorem dL_law_1320 : decode cL_law 1320 = .ok (.aload_n 2, 1) := by decide +kernel
theorem dL_law_1321 : decode cL_law 1321 = .ok (.invokevirtual 107, 3) := by decide +kernel
theorem dL_law_1324 : decode cL_law 1324 = .ok (.iload 5, 2) := by decide +kernel
theorem dL_law_1326 : decode cL_law 1326 = .ok (.if_icmp .eq 5, 3) := by decide +kernel
theorem dL_law_1329 : decode cL_law 1329 = .ok (.iconst 0, 1) := by decide +kernel
theorem dL_law_1330 : decode cL_law 1330 = .ok (.ireturn, 1) := by decide +kernel
theorem dL_law_1331 : decode cL_law 1331 = .ok (.iload 5, 2) := by decide +kernel
theorem dL_law_1333 : decode cL_law 1333 = .ok (.ifCond .ne 14, 3) := by decide +kernel
theorem dL_law_1336 : decode cL_law 1336 = .ok (.aload_n 3, 1) := by decide +kernel
theorem dL_law_1337 : decode cL_law 1337 = .ok (.iconst 0, 1) := by decide +kernel
theorem dL_law_1338 : decode cL_law 1338 = .ok (.laload, 1) := by decide +kernel
theorem dL_law_1339 : decode cL_law 1339 = .ok (.lload 6, 2) := by decide +kernel
theorem dL_law_1341 : decode cL_law 1341 = .ok (.lcmp, 1) := by decide +kernel
theorem dL_law_1342 : decode cL_law 1342 = .ok (.ifCond .eq 5, 3) := by decide +kernel
theorem dL_law_1345 : decode cL_law 1345 = .ok (.iconst 0, 1) := by decide +kernel
theorem dL_law_1346 : decode cL_law 1346 = .ok (.ireturn, 1) := by decide +kernel
theorem dL_law_1347 : decode cL_law 1347 = .ok (.goto 662, 3) := by decide +kernel
theorem dL_law_1350 : decode cL_law 1350 = .ok (.aload_n 1, 1) := by decide +kernel
theorem dL_law_1351 : decode cL_law 1351 = .ok (.aload_n 0, 1) := by decide +kernel
theorem dL_law_1352 : decode cL_law 1352 = .ok (.iload 4, 2) := by decide +kernel
theorem dL_law_1354 : decode cL_law 1354 = .ok (.iconst 1, 1) := by decide +kernel
theorem dL_law_1355 : decode cL_law 1355 = .ok (.iadd, 1) := by decide +kernel
theorem dL_law_1356 : decode cL_law 1356 = .ok (.iaload, 1) := by decide +kernel
theorem dL_law_1357 : decode cL_law 1357 = .ok (.aload_n 0, 1) := by decide +kernel
theorem dL_law_1358 : decode cL_law 1358 = .ok (.iload 4, 2) := by decide +kernel
theorem dL_law_1360 : decode cL_law 1360 = .ok (.iconst 2, 1) := by decide +kernel
theorem dL_law_1361 : decode cL_law 1361 = .ok (.iadd, 1) := by decide +kernel
theorem dL_law_1362 : decode cL_law 1362 = .ok (.iaload, 1) := by decide +kernel
theorem dL_law_1363 : decode cL_law 1363 = .ok (.aload_n 3, 1) := by decide +kernel
theorem dL_law_1364 : decode cL_law 1364 = .ok (.invokestatic 168, 3) := by decide +kernel
theorem dL_law_1367 : decode cL_law 1367 = .ok (.istore 5, 2) := by decide +kernel
theorem dL_law_1369 : decode cL_law 1369 = .ok (.aload_n 2, 1) := by decide +kernel
theorem dL_law_1370 : decode cL_law 1370 = .ok (.aload_n 0, 1) := by decide +kernel
theorem dL_law_1371 : decode cL_law 1371 = .ok (.iload 4, 2) := by decide +kernel
theorem dL_law_1373 : decode cL_law 1373 = .ok (.iconst 1, 1) := by decide +kernel
theorem dL_law_1374 : decode cL_law 1374 = .ok (.iadd, 1) := by decide +kernel
theorem dL_law_1375 : decode cL_law 1375 = .ok (.iaload, 1) := by decide +kernel
theorem dL_law_1376 : decode cL_law 1376 = .ok (.aload_n 0, 1) := by decide +kernel
theorem dL_law_1377 : decode cL_law 1377 = .ok (.iload 4, 2) := by decide +kernel
theorem dL_law_1379 : decode cL_law 1379 = .ok (.iconst 2, 1) := by decide +kernel
theorem dL_law_1380 : decode cL_law 1380 = .ok (.iadd, 1) := by decide +kernel
theorem dL_law_1381 : decode cL_law 1381 = .ok (.iaload, 1) := by decide +kernel
theorem dL_law_1382 : decode cL_law 1382 = .ok (.invokevirtual 170, 3) := by decide +kernel
theorem dL_law_1385 : decode cL_law 1385 = .ok (.lstore 6, 2) := by decide +kernel
end
section
theorem dL_law_1387 : decode cL_law 1387 = .ok (.aload_n 2, 1) := by decide +kernel
theorem dL_law_1388 : decode cL_law 1388 = .ok (.invokevirtual 107, 3) := by decide +kernel
theorem dL_law_1391 : decode cL_law 1391 = .ok (.iload 5, 2) := by decide +kernel
theorem dL_law_1393 : decode cL_law 1393 = .ok (.if_icmp .eq 5, 3) := by decide +kernel
theorem dL_law_1396 : decode cL_law 1396 = .ok (.iconst 0, 1) := by decide +kernel
theorem dL_law_1397 : decode cL_law 1397 = .ok (.ireturn, 1) := by decide +kernel
theorem dL_law_1398 : decode cL_law 1398 = .ok (.iload 5, 2) := by decide +kernel
theorem dL_law_1400 : decode cL_law 1400 = .ok (.ifCond .ne 14, 3) := by decide +kernel
theorem dL_law_1403 : decode cL_law 1403 = .ok (.aload_n 3, 1) := by decide +kernel
theorem dL_law_1404 : decode cL_law 1404 = .ok (.iconst 0, 1) := by decide +kernel
theorem dL_law_1405 : decode cL_law 1405 = .ok (.laload, 1) := by decide +kernel
theorem dL_law_1406 : decode cL_law 1406 = .ok (.lload 6, 2) := by decide +kernel
theorem dL_law_1408 : decode cL_law 1408 = .ok (.lcmp, 1) := by decide +kernel
theorem dL_law_1409 : decode cL_law 1409 = .ok (.ifCond .eq 5, 3) := by decide +kernel
theorem dL_law_1412 : decode cL_law 1412 = .ok (.iconst 0, 1) := by decide +kernel
theorem dL_law_1413 : decode cL_law 1413 = .ok (.ireturn, 1) := by decide +kernel
theorem dL_law_1414 : decode cL_law 1414 = .ok (.goto 595, 3) := by decide +kernel
theorem dL_law_1417 : decode cL_law 1417 = .ok (.aload_n 1, 1) := by decide +kernel
theorem dL_law_1418 : decode cL_law 1418 = .ok (.aload_n 0, 1) := by decide +kernel
theorem dL_law_1419 : decode cL_law 1419 = .ok (.iload 4, 2) := by decide +kernel
theorem dL_law_1421 : decode cL_law 1421 = .ok (.iconst 1, 1) := by decide +kernel
theorem dL_law_1422 : decode cL_law 1422 = .ok (.iadd, 1) := by decide +kernel
theorem dL_law_1423 : decode cL_law 1423 = .ok (.iaload, 1) := by decide +kernel
theorem dL_law_1424 : decode cL_law 1424 = .ok (.aload_n 0, 1) := by decide +kernel
theorem dL_law_1425 : decode cL_law 1425 = .ok (.iload 4, 2) := by decide +kernel
theorem dL_law_1427 : decode cL_law 1427 = .ok (.iconst 2, 1) := by decide +kernel
theorem dL_law_1428 : decode cL_law 1428 = .ok (.iadd, 1) := by decide +kernel
theorem dL_law_1429 : decode cL_law 1429 = .ok (.iaload, 1) := by decide +kernel
theorem dL_law_1430 : decode cL_law 1430 = .ok (.aload_n 0, 1) := by decide +kernel
theorem dL_law_1431 : decode cL_law 1431 = .ok (.iload 4, 2) := by decide +kernel
theorem dL_law_1433 : decode cL_law 1433 = .ok (.iconst 3, 1) := by decide +kernel
theorem dL_law_1434 : decode cL_law 1434 = .ok (.iadd, 1) := by decide +kernel
theorem dL_law_1435 : decode cL_law 1435 = .ok (.iaload, 1) := by decide +kernel
theorem dL_law_1436 : decode cL_law 1436 = .ok (.ifCond .eq 7, 3) := by decide +kernel
theorem dL_law_1439 : decode cL_law 1439 = .ok (.iconst 1, 1) := by decide +kernel
theorem dL_law_1440 : decode cL_law 1440 = .ok (.goto 4, 3) := by decide +kernel
theorem dL_law_1443 : decode cL_law 1443 = .ok (.iconst 0, 1) := by decide +kernel
theorem dL_law_1444 : decode cL_law 1444 = .ok (.aload_n 3, 1) := by decide +kernel
theorem dL_law_1445 : decode cL_law 1445 = .ok (.invokestatic 171, 3) := by decide +kernel
theorem dL_law_1448 : decode cL_law 1448 = .ok (.istore 5, 2) := by decide +kernel
theorem dL_law_1450 : decode cL_law 1450 = .ok (.aload_n 2, 1) := by decide +kernel
theorem dL_law_1451 : decode cL_law 1451 = .ok (.aload_n 0, 1) := by decide +kernel
theorem dL_law_1452 : decode cL_law 1452 = .ok (.iload 4, 2) := by decide +kernel
theorem dL_law_1454 : decode cL_law 1454 = .ok (.iconst 1, 1) := by decide +kernel
theorem dL_law_1455 : decode cL_law 1455 = .ok (.iadd, 1) := by decide +kernel
theorem dL_law_1456 : decode cL_law 1456 = .ok (.iaload, 1) := by decide +kernel
theorem dL_law_1457 : decode cL_law 1457 = .ok (.aload_n 0, 1) := by decide +kernel
theorem dL_law_1458 : decode cL_law 1458 = .ok (.iload 4, 2) := by decide +kernel
theorem dL_law_1460 : decode cL_law 1460 = .ok (.iconst 2, 1) := by decide +kernel
theorem dL_law_1461 : decode cL_law 1461 = .ok (.iadd, 1) := by decide +kernel
theorem dL_law_1462 : decode cL_law 1462 = .ok (.iaload, 1) := by decide +kernel
theorem dL_law_1463 : decode cL_law 1463 = .ok (.aload_n 0, 1) := by decide +kernel
theorem dL_law_1464 : decode cL_law 1464 = .ok (.iload 4, 2) := by decide +kernel
theorem dL_law_1466 : decode cL_law 1466 = .ok (.iconst 3, 1) := by decide +kernel
theorem dL_law_1467 : decode cL_law 1467 = .ok (.iadd, 1) := by decide +kernel
theorem dL_law_1468 : decode cL_law 1468 = .ok (.iaload, 1) := by decide +kernel
theorem dL_law_1469 : decode cL_law 1469 = .ok (.ifCond .eq 7, 3) := by decide +kernel
theorem dL_law_1472 : decode cL_law 1472 = .ok (.iconst 1, 1) := by decide +kernel
theorem dL_law_1473 : decode cL_law 1473 = .ok (.goto 4, 3) := by decide +kernel
theorem dL_law_1476 : decode cL_law 1476 = .ok (.iconst 0, 1) := by decide +kernel
theorem dL_law_1477 : decode cL_law 1477 = .ok (.invokevirtual 173, 3) := by decide +kernel
theorem dL_law_1480 : decode cL_law 1480 = .ok (.lstore 6, 2) := by decide +kernel
theorem dL_law_1482 : decode cL_law 1482 = .ok (.aload_n 2, 1) := by decide +kernel
theorem dL_law_1483 : decode cL_law 1483 = .ok (.invokevirtual 107, 3) := by decide +kernel
theorem dL_law_1486 : decode cL_law 1486 = .ok (.iload 5, 2) := by decide +kernel
theorem dL_law_1488 : decode cL_law 1488 = .ok (.if_icmp .eq 5, 3) := by decide +kernel
theorem dL_law_1491 : decode cL_law 1491 = .ok (.iconst 0, 1) := by decide +kernel
theorem dL_law_1492 : decode cL_law 1492 = .ok (.ireturn, 1) := by decide +kernel
theorem dL_law_1493 : decode cL_law 1493 = .ok (.iload 5, 2) := by decide +kernel
theorem dL_law_1495 : decode cL_law 1495 = .ok (.ifCond .ne 14, 3) := by decide +kernel
theorem dL_law_1498 : decode cL_law 1498 = .ok (.aload_n 3, 1) := by decide +kernel
theorem dL_law_1499 : decode cL_law 1499 = .ok (.iconst 0, 1) := by decide +kernel
theorem dL_law_1500 : decode cL_law 1500 = .ok (.laload, 1) := by decide +kernel
theorem dL_law_1501 : decode cL_law 1501 = .ok (.lload 6, 2) := by decide +kernel
theorem dL_law_1503 : decode cL_law 1503 = .ok (.lcmp, 1) := by decide +kernel
theorem dL_law_1504 : decode cL_law 1504 = .ok (.ifCond .eq 5, 3) := by decide +kernel
theorem dL_law_1507 : decode cL_law 1507 = .ok (.iconst 0, 1) := by decide +kernel
theorem dL_law_1508 : decode cL_law 1508 = .ok (.ireturn, 1) := by decide +kernel
theorem dL_law_1509 : decode cL_law 1509 = .ok (.goto 500, 3) := by decide +kernel
theorem dL_law_1512 : decode cL_law 1512 = .ok (.aload_n 1, 1) := by decide +kernel
theorem dL_law_1513 : decode cL_law 1513 = .ok (.aload_n 0, 1) := by decide +kernel
theorem dL_law_1514 : decode cL_law 1514 = .ok (.iload 4, 2) := by decide +kernel
theorem dL_law_1516 : decode cL_law 1516 = .ok (.iconst 1, 1) := by decide +kernel
theorem dL_law_1517 : decode cL_law 1517 = .ok (.iadd, 1) := by decide +kernel
theorem dL_law_1518 : decode cL_law 1518 = .ok (.iaload, 1) := by decide +kernel
theorem dL_law_1519 : decode cL_law 1519 = .ok (.aload_n 0, 1) := by decide +kernel
theorem dL_law_1520 : decode cL_law 1520 = .ok (.iload 4, 2) := by decide +kernel
theorem dL_law_1522 : decode cL_law 1522 = .ok (.iconst 2, 1) := by decide +kernel
theorem dL_law_1523 : decode cL_law 1523 = .ok (.iadd, 1) := by decide +kernel
theorem dL_law_1524 : decode cL_law 1524 = .ok (.iaload, 1) := by decide +kernel
theorem dL_law_1525 : decode cL_law 1525 = .ok (.aload_n 0, 1) := by decide +kernel
theorem dL_law_1526 : decode cL_law 1526 = .ok (.iload 4, 2) := by decide +kernel
theorem dL_law_1528 : decode cL_law 1528 = .ok (.iconst 3, 1) := by decide +kernel
theorem dL_law_1529 : decode cL_law 1529 = .ok (.iadd, 1) := by decide +kernel
theorem dL_law_1530 : decode cL_law 1530 = .ok (.iaload, 1) := by decide +kernel
theorem dL_law_1531 : decode cL_law 1531 = .ok (.ifCond .eq 7, 3) := by decide +kernel
theorem dL_law_1534 : decode cL_law 1534 = .ok (.iconst 1, 1) := by decide +kernel
theorem dL_law_1535 : decode cL_law 1535 = .ok (.goto 4, 3) := by decide +kernel
theorem dL_law_1538 : decode cL_law 1538 = .ok (.iconst 0, 1) := by decide +kernel
theorem dL_law_1539 : decode cL_law 1539 = .ok (.aload_n 3, 1) := by decide +kernel
theorem dL_law_1540 : decode cL_law 1540 = .ok (.invokestatic 174, 3) := by decide +kernel
theorem dL_law_1543 : decode cL_law 1543 = .ok (.istore 5, 2) := by decide +kernel
theorem dL_law_1545 : decode cL_law 1545 = .ok (.aload_n 2, 1) := by decide +kernel
theorem dL_law_1546 : decode cL_law 1546 = .ok (.aload_n 0, 1) := by decide +kernel
theorem dL_law_1547 : decode cL_law 1547 = .ok (.iload 4, 2) := by decide +kernel
theorem dL_law_1549 : decode cL_law 1549 = .ok (.iconst 1, 1) := by decide +kernel
theorem dL_law_1550 : decode cL_law 1550 = .ok (.iadd, 1) := by decide +kernel
theorem dL_law_1551 : decode cL_law 1551 = .ok (.iaload, 1) := by decide +kernel
theorem dL_law_1552 : decode cL_law 1552 = .ok (.aload_n 0, 1) := by decide +kernel
theorem dL_law_1553 : decode cL_law 1553 = .ok (.iload 4, 2) := by decide +kernel
theorem dL_law_1555 : decode cL_law 1555 = .ok (.iconst 2, 1) := by decide +kernel
theorem dL_law_1556 : decode cL_law 1556 = .ok (.iadd, 1) := by decide +kernel
theorem dL_law_1557 : decode cL_law 1557 = .ok (.iaload, 1) := by decide +kernel
theorem dL_law_1558 : decode cL_law 1558 = .ok (.aload_n 0, 1) := by decide +kernel
theorem dL_law_1559 : decode cL_law 1559 = .ok (.iload 4, 2) := by decide +kernel
theorem dL_law_1561 : decode cL_law 1561 = .ok (.iconst 3, 1) := by decide +kernel
theorem dL_law_1562 : decode cL_law 1562 = .ok (.iadd, 1) := by decide +kernel
theorem dL_law_1563 : decode cL_law 1563 = .ok (.iaload, 1) := by decide +kernel
theorem dL_law_1564 : decode cL_law 1564 = .ok (.ifCond .eq 7, 3) := by decide +kernel
theorem dL_law_1567 : decode cL_law 1567 = .ok (.iconst 1, 1) := by decide +kernel
theorem dL_law_1568 : decode cL_law 1568 = .ok (.goto 4, 3) := by decide +kernel
theorem dL_law_1571 : decode cL_law 1571 = .ok (.iconst 0, 1) := by decide +kernel
theorem dL_law_1572 : decode cL_law 1572 = .ok (.invokevirtual 176, 3) := by decide +kernel
theorem dL_law_1575 : decode cL_law 1575 = .ok (.lstore 6, 2) := by decide +kernel
theorem dL_law_1577 : decode cL_law 1577 = .ok (.aload_n 2, 1) := by decide +kernel
theorem dL_law_1578 : decode cL_law 1578 = .ok (.invokevirtual 107, 3) := by decide +kernel
theorem dL_law_1581 : decode cL_law 1581 = .ok (.iload 5, 2) := by decide +kernel
theorem dL_law_1583 : decode cL_law 1583 = .ok (.if_icmp .eq 5, 3) := by decide +kernel
theorem dL_law_1586 : decode cL_law 1586 = .ok (.iconst 0, 1) := by decide +kernel
theorem dL_law_1587 : decode cL_law 1587 = .ok (.ireturn, 1) := by decide +kernel
theorem dL_law_1588 : decode cL_law 1588 = .ok (.iload 5, 2) := by decide +kernel
theorem dL_law_1590 : decode cL_law 1590 = .ok (.ifCond .ne 14, 3) := by decide +kernel
theorem dL_law_1593 : decode cL_law 1593 = .ok (.aload_n 3, 1) := by decide +kernel
theorem dL_law_1594 : decode cL_law 1594 = .ok (.iconst 0, 1) := by decide +kernel
theorem dL_law_1595 : decode cL_law 1595 = .ok (.laload, 1) := by decide +kernel
theorem dL_law_1596 : decode cL_law 1596 = .ok (.lload 6, 2) := by decide +kernel
theorem dL_law_1598 : decode cL_law 1598 = .ok (.lcmp, 1) := by decide +kernel
theorem dL_law_1599 : decode cL_law 1599 = .ok (.ifCond .eq 5, 3) := by decide +kernel
theorem dL_law_1602 : decode cL_law 1602 = .ok (.iconst 0, 1) := by decide +kernel
theorem dL_law_1603 : decode cL_law 1603 = .ok (.ireturn, 1) := by decide +kernel
theorem dL_law_1604 : decode cL_law 1604 = .ok (.goto 405, 3) := by decide +kernel
theorem dL_law_1607 : decode cL_law 1607 = .ok (.aload_n 1, 1) := by decide +kernel
theorem dL_law_1608 : decode cL_law 1608 = .ok (.aload_n 0, 1) := by decide +kernel
theorem dL_law_1609 : decode cL_law 1609 = .ok (.iload 4, 2) := by decide +kernel
theorem dL_law_1611 : decode cL_law 1611 = .ok (.iconst 1, 1) := by decide +kernel
theorem dL_law_1612 : decode cL_law 1612 = .ok (.iadd, 1) := by decide +kernel
theorem dL_law_1613 : decode cL_law 1613 = .ok (.iaload, 1) := by decide +kernel
theorem dL_law_1614 : decode cL_law 1614 = .ok (.aload_n 0, 1) := by decide +kernel
theorem dL_law_1615 : decode cL_law 1615 = .ok (.iload 4, 2) := by decide +kernel
theorem dL_law_1617 : decode cL_law 1617 = .ok (.iconst 2, 1) := by decide +kernel
theorem dL_law_1618 : decode cL_law 1618 = .ok (.iadd, 1) := by decide +kernel
theorem dL_law_1619 : decode cL_law 1619 = .ok (.iaload, 1) := by decide +kernel
theorem dL_law_1620 : decode cL_law 1620 = .ok (.aload_n 0, 1) := by decide +kernel
theorem dL_law_1621 : decode cL_law 1621 = .ok (.iload 4, 2) := by decide +kernel
theorem dL_law_1623 : decode cL_law 1623 = .ok (.iconst 3, 1) := by decide +kernel
theorem dL_law_1624 : decode cL_law 1624 = .ok (.iadd, 1) := by decide +kernel
theorem dL_law_1625 : decode cL_law 1625 = .ok (.iaload, 1) := by decide +kernel
theorem dL_law_1626 : decode cL_law 1626 = .ok (.ifCond .eq 7, 3) := by decide +kernel
theorem dL_law_1629 : decode cL_law 1629 = .ok (.iconst 1, 1) := by decide +kernel
theorem dL_law_1630 : decode cL_law 1630 = .ok (.goto 4, 3) := by decide +kernel
theorem dL_law_1633 : decode cL_law 1633 = .ok (.iconst 0, 1) := by decide +kernel
theorem dL_law_1634 : decode cL_law 1634 = .ok (.aload_n 3, 1) := by decide +kernel
theorem dL_law_1635 : decode cL_law 1635 = .ok (.invokestatic 177, 3) := by decide +kernel
theorem dL_law_1638 : decode cL_law 1638 = .ok (.istore 5, 2) := by decide +kernel
theorem dL_law_1640 : decode cL_law 1640 = .ok (.aload_n 2, 1) := by decide +kernel
theorem dL_law_1641 : decode cL_law 1641 = .ok (.aload_n 0, 1) := by decide +kernel
theorem dL_law_1642 : decode cL_law 1642 = .ok (.iload 4, 2) := by decide +kernel
theorem dL_law_1644 : decode cL_law 1644 = .ok (.iconst 1, 1) := by decide +kernel
theorem dL_law_1645 : decode cL_law 1645 = .ok (.iadd, 1) := by decide +kernel
theorem dL_law_1646 : decode cL_law 1646 = .ok (.iaload, 1) := by decide +kernel
theorem dL_law_1647 : decode cL_law 1647 = .ok (.aload_n 0, 1) := by decide +kernel
theorem dL_law_1648 : decode cL_law 1648 = .ok (.iload 4, 2) := by decide +kernel
theorem dL_law_1650 : decode cL_law 1650 = .ok (.iconst 2, 1) := by decide +kernel
theorem dL_law_1651 : decode cL_law 1651 = .ok (.iadd, 1) := by decide +kernel
theorem dL_law_1652 : decode cL_law 1652 = .ok (.iaload, 1) := by decide +kernel
theorem dL_law_1653 : decode cL_law 1653 = .ok (.aload_n 0, 1) := by decide +kernel
theorem dL_law_1654 : decode cL_law 1654 = .ok (.iload 4, 2) := by decide +kernel
theorem dL_law_1656 : decode cL_law 1656 = .ok (.iconst 3, 1) := by decide +kernel
theorem dL_law_1657 : decode cL_law 1657 = .ok (.iadd, 1) := by decide +kernel
theorem dL_law_1658 : decode cL_law 1658 = .ok (.iaload, 1) := by decide +kernel
theorem dL_law_1659 : decode cL_law 1659 = .ok (.ifCond .eq 7, 3) := by decide +kernel
theorem dL_law_1662 : decode cL_law 1662 = .ok (.iconst 1, 1) := by decide +kernel
theorem dL_law_1663 : decode cL_law 1663 = .ok (.goto 4, 3) := by decide +kernel
theorem dL_law_1666 : decode cL_law 1666 = .ok (.iconst 0, 1) := by decide +kernel
theorem dL_law_1667 : decode cL_law 1667 = .ok (.invokevirtual 179, 3) := by decide +kernel
theorem dL_law_1670 : decode cL_law 1670 = .ok (.lstore 6, 2) := by decide +kernel
theorem dL_law_1672 : decode cL_law 1672 = .ok (.aload_n 2, 1) := by decide +kernel
theorem dL_law_1673 : decode cL_law 1673 = .ok (.invokevirtual 107, 3) := by decide +kernel
theorem dL_law_1676 : decode cL_law 1676 = .ok (.iload 5, 2) := by decide +kernel
theorem dL_law_1678 : decode cL_law 1678 = .ok (.if_icmp .eq 5, 3) := by decide +kernel
theorem dL_law_1681 : decode cL_law 1681 = .ok (.iconst 0, 1) := by decide +kernel
theorem dL_law_1682 : decode cL_law 1682 = .ok (.ireturn, 1) := by decide +kernel
theorem dL_law_1683 : decode cL_law 1683 = .ok (.iload 5, 2) := by decide +kernel
theorem dL_law_1685 : decode cL_law 1685 = .ok (.ifCond .ne 14, 3) := by decide +kernel
theorem dL_law_1688 : decode cL_law 1688 = .ok (.aload_n 3, 1) := by decide +kernel
theorem dL_law_1689 : decode cL_law 1689 = .ok (.iconst 0, 1) := by decide +kernel
theorem dL_law_1690 : decode cL_law 1690 = .ok (.laload, 1) := by decide +kernel
theorem dL_law_1691 : decode cL_law 1691 = .ok (.lload 6, 2) := by decide +kernel
theorem dL_law_1693 : decode cL_law 1693 = .ok (.lcmp, 1) := by decide +kernel
theorem dL_law_1694 : decode cL_law 1694 = .ok (.ifCond .eq 5, 3) := by decide +kernel
theorem dL_law_1697 : decode cL_law 1697 = .ok (.iconst 0, 1) := by decide +kernel
theorem dL_law_1698 : decode cL_law 1698 = .ok (.ireturn, 1) := by decide +kernel
theorem dL_law_1699 : decode cL_law 1699 = .ok (.goto 310, 3) := by decide +kernel
theorem dL_law_1702 : decode cL_law 1702 = .ok (.aload_n 1, 1) := by decide +kernel
theorem dL_law_1703 : decode cL_law 1703 = .ok (.aload_n 0, 1) := by decide +kernel
theorem dL_law_1704 : decode cL_law 1704 = .ok (.iload 4, 2) := by decide +kernel
theorem dL_law_1706 : decode cL_law 1706 = .ok (.iconst 1, 1) := by decide +kernel
theorem dL_law_1707 : decode cL_law 1707 = .ok (.iadd, 1) := by decide +kernel
theorem dL_law_1708 : decode cL_law 1708 = .ok (.iaload, 1) := by decide +kernel
theorem dL_law_1709 : decode cL_law 1709 = .ok (.aload_n 0, 1) := by decide +kernel
theorem dL_law_1710 : decode cL_law 1710 = .ok (.iload 4, 2) := by decide +kernel
theorem dL_law_1712 : decode cL_law 1712 = .ok (.iconst 2, 1) := by decide +kernel
theorem dL_law_1713 : decode cL_law 1713 = .ok (.iadd, 1) := by decide +kernel
theorem dL_law_1714 : decode cL_law 1714 = .ok (.iaload, 1) := by decide +kernel
theorem dL_law_1715 : decode cL_law 1715 = .ok (.aload_n 3, 1) := by decide +kernel
theorem dL_law_1716 : decode cL_law 1716 = .ok (.invokestatic 180, 3) := by decide +kernel
theorem dL_law_1719 : decode cL_law 1719 = .ok (.istore 5, 2) := by decide +kernel
theorem dL_law_1721 : decode cL_law 1721 = .ok (.aload_n 2, 1) := by decide +kernel
theorem dL_law_1722 : decode cL_law 1722 = .ok (.aload_n 0, 1) := by decide +kernel
theorem dL_law_1723 : decode cL_law 1723 = .ok (.iload 4, 2) := by decide +kernel
theorem dL_law_1725 : decode cL_law 1725 = .ok (.iconst 1, 1) := by decide +kernel
theorem dL_law_1726 : decode cL_law 1726 = .ok (.iadd, 1) := by decide +kernel
theorem dL_law_1727 : decode cL_law 1727 = .ok (.iaload, 1) := by decide +kernel
theorem dL_law_1728 : decode cL_law 1728 = .ok (.aload_n 0, 1) := by decide +kernel
theorem dL_law_1729 : decode cL_law 1729 = .ok (.iload 4, 2) := by decide +kernel
theorem dL_law_1731 : decode cL_law 1731 = .ok (.iconst 2, 1) := by decide +kernel
theorem dL_law_1732 : decode cL_law 1732 = .ok (.iadd, 1) := by decide +kernel
theorem dL_law_1733 : decode cL_law 1733 = .ok (.iaload, 1) := by decide +kernel
theorem dL_law_1734 : decode cL_law 1734 = .ok (.invokevirtual 182, 3) := by decide +kernel
theorem dL_law_1737 : decode cL_law 1737 = .ok (.istore 6, 2) := by decide +kernel
theorem dL_law_1739 : decode cL_law 1739 = .ok (.aload_n 2, 1) := by decide +kernel
theorem dL_law_1740 : decode cL_law 1740 = .ok (.invokevirtual 107, 3) := by decide +kernel
theorem dL_law_1743 : decode cL_law 1743 = .ok (.iload 5, 2) := by decide +kernel
theorem dL_law_1745 : decode cL_law 1745 = .ok (.if_icmp .eq 5, 3) := by decide +kernel
theorem dL_law_1748 : decode cL_law 1748 = .ok (.iconst 0, 1) := by decide +kernel
theorem dL_law_1749 : decode cL_law 1749 = .ok (.ireturn, 1) := by decide +kernel
theorem dL_law_1750 : decode cL_law 1750 = .ok (.iload 5, 2) := by decide +kernel
theorem dL_law_1752 : decode cL_law 1752 = .ok (.ifCond .ne 15, 3) := by decide +kernel
theorem dL_law_1755 : decode cL_law 1755 = .ok (.aload_n 3, 1) := by decide +kernel
theorem dL_law_1756 : decode cL_law 1756 = .ok (.iconst 0, 1) := by decide +kernel
theorem dL_law_1757 : decode cL_law 1757 = .ok (.laload, 1) := by decide +kernel
theorem dL_law_1758 : decode cL_law 1758 = .ok (.iload 6, 2) := by decide +kernel
theorem dL_law_1760 : decode cL_law 1760 = .ok (.i2l, 1) := by decide +kernel
theorem dL_law_1761 : decode cL_law 1761 = .ok (.lcmp, 1) := by decide +kernel
theorem dL_law_1762 : decode cL_law 1762 = .ok (.ifCond .eq 5, 3) := by decide +kernel
theorem dL_law_1765 : decode cL_law 1765 = .ok (.iconst 0, 1) := by decide +kernel
theorem dL_law_1766 : decode cL_law 1766 = .ok (.ireturn, 1) := by decide +kernel
theorem dL_law_1767 : decode cL_law 1767 = .ok (.goto 242, 3) := by decide +kernel
theorem dL_law_1770 : decode cL_law 1770 = .ok (.aload_n 1, 1) := by decide +kernel
theorem dL_law_1771 : decode cL_law 1771 = .ok (.aload_n 0, 1) := by decide +kernel
theorem dL_law_1772 : decode cL_law 1772 = .ok (.iload 4, 2) := by decide +kernel
theorem dL_law_1774 : decode cL_law 1774 = .ok (.iconst 1, 1) := by decide +kernel
theorem dL_law_1775 : decode cL_law 1775 = .ok (.iadd, 1) := by decide +kernel
theorem dL_law_1776 : decode cL_law 1776 = .ok (.iaload, 1) := by decide +kernel
theorem dL_law_1777 : decode cL_law 1777 = .ok (.aload_n 0, 1) := by decide +kernel
theorem dL_law_1778 : decode cL_law 1778 = .ok (.iload 4, 2) := by decide +kernel
theorem dL_law_1780 : decode cL_law 1780 = .ok (.iconst 2, 1) := by decide +kernel
theorem dL_law_1781 : decode cL_law 1781 = .ok (.iadd, 1) := by decide +kernel
theorem dL_law_1782 : decode cL_law 1782 = .ok (.iaload, 1) := by decide +kernel
theorem dL_law_1783 : decode cL_law 1783 = .ok (.aload_n 0, 1) := by decide +kernel
theorem dL_law_1784 : decode cL_law 1784 = .ok (.iload 4, 2) := by decide +kernel
theorem dL_law_1786 : decode cL_law 1786 = .ok (.iconst 3, 1) := by decide +kernel
theorem dL_law_1787 : decode cL_law 1787 = .ok (.iadd, 1) := by decide +kernel
theorem dL_law_1788 : decode cL_law 1788 = .ok (.iaload, 1) := by decide +kernel
theorem dL_law_1789 : decode cL_law 1789 = .ok (.aload_n 3, 1) := by decide +kernel
theorem dL_law_1790 : decode cL_law 1790 = .ok (.invokestatic 183, 3) := by decide +kernel
theorem dL_law_1793 : decode cL_law 1793 = .ok (.istore 5, 2) := by decide +kernel
theorem dL_law_1795 : decode cL_law 1795 = .ok (.aload_n 2, 1) := by decide +kernel
theorem dL_law_1796 : decode cL_law 1796 = .ok (.aload_n 0, 1) := by decide +kernel
theorem dL_law_1797 : decode cL_law 1797 = .ok (.iload 4, 2) := by decide +kernel
theorem dL_law_1799 : decode cL_law 1799 = .ok (.iconst 1, 1) := by decide +kernel
theorem dL_law_1800 : decode cL_law 1800 = .ok (.iadd, 1) := by decide +kernel
theorem dL_law_1801 : decode cL_law 1801 = .ok (.iaload, 1) := by decide +kernel
theorem dL_law_1802 : decode cL_law 1802 = .ok (.aload_n 0, 1) := by decide +kernel
theorem dL_law_1803 : decode cL_law 1803 = .ok (.iload 4, 2) := by decide +kernel
theorem dL_law_1805 : decode cL_law 1805 = .ok (.iconst 2, 1) := by decide +kernel
theorem dL_law_1806 : decode cL_law 1806 = .ok (.iadd, 1) := by decide +kernel
theorem dL_law_1807 : decode cL_law 1807 = .ok (.iaload, 1) := by decide +kernel
theorem dL_law_1808 : decode cL_law 1808 = .ok (.aload_n 0, 1) := by decide +kernel
theorem dL_law_1809 : decode cL_law 1809 = .ok (.iload 4, 2) := by decide +kernel
end
section
theorem dL_law_1811 : decode cL_law 1811 = .ok (.iconst 3, 1) := by decide +kernel
theorem dL_law_1812 : decode cL_law 1812 = .ok (.iadd, 1) := by decide +kernel
theorem dL_law_1813 : decode cL_law 1813 = .ok (.iaload, 1) := by decide +kernel
theorem dL_law_1814 : decode cL_law 1814 = .ok (.invokevirtual 185, 3) := by decide +kernel
theorem dL_law_1817 : decode cL_law 1817 = .ok (.istore 6, 2) := by decide +kernel
theorem dL_law_1819 : decode cL_law 1819 = .ok (.aload_n 2, 1) := by decide +kernel
theorem dL_law_1820 : decode cL_law 1820 = .ok (.invokevirtual 107, 3) := by decide +kernel
theorem dL_law_1823 : decode cL_law 1823 = .ok (.iload 5, 2) := by decide +kernel
theorem dL_law_1825 : decode cL_law 1825 = .ok (.if_icmp .eq 5, 3) := by decide +kernel
theorem dL_law_1828 : decode cL_law 1828 = .ok (.iconst 0, 1) := by decide +kernel
theorem dL_law_1829 : decode cL_law 1829 = .ok (.ireturn, 1) := by decide +kernel
theorem dL_law_1830 : decode cL_law 1830 = .ok (.iload 5, 2) := by decide +kernel
theorem dL_law_1832 : decode cL_law 1832 = .ok (.ifCond .ne 15, 3) := by decide +kernel
theorem dL_law_1835 : decode cL_law 1835 = .ok (.aload_n 3, 1) := by decide +kernel
theorem dL_law_1836 : decode cL_law 1836 = .ok (.iconst 0, 1) := by decide +kernel
theorem dL_law_1837 : decode cL_law 1837 = .ok (.laload, 1) := by decide +kernel
theorem dL_law_1838 : decode cL_law 1838 = .ok (.iload 6, 2) := by decide +kernel
theorem dL_law_1840 : decode cL_law 1840 = .ok (.i2l, 1) := by decide +kernel
theorem dL_law_1841 : decode cL_law 1841 = .ok (.lcmp, 1) := by decide +kernel
theorem dL_law_1842 : decode cL_law 1842 = .ok (.ifCond .eq 5, 3) := by decide +kernel
theorem dL_law_1845 : decode cL_law 1845 = .ok (.iconst 0, 1) := by decide +kernel
theorem dL_law_1846 : decode cL_law 1846 = .ok (.ireturn, 1) := by decide +kernel
theorem dL_law_1847 : decode cL_law 1847 = .ok (.goto 162, 3) := by decide +kernel
theorem dL_law_1850 : decode cL_law 1850 = .ok (.aload_n 1, 1) := by decide +kernel
theorem dL_law_1851 : decode cL_law 1851 = .ok (.aload_n 0, 1) := by decide +kernel
theorem dL_law_1852 : decode cL_law 1852 = .ok (.iload 4, 2) := by decide +kernel
theorem dL_law_1854 : decode cL_law 1854 = .ok (.iconst 1, 1) := by decide +kernel
theorem dL_law_1855 : decode cL_law 1855 = .ok (.iadd, 1) := by decide +kernel
theorem dL_law_1856 : decode cL_law 1856 = .ok (.iaload, 1) := by decide +kernel
theorem dL_law_1857 : decode cL_law 1857 = .ok (.aload_n 0, 1) := by decide +kernel
theorem dL_law_1858 : decode cL_law 1858 = .ok (.iload 4, 2) := by decide +kernel
theorem dL_law_1860 : decode cL_law 1860 = .ok (.iconst 2, 1) := by decide +kernel
theorem dL_law_1861 : decode cL_law 1861 = .ok (.iadd, 1) := by decide +kernel
theorem dL_law_1862 : decode cL_law 1862 = .ok (.iaload, 1) := by decide +kernel
theorem dL_law_1863 : decode cL_law 1863 = .ok (.aload_n 0, 1) := by decide +kernel
theorem dL_law_1864 : decode cL_law 1864 = .ok (.iload 4, 2) := by decide +kernel
theorem dL_law_1866 : decode cL_law 1866 = .ok (.iconst 3, 1) := by decide +kernel
theorem dL_law_1867 : decode cL_law 1867 = .ok (.iadd, 1) := by decide +kernel
theorem dL_law_1868 : decode cL_law 1868 = .ok (.iaload, 1) := by decide +kernel
theorem dL_law_1869 : decode cL_law 1869 = .ok (.aload_n 3, 1) := by decide +kernel
theorem dL_law_1870 : decode cL_law 1870 = .ok (.invokestatic 186, 3) := by decide +kernel
theorem dL_law_1873 : decode cL_law 1873 = .ok (.istore 5, 2) := by decide +kernel
theorem dL_law_1875 : decode cL_law 1875 = .ok (.aload_n 2, 1) := by decide +kernel
theorem dL_law_1876 : decode cL_law 1876 = .ok (.aload_n 0, 1) := by decide +kernel
theorem dL_law_1877 : decode cL_law 1877 = .ok (.iload 4, 2) := by decide +kernel
theorem dL_law_1879 : decode cL_law 1879 = .ok (.iconst 1, 1) := by decide +kernel
theorem dL_law_1880 : decode cL_law 1880 = .ok (.iadd, 1) := by decide +kernel
theorem dL_law_1881 : decode cL_law 1881 = .ok (.iaload, 1) := by decide +kernel
theorem dL_law_1882 : decode cL_law 1882 = .ok (.aload_n 0, 1) := by decide +kernel
theorem dL_law_1883 : decode cL_law 1883 = .ok (.iload 4, 2) := by decide +kernel
theorem dL_law_1885 : decode cL_law 1885 = .ok (.iconst 2, 1) := by decide +kernel
theorem dL_law_1886 : decode cL_law 1886 = .ok (.iadd, 1) := by decide +kernel
theorem dL_law_1887 : decode cL_law 1887 = .ok (.iaload, 1) := by decide +kernel
theorem dL_law_1888 : decode cL_law 1888 = .ok (.aload_n 0, 1) := by decide +kernel
theorem dL_law_1889 : decode cL_law 1889 = .ok (.iload 4, 2) := by decide +kernel
theorem dL_law_1891 : decode cL_law 1891 = .ok (.iconst 3, 1) := by decide +kernel
theorem dL_law_1892 : decode cL_law 1892 = .ok (.iadd, 1) := by decide +kernel
theorem dL_law_1893 : decode cL_law 1893 = .ok (.iaload, 1) := by decide +kernel
theorem dL_law_1894 : decode cL_law 1894 = .ok (.invokevirtual 188, 3) := by decide +kernel
theorem dL_law_1897 : decode cL_law 1897 = .ok (.lstore 6, 2) := by decide +kernel
theorem dL_law_1899 : decode cL_law 1899 = .ok (.aload_n 2, 1) := by decide +kernel
theorem dL_law_1900 : decode cL_law 1900 = .ok (.invokevirtual 107, 3) := by decide +kernel
theorem dL_law_1903 : decode cL_law 1903 = .ok (.iload 5, 2) := by decide +kernel
theorem dL_law_1905 : decode cL_law 1905 = .ok (.if_icmp .eq 5, 3) := by decide +kernel
theorem dL_law_1908 : decode cL_law 1908 = .ok (.iconst 0, 1) := by decide +kernel
theorem dL_law_1909 : decode cL_law 1909 = .ok (.ireturn, 1) := by decide +kernel
theorem dL_law_1910 : decode cL_law 1910 = .ok (.iload 5, 2) := by decide +kernel
theorem dL_law_1912 : decode cL_law 1912 = .ok (.ifCond .ne 14, 3) := by decide +kernel
theorem dL_law_1915 : decode cL_law 1915 = .ok (.aload_n 3, 1) := by decide +kernel
theorem dL_law_1916 : decode cL_law 1916 = .ok (.iconst 0, 1) := by decide +kernel
theorem dL_law_1917 : decode cL_law 1917 = .ok (.laload, 1) := by decide +kernel
theorem dL_law_1918 : decode cL_law 1918 = .ok (.lload 6, 2) := by decide +kernel
theorem dL_law_1920 : decode cL_law 1920 = .ok (.lcmp, 1) := by decide +kernel
theorem dL_law_1921 : decode cL_law 1921 = .ok (.ifCond .eq 5, 3) := by decide +kernel
theorem dL_law_1924 : decode cL_law 1924 = .ok (.iconst 0, 1) := by decide +kernel
theorem dL_law_1925 : decode cL_law 1925 = .ok (.ireturn, 1) := by decide +kernel
theorem dL_law_1926 : decode cL_law 1926 = .ok (.goto 83, 3) := by decide +kernel
theorem dL_law_1929 : decode cL_law 1929 = .ok (.aload_n 1, 1) := by decide +kernel
theorem dL_law_1930 : decode cL_law 1930 = .ok (.aload_n 0, 1) := by decide +kernel
theorem dL_law_1931 : decode cL_law 1931 = .ok (.iload 4, 2) := by decide +kernel
theorem dL_law_1933 : decode cL_law 1933 = .ok (.iconst 1, 1) := by decide +kernel
theorem dL_law_1934 : decode cL_law 1934 = .ok (.iadd, 1) := by decide +kernel
theorem dL_law_1935 : decode cL_law 1935 = .ok (.iaload, 1) := by decide +kernel
theorem dL_law_1936 : decode cL_law 1936 = .ok (.aload_n 0, 1) := by decide +kernel
theorem dL_law_1937 : decode cL_law 1937 = .ok (.iload 4, 2) := by decide +kernel
theorem dL_law_1939 : decode cL_law 1939 = .ok (.iconst 2, 1) := by decide +kernel
theorem dL_law_1940 : decode cL_law 1940 = .ok (.iadd, 1) := by decide +kernel
theorem dL_law_1941 : decode cL_law 1941 = .ok (.iaload, 1) := by decide +kernel
theorem dL_law_1942 : decode cL_law 1942 = .ok (.aload_n 0, 1) := by decide +kernel
theorem dL_law_1943 : decode cL_law 1943 = .ok (.iload 4, 2) := by decide +kernel
theorem dL_law_1945 : decode cL_law 1945 = .ok (.iconst 3, 1) := by decide +kernel
theorem dL_law_1946 : decode cL_law 1946 = .ok (.iadd, 1) := by decide +kernel
theorem dL_law_1947 : decode cL_law 1947 = .ok (.iaload, 1) := by decide +kernel
theorem dL_law_1948 : decode cL_law 1948 = .ok (.aload_n 3, 1) := by decide +kernel
theorem dL_law_1949 : decode cL_law 1949 = .ok (.invokestatic 189, 3) := by decide +kernel
theorem dL_law_1952 : decode cL_law 1952 = .ok (.istore 5, 2) := by decide +kernel
theorem dL_law_1954 : decode cL_law 1954 = .ok (.aload_n 2, 1) := by decide +kernel
theorem dL_law_1955 : decode cL_law 1955 = .ok (.aload_n 0, 1) := by decide +kernel
theorem dL_law_1956 : decode cL_law 1956 = .ok (.iload 4, 2) := by decide +kernel
theorem dL_law_1958 : decode cL_law 1958 = .ok (.iconst 1, 1) := by decide +kernel
theorem dL_law_1959 : decode cL_law 1959 = .ok (.iadd, 1) := by decide +kernel
theorem dL_law_1960 : decode cL_law 1960 = .ok (.iaload, 1) := by decide +kernel
theorem dL_law_1961 : decode cL_law 1961 = .ok (.aload_n 0, 1) := by decide +kernel
theorem dL_law_1962 : decode cL_law 1962 = .ok (.iload 4, 2) := by decide +kernel
theorem dL_law_1964 : decode cL_law 1964 = .ok (.iconst 2, 1) := by decide +kernel
theorem dL_law_1965 : decode cL_law 1965 = .ok (.iadd, 1) := by decide +kernel
theorem dL_law_1966 : decode cL_law 1966 = .ok (.iaload, 1) := by decide +kernel
theorem dL_law_1967 : decode cL_law 1967 = .ok (.aload_n 0, 1) := by decide +kernel
theorem dL_law_1968 : decode cL_law 1968 = .ok (.iload 4, 2) := by decide +kernel
theorem dL_law_1970 : decode cL_law 1970 = .ok (.iconst 3, 1) := by decide +kernel
theorem dL_law_1971 : decode cL_law 1971 = .ok (.iadd, 1) := by decide +kernel
theorem dL_law_1972 : decode cL_law 1972 = .ok (.iaload, 1) := by decide +kernel
theorem dL_law_1973 : decode cL_law 1973 = .ok (.invokevirtual 191, 3) := by decide +kernel
theorem dL_law_1976 : decode cL_law 1976 = .ok (.istore 6, 2) := by decide +kernel
theorem dL_law_1978 : decode cL_law 1978 = .ok (.aload_n 2, 1) := by decide +kernel
theorem dL_law_1979 : decode cL_law 1979 = .ok (.invokevirtual 107, 3) := by decide +kernel
theorem dL_law_1982 : decode cL_law 1982 = .ok (.iload 5, 2) := by decide +kernel
theorem dL_law_1984 : decode cL_law 1984 = .ok (.if_icmp .eq 5, 3) := by decide +kernel
theorem dL_law_1987 : decode cL_law 1987 = .ok (.iconst 0, 1) := by decide +kernel
theorem dL_law_1988 : decode cL_law 1988 = .ok (.ireturn, 1) := by decide +kernel
theorem dL_law_1989 : decode cL_law 1989 = .ok (.iload 5, 2) := by decide +kernel
theorem dL_law_1991 : decode cL_law 1991 = .ok (.ifCond .ne 15, 3) := by decide +kernel
theorem dL_law_1994 : decode cL_law 1994 = .ok (.aload_n 3, 1) := by decide +kernel
theorem dL_law_1995 : decode cL_law 1995 = .ok (.iconst 0, 1) := by decide +kernel
theorem dL_law_1996 : decode cL_law 1996 = .ok (.laload, 1) := by decide +kernel
theorem dL_law_1997 : decode cL_law 1997 = .ok (.iload 6, 2) := by decide +kernel
theorem dL_law_1999 : decode cL_law 1999 = .ok (.i2l, 1) := by decide +kernel
theorem dL_law_2000 : decode cL_law 2000 = .ok (.lcmp, 1) := by decide +kernel
theorem dL_law_2001 : decode cL_law 2001 = .ok (.ifCond .eq 5, 3) := by decide +kernel
theorem dL_law_2004 : decode cL_law 2004 = .ok (.iconst 0, 1) := by decide +kernel
theorem dL_law_2005 : decode cL_law 2005 = .ok (.ireturn, 1) := by decide +kernel
theorem dL_law_2006 : decode cL_law 2006 = .ok (.goto 3, 3) := by decide +kernel
theorem dL_law_2009 : decode cL_law 2009 = .ok (.iinc 4 6, 3) := by decide +kernel
theorem dL_law_2012 : decode cL_law 2012 = .ok (.goto (-1989), 3) := by decide +kernel
theorem dL_law_2015 : decode cL_law 2015 = .ok (.iconst 1, 1) := by decide +kernel
theorem dL_law_2016 : decode cL_law 2016 = .ok (.ireturn, 1) := by decide +kernel
end
section
/-! numbers of the machine as whole numbers -/
def iI (z : Int) : Int32 := Int32.ofInt z
def lI (z : Int) : Int64 := Int64.ofInt z
abbrev vI (z : Int) : Value := .int (iI z)
abbrev vL (z : Int) : Value := .long (lI z)
def rI (z : Int) : Prop := -2147483648 ≤ z ∧ z ≤ 2147483647
def rL (z : Int) : Prop := -9223372036854775808 ≤ z ∧ z ≤ 9223372036854775807
theorem rI.L {z : Int} (h : rI z) : rL z := by unfold rI at h; unfold rL; omega
theorem iI_toInt {z : Int} (h : rI z) : (iI z).toInt = z := Int32.toInt_ofInt_of_le (by unfold rI at h; omega) (by unfold rI at h; omega)
theorem lI_toInt {z : Int} (h : rL z) : (lI z).toInt = z := Int64.toInt_ofInt_of_le (by unfold rL at h; omega) (by unfold rL at h; omega)
theorem iI_of (x : Int32) : x = iI x.toInt ∧ rI x.toInt := ⟨(Int32.ofInt_toInt x).symm, by have h1 := x.le_toInt; have h2 := x.toInt_lt; unfold rI; omega⟩
theorem lI_of (x : Int64) : x = lI x.toInt ∧ rL x.toInt := ⟨(Int64.ofInt_toInt x).symm, by have h1 := x.le_toInt; have h2 := x.toInt_lt; unfold rL; omega⟩
theorem iI_add (a b : Int) : iI a + iI b = iI (a + b) := (Int32.ofInt_add a b).symm
theorem iI_sub (a b : Int) : iI a - iI b = iI (a - b) := (Int32.ofInt_sub a b).symm
theorem iI_mul (a b : Int) : iI a * iI b = iI (a * b) := (Int32.ofInt_mul a b).symm
theorem iI_neg (a : Int) : -iI a = iI (-a) := (Int32.ofInt_neg a).symm
theorem lI_add (a b : Int) : lI a + lI b = lI (a + b) := (Int64.ofInt_add a b).symm
theorem lI_sub (a b : Int) : lI a - lI b = lI (a - b) := (Int64.ofInt_sub a b).symm
theorem lI_mul (a b : Int) : lI a * lI b = lI (a * b) := (Int64.ofInt_mul a b).symm
theorem iI_le {a b : Int} (ha : rI a) (hb : rI b) : iI a ≤ iI b ↔ a ≤ b := by rw [Int32.le_iff_toInt_le, iI_toInt ha, iI_toInt hb]
theorem iI_lt {a b : Int} (ha : rI a) (hb : rI b) : iI a < iI b ↔ a < b := by rw [Int32.lt_iff_toInt_lt, iI_toInt ha, iI_toInt hb]
theorem iI_eq {a b : Int} (ha : rI a) (hb : rI b) : iI a = iI b ↔ a = b := by rw [← Int32.toInt_inj, iI_toInt ha, iI_toInt hb]
theorem lI_le {a b : Int} (ha : rL a) (hb : rL b) : lI a ≤ lI b ↔ a ≤ b := by rw [Int64.le_iff_toInt_le, lI_toInt ha, lI_toInt hb]
theorem lI_lt {a b : Int} (ha : rL a) (hb : rL b) : lI a < lI b ↔ a < b := by rw [Int64.lt_iff_toInt_lt, lI_toInt ha, lI_toInt hb]
theorem lI_eq {a b : Int} (ha : rL a) (hb : rL b) : lI a = lI b ↔ a = b := by rw [← Int64.toInt_inj, lI_toInt ha, lI_toInt hb]
theorem iI_l {a : Int} (h : rI a) : (iI a).toInt64 = lI a := by
  rw [← Int64.toInt_inj, Int32.toInt_toInt64, iI_toInt h, lI_toInt h.L]
theorem lI_i (a : Int) : (lI a).toInt32 = iI a := Int64.toInt32_ofInt
theorem iI_0 : iI 0 = 0 := rfl
theorem lI_0 : lI 0 = 0 := rfl
theorem rI_0 : rI 0 := by unfold rI; omega
theorem rL_0 : rL 0 := by unfold rL; omega
theorem tdiv_pos {a b : Int} (ha : 0 ≤ a) : a.tdiv b = a / b := Int.tdiv_eq_ediv_of_nonneg ha
theorem iI_div {a b : Int} (ha : rI a) (h0 : 0 ≤ a) (hb : rI b) (h1 : 0 < b) : iI a / iI b = iI (a / b) := by
  rw [← tdiv_pos h0]
  exact (Int32.ofInt_tdiv (by unfold rI at ha; show (-2147483648 : Int) ≤ a; omega) (by unfold rI at ha; show a ≤ (2147483647 : Int); omega) (by unfold rI at hb; show (-2147483648 : Int) ≤ b; omega) (by unfold rI at hb; show b ≤ (2147483647 : Int); omega)).symm
theorem lI_div {a b : Int} (ha : rL a) (h0 : 0 ≤ a) (hb : rL b) (h1 : 0 < b) : lI a / lI b = lI (a / b) := by
  rw [← tdiv_pos h0]
  exact (Int64.ofInt_tdiv (by unfold rL at ha; show (-9223372036854775808 : Int) ≤ a; omega) (by unfold rL at ha; show a ≤ (9223372036854775807 : Int); omega) (by unfold rL at hb; show (-9223372036854775808 : Int) ≤ b; omega) (by unfold rL at hb; show b ≤ (9223372036854775807 : Int); omega)).symm
theorem lI_rem {a b : Int} (ha : rL a) (h0 : 0 ≤ a) (hb : rL b) (h1 : 0 < b) : lI a - lI a / lI b * lI b = lI (a % b) := by
  rw [lI_div ha h0 hb h1, lI_mul, lI_sub]
  congr 1
  have := Int.mul_ediv_add_emod a b
  rw [Int.mul_comm] at this
  omega
theorem iI_ne0 {b : Int} (hb : rI b) (h : b ≠ 0) : ¬ iI b = 0 := fun e => h ((iI_eq hb rI_0).mp e)
theorem lI_ne0 {b : Int} (hb : rL b) (h : b ≠ 0) : ¬ lI b = 0 := fun e => h ((lI_eq hb rL_0).mp e)
theorem iI_clamp {z : Int} (h : rI z) : (iI z).toNatClampNeg = z.toNat := by
  show (iI z).toInt.toNat = _
  rw [iI_toInt h]
theorem vp_in_iI {z : Int} {n : Nat} (h0 : 0 ≤ z) (h1 : z < n) (hr : rI z) : vp_in (iI z) n := by
  rw [vp_in_iff, iI_toInt hr]
  exact ⟨h0, h1⟩
/-- a comparison of two longs -/
def cmpZ (a b : Int) : Int := if b < a then 1 else if a = b then 0 else -1
theorem lg_cmpZ {a b : Int} (ha : rL a) (hb : rL b) : lg_cmp (lI a) (lI b) = iI (cmpZ a b) := by
  unfold lg_cmp cmpZ
  by_cases h1 : b < a
  · rw [if_pos (show lI a > lI b from (lI_lt hb ha).mpr h1), if_pos h1]; rfl
  · rw [if_neg (show ¬ lI a > lI b from fun q => h1 ((lI_lt hb ha).mp q)), if_neg h1]
    by_cases h2 : a = b
    · rw [if_pos ((lI_eq ha hb).mpr h2), if_pos h2]; rfl
    · rw [if_neg (fun q => h2 ((lI_eq ha hb).mp q)), if_neg h2]; rfl
theorem rI_cmpZ (a b : Int) : rI (cmpZ a b) := by
  unfold cmpZ rI
  split
  · omega
  · split <;> omega
theorem cmpZ_eq (a b : Int) : cmpZ a b = 0 ↔ a = b := by unfold cmpZ; split <;> (try split) <;> omega
theorem cmpZ_gt (a b : Int) : 0 < cmpZ a b ↔ b < a := by unfold cmpZ; split <;> (try split) <;> omega
theorem cmpZ_lt (a b : Int) : cmpZ a b < 0 ↔ a < b := by unfold cmpZ; split <;> (try split) <;> omega
theorem cmpZ_le (a b : Int) : cmpZ a b ≤ 0 ↔ a ≤ b := by unfold cmpZ; split <;> (try split) <;> omega
theorem cmpZ_ge (a b : Int) : 0 ≤ cmpZ a b ↔ b ≤ a := by unfold cmpZ; split <;> (try split) <;> omega
/-! locals by place -/
def LH (ls : Array Slot) (nL : Nat) (lv : List (Option Value)) : Prop := ls.size = nL ∧ lv_wf ls ∧ lv.length = nL ∧ ∀ (i : Nat) (v : Value), lv[i]? = some (some v) → ls[i]? = some (.val v)
def noL : Option Value → Prop
  | some v => v.category = 1
  | none => True
/-- what a store of v at i makes of the locals -/
def LSt (lv : List (Option Value)) (i : Nat) (v : Value) (lv' : List (Option Value)) : Prop := ∀ (ls : Array Slot) (nL : Nat), LH ls nL lv → ∃ ls', storeLocals ls i v = some ls' ∧ LH ls' nL lv'
theorem LH.has {ls : Array Slot} {nL : Nat} {lv : List (Option Value)} (h : LH ls nL lv) : lv_has ls nL ((List.range lv.length).filterMap (fun i => match lv[i]? with | some (some v) => some (i, v) | _ => none)) := by
  refine ⟨h.1, h.2.1, fun q hq => ?_⟩
  obtain ⟨i, -, hi⟩ := List.mem_filterMap.mp hq
  split at hi
  next v hv => cases hi; exact h.2.2.2 _ _ hv
  next => cases hi
theorem LH.mem {lv : List (Option Value)} {i : Nat} {v : Value} (h : lv[i]? = some (some v)) : (i, v) ∈ (List.range lv.length).filterMap (fun i => match lv[i]? with | some (some v) => some (i, v) | _ => none) := by
  refine List.mem_filterMap.mpr ⟨i, List.mem_range.mpr (List.getElem?_eq_some_iff.mp h).1, ?_⟩
  simp [h]
theorem LSt.one {pre post : List (Option Value)} {x : Option Value} {v : Value} (hc : v.category = 1) (hp : ∀ o, pre.getLast? = some o → noL o) : LSt (pre ++ x :: post) pre.length v (pre ++ some v :: post) := by
  intro ls nL h
  have hlen := h.2.2.1
  obtain ⟨ls', e1, h1⟩ := lv_store1 (i := pre.length) (v := v) h.has (by rw [← hlen, List.length_append, List.length_cons]; omega) hc
  refine ⟨ls', e1, h1.1, h1.2.1, ?_, fun i w hi => ?_⟩
  · rw [← hlen]; simp
  · refine h1.2.2 (i, w) ?_
    by_cases hx : i = pre.length
    · subst hx
      rw [List.getElem?_append_right (Nat.le_refl _), Nat.sub_self] at hi
      cases hi
      exact List.mem_cons_self
    · refine List.mem_cons_of_mem _ (List.mem_filter.mpr ⟨LH.mem (lv := pre ++ x :: post) ?_, ?_⟩)
      · by_cases hl : i < pre.length
        · rw [List.getElem?_append_left hl] at hi ⊢
          exact hi
        · rw [List.getElem?_append_right (by omega)] at hi ⊢
          obtain ⟨j, hj⟩ : ∃ j, i - pre.length = j + 1 := ⟨i - pre.length - 1, by omega⟩
          rw [hj] at hi ⊢
          exact hi
      · have g1 : (i == pre.length) = false := by simp [hx]
        have g2 : (i + 1 == pre.length && w.category == 2) = false := by
          by_cases h2 : i + 1 = pre.length
          · have hl : i < pre.length := by omega
            rw [List.getElem?_append_left hl] at hi
            have h3 := hp (some w) (by rw [List.getLast?_eq_getElem?, show pre.length - 1 = i by omega]; exact hi)
            simp [show w.category = 1 from h3]
          · simp [h2]
        simp [g1, g2]
theorem LSt.two {pre post : List (Option Value)} {x y : Option Value} {v : Value} (hc : v.category = 2) (hp : ∀ o, pre.getLast? = some o → noL o) : LSt (pre ++ x :: y :: post) pre.length v (pre ++ some v :: none :: post) := by
  intro ls nL h
  have hlen := h.2.2.1
  obtain ⟨ls', e1, h1⟩ := lv_store2 (i := pre.length) (v := v) h.has (by rw [← hlen, List.length_append, List.length_cons, List.length_cons]; omega) hc
  refine ⟨ls', e1, h1.1, h1.2.1, ?_, fun i w hi => ?_⟩
  · rw [← hlen]; simp
  · refine h1.2.2 (i, w) ?_
    by_cases hx : i = pre.length
    · subst hx
      rw [List.getElem?_append_right (Nat.le_refl _), Nat.sub_self] at hi
      cases hi
      exact List.mem_cons_self
    · have hx2 : i ≠ pre.length + 1 := by
        intro hq
        rw [List.getElem?_append_right (by omega), show i - pre.length = 1 by omega] at hi
        cases hi
      refine List.mem_cons_of_mem _ (List.mem_filter.mpr ⟨LH.mem (lv := pre ++ x :: y :: post) ?_, ?_⟩)
      · by_cases hl : i < pre.length
        · rw [List.getElem?_append_left hl] at hi ⊢
          exact hi
        · rw [List.getElem?_append_right (by omega)] at hi ⊢
          obtain ⟨j, hj⟩ : ∃ j, i - pre.length = j + 2 := ⟨i - pre.length - 2, by omega⟩
          rw [hj] at hi ⊢
          exact hi
      · have g1 : (i == pre.length) = false := by simp [hx]
        have g3 : (i == pre.length + 1) = false := by simp [hx2]
        have g2 : (i + 1 == pre.length && w.category == 2) = false := by
          by_cases h2 : i + 1 = pre.length
          · have hl : i < pre.length := by omega
            rw [List.getElem?_append_left hl] at hi
            have h3 := hp (some w) (by rw [List.getLast?_eq_getElem?, show pre.length - 1 = i by omega]; exact hi)
            simp [show w.category = 1 from h3]
          · simp [h2]
        simp [g1, g2, g3]
end
section
/-! stores and loads at a place, by program -/
theorem ls1_0 {x : Option Value} {t : List (Option Value)} {v : Value} (hc : v.category = 1) : LSt (x :: t) 0 v (some v :: t) := LSt.one (pre := []) hc (fun o h => by cases h)
theorem ls2_0 {x y : Option Value} {t : List (Option Value)} {v : Value} (hc : v.category = 2) : LSt (x :: y :: t) 0 v (some v :: none :: t) := LSt.two (pre := []) hc (fun o h => by cases h)
theorem lg_0 {t : List (Option Value)} {v : Value} : (some v :: t)[0]? = some (some v) := rfl
theorem ls1_1 {a0 x : Option Value} {t : List (Option Value)} {v : Value} (hc : v.category = 1) (hp : noL a0) : LSt (a0 :: x :: t) 1 v (a0 :: some v :: t) := LSt.one (pre := [a0]) hc (fun o h => by cases h; exact hp)
theorem ls2_1 {a0 x y : Option Value} {t : List (Option Value)} {v : Value} (hc : v.category = 2) (hp : noL a0) : LSt (a0 :: x :: y :: t) 1 v (a0 :: some v :: none :: t) := LSt.two (pre := [a0]) hc (fun o h => by cases h; exact hp)
theorem lg_1 {a0 : Option Value} {t : List (Option Value)} {v : Value} : (a0 :: some v :: t)[1]? = some (some v) := rfl
theorem ls1_2 {a0 a1 x : Option Value} {t : List (Option Value)} {v : Value} (hc : v.category = 1) (hp : noL a1) : LSt (a0 :: a1 :: x :: t) 2 v (a0 :: a1 :: some v :: t) := LSt.one (pre := [a0, a1]) hc (fun o h => by cases h; exact hp)
theorem ls2_2 {a0 a1 x y : Option Value} {t : List (Option Value)} {v : Value} (hc : v.category = 2) (hp : noL a1) : LSt (a0 :: a1 :: x :: y :: t) 2 v (a0 :: a1 :: some v :: none :: t) := LSt.two (pre := [a0, a1]) hc (fun o h => by cases h; exact hp)
theorem lg_2 {a0 a1 : Option Value} {t : List (Option Value)} {v : Value} : (a0 :: a1 :: some v :: t)[2]? = some (some v) := rfl
theorem ls1_3 {a0 a1 a2 x : Option Value} {t : List (Option Value)} {v : Value} (hc : v.category = 1) (hp : noL a2) : LSt (a0 :: a1 :: a2 :: x :: t) 3 v (a0 :: a1 :: a2 :: some v :: t) := LSt.one (pre := [a0, a1, a2]) hc (fun o h => by cases h; exact hp)
theorem ls2_3 {a0 a1 a2 x y : Option Value} {t : List (Option Value)} {v : Value} (hc : v.category = 2) (hp : noL a2) : LSt (a0 :: a1 :: a2 :: x :: y :: t) 3 v (a0 :: a1 :: a2 :: some v :: none :: t) := LSt.two (pre := [a0, a1, a2]) hc (fun o h => by cases h; exact hp)
theorem lg_3 {a0 a1 a2 : Option Value} {t : List (Option Value)} {v : Value} : (a0 :: a1 :: a2 :: some v :: t)[3]? = some (some v) := rfl
theorem ls1_4 {a0 a1 a2 a3 x : Option Value} {t : List (Option Value)} {v : Value} (hc : v.category = 1) (hp : noL a3) : LSt (a0 :: a1 :: a2 :: a3 :: x :: t) 4 v (a0 :: a1 :: a2 :: a3 :: some v :: t) := LSt.one (pre := [a0, a1, a2, a3]) hc (fun o h => by cases h; exact hp)
theorem ls2_4 {a0 a1 a2 a3 x y : Option Value} {t : List (Option Value)} {v : Value} (hc : v.category = 2) (hp : noL a3) : LSt (a0 :: a1 :: a2 :: a3 :: x :: y :: t) 4 v (a0 :: a1 :: a2 :: a3 :: some v :: none :: t) := LSt.two (pre := [a0, a1, a2, a3]) hc (fun o h => by cases h; exact hp)
theorem lg_4 {a0 a1 a2 a3 : Option Value} {t : List (Option Value)} {v : Value} : (a0 :: a1 :: a2 :: a3 :: some v :: t)[4]? = some (some v) := rfl
theorem ls1_5 {a0 a1 a2 a3 a4 x : Option Value} {t : List (Option Value)} {v : Value} (hc : v.category = 1) (hp : noL a4) : LSt (a0 :: a1 :: a2 :: a3 :: a4 :: x :: t) 5 v (a0 :: a1 :: a2 :: a3 :: a4 :: some v :: t) := LSt.one (pre := [a0, a1, a2, a3, a4]) hc (fun o h => by cases h; exact hp)
theorem ls2_5 {a0 a1 a2 a3 a4 x y : Option Value} {t : List (Option Value)} {v : Value} (hc : v.category = 2) (hp : noL a4) : LSt (a0 :: a1 :: a2 :: a3 :: a4 :: x :: y :: t) 5 v (a0 :: a1 :: a2 :: a3 :: a4 :: some v :: none :: t) := LSt.two (pre := [a0, a1, a2, a3, a4]) hc (fun o h => by cases h; exact hp)
theorem lg_5 {a0 a1 a2 a3 a4 : Option Value} {t : List (Option Value)} {v : Value} : (a0 :: a1 :: a2 :: a3 :: a4 :: some v :: t)[5]? = some (some v) := rfl
theorem ls1_6 {a0 a1 a2 a3 a4 a5 x : Option Value} {t : List (Option Value)} {v : Value} (hc : v.category = 1) (hp : noL a5) : LSt (a0 :: a1 :: a2 :: a3 :: a4 :: a5 :: x :: t) 6 v (a0 :: a1 :: a2 :: a3 :: a4 :: a5 :: some v :: t) := LSt.one (pre := [a0, a1, a2, a3, a4, a5]) hc (fun o h => by cases h; exact hp)
theorem ls2_6 {a0 a1 a2 a3 a4 a5 x y : Option Value} {t : List (Option Value)} {v : Value} (hc : v.category = 2) (hp : noL a5) : LSt (a0 :: a1 :: a2 :: a3 :: a4 :: a5 :: x :: y :: t) 6 v (a0 :: a1 :: a2 :: a3 :: a4 :: a5 :: some v :: none :: t) := LSt.two (pre := [a0, a1, a2, a3, a4, a5]) hc (fun o h => by cases h; exact hp)
theorem lg_6 {a0 a1 a2 a3 a4 a5 : Option Value} {t : List (Option Value)} {v : Value} : (a0 :: a1 :: a2 :: a3 :: a4 :: a5 :: some v :: t)[6]? = some (some v) := rfl
theorem ls1_7 {a0 a1 a2 a3 a4 a5 a6 x : Option Value} {t : List (Option Value)} {v : Value} (hc : v.category = 1) (hp : noL a6) : LSt (a0 :: a1 :: a2 :: a3 :: a4 :: a5 :: a6 :: x :: t) 7 v (a0 :: a1 :: a2 :: a3 :: a4 :: a5 :: a6 :: some v :: t) := LSt.one (pre := [a0, a1, a2, a3, a4, a5, a6]) hc (fun o h => by cases h; exact hp)
theorem ls2_7 {a0 a1 a2 a3 a4 a5 a6 x y : Option Value} {t : List (Option Value)} {v : Value} (hc : v.category = 2) (hp : noL a6) : LSt (a0 :: a1 :: a2 :: a3 :: a4 :: a5 :: a6 :: x :: y :: t) 7 v (a0 :: a1 :: a2 :: a3 :: a4 :: a5 :: a6 :: some v :: none :: t) := LSt.two (pre := [a0, a1, a2, a3, a4, a5, a6]) hc (fun o h => by cases h; exact hp)
theorem lg_7 {a0 a1 a2 a3 a4 a5 a6 : Option Value} {t : List (Option Value)} {v : Value} : (a0 :: a1 :: a2 :: a3 :: a4 :: a5 :: a6 :: some v :: t)[7]? = some (some v) := rfl
theorem ls1_8 {a0 a1 a2 a3 a4 a5 a6 a7 x : Option Value} {t : List (Option Value)} {v : Value} (hc : v.category = 1) (hp : noL a7) : LSt (a0 :: a1 :: a2 :: a3 :: a4 :: a5 :: a6 :: a7 :: x :: t) 8 v (a0 :: a1 :: a2 :: a3 :: a4 :: a5 :: a6 :: a7 :: some v :: t) := LSt.one (pre := [a0, a1, a2, a3, a4, a5, a6, a7]) hc (fun o h => by cases h; exact hp)
theorem ls2_8 {a0 a1 a2 a3 a4 a5 a6 a7 x y : Option Value} {t : List (Option Value)} {v : Value} (hc : v.category = 2) (hp : noL a7) : LSt (a0 :: a1 :: a2 :: a3 :: a4 :: a5 :: a6 :: a7 :: x :: y :: t) 8 v (a0 :: a1 :: a2 :: a3 :: a4 :: a5 :: a6 :: a7 :: some v :: none :: t) := LSt.two (pre := [a0, a1, a2, a3, a4, a5, a6, a7]) hc (fun o h => by cases h; exact hp)
theorem lg_8 {a0 a1 a2 a3 a4 a5 a6 a7 : Option Value} {t : List (Option Value)} {v : Value} : (a0 :: a1 :: a2 :: a3 :: a4 :: a5 :: a6 :: a7 :: some v :: t)[8]? = some (some v) := rfl
theorem ls1_9 {a0 a1 a2 a3 a4 a5 a6 a7 a8 x : Option Value} {t : List (Option Value)} {v : Value} (hc : v.category = 1) (hp : noL a8) : LSt (a0 :: a1 :: a2 :: a3 :: a4 :: a5 :: a6 :: a7 :: a8 :: x :: t) 9 v (a0 :: a1 :: a2 :: a3 :: a4 :: a5 :: a6 :: a7 :: a8 :: some v :: t) := LSt.one (pre := [a0, a1, a2, a3, a4, a5, a6, a7, a8]) hc (fun o h => by cases h; exact hp)
theorem ls2_9 {a0 a1 a2 a3 a4 a5 a6 a7 a8 x y : Option Value} {t : List (Option Value)} {v : Value} (hc : v.category = 2) (hp : noL a8) : LSt (a0 :: a1 :: a2 :: a3 :: a4 :: a5 :: a6 :: a7 :: a8 :: x :: y :: t) 9 v (a0 :: a1 :: a2 :: a3 :: a4 :: a5 :: a6 :: a7 :: a8 :: some v :: none :: t) := LSt.two (pre := [a0, a1, a2, a3, a4, a5, a6, a7, a8]) hc (fun o h => by cases h; exact hp)
theorem lg_9 {a0 a1 a2 a3 a4 a5 a6 a7 a8 : Option Value} {t : List (Option Value)} {v : Value} : (a0 :: a1 :: a2 :: a3 :: a4 :: a5 :: a6 :: a7 :: a8 :: some v :: t)[9]? = some (some v) := rfl
theorem ls1_10 {a0 a1 a2 a3 a4 a5 a6 a7 a8 a9 x : Option Value} {t : List (Option Value)} {v : Value} (hc : v.category = 1) (hp : noL a9) : LSt (a0 :: a1 :: a2 :: a3 :: a4 :: a5 :: a6 :: a7 :: a8 :: a9 :: x :: t) 10 v (a0 :: a1 :: a2 :: a3 :: a4 :: a5 :: a6 :: a7 :: a8 :: a9 :: some v :: t) := LSt.one (pre := [a0, a1, a2, a3, a4, a5, a6, a7, a8, a9]) hc (fun o h => by cases h; exact hp)
theorem ls2_10 {a0 a1 a2 a3 a4 a5 a6 a7 a8 a9 x y : Option Value} {t : List (Option Value)} {v : Value} (hc : v.category = 2) (hp : noL a9) : LSt (a0 :: a1 :: a2 :: a3 :: a4 :: a5 :: a6 :: a7 :: a8 :: a9 :: x :: y :: t) 10 v (a0 :: a1 :: a2 :: a3 :: a4 :: a5 :: a6 :: a7 :: a8 :: a9 :: some v :: none :: t) := LSt.two (pre := [a0, a1, a2, a3, a4, a5, a6, a7, a8, a9]) hc (fun o h => by cases h; exact hp)
theorem lg_10 {a0 a1 a2 a3 a4 a5 a6 a7 a8 a9 : Option Value} {t : List (Option Value)} {v : Value} : (a0 :: a1 :: a2 :: a3 :: a4 :: a5 :: a6 :: a7 :: a8 :: a9 :: some v :: t)[10]? = some (some v) := rfl
theorem ls1_11 {a0 a1 a2 a3 a4 a5 a6 a7 a8 a9 a10 x : Option Value} {t : List (Option Value)} {v : Value} (hc : v.category = 1) (hp : noL a10) : LSt (a0 :: a1 :: a2 :: a3 :: a4 :: a5 :: a6 :: a7 :: a8 :: a9 :: a10 :: x :: t) 11 v (a0 :: a1 :: a2 :: a3 :: a4 :: a5 :: a6 :: a7 :: a8 :: a9 :: a10 :: some v :: t) := LSt.one (pre := [a0, a1, a2, a3, a4, a5, a6, a7, a8, a9, a10]) hc (fun o h => by cases h; exact hp)
theorem ls2_11 {a0 a1 a2 a3 a4 a5 a6 a7 a8 a9 a10 x y : Option Value} {t : List (Option Value)} {v : Value} (hc : v.category = 2) (hp : noL a10) : LSt (a0 :: a1 :: a2 :: a3 :: a4 :: a5 :: a6 :: a7 :: a8 :: a9 :: a10 :: x :: y :: t) 11 v (a0 :: a1 :: a2 :: a3 :: a4 :: a5 :: a6 :: a7 :: a8 :: a9 :: a10 :: some v :: none :: t) := LSt.two (pre := [a0, a1, a2, a3, a4, a5, a6, a7, a8, a9, a10]) hc (fun o h => by cases h; exact hp)
theorem lg_11 {a0 a1 a2 a3 a4 a5 a6 a7 a8 a9 a10 : Option Value} {t : List (Option Value)} {v : Value} : (a0 :: a1 :: a2 :: a3 :: a4 :: a5 :: a6 :: a7 :: a8 :: a9 :: a10 :: some v :: t)[11]? = some (some v) := rfl
theorem ls1_12 {a0 a1 a2 a3 a4 a5 a6 a7 a8 a9 a10 a11 x : Option Value} {t : List (Option Value)} {v : Value} (hc : v.category = 1) (hp : noL a11) : LSt (a0 :: a1 :: a2 :: a3 :: a4 :: a5 :: a6 :: a7 :: a8 :: a9 :: a10 :: a11 :: x :: t) 12 v (a0 :: a1 :: a2 :: a3 :: a4 :: a5 :: a6 :: a7 :: a8 :: a9 :: a10 :: a11 :: some v :: t) := LSt.one (pre := [a0, a1, a2, a3, a4, a5, a6, a7, a8, a9, a10, a11]) hc (fun o h => by cases h; exact hp)
theorem ls2_12 {a0 a1 a2 a3 a4 a5 a6 a7 a8 a9 a10 a11 x y : Option Value} {t : List (Option Value)} {v : Value} (hc : v.category = 2) (hp : noL a11) : LSt (a0 :: a1 :: a2 :: a3 :: a4 :: a5 :: a6 :: a7 :: a8 :: a9 :: a10 :: a11 :: x :: y :: t) 12 v (a0 :: a1 :: a2 :: a3 :: a4 :: a5 :: a6 :: a7 :: a8 :: a9 :: a10 :: a11 :: some v :: none :: t) := LSt.two (pre := [a0, a1, a2, a3, a4, a5, a6, a7, a8, a9, a10, a11]) hc (fun o h => by cases h; exact hp)
theorem lg_12 {a0 a1 a2 a3 a4 a5 a6 a7 a8 a9 a10 a11 : Option Value} {t : List (Option Value)} {v : Value} : (a0 :: a1 :: a2 :: a3 :: a4 :: a5 :: a6 :: a7 :: a8 :: a9 :: a10 :: a11 :: some v :: t)[12]? = some (some v) := rfl
theorem ls1_13 {a0 a1 a2 a3 a4 a5 a6 a7 a8 a9 a10 a11 a12 x : Option Value} {t : List (Option Value)} {v : Value} (hc : v.category = 1) (hp : noL a12) : LSt (a0 :: a1 :: a2 :: a3 :: a4 :: a5 :: a6 :: a7 :: a8 :: a9 :: a10 :: a11 :: a12 :: x :: t) 13 v (a0 :: a1 :: a2 :: a3 :: a4 :: a5 :: a6 :: a7 :: a8 :: a9 :: a10 :: a11 :: a12 :: some v :: t) := LSt.one (pre := [a0, a1, a2, a3, a4, a5, a6, a7, a8, a9, a10, a11, a12]) hc (fun o h => by cases h; exact hp)
theorem ls2_13 {a0 a1 a2 a3 a4 a5 a6 a7 a8 a9 a10 a11 a12 x y : Option Value} {t : List (Option Value)} {v : Value} (hc : v.category = 2) (hp : noL a12) : LSt (a0 :: a1 :: a2 :: a3 :: a4 :: a5 :: a6 :: a7 :: a8 :: a9 :: a10 :: a11 :: a12 :: x :: y :: t) 13 v (a0 :: a1 :: a2 :: a3 :: a4 :: a5 :: a6 :: a7 :: a8 :: a9 :: a10 :: a11 :: a12 :: some v :: none :: t) := LSt.two (pre := [a0, a1, a2, a3, a4, a5, a6, a7, a8, a9, a10, a11, a12]) hc (fun o h => by cases h; exact hp)
theorem lg_13 {a0 a1 a2 a3 a4 a5 a6 a7 a8 a9 a10 a11 a12 : Option Value} {t : List (Option Value)} {v : Value} : (a0 :: a1 :: a2 :: a3 :: a4 :: a5 :: a6 :: a7 :: a8 :: a9 :: a10 :: a11 :: a12 :: some v :: t)[13]? = some (some v) := rfl
end
section
/-! the heap as numbers: S c z, the value of field (or array) c of the thing z; the addresses A -/
abbrev ST : Type := Nat → Int → Int
abbrev AB : Type := (Nat → Int → Nat) × (Nat → Int)
abbrev GT : Type := va_G × ClassId × ClassId × ClassId × ClassId
def tysG (G : GT) : List (ClassId × FieldType) := [(G.2.1, .int), (G.2.2.1, .long), (G.2.2.2.1, .boolean), (G.2.2.2.2, .object RX3)]
/-- the kinds of the fields of the objects of kind k: 0 int, 1 long, 2 boolean, k + 3 a reference to a thing of kind k -/
def fTs (k : Nat) : List Nat := match k with
  | 0 => [0, 1, 1, 1, 1, 4, 4]
  | 1 => [0, 0, 1, 4]
  | 2 => [6, 0]
  | 3 => [0, 0, 0, 0, 0, 0, 4, 2, 6, 8, 1]
  | 4 => [0, 1, 1, 1, 1, 1]
  | 5 => [6, 8, 0, 1]
  | 6 => [11, 5, 3, 7, 12, 0, 0]
  | 7 => [13, 14, 15, 16, 17, 18, 19, 20, 0, 0, 23, 24, 0, 0, 1, 1, 29, 30, 31, 32, 0, 34, 35, 36, 37, 0]
  | _ => []
def fT (k f : Nat) : Nat := (fTs k).getD f 0
def nF (k : Nat) : Nat := (fTs k).length
/-- arrays: kind 8 the posted movements, 9 the weights, 10 + j the reference's field j, 40 the law's answer; what they hold (0 int, 1 long, 2 boolean, 6 movements) and how many -/
def aTN (k : Nat) : Nat × Nat := match k with
  | 8 => (6, 60)
  | 9 => (0, 6)
  | 10 => (0, 60)
  | 11 => (0, 60)
  | 12 => (0, 60)
  | 13 => (0, 60)
  | 14 => (0, 60)
  | 15 => (2, 60)
  | 16 => (1, 60)
  | 17 => (0, 3600)
  | 20 => (0, 6)
  | 21 => (0, 60)
  | 26 => (1, 2)
  | 27 => (1, 2)
  | 28 => (1, 2)
  | 29 => (1, 120)
  | 31 => (0, 60)
  | 32 => (1, 60)
  | 33 => (0, 60)
  | 34 => (1, 60)
  | _ => (1, 1)
/-- the kind of what code c holds -/
def tyC (c : Nat) : Nat := if c / 32 < 8 then fT (c / 32) (c % 32) else (aTN (c / 32)).1
def rfo (A : AB) (k : Nat) (z : Int) : Option Nat := if z < 0 then none else some (A.1 k z)
def vR (A : AB) (k : Nat) (z : Int) : Value := va_rf (rfo A k z)
def fV (A : AB) (t : Nat) (z : Int) : Value := match t with
  | 0 => vI z
  | 1 => vL z
  | 2 => vI z
  | k + 3 => vR A k z
def oFs (A : AB) (S : ST) (k : Nat) (z : Int) : List Value := (List.range (nF k)).map (fun f => fV A (fT k f) (S (32 * k + f) z))
def aCl (G : GT) (A : AB) (S : ST) (k : Nat) : va_E := match (aTN k).1 with
  | 0 => .inl (G.2.1, (aTN k).2, .inl (fun j => iI (S (32 * k) j)))
  | 1 => .inl (G.2.2.1, (aTN k).2, .inr (.inl (fun j => lI (S (32 * k) j))))
  | 2 => .inl (G.2.2.2.1, (aTN k).2, .inl (fun j => iI (S (32 * k) j)))
  | _ => .inl (G.2.2.2.2, (aTN k).2, .inr (.inr (.inr (.inr (fun j => rfo A 3 (S (32 * k) j))))))
def cellV (G : GT) (A : AB) (S : ST) (k : Nat) (z : Int) : va_E := if k < 8 then .inr (k, oFs A S k z) else aCl G A S k
/-- every number in the range of its kind; booleans 0 or 1 -/
def WT (S : ST) (A : AB) : Prop := ∀ (c : Nat) (z : Int), rL (S c z) ∧ (tyC c = 0 → rI (S c z)) ∧ (tyC c = 2 → S c z = 0 ∨ S c z = 1) ∧ (3 ≤ tyC c → S c z < A.2 (tyC c - 3))
def lv1 (A : AB) (k : Nat) (z : Int) : Prop := 0 ≤ z ∧ z < A.2 k
def AI (A : AB) : Prop := (∀ (k : Nat) (z : Int) (k' : Nat) (z' : Int), lv1 A k z → lv1 A k' z' → A.1 k z = A.1 k' z' → k = k' ∧ z = z') ∧ (∀ k, 8 ≤ k → A.2 k ≤ 1) ∧ ∀ k, 0 ≤ A.2 k
def HW (G : GT) (S : ST) (A : AB) (Al : Nat → Prop) (H : Heap) : Prop :=
  ∃ ws : va_W, (∀ (k : Nat) (z : Int), lv1 A k z → (A.1 k z, cellV G A S k z) ∈ ws) ∧ (∀ q : Nat × va_E, q ∈ ws → ∃ (k : Nat) (z : Int), lv1 A k z ∧ q = (A.1 k z, cellV G A S k z)) ∧ va_P G.1 vwCl ws H ∧ va_D Al ws ∧ AI A ∧ WT S A
def upS (S : ST) (c : Nat) (z v : Int) : ST := fun c' z' => if c' = c ∧ z' = z then v else S c' z'
theorem upS_self (S : ST) (c : Nat) (z v : Int) : upS S c z v c z = v := by simp [upS]
theorem upS_ne (S : ST) {c c' : Nat} {z z' : Int} (v : Int) (h : c' = c → z' ≠ z) : upS S c z v c' z' = S c' z' := by
  unfold upS
  split
  next q => exact absurd q.2 (h q.1)
  next => rfl
theorem upS_c (S : ST) {c c' : Nat} {z z' : Int} (v : Int) (h : c' ≠ c) : upS S c z v c' z' = S c' z' := upS_ne S v (fun q => absurd q h)
theorem upS_z (S : ST) {c c' : Nat} {z z' : Int} (v : Int) (h : z' ≠ z) : upS S c z v c' z' = S c' z' := upS_ne S v (fun _ => h)
theorem oFs_get {A : AB} {S : ST} {k f : Nat} {z : Int} (h : f < nF k) : (oFs A S k z)[f]? = some (fV A (fT k f) (S (32 * k + f) z)) := by
  unfold oFs
  rw [List.getElem?_map, List.getElem?_range h]
  rfl
theorem oFs_len {A : AB} {S : ST} {k : Nat} {z : Int} : (oFs A S k z).length = nF k := by simp [oFs]
theorem nF_lt (k : Nat) : nF k ≤ 26 := by
  unfold nF
  rcases k with _ | _ | _ | _ | _ | _ | _ | _ | k
  all_goals first | decide | (show ([] : List Nat).length ≤ 26; decide)
theorem oFs_set {A : AB} {S : ST} {k f : Nat} {z v : Int} (h : f < nF k) : (oFs A S k z).set f (fV A (fT k f) v) = oFs A (upS S (32 * k + f) z v) k z := by
  apply List.ext_getElem?
  intro j
  by_cases hj : j < nF k
  · rw [oFs_get (S := upS S (32 * k + f) z v) hj]
    by_cases hjf : j = f
    · subst hjf
      rw [List.getElem?_set_self (by rw [oFs_len]; exact hj), upS_self]
    · rw [List.getElem?_set_ne (Ne.symm hjf), oFs_get hj, upS_c]
      omega
  · rw [List.getElem?_eq_none (by rw [List.length_set, oFs_len]; omega), List.getElem?_eq_none (by rw [oFs_len]; omega)]
theorem oFs_ne {A : AB} {S : ST} {c k : Nat} {z z' v : Int} (h : c / 32 = k → z' ≠ z) : oFs A (upS S c z v) k z' = oFs A S k z' := by
  unfold oFs
  refine List.map_congr_left (fun f hf => ?_)
  have hf' := List.mem_range.mp hf
  have h26 := nF_lt k
  rw [upS_ne]
  intro hc
  exact h (by omega)
theorem aCl_ne {G : GT} {A : AB} {S : ST} {c k : Nat} {z v : Int} (h : c ≠ 32 * k) : aCl G A (upS S c z v) k = aCl G A S k := by
  have e : ∀ j : Int, upS S c z v (32 * k) j = S (32 * k) j := fun j => upS_c S v (fun q => h q.symm)
  unfold aCl
  simp only [e]
theorem cellV_ne {G : GT} {A : AB} {S : ST} {c k : Nat} {z z' v : Int} (h : c / 32 = k → z' ≠ z ∧ k < 8) : cellV G A (upS S c z v) k z' = cellV G A S k z' := by
  unfold cellV
  by_cases hk : k < 8
  · rw [if_pos hk, if_pos hk, oFs_ne (fun q => (h q).1)]
  · rw [if_neg hk, if_neg hk, aCl_ne]
    intro q
    have : c / 32 = k := by omega
    exact hk (h this).2
theorem WT.up {S : ST} {A : AB} (h : WT S A) {c : Nat} {z v : Int} (h1 : rL v) (h2 : tyC c = 0 → rI v) (h3 : tyC c = 2 → v = 0 ∨ v = 1) (h4 : 3 ≤ tyC c → v < A.2 (tyC c - 3)) : WT (upS S c z v) A := by
  intro c' z'
  unfold upS
  split
  next q => rw [q.1]; exact ⟨h1, h2, h3, h4⟩
  next => exact h c' z'
/-- a place's cell in the list -/
theorem HW.at {G : GT} {S : ST} {A : AB} {Al : Nat → Prop} {H : Heap} {ws : va_W} (h1 : ∀ (k : Nat) (z : Int), lv1 A k z → (A.1 k z, cellV G A S k z) ∈ ws) {k : Nat} {z : Int} (h : lv1 A k z) : ∃ q0 : Nat, ws[q0]? = some (A.1 k z, cellV G A S k z) := List.getElem?_of_mem (h1 k z h)
/-- one thing's cell replaced -/
theorem HW.set {G : GT} {S S' : ST} {A : AB} {Al : Nat → Prop} {H H1 : Heap} {ws : va_W} (h1 : ∀ (k : Nat) (z : Int), lv1 A k z → (A.1 k z, cellV G A S k z) ∈ ws) (h2 : ∀ q : Nat × va_E, q ∈ ws → ∃ (k : Nat) (z : Int), lv1 A k z ∧ q = (A.1 k z, cellV G A S k z)) (hA : AI A) (hD : va_D Al ws) {k : Nat} {z : Int} (hl : lv1 A k z) {q0 : Nat} (hq : ws[q0]? = some (A.1 k z, cellV G A S k z))
    (hne : ∀ (k' : Nat) (z' : Int), lv1 A k' z' → ¬ (k' = k ∧ z' = z) → cellV G A S' k' z' = cellV G A S k' z') (hW : WT S' A) (hP : va_P G.1 vwCl (ws.set q0 (A.1 k z, cellV G A S' k z)) H1) (hD1 : va_D Al (ws.set q0 (A.1 k z, cellV G A S' k z))) : HW G S' A Al H1 := by
  have hlt : q0 < ws.length := (List.getElem?_eq_some_iff.mp hq).1
  refine ⟨_, fun k' z' h' => ?_, fun q hq' => ?_, hP, hD1, hA, hW⟩
  · by_cases e : k' = k ∧ z' = z
    · rw [e.1, e.2]
      exact List.mem_of_getElem? (i := q0) (List.getElem?_set_self hlt)
    · obtain ⟨i, hi⟩ := List.getElem?_of_mem (h1 k' z' h')
      have hne0 : i ≠ q0 := by
        intro hq9
        rw [hq9, hq] at hi
        have h9 := hA.1 k z k' z' hl h' (congrArg Prod.fst (Option.some.inj hi))
        exact e ⟨h9.1.symm, h9.2.symm⟩
      rw [hne k' z' h' e]
      exact List.mem_of_getElem? (i := i) (by rw [List.getElem?_set_ne (Ne.symm hne0)]; exact hi)
  · obtain ⟨i, hi⟩ := List.getElem?_of_mem hq'
    by_cases hx : i = q0
    · subst hx
      rw [List.getElem?_set_self hlt] at hi
      exact ⟨k, z, hl, (Option.some.inj hi).symm⟩
    · rw [List.getElem?_set_ne (Ne.symm hx)] at hi
      obtain ⟨k', z', h', e⟩ := h2 q (List.mem_of_getElem? hi)
      refine ⟨k', z', h', ?_⟩
      rw [e, hne k' z' h']
      rintro ⟨rfl, rfl⟩
      rw [e] at hi
      exact hx (hD.1 i q0 _ _ hi hq rfl)
end
section
/-! what every method may take for granted, contracts, and the judgement J of a body: at pc, with locals, stack, numbers S, addresses A, cells and slots used -/
/-- a private method of a class above, called on an object of a class below: its selection, that the tables don't name -/
def slL : List Cond := [.selects RX0 yX6_applyShares yX6_applyShares, .selects RX4 yX6_applyShares yX6_applyShares, .selects RX0 yX6_apply yX6_apply, .selects RX4 yX6_apply yX6_apply]
def xtb : List Cond := slL ++ lw_tbl
def WA : List Cond := xtb.filter goodWord
theorem sel_priv {x : MethodName} {C : String} {s : State} {args : Array Value} {n : Nat} (hy : x.cls ≠ "java/lang/invoke/MethodHandle" ∧ x.cls ≠ "java/lang/invoke/VarHandle")
    (hins : (Cond.instantiable C n).before args s = true) (hpriv : (Cond.privateMethod x).before args s = true) (hinst : (Cond.instanceMethod x).before args s = true) (hsame : (Cond.sameMethod x.cls x.cls x.name x.desc).before args s = true) : (Cond.selects C x x).before args s = true := by
  obtain ⟨c, k, hc, hk, -, -, -, -⟩ := Cond.instantiable_spec hins
  obtain ⟨cn, ck, r1, hcn, hck, hni, hf, hn1⟩ := Cond.sameMethod_found hsame
  obtain ⟨mk, methM, hnamed, hmethM, -, -⟩ := Cond.instanceMethod_spec hinst
  have hfound : s.methodFound? x.cls x.name x.desc = some mk := State.methodFound?_of_named hnamed hy
  have hcls : mk.cls = cn := Option.some.inj ((findClass_of_methodNamed hnamed).symm.trans hcn)
  have hsel : selectMethod {} s.vm c mk = .method mk := selectMethod_private hmethM (Cond.privateMethod_at hpriv mk methM hnamed hmethM)
  simp only [Cond.before, Cond.holds, Cond.value, hc, hfound, hnamed, hsel, hcls, hck]
  simp; exact hni
theorem WA_good : ∀ w ∈ WA, (w.onTables && w.keeps) = true ∨ ∃ ty, w = .arrayClass ty := fun _ h => good_of_word (List.mem_filter.mp h).2
theorem WA_of {w : Cond} {i : Nat} (h : xtb[i]? = some w) (g : goodWord w = true) : w ∈ WA := List.mem_filter.mpr ⟨List.mem_of_getElem? h, g⟩
def strL : List (Nat × String) := [(220, "out of range"), (222, "the books are closed for the day"), (224, "no more movements"), (226, "the ledger would be invalid"), (80, "no receipts"), (87, "a bit stands for no movement"), (232, "no receipt to spread over"), (100, "nothing to spread by"), (246, "there is no such movement"), (119, "cancelled already"), (238, "a landed cost is spread over it"), (147, "no landed cost"), (158, "no issue of the ledger"), (252, "there is no such layer")]
def nmL : List (String × Nat × MethodName) := [(RX7, 17, yX2_init), (RX7, 24, yX0_init), (RX7, 31, yX4_init), (RX0, 1, yX6_init), (RX4, 1, yX6_init)]
def ndL : List MethodName := [⟨RX6, "empty", "()V"⟩, ⟨RX6, "absorb", "(LLayerbook$Movement;I)J"⟩, ⟨RX6, "bring", "(LLayerbook$Movement;)V"⟩, ⟨RX6, "take", "(I)J"⟩, ⟨RX6, "bringBack", "(LLayerbook$Movement;)V"⟩, ⟨RX6, "worth", "()J"⟩, ⟨RX6, "replay", "(LLayerbook$Movement;II)V"⟩, ⟨"java/lang/RuntimeException", "<init>", "()V"⟩, ⟨"java/lang/RuntimeException", "<init>", "(Ljava/lang/String;)V"⟩, ⟨"java/lang/Exception", "<init>", "()V"⟩, ⟨"java/lang/Exception", "<init>", "(Ljava/lang/String;)V"⟩, ⟨"java/lang/Throwable", "<init>", "()V"⟩, ⟨"java/lang/Throwable", "<init>", "(Ljava/lang/String;)V"⟩]
def xIA : String := "java/lang/IllegalArgumentException"
def xIS : String := "java/lang/IllegalStateException"
def xIO : String := "java/lang/IndexOutOfBoundsException"
def ncL : List (String × String) := [(xIS, xIA), (xIO, xIA), (xIA, xIS), (xIO, xIS), (xIA, xIO), (xIS, xIO)]
def nxL : List String := [xIA, xIS, xIO]
def GE (G : GT) (Al : Nat → Prop) (s : State) : Prop := va_K G.1 vwCl (tysG G) s ∧ (vx_Zq Bundle.tN "UNASSIGNED_STACK" Bundle.steD Al s s.heap ∧ vx_Zq Bundle.tN "SUPPRESSED_SENTINEL" Bundle.listD Al s s.heap) ∧ (∀ q ∈ strL, ∃ a, vk_R RX7 q.1 q.2 a s) ∧ (∀ q ∈ nmL, va_Nw (.methodLinkNest q.1 q.2.1 q.2.2 RX7) s) ∧ (∀ q ∈ ndL, va_Nw (.declares q) s) ∧ (∀ q ∈ ncL, va_Nc q.1 q.2 s) ∧ (∀ q ∈ nxL, va_Nw (.castable q q) s) ∧ va_AO RX3 s
theorem GE.moved {G : GT} {Al Al' : Nat → Prop} {s U : State} {H : Heap} (h : GE G Al s) (hW : s.WarmedH U.vm) (hH : U.heap = H) (hk : ∀ q : Nat, q < s.heap.size → ¬ Al q → H[q]? = s.heap[q]?) (hA : ∀ q, Al' q → Al q) : GE G Al' U := by
  obtain ⟨h1, ⟨h2, h3⟩, h4, h5, h6, h7, h8, h9⟩ := h
  subst hH
  exact ⟨va_K.moved hW.alike h1, ⟨((vx_Zq.moved hW.alike (h2.kept hk))).narrow hA, ((vx_Zq.moved hW.alike (h3.kept hk))).narrow hA⟩, fun q hq => (h4 q hq).imp fun _ hr => vk_R.warm hW hr, fun q hq => va_Nw.warmM hW (h5 q hq), fun q hq => va_Nw.warmD hW (h6 q hq), fun q hq => va_Nc.moved hW.alike (h7 q hq), fun q hq => va_Nw.warmC hW (h8 q hq), va_AO.moved hW.alike h9⟩
theorem GE.calling {G : GT} {Al : Nat → Prop} {U : State} (g : JFrame) (mk : MethodId) (a : Array Value) (h : GE G Al U) : GE G Al (U.calling g mk a) := by
  obtain ⟨h1, ⟨h2, h3⟩, h4, h5, h6, h7, h8, h9⟩ := h
  have hv : U.vm.Alike (U.calling g mk a).vm := Vm.Alike.refl U.vm
  exact ⟨va_K.moved hv h1, ⟨vx_Zq.moved hv h2, vx_Zq.moved hv h3⟩, fun q hq => (h4 q hq).imp fun _ hr => vk_R.same rfl hr, fun q hq => va_Nw.same rfl rfl (h5 q hq), fun q hq => va_Nw.same rfl rfl (h6 q hq), fun q hq => va_Nc.moved hv (h7 q hq), fun q hq => va_Nw.same rfl rfl (h8 q hq), va_AO.moved hv h9⟩
/-- the cells that a method may change: its things, and what is new -/
def fA (A : AB) (sz : Nat) : Nat → Prop := fun q => (∃ (k : Nat) (z : Int), lv1 A k z ∧ q = A.1 k z) ∨ sz ≤ q
theorem HW.weaken {G : GT} {S : ST} {A : AB} {Al Al' : Nat → Prop} {H : Heap} (h : HW G S A Al H) (hA : ∀ (k : Nat) (z : Int), lv1 A k z → Al' (A.1 k z)) : HW G S A Al' H := by
  obtain ⟨ws, h1, h2, h3, h4, h5⟩ := h
  refine ⟨ws, h1, h2, h3, h4.weaken (fun k q hk _ => ?_), h5⟩
  obtain ⟨k', z', hl, e⟩ := h2 q (List.mem_of_getElem? hk)
  rw [e]
  exact hA k' z' hl
theorem HW.self {G : GT} {S : ST} {A : AB} {Al : Nat → Prop} {H : Heap} {sz : Nat} (h : HW G S A Al H) : HW G S A (fA A sz) H := h.weaken fun k z hl => Or.inl ⟨k, z, hl, rfl⟩
theorem HW.in {G : GT} {S : ST} {A : AB} {Al : Nat → Prop} {H : Heap} (h : HW G S A Al H) {k : Nat} {z : Int} (hl : lv1 A k z) : Al (A.1 k z) ∧ A.1 k z < H.size := by
  obtain ⟨ws, h1, h2, h3, h4, h5⟩ := h
  obtain ⟨q0, hq⟩ := HW.at (Al := Al) (H := H) h1 hl
  exact ⟨h4.2 q0 _ hq, (h3 q0 _ hq).lt⟩
theorem HW.wt {G : GT} {S : ST} {A : AB} {Al : Nat → Prop} {H : Heap} (h : HW G S A Al H) : WT S A ∧ AI A := by
  obtain ⟨ws, h1, h2, h3, h4, h5, h6⟩ := h
  exact ⟨h6, h5⟩
def PreB (G : GT) (S : ST) (A : AB) (sz : Nat) (av : List Value) : Array Value → State → Prop := va_Pc av (fun U => U.heap.size = sz ∧ HW G S A (fun _ => True) U.heap ∧ GE G (fA A sz) U)
def QB (G : GT) (Po : Option Value → ST → AB → Prop) (A : AB) (sz : Nat) : Array Value → State → Outcome → State → Prop := fun _ st o t => (∃ (r : Option Value) (S' : ST) (A' : AB), o = .returned r ∧ Po r S' A' ∧ HW G S' A' (fA A sz) t.heap) ∧ va_F (fA A sz) st t
def XB (G : GT) (XPo : String → ST → AB → Prop) (A : AB) (sz : Nat) : String → State → State → Prop := fun E st t => (∃ (S' : ST) (A' : AB), XPo E S' A' ∧ HW G S' A' (fA A sz) t.heap) ∧ va_F (fA A sz) st t
/-- a method's contract -/
def CT (G : GT) (l : Launch) (y : MethodName) (cc : ByteArray) (maxL : Nat) (ret : Option FieldType) (rm : Room) (S : ST) (A : AB) (av : List Value) (Po : Option Value → ST → AB → Prop) (XPo : String → ST → AB → Prop) : Prop :=
  ∀ sz : Nat, vx_Met l y (Cond.code y cc maxL ret :: WA) rm (PreB G S A sz av) (QB G Po A sz) (XB G XPo A sz) rm.cells rm.slots (fA A sz)
/-- .. of a method with a table -/
def CTH (G : GT) (l : Launch) (y : MethodName) (cc : ByteArray) (maxL : Nat) (ret : Option FieldType) (hh : List (Nat × Nat × Nat × Nat)) (rm : Room) (S : ST) (A : AB) (av : List Value) (Po : Option Value → ST → AB → Prop) (XPo : String → ST → AB → Prop) : Prop :=
  ∀ sz : Nat, vx_Met l y (Cond.codeWith y cc maxL ret hh :: WA) rm (PreB G S A sz av) (QB G Po A sz) (XB G XPo A sz) rm.cells rm.slots (fA A sz)
abbrev JT : Type := Nat → List (Option Value) → List Value → ST → AB → Nat → Nat → Prop
abbrev XT : Type := String → Nat → List (Option Value) → ST → AB → Nat → Nat → Prop
def Cx (G : GT) (l : Launch) (R : Room) (cc : ByteArray) (nL : Nat) (own mn : String) (tb : List ExceptionTableEntry) (J : JT) (X : XT) : Prop :=
  ∃ (p : Program) (e : Env) (s : State) (m : MethodId) (args : Array Value) (below : List Frame) (meth : Method) (c : Code) (Al : Nat → Prop) (Q : State → Prop),
    J = (fun pc lv st S A k n => ∀ (H : Heap) (locs : List Loc) (ls : Array Slot), LH ls nL lv → HW G S A Al H → va_S Al s.heap H locs → W p l e R s m args below meth c H locs k n Q (F0 m pc ls st)) ∧
    X = (fun E pc lv S A k n => ∀ (H : Heap) (locs : List Loc) (ls : Array Slot) (rest : List Value) (q9 : Addr) (ce : Cell), LH ls nL lv → HW G S A Al H → va_S Al s.heap H locs → H[q9]? = some ce → ce.vm = .none → s.vm.findClass E = some ce.cls → vx_W p l e R s m args below meth c H locs k n Q (F0 m pc ls rest) q9) ∧
    p.tables.exec = Jvm.exec ∧ c.code = cc ∧ c.maxLocals = nL ∧ s.vm.findClass own = some m.cls ∧ (∀ w ∈ WA, w.before args s = true) ∧ GE G Al s ∧ (∀ q, s.heap.size ≤ q → Al q) ∧ l.stackTraces = false ∧ meth.name = mn ∧ c.exceptionTable.toList = tb
/-- how the entry's locals stand -/
def Ent : List Value → List (Option Value) → Prop
  | [], l => ∀ o ∈ l, o = none
  | v :: t, some w :: l => v = w ∧ ((v.category = 1 ∧ Ent t l) ∨ (v.category = 2 ∧ ∃ l', l = none :: l' ∧ Ent t l'))
  | _ :: _, _ => False
theorem ent_1 {v : Value} {t : List Value} {l : List (Option Value)} (h : v.category = 1) (k : Ent t l) : Ent (v :: t) (some v :: l) := ⟨rfl, Or.inl ⟨h, k⟩⟩
theorem ent_2 {v : Value} {t : List Value} {l : List (Option Value)} (h : v.category = 2) (k : Ent t l) : Ent (v :: t) (some v :: none :: l) := ⟨rfl, Or.inr ⟨h, l, rfl, k⟩⟩
theorem ent_0 : Ent [] [] := fun _ h => by cases h
theorem ent_n {l : List (Option Value)} (h : Ent [] l) : Ent [] (none :: l) := fun o ho => (List.mem_cons.mp ho).elim id (h o)
theorem cat_R (A : AB) (k : Nat) (z : Int) : (vR A k z).category = 1 := by
  unfold vR rfo
  split <;> rfl
theorem ent_args : ∀ (av : List Value) (lv : List (Option Value)) (n : Nat), Ent av lv → ∀ (i : Nat) (v : Value), lv[i]? = some (some v) → (n + i, v) ∈ lv_args n av
  | [], lv, n, h, i, v, hi => by cases h _ (List.mem_of_getElem? hi)
  | w :: t, [], n, h, i, v, hi => by cases h
  | w :: t, none :: l, n, h, i, v, hi => by cases h
  | w :: t, some u :: l, n, h, i, v, hi => by
    obtain ⟨rfl, h⟩ := h
    rcases h with ⟨hc, h⟩ | ⟨hc, l', rfl, h⟩
    · cases i with
      | zero => cases hi; exact List.mem_cons_self
      | succ i =>
        have h9 := ent_args t l (n + 1) h i v hi
        refine List.mem_cons_of_mem _ ?_
        rw [if_neg (by omega), show n + (i + 1) = n + 1 + i by omega]
        exact h9
    · cases i with
      | zero => cases hi; exact List.mem_cons_self
      | succ i =>
        cases i with
        | zero => cases hi
        | succ i =>
          have h9 := ent_args t l' (n + 2) h i v hi
          refine List.mem_cons_of_mem _ ?_
          rw [if_pos hc, show n + (i + 1 + 1) = n + 2 + i by omega]
          exact h9
theorem ent_len : ∀ (av : List Value) (lv : List (Option Value)), Ent av lv → (lg_sl av).length ≤ lv.length
  | [], lv, h => Nat.zero_le _
  | w :: t, [], h => by cases h
  | w :: t, none :: l, h => by cases h
  | w :: t, some u :: l, h => by
    obtain ⟨rfl, h⟩ := h
    rcases h with ⟨hc, h⟩ | ⟨hc, l', rfl, h⟩
    · have := ent_len t l h
      simp only [lg_sl, List.flatMap_cons, if_neg (show ¬ w.category = 2 by omega), List.length_append, List.length_cons, List.length_nil] at this ⊢
      omega
    · have := ent_len t l' h
      simp only [lg_sl, List.flatMap_cons, if_pos hc, List.length_append, List.length_cons, List.length_nil] at this ⊢
      omega
theorem ent_LH {av : List Value} {lv : List (Option Value)} {n : Nat} (h : Ent av lv) (hn : lv.length = n) : LH ((lg_sl av ++ List.replicate (n - (lg_sl av).length) Slot.unset).toArray) n lv := by
  have h9 := lv_entry av (n := n) (by rw [← hn]; exact ent_len av lv h)
  refine ⟨h9.1, h9.2.1, hn, fun i v hi => ?_⟩
  have := ent_args av lv 0 h i v hi
  rw [Nat.zero_add] at this
  exact h9.2.2 _ this
end
section
/-! the ends of a body, and a contract out of a body -/
def retm (rt : Option FieldType) (ins : Instr) (st : List Value) (r : Option Value) : Prop :=
  (rt = none ∧ ins = .return_ ∧ st = [] ∧ r = none) ∨ (∃ z, rt = some .int ∧ ins = .ireturn ∧ st = [vI z] ∧ r = some (vI z)) ∨
  (∃ z, (z = 0 ∨ z = 1) ∧ rt = some .boolean ∧ ins = .ireturn ∧ st = [vI z] ∧ r = some (vI z)) ∨ (∃ z, rt = some .long ∧ ins = .lreturn ∧ st = [vL z] ∧ r = some (vL z)) ∨
  (∃ (o : Option Nat) (n : String), rt = some (.object n) ∧ ins = .areturn ∧ st = [va_rf o] ∧ r = some (va_rf o))
def FinR (cc : ByteArray) (rt : Option FieldType) (Po : Option Value → ST → AB → Prop) (mc ms : Nat) (J : JT) : Prop := ∀ (pc : Nat) (lv : List (Option Value)) (st : List Value) (S : ST) (A : AB) (k n : Nat) (ins : Instr) (r : Option Value), decode cc pc = .ok (ins, 1) → retm rt ins st r → Po r S A → k ≤ mc → n ≤ ms → J pc lv st S A k n
def FinX (XPo : String → ST → AB → Prop) (mc ms : Nat) (X : XT) : Prop := ∀ (E : String) (pc : Nat) (lv : List (Option Value)) (S : ST) (A : AB) (k n : Nat), XPo E S A → k ≤ mc → n ≤ ms → X E pc lv S A k n
def xnames : List String := ["java/lang/RuntimeException", "java/lang/Exception"]
def bdL : List Cond := nxL.map (fun q => Cond.castable q q) ++ ndL.map (fun q => Cond.declares q)
/-- the words of a throw, of a class and the pool number of its constructor -/
def XW (ic : Nat) (E : String) : Prop := (∀ w ∈ (vx_atS RX7 ic E xnames).filter goodWord, w ∈ lw_tbl) ∧ (∀ w ∈ (vx_atS RX7 ic E xnames).filter (fun w => !goodWord w), w ∈ bdL) ∧ (∀ w ∈ vx_atS RX7 ic E xnames, vx_ot w = true) ∧ Bundle.fit E = true ∧ Cond.initialized E ∈ WA
/-- 'throw new E(text)' -/
def FinT (cc : ByteArray) (R : Room) (own : String) (XPo : String → ST → AB → Prop) (J : JT) : Prop := ∀ (pc : Nat) (lv : List (Option Value)) (S : ST) (A : AB) (k n ik is ic : Nat) (E text : String), (is, text) ∈ strL → own = RX7 → XW ic E → Cond.classLink RX7 ik E ∈ WA →
  decode cc pc = .ok (.new ik, 3) → decode cc (pc + 3) = .ok (.dup, 1) → decode cc (pc + 4) = .ok (.ldc is, 2) → decode cc (pc + 6) = .ok (.invokespecial ic, 3) → decode cc (pc + 9) = .ok (.athrow, 1) → XPo E S A → 5 < R.frames → 82 ≤ R.locals → k + 1 ≤ R.cells → n + 6 ≤ R.slots → J pc lv [] S A k n
/-- .. with the text by a wide index -/
def FinU (cc : ByteArray) (R : Room) (own : String) (XPo : String → ST → AB → Prop) (J : JT) : Prop := ∀ (pc : Nat) (lv : List (Option Value)) (S : ST) (A : AB) (k n ik is ic : Nat) (E text : String), (is, text) ∈ strL → own = RX7 → XW ic E → Cond.classLink RX7 ik E ∈ WA →
  decode cc pc = .ok (.new ik, 3) → decode cc (pc + 3) = .ok (.dup, 1) → decode cc (pc + 4) = .ok (.ldc_w is, 3) → decode cc (pc + 7) = .ok (.invokespecial ic, 3) → decode cc (pc + 10) = .ok (.athrow, 1) → XPo E S A → 5 < R.frames → 82 ≤ R.locals → k + 1 ≤ R.cells → n + 6 ≤ R.slots → J pc lv [] S A k n
theorem HW.kept {G : GT} {S : ST} {A : AB} {Al : Nat → Prop} {H H1 : Heap} (h : HW G S A Al H) (hq : ∀ q : Nat, q < H.size → H1[q]? = H[q]?) : HW G S A Al H1 := by
  obtain ⟨ws, h1, h2, h3, h4, h5⟩ := h
  exact ⟨ws, h1, h2, h3.kept (fun k q hk => hq _ (h3 k q hk).lt), h4, h5⟩
theorem bd_at {G : GT} {Al : Nat → Prop} {s : State} {args : Array Value} (h : GE G Al s) : ∀ w ∈ bdL, w.before args s = true := by
  obtain ⟨-, -, -, -, h6, -, h8, -⟩ := h
  intro w hw
  rcases List.mem_append.mp hw with hw | hw
  · obtain ⟨q, hq, rfl⟩ := List.mem_map.mp hw
    exact va_Nw.use rfl (h8 q hq)
  · obtain ⟨q, hq, rfl⟩ := List.mem_map.mp hw
    exact va_Nw.use rfl (h6 q hq)
theorem cov_nil {c : Code} (h : c.exceptionTable.toList = []) (pc : Nat) : ∀ x ∈ c.exceptionTable.toList, covers x pc = false := by
  rw [h]
  intro x hx
  cases hx
/-- the five ends, over the machine -/
theorem fins {p : Program} {l : Launch} {e : Env} {R : Room} {s : State} {m : MethodId} {args : Array Value} {below : List Frame} {meth : Method} {c : Code} {G : GT} {A0 : AB} {cc : ByteArray} {rt : Option FieldType} {Po : Option Value → ST → AB → Prop} {XPo : String → ST → AB → Prop} {nL : Nat} {own : String} {J : JT} {X : XT}
    (hJ : J = (fun pc lv st S A k n => ∀ (H : Heap) (locs : List Loc) (ls : Array Slot), LH ls nL lv → HW G S A (fA A0 s.heap.size) H → va_S (fA A0 s.heap.size) s.heap H locs → W p l e R s m args below meth c H locs k n (vx_MQ below (QB G Po A0 s.heap.size) (XB G XPo A0 s.heap.size) args s R.cells R.slots (fA A0 s.heap.size)) (F0 m pc ls st)))
    (hX : X = (fun E pc lv S A k n => ∀ (H : Heap) (locs : List Loc) (ls : Array Slot) (rest : List Value) (q9 : Addr) (ce : Cell), LH ls nL lv → HW G S A (fA A0 s.heap.size) H → va_S (fA A0 s.heap.size) s.heap H locs → H[q9]? = some ce → ce.vm = .none → s.vm.findClass E = some ce.cls → vx_W p l e R s m args below meth c H locs k n (vx_MQ below (QB G Po A0 s.heap.size) (XB G XPo A0 s.heap.size) args s R.cells R.slots (fA A0 s.heap.size)) (F0 m pc ls rest) q9))
    (hx : p.tables.exec = Jvm.exec) (hb : c.code = cc) (hr : meth.sig.returnType = rt) (hlocks : meth.locks = false) (hml : c.maxLocals = nL) (hown : s.vm.findClass own = some m.cls) (hts : ∀ w ∈ WA, w.before args s = true) (hts2 : ∀ w ∈ lw_tbl, goodWord w = true → w.before args s = true) (hG : GE G (fA A0 s.heap.size) s) (hfl : l.stackTraces = false) :
    FinR cc rt Po R.cells R.slots J ∧ (c.exceptionTable.toList = [] → FinX XPo R.cells R.slots X ∧ FinT cc R own XPo J ∧ FinU cc R own XPo J) := by
  subst hJ; subst hX
  have thr : ∀ (S : ST) (A : AB) (E : String) (H : Heap) (locs : List Loc), XPo E S A → HW G S A (fA A0 s.heap.size) H → va_S (fA A0 s.heap.size) s.heap H locs → ∀ t : State, s.vm.Alike t.vm → H.size ≤ t.heap.size → (∀ q : Nat, q < H.size → t.heap[q]? = H[q]?) → XB G XPo A0 s.heap.size E s t := by
    intro S A E H locs hpo hw hs t _ hz hk
    exact ⟨⟨S, A, hpo, hw.kept hk⟩, Nat.le_trans hs.1 hz, fun q h1 h2 => (hk q (Nat.lt_of_lt_of_le h1 hs.1)).trans (hs.2.1 q h1 h2)⟩
  refine ⟨?_, fun htb => ⟨?_, ?_, ?_⟩⟩
  · intro pc lv st S A k n ins r d hm hpo hk hn H locs ls hl hw hs
    have hq : ∀ t : State, t.heap = H → s.WarmedH t.vm → QB G Po A0 s.heap.size args s (.returned r) t := fun t ht _ => ⟨⟨r, S, A, rfl, hpo, by rw [ht]; exact hw⟩, hs.F ht⟩
    refine W.widen hk hn (vx_ret ?_)
    rcases hm with ⟨h1, rfl, rfl, rfl⟩ | ⟨z, h1, rfl, rfl, rfl⟩ | ⟨z, hz, h1, rfl, rfl, rfl⟩ | ⟨z, h1, rfl, rfl, rfl⟩ | ⟨o, nm, h1, rfl, rfl, rfl⟩
    · exact W.vret hx hb (hr.trans h1) hq hs.2.2 d hlocks
    · exact W.iret hx hb (hr.trans h1) hq hs.2.2 d hlocks
    · exact W.zret hx hb (hr.trans h1) (by rcases hz with rfl | rfl <;> rfl) hq hs.2.2 d hlocks
    · exact W.lret hx hb (hr.trans h1) hq hs.2.2 d hlocks
    · exact W.aret hx hb (hr.trans h1) (Or.inl ⟨nm, rfl⟩) (by cases o with | none => exact Or.inl rfl | some a => exact Or.inr ⟨a, rfl⟩) hq hs.2.2 d hlocks
  · intro E pc lv S A k n hpo hk hn H locs ls rest q9 ce hl hw hs hce hcv hcl
    exact vx_out (cov_nil htb pc) hlocks hce hcv hcl (fun t ht ha => thr S A E H locs hpo hw hs t ha (by rw [ht]; exact Nat.le_refl _) (fun q _ => by rw [ht])) hs.2.2 hk hn
  · intro pc lv S A k n ik is ic E text hst ho hXW hcl d0 d3 d4 d6 d9 hpo hRf hRl hkc hns H locs ls hl hw hs
    subst ho
    obtain ⟨x1, x2, x3, x4, x5⟩ := hXW
    obtain ⟨sa, hstr⟩ := hG.2.2.1 (is, text) hst
    have hat : ∀ w ∈ vx_atS RX7 ic E xnames, w.before args s = true := vx_hat (B := bdL) (fun w hw => hts2 w (x1 w hw) (List.mem_filter.mp hw).2) x2 (bd_at hG)
    refine vx_throwS (names := xnames) hx hb hfl hown x4 (fun n hn => ?_) (hts _ hcl) (hts _ x5) hstr hat ?_ hG.2.1.1 hG.2.1.2 hs (by rw [hml]; exact hl.1) d0 d3 d4 d6 d9 (cov_nil htb _) hRf hRl hkc hns hlocks (thr S A E H locs hpo hw hs) hs.2.2 hkc hns
    · rcases List.mem_cons.mp hn with rfl | hn
      · decide
      · rcases List.mem_cons.mp hn with rfl | hn
        · decide
        · cases hn
    · intro w hw
      rcases List.mem_cons.mp hw with rfl | hw
      · rfl
      · rcases List.mem_cons.mp hw with rfl | hw
        · rfl
        · exact x3 w hw
  · intro pc lv S A k n ik is ic E text hst ho hXW hcl d0 d3 d4 d6 d9 hpo hRf hRl hkc hns H locs ls hl hw hs
    subst ho
    obtain ⟨x1, x2, x3, x4, x5⟩ := hXW
    obtain ⟨sa, hstr⟩ := hG.2.2.1 (is, text) hst
    have hat : ∀ w ∈ vx_atS RX7 ic E xnames, w.before args s = true := vx_hat (B := bdL) (fun w hw => hts2 w (x1 w hw) (List.mem_filter.mp hw).2) x2 (bd_at hG)
    refine vx_throwSW (names := xnames) hx hb hfl hown x4 (fun n hn => ?_) (hts _ hcl) (hts _ x5) hstr hat ?_ hG.2.1.1 hG.2.1.2 hs (by rw [hml]; exact hl.1) d0 d3 d4 d6 d9 (cov_nil htb _) hRf hRl hkc hns hlocks (thr S A E H locs hpo hw hs) hs.2.2 hkc hns
    · rcases List.mem_cons.mp hn with rfl | hn
      · decide
      · rcases List.mem_cons.mp hn with rfl | hn
        · decide
        · cases hn
    · intro w hw
      rcases List.mem_cons.mp hw with rfl | hw
      · rfl
      · rcases List.mem_cons.mp hw with rfl | hw
        · rfl
        · exact x3 w hw
/-- a contract out of a body -/
theorem ct_of {G : GT} {l : Launch} {y : MethodName} {cc : ByteArray} {maxL : Nat} {ret : Option FieldType} {rm : Room} {S : ST} {A : AB} {av : List Value} {Po : Option Value → ST → AB → Prop} {XPo : String → ST → AB → Prop} {lv0 : List (Option Value)} (hy : plainName y.cls = true) (hfl : l.stackTraces = false) (hav : Ent av lv0) (hlen : lv0.length = maxL)
    (body : ∀ (J : JT) (X : XT), Cx G l rm cc maxL y.cls y.name [] J X → FinR cc ret Po rm.cells rm.slots J → FinX XPo rm.cells rm.slots X → FinT cc rm y.cls XPo J → FinU cc rm y.cls XPo J → WT S A → AI A → J 0 lv0 [] S A 0 0) : CT G l y cc maxL ret rm S A av Po XPo := by
  intro sz
  refine vx_ofW (cc := cc) (maxL := maxL) (ret := ret) (ws' := WA) hy rfl ?_
  intro p e s m args below meth c s₁ B hml htb hv
  obtain ⟨rfl, rfl, hw, hG⟩ := hv
  have hts0 := atoms_spec (ws := Cond.code y cc maxL ret :: WA) B.pre
  have hts : ∀ w ∈ WA, w.before av.toArray s = true := fun w h => hts0 w (List.mem_cons_of_mem _ h)
  have hown : s.vm.findClass y.cls = some m.cls := findClass_of_methodNamed B.named
  have htb' : c.exceptionTable.toList = [] := by
    cases h9 : c.exceptionTable.toList with
    | nil => rfl
    | cons x t => exact (htb x (by rw [h9]; exact List.mem_cons_self)).elim
  have hts2 : ∀ w ∈ lw_tbl, goodWord w = true → w.before av.toArray s = true := fun w h g => hts w (List.mem_filter.mpr ⟨List.mem_append_right _ h, g⟩)
  have hF := fins (p := p) (l := l) (e := e) (R := (headSpec (Cond.code y cc maxL ret :: WA) rm).room) (s := s) (m := m) (args := av.toArray) (below := below) (meth := meth) (c := c) (G := G) (A0 := A) (cc := cc) (rt := ret) (Po := Po) (XPo := XPo) (nL := maxL) (own := y.cls) rfl rfl B.exec B.bytes B.returns B.notSynchronized hml hown hts hts2 hG hfl
  have hC : Cx G l rm cc maxL y.cls y.name [] _ _ := ⟨p, e, s, m, av.toArray, below, meth, c, fA A s.heap.size, (vx_MQ below (QB G Po A s.heap.size) (XB G XPo A s.heap.size) av.toArray s rm.cells rm.slots (fA A s.heap.size)), rfl, rfl, B.exec, B.bytes, hml, hown, hts, hG, fun q h => Or.inr h, hfl, (name_of_methodNamed B.named B.method).1, htb'⟩
  have hJ := body _ _ hC hF.1 (hF.2 htb').1 (hF.2 htb').2.1 (hF.2 htb').2.2 hw.wt.1 hw.wt.2
  rw [lg_entry_eq]
  exact hJ s.heap [] _ (ent_LH hav hlen) hw.self va_S.rf
end
section
theorem r_iconst {G : GT} {l : Launch} {R : Room} {cc : ByteArray} {nL : Nat} {own mn : String} {tb : List ExceptionTableEntry} {J : JT} {X : XT} (C : Cx G l R cc nL own mn tb J X) {pc : Nat} {lv : List (Option Value)} {st : List Value} {S : ST} {A : AB} {k n : Nat} {z : Int} (d : decode cc pc = .ok (.iconst z, 1)) (kk : J (pc + 1) lv (vI z :: st) S A k n) : J pc lv st S A k n := by
  obtain ⟨p, e, s, m, args, below, meth, c, Al, Q, rfl, rfl, hx, hb, hml, hown, hts, hG, hAl, hfl, hmn, htb⟩ := C
  intro H locs ls hl hw hs
  exact lv_iconst hx hb d rfl (kk H locs ls hl hw hs)
theorem r_bipush {G : GT} {l : Launch} {R : Room} {cc : ByteArray} {nL : Nat} {own mn : String} {tb : List ExceptionTableEntry} {J : JT} {X : XT} (C : Cx G l R cc nL own mn tb J X) {pc : Nat} {lv : List (Option Value)} {st : List Value} {S : ST} {A : AB} {k n : Nat} {z : Int} (d : decode cc pc = .ok (.bipush z, 2)) (hz : (Int8.ofInt z).toInt32 = iI z) (kk : J (pc + 2) lv (vI z :: st) S A k n) : J pc lv st S A k n := by
  obtain ⟨p, e, s, m, args, below, meth, c, Al, Q, rfl, rfl, hx, hb, hml, hown, hts, hG, hAl, hfl, hmn, htb⟩ := C
  intro H locs ls hl hw hs
  exact lv_bipush hx hb d hz (kk H locs ls hl hw hs)
theorem r_sipush {G : GT} {l : Launch} {R : Room} {cc : ByteArray} {nL : Nat} {own mn : String} {tb : List ExceptionTableEntry} {J : JT} {X : XT} (C : Cx G l R cc nL own mn tb J X) {pc : Nat} {lv : List (Option Value)} {st : List Value} {S : ST} {A : AB} {k n : Nat} {z : Int} (d : decode cc pc = .ok (.sipush z, 3)) (hz : (Int16.ofInt z).toInt32 = iI z) (kk : J (pc + 3) lv (vI z :: st) S A k n) : J pc lv st S A k n := by
  obtain ⟨p, e, s, m, args, below, meth, c, Al, Q, rfl, rfl, hx, hb, hml, hown, hts, hG, hAl, hfl, hmn, htb⟩ := C
  intro H locs ls hl hw hs
  exact lv_sipush hx hb d hz (kk H locs ls hl hw hs)
theorem r_lconst {G : GT} {l : Launch} {R : Room} {cc : ByteArray} {nL : Nat} {own mn : String} {tb : List ExceptionTableEntry} {J : JT} {X : XT} (C : Cx G l R cc nL own mn tb J X) {pc : Nat} {lv : List (Option Value)} {st : List Value} {S : ST} {A : AB} {k n : Nat} {i : Fin 2} (d : decode cc pc = .ok (.lconst i, 1)) (z : Int) (hz : Int64.ofNat (i : Nat) = lI z) (kk : J (pc + 1) lv (vL z :: st) S A k n) : J pc lv st S A k n := by
  obtain ⟨p, e, s, m, args, below, meth, c, Al, Q, rfl, rfl, hx, hb, hml, hown, hts, hG, hAl, hfl, hmn, htb⟩ := C
  intro H locs ls hl hw hs
  exact lv_lconst hx hb d hz (kk H locs ls hl hw hs)
theorem r_ldc {G : GT} {l : Launch} {R : Room} {cc : ByteArray} {nL : Nat} {own mn : String} {tb : List ExceptionTableEntry} {J : JT} {X : XT} (C : Cx G l R cc nL own mn tb J X) {pc : Nat} {lv : List (Option Value)} {st : List Value} {S : ST} {A : AB} {k n : Nat} {i : Nat} {v : Int32} (d : decode cc pc = .ok (.ldc i, 2)) (hc : Cond.constant own i v ∈ WA) (z : Int) (hz : v = iI z) (kk : J (pc + 2) lv (vI z :: st) S A k n) : J pc lv st S A k n := by
  obtain ⟨p, e, s, m, args, below, meth, c, Al, Q, rfl, rfl, hx, hb, hml, hown, hts, hG, hAl, hfl, hmn, htb⟩ := C
  intro H locs ls hl hw hs
  subst hz
  exact lv_ldc hx hb hown (hts _ hc) d (kk H locs ls hl hw hs)
theorem r_ldc2 {G : GT} {l : Launch} {R : Room} {cc : ByteArray} {nL : Nat} {own mn : String} {tb : List ExceptionTableEntry} {J : JT} {X : XT} (C : Cx G l R cc nL own mn tb J X) {pc : Nat} {lv : List (Option Value)} {st : List Value} {S : ST} {A : AB} {k n : Nat} {i : Nat} {v : Int64} (d : decode cc pc = .ok (.ldc2_w i, 3)) (hc : Cond.constantLong own i v ∈ WA) (z : Int) (hz : v = lI z) (kk : J (pc + 3) lv (vL z :: st) S A k n) : J pc lv st S A k n := by
  obtain ⟨p, e, s, m, args, below, meth, c, Al, Q, rfl, rfl, hx, hb, hml, hown, hts, hG, hAl, hfl, hmn, htb⟩ := C
  intro H locs ls hl hw hs
  subst hz
  exact lv_ldc2 hx hb hown (hts _ hc) d (kk H locs ls hl hw hs)
theorem r_null {G : GT} {l : Launch} {R : Room} {cc : ByteArray} {nL : Nat} {own mn : String} {tb : List ExceptionTableEntry} {J : JT} {X : XT} (C : Cx G l R cc nL own mn tb J X) {pc : Nat} {lv : List (Option Value)} {st : List Value} {S : ST} {A : AB} {k n : Nat} (kd : Nat) (d : decode cc pc = .ok (.aconst_null, 1)) (kk : J (pc + 1) lv (vR A kd (-1) :: st) S A k n) : J pc lv st S A k n := by
  obtain ⟨p, e, s, m, args, below, meth, c, Al, Q, rfl, rfl, hx, hb, hml, hown, hts, hG, hAl, hfl, hmn, htb⟩ := C
  intro H locs ls hl hw hs
  exact lv_null hx hb d (kk H locs ls hl hw hs)
theorem r_iload_n {G : GT} {l : Launch} {R : Room} {cc : ByteArray} {nL : Nat} {own mn : String} {tb : List ExceptionTableEntry} {J : JT} {X : XT} (C : Cx G l R cc nL own mn tb J X) {pc : Nat} {lv : List (Option Value)} {st : List Value} {S : ST} {A : AB} {k n : Nat} {i : Fin 4} {z : Int} (d : decode cc pc = .ok (.iload_n i, 1)) (h : lv[(i : Nat)]? = some (some (vI z))) (kk : J (pc + 1) lv (vI z :: st) S A k n) : J pc lv st S A k n := by
  obtain ⟨p, e, s, m, args, below, meth, c, Al, Q, rfl, rfl, hx, hb, hml, hown, hts, hG, hAl, hfl, hmn, htb⟩ := C
  intro H locs ls hl hw hs
  exact lv_iload_n hx hb d rfl (hl.2.2.2 _ _ h) (kk H locs ls hl hw hs)
theorem r_iload {G : GT} {l : Launch} {R : Room} {cc : ByteArray} {nL : Nat} {own mn : String} {tb : List ExceptionTableEntry} {J : JT} {X : XT} (C : Cx G l R cc nL own mn tb J X) {pc : Nat} {lv : List (Option Value)} {st : List Value} {S : ST} {A : AB} {k n : Nat} {i : Nat} {z : Int} (d : decode cc pc = .ok (.iload i, 2)) (h : lv[i]? = some (some (vI z))) (kk : J (pc + 2) lv (vI z :: st) S A k n) : J pc lv st S A k n := by
  obtain ⟨p, e, s, m, args, below, meth, c, Al, Q, rfl, rfl, hx, hb, hml, hown, hts, hG, hAl, hfl, hmn, htb⟩ := C
  intro H locs ls hl hw hs
  exact lv_iload hx hb d (hl.2.2.2 _ _ h) (kk H locs ls hl hw hs)
theorem r_lload_n {G : GT} {l : Launch} {R : Room} {cc : ByteArray} {nL : Nat} {own mn : String} {tb : List ExceptionTableEntry} {J : JT} {X : XT} (C : Cx G l R cc nL own mn tb J X) {pc : Nat} {lv : List (Option Value)} {st : List Value} {S : ST} {A : AB} {k n : Nat} {i : Fin 4} {z : Int} (d : decode cc pc = .ok (.lload_n i, 1)) (h : lv[(i : Nat)]? = some (some (vL z))) (kk : J (pc + 1) lv (vL z :: st) S A k n) : J pc lv st S A k n := by
  obtain ⟨p, e, s, m, args, below, meth, c, Al, Q, rfl, rfl, hx, hb, hml, hown, hts, hG, hAl, hfl, hmn, htb⟩ := C
  intro H locs ls hl hw hs
  exact lv_lload_n hx hb d rfl (hl.2.2.2 _ _ h) (kk H locs ls hl hw hs)
theorem r_lload {G : GT} {l : Launch} {R : Room} {cc : ByteArray} {nL : Nat} {own mn : String} {tb : List ExceptionTableEntry} {J : JT} {X : XT} (C : Cx G l R cc nL own mn tb J X) {pc : Nat} {lv : List (Option Value)} {st : List Value} {S : ST} {A : AB} {k n : Nat} {i : Nat} {z : Int} (d : decode cc pc = .ok (.lload i, 2)) (h : lv[i]? = some (some (vL z))) (kk : J (pc + 2) lv (vL z :: st) S A k n) : J pc lv st S A k n := by
  obtain ⟨p, e, s, m, args, below, meth, c, Al, Q, rfl, rfl, hx, hb, hml, hown, hts, hG, hAl, hfl, hmn, htb⟩ := C
  intro H locs ls hl hw hs
  exact lv_lload hx hb d (hl.2.2.2 _ _ h) (kk H locs ls hl hw hs)
theorem r_aload_n {G : GT} {l : Launch} {R : Room} {cc : ByteArray} {nL : Nat} {own mn : String} {tb : List ExceptionTableEntry} {J : JT} {X : XT} (C : Cx G l R cc nL own mn tb J X) {pc : Nat} {lv : List (Option Value)} {st : List Value} {S : ST} {A : AB} {k n : Nat} {i : Fin 4} {kd : Nat} {z : Int} (d : decode cc pc = .ok (.aload_n i, 1)) (h : lv[(i : Nat)]? = some (some (vR A kd z))) (kk : J (pc + 1) lv (vR A kd z :: st) S A k n) : J pc lv st S A k n := by
  obtain ⟨p, e, s, m, args, below, meth, c, Al, Q, rfl, rfl, hx, hb, hml, hown, hts, hG, hAl, hfl, hmn, htb⟩ := C
  intro H locs ls hl hw hs
  rcases h9 : rfo A kd z with _ | a
  · have e : vR A kd z = .null := by unfold vR; rw [h9]; rfl
    rw [e] at h kk
    exact lv_aload_nN hx hb d rfl (hl.2.2.2 _ _ h) (kk H locs ls hl hw hs)
  · have e : vR A kd z = .ref a := by unfold vR; rw [h9]; rfl
    rw [e] at h kk
    exact lv_aload_n hx hb d rfl (hl.2.2.2 _ _ h) (kk H locs ls hl hw hs)
theorem r_aload {G : GT} {l : Launch} {R : Room} {cc : ByteArray} {nL : Nat} {own mn : String} {tb : List ExceptionTableEntry} {J : JT} {X : XT} (C : Cx G l R cc nL own mn tb J X) {pc : Nat} {lv : List (Option Value)} {st : List Value} {S : ST} {A : AB} {k n : Nat} {i : Nat} {kd : Nat} {z : Int} (d : decode cc pc = .ok (.aload i, 2)) (h : lv[i]? = some (some (vR A kd z))) (kk : J (pc + 2) lv (vR A kd z :: st) S A k n) : J pc lv st S A k n := by
  obtain ⟨p, e, s, m, args, below, meth, c, Al, Q, rfl, rfl, hx, hb, hml, hown, hts, hG, hAl, hfl, hmn, htb⟩ := C
  intro H locs ls hl hw hs
  rcases h9 : rfo A kd z with _ | a
  · have e : vR A kd z = .null := by unfold vR; rw [h9]; rfl
    rw [e] at h kk
    exact lv_aloadN hx hb d (hl.2.2.2 _ _ h) (kk H locs ls hl hw hs)
  · have e : vR A kd z = .ref a := by unfold vR; rw [h9]; rfl
    rw [e] at h kk
    exact lv_aload hx hb d (hl.2.2.2 _ _ h) (kk H locs ls hl hw hs)
theorem r_aloadq_n {G : GT} {l : Launch} {R : Room} {cc : ByteArray} {nL : Nat} {own mn : String} {tb : List ExceptionTableEntry} {J : JT} {X : XT} (C : Cx G l R cc nL own mn tb J X) {pc : Nat} {lv : List (Option Value)} {st : List Value} {S : ST} {A : AB} {k n : Nat} {i : Fin 4} {q : Nat} (d : decode cc pc = .ok (.aload_n i, 1)) (h : lv[(i : Nat)]? = some (some (.ref q))) (kk : J (pc + 1) lv (.ref q :: st) S A k n) : J pc lv st S A k n := by
  obtain ⟨p, e, s, m, args, below, meth, c, Al, Q, rfl, rfl, hx, hb, hml, hown, hts, hG, hAl, hfl, hmn, htb⟩ := C
  intro H locs ls hl hw hs
  exact lv_aload_n hx hb d rfl (hl.2.2.2 _ _ h) (kk H locs ls hl hw hs)
theorem r_aloadq {G : GT} {l : Launch} {R : Room} {cc : ByteArray} {nL : Nat} {own mn : String} {tb : List ExceptionTableEntry} {J : JT} {X : XT} (C : Cx G l R cc nL own mn tb J X) {pc : Nat} {lv : List (Option Value)} {st : List Value} {S : ST} {A : AB} {k n : Nat} {i : Nat} {q : Nat} (d : decode cc pc = .ok (.aload i, 2)) (h : lv[i]? = some (some (.ref q))) (kk : J (pc + 2) lv (.ref q :: st) S A k n) : J pc lv st S A k n := by
  obtain ⟨p, e, s, m, args, below, meth, c, Al, Q, rfl, rfl, hx, hb, hml, hown, hts, hG, hAl, hfl, hmn, htb⟩ := C
  intro H locs ls hl hw hs
  exact lv_aload hx hb d (hl.2.2.2 _ _ h) (kk H locs ls hl hw hs)
theorem WstI_n {p : Program} {l : Launch} {e : Env} {R : Room} {s : State} {m : MethodId} {args : Array Value} {below : List Frame} {meth : Method} {c : Code} {H : Heap} {locs : List Loc} {cells slots : Nat} {Q : State → Prop} {cc : ByteArray} {pc : Nat} {ls ls' : Array Slot} {rest : List Value} (hexec : p.tables.exec = Jvm.exec) (hb : c.code = cc) {i : Fin 4} {x : Int32} (hdg : decode cc pc = .ok (.istore_n i, 1)) (he : storeLocals ls (i : Nat) (.int x) = some ls') (kk : W p l e R s m args below meth c H locs cells slots Q (F0 m (pc + 1) ls' rest)) : W p l e R s m args below meth c H locs cells slots Q (F0 m pc ls (.int x :: rest)) := by
  intro T hT X
  obtain ⟨t, a, b⟩ := kk T hT X
  refine ⟨t, ?_, b⟩
  jvm_step X.here [X.here.top, ↓top_set X.here.top, hexec, hb, hdg, he]
  first | exact a | exact ⟨rfl, a⟩
theorem WstI {p : Program} {l : Launch} {e : Env} {R : Room} {s : State} {m : MethodId} {args : Array Value} {below : List Frame} {meth : Method} {c : Code} {H : Heap} {locs : List Loc} {cells slots : Nat} {Q : State → Prop} {cc : ByteArray} {pc : Nat} {ls ls' : Array Slot} {rest : List Value} (hexec : p.tables.exec = Jvm.exec) (hb : c.code = cc) {i : Nat} {x : Int32} (hdg : decode cc pc = .ok (.istore i, 2)) (he : storeLocals ls i (.int x) = some ls') (kk : W p l e R s m args below meth c H locs cells slots Q (F0 m (pc + 2) ls' rest)) : W p l e R s m args below meth c H locs cells slots Q (F0 m pc ls (.int x :: rest)) := by
  intro T hT X
  obtain ⟨t, a, b⟩ := kk T hT X
  refine ⟨t, ?_, b⟩
  jvm_step X.here [X.here.top, ↓top_set X.here.top, hexec, hb, hdg, he]
  first | exact a | exact ⟨rfl, a⟩
theorem WstL_n {p : Program} {l : Launch} {e : Env} {R : Room} {s : State} {m : MethodId} {args : Array Value} {below : List Frame} {meth : Method} {c : Code} {H : Heap} {locs : List Loc} {cells slots : Nat} {Q : State → Prop} {cc : ByteArray} {pc : Nat} {ls ls' : Array Slot} {rest : List Value} (hexec : p.tables.exec = Jvm.exec) (hb : c.code = cc) {i : Fin 4} {x : Int64} (hdg : decode cc pc = .ok (.lstore_n i, 1)) (he : storeLocals ls (i : Nat) (.long x) = some ls') (kk : W p l e R s m args below meth c H locs cells slots Q (F0 m (pc + 1) ls' rest)) : W p l e R s m args below meth c H locs cells slots Q (F0 m pc ls (.long x :: rest)) := by
  intro T hT X
  obtain ⟨t, a, b⟩ := kk T hT X
  refine ⟨t, ?_, b⟩
  jvm_step X.here [X.here.top, ↓top_set X.here.top, hexec, hb, hdg, he]
  first | exact a | exact ⟨rfl, a⟩
theorem WstL {p : Program} {l : Launch} {e : Env} {R : Room} {s : State} {m : MethodId} {args : Array Value} {below : List Frame} {meth : Method} {c : Code} {H : Heap} {locs : List Loc} {cells slots : Nat} {Q : State → Prop} {cc : ByteArray} {pc : Nat} {ls ls' : Array Slot} {rest : List Value} (hexec : p.tables.exec = Jvm.exec) (hb : c.code = cc) {i : Nat} {x : Int64} (hdg : decode cc pc = .ok (.lstore i, 2)) (he : storeLocals ls i (.long x) = some ls') (kk : W p l e R s m args below meth c H locs cells slots Q (F0 m (pc + 2) ls' rest)) : W p l e R s m args below meth c H locs cells slots Q (F0 m pc ls (.long x :: rest)) := by
  intro T hT X
  obtain ⟨t, a, b⟩ := kk T hT X
  refine ⟨t, ?_, b⟩
  jvm_step X.here [X.here.top, ↓top_set X.here.top, hexec, hb, hdg, he]
  first | exact a | exact ⟨rfl, a⟩
theorem WstA_n {p : Program} {l : Launch} {e : Env} {R : Room} {s : State} {m : MethodId} {args : Array Value} {below : List Frame} {meth : Method} {c : Code} {H : Heap} {locs : List Loc} {cells slots : Nat} {Q : State → Prop} {cc : ByteArray} {pc : Nat} {ls ls' : Array Slot} {rest : List Value} (hexec : p.tables.exec = Jvm.exec) (hb : c.code = cc) {i : Fin 4} {x : Nat} (hdg : decode cc pc = .ok (.astore_n i, 1)) (he : storeLocals ls (i : Nat) (.ref x) = some ls') (kk : W p l e R s m args below meth c H locs cells slots Q (F0 m (pc + 1) ls' rest)) : W p l e R s m args below meth c H locs cells slots Q (F0 m pc ls (.ref x :: rest)) := by
  intro T hT X
  obtain ⟨t, a, b⟩ := kk T hT X
  refine ⟨t, ?_, b⟩
  jvm_step X.here [X.here.top, ↓top_set X.here.top, hexec, hb, hdg, he]
  first | exact a | exact ⟨rfl, a⟩
theorem WstA {p : Program} {l : Launch} {e : Env} {R : Room} {s : State} {m : MethodId} {args : Array Value} {below : List Frame} {meth : Method} {c : Code} {H : Heap} {locs : List Loc} {cells slots : Nat} {Q : State → Prop} {cc : ByteArray} {pc : Nat} {ls ls' : Array Slot} {rest : List Value} (hexec : p.tables.exec = Jvm.exec) (hb : c.code = cc) {i : Nat} {x : Nat} (hdg : decode cc pc = .ok (.astore i, 2)) (he : storeLocals ls i (.ref x) = some ls') (kk : W p l e R s m args below meth c H locs cells slots Q (F0 m (pc + 2) ls' rest)) : W p l e R s m args below meth c H locs cells slots Q (F0 m pc ls (.ref x :: rest)) := by
  intro T hT X
  obtain ⟨t, a, b⟩ := kk T hT X
  refine ⟨t, ?_, b⟩
  jvm_step X.here [X.here.top, ↓top_set X.here.top, hexec, hb, hdg, he]
  first | exact a | exact ⟨rfl, a⟩
theorem WstN_n {p : Program} {l : Launch} {e : Env} {R : Room} {s : State} {m : MethodId} {args : Array Value} {below : List Frame} {meth : Method} {c : Code} {H : Heap} {locs : List Loc} {cells slots : Nat} {Q : State → Prop} {cc : ByteArray} {pc : Nat} {ls ls' : Array Slot} {rest : List Value} (hexec : p.tables.exec = Jvm.exec) (hb : c.code = cc) {i : Fin 4}  (hdg : decode cc pc = .ok (.astore_n i, 1)) (he : storeLocals ls (i : Nat) (.null) = some ls') (kk : W p l e R s m args below meth c H locs cells slots Q (F0 m (pc + 1) ls' rest)) : W p l e R s m args below meth c H locs cells slots Q (F0 m pc ls (.null :: rest)) := by
  intro T hT X
  obtain ⟨t, a, b⟩ := kk T hT X
  refine ⟨t, ?_, b⟩
  jvm_step X.here [X.here.top, ↓top_set X.here.top, hexec, hb, hdg, he]
  first | exact a | exact ⟨rfl, a⟩
theorem WstN {p : Program} {l : Launch} {e : Env} {R : Room} {s : State} {m : MethodId} {args : Array Value} {below : List Frame} {meth : Method} {c : Code} {H : Heap} {locs : List Loc} {cells slots : Nat} {Q : State → Prop} {cc : ByteArray} {pc : Nat} {ls ls' : Array Slot} {rest : List Value} (hexec : p.tables.exec = Jvm.exec) (hb : c.code = cc) {i : Nat}  (hdg : decode cc pc = .ok (.astore i, 2)) (he : storeLocals ls i (.null) = some ls') (kk : W p l e R s m args below meth c H locs cells slots Q (F0 m (pc + 2) ls' rest)) : W p l e R s m args below meth c H locs cells slots Q (F0 m pc ls (.null :: rest)) := by
  intro T hT X
  obtain ⟨t, a, b⟩ := kk T hT X
  refine ⟨t, ?_, b⟩
  jvm_step X.here [X.here.top, ↓top_set X.here.top, hexec, hb, hdg, he]
  first | exact a | exact ⟨rfl, a⟩
theorem r_istore_n {G : GT} {l : Launch} {R : Room} {cc : ByteArray} {nL : Nat} {own mn : String} {tb : List ExceptionTableEntry} {J : JT} {X : XT} (C : Cx G l R cc nL own mn tb J X) {pc : Nat} {lv : List (Option Value)} {st : List Value} {S : ST} {A : AB} {k n : Nat} {i : Fin 4} {z : Int} {lv' : List (Option Value)} (d : decode cc pc = .ok (.istore_n i, 1)) (h : LSt lv (i : Nat) (vI z) lv') (kk : J (pc + 1) lv' st S A k n) : J pc lv (vI z :: st) S A k n := by
  obtain ⟨p, e, s, m, args, below, meth, c, Al, Q, rfl, rfl, hx, hb, hml, hown, hts, hG, hAl, hfl, hmn, htb⟩ := C
  intro H locs ls hl hw hs
  obtain ⟨ls', he, hl'⟩ := h ls nL hl
  exact WstI_n hx hb d he (kk H locs ls' hl' hw hs)
theorem r_istore {G : GT} {l : Launch} {R : Room} {cc : ByteArray} {nL : Nat} {own mn : String} {tb : List ExceptionTableEntry} {J : JT} {X : XT} (C : Cx G l R cc nL own mn tb J X) {pc : Nat} {lv : List (Option Value)} {st : List Value} {S : ST} {A : AB} {k n : Nat} {i : Nat} {z : Int} {lv' : List (Option Value)} (d : decode cc pc = .ok (.istore i, 2)) (h : LSt lv i (vI z) lv') (kk : J (pc + 2) lv' st S A k n) : J pc lv (vI z :: st) S A k n := by
  obtain ⟨p, e, s, m, args, below, meth, c, Al, Q, rfl, rfl, hx, hb, hml, hown, hts, hG, hAl, hfl, hmn, htb⟩ := C
  intro H locs ls hl hw hs
  obtain ⟨ls', he, hl'⟩ := h ls nL hl
  exact WstI hx hb d he (kk H locs ls' hl' hw hs)
theorem r_lstore_n {G : GT} {l : Launch} {R : Room} {cc : ByteArray} {nL : Nat} {own mn : String} {tb : List ExceptionTableEntry} {J : JT} {X : XT} (C : Cx G l R cc nL own mn tb J X) {pc : Nat} {lv : List (Option Value)} {st : List Value} {S : ST} {A : AB} {k n : Nat} {i : Fin 4} {z : Int} {lv' : List (Option Value)} (d : decode cc pc = .ok (.lstore_n i, 1)) (h : LSt lv (i : Nat) (vL z) lv') (kk : J (pc + 1) lv' st S A k n) : J pc lv (vL z :: st) S A k n := by
  obtain ⟨p, e, s, m, args, below, meth, c, Al, Q, rfl, rfl, hx, hb, hml, hown, hts, hG, hAl, hfl, hmn, htb⟩ := C
  intro H locs ls hl hw hs
  obtain ⟨ls', he, hl'⟩ := h ls nL hl
  exact WstL_n hx hb d he (kk H locs ls' hl' hw hs)
theorem r_lstore {G : GT} {l : Launch} {R : Room} {cc : ByteArray} {nL : Nat} {own mn : String} {tb : List ExceptionTableEntry} {J : JT} {X : XT} (C : Cx G l R cc nL own mn tb J X) {pc : Nat} {lv : List (Option Value)} {st : List Value} {S : ST} {A : AB} {k n : Nat} {i : Nat} {z : Int} {lv' : List (Option Value)} (d : decode cc pc = .ok (.lstore i, 2)) (h : LSt lv i (vL z) lv') (kk : J (pc + 2) lv' st S A k n) : J pc lv (vL z :: st) S A k n := by
  obtain ⟨p, e, s, m, args, below, meth, c, Al, Q, rfl, rfl, hx, hb, hml, hown, hts, hG, hAl, hfl, hmn, htb⟩ := C
  intro H locs ls hl hw hs
  obtain ⟨ls', he, hl'⟩ := h ls nL hl
  exact WstL hx hb d he (kk H locs ls' hl' hw hs)
theorem r_astore_n {G : GT} {l : Launch} {R : Room} {cc : ByteArray} {nL : Nat} {own mn : String} {tb : List ExceptionTableEntry} {J : JT} {X : XT} (C : Cx G l R cc nL own mn tb J X) {pc : Nat} {lv : List (Option Value)} {st : List Value} {S : ST} {A : AB} {k n : Nat} {i : Fin 4} {kd : Nat} {z : Int} {lv' : List (Option Value)} (d : decode cc pc = .ok (.astore_n i, 1)) (h : LSt lv (i : Nat) (vR A kd z) lv') (kk : J (pc + 1) lv' st S A k n) : J pc lv (vR A kd z :: st) S A k n := by
  obtain ⟨p, e, s, m, args, below, meth, c, Al, Q, rfl, rfl, hx, hb, hml, hown, hts, hG, hAl, hfl, hmn, htb⟩ := C
  intro H locs ls hl hw hs
  obtain ⟨ls', he, hl'⟩ := h ls nL hl
  rcases h9 : rfo A kd z with _ | a
  · have e : vR A kd z = .null := by unfold vR; rw [h9]; rfl
    rw [e] at he ⊢
    exact WstN_n hx hb d he (kk H locs ls' hl' hw hs)
  · have e : vR A kd z = .ref a := by unfold vR; rw [h9]; rfl
    rw [e] at he ⊢
    exact WstA_n hx hb d he (kk H locs ls' hl' hw hs)
theorem r_astore {G : GT} {l : Launch} {R : Room} {cc : ByteArray} {nL : Nat} {own mn : String} {tb : List ExceptionTableEntry} {J : JT} {X : XT} (C : Cx G l R cc nL own mn tb J X) {pc : Nat} {lv : List (Option Value)} {st : List Value} {S : ST} {A : AB} {k n : Nat} {i : Nat} {kd : Nat} {z : Int} {lv' : List (Option Value)} (d : decode cc pc = .ok (.astore i, 2)) (h : LSt lv i (vR A kd z) lv') (kk : J (pc + 2) lv' st S A k n) : J pc lv (vR A kd z :: st) S A k n := by
  obtain ⟨p, e, s, m, args, below, meth, c, Al, Q, rfl, rfl, hx, hb, hml, hown, hts, hG, hAl, hfl, hmn, htb⟩ := C
  intro H locs ls hl hw hs
  obtain ⟨ls', he, hl'⟩ := h ls nL hl
  rcases h9 : rfo A kd z with _ | a
  · have e : vR A kd z = .null := by unfold vR; rw [h9]; rfl
    rw [e] at he ⊢
    exact WstN hx hb d he (kk H locs ls' hl' hw hs)
  · have e : vR A kd z = .ref a := by unfold vR; rw [h9]; rfl
    rw [e] at he ⊢
    exact WstA hx hb d he (kk H locs ls' hl' hw hs)
theorem r_astoreq_n {G : GT} {l : Launch} {R : Room} {cc : ByteArray} {nL : Nat} {own mn : String} {tb : List ExceptionTableEntry} {J : JT} {X : XT} (C : Cx G l R cc nL own mn tb J X) {pc : Nat} {lv : List (Option Value)} {st : List Value} {S : ST} {A : AB} {k n : Nat} {i : Fin 4} {q : Nat} {lv' : List (Option Value)} (d : decode cc pc = .ok (.astore_n i, 1)) (h : LSt lv (i : Nat) (.ref q) lv') (kk : J (pc + 1) lv' st S A k n) : J pc lv (.ref q :: st) S A k n := by
  obtain ⟨p, e, s, m, args, below, meth, c, Al, Q, rfl, rfl, hx, hb, hml, hown, hts, hG, hAl, hfl, hmn, htb⟩ := C
  intro H locs ls hl hw hs
  obtain ⟨ls', he, hl'⟩ := h ls nL hl
  exact WstA_n hx hb d he (kk H locs ls' hl' hw hs)
theorem r_astoreq {G : GT} {l : Launch} {R : Room} {cc : ByteArray} {nL : Nat} {own mn : String} {tb : List ExceptionTableEntry} {J : JT} {X : XT} (C : Cx G l R cc nL own mn tb J X) {pc : Nat} {lv : List (Option Value)} {st : List Value} {S : ST} {A : AB} {k n : Nat} {i : Nat} {q : Nat} {lv' : List (Option Value)} (d : decode cc pc = .ok (.astore i, 2)) (h : LSt lv i (.ref q) lv') (kk : J (pc + 2) lv' st S A k n) : J pc lv (.ref q :: st) S A k n := by
  obtain ⟨p, e, s, m, args, below, meth, c, Al, Q, rfl, rfl, hx, hb, hml, hown, hts, hG, hAl, hfl, hmn, htb⟩ := C
  intro H locs ls hl hw hs
  obtain ⟨ls', he, hl'⟩ := h ls nL hl
  exact WstA hx hb d he (kk H locs ls' hl' hw hs)
theorem Wiinc {p : Program} {l : Launch} {e : Env} {R : Room} {s : State} {m : MethodId} {args : Array Value} {below : List Frame} {meth : Method} {c : Code} {H : Heap} {locs : List Loc} {cells slots : Nat} {Q : State → Prop} {cc : ByteArray} {pc : Nat} {ls ls' : Array Slot} {rest : List Value} (hexec : p.tables.exec = Jvm.exec) (hb : c.code = cc) {i : Nat} {x : Int32} {d : Int} (hdg : decode cc pc = .ok (.iinc i d, 3)) (hg : ls[i]? = some (.val (.int x))) (he : storeLocals ls i (.int (x + Int32.ofInt d)) = some ls') (kk : W p l e R s m args below meth c H locs cells slots Q (F0 m (pc + 3) ls' rest)) : W p l e R s m args below meth c H locs cells slots Q (F0 m pc ls rest) := by
  intro T hT X
  obtain ⟨t, a, b⟩ := kk T hT X
  refine ⟨t, ?_, b⟩
  jvm_step X.here [X.here.top, ↓top_set X.here.top, hexec, hb, hdg, hg, he]
  exact a
theorem r_iinc {G : GT} {l : Launch} {R : Room} {cc : ByteArray} {nL : Nat} {own mn : String} {tb : List ExceptionTableEntry} {J : JT} {X : XT} (C : Cx G l R cc nL own mn tb J X) {pc : Nat} {lv : List (Option Value)} {st : List Value} {S : ST} {A : AB} {k n : Nat} {i : Nat} {z dz : Int} {lv' : List (Option Value)} (d : decode cc pc = .ok (.iinc i dz, 3)) (h : lv[i]? = some (some (vI z))) (h' : LSt lv i (vI (z + dz)) lv') (kk : J (pc + 3) lv' st S A k n) : J pc lv st S A k n := by
  obtain ⟨p, e, s, m, args, below, meth, c, Al, Q, rfl, rfl, hx, hb, hml, hown, hts, hG, hAl, hfl, hmn, htb⟩ := C
  intro H locs ls hl hw hs
  obtain ⟨ls', he, hl'⟩ := h' ls nL hl
  exact Wiinc hx hb d (hl.2.2.2 _ _ h) (by rw [show iI z + Int32.ofInt dz = iI (z + dz) from iI_add z dz]; exact he) (kk H locs ls' hl' hw hs)
def lle : List (Option Value) → List (Option Value) → Prop
  | [], [] => True
  | a :: t, b :: u => (b = none ∨ b = a) ∧ lle t u
  | _, _ => False
theorem lle_len : ∀ (a b : List (Option Value)), lle a b → a.length = b.length
  | [], [], _ => rfl
  | [], _ :: _, h => by cases h
  | _ :: _, [], h => by cases h
  | _ :: t, _ :: u, h => by rw [List.length_cons, List.length_cons, lle_len t u h.2]
theorem lle_at : ∀ (a b : List (Option Value)), lle a b → ∀ (i : Nat) (v : Value), b[i]? = some (some v) → a[i]? = some (some v)
  | [], [], _, i, v, h => by cases h
  | [], _ :: _, h, _, _, _ => by cases h
  | _ :: _, [], h, _, _, _ => by cases h
  | x :: t, y :: u, h, i, v, hi => by
    cases i with
    | zero =>
      rcases h.1 with e | e
      · rw [e] at hi; cases hi
      · rw [e] at hi; exact hi
    | succ i => exact lle_at t u h.2 i v hi
theorem LH.le {ls : Array Slot} {nL : Nat} {a b : List (Option Value)} (h : LH ls nL a) (hab : lle a b) : LH ls nL b := ⟨h.1, h.2.1, (lle_len a b hab).symm.trans h.2.2.1, fun i v hi => h.2.2.2 i v (lle_at a b hab i v hi)⟩
theorem lle_0 : lle [] [] := trivial
theorem lle_k {o : Option Value} {t u : List (Option Value)} (h : lle t u) : lle (o :: t) (o :: u) := ⟨Or.inr rfl, h⟩
theorem lle_f {o : Option Value} {t u : List (Option Value)} (h : lle t u) : lle (o :: t) (none :: u) := ⟨Or.inl rfl, h⟩
theorem lle_r : ∀ (a : List (Option Value)), lle a a
  | [] => trivial
  | _ :: t => ⟨Or.inr rfl, lle_r t⟩
theorem r_le {G : GT} {l : Launch} {R : Room} {cc : ByteArray} {nL : Nat} {own mn : String} {tb : List ExceptionTableEntry} {J : JT} {X : XT} (C : Cx G l R cc nL own mn tb J X) {pc : Nat} {lv : List (Option Value)} {st : List Value} {S : ST} {A : AB} {k n : Nat} {lv' : List (Option Value)} (h : lle lv lv') (kk : J pc lv' st S A k n) : J pc lv st S A k n := by
  obtain ⟨p, e, s, m, args, below, meth, c, Al, Q, rfl, rfl, hx, hb, hml, hown, hts, hG, hAl, hfl, hmn, htb⟩ := C
  intro H locs ls hl hw hs
  exact kk H locs ls (hl.le h) hw hs
theorem r_wide {G : GT} {l : Launch} {R : Room} {cc : ByteArray} {nL : Nat} {own mn : String} {tb : List ExceptionTableEntry} {J : JT} {X : XT} (C : Cx G l R cc nL own mn tb J X) {pc : Nat} {lv : List (Option Value)} {st : List Value} {S : ST} {A : AB} {k n : Nat} {k' n' : Nat} (h1 : k ≤ k') (h2 : n ≤ n') (kk : J pc lv st S A k' n') : J pc lv st S A k n := by
  obtain ⟨p, e, s, m, args, below, meth, c, Al, Q, rfl, rfl, hx, hb, hml, hown, hts, hG, hAl, hfl, hmn, htb⟩ := C
  intro H locs ls hl hw hs
  exact W.widen h1 h2 (kk H locs ls hl hw hs)
theorem r_wt {G : GT} {l : Launch} {R : Room} {cc : ByteArray} {nL : Nat} {own mn : String} {tb : List ExceptionTableEntry} {J : JT} {X : XT} (C : Cx G l R cc nL own mn tb J X) {pc : Nat} {lv : List (Option Value)} {st : List Value} {S : ST} {A : AB} {k n : Nat} (kk : WT S A → AI A → J pc lv st S A k n) : J pc lv st S A k n := by
  obtain ⟨p, e, s, m, args, below, meth, c, Al, Q, rfl, rfl, hx, hb, hml, hown, hts, hG, hAl, hfl, hmn, htb⟩ := C
  intro H locs ls hl hw hs
  exact kk hw.wt.1 hw.wt.2 H locs ls hl hw hs
theorem r_iadd {G : GT} {l : Launch} {R : Room} {cc : ByteArray} {nL : Nat} {own mn : String} {tb : List ExceptionTableEntry} {J : JT} {X : XT} (C : Cx G l R cc nL own mn tb J X) {pc : Nat} {lv : List (Option Value)} {st : List Value} {S : ST} {A : AB} {k n : Nat} {x y : Int} (d : decode cc pc = .ok (.iadd, 1)) (kk : J (pc + 1) lv (vI (x + y) :: st) S A k n) : J pc lv (vI y :: vI x :: st) S A k n := by
  obtain ⟨p, e, s, m, args, below, meth, c, Al, Q, rfl, rfl, hx, hb, hml, hown, hts, hG, hAl, hfl, hmn, htb⟩ := C
  intro H locs ls hl hw hs
  refine lv_iadd hx hb d ?_
  rw [iI_add]
  exact kk H locs ls hl hw hs
theorem r_isub {G : GT} {l : Launch} {R : Room} {cc : ByteArray} {nL : Nat} {own mn : String} {tb : List ExceptionTableEntry} {J : JT} {X : XT} (C : Cx G l R cc nL own mn tb J X) {pc : Nat} {lv : List (Option Value)} {st : List Value} {S : ST} {A : AB} {k n : Nat} {x y : Int} (d : decode cc pc = .ok (.isub, 1)) (kk : J (pc + 1) lv (vI (x - y) :: st) S A k n) : J pc lv (vI y :: vI x :: st) S A k n := by
  obtain ⟨p, e, s, m, args, below, meth, c, Al, Q, rfl, rfl, hx, hb, hml, hown, hts, hG, hAl, hfl, hmn, htb⟩ := C
  intro H locs ls hl hw hs
  refine lv_isub hx hb d ?_
  rw [iI_sub]
  exact kk H locs ls hl hw hs
theorem r_imul {G : GT} {l : Launch} {R : Room} {cc : ByteArray} {nL : Nat} {own mn : String} {tb : List ExceptionTableEntry} {J : JT} {X : XT} (C : Cx G l R cc nL own mn tb J X) {pc : Nat} {lv : List (Option Value)} {st : List Value} {S : ST} {A : AB} {k n : Nat} {x y : Int} (d : decode cc pc = .ok (.imul, 1)) (kk : J (pc + 1) lv (vI (x * y) :: st) S A k n) : J pc lv (vI y :: vI x :: st) S A k n := by
  obtain ⟨p, e, s, m, args, below, meth, c, Al, Q, rfl, rfl, hx, hb, hml, hown, hts, hG, hAl, hfl, hmn, htb⟩ := C
  intro H locs ls hl hw hs
  refine lv_imul hx hb d ?_
  rw [iI_mul]
  exact kk H locs ls hl hw hs
theorem r_ladd {G : GT} {l : Launch} {R : Room} {cc : ByteArray} {nL : Nat} {own mn : String} {tb : List ExceptionTableEntry} {J : JT} {X : XT} (C : Cx G l R cc nL own mn tb J X) {pc : Nat} {lv : List (Option Value)} {st : List Value} {S : ST} {A : AB} {k n : Nat} {x y : Int} (d : decode cc pc = .ok (.ladd, 1)) (kk : J (pc + 1) lv (vL (x + y) :: st) S A k n) : J pc lv (vL y :: vL x :: st) S A k n := by
  obtain ⟨p, e, s, m, args, below, meth, c, Al, Q, rfl, rfl, hx, hb, hml, hown, hts, hG, hAl, hfl, hmn, htb⟩ := C
  intro H locs ls hl hw hs
  refine lv_ladd hx hb d ?_
  rw [lI_add]
  exact kk H locs ls hl hw hs
theorem r_lsub {G : GT} {l : Launch} {R : Room} {cc : ByteArray} {nL : Nat} {own mn : String} {tb : List ExceptionTableEntry} {J : JT} {X : XT} (C : Cx G l R cc nL own mn tb J X) {pc : Nat} {lv : List (Option Value)} {st : List Value} {S : ST} {A : AB} {k n : Nat} {x y : Int} (d : decode cc pc = .ok (.lsub, 1)) (kk : J (pc + 1) lv (vL (x - y) :: st) S A k n) : J pc lv (vL y :: vL x :: st) S A k n := by
  obtain ⟨p, e, s, m, args, below, meth, c, Al, Q, rfl, rfl, hx, hb, hml, hown, hts, hG, hAl, hfl, hmn, htb⟩ := C
  intro H locs ls hl hw hs
  refine lv_lsub hx hb d ?_
  rw [lI_sub]
  exact kk H locs ls hl hw hs
theorem r_lmul {G : GT} {l : Launch} {R : Room} {cc : ByteArray} {nL : Nat} {own mn : String} {tb : List ExceptionTableEntry} {J : JT} {X : XT} (C : Cx G l R cc nL own mn tb J X) {pc : Nat} {lv : List (Option Value)} {st : List Value} {S : ST} {A : AB} {k n : Nat} {x y : Int} (d : decode cc pc = .ok (.lmul, 1)) (kk : J (pc + 1) lv (vL (x * y) :: st) S A k n) : J pc lv (vL y :: vL x :: st) S A k n := by
  obtain ⟨p, e, s, m, args, below, meth, c, Al, Q, rfl, rfl, hx, hb, hml, hown, hts, hG, hAl, hfl, hmn, htb⟩ := C
  intro H locs ls hl hw hs
  refine lv_lmul hx hb d ?_
  rw [lI_mul]
  exact kk H locs ls hl hw hs
theorem r_ineg {G : GT} {l : Launch} {R : Room} {cc : ByteArray} {nL : Nat} {own mn : String} {tb : List ExceptionTableEntry} {J : JT} {X : XT} (C : Cx G l R cc nL own mn tb J X) {pc : Nat} {lv : List (Option Value)} {st : List Value} {S : ST} {A : AB} {k n : Nat} {x : Int} (d : decode cc pc = .ok (.ineg, 1)) (kk : J (pc + 1) lv (vI (-x) :: st) S A k n) : J pc lv (vI x :: st) S A k n := by
  obtain ⟨p, e, s, m, args, below, meth, c, Al, Q, rfl, rfl, hx, hb, hml, hown, hts, hG, hAl, hfl, hmn, htb⟩ := C
  intro H locs ls hl hw hs
  refine lv_ineg hx hb d ?_
  rw [iI_neg]
  exact kk H locs ls hl hw hs
theorem r_idiv {G : GT} {l : Launch} {R : Room} {cc : ByteArray} {nL : Nat} {own mn : String} {tb : List ExceptionTableEntry} {J : JT} {X : XT} (C : Cx G l R cc nL own mn tb J X) {pc : Nat} {lv : List (Option Value)} {st : List Value} {S : ST} {A : AB} {k n : Nat} {x y : Int} (d : decode cc pc = .ok (.idiv, 1)) (h1 : rI x) (h2 : 0 ≤ x) (h3 : rI y) (h4 : 0 < y) (kk : J (pc + 1) lv (vI (x / y) :: st) S A k n) : J pc lv (vI y :: vI x :: st) S A k n := by
  obtain ⟨p, e, s, m, args, below, meth, c, Al, Q, rfl, rfl, hx, hb, hml, hown, hts, hG, hAl, hfl, hmn, htb⟩ := C
  intro H locs ls hl hw hs
  refine lv_idiv hx hb d (iI_ne0 h3 (by omega)) ?_
  rw [iI_div h1 h2 h3 h4]
  exact kk H locs ls hl hw hs
theorem r_ldiv {G : GT} {l : Launch} {R : Room} {cc : ByteArray} {nL : Nat} {own mn : String} {tb : List ExceptionTableEntry} {J : JT} {X : XT} (C : Cx G l R cc nL own mn tb J X) {pc : Nat} {lv : List (Option Value)} {st : List Value} {S : ST} {A : AB} {k n : Nat} {x y : Int} (d : decode cc pc = .ok (.ldiv, 1)) (h1 : rL x) (h2 : 0 ≤ x) (h3 : rL y) (h4 : 0 < y) (kk : J (pc + 1) lv (vL (x / y) :: st) S A k n) : J pc lv (vL y :: vL x :: st) S A k n := by
  obtain ⟨p, e, s, m, args, below, meth, c, Al, Q, rfl, rfl, hx, hb, hml, hown, hts, hG, hAl, hfl, hmn, htb⟩ := C
  intro H locs ls hl hw hs
  refine lv_ldiv hx hb d (lI_ne0 h3 (by omega)) ?_
  rw [lI_div h1 h2 h3 h4]
  exact kk H locs ls hl hw hs
theorem r_lrem {G : GT} {l : Launch} {R : Room} {cc : ByteArray} {nL : Nat} {own mn : String} {tb : List ExceptionTableEntry} {J : JT} {X : XT} (C : Cx G l R cc nL own mn tb J X) {pc : Nat} {lv : List (Option Value)} {st : List Value} {S : ST} {A : AB} {k n : Nat} {x y : Int} (d : decode cc pc = .ok (.lrem, 1)) (h1 : rL x) (h2 : 0 ≤ x) (h3 : rL y) (h4 : 0 < y) (kk : J (pc + 1) lv (vL (x % y) :: st) S A k n) : J pc lv (vL y :: vL x :: st) S A k n := by
  obtain ⟨p, e, s, m, args, below, meth, c, Al, Q, rfl, rfl, hx, hb, hml, hown, hts, hG, hAl, hfl, hmn, htb⟩ := C
  intro H locs ls hl hw hs
  refine lv_lrem hx hb d (lI_ne0 h3 (by omega)) ?_
  rw [lI_rem h1 h2 h3 h4]
  exact kk H locs ls hl hw hs
theorem r_i2l {G : GT} {l : Launch} {R : Room} {cc : ByteArray} {nL : Nat} {own mn : String} {tb : List ExceptionTableEntry} {J : JT} {X : XT} (C : Cx G l R cc nL own mn tb J X) {pc : Nat} {lv : List (Option Value)} {st : List Value} {S : ST} {A : AB} {k n : Nat} {x : Int} (d : decode cc pc = .ok (.i2l, 1)) (h : rI x) (kk : J (pc + 1) lv (vL x :: st) S A k n) : J pc lv (vI x :: st) S A k n := by
  obtain ⟨p, e, s, m, args, below, meth, c, Al, Q, rfl, rfl, hx, hb, hml, hown, hts, hG, hAl, hfl, hmn, htb⟩ := C
  intro H locs ls hl hw hs
  exact lv_i2l hx hb d (iI_l h) (kk H locs ls hl hw hs)
theorem r_l2i {G : GT} {l : Launch} {R : Room} {cc : ByteArray} {nL : Nat} {own mn : String} {tb : List ExceptionTableEntry} {J : JT} {X : XT} (C : Cx G l R cc nL own mn tb J X) {pc : Nat} {lv : List (Option Value)} {st : List Value} {S : ST} {A : AB} {k n : Nat} {x : Int} (d : decode cc pc = .ok (.l2i, 1)) (kk : J (pc + 1) lv (vI x :: st) S A k n) : J pc lv (vL x :: st) S A k n := by
  obtain ⟨p, e, s, m, args, below, meth, c, Al, Q, rfl, rfl, hx, hb, hml, hown, hts, hG, hAl, hfl, hmn, htb⟩ := C
  intro H locs ls hl hw hs
  exact lv_l2i hx hb d (lI_i x) (kk H locs ls hl hw hs)
def fLshr (x y : Int) : Int := (lI x >>> ((iI y).toInt64 &&& 63)).toInt
def fLshl (x y : Int) : Int := (lI x <<< ((iI y).toInt64 &&& 63)).toInt
def fLushr (x y : Int) : Int := (((lI x).toUInt64 >>> ((iI y).toInt64.toUInt64 &&& Int64.toUInt64 63)).toInt64).toInt
def fLand (x y : Int) : Int := (lI x &&& lI y).toInt
def fLor (x y : Int) : Int := (lI x ||| lI y).toInt
def fIand (x y : Int) : Int := (iI x &&& iI y).toInt
theorem r_lshr {G : GT} {l : Launch} {R : Room} {cc : ByteArray} {nL : Nat} {own mn : String} {tb : List ExceptionTableEntry} {J : JT} {X : XT} (C : Cx G l R cc nL own mn tb J X) {pc : Nat} {lv : List (Option Value)} {st : List Value} {S : ST} {A : AB} {k n : Nat} {x y : Int} (d : decode cc pc = .ok (.lshr, 1)) (kk : rL (fLshr x y) → J (pc + 1) lv (vL (fLshr x y) :: st) S A k n) : J pc lv (vI y :: vL x :: st) S A k n := by
  obtain ⟨p, e, s, m, args, below, meth, c, Al, Q, rfl, rfl, hx, hb, hml, hown, hts, hG, hAl, hfl, hmn, htb⟩ := C
  intro H locs ls hl hw hs
  exact lv_lshr hx hb d (lI_of _).1 (kk (lI_of _).2 H locs ls hl hw hs)
theorem r_lshl {G : GT} {l : Launch} {R : Room} {cc : ByteArray} {nL : Nat} {own mn : String} {tb : List ExceptionTableEntry} {J : JT} {X : XT} (C : Cx G l R cc nL own mn tb J X) {pc : Nat} {lv : List (Option Value)} {st : List Value} {S : ST} {A : AB} {k n : Nat} {x y : Int} (d : decode cc pc = .ok (.lshl, 1)) (kk : rL (fLshl x y) → J (pc + 1) lv (vL (fLshl x y) :: st) S A k n) : J pc lv (vI y :: vL x :: st) S A k n := by
  obtain ⟨p, e, s, m, args, below, meth, c, Al, Q, rfl, rfl, hx, hb, hml, hown, hts, hG, hAl, hfl, hmn, htb⟩ := C
  intro H locs ls hl hw hs
  exact lv_lshl hx hb d (lI_of _).1 (kk (lI_of _).2 H locs ls hl hw hs)
theorem r_lushr {G : GT} {l : Launch} {R : Room} {cc : ByteArray} {nL : Nat} {own mn : String} {tb : List ExceptionTableEntry} {J : JT} {X : XT} (C : Cx G l R cc nL own mn tb J X) {pc : Nat} {lv : List (Option Value)} {st : List Value} {S : ST} {A : AB} {k n : Nat} {x y : Int} (d : decode cc pc = .ok (.lushr, 1)) (kk : rL (fLushr x y) → J (pc + 1) lv (vL (fLushr x y) :: st) S A k n) : J pc lv (vI y :: vL x :: st) S A k n := by
  obtain ⟨p, e, s, m, args, below, meth, c, Al, Q, rfl, rfl, hx, hb, hml, hown, hts, hG, hAl, hfl, hmn, htb⟩ := C
  intro H locs ls hl hw hs
  exact lv_lushr hx hb d (lI_of _).1 (kk (lI_of _).2 H locs ls hl hw hs)
theorem r_land {G : GT} {l : Launch} {R : Room} {cc : ByteArray} {nL : Nat} {own mn : String} {tb : List ExceptionTableEntry} {J : JT} {X : XT} (C : Cx G l R cc nL own mn tb J X) {pc : Nat} {lv : List (Option Value)} {st : List Value} {S : ST} {A : AB} {k n : Nat} {x y : Int} (d : decode cc pc = .ok (.land, 1)) (kk : rL (fLand x y) → J (pc + 1) lv (vL (fLand x y) :: st) S A k n) : J pc lv (vL y :: vL x :: st) S A k n := by
  obtain ⟨p, e, s, m, args, below, meth, c, Al, Q, rfl, rfl, hx, hb, hml, hown, hts, hG, hAl, hfl, hmn, htb⟩ := C
  intro H locs ls hl hw hs
  refine lv_land hx hb d ?_
  rw [(lI_of (lI x &&& lI y)).1]
  exact kk (lI_of _).2 H locs ls hl hw hs
theorem r_lor {G : GT} {l : Launch} {R : Room} {cc : ByteArray} {nL : Nat} {own mn : String} {tb : List ExceptionTableEntry} {J : JT} {X : XT} (C : Cx G l R cc nL own mn tb J X) {pc : Nat} {lv : List (Option Value)} {st : List Value} {S : ST} {A : AB} {k n : Nat} {x y : Int} (d : decode cc pc = .ok (.lor, 1)) (kk : rL (fLor x y) → J (pc + 1) lv (vL (fLor x y) :: st) S A k n) : J pc lv (vL y :: vL x :: st) S A k n := by
  obtain ⟨p, e, s, m, args, below, meth, c, Al, Q, rfl, rfl, hx, hb, hml, hown, hts, hG, hAl, hfl, hmn, htb⟩ := C
  intro H locs ls hl hw hs
  refine lv_lor hx hb d ?_
  rw [(lI_of (lI x ||| lI y)).1]
  exact kk (lI_of _).2 H locs ls hl hw hs
theorem r_iand {G : GT} {l : Launch} {R : Room} {cc : ByteArray} {nL : Nat} {own mn : String} {tb : List ExceptionTableEntry} {J : JT} {X : XT} (C : Cx G l R cc nL own mn tb J X) {pc : Nat} {lv : List (Option Value)} {st : List Value} {S : ST} {A : AB} {k n : Nat} {x y : Int} (d : decode cc pc = .ok (.iand, 1)) (kk : rI (fIand x y) → J (pc + 1) lv (vI (fIand x y) :: st) S A k n) : J pc lv (vI y :: vI x :: st) S A k n := by
  obtain ⟨p, e, s, m, args, below, meth, c, Al, Q, rfl, rfl, hx, hb, hml, hown, hts, hG, hAl, hfl, hmn, htb⟩ := C
  intro H locs ls hl hw hs
  refine lv_iand hx hb d ?_
  rw [(iI_of (iI x &&& iI y)).1]
  exact kk (iI_of _).2 H locs ls hl hw hs
theorem r_lcmp {G : GT} {l : Launch} {R : Room} {cc : ByteArray} {nL : Nat} {own mn : String} {tb : List ExceptionTableEntry} {J : JT} {X : XT} (C : Cx G l R cc nL own mn tb J X) {pc : Nat} {lv : List (Option Value)} {st : List Value} {S : ST} {A : AB} {k n : Nat} {x y : Int} (d : decode cc pc = .ok (.lcmp, 1)) (h1 : rL x) (h2 : rL y) (kk : J (pc + 1) lv (vI (cmpZ x y) :: st) S A k n) : J pc lv (vL y :: vL x :: st) S A k n := by
  obtain ⟨p, e, s, m, args, below, meth, c, Al, Q, rfl, rfl, hx, hb, hml, hown, hts, hG, hAl, hfl, hmn, htb⟩ := C
  intro H locs ls hl hw hs
  refine W.lcmp hx hb d ?_
  rw [lg_cmpZ h1 h2]
  exact kk H locs ls hl hw hs
theorem r_dup {G : GT} {l : Launch} {R : Room} {cc : ByteArray} {nL : Nat} {own mn : String} {tb : List ExceptionTableEntry} {J : JT} {X : XT} (C : Cx G l R cc nL own mn tb J X) {pc : Nat} {lv : List (Option Value)} {st : List Value} {S : ST} {A : AB} {k n : Nat} {v : Value} (d : decode cc pc = .ok (.dup, 1)) (hc : v.category = 1) (kk : J (pc + 1) lv (v :: v :: st) S A k n) : J pc lv (v :: st) S A k n := by
  obtain ⟨p, e, s, m, args, below, meth, c, Al, Q, rfl, rfl, hx, hb, hml, hown, hts, hG, hAl, hfl, hmn, htb⟩ := C
  intro H locs ls hl hw hs
  exact lv_dup hx hb d hc (kk H locs ls hl hw hs)
theorem r_dup2 {G : GT} {l : Launch} {R : Room} {cc : ByteArray} {nL : Nat} {own mn : String} {tb : List ExceptionTableEntry} {J : JT} {X : XT} (C : Cx G l R cc nL own mn tb J X) {pc : Nat} {lv : List (Option Value)} {st : List Value} {S : ST} {A : AB} {k n : Nat} {v w : Value} (d : decode cc pc = .ok (.dup2, 1)) (hv : v.category = 1) (hw' : w.category = 1) (kk : J (pc + 1) lv (v :: w :: v :: w :: st) S A k n) : J pc lv (v :: w :: st) S A k n := by
  obtain ⟨p, e, s, m, args, below, meth, c, Al, Q, rfl, rfl, hx, hb, hml, hown, hts, hG, hAl, hfl, hmn, htb⟩ := C
  intro H locs ls hl hw hs
  exact lv_dup2_11 hx hb d hv hw' (kk H locs ls hl hw hs)
theorem r_pop {G : GT} {l : Launch} {R : Room} {cc : ByteArray} {nL : Nat} {own mn : String} {tb : List ExceptionTableEntry} {J : JT} {X : XT} (C : Cx G l R cc nL own mn tb J X) {pc : Nat} {lv : List (Option Value)} {st : List Value} {S : ST} {A : AB} {k n : Nat} {v : Value} (d : decode cc pc = .ok (.pop, 1)) (hc : v.category = 1) (kk : J (pc + 1) lv st S A k n) : J pc lv (v :: st) S A k n := by
  obtain ⟨p, e, s, m, args, below, meth, c, Al, Q, rfl, rfl, hx, hb, hml, hown, hts, hG, hAl, hfl, hmn, htb⟩ := C
  intro H locs ls hl hw hs
  exact lv_pop hx hb d hc (kk H locs ls hl hw hs)
theorem r_ifeq {G : GT} {l : Launch} {R : Room} {cc : ByteArray} {nL : Nat} {own mn : String} {tb : List ExceptionTableEntry} {J : JT} {X : XT} (C : Cx G l R cc nL own mn tb J X) {pc : Nat} {lv : List (Option Value)} {st : List Value} {S : ST} {A : AB} {k n : Nat} {z : Int} {off : Int} {tgt : Nat} (d : decode cc pc = .ok (.ifCond .eq off, 3)) (ht : (pc : Int) + off = (tgt : Int)) (h : rI z) (kt : z = 0 → J tgt lv st S A k n) (kf : ¬ z = 0 → J (pc + 3) lv st S A k n) : J pc lv (vI z :: st) S A k n := by
  obtain ⟨p, e, s, m, args, below, meth, c, Al, Q, rfl, rfl, hx, hb, hml, hown, hts, hG, hAl, hfl, hmn, htb⟩ := C
  intro H locs ls hl hw hs
  exact lv_if_eq hx hb d ht (fun q => kt ((iI_eq h rI_0).mp q) H locs ls hl hw hs) (fun q => kf (fun q9 => q ((iI_eq h rI_0).mpr q9)) H locs ls hl hw hs)
theorem r_iflt {G : GT} {l : Launch} {R : Room} {cc : ByteArray} {nL : Nat} {own mn : String} {tb : List ExceptionTableEntry} {J : JT} {X : XT} (C : Cx G l R cc nL own mn tb J X) {pc : Nat} {lv : List (Option Value)} {st : List Value} {S : ST} {A : AB} {k n : Nat} {z : Int} {off : Int} {tgt : Nat} (d : decode cc pc = .ok (.ifCond .lt off, 3)) (ht : (pc : Int) + off = (tgt : Int)) (h : rI z) (kt : z < 0 → J tgt lv st S A k n) (kf : ¬ z < 0 → J (pc + 3) lv st S A k n) : J pc lv (vI z :: st) S A k n := by
  obtain ⟨p, e, s, m, args, below, meth, c, Al, Q, rfl, rfl, hx, hb, hml, hown, hts, hG, hAl, hfl, hmn, htb⟩ := C
  intro H locs ls hl hw hs
  exact lv_if_lt hx hb d ht (fun q => kt ((iI_lt h rI_0).mp q) H locs ls hl hw hs) (fun q => kf (fun q9 => q ((iI_lt h rI_0).mpr q9)) H locs ls hl hw hs)
theorem r_ifge {G : GT} {l : Launch} {R : Room} {cc : ByteArray} {nL : Nat} {own mn : String} {tb : List ExceptionTableEntry} {J : JT} {X : XT} (C : Cx G l R cc nL own mn tb J X) {pc : Nat} {lv : List (Option Value)} {st : List Value} {S : ST} {A : AB} {k n : Nat} {z : Int} {off : Int} {tgt : Nat} (d : decode cc pc = .ok (.ifCond .ge off, 3)) (ht : (pc : Int) + off = (tgt : Int)) (h : rI z) (kt : 0 ≤ z → J tgt lv st S A k n) (kf : ¬ 0 ≤ z → J (pc + 3) lv st S A k n) : J pc lv (vI z :: st) S A k n := by
  obtain ⟨p, e, s, m, args, below, meth, c, Al, Q, rfl, rfl, hx, hb, hml, hown, hts, hG, hAl, hfl, hmn, htb⟩ := C
  intro H locs ls hl hw hs
  exact lv_if_ge hx hb d ht (fun q => kt ((iI_le rI_0 h).mp q) H locs ls hl hw hs) (fun q => kf (fun q9 => q ((iI_le rI_0 h).mpr q9)) H locs ls hl hw hs)
theorem r_ifgt {G : GT} {l : Launch} {R : Room} {cc : ByteArray} {nL : Nat} {own mn : String} {tb : List ExceptionTableEntry} {J : JT} {X : XT} (C : Cx G l R cc nL own mn tb J X) {pc : Nat} {lv : List (Option Value)} {st : List Value} {S : ST} {A : AB} {k n : Nat} {z : Int} {off : Int} {tgt : Nat} (d : decode cc pc = .ok (.ifCond .gt off, 3)) (ht : (pc : Int) + off = (tgt : Int)) (h : rI z) (kt : 0 < z → J tgt lv st S A k n) (kf : ¬ 0 < z → J (pc + 3) lv st S A k n) : J pc lv (vI z :: st) S A k n := by
  obtain ⟨p, e, s, m, args, below, meth, c, Al, Q, rfl, rfl, hx, hb, hml, hown, hts, hG, hAl, hfl, hmn, htb⟩ := C
  intro H locs ls hl hw hs
  exact lv_if_gt hx hb d ht (fun q => kt ((iI_lt rI_0 h).mp q) H locs ls hl hw hs) (fun q => kf (fun q9 => q ((iI_lt rI_0 h).mpr q9)) H locs ls hl hw hs)
theorem r_ifle {G : GT} {l : Launch} {R : Room} {cc : ByteArray} {nL : Nat} {own mn : String} {tb : List ExceptionTableEntry} {J : JT} {X : XT} (C : Cx G l R cc nL own mn tb J X) {pc : Nat} {lv : List (Option Value)} {st : List Value} {S : ST} {A : AB} {k n : Nat} {z : Int} {off : Int} {tgt : Nat} (d : decode cc pc = .ok (.ifCond .le off, 3)) (ht : (pc : Int) + off = (tgt : Int)) (h : rI z) (kt : z ≤ 0 → J tgt lv st S A k n) (kf : ¬ z ≤ 0 → J (pc + 3) lv st S A k n) : J pc lv (vI z :: st) S A k n := by
  obtain ⟨p, e, s, m, args, below, meth, c, Al, Q, rfl, rfl, hx, hb, hml, hown, hts, hG, hAl, hfl, hmn, htb⟩ := C
  intro H locs ls hl hw hs
  exact lv_if_le hx hb d ht (fun q => kt ((iI_le h rI_0).mp q) H locs ls hl hw hs) (fun q => kf (fun q9 => q ((iI_le h rI_0).mpr q9)) H locs ls hl hw hs)
theorem r_ifne {G : GT} {l : Launch} {R : Room} {cc : ByteArray} {nL : Nat} {own mn : String} {tb : List ExceptionTableEntry} {J : JT} {X : XT} (C : Cx G l R cc nL own mn tb J X) {pc : Nat} {lv : List (Option Value)} {st : List Value} {S : ST} {A : AB} {k n : Nat} {z : Int} {off : Int} {tgt : Nat} (d : decode cc pc = .ok (.ifCond .ne off, 3)) (ht : (pc : Int) + off = (tgt : Int)) (h : rI z) (kt : ¬ z = 0 → J tgt lv st S A k n) (kf : z = 0 → J (pc + 3) lv st S A k n) : J pc lv (vI z :: st) S A k n := by
  obtain ⟨p, e, s, m, args, below, meth, c, Al, Q, rfl, rfl, hx, hb, hml, hown, hts, hG, hAl, hfl, hmn, htb⟩ := C
  intro H locs ls hl hw hs
  exact lv_if_ne hx hb d ht (fun q => kt (fun q9 => q ((iI_eq h rI_0).mpr q9)) H locs ls hl hw hs) (fun q => kf ((iI_eq h rI_0).mp q) H locs ls hl hw hs)
theorem r_iceq {G : GT} {l : Launch} {R : Room} {cc : ByteArray} {nL : Nat} {own mn : String} {tb : List ExceptionTableEntry} {J : JT} {X : XT} (C : Cx G l R cc nL own mn tb J X) {pc : Nat} {lv : List (Option Value)} {st : List Value} {S : ST} {A : AB} {k n : Nat} {x y : Int} {off : Int} {tgt : Nat} (d : decode cc pc = .ok (.if_icmp .eq off, 3)) (ht : (pc : Int) + off = (tgt : Int)) (h1 : rI x) (h2 : rI y) (kt : x = y → J tgt lv st S A k n) (kf : ¬ x = y → J (pc + 3) lv st S A k n) : J pc lv (vI y :: vI x :: st) S A k n := by
  obtain ⟨p, e, s, m, args, below, meth, c, Al, Q, rfl, rfl, hx, hb, hml, hown, hts, hG, hAl, hfl, hmn, htb⟩ := C
  intro H locs ls hl hw hs
  exact lv_icmp_eq hx hb d ht (fun q => kt ((iI_eq h1 h2).mp q) H locs ls hl hw hs) (fun q => kf (fun q9 => q ((iI_eq h1 h2).mpr q9)) H locs ls hl hw hs)
theorem r_iclt {G : GT} {l : Launch} {R : Room} {cc : ByteArray} {nL : Nat} {own mn : String} {tb : List ExceptionTableEntry} {J : JT} {X : XT} (C : Cx G l R cc nL own mn tb J X) {pc : Nat} {lv : List (Option Value)} {st : List Value} {S : ST} {A : AB} {k n : Nat} {x y : Int} {off : Int} {tgt : Nat} (d : decode cc pc = .ok (.if_icmp .lt off, 3)) (ht : (pc : Int) + off = (tgt : Int)) (h1 : rI x) (h2 : rI y) (kt : x < y → J tgt lv st S A k n) (kf : ¬ x < y → J (pc + 3) lv st S A k n) : J pc lv (vI y :: vI x :: st) S A k n := by
  obtain ⟨p, e, s, m, args, below, meth, c, Al, Q, rfl, rfl, hx, hb, hml, hown, hts, hG, hAl, hfl, hmn, htb⟩ := C
  intro H locs ls hl hw hs
  exact lv_icmp_lt hx hb d ht (fun q => kt ((iI_lt h1 h2).mp q) H locs ls hl hw hs) (fun q => kf (fun q9 => q ((iI_lt h1 h2).mpr q9)) H locs ls hl hw hs)
theorem r_icge {G : GT} {l : Launch} {R : Room} {cc : ByteArray} {nL : Nat} {own mn : String} {tb : List ExceptionTableEntry} {J : JT} {X : XT} (C : Cx G l R cc nL own mn tb J X) {pc : Nat} {lv : List (Option Value)} {st : List Value} {S : ST} {A : AB} {k n : Nat} {x y : Int} {off : Int} {tgt : Nat} (d : decode cc pc = .ok (.if_icmp .ge off, 3)) (ht : (pc : Int) + off = (tgt : Int)) (h1 : rI x) (h2 : rI y) (kt : y ≤ x → J tgt lv st S A k n) (kf : ¬ y ≤ x → J (pc + 3) lv st S A k n) : J pc lv (vI y :: vI x :: st) S A k n := by
  obtain ⟨p, e, s, m, args, below, meth, c, Al, Q, rfl, rfl, hx, hb, hml, hown, hts, hG, hAl, hfl, hmn, htb⟩ := C
  intro H locs ls hl hw hs
  exact lv_icmp_ge hx hb d ht (fun q => kt ((iI_le h2 h1).mp q) H locs ls hl hw hs) (fun q => kf (fun q9 => q ((iI_le h2 h1).mpr q9)) H locs ls hl hw hs)
theorem r_icgt {G : GT} {l : Launch} {R : Room} {cc : ByteArray} {nL : Nat} {own mn : String} {tb : List ExceptionTableEntry} {J : JT} {X : XT} (C : Cx G l R cc nL own mn tb J X) {pc : Nat} {lv : List (Option Value)} {st : List Value} {S : ST} {A : AB} {k n : Nat} {x y : Int} {off : Int} {tgt : Nat} (d : decode cc pc = .ok (.if_icmp .gt off, 3)) (ht : (pc : Int) + off = (tgt : Int)) (h1 : rI x) (h2 : rI y) (kt : y < x → J tgt lv st S A k n) (kf : ¬ y < x → J (pc + 3) lv st S A k n) : J pc lv (vI y :: vI x :: st) S A k n := by
  obtain ⟨p, e, s, m, args, below, meth, c, Al, Q, rfl, rfl, hx, hb, hml, hown, hts, hG, hAl, hfl, hmn, htb⟩ := C
  intro H locs ls hl hw hs
  exact lv_icmp_gt hx hb d ht (fun q => kt ((iI_lt h2 h1).mp q) H locs ls hl hw hs) (fun q => kf (fun q9 => q ((iI_lt h2 h1).mpr q9)) H locs ls hl hw hs)
theorem r_icle {G : GT} {l : Launch} {R : Room} {cc : ByteArray} {nL : Nat} {own mn : String} {tb : List ExceptionTableEntry} {J : JT} {X : XT} (C : Cx G l R cc nL own mn tb J X) {pc : Nat} {lv : List (Option Value)} {st : List Value} {S : ST} {A : AB} {k n : Nat} {x y : Int} {off : Int} {tgt : Nat} (d : decode cc pc = .ok (.if_icmp .le off, 3)) (ht : (pc : Int) + off = (tgt : Int)) (h1 : rI x) (h2 : rI y) (kt : x ≤ y → J tgt lv st S A k n) (kf : ¬ x ≤ y → J (pc + 3) lv st S A k n) : J pc lv (vI y :: vI x :: st) S A k n := by
  obtain ⟨p, e, s, m, args, below, meth, c, Al, Q, rfl, rfl, hx, hb, hml, hown, hts, hG, hAl, hfl, hmn, htb⟩ := C
  intro H locs ls hl hw hs
  exact lv_icmp_le hx hb d ht (fun q => kt ((iI_le h1 h2).mp q) H locs ls hl hw hs) (fun q => kf (fun q9 => q ((iI_le h1 h2).mpr q9)) H locs ls hl hw hs)
theorem r_icne {G : GT} {l : Launch} {R : Room} {cc : ByteArray} {nL : Nat} {own mn : String} {tb : List ExceptionTableEntry} {J : JT} {X : XT} (C : Cx G l R cc nL own mn tb J X) {pc : Nat} {lv : List (Option Value)} {st : List Value} {S : ST} {A : AB} {k n : Nat} {x y : Int} {off : Int} {tgt : Nat} (d : decode cc pc = .ok (.if_icmp .ne off, 3)) (ht : (pc : Int) + off = (tgt : Int)) (h1 : rI x) (h2 : rI y) (kt : ¬ x = y → J tgt lv st S A k n) (kf : x = y → J (pc + 3) lv st S A k n) : J pc lv (vI y :: vI x :: st) S A k n := by
  obtain ⟨p, e, s, m, args, below, meth, c, Al, Q, rfl, rfl, hx, hb, hml, hown, hts, hG, hAl, hfl, hmn, htb⟩ := C
  intro H locs ls hl hw hs
  exact lv_icmp_ne hx hb d ht (fun q => kt (fun q9 => q ((iI_eq h1 h2).mpr q9)) H locs ls hl hw hs) (fun q => kf ((iI_eq h1 h2).mp q) H locs ls hl hw hs)
theorem r_lceq {G : GT} {l : Launch} {R : Room} {cc : ByteArray} {nL : Nat} {own mn : String} {tb : List ExceptionTableEntry} {J : JT} {X : XT} (C : Cx G l R cc nL own mn tb J X) {pc : Nat} {lv : List (Option Value)} {st : List Value} {S : ST} {A : AB} {k n : Nat} {x y : Int} {off : Int} {tgt : Nat} (d : decode cc pc = .ok (.lcmp, 1)) (d' : decode cc (pc + 1) = .ok (.ifCond .eq off, 3)) (ht : ((pc + 1 : Nat) : Int) + off = (tgt : Int)) (h1 : rL x) (h2 : rL y) (kt : x = y → J tgt lv st S A k n) (kf : ¬ x = y → J (pc + 4) lv st S A k n) : J pc lv (vL y :: vL x :: st) S A k n := r_lcmp C d h1 h2 (r_ifeq C d' ht (rI_cmpZ x y) (fun q => kt ((cmpZ_eq x y).mp q)) (fun q => kf (fun q9 => q ((cmpZ_eq x y).mpr q9))))
theorem r_lclt {G : GT} {l : Launch} {R : Room} {cc : ByteArray} {nL : Nat} {own mn : String} {tb : List ExceptionTableEntry} {J : JT} {X : XT} (C : Cx G l R cc nL own mn tb J X) {pc : Nat} {lv : List (Option Value)} {st : List Value} {S : ST} {A : AB} {k n : Nat} {x y : Int} {off : Int} {tgt : Nat} (d : decode cc pc = .ok (.lcmp, 1)) (d' : decode cc (pc + 1) = .ok (.ifCond .lt off, 3)) (ht : ((pc + 1 : Nat) : Int) + off = (tgt : Int)) (h1 : rL x) (h2 : rL y) (kt : x < y → J tgt lv st S A k n) (kf : ¬ x < y → J (pc + 4) lv st S A k n) : J pc lv (vL y :: vL x :: st) S A k n := r_lcmp C d h1 h2 (r_iflt C d' ht (rI_cmpZ x y) (fun q => kt ((cmpZ_lt x y).mp q)) (fun q => kf (fun q9 => q ((cmpZ_lt x y).mpr q9))))
theorem r_lcge {G : GT} {l : Launch} {R : Room} {cc : ByteArray} {nL : Nat} {own mn : String} {tb : List ExceptionTableEntry} {J : JT} {X : XT} (C : Cx G l R cc nL own mn tb J X) {pc : Nat} {lv : List (Option Value)} {st : List Value} {S : ST} {A : AB} {k n : Nat} {x y : Int} {off : Int} {tgt : Nat} (d : decode cc pc = .ok (.lcmp, 1)) (d' : decode cc (pc + 1) = .ok (.ifCond .ge off, 3)) (ht : ((pc + 1 : Nat) : Int) + off = (tgt : Int)) (h1 : rL x) (h2 : rL y) (kt : y ≤ x → J tgt lv st S A k n) (kf : ¬ y ≤ x → J (pc + 4) lv st S A k n) : J pc lv (vL y :: vL x :: st) S A k n := r_lcmp C d h1 h2 (r_ifge C d' ht (rI_cmpZ x y) (fun q => kt ((cmpZ_ge x y).mp q)) (fun q => kf (fun q9 => q ((cmpZ_ge x y).mpr q9))))
theorem r_lcgt {G : GT} {l : Launch} {R : Room} {cc : ByteArray} {nL : Nat} {own mn : String} {tb : List ExceptionTableEntry} {J : JT} {X : XT} (C : Cx G l R cc nL own mn tb J X) {pc : Nat} {lv : List (Option Value)} {st : List Value} {S : ST} {A : AB} {k n : Nat} {x y : Int} {off : Int} {tgt : Nat} (d : decode cc pc = .ok (.lcmp, 1)) (d' : decode cc (pc + 1) = .ok (.ifCond .gt off, 3)) (ht : ((pc + 1 : Nat) : Int) + off = (tgt : Int)) (h1 : rL x) (h2 : rL y) (kt : y < x → J tgt lv st S A k n) (kf : ¬ y < x → J (pc + 4) lv st S A k n) : J pc lv (vL y :: vL x :: st) S A k n := r_lcmp C d h1 h2 (r_ifgt C d' ht (rI_cmpZ x y) (fun q => kt ((cmpZ_gt x y).mp q)) (fun q => kf (fun q9 => q ((cmpZ_gt x y).mpr q9))))
theorem r_lcle {G : GT} {l : Launch} {R : Room} {cc : ByteArray} {nL : Nat} {own mn : String} {tb : List ExceptionTableEntry} {J : JT} {X : XT} (C : Cx G l R cc nL own mn tb J X) {pc : Nat} {lv : List (Option Value)} {st : List Value} {S : ST} {A : AB} {k n : Nat} {x y : Int} {off : Int} {tgt : Nat} (d : decode cc pc = .ok (.lcmp, 1)) (d' : decode cc (pc + 1) = .ok (.ifCond .le off, 3)) (ht : ((pc + 1 : Nat) : Int) + off = (tgt : Int)) (h1 : rL x) (h2 : rL y) (kt : x ≤ y → J tgt lv st S A k n) (kf : ¬ x ≤ y → J (pc + 4) lv st S A k n) : J pc lv (vL y :: vL x :: st) S A k n := r_lcmp C d h1 h2 (r_ifle C d' ht (rI_cmpZ x y) (fun q => kt ((cmpZ_le x y).mp q)) (fun q => kf (fun q9 => q ((cmpZ_le x y).mpr q9))))
theorem r_lcne {G : GT} {l : Launch} {R : Room} {cc : ByteArray} {nL : Nat} {own mn : String} {tb : List ExceptionTableEntry} {J : JT} {X : XT} (C : Cx G l R cc nL own mn tb J X) {pc : Nat} {lv : List (Option Value)} {st : List Value} {S : ST} {A : AB} {k n : Nat} {x y : Int} {off : Int} {tgt : Nat} (d : decode cc pc = .ok (.lcmp, 1)) (d' : decode cc (pc + 1) = .ok (.ifCond .ne off, 3)) (ht : ((pc + 1 : Nat) : Int) + off = (tgt : Int)) (h1 : rL x) (h2 : rL y) (kt : ¬ x = y → J tgt lv st S A k n) (kf : x = y → J (pc + 4) lv st S A k n) : J pc lv (vL y :: vL x :: st) S A k n := r_lcmp C d h1 h2 (r_ifne C d' ht (rI_cmpZ x y) (fun q => kt (fun q9 => q ((cmpZ_eq x y).mpr q9))) (fun q => kf ((cmpZ_eq x y).mp q)))
theorem r_goto {G : GT} {l : Launch} {R : Room} {cc : ByteArray} {nL : Nat} {own mn : String} {tb : List ExceptionTableEntry} {J : JT} {X : XT} (C : Cx G l R cc nL own mn tb J X) {pc : Nat} {lv : List (Option Value)} {st : List Value} {S : ST} {A : AB} {k n : Nat} {off : Int} {tgt : Nat} (d : decode cc pc = .ok (.goto off, 3)) (ht : (pc : Int) + off = (tgt : Int)) (kk : J tgt lv st S A k n) : J pc lv st S A k n := by
  obtain ⟨p, e, s, m, args, below, meth, c, Al, Q, rfl, rfl, hx, hb, hml, hown, hts, hG, hAl, hfl, hmn, htb⟩ := C
  intro H locs ls hl hw hs
  exact lv_goto hx hb d ht (kk H locs ls hl hw hs)
theorem r_ifnull {G : GT} {l : Launch} {R : Room} {cc : ByteArray} {nL : Nat} {own mn : String} {tb : List ExceptionTableEntry} {J : JT} {X : XT} (C : Cx G l R cc nL own mn tb J X) {pc : Nat} {lv : List (Option Value)} {st : List Value} {S : ST} {A : AB} {k n : Nat} {kd : Nat} {z : Int} {off : Int} {tgt : Nat} (d : decode cc pc = .ok (.ifnull off, 3)) (ht : (pc : Int) + off = (tgt : Int)) (kt : z < 0 → J tgt lv st S A k n) (kf : ¬ z < 0 → J (pc + 3) lv st S A k n) : J pc lv (vR A kd z :: st) S A k n := by
  obtain ⟨p, e, s, m, args, below, meth, c, Al, Q, rfl, rfl, hx, hb, hml, hown, hts, hG, hAl, hfl, hmn, htb⟩ := C
  intro H locs ls hl hw hs
  by_cases h0 : z < 0
  · have e : vR A kd z = .null := by unfold vR rfo; rw [if_pos h0]; rfl
    rw [e]
    exact lv_ifnullN hx hb d ht (kt h0 H locs ls hl hw hs)
  · have e : vR A kd z = .ref (A.1 kd z) := by unfold vR rfo; rw [if_neg h0]; rfl
    rw [e]
    exact lv_ifnull hx hb d (kf h0 H locs ls hl hw hs)
theorem r_ifnonnull {G : GT} {l : Launch} {R : Room} {cc : ByteArray} {nL : Nat} {own mn : String} {tb : List ExceptionTableEntry} {J : JT} {X : XT} (C : Cx G l R cc nL own mn tb J X) {pc : Nat} {lv : List (Option Value)} {st : List Value} {S : ST} {A : AB} {k n : Nat} {kd : Nat} {z : Int} {off : Int} {tgt : Nat} (d : decode cc pc = .ok (.ifnonnull off, 3)) (ht : (pc : Int) + off = (tgt : Int)) (kt : ¬ z < 0 → J tgt lv st S A k n) (kf : z < 0 → J (pc + 3) lv st S A k n) : J pc lv (vR A kd z :: st) S A k n := by
  obtain ⟨p, e, s, m, args, below, meth, c, Al, Q, rfl, rfl, hx, hb, hml, hown, hts, hG, hAl, hfl, hmn, htb⟩ := C
  intro H locs ls hl hw hs
  by_cases h0 : z < 0
  · have e : vR A kd z = .null := by unfold vR rfo; rw [if_pos h0]; rfl
    rw [e]
    exact lv_ifnonnullN hx hb d (kf h0 H locs ls hl hw hs)
  · have e : vR A kd z = .ref (A.1 kd z) := by unfold vR rfo; rw [if_neg h0]; rfl
    rw [e]
    exact lv_ifnonnull hx hb d ht (kt h0 H locs ls hl hw hs)
theorem rfo_eq {A : AB} (hA : AI A) {kd : Nat} {z w : Int} (h1 : z < A.2 kd) (h2 : w < A.2 kd) : rfo A kd z = rfo A kd w ↔ (z < 0 ∧ w < 0) ∨ z = w := by
  unfold rfo
  by_cases a : z < 0
  · rw [if_pos a]
    by_cases b : w < 0
    · rw [if_pos b]; exact ⟨fun _ => Or.inl ⟨a, b⟩, fun _ => rfl⟩
    · rw [if_neg b]; exact ⟨fun q => (by cases q), fun q => (by omega)⟩
  · rw [if_neg a]
    by_cases b : w < 0
    · rw [if_pos b]; exact ⟨fun q => (by cases q), fun q => (by omega)⟩
    · rw [if_neg b]
      refine ⟨fun q => Or.inr ?_, fun q => ?_⟩
      · exact (hA.1 kd z kd w ⟨by omega, h1⟩ ⟨by omega, h2⟩ (Option.some.inj q)).2
      · rcases q with q | rfl
        · omega
        · rfl
theorem r_aceq {G : GT} {l : Launch} {R : Room} {cc : ByteArray} {nL : Nat} {own mn : String} {tb : List ExceptionTableEntry} {J : JT} {X : XT} (C : Cx G l R cc nL own mn tb J X) {pc : Nat} {lv : List (Option Value)} {st : List Value} {S : ST} {A : AB} {k n : Nat} {kd : Nat} {x y : Int} {off : Int} {tgt : Nat} (d : decode cc pc = .ok (.if_acmp .eq off, 3)) (ht : (pc : Int) + off = (tgt : Int)) (h1 : x < A.2 kd) (h2 : y < A.2 kd) (kt : (x < 0 ∧ y < 0) ∨ x = y → J tgt lv st S A k n) (kf : ¬ ((x < 0 ∧ y < 0) ∨ x = y) → J (pc + 3) lv st S A k n) : J pc lv (vR A kd y :: vR A kd x :: st) S A k n := by
  obtain ⟨p, e, s, m, args, below, meth, c, Al, Q, rfl, rfl, hx, hb, hml, hown, hts, hG, hAl, hfl, hmn, htb⟩ := C
  intro H locs ls hl hw hs
  exact lv_acmp_eq hx hb d ht (fun q => kt ((rfo_eq hw.wt.2 h1 h2).mp q) H locs ls hl hw hs) (fun q => kf (fun q9 => q ((rfo_eq hw.wt.2 h1 h2).mpr q9)) H locs ls hl hw hs)
theorem r_acne {G : GT} {l : Launch} {R : Room} {cc : ByteArray} {nL : Nat} {own mn : String} {tb : List ExceptionTableEntry} {J : JT} {X : XT} (C : Cx G l R cc nL own mn tb J X) {pc : Nat} {lv : List (Option Value)} {st : List Value} {S : ST} {A : AB} {k n : Nat} {kd : Nat} {x y : Int} {off : Int} {tgt : Nat} (d : decode cc pc = .ok (.if_acmp .ne off, 3)) (ht : (pc : Int) + off = (tgt : Int)) (h1 : x < A.2 kd) (h2 : y < A.2 kd) (kt : ¬ ((x < 0 ∧ y < 0) ∨ x = y) → J tgt lv st S A k n) (kf : (x < 0 ∧ y < 0) ∨ x = y → J (pc + 3) lv st S A k n) : J pc lv (vR A kd y :: vR A kd x :: st) S A k n := by
  obtain ⟨p, e, s, m, args, below, meth, c, Al, Q, rfl, rfl, hx, hb, hml, hown, hts, hG, hAl, hfl, hmn, htb⟩ := C
  intro H locs ls hl hw hs
  exact lv_acmp_ne hx hb d ht (fun q => kt (fun q9 => q ((rfo_eq hw.wt.2 h1 h2).mpr q9)) H locs ls hl hw hs) (fun q => kf ((rfo_eq hw.wt.2 h1 h2).mp q) H locs ls hl hw hs)
end
section
/-! the heap's rows -/
def tyfitB : Nat → FieldType → Bool
  | 0, .int => true
  | 1, .long => true
  | 2, .boolean => true
  | _ + 3, .object _ => true
  | _ + 3, .array _ => true
  | _, _ => false
theorem va_rf_fit {o : Option Nat} {ty : FieldType} (h : (∃ n, ty = .object n) ∨ ∃ u, ty = .array u) : narrow ty (va_rf o) = va_rf o ∧ fits ty (va_rf o) = true := by
  rcases h with ⟨n, rfl⟩ | ⟨u, rfl⟩ <;> cases o <;> exact ⟨rfl, rfl⟩
theorem tyfit_ok {t : Nat} {ty : FieldType} (h : tyfitB t ty = true) {A : AB} {z : Int} (hz : t = 2 → z = 0 ∨ z = 1) : narrow ty (fV A t z) = fV A t z ∧ fits ty (fV A t z) = true := by
  match t, ty, h with
  | 0, .int, _ => exact ⟨rfl, rfl⟩
  | 1, .long, _ => exact ⟨rfl, rfl⟩
  | 2, .boolean, _ => rcases hz rfl with rfl | rfl <;> exact ⟨rfl, rfl⟩
  | _ + 3, .object n, _ => exact va_rf_fit (Or.inl ⟨n, rfl⟩)
  | _ + 3, .array n, _ => exact va_rf_fit (Or.inr ⟨n, rfl⟩)
/-- what default a place of that kind has -/
def dfl (t : Nat) : Int := if 3 ≤ t then -1 else 0
theorem tyfit_dfl {t : Nat} {ty : FieldType} (h : tyfitB t ty = true) {A : AB} : defaultValue ty = fV A t (dfl t) := by
  match t, ty, h with
  | 0, .int, _ => rfl
  | 1, .long, _ => rfl
  | 2, .boolean, _ => rfl
  | _ + 3, .object n, _ => rfl
  | _ + 3, .array n, _ => rfl
theorem uws_in (C : String) (T : u_T) (N : Nat) (h : (u_ws C T N).all (fun w => decide (w ∈ lw_tbl) && goodWord w) = true) : ∀ w ∈ u_ws C T N, w ∈ WA := fun w hw => by
  have h1 := List.all_eq_true.mp h w hw
  simp only [Bool.and_eq_true, decide_eq_true_eq] at h1
  exact List.mem_filter.mpr ⟨List.mem_append_right _ h1.1, h1.2⟩
theorem uws0 : ∀ w ∈ u_ws RX0 TX0 7, w ∈ WA := uws_in _ _ _ (by decide +kernel)
theorem uws1 : ∀ w ∈ u_ws RX1 TX1 4, w ∈ WA := uws_in _ _ _ (by decide +kernel)
theorem uws2 : ∀ w ∈ u_ws RX2 TX2 2, w ∈ WA := uws_in _ _ _ (by decide +kernel)
theorem uws3 : ∀ w ∈ u_ws RX3 TX3 11, w ∈ WA := uws_in _ _ _ (by decide +kernel)
theorem uws4 : ∀ w ∈ u_ws RX4 TX4 6, w ∈ WA := uws_in _ _ _ (by decide +kernel)
theorem uws5 : ∀ w ∈ u_ws RX5 TX5 4, w ∈ WA := uws_in _ _ _ (by decide +kernel)
theorem uws6 : ∀ w ∈ u_ws RX7 TX7 7, w ∈ WA := uws_in _ _ _ (by decide +kernel)
theorem uws7 : ∀ w ∈ u_ws RX8 TX8 26, w ∈ WA := uws_in _ _ _ (by decide +kernel)
theorem KF (k : Nat) (q : vw_C) (h : vwCl[k]? = some q) : k < 8 ∧ q.2.2 = nF k ∧ (∀ w ∈ u_ws q.1 q.2.1 q.2.2, w ∈ WA) ∧ ∃ ty : Nat → FieldType, (∀ j, j < q.2.2 → parseFieldDescriptor (q.2.1 j).2.2.1 = some (ty j)) ∧ (∀ a, a < q.2.2 → ∀ b, b < q.2.2 → a ≠ b → (q.2.1 a).2.1 ≠ (q.2.1 b).2.1) ∧ ∀ j, j < q.2.2 → tyfitB (fT k j) (ty j) = true := by
  match k, h with
  | 0, h => cases h; exact ⟨by decide, rfl, uws0, tyX0, tyX0_ok, nmX0, by decide +kernel⟩
  | 1, h => cases h; exact ⟨by decide, rfl, uws1, tyX1, tyX1_ok, nmX1, by decide +kernel⟩
  | 2, h => cases h; exact ⟨by decide, rfl, uws2, tyX2, tyX2_ok, nmX2, by decide +kernel⟩
  | 3, h => cases h; exact ⟨by decide, rfl, uws3, tyX3, tyX3_ok, nmX3, by decide +kernel⟩
  | 4, h => cases h; exact ⟨by decide, rfl, uws4, tyX4, tyX4_ok, nmX4, by decide +kernel⟩
  | 5, h => cases h; exact ⟨by decide, rfl, uws5, tyX5, tyX5_ok, nmX5, by decide +kernel⟩
  | 6, h => cases h; exact ⟨by decide, rfl, uws6, tyX7, tyX7_ok, nmX7, by decide +kernel⟩
  | 7, h => cases h; exact ⟨by decide, rfl, uws7, tyX8, tyX8_ok, nmX8, by decide +kernel⟩
  | k + 8, h => simp [vwCl] at h
/-- a field as a class names it -/
def FG (own : String) (idx k f : Nat) : Prop := ∃ (C ref : String) (T : u_T) (N : Nat), vwCl[k]? = some (C, T, N) ∧ f < N ∧ Cond.fieldLink own idx ref (T f).2.1 (T f).2.2.1 ∈ WA ∧ ((T f).1 = ref ∨ Cond.sameField ref (T f).1 (T f).2.1 (T f).2.2.1 ∈ WA)
theorem FG.lt {own : String} {idx k f : Nat} (h : FG own idx k f) : k < 8 ∧ f < nF k ∧ 32 * k + f < 256 ∧ tyC (32 * k + f) = fT k f ∧ (32 * k + f) / 32 = k := by
  obtain ⟨C, ref, T, N, h1, h2, -, -⟩ := h
  obtain ⟨a, b, -⟩ := KF k _ h1
  have hf : f < nF k := by rw [← b]; exact h2
  have h26 := nF_lt k
  have hd : (32 * k + f) / 32 = k := by omega
  refine ⟨a, hf, by omega, ?_, hd⟩
  unfold tyC
  rw [hd, if_pos a, show (32 * k + f) % 32 = f by omega]
theorem vR_ref {A : AB} {k : Nat} {z : Int} (h : 0 ≤ z) : vR A k z = .ref (A.1 k z) := by
  unfold vR rfo
  rw [if_neg (by omega)]
  rfl
theorem cellV_o {G : GT} {A : AB} {S : ST} {k : Nat} {z : Int} (h : k < 8) : cellV G A S k z = .inr (k, oFs A S k z) := by
  unfold cellV
  rw [if_pos h]
theorem cellV_a {G : GT} {A : AB} {S : ST} {k : Nat} {z : Int} (h : 8 ≤ k) : cellV G A S k z = aCl G A S k := by
  unfold cellV
  rw [if_neg (by omega)]
theorem r_getf {G : GT} {l : Launch} {R : Room} {cc : ByteArray} {nL : Nat} {own mn : String} {tb : List ExceptionTableEntry} {J : JT} {X : XT} (C : Cx G l R cc nL own mn tb J X) {pc : Nat} {lv : List (Option Value)} {st : List Value} {S : ST} {A : AB} {k n : Nat}
    {idx kd f : Nat} {z : Int} (d : decode cc pc = .ok (.getfield idx, 3)) (hf : FG own idx kd f) (hz : lv1 A kd z) (kk : rL (S (32 * kd + f) z) ∧ (fT kd f = 0 → rI (S (32 * kd + f) z)) ∧ (fT kd f = 2 → S (32 * kd + f) z = 0 ∨ S (32 * kd + f) z = 1) ∧ (3 ≤ fT kd f → S (32 * kd + f) z < A.2 (fT kd f - 3)) → J (pc + 3) lv (fV A (fT kd f) (S (32 * kd + f) z) :: st) S A k n) : J pc lv (vR A kd z :: st) S A k n := by
  obtain ⟨p, e, s, m, args, below, meth, c, Al, Q, rfl, rfl, hx, hb, hml, hown, hts, hG, hAl, hfl, hmn, htb⟩ := C
  intro H locs ls hl hw hs
  have hf9 := hf.lt
  obtain ⟨Cn, ref, T, N, h1, h2, h3, h4⟩ := hf
  have hKF := KF kd _ h1
  rw [vR_ref hz.1]
  have hwt := hw.wt
  have hw' := hw
  obtain ⟨ws, g1, g2, hP, hD, hA, hW⟩ := hw
  obtain ⟨q0, hq⟩ := HW.at (Al := Al) (H := H) g1 hz
  rw [cellV_o hKF.1] at hq
  have hwc := hW (32 * kd + f) z
  rw [hf9.2.2.2.1] at hwc
  refine va_get (fs := oFs A S kd z) hx hb hts hKF.2.2.1 hown hG.1 hP q0 hq h1 f h2 (hts _ h3) ?_ (oFs_get hf9.2.1) d (kk hwc H locs ls hl hw' hs)
  intro x hx9
  rcases h4 with h4 | h4
  · rw [← h4]; exact hx9
  · exact u_same (hts _ h4) x hx9
theorem r_putf {G : GT} {l : Launch} {R : Room} {cc : ByteArray} {nL : Nat} {own mn : String} {tb : List ExceptionTableEntry} {J : JT} {X : XT} (C : Cx G l R cc nL own mn tb J X) {pc : Nat} {lv : List (Option Value)} {st : List Value} {S : ST} {A : AB} {k n : Nat}
    {idx kd f : Nat} {z v : Int} (d : decode cc pc = .ok (.putfield idx, 3)) (hf : FG own idx kd f) (hz : lv1 A kd z) (hfin : ∀ q : vw_C, vwCl[kd]? = some q → (q.2.1 f).2.2.2 = false ∨ ((q.2.1 f).2.2.2 = true ∧ mn = "<init>" ∧ (q.2.1 f).1 = own)) (hv1 : rL v) (hv2 : fT kd f = 0 → rI v) (hv3 : fT kd f = 2 → v = 0 ∨ v = 1) (hv4 : 3 ≤ fT kd f → v < A.2 (fT kd f - 3)) (kk : J (pc + 3) lv st (upS S (32 * kd + f) z v) A k n) : J pc lv (fV A (fT kd f) v :: vR A kd z :: st) S A k n := by
  obtain ⟨p, e, s, m, args, below, meth, c, Al, Q, rfl, rfl, hx, hb, hml, hown, hts, hG, hAl, hfl, hmn, htb⟩ := C
  intro H locs ls hl hw hs
  have hf9 := hf.lt
  obtain ⟨Cn, ref, T, N, h1, h2, h3, h4⟩ := hf
  obtain ⟨k1, k2, k3, ty, k4, k5, k6⟩ := KF kd _ h1
  rw [vR_ref hz.1]
  obtain ⟨ws, g1, g2, hP, hD, hA, hW⟩ := hw
  obtain ⟨q0, hq⟩ := HW.at (Al := Al) (H := H) g1 hz
  have hq' := hq
  rw [cellV_o k1] at hq
  have hto := tyfit_ok (k6 f h2) (A := A) hv3
  have hsame : ∀ x, s.fieldFound? (T f).1 (T f).2.1 (T f).2.2.1 = some x → s.fieldFound? ref (T f).2.1 (T f).2.2.1 = some x := by
    intro x hx9
    rcases h4 with h4 | h4
    · rw [← h4]; exact hx9
    · exact u_same (hts _ h4) x hx9
  have fin : ∀ (H1 : Heap) (locs1 : List Loc), va_P G.1 vwCl (ws.set q0 (A.1 kd z, .inr (kd, (oFs A S kd z).set f (fV A (fT kd f) v)))) H1 → va_D Al (ws.set q0 (A.1 kd z, .inr (kd, (oFs A S kd z).set f (fV A (fT kd f) v)))) → va_S Al s.heap H1 locs1 → W p l e R s m args below meth c H1 locs1 k n Q (F0 m (pc + 3) ls st) := by
    intro H1 locs1 hP1 hD1 hS1
    rw [oFs_set hf9.2.1, ← cellV_o (G := G) k1] at hP1 hD1
    refine kk H1 locs1 ls hl (HW.set (H := H) g1 g2 hA hD hz hq' (fun k' z' hl' hne => cellV_ne fun hc => ?_) (hW.up hv1 (fun q => hv2 (by rw [← hf9.2.2.2.1]; exact q)) (fun q => hv3 (by rw [← hf9.2.2.2.1]; exact q)) (fun q => ?_)) hP1 hD1) hS1
    · rw [hf9.2.2.2.2] at hc
      subst hc
      exact ⟨fun q => hne ⟨rfl, q⟩, k1⟩
    · rw [hf9.2.2.2.1] at q ⊢
      exact hv4 q
  rcases hfin _ h1 with hfin | ⟨hfin, hin, hdc⟩
  · exact va_put (fs := oFs A S kd z) hx hb hts k3 ty k4 k5 hown hG.1 hP hD hs q0 hq h1 f h2 (hts _ h3) hsame hfin (k4 f h2) hto.1 hto.2 (by rw [oFs_len]; exact hf9.2.1) d fin
  · exact va_putF (fs := oFs A S kd z) hx hb hts k3 ty k4 k5 hown hG.1 hP hD hs q0 hq h1 f h2 (hts _ h3) hsame hfin (hmn.trans hin) hdc (k4 f h2) hto.1 hto.2 (by rw [oFs_len]; exact hf9.2.1) d fin
end
section
theorem r_getI {G : GT} {l : Launch} {R : Room} {cc : ByteArray} {nL : Nat} {own mn : String} {tb : List ExceptionTableEntry} {J : JT} {X : XT} (C : Cx G l R cc nL own mn tb J X) {pc : Nat} {lv : List (Option Value)} {st : List Value} {S : ST} {A : AB} {k n : Nat} {idx kd f : Nat} {z : Int} (c : Nat) (d : decode cc pc = .ok (.getfield idx, 3)) (hf : FG own idx kd f) (ht : fT kd f = 0) (hc : 32 * kd + f = c) (hz : lv1 A kd z) (kk : rI (S c z) → J (pc + 3) lv (vI (S c z) :: st) S A k n) : J pc lv (vR A kd z :: st) S A k n := by
  subst hc
  refine r_getf C d hf hz (fun h => ?_)
  rw [ht] at h ⊢
  rw [ht] at *
  exact kk (h.2.1 rfl)
theorem r_getZ {G : GT} {l : Launch} {R : Room} {cc : ByteArray} {nL : Nat} {own mn : String} {tb : List ExceptionTableEntry} {J : JT} {X : XT} (C : Cx G l R cc nL own mn tb J X) {pc : Nat} {lv : List (Option Value)} {st : List Value} {S : ST} {A : AB} {k n : Nat} {idx kd f : Nat} {z : Int} (c : Nat) (d : decode cc pc = .ok (.getfield idx, 3)) (hf : FG own idx kd f) (ht : fT kd f = 2) (hc : 32 * kd + f = c) (hz : lv1 A kd z) (kk : S c z = 0 ∨ S c z = 1 → J (pc + 3) lv (vI (S c z) :: st) S A k n) : J pc lv (vR A kd z :: st) S A k n := by
  subst hc
  refine r_getf C d hf hz (fun h => ?_)
  rw [ht] at h ⊢
  rw [ht] at *
  exact kk (h.2.2.1 rfl)
theorem r_getJ {G : GT} {l : Launch} {R : Room} {cc : ByteArray} {nL : Nat} {own mn : String} {tb : List ExceptionTableEntry} {J : JT} {X : XT} (C : Cx G l R cc nL own mn tb J X) {pc : Nat} {lv : List (Option Value)} {st : List Value} {S : ST} {A : AB} {k n : Nat} {idx kd f : Nat} {z : Int} (c : Nat) (d : decode cc pc = .ok (.getfield idx, 3)) (hf : FG own idx kd f) (ht : fT kd f = 1) (hc : 32 * kd + f = c) (hz : lv1 A kd z) (kk : rL (S c z) → J (pc + 3) lv (vL (S c z) :: st) S A k n) : J pc lv (vR A kd z :: st) S A k n := by
  subst hc
  refine r_getf C d hf hz (fun h => ?_)
  rw [ht] at h ⊢
  rw [ht] at *
  exact kk (h.1)
theorem r_getA {G : GT} {l : Launch} {R : Room} {cc : ByteArray} {nL : Nat} {own mn : String} {tb : List ExceptionTableEntry} {J : JT} {X : XT} (C : Cx G l R cc nL own mn tb J X) {pc : Nat} {lv : List (Option Value)} {st : List Value} {S : ST} {A : AB} {k n : Nat} {idx kd f : Nat} {z : Int} (c k' : Nat) (d : decode cc pc = .ok (.getfield idx, 3)) (hf : FG own idx kd f) (ht : fT kd f = k' + 3) (hc : 32 * kd + f = c) (hz : lv1 A kd z) (kk : S c z < A.2 k' → J (pc + 3) lv (vR A k' (S c z) :: st) S A k n) : J pc lv (vR A kd z :: st) S A k n := by
  subst hc
  refine r_getf C d hf hz (fun h => ?_)
  rw [ht] at h ⊢
  exact kk (h.2.2.2 (by omega))
theorem r_putI {G : GT} {l : Launch} {R : Room} {cc : ByteArray} {nL : Nat} {own mn : String} {tb : List ExceptionTableEntry} {J : JT} {X : XT} (C : Cx G l R cc nL own mn tb J X) {pc : Nat} {lv : List (Option Value)} {st : List Value} {S : ST} {A : AB} {k n : Nat} {idx kd f : Nat} {z v : Int} (c : Nat) (d : decode cc pc = .ok (.putfield idx, 3)) (hf : FG own idx kd f) (ht : fT kd f = 0) (hc : 32 * kd + f = c) (hz : lv1 A kd z) (hfin : ∀ q : vw_C, vwCl[kd]? = some q → (q.2.1 f).2.2.2 = false ∨ ((q.2.1 f).2.2.2 = true ∧ mn = "<init>" ∧ (q.2.1 f).1 = own)) (hv : rI v) (kk : J (pc + 3) lv st (upS S c z v) A k n) : J pc lv (vI v :: vR A kd z :: st) S A k n := by
  subst hc
  have h9 := r_putf C (lv := lv) (st := st) (S := S) (A := A) (k := k) (n := n) (v := v) d hf hz hfin hv.L (fun _ => hv) (fun q => by omega) (fun q => by omega) kk
  rw [ht] at h9
  exact h9
theorem r_putZ {G : GT} {l : Launch} {R : Room} {cc : ByteArray} {nL : Nat} {own mn : String} {tb : List ExceptionTableEntry} {J : JT} {X : XT} (C : Cx G l R cc nL own mn tb J X) {pc : Nat} {lv : List (Option Value)} {st : List Value} {S : ST} {A : AB} {k n : Nat} {idx kd f : Nat} {z v : Int} (c : Nat) (d : decode cc pc = .ok (.putfield idx, 3)) (hf : FG own idx kd f) (ht : fT kd f = 2) (hc : 32 * kd + f = c) (hz : lv1 A kd z) (hfin : ∀ q : vw_C, vwCl[kd]? = some q → (q.2.1 f).2.2.2 = false ∨ ((q.2.1 f).2.2.2 = true ∧ mn = "<init>" ∧ (q.2.1 f).1 = own)) (hv : v = 0 ∨ v = 1) (kk : J (pc + 3) lv st (upS S c z v) A k n) : J pc lv (vI v :: vR A kd z :: st) S A k n := by
  subst hc
  have h9 := r_putf C (lv := lv) (st := st) (S := S) (A := A) (k := k) (n := n) (v := v) d hf hz hfin (by unfold rL; omega) (fun q => by omega) (fun _ => hv) (fun q => by omega) kk
  rw [ht] at h9
  exact h9
theorem r_putJ {G : GT} {l : Launch} {R : Room} {cc : ByteArray} {nL : Nat} {own mn : String} {tb : List ExceptionTableEntry} {J : JT} {X : XT} (C : Cx G l R cc nL own mn tb J X) {pc : Nat} {lv : List (Option Value)} {st : List Value} {S : ST} {A : AB} {k n : Nat} {idx kd f : Nat} {z v : Int} (c : Nat) (d : decode cc pc = .ok (.putfield idx, 3)) (hf : FG own idx kd f) (ht : fT kd f = 1) (hc : 32 * kd + f = c) (hz : lv1 A kd z) (hfin : ∀ q : vw_C, vwCl[kd]? = some q → (q.2.1 f).2.2.2 = false ∨ ((q.2.1 f).2.2.2 = true ∧ mn = "<init>" ∧ (q.2.1 f).1 = own)) (hv : rL v) (kk : J (pc + 3) lv st (upS S c z v) A k n) : J pc lv (vL v :: vR A kd z :: st) S A k n := by
  subst hc
  have h9 := r_putf C (lv := lv) (st := st) (S := S) (A := A) (k := k) (n := n) (v := v) d hf hz hfin hv (fun q => by omega) (fun q => by omega) (fun q => by omega) kk
  rw [ht] at h9
  exact h9
theorem r_putA {G : GT} {l : Launch} {R : Room} {cc : ByteArray} {nL : Nat} {own mn : String} {tb : List ExceptionTableEntry} {J : JT} {X : XT} (C : Cx G l R cc nL own mn tb J X) {pc : Nat} {lv : List (Option Value)} {st : List Value} {S : ST} {A : AB} {k n : Nat} {idx kd f : Nat} {z v : Int} (c k' : Nat) (d : decode cc pc = .ok (.putfield idx, 3)) (hf : FG own idx kd f) (ht : fT kd f = k' + 3) (hc : 32 * kd + f = c) (hz : lv1 A kd z) (hfin : ∀ q : vw_C, vwCl[kd]? = some q → (q.2.1 f).2.2.2 = false ∨ ((q.2.1 f).2.2.2 = true ∧ mn = "<init>" ∧ (q.2.1 f).1 = own)) (hv : rL v) (hv' : v < A.2 k') (kk : J (pc + 3) lv st (upS S c z v) A k n) : J pc lv (vR A k' v :: vR A kd z :: st) S A k n := by
  subst hc
  have h9 := r_putf C (lv := lv) (st := st) (S := S) (A := A) (k := k) (n := n) (v := v) d hf hz hfin hv (fun q => by omega) (fun q => by omega) (fun _ => by rw [ht]; exact hv') kk
  rw [ht] at h9
  exact h9
theorem aCl_0 {G : GT} {A : AB} {S : ST} {kd N : Nat} (h : aTN kd = (0, N)) : aCl G A S kd = .inl (G.2.1, N, .inl (fun j : Nat => iI (S (32 * kd) j))) := by
  unfold aCl
  rw [h]
  rfl
theorem aCl_1 {G : GT} {A : AB} {S : ST} {kd N : Nat} (h : aTN kd = (1, N)) : aCl G A S kd = .inl (G.2.2.1, N, .inr (.inl (fun j : Nat => lI (S (32 * kd) j)))) := by
  unfold aCl
  rw [h]
  rfl
theorem aCl_2 {G : GT} {A : AB} {S : ST} {kd N : Nat} (h : aTN kd = (2, N)) : aCl G A S kd = .inl (G.2.2.2.1, N, .inl (fun j : Nat => iI (S (32 * kd) j))) := by
  unfold aCl
  rw [h]
  rfl
theorem aCl_6 {G : GT} {A : AB} {S : ST} {kd N : Nat} (h : aTN kd = (6, N)) : aCl G A S kd = .inl (G.2.2.2.2, N, .inr (.inr (.inr (.inr (fun j : Nat => rfo A 3 (S (32 * kd) j)))))) := by
  unfold aCl
  rw [h]
  rfl
theorem arr_at {A : AB} (hA : AI A) {kd : Nat} {z : Int} (h8 : 8 ≤ kd) (hz : lv1 A kd z) : z = 0 := by
  have := hA.2.1 kd h8
  obtain ⟨h1, h2⟩ := hz
  omega
theorem tyC_a {kd : Nat} (h8 : 8 ≤ kd) : tyC (32 * kd) = (aTN kd).1 ∧ (32 * kd) / 32 = kd := by
  have hd : (32 * kd) / 32 = kd := by omega
  refine ⟨?_, hd⟩
  unfold tyC
  rw [hd, if_neg (by omega)]
theorem HW.arr {G : GT} {S : ST} {A : AB} {Al : Nat → Prop} {H H1 : Heap} {ws : va_W} (g1 : ∀ (k : Nat) (z : Int), lv1 A k z → (A.1 k z, cellV G A S k z) ∈ ws) (g2 : ∀ q : Nat × va_E, q ∈ ws → ∃ (k : Nat) (z : Int), lv1 A k z ∧ q = (A.1 k z, cellV G A S k z)) (hA : AI A) (hD : va_D Al ws) {kd : Nat} {z : Int} (h8 : 8 ≤ kd) (hl : lv1 A kd z) {q0 : Nat} (hq : ws[q0]? = some (A.1 kd z, cellV G A S kd z)) {i v : Int} (hW : WT (upS S (32 * kd) i v) A) (hP : va_P G.1 vwCl (ws.set q0 (A.1 kd z, aCl G A (upS S (32 * kd) i v) kd)) H1) (hD1 : va_D Al (ws.set q0 (A.1 kd z, aCl G A (upS S (32 * kd) i v) kd))) : HW G (upS S (32 * kd) i v) A Al H1 := by
  rw [← cellV_a (z := z) h8] at hP hD1
  refine HW.set (H := H) g1 g2 hA hD hl hq (fun k' z' hl' hne => cellV_ne fun hc => ?_) hW hP hD1
  rw [(tyC_a h8).2] at hc
  subst hc
  exact absurd ⟨rfl, (arr_at hA h8 hl').trans (arr_at hA h8 hl).symm⟩ hne
theorem r_iald {G : GT} {l : Launch} {R : Room} {cc : ByteArray} {nL : Nat} {own mn : String} {tb : List ExceptionTableEntry} {J : JT} {X : XT} (C : Cx G l R cc nL own mn tb J X) {pc : Nat} {lv : List (Option Value)} {st : List Value} {S : ST} {A : AB} {k n : Nat} {kd N : Nat} {z i : Int} (c : Nat) (d : decode cc pc = .ok (.iaload, 1)) (h8 : 8 ≤ kd) (ht : aTN kd = (0, N)) (hc : 32 * kd = c) (hz : lv1 A kd z) (h0 : 0 ≤ i) (h1 : i < N) (hi : rI i) (kk : rI (S c i) → J (pc + 1) lv (vI (S c i) :: st) S A k n) : J pc lv (vI i :: vR A kd z :: st) S A k n := by
  subst hc
  obtain ⟨p, e, s, m, args, below, meth, c, Al, Q, rfl, rfl, hx, hb, hml, hown, hts, hG, hAl, hfl, hmn, htb⟩ := C
  intro H locs ls hl hw hs
  rw [vR_ref hz.1]
  have hw' := hw
  obtain ⟨ws, g1, g2, hP, hD, hA, hW⟩ := hw
  obtain ⟨q0, hq⟩ := HW.at (Al := Al) (H := H) g1 hz
  rw [cellV_a h8, aCl_0 ht] at hq
  have hwc := hW (32 * kd) i
  rw [(tyC_a h8).1, ht] at hwc
  refine va_iald hx hb hG.1 hP q0 0 hq rfl (vp_in_iI h0 h1 hi) d ?_
  rw [iI_clamp hi, Int.toNat_of_nonneg h0]
  exact kk (hwc.2.1 rfl) H locs ls hl hw' hs
theorem r_lald {G : GT} {l : Launch} {R : Room} {cc : ByteArray} {nL : Nat} {own mn : String} {tb : List ExceptionTableEntry} {J : JT} {X : XT} (C : Cx G l R cc nL own mn tb J X) {pc : Nat} {lv : List (Option Value)} {st : List Value} {S : ST} {A : AB} {k n : Nat} {kd N : Nat} {z i : Int} (c : Nat) (d : decode cc pc = .ok (.laload, 1)) (h8 : 8 ≤ kd) (ht : aTN kd = (1, N)) (hc : 32 * kd = c) (hz : lv1 A kd z) (h0 : 0 ≤ i) (h1 : i < N) (hi : rI i) (kk : rL (S c i) → J (pc + 1) lv (vL (S c i) :: st) S A k n) : J pc lv (vI i :: vR A kd z :: st) S A k n := by
  subst hc
  obtain ⟨p, e, s, m, args, below, meth, c, Al, Q, rfl, rfl, hx, hb, hml, hown, hts, hG, hAl, hfl, hmn, htb⟩ := C
  intro H locs ls hl hw hs
  rw [vR_ref hz.1]
  have hw' := hw
  obtain ⟨ws, g1, g2, hP, hD, hA, hW⟩ := hw
  obtain ⟨q0, hq⟩ := HW.at (Al := Al) (H := H) g1 hz
  rw [cellV_a h8, aCl_1 ht] at hq
  have hwc := hW (32 * kd) i
  rw [(tyC_a h8).1, ht] at hwc
  refine va_lald hx hb hG.1 hP q0 1 hq rfl (vp_in_iI h0 h1 hi) d ?_
  rw [iI_clamp hi, Int.toNat_of_nonneg h0]
  exact kk (hwc.1) H locs ls hl hw' hs
theorem r_zald {G : GT} {l : Launch} {R : Room} {cc : ByteArray} {nL : Nat} {own mn : String} {tb : List ExceptionTableEntry} {J : JT} {X : XT} (C : Cx G l R cc nL own mn tb J X) {pc : Nat} {lv : List (Option Value)} {st : List Value} {S : ST} {A : AB} {k n : Nat} {kd N : Nat} {z i : Int} (c : Nat) (d : decode cc pc = .ok (.baload, 1)) (h8 : 8 ≤ kd) (ht : aTN kd = (2, N)) (hc : 32 * kd = c) (hz : lv1 A kd z) (h0 : 0 ≤ i) (h1 : i < N) (hi : rI i) (kk : S c i = 0 ∨ S c i = 1 → J (pc + 1) lv (vI (S c i) :: st) S A k n) : J pc lv (vI i :: vR A kd z :: st) S A k n := by
  subst hc
  obtain ⟨p, e, s, m, args, below, meth, c, Al, Q, rfl, rfl, hx, hb, hml, hown, hts, hG, hAl, hfl, hmn, htb⟩ := C
  intro H locs ls hl hw hs
  rw [vR_ref hz.1]
  have hw' := hw
  obtain ⟨ws, g1, g2, hP, hD, hA, hW⟩ := hw
  obtain ⟨q0, hq⟩ := HW.at (Al := Al) (H := H) g1 hz
  rw [cellV_a h8, aCl_2 ht] at hq
  have hwc := hW (32 * kd) i
  rw [(tyC_a h8).1, ht] at hwc
  refine va_zald hx hb hG.1 hP q0 2 hq rfl (vp_in_iI h0 h1 hi) d ?_
  rw [iI_clamp hi, Int.toNat_of_nonneg h0]
  exact kk (hwc.2.2.1 rfl) H locs ls hl hw' hs
theorem r_aald {G : GT} {l : Launch} {R : Room} {cc : ByteArray} {nL : Nat} {own mn : String} {tb : List ExceptionTableEntry} {J : JT} {X : XT} (C : Cx G l R cc nL own mn tb J X) {pc : Nat} {lv : List (Option Value)} {st : List Value} {S : ST} {A : AB} {k n : Nat} {kd N : Nat} {z i : Int} (c : Nat) (d : decode cc pc = .ok (.aaload, 1)) (h8 : 8 ≤ kd) (ht : aTN kd = (6, N)) (hc : 32 * kd = c) (hz : lv1 A kd z) (h0 : 0 ≤ i) (h1 : i < N) (hi : rI i) (kk : S c i < A.2 3 → J (pc + 1) lv (vR A 3 (S c i) :: st) S A k n) : J pc lv (vI i :: vR A kd z :: st) S A k n := by
  subst hc
  obtain ⟨p, e, s, m, args, below, meth, c, Al, Q, rfl, rfl, hx, hb, hml, hown, hts, hG, hAl, hfl, hmn, htb⟩ := C
  intro H locs ls hl hw hs
  rw [vR_ref hz.1]
  have hw' := hw
  obtain ⟨ws, g1, g2, hP, hD, hA, hW⟩ := hw
  obtain ⟨q0, hq⟩ := HW.at (Al := Al) (H := H) g1 hz
  rw [cellV_a h8, aCl_6 ht] at hq
  refine va_aldq hx hb hG.1 hP q0 3 hq rfl (vp_in_iI h0 h1 hi) d ?_
  rw [iI_clamp hi, Int.toNat_of_nonneg h0]
  have hwc := (hW (32 * kd) i).2.2.2
  rw [(tyC_a h8).1, ht] at hwc
  exact kk (hwc (by omega)) H locs ls hl hw' hs
theorem r_iast {G : GT} {l : Launch} {R : Room} {cc : ByteArray} {nL : Nat} {own mn : String} {tb : List ExceptionTableEntry} {J : JT} {X : XT} (C : Cx G l R cc nL own mn tb J X) {pc : Nat} {lv : List (Option Value)} {st : List Value} {S : ST} {A : AB} {k n : Nat} {kd N : Nat} {z i : Int} {v : Int} (c : Nat) (d : decode cc pc = .ok (.iastore, 1)) (h8 : 8 ≤ kd) (ht : aTN kd = (0, N)) (hc : 32 * kd = c) (hz : lv1 A kd z) (h0 : 0 ≤ i) (h1 : i < N) (hi : rI i) (hv : rI v) (kk : J (pc + 1) lv st (upS S c i v) A k n) : J pc lv (vI v :: vI i :: vR A kd z :: st) S A k n := by
  subst hc
  obtain ⟨p, e, s, m, args, below, meth, c, Al, Q, rfl, rfl, hx, hb, hml, hown, hts, hG, hAl, hfl, hmn, htb⟩ := C
  intro H locs ls hl hw hs
  rw [vR_ref hz.1]
  obtain ⟨ws, g1, g2, hP, hD, hA, hW⟩ := hw
  obtain ⟨q0, hq⟩ := HW.at (Al := Al) (H := H) g1 hz
  have hq' := hq
  rw [cellV_a h8, aCl_0 ht] at hq
  have e1 : upd (fun j : Nat => iI (S (32 * kd) j)) (iI i).toNatClampNeg (iI v) = fun j : Nat => iI (upS S (32 * kd) i v (32 * kd) j) := by
    funext j
    rw [iI_clamp hi]
    unfold upd upS
    by_cases hj : j = i.toNat
    · rw [if_pos hj, if_pos ⟨rfl, by rw [hj]; exact Int.toNat_of_nonneg h0⟩]
    · rw [if_neg hj, if_neg (fun q => hj (by omega))]
  refine va_iast hx hb hG.1 hP hD hs q0 0 hq rfl (vp_in_iI h0 h1 hi) d (fun H1 locs1 hP1 hD1 hS1 => ?_)
  rw [e1, ← aCl_0 (G := G) (A := A) (S := upS S (32 * kd) i v) ht] at hP1 hD1
  have hty : tyC (32 * kd) = 0 := by rw [(tyC_a h8).1, ht]
  exact kk H1 locs1 ls hl (HW.arr (H := H) g1 g2 hA hD h8 hz hq' (hW.up hv.L (fun _ => hv) (fun q => by omega) (fun q => by omega)) hP1 hD1) hS1
theorem r_last {G : GT} {l : Launch} {R : Room} {cc : ByteArray} {nL : Nat} {own mn : String} {tb : List ExceptionTableEntry} {J : JT} {X : XT} (C : Cx G l R cc nL own mn tb J X) {pc : Nat} {lv : List (Option Value)} {st : List Value} {S : ST} {A : AB} {k n : Nat} {kd N : Nat} {z i : Int} {v : Int} (c : Nat) (d : decode cc pc = .ok (.lastore, 1)) (h8 : 8 ≤ kd) (ht : aTN kd = (1, N)) (hc : 32 * kd = c) (hz : lv1 A kd z) (h0 : 0 ≤ i) (h1 : i < N) (hi : rI i) (hv : rL v) (kk : J (pc + 1) lv st (upS S c i v) A k n) : J pc lv (vL v :: vI i :: vR A kd z :: st) S A k n := by
  subst hc
  obtain ⟨p, e, s, m, args, below, meth, c, Al, Q, rfl, rfl, hx, hb, hml, hown, hts, hG, hAl, hfl, hmn, htb⟩ := C
  intro H locs ls hl hw hs
  rw [vR_ref hz.1]
  obtain ⟨ws, g1, g2, hP, hD, hA, hW⟩ := hw
  obtain ⟨q0, hq⟩ := HW.at (Al := Al) (H := H) g1 hz
  have hq' := hq
  rw [cellV_a h8, aCl_1 ht] at hq
  have e1 : vp_updL (fun j : Nat => lI (S (32 * kd) j)) (iI i).toNatClampNeg (lI v) = fun j : Nat => lI (upS S (32 * kd) i v (32 * kd) j) := by
    funext j
    rw [iI_clamp hi]
    unfold vp_updL upS
    by_cases hj : j = i.toNat
    · rw [if_pos hj, if_pos ⟨rfl, by rw [hj]; exact Int.toNat_of_nonneg h0⟩]
    · rw [if_neg hj, if_neg (fun q => hj (by omega))]
  refine va_last hx hb hG.1 hP hD hs q0 1 hq rfl (vp_in_iI h0 h1 hi) d (fun H1 locs1 hP1 hD1 hS1 => ?_)
  rw [e1, ← aCl_1 (G := G) (A := A) (S := upS S (32 * kd) i v) ht] at hP1 hD1
  have hty : tyC (32 * kd) = 1 := by rw [(tyC_a h8).1, ht]
  exact kk H1 locs1 ls hl (HW.arr (H := H) g1 g2 hA hD h8 hz hq' (hW.up hv (fun q => by omega) (fun q => by omega) (fun q => by omega)) hP1 hD1) hS1
theorem r_zast {G : GT} {l : Launch} {R : Room} {cc : ByteArray} {nL : Nat} {own mn : String} {tb : List ExceptionTableEntry} {J : JT} {X : XT} (C : Cx G l R cc nL own mn tb J X) {pc : Nat} {lv : List (Option Value)} {st : List Value} {S : ST} {A : AB} {k n : Nat} {kd N : Nat} {z i : Int} {v : Int} (c : Nat) (d : decode cc pc = .ok (.bastore, 1)) (h8 : 8 ≤ kd) (ht : aTN kd = (2, N)) (hc : 32 * kd = c) (hz : lv1 A kd z) (h0 : 0 ≤ i) (h1 : i < N) (hi : rI i) (hv : v = 0 ∨ v = 1) (kk : J (pc + 1) lv st (upS S c i v) A k n) : J pc lv (vI v :: vI i :: vR A kd z :: st) S A k n := by
  subst hc
  obtain ⟨p, e, s, m, args, below, meth, c, Al, Q, rfl, rfl, hx, hb, hml, hown, hts, hG, hAl, hfl, hmn, htb⟩ := C
  intro H locs ls hl hw hs
  rw [vR_ref hz.1]
  obtain ⟨ws, g1, g2, hP, hD, hA, hW⟩ := hw
  obtain ⟨q0, hq⟩ := HW.at (Al := Al) (H := H) g1 hz
  have hq' := hq
  rw [cellV_a h8, aCl_2 ht] at hq
  have e1 : upd (fun j : Nat => iI (S (32 * kd) j)) (iI i).toNatClampNeg (vp_nar .boolean (iI v)) = fun j : Nat => iI (upS S (32 * kd) i v (32 * kd) j) := by
    funext j
    rw [iI_clamp hi]
    unfold upd upS
    by_cases hj : j = i.toNat
    · rw [if_pos hj, if_pos ⟨rfl, by rw [hj]; exact Int.toNat_of_nonneg h0⟩]; rcases hv with rfl | rfl <;> rfl
    · rw [if_neg hj, if_neg (fun q => hj (by omega))]
  refine va_zast hx hb hG.1 hP hD hs q0 2 hq rfl (vp_in_iI h0 h1 hi) d (fun H1 locs1 hP1 hD1 hS1 => ?_)
  rw [e1, ← aCl_2 (G := G) (A := A) (S := upS S (32 * kd) i v) ht] at hP1 hD1
  have hty : tyC (32 * kd) = 2 := by rw [(tyC_a h8).1, ht]
  exact kk H1 locs1 ls hl (HW.arr (H := H) g1 g2 hA hD h8 hz hq' (hW.up (by unfold rL; omega) (fun q => by omega) (fun _ => hv) (fun q => by omega)) hP1 hD1) hS1
theorem r_alen {G : GT} {l : Launch} {R : Room} {cc : ByteArray} {nL : Nat} {own mn : String} {tb : List ExceptionTableEntry} {J : JT} {X : XT} (C : Cx G l R cc nL own mn tb J X) {pc : Nat} {lv : List (Option Value)} {st : List Value} {S : ST} {A : AB} {k n : Nat} {kd N t : Nat} {z : Int} (d : decode cc pc = .ok (.arraylength, 1)) (h8 : 8 ≤ kd) (ht : aTN kd = (t, N)) (h3 : t = 0 ∨ t = 1 ∨ t = 2 ∨ t = 6) (hz : lv1 A kd z) (kk : J (pc + 1) lv (vI (N : Int) :: st) S A k n) : J pc lv (vR A kd z :: st) S A k n := by
  obtain ⟨p, e, s, m, args, below, meth, c, Al, Q, rfl, rfl, hx, hb, hml, hown, hts, hG, hAl, hfl, hmn, htb⟩ := C
  intro H locs ls hl hw hs
  rw [vR_ref hz.1]
  have hw' := hw
  obtain ⟨ws, g1, g2, hP, hD, hA, hW⟩ := hw
  obtain ⟨q0, hq⟩ := HW.at (Al := Al) (H := H) g1 hz
  rw [cellV_a h8] at hq
  have hN : Int32.ofNat N = iI (N : Int) := Int32.ofInt_eq_ofNat.symm
  have hk := kk H locs ls hl hw' hs
  rcases h3 with rfl | rfl | rfl | rfl
  · rw [aCl_0 ht] at hq
    exact va_alen hx hb hG.1 hP q0 0 hq rfl hN d hk
  · rw [aCl_1 ht] at hq
    exact va_alen hx hb hG.1 hP q0 1 hq rfl hN d hk
  · rw [aCl_2 ht] at hq
    exact va_alen hx hb hG.1 hP q0 2 hq rfl hN d hk
  · rw [aCl_6 ht] at hq
    exact va_alen hx hb hG.1 hP q0 3 hq rfl hN d hk
theorem r_aast {G : GT} {l : Launch} {R : Room} {cc : ByteArray} {nL : Nat} {own mn : String} {tb : List ExceptionTableEntry} {J : JT} {X : XT} (C : Cx G l R cc nL own mn tb J X) {pc : Nat} {lv : List (Option Value)} {st : List Value} {S : ST} {A : AB} {k n : Nat} {kd N : Nat} {z i : Int} {v : Int} (c : Nat) (d : decode cc pc = .ok (.aastore, 1)) (h8 : 8 ≤ kd) (ht : aTN kd = (6, N)) (hc : 32 * kd = c) (hz : lv1 A kd z) (h0 : 0 ≤ i) (h1 : i < N) (hi : rI i) (hv : lv1 A 3 v) (hv' : rL v) (kk : J (pc + 1) lv st (upS S c i v) A k n) : J pc lv (vR A 3 v :: vI i :: vR A kd z :: st) S A k n := by
  subst hc
  obtain ⟨p, e, s, m, args, below, meth, c, Al, Q, rfl, rfl, hx, hb, hml, hown, hts, hG, hAl, hfl, hmn, htb⟩ := C
  intro H locs ls hl hw hs
  rw [vR_ref hz.1, vR_ref hv.1]
  obtain ⟨ws, g1, g2, hP, hD, hA, hW⟩ := hw
  obtain ⟨q0, hq⟩ := HW.at (Al := Al) (H := H) g1 hz
  obtain ⟨q3, hq3⟩ := HW.at (Al := Al) (H := H) g1 hv
  have hq' := hq
  rw [cellV_o (by omega)] at hq3
  rw [cellV_a h8, aCl_6 ht] at hq
  have e1 : va_up (fun j : Nat => rfo A 3 (S (32 * kd) j)) (iI i).toNatClampNeg (some (A.1 3 v)) = fun j : Nat => rfo A 3 (upS S (32 * kd) i v (32 * kd) j) := by
    funext j
    rw [iI_clamp hi]
    unfold va_up upS
    by_cases hj : j = i.toNat
    · rw [if_pos hj, if_pos ⟨rfl, by rw [hj]; exact Int.toNat_of_nonneg h0⟩]
      unfold rfo
      rw [if_neg (by have := hv.1; omega)]
    · rw [if_neg hj, if_neg (fun q => hj (by omega))]
  refine va_astq (r := (RX3, TX3, 11)) hx hb hG.1 hP hD hs q0 3 q3 3 hq rfl hq3 rfl (vp_in_iI h0 h1 hi) d (fun H1 locs1 hP1 hD1 hS1 => ?_)
  rw [e1, ← aCl_6 (G := G) (A := A) (S := upS S (32 * kd) i v) ht] at hP1 hD1
  refine kk H1 locs1 ls hl (HW.arr (H := H) g1 g2 hA hD h8 hz hq' (hW.up hv' (fun q => ?_) (fun q => ?_) (fun q => ?_)) hP1 hD1) hS1
  · rw [(tyC_a h8).1, ht] at q; omega
  · rw [(tyC_a h8).1, ht] at q; omega
  · rw [(tyC_a h8).1, ht]; exact hv.2
end
section
/-! making things -/
def nwA (A : AB) (k q : Nat) : AB := (fun k' z' => if k' = k ∧ z' = A.2 k then q else A.1 k' z', fun k' => if k' = k then A.2 k + 1 else A.2 k')
def nwS (S : ST) (k : Nat) (z : Int) : ST := fun c z' => if c / 32 = k ∧ (k < 8 → z' = z) then dfl (tyC c) else S c z'
theorem nwA_old {A : AB} {k q kd : Nat} {v : Int} (h : v < A.2 kd) : (nwA A k q).1 kd v = A.1 kd v := by
  unfold nwA
  simp only
  rw [if_neg]
  rintro ⟨rfl, rfl⟩
  omega
theorem nwA_new {A : AB} {k q : Nat} : (nwA A k q).1 k (A.2 k) = q := by simp [nwA]
theorem nwA_2 {A : AB} {k q : Nat} : (nwA A k q).2 k = A.2 k + 1 := by simp [nwA]
theorem nwA_2n {A : AB} {k q k' : Nat} (h : k' ≠ k) : (nwA A k q).2 k' = A.2 k' := by simp [nwA, h]
theorem nwA_ge {A : AB} {k q k' : Nat} : A.2 k' ≤ (nwA A k q).2 k' := by
  unfold nwA
  simp only
  split
  next h => rw [h]; omega
  next => omega
theorem rfo_nw {A : AB} {k q kd : Nat} {v : Int} (h : v < A.2 kd) : rfo (nwA A k q) kd v = rfo A kd v := by
  unfold rfo
  rw [nwA_old h]
theorem vR_nw {A : AB} {k q kd : Nat} {v : Int} (h : v < A.2 kd) : vR (nwA A k q) kd v = vR A kd v := by
  unfold vR
  rw [rfo_nw h]
theorem fV_nw {A : AB} {k q t : Nat} {v : Int} (h : 3 ≤ t → v < A.2 (t - 3)) : fV (nwA A k q) t v = fV A t v := by
  match t, h with
  | 0, _ => rfl
  | 1, _ => rfl
  | 2, _ => rfl
  | t + 3, h => exact vR_nw (h (by omega))
theorem fT_tyC {k f : Nat} (hk : k < 8) (hf : f < nF k) : tyC (32 * k + f) = fT k f ∧ (32 * k + f) / 32 = k := by
  have h26 := nF_lt k
  have hd : (32 * k + f) / 32 = k := by omega
  refine ⟨?_, hd⟩
  unfold tyC
  rw [hd, if_pos hk, show (32 * k + f) % 32 = f by omega]
theorem aTN_cases (k : Nat) : (aTN k).1 = 0 ∨ (aTN k).1 = 1 ∨ (aTN k).1 = 2 ∨ (aTN k).1 = 6 := by
  unfold aTN
  split <;> simp
theorem cell_nw {G : GT} {A : AB} {S : ST} (hW : WT S A) {k q k' : Nat} {z' : Int} (hl : lv1 A k' z') (ha : 8 ≤ k → A.2 k = 0) : cellV G (nwA A k q) (nwS S k (A.2 k)) k' z' = cellV G A S k' z' := by
  by_cases hk' : k' < 8
  · rw [cellV_o hk', cellV_o hk']
    congr 2
    unfold oFs
    refine List.map_congr_left (fun f hf => ?_)
    have hf' := List.mem_range.mp hf
    obtain ⟨e1, e2⟩ := fT_tyC hk' hf'
    have e3 : nwS S k (A.2 k) (32 * k' + f) z' = S (32 * k' + f) z' := by
      unfold nwS
      rw [e2, if_neg]
      rintro ⟨rfl, h9⟩
      have := h9 hk'
      have := hl.2
      omega
    rw [e3]
    refine fV_nw (fun h3 => ?_)
    have h9 := (hW (32 * k' + f) z').2.2.2
    rw [e1] at h9
    exact h9 h3
  · have h8 : 8 ≤ k' := by omega
    rw [cellV_a h8, cellV_a h8]
    have hne : k' ≠ k := by
      rintro rfl
      have := ha h8
      obtain ⟨a, b⟩ := hl
      omega
    have e3 : ∀ j : Int, nwS S k (A.2 k) (32 * k') j = S (32 * k') j := by
      intro j
      unfold nwS
      rw [(tyC_a h8).2, if_neg (fun h => hne h.1)]
    obtain ⟨N, hN⟩ : ∃ N, N = (aTN k').2 := ⟨_, rfl⟩
    rcases aTN_cases k' with h | h | h | h
    · have hp : aTN k' = (0, N) := Prod.ext h hN.symm
      rw [aCl_0 hp, aCl_0 hp]; simp only [e3]
    · have hp : aTN k' = (1, N) := Prod.ext h hN.symm
      rw [aCl_1 hp, aCl_1 hp]; simp only [e3]
    · have hp : aTN k' = (2, N) := Prod.ext h hN.symm
      rw [aCl_2 hp, aCl_2 hp]; simp only [e3]
    · have hp : aTN k' = (6, N) := Prod.ext h hN.symm
      rw [aCl_6 hp, aCl_6 hp]
      have e4 : ∀ j : Nat, rfo (nwA A k q) 3 (nwS S k (A.2 k) (32 * k') j) = rfo A 3 (S (32 * k') j) := by
        intro j
        rw [e3]
        refine rfo_nw ?_
        have h9 := (hW (32 * k') j).2.2.2
        rw [(tyC_a h8).1, h] at h9
        exact h9 (by omega)
      simp only [e4]
theorem dfl_ok (t : Nat) : rL (dfl t) ∧ (t = 0 → rI (dfl t)) ∧ (t = 2 → dfl t = 0 ∨ dfl t = 1) := by
  unfold dfl rL rI
  split
  · exact ⟨by omega, by omega, by omega⟩
  · exact ⟨by omega, by omega, by omega⟩
theorem WT.nw {S : ST} {A : AB} (h : WT S A) (hA : AI A) {k q : Nat} : WT (nwS S k (A.2 k)) (nwA A k q) := by
  intro c z'
  unfold nwS
  split
  · obtain ⟨a, b, d⟩ := dfl_ok (tyC c)
    refine ⟨a, b, d, fun h3 => ?_⟩
    unfold dfl
    rw [if_pos h3]
    have h1 := hA.2.2 (tyC c - 3)
    have h2 := nwA_ge (A := A) (k := k) (q := q) (k' := tyC c - 3)
    omega
  · obtain ⟨a, b, d, g⟩ := h c z'
    exact ⟨a, b, d, fun h3 => Int.lt_of_lt_of_le (g h3) nwA_ge⟩
theorem lv1_nw {A : AB} {k q k' : Nat} {z' : Int} (h : lv1 (nwA A k q) k' z') : lv1 A k' z' ∨ (k' = k ∧ z' = A.2 k) := by
  obtain ⟨h1, h2⟩ := h
  unfold nwA at h2
  simp only at h2
  split at h2
  next e =>
    subst e
    by_cases hz : z' = A.2 k'
    · exact Or.inr ⟨rfl, hz⟩
    · exact Or.inl ⟨h1, by omega⟩
  next => exact Or.inl ⟨h1, h2⟩
theorem HW.nw {G : GT} {S : ST} {A : AB} {Al : Nat → Prop} {H1 : Heap} {ws : va_W} (g1 : ∀ (k : Nat) (z : Int), lv1 A k z → (A.1 k z, cellV G A S k z) ∈ ws) (g2 : ∀ q : Nat × va_E, q ∈ ws → ∃ (k : Nat) (z : Int), lv1 A k z ∧ q = (A.1 k z, cellV G A S k z)) (hA : AI A) (hW : WT S A) {k q : Nat} (ha : 8 ≤ k → A.2 k = 0) {e : va_E} (he : e = cellV G (nwA A k q) (nwS S k (A.2 k)) k (A.2 k)) (hP : va_P G.1 vwCl (ws ++ [(q, e)]) H1) (hD : va_D Al (ws ++ [(q, e)])) : HW G (nwS S k (A.2 k)) (nwA A k q) Al H1 := by
  have hnew : (ws ++ [(q, e)])[ws.length]? = some (q, e) := by simp
  have fresh : ∀ (k' : Nat) (z' : Int), lv1 A k' z' → A.1 k' z' ≠ q := by
    intro k' z' hl heq
    obtain ⟨i, hi⟩ := List.getElem?_of_mem (g1 k' z' hl)
    have hil : i < ws.length := (List.getElem?_eq_some_iff.mp hi).1
    have hi' : (ws ++ [(q, e)])[i]? = some (A.1 k' z', cellV G A S k' z') := by rw [List.getElem?_append_left hil]; exact hi
    have := hD.1 i ws.length _ _ hi' hnew heq
    omega
  refine ⟨ws ++ [(q, e)], fun k' z' hl => ?_, fun x hx => ?_, hP, hD, ⟨fun k1 z1 k2 z2 h1 h2 heq => ?_, fun k' h8 => ?_, fun k' => ?_⟩, hW.nw hA⟩
  · rcases lv1_nw hl with h | ⟨rfl, rfl⟩
    · rw [nwA_old h.2, cell_nw hW h ha]
      exact List.mem_append_left _ (g1 k' z' h)
    · rw [nwA_new, ← he]
      exact List.mem_append_right _ List.mem_cons_self
  · rcases List.mem_append.mp hx with hx | hx
    · obtain ⟨k', z', hl, rfl⟩ := g2 x hx
      refine ⟨k', z', ⟨hl.1, Int.lt_of_lt_of_le hl.2 nwA_ge⟩, ?_⟩
      rw [nwA_old hl.2, cell_nw hW hl ha]
    · rw [List.mem_singleton.mp hx]
      refine ⟨k, A.2 k, ⟨hA.2.2 k, by rw [nwA_2]; omega⟩, ?_⟩
      rw [nwA_new, he]
  · rcases lv1_nw h1 with a1 | ⟨rfl, rfl⟩ <;> rcases lv1_nw h2 with a2 | ⟨rfl, rfl⟩
    · rw [nwA_old a1.2, nwA_old a2.2] at heq
      exact hA.1 _ _ _ _ a1 a2 heq
    · rw [nwA_old a1.2, nwA_new] at heq
      exact absurd heq (fresh _ _ a1)
    · rw [nwA_old a2.2, nwA_new] at heq
      exact absurd heq.symm (fresh _ _ a2)
    · exact ⟨rfl, rfl⟩
  · unfold nwA
    simp only
    split
    next h => subst h; rw [ha h8]; omega
    next => exact hA.2.1 k' h8
  · exact Int.le_trans (hA.2.2 k') nwA_ge
theorem r_new {G : GT} {l : Launch} {R : Room} {cc : ByteArray} {nL : Nat} {own mn : String} {tb : List ExceptionTableEntry} {J : JT} {X : XT} (C : Cx G l R cc nL own mn tb J X) {pc : Nat} {lv : List (Option Value)} {st : List Value} {S : ST} {A : AB} {k n : Nat}
    {idx kd N : Nat} {C0 : String} {T : u_T} (d : decode cc pc = .ok (.new idx, 3)) (hc : vwCl[kd]? = some (C0, T, N)) (hcl : Cond.classLink own idx C0 ∈ WA) (hin : Cond.instantiable C0 N ∈ WA) (hini : Cond.initialized C0 ∈ WA) (hkc : k + 1 ≤ R.cells) (hns : n + N ≤ R.slots) (kk : ∀ q : Nat, J (pc + 3) lv (vR (nwA A kd q) kd (A.2 kd) :: st) (nwS S kd (A.2 kd)) (nwA A kd q) (k + 1) (n + N)) : J pc lv st S A k n := by
  obtain ⟨p, e, s, m, args, below, meth, c, Al, Q, rfl, rfl, hx, hb, hml, hown, hts, hG, hAl, hfl, hmn, htb⟩ := C
  intro H locs ls hl hw hs
  obtain ⟨ws, g1, g2, hP, hD, hA, hW⟩ := hw
  obtain ⟨k1, k2, k3, ty, k4, k5, k6⟩ := KF kd _ hc
  have hN : N = nF kd := k2
  refine va_new (ci := kd) (fs := (List.range (nF kd)).map (fun f => fV A (fT kd f) (dfl (fT kd f)))) hx hb hts k3 ty k4 hown (hts _ hcl) (hts _ hin) (hts _ hini) hG.1 hP hD hs hAl hc (fun j hj => ?_) hkc hns d (fun q H1 hP1 hD1 hS1 => ?_)
  · have hj' : j < nF kd := by rw [← hN]; exact hj
    rw [tyfit_dfl (k6 j hj) (A := A)]
    unfold vp_V
    rw [List.getD_eq_getElem?_getD, List.getElem?_map, List.getElem?_range hj']
    rfl
  · have h9 := kk q H1 locs ls hl (HW.nw g1 g2 hA hW (fun h8 => by omega) ?_ hP1 hD1) hS1
    · rw [vR_ref (hA.2.2 kd), nwA_new] at h9
      exact h9
    · rw [cellV_o k1]
      congr 2
      unfold oFs
      refine List.map_congr_left (fun f hf => ?_)
      have hf' := List.mem_range.mp hf
      obtain ⟨e1, e2⟩ := fT_tyC k1 hf'
      have e3 : nwS S kd (A.2 kd) (32 * kd + f) (A.2 kd) = dfl (fT kd f) := by
        unfold nwS
        rw [e2, if_pos ⟨rfl, fun _ => rfl⟩, e1]
      rw [e3]
      refine (fV_nw (fun h3 => ?_)).symm
      unfold dfl
      rw [if_pos h3]
      have := hA.2.2 (fT kd f - 3)
      omega
theorem arr_same {s : State} {a b : ClassId} {ty : FieldType} (h1 : va_RA s a ty) (h2 : va_RA s b ty) : a = b := by
  cases ty with
  | object C =>
    obtain ⟨-, -, -, -, -, e1⟩ := h1
    obtain ⟨-, -, -, -, -, e2⟩ := h2
    exact Option.some.inj (e1.symm.trans e2)
  | _ => exact Option.some.inj (h1.symm.trans h2)
theorem r_newarr {G : GT} {l : Launch} {R : Room} {cc : ByteArray} {nL : Nat} {own mn : String} {tb : List ExceptionTableEntry} {J : JT} {X : XT} (C : Cx G l R cc nL own mn tb J X) {pc : Nat} {lv : List (Option Value)} {st : List Value} {S : ST} {A : AB} {k n : Nat}
    {kd t N : Nat} {at' : ArrayType} (d : decode cc pc = .ok (.newarray at', 2)) (h8 : 8 ≤ kd) (h0 : A.2 kd = 0) (ht : aTN kd = (t, N)) (hN : N < 4000) (hty : (at' = .int ∧ t = 0) ∨ (at' = .long ∧ t = 1) ∨ (at' = .boolean ∧ t = 2)) (har : Cond.arrayClass (newarray.typeOf at') ∈ WA) (hkc : k + 1 ≤ R.cells) (hns : n + N ≤ R.slots) (kk : ∀ q : Nat, J (pc + 2) lv (vR (nwA A kd q) kd 0 :: st) (nwS S kd 0) (nwA A kd q) (k + 1) (n + N)) : J pc lv (vI (N : Int) :: st) S A k n := by
  obtain ⟨p, en, s, m, args, below, meth, c, Al, Q, rfl, rfl, hx, hb, hml, hown, hts, hG, hAl, hfl, hmn, htb⟩ := C
  intro H locs ls hl hw hs
  obtain ⟨ws, g1, g2, hP, hD, hA, hW⟩ := hw
  have hr : rI (N : Int) := by unfold rI; omega
  have hneg : ¬ iI (N : Int) < 0 := by
    rw [← iI_0, iI_lt hr rI_0]
    omega
  have hcl : (iI (N : Int)).toNatClampNeg = N := by rw [iI_clamp hr]; rfl
  have fin : ∀ (q : Nat) (H1 : Heap) (e : va_E), e = aCl G (nwA A kd q) (nwS S kd 0) kd → va_P G.1 vwCl (ws ++ [(q, e)]) H1 → va_D Al (ws ++ [(q, e)]) → va_S Al s.heap H1 locs → W p l en R s m args below meth c H1 locs (k + 1) (n + N) Q (F0 m (pc + 2) ls (.ref q :: st)) := by
    intro q H1 e he hP1 hD1 hS1
    have h9 := kk q H1 locs ls hl ?_ hS1
    · have h7 : vR (nwA A kd q) kd 0 = .ref q := by
        rw [vR_ref (by omega)]
        have := nwA_new (A := A) (k := kd) (q := q)
        rw [h0] at this
        rw [this]
      rw [h7] at h9
      exact h9
    · have h6 := HW.nw (k := kd) (q := q) g1 g2 hA hW (fun _ => h0) (e := e) (by rw [cellV_a h8, h0]; exact he) hP1 hD1
      rw [h0] at h6
      exact h6
  have e3 : ∀ j : Int, nwS S kd 0 (32 * kd) j = dfl t := by
    intro j
    unfold nwS
    rw [(tyC_a h8).2, if_pos ⟨rfl, fun h => by omega⟩, (tyC_a h8).1, ht]
  have har' := hts _ har
  rcases hty with ⟨rfl, rfl⟩ | ⟨rfl, rfl⟩ | ⟨rfl, rfl⟩
  · refine va_newa (atype := .int) (ty := .int) (a0 := (N, .inl (fun _ => (0 : Int32)))) hx hb har' rfl hG.1 hP hD hs hAl (fun _ => rfl) hneg hcl (by show N * 4 ≤ _; omega) hkc hns d (fun q cA H1 hK1 hP1 hD1 hS1 => ?_)
    obtain rfl : cA = G.2.1 := arr_same (hK1.2 4 _ rfl).2 (hG.1.2 0 _ rfl).2
    exact fin q H1 _ (by rw [aCl_0 ht]; simp only [e3]; rfl) hP1 hD1 hS1
  · refine va_newa (atype := .long) (ty := .long) (a0 := (N, .inr (.inl (fun _ => (0 : Int64))))) hx hb har' rfl hG.1 hP hD hs hAl (fun _ => rfl) hneg hcl (by show N * 8 ≤ _; omega) hkc hns d (fun q cA H1 hK1 hP1 hD1 hS1 => ?_)
    obtain rfl : cA = G.2.2.1 := arr_same (hK1.2 4 _ rfl).2 (hG.1.2 1 _ rfl).2
    exact fin q H1 _ (by rw [aCl_1 ht]; simp only [e3]; rfl) hP1 hD1 hS1
  · refine va_newa (atype := .boolean) (ty := .boolean) (a0 := (N, .inl (fun _ => (0 : Int32)))) hx hb har' rfl hG.1 hP hD hs hAl (fun _ => rfl) hneg hcl (by show N * 1 ≤ _; omega) hkc hns d (fun q cA H1 hK1 hP1 hD1 hS1 => ?_)
    obtain rfl : cA = G.2.2.2.1 := arr_same (hK1.2 4 _ rfl).2 (hG.1.2 2 _ rfl).2
    exact fin q H1 _ (by rw [aCl_2 ht]; simp only [e3]; rfl) hP1 hD1 hS1
theorem r_newref {G : GT} {l : Launch} {R : Room} {cc : ByteArray} {nL : Nat} {own mn : String} {tb : List ExceptionTableEntry} {J : JT} {X : XT} (C : Cx G l R cc nL own mn tb J X) {pc : Nat} {lv : List (Option Value)} {st : List Value} {S : ST} {A : AB} {k n : Nat}
    {kd N idx : Nat} (d : decode cc pc = .ok (.anewarray idx, 3)) (h8 : 8 ≤ kd) (h0 : A.2 kd = 0) (ht : aTN kd = (6, N)) (hN : N < 4000) (hcl9 : Cond.classLink own idx RX3 ∈ WA) (hkc : k + 1 ≤ R.cells) (hns : n + N ≤ R.slots) (kk : ∀ q : Nat, J (pc + 3) lv (vR (nwA A kd q) kd 0 :: st) (nwS S kd 0) (nwA A kd q) (k + 1) (n + N)) : J pc lv (vI (N : Int) :: st) S A k n := by
  obtain ⟨p, e, s, m, args, below, meth, c, Al, Q, rfl, rfl, hx, hb, hml, hown, hts, hG, hAl, hfl, hmn, htb⟩ := C
  intro H locs ls hl hw hs
  obtain ⟨ws, g1, g2, hP, hD, hA, hW⟩ := hw
  have hr : rI (N : Int) := by unfold rI; omega
  have hneg : ¬ iI (N : Int) < 0 := by
    rw [← iI_0, iI_lt hr rI_0]
    omega
  have hcl : (iI (N : Int)).toNatClampNeg = N := by rw [iI_clamp hr]; rfl
  have e3 : ∀ j : Int, nwS S kd 0 (32 * kd) j = -1 := by
    intro j
    unfold nwS
    rw [(tyC_a h8).2, if_pos ⟨rfl, fun h => by omega⟩, (tyC_a h8).1, ht]
    rfl
  refine va_newq (C := RX3) hx hb hown (hts _ hcl9) hG.2.2.2.2.2.2.2 hG.1 hP hD hs hAl hneg hcl (by omega) hkc hns d (fun q cA H1 hK1 hP1 hD1 hS1 => ?_)
  obtain rfl : cA = G.2.2.2.2 := arr_same (hK1.2 4 _ rfl).2 (hG.1.2 3 _ rfl).2
  have h9 := kk q H1 locs ls hl ?_ hS1
  · have h7 : vR (nwA A kd q) kd 0 = .ref q := by
      rw [vR_ref (by omega)]
      have := nwA_new (A := A) (k := kd) (q := q)
      rw [h0] at this
      rw [this]
    rw [h7] at h9
    exact h9
  · have h6 := HW.nw (k := kd) (q := q) g1 g2 hA hW (fun _ => h0) (e := _) (by rw [cellV_a h8, h0, aCl_6 ht]; simp only [e3]; rfl) hP1 hD1
    rw [h0] at h6
    exact h6
end
section
/-! ===== BEGIN a constructor that throws (launches without stack traces) ===== -/
section VXIA
variable {p : Program} {l : Launch} {e : Env} {R : Room} {s : State} {m : MethodId} {args : Array Value} {below : List Frame} {meth : Method} {c : Code} {T : State} {locs : List Loc} {cells slots : Nat}
theorem vx_callI (X : Stand p l e R s m args below meth c T locs cells slots) (hexec : p.tables.exec = Jvm.exec) {own : String} {index : Nat} {y : MethodName} {bytes : ByteArray} {maxL : Nat}
    (hown : s.vm.findClass own = some m.cls) (hy1 : y.name = "<init>") (hlink : (Cond.methodLink own index y).before args s = true) (hinst : (Cond.instanceMethod y).before args s = true)
    (hcode : (Cond.code y bytes maxL none).before args s = true) (hy : y.cls ≠ "java/lang/invoke/MethodHandle" ∧ y.cls ≠ "java/lang/invoke/VarHandle")
    {W9 : Nat} {Pre : Pt → Array Value → Prop} {Post : Pt → Array Value → Option Value → Pt → Prop} {PostX : Pt → Array Value → Addr → Pt → Prop} (hK : vx_Back l R p e below s args y 3 W9 Pre Post PostX)
    {g : JFrame} (hg : g.method = m) (hsize : g.locals.size = c.maxLocals) {a : Addr} {argsL rest : List Value} (hlen : ∀ sig, parseMethodDescriptor y.desc = some sig → argsL.length = sig.parameters.length)
    (hstack : g.stack = argsL.reverse ++ .ref a :: rest) (hW : 2 * g.monitorRoom + (rest.map fun v => v.category).sum ≤ W9) (hdg : decode c.code g.pc = .ok (.invokespecial index, 3))
    (hpre : ∀ vm₁, s.WarmedH vm₁ → Pre ⟨T.setVm vm₁, locs, cells, slots⟩ (Value.ref a :: argsL).toArray) :
    (∃ (v : Option Value) (vm₁ : Vm) (B : Pt), s.WarmedH vm₁ ∧ Stand p l e R s m args below meth c B.U B.locs B.cells B.slots ∧ Post ⟨T.setVm vm₁, locs, cells, slots⟩ (Value.ref a :: argsL).toArray v B ∧
      ∀ target, Steps p.tables e below (B.U.setTop { g with pc := g.pc + 3, stack := v.toList ++ rest }) target → Steps p.tables e below (T.setTop g) target) ∨
    (∃ (q : Addr) (vm₁ : Vm) (B : Pt), s.WarmedH vm₁ ∧ Stand p l e R s m args below meth c B.U B.locs B.cells B.slots ∧ PostX ⟨T.setVm vm₁, locs, cells, slots⟩ (Value.ref a :: argsL).toArray q B ∧
      Steps p.tables e below (T.setTop g) ((B.U.setTop { g with stack := rest }).pushFrame (.throwing q))) := by
  subst hg
  have hpl : e.platform.magicAccessors = ({} : Platform).magicAccessors := by rw [X.admits.platform]
  obtain ⟨mk, methM, cM, kP, vm₁, hnamed, hmethM, hcodeM, -, hlocalsM, -, hkP, -, hW₁, hstep₁⟩ := Steps.initColdArgs (e := e) X.here hexec X.warmed hpl hown hy1 hy hlink hinst hcode (f := g) rfl hlen hstack hdg
  have X₁ := X.noted hW₁
  rcases hK g.method meth c ⟨T.setVm vm₁, locs, cells, slots⟩ { g with stack := rest } (.invokespecial index) mk (Value.ref a :: argsL).toArray X₁ rfl hsize hdg hW (X₁.named hnamed) (hpre vm₁ X₁.warmed) with ⟨v, B, X', hpost, hsteps⟩ | ⟨q, B, X', hpost, hsteps⟩
  · exact Or.inl ⟨v, vm₁, B, X₁.warmed, X', hpost, fun target h => hstep₁ _ fun acts => by rw [doInvoke_state]; exact hsteps.trans h⟩
  · exact Or.inr ⟨q, vm₁, B, X₁.warmed, X', hpost, hstep₁ _ fun acts => by rw [doInvoke_state]; exact hsteps⟩
end VXIA
section VXIB
variable {p : Program} {l : Launch} {e : Env} {R : Room} {s : State} {m : MethodId} {args : Array Value} {below : List Frame} {meth : Method} {c : Code} {H : Heap} {locs : List Loc} {cells slots : Nat}
variable {y : MethodName} {bytes cc : ByteArray} {maxL nL mc ms n index : Nat} {ret : Option FieldType} {ws : List Cond} {rm : Room} {Pc : Array Value → State → Prop} {Qc : Array Value → State → Outcome → State → Prop} {XC : String → State → State → Prop} {free : Addr → Prop} {Ts : List Cond} {own C : String} {b : Addr} {As rest : List Value} {g : JFrame}
theorem vx_runI (S : CallFix p m c cc nL s args Ts own) (hM : vx_Met l y ws rm Pc Qc XC mc ms free) (cw : CallB R s args own index y bytes maxL none ws rm mc ms n ∧ y.name = "<init>" ∧ (Cond.instanceMethod y).before args s = true) (hp : PreS s H Pc (.ref b :: As))
    (hg : g.method = m) (hn : As.length = n) (hsize : g.locals.size = nL) (hstack : g.stack = As.reverse ++ .ref b :: rest) (hW : 2 * g.monitorRoom + (rest.map fun v => v.category).sum ≤ 8) (hdg : decode cc g.pc = .ok (.invokespecial index, 3)) (hf : cells + mc ≤ R.cells ∧ slots + ms ≤ R.slots) :
    vx_Run p l e R s m args below meth c H locs cells slots mc ms g rest (Qc (Value.ref b :: As).toArray) XC free := by
  have hK : vx_Back l R p e below s args y 3 8 (PreOf R mc ms Pc) (PostOf Qc mc ms free) (vx_Post XC mc ms free) := vx_callBack cw.1 hM hp.1
  obtain ⟨⟨-, -, -, -, -, -, hcode, -, hy, hlen, hl⟩, hy1, hin⟩ := cw
  obtain ⟨hx, hb, hml, ho, -⟩ := S
  have hPc := hp.2
  intro T hT X
  rcases vx_callI X hx (bytes := bytes) (maxL := maxL) ho hy1 hl hin hcode hy hK hg (hsize.trans hml.symm) (a := b) (argsL := As) (rest := rest) (fun sig h => hn.trans (hlen sig h)) hstack hW (by rw [hb]; exact hdg)
    (fun vm₁ hW₁ => ⟨hf.1, hf.2, hPc (T.setVm vm₁) hT hW₁⟩) with ⟨v, vm₁, ⟨U', l2, c2, s2⟩, hW₁, X', ⟨g', mk, t, L, e1, e2, hq, h1, hL, h2, h3⟩, st⟩ | ⟨q, vm₁, ⟨U', l2, c2, s2⟩, hW₁, X', ⟨g', mk, t, L, E, ce, e1, e2, hq, hce, hcv, hcl, h1, hL, h2, h3⟩, st⟩
  · dsimp only [Pt.U, Pt.locs, Pt.cells, Pt.slots] at X' e1 e2 h1 h2 h3 st
    subst h1; subst h2; subst h3
    exact Or.inl ⟨v, (T.setVm vm₁).calling g' mk (Value.ref b :: As).toArray, t, U', L, hT, X', hL, e1, e2, hq, st⟩
  · dsimp only [Pt.U, Pt.locs, Pt.cells, Pt.slots] at X' e1 e2 h1 h2 h3 st hcl
    subst h1; subst h2; subst h3
    exact Or.inr ⟨q, (T.setVm vm₁).calling g' mk (Value.ref b :: As).toArray, t, U', L, E, ce, hT, X', hL, e1, e2, hq, hce, hcv, vx_cls hW₁ hcl, st⟩
end VXIB
/-! ===== END ===== -/
/-! ===== BEGIN a private constructor of a nest mate that throws ===== -/
section VXIC
variable {p : Program} {l : Launch} {e : Env} {R : Room} {s : State} {m : MethodId} {args : Array Value} {below : List Frame} {meth : Method} {c : Code} {T : State} {locs : List Loc} {cells slots : Nat}
theorem vx_callIN (X : Stand p l e R s m args below meth c T locs cells slots) (hexec : p.tables.exec = Jvm.exec) {own : String} {index : Nat} {host : String} {y : MethodName} {bytes : ByteArray} {maxL : Nat}
    (hown : s.vm.findClass own = some m.cls) (hy1 : y.name = "<init>") (hlink : (Cond.methodLinkNest own index y host).before args s = true) (hinst : (Cond.instanceMethod y).before args s = true)
    (hcode : (Cond.code y bytes maxL none).before args s = true) (hy : y.cls ≠ "java/lang/invoke/MethodHandle" ∧ y.cls ≠ "java/lang/invoke/VarHandle")
    {W9 : Nat} {Pre : Pt → Array Value → Prop} {Post : Pt → Array Value → Option Value → Pt → Prop} {PostX : Pt → Array Value → Addr → Pt → Prop} (hK : vx_Back l R p e below s args y 3 W9 Pre Post PostX)
    {g : JFrame} (hg : g.method = m) (hsize : g.locals.size = c.maxLocals) {a : Addr} {argsL rest : List Value} (hlen : ∀ sig, parseMethodDescriptor y.desc = some sig → argsL.length = sig.parameters.length)
    (hstack : g.stack = argsL.reverse ++ .ref a :: rest) (hW : 2 * g.monitorRoom + (rest.map fun v => v.category).sum ≤ W9) (hdg : decode c.code g.pc = .ok (.invokespecial index, 3))
    (hpre : ∀ vm₁, s.WarmedH vm₁ → Pre ⟨T.setVm vm₁, locs, cells, slots⟩ (Value.ref a :: argsL).toArray) :
    (∃ (v : Option Value) (vm₁ : Vm) (B : Pt), s.WarmedH vm₁ ∧ Stand p l e R s m args below meth c B.U B.locs B.cells B.slots ∧ Post ⟨T.setVm vm₁, locs, cells, slots⟩ (Value.ref a :: argsL).toArray v B ∧
      ∀ target, Steps p.tables e below (B.U.setTop { g with pc := g.pc + 3, stack := v.toList ++ rest }) target → Steps p.tables e below (T.setTop g) target) ∨
    (∃ (q : Addr) (vm₁ : Vm) (B : Pt), s.WarmedH vm₁ ∧ Stand p l e R s m args below meth c B.U B.locs B.cells B.slots ∧ PostX ⟨T.setVm vm₁, locs, cells, slots⟩ (Value.ref a :: argsL).toArray q B ∧
      Steps p.tables e below (T.setTop g) ((B.U.setTop { g with stack := rest }).pushFrame (.throwing q))) := by
  subst hg
  have hpl : e.platform.magicAccessors = ({} : Platform).magicAccessors := by rw [X.admits.platform]
  obtain ⟨mk, methM, cM, kP, vm₁, hnamed, hmethM, hcodeM, -, hlocalsM, -, hkP, -, hW₁, hstep₁⟩ := Steps.initColdArgsNest (e := e) X.here hexec X.warmed hpl hown hy1 hy hlink hinst hcode (f := g) rfl hlen hstack hdg
  have X₁ := X.noted hW₁
  rcases hK g.method meth c ⟨T.setVm vm₁, locs, cells, slots⟩ { g with stack := rest } (.invokespecial index) mk (Value.ref a :: argsL).toArray X₁ rfl hsize hdg hW (X₁.named hnamed) (hpre vm₁ X₁.warmed) with ⟨v, B, X', hpost, hsteps⟩ | ⟨q, B, X', hpost, hsteps⟩
  · exact Or.inl ⟨v, vm₁, B, X₁.warmed, X', hpost, fun target h => hstep₁ _ fun acts => by rw [doInvoke_state]; exact hsteps.trans h⟩
  · exact Or.inr ⟨q, vm₁, B, X₁.warmed, X', hpost, hstep₁ _ fun acts => by rw [doInvoke_state]; exact hsteps⟩
end VXIC
section VXID
variable {p : Program} {l : Launch} {e : Env} {R : Room} {s : State} {m : MethodId} {args : Array Value} {below : List Frame} {meth : Method} {c : Code} {H : Heap} {locs : List Loc} {cells slots : Nat}
theorem vx_runIN {y : MethodName} {bytes cc : ByteArray} {maxL nL mc ms n index : Nat} {ws : List Cond} {rm : Room} {Pc : Array Value → State → Prop} {Qc : Array Value → State → Outcome → State → Prop} {XC : String → State → State → Prop} {free : Addr → Prop} {Ts : List Cond} {own host : String} {b : Addr} {As rest : List Value} {g : JFrame}
    (S : CallFix p m c cc nL s args Ts own) (hM : vx_Met l y ws rm Pc Qc XC mc ms free) (cw : va_CN R s args own index y host bytes maxL none ws rm mc ms n ∧ y.name = "<init>" ∧ (Cond.instanceMethod y).before args s = true) (hp : PreS s H Pc (.ref b :: As))
    (hg : g.method = m) (hn : As.length = n) (hsize : g.locals.size = nL) (hstack : g.stack = As.reverse ++ .ref b :: rest) (hW : 2 * g.monitorRoom + (rest.map fun v => v.category).sum ≤ 8) (hdg : decode cc g.pc = .ok (.invokespecial index, 3)) (hf : cells + mc ≤ R.cells ∧ slots + ms ≤ R.slots) :
    vx_Run p l e R s m args below meth c H locs cells slots mc ms g rest (Qc (Value.ref b :: As).toArray) XC free := by
  obtain ⟨⟨⟨hrc, hrs, hfr, hlo, hws, hcw⟩, hcode, hini, hy, hlen, hl⟩, hx1, hx2⟩ := cw
  have hK : vx_Back l R p e below s args y 3 8 (PreOf R mc ms Pc) (PostOf Qc mc ms free) (vx_Post XC mc ms free) := vx_back (bytes := bytes) (maxL := maxL) (ret := none) hM hp.1 hrc hrs hfr hlo hws hcw (fun a' U hW => word_at hW (Or.inl (by first | rfl | simp [Cond.onTables, Cond.keeps, Cond.steady])) hini)
  obtain ⟨hx, hb, hml, ho, -⟩ := S
  have hPc := hp.2
  intro T hT X
  rcases vx_callIN X hx (bytes := bytes) (maxL := maxL) ho hx1 hl hx2 hcode hy hK hg (hsize.trans hml.symm) (a := b) (argsL := As) (rest := rest) (fun sig h => hn.trans (hlen sig h)) hstack hW (by rw [hb]; exact hdg)
    (fun vm₁ hW₁ => ⟨hf.1, hf.2, hPc (T.setVm vm₁) hT hW₁⟩) with ⟨v, vm₁, ⟨U', l2, c2, s2⟩, hW₁, X', ⟨g', mk, t, L, e1, e2, hq, h1, hL, h2, h3⟩, st⟩ | ⟨q, vm₁, ⟨U', l2, c2, s2⟩, hW₁, X', ⟨g', mk, t, L, E, ce, e1, e2, hq, hce, hcv, hcl, h1, hL, h2, h3⟩, st⟩
  · dsimp only [Pt.U, Pt.locs, Pt.cells, Pt.slots] at X' e1 e2 h1 h2 h3 st
    subst h1; subst h2; subst h3
    exact Or.inl ⟨v, (T.setVm vm₁).calling g' mk (Value.ref b :: As).toArray, t, U', L, hT, X', hL, e1, e2, hq, st⟩
  · dsimp only [Pt.U, Pt.locs, Pt.cells, Pt.slots] at X' e1 e2 h1 h2 h3 st hcl
    subst h1; subst h2; subst h3
    exact Or.inr ⟨q, (T.setVm vm₁).calling g' mk (Value.ref b :: As).toArray, t, U', L, E, ce, hT, X', hL, e1, e2, hq, hce, hcv, vx_cls hW₁ hcl, st⟩
end VXID
/-! ===== END ===== -/
/-! ===== BEGIN a method of a class above, found by the receiver, that may throw (follows va_callVU, va_runU of this kit) ===== -/
section
variable {p : Program} {l : Launch} {e : Env} {R : Room} {s : State} {m : MethodId} {args : Array Value} {below : List Frame} {meth : Method} {c : Code} {H : Heap} {locs : List Loc} {cells slots : Nat}
theorem vx_callVU {T : State} {locs : List Loc} {cells slots : Nat} (X : Stand p l e R s m args below meth c T locs cells slots) (hexec : p.tables.exec = Jvm.exec) {own C owner : String} {index : Nat} {x y : MethodName} {bytes : ByteArray} {maxL : Nat} {ret : Option FieldType}
    (hown : s.vm.findClass own = some m.cls) (hlink : (Cond.methodLink own index x).before args s = true) (hsame : (Cond.sameMethod x.cls owner x.name x.desc).before args s = true)
    (hd0 : va_Decl s ⟨owner, x.name, x.desc⟩) (howner : owner ≠ "java/lang/invoke/MethodHandle" ∧ owner ≠ "java/lang/invoke/VarHandle")
    (hsel : (Cond.selects C x y).before args s = true) (hinst : (Cond.instanceMethod y).before args s = true) (hcode : (Cond.code y bytes maxL ret).before args s = true)
    {W : Nat} {Pre : Pt → Array Value → Prop} {Post : Pt → Array Value → Option Value → Pt → Prop} {PostX : Pt → Array Value → Addr → Pt → Prop} (hK : vx_Back l R p e below s args y 3 W Pre Post PostX)
    {b : Addr} {cellB : Cell} (hcell : T.heap[b]? = some cellB) (hobj : cellB.vm.isStatics = false) (hcls : s.vm.findClass C = some cellB.cls)
    {g : JFrame} (hg : g.method = m) (hsize : g.locals.size = c.maxLocals) {argsL rest : List Value} (hlen : ∀ sig, parseMethodDescriptor x.desc = some sig → argsL.length = sig.parameters.length)
    (hstack : g.stack = argsL.reverse ++ .ref b :: rest) (hW : 2 * g.monitorRoom + (rest.map fun v => v.category).sum ≤ W) (hdg : decode c.code g.pc = .ok (.invokevirtual index, 3))
    (hpre : ∀ vm₁, s.WarmedH vm₁ → Pre ⟨T.setVm vm₁, locs, cells, slots⟩ (Value.ref b :: argsL).toArray) :
    (∃ (v : Option Value) (vm₁ : Vm) (B : Pt), s.WarmedH vm₁ ∧ Stand p l e R s m args below meth c B.U B.locs B.cells B.slots ∧ Post ⟨T.setVm vm₁, locs, cells, slots⟩ (Value.ref b :: argsL).toArray v B ∧
      ∀ target, Steps p.tables e below (B.U.setTop { g with pc := g.pc + 3, stack := v.toList ++ rest }) target → Steps p.tables e below (T.setTop g) target) ∨
    (∃ (q : Addr) (vm₁ : Vm) (B : Pt), s.WarmedH vm₁ ∧ Stand p l e R s m args below meth c B.U B.locs B.cells B.slots ∧ PostX ⟨T.setVm vm₁, locs, cells, slots⟩ (Value.ref b :: argsL).toArray q B ∧
      Steps p.tables e below (T.setTop g) ((B.U.setTop { g with stack := rest }).pushFrame (.throwing q))) := by
  obtain ⟨r0, r, hn, hrm, hstR, hsigR⟩ := hd0
  obtain ⟨cn, ck, r1, hcn, hck, hni, hf, hn1⟩ := Cond.sameMethod_found hsame
  cases hn.symm.trans hn1
  obtain ⟨mk, methM, hnamed, hmethM, -, habM⟩ := Cond.instanceMethod_spec hinst
  obtain ⟨c2, r2, m2, q1, q2, q3, q4, kP, hkP, hkPi⟩ := Cond.selects_spec hsel
  cases hcls.symm.trans q1
  cases hf.symm.trans q2
  cases hnamed.symm.trans q3
  have hselP : selectMethod e.platform s.vm cellB.cls r0 = .method mk := by rw [Launch.admits_selectMethod X.admits]; exact q4
  obtain ⟨vm₁, X₁, hstep₁⟩ := X.invokevirtualUp hexec hown hlink hsame howner hn hrm hstR (a := b) (cell := cellB) hcell
    (fun z h => by rw [h] at hobj; cases hobj) hselP hmethM habM hkP hkPi (g := g) hg (argsL := argsL) (rest := rest) (hlen _ hsigR) hstack hdg
  rcases hK m meth c ⟨T.setVm vm₁, locs, cells, slots⟩ { g with stack := rest } (.invokevirtual index) mk (Value.ref b :: argsL).toArray X₁ hg hsize hdg hW (X₁.named hnamed) (hpre vm₁ X₁.warmed) with ⟨v, B, X', hpost, hsteps⟩ | ⟨q, B, X', hpost, hsteps⟩
  · exact Or.inl ⟨v, vm₁, B, X₁.warmed, X', hpost, fun target h => hstep₁ _ fun acts => by rw [doInvoke_state]; exact hsteps.trans h⟩
  · exact Or.inr ⟨q, vm₁, B, X₁.warmed, X', hpost, hstep₁ _ fun acts => by rw [doInvoke_state]; exact hsteps⟩
theorem vx_runU {x y : MethodName} {bytes cc : ByteArray} {maxL nL mc ms n index : Nat} {ret : Option FieldType} {ws : List Cond} {rm : Room} {Pc : Array Value → State → Prop} {Qc : Array Value → State → Outcome → State → Prop} {XC : String → State → State → Prop} {free : Addr → Prop} {Ts : List Cond} {own C owner : String} {b : Addr} {As rest : List Value} {g : JFrame}
    (S : CallFix p m c cc nL s args Ts own) (hM : vx_Met l y ws rm Pc Qc XC mc ms free) (cw : va_CU R s args own C owner index x y bytes maxL ret ws rm mc ms n) (hp : PreV s H C b Pc As)
    (hg : g.method = m) (hn : As.length = n) (hsize : g.locals.size = nL) (hstack : g.stack = As.reverse ++ .ref b :: rest) (hW : 2 * g.monitorRoom + (rest.map fun v => v.category).sum ≤ 8) (hdg : decode cc g.pc = .ok (.invokevirtual index, 3)) (hf : cells + mc ≤ R.cells ∧ slots + ms ≤ R.slots) :
    vx_Run p l e R s m args below meth c H locs cells slots mc ms g rest (Qc (Value.ref b :: As).toArray) XC free := by
  obtain ⟨hrc, hrs, hfr, hlo, hws, hcw⟩ := cw.back
  have hini := cw.init
  have hK : vx_Back l R p e below s args y 3 8 (PreOf R mc ms Pc) (PostOf Qc mc ms free) (vx_Post XC mc ms free) := vx_back (bytes := bytes) (maxL := maxL) (ret := ret) hM hp.1 hrc hrs hfr hlo hws hcw (fun a' U hW => word_at hW (Or.inl (by first | rfl | simp [Cond.onTables, Cond.keeps, Cond.steady])) hini)
  obtain ⟨hx, hb, hml, ho, -⟩ := S
  obtain ⟨-, ⟨cellB, hcB, hoB, hclB⟩, hPc⟩ := hp
  intro T hT X
  rcases vx_callVU X hx (C := C) (owner := owner) (bytes := bytes) (maxL := maxL) (ret := ret) ho cw.link cw.same cw.decl cw.notMH cw.sel cw.inst cw.code hK (by rw [hT]; exact hcB) hoB hclB hg (hsize.trans hml.symm) (argsL := As) (rest := rest) (fun sig h => hn.trans (cw.len sig h)) hstack hW (by rw [hb]; exact hdg)
    (fun vm₁ hW₁ => ⟨hf.1, hf.2, hPc (T.setVm vm₁) hT hW₁⟩) with ⟨v, vm₁, ⟨U', l2, c2, s2⟩, hW₁, X', ⟨g', mk, t, L, e1, e2, hq, h1, hL, h2, h3⟩, st⟩ | ⟨q, vm₁, ⟨U', l2, c2, s2⟩, hW₁, X', ⟨g', mk, t, L, E, ce, e1, e2, hq, hce, hcv, hcl, h1, hL, h2, h3⟩, st⟩
  · dsimp only [Pt.U, Pt.locs, Pt.cells, Pt.slots] at X' e1 e2 h1 h2 h3 st
    subst h1; subst h2; subst h3
    exact Or.inl ⟨v, (T.setVm vm₁).calling g' mk (Value.ref b :: As).toArray, t, U', L, hT, X', hL, e1, e2, hq, st⟩
  · dsimp only [Pt.U, Pt.locs, Pt.cells, Pt.slots] at X' e1 e2 h1 h2 h3 st hcl
    subst h1; subst h2; subst h3
    exact Or.inr ⟨q, (T.setVm vm₁).calling g' mk (Value.ref b :: As).toArray, t, U', L, E, ce, hT, X', hL, e1, e2, hq, hce, hcv, vx_cls hW₁ hcl, st⟩
end
/-! ===== END ===== -/
/-! a static method that the named class inherits (follows invokestatic.wp_cold, invokestatic and invokevirtualUp of the library; vx_callS, vx_runS) -/
section STUP
theorem stup_cold {Q : Unit → Pre} {E : CtlPost} {e : Env} {d : Bool} {acts : List Action} {s s₀ : State} {f : JFrame} {index ci n cN : Nat} {m : MethodId} {dk ck : Class} {cf : ClassFile} {name desc : String} (hs : s.topJava?.isSome) (hp : e.platform.polymorphicOnlyByInvokevirtual = true)
    (hW : s₀.WarmedH s.vm) (hE : s₀.MethodEntryUp e s.vm f.method.cls index cN m ci) (h1 : s₀.vm.classes[f.method.cls]? = some dk) (h2 : dk.cf = some cf)
    (h3 : cf.constantPool[index]? = some (.methodref ci n)) (h4 : cf.constantPool.nameAndType? n = some (name, desc))
    (hck : s₀.vm.classes[cN]? = some ck) (hnone : (ck.methods.any fun x => x.name == name && !x.isStatic && signaturePolymorphic ck x) = false) :
    wp (Jvm.Op.invokestatic.sem index) Q E e d acts (s.setTop f) ↔ wp (Jvm.Op.invokestatic.sem index) Q E e d acts ((s.setVm (s.vm.calledUp f.method.cls ci index cN m)).setTop f) := by
  obtain ⟨hgc, hrc, hW₁, hgm⟩ := hE.classFirst
  obtain ⟨k₀, hk₀, he₀⟩ := hW.alike.2.2 _ _ h1
  obtain ⟨k₂, hk₂, he₂⟩ := hE.warmed.alike.2.2 _ _ h1
  obtain ⟨c₁, hc₁, hec₁⟩ := hW₁.alike.2.2 _ _ hck
  obtain ⟨c₂, hc₂, hec₂⟩ := hE.warmed.alike.2.2 _ _ hck
  have hb₀ := memberRef_ask_via (via := false) (e := e) hk₀ (by rw [he₀]; exact h2) h3 h4
  have hb₂ := memberRef_ask_via (via := false) (e := e) hk₂ (by rw [he₂]; exact h2) h3 h4
  have hn₁ : (c₁.methods.any fun x => x.name == name && !x.isStatic && signaturePolymorphic c₁ x) = false := by rw [hec₁]; exact hnone
  have hn₂ : (c₂.methods.any fun x => x.name == name && !x.isStatic && signaturePolymorphic c₂ x) = false := by rw [hec₂]; exact hnone
  have hs₁ : (s.setVm (s.vm.noted f.method.cls ci (.cls cN))).topJava?.isSome := hs
  have hs₂ : (s.setVm (s.vm.calledUp f.method.cls ci index cN m)).topJava?.isSome := hs
  have hL : ∀ {Q' : ClassId → Pre} {d' : Bool} {acts' : List Action}, wp (Jvm.resolveClassAt ci) Q' E e d' acts' (s.setTop f) ↔ Q' cN d' acts' ((s.setVm (s.vm.noted f.method.cls ci (.cls cN))).setTop f) :=
    W.resolveClassAt_links (t := s.setTop f) (State.method?_setTop f hs) hgc
  have hM : ∀ {Q' : MethodId → Pre} {d' : Bool} {acts' : List Action}, wp (Jvm.resolveMethodAt index) Q' E e d' acts' ((s.setVm (s.vm.noted f.method.cls ci (.cls cN))).setTop f) ↔ Q' m d' acts' ((s.setVm (s.vm.calledUp f.method.cls ci index cN m)).setTop f) :=
    W.resolveMethodAt_links (t := (s.setVm (s.vm.noted f.method.cls ci (.cls cN))).setTop f) (State.method?_setTop f hs₁) hgm
  simp [Jvm.Op.invokestatic.sem, hp, Seam.memberRefOf, State.method?_setTop f hs, State.method?_setTop f hs₂, hb₀, hb₂, hL, W.resolveClassAt_ready (s := (s.setVm (s.vm.calledUp f.method.cls ci index cN m)).setTop f) (State.method?_setTop f hs₂) hE.classReady,
    hc₁, hc₂, hn₁, hn₂, hM, W.resolveMethodAt_ready (s := (s.setVm (s.vm.calledUp f.method.cls ci index cN m)).setTop f) (State.method?_setTop f hs₂) hE.ready, -Array.any_eq_true]
variable {p : Program} {l : Launch} {e : Env} {R : Room} {s : State} {m : MethodId} {args : Array Value} {below : List Frame} {meth : Method} {c : Code} {T : State} {H : Heap} {locs : List Loc} {cells slots : Nat}
theorem stup (X : Stand p l e R s m args below meth c T locs cells slots) (hexec : p.tables.exec = Jvm.exec)
    {own owner : String} {index : Nat} {x : MethodName} (hown : s.vm.findClass own = some m.cls) (hlink : (Cond.methodLink own index x).before args s = true)
    (hsame : (Cond.sameMethod x.cls owner x.name x.desc).before args s = true) (howner : owner ≠ "java/lang/invoke/MethodHandle" ∧ owner ≠ "java/lang/invoke/VarHandle")
    {m' : MethodId} {meth' : Method} {k' : Class} (hn : s.methodNamed? ⟨owner, x.name, x.desc⟩ = some m') (hm' : s.vm.method? m' = some meth') (hstatic : meth'.isStatic = true)
    (hk' : s.vm.classes[m'.cls]? = some k') (hinit : k'.init = .initialized)
    {g : JFrame} (hg : g.method = m) {argsL rest : List Value} (hlen : argsL.length = meth'.sig.parameters.length) (hstack : g.stack = argsL.reverse ++ rest)
    (hdg : decode c.code g.pc = .ok (.invokestatic index, 3)) :
    ∃ vm', Stand p l e R s m args below meth c (T.setVm vm') locs cells slots ∧
      ∀ target, (∀ acts, Steps p.tables e below (doInvoke e ((T.setVm vm').setTop { g with stack := rest }) acts m' argsL.toArray).1 target) → Steps p.tables e below (T.setTop g) target := by
  have hpl : e.platform.magicAccessors = ({} : Platform).magicAccessors := by rw [X.admits.platform]
  have hpv : e.platform.polymorphicOnlyByInvokevirtual = true := by rw [X.admits.platform]
  obtain ⟨cn, ck, r1, hcn, hck, hni, hf, hn1⟩ := Cond.sameMethod_found hsame
  cases hn.symm.trans hn1
  obtain ⟨ci, hl, hright⟩ := Cond.methodLink_specUp hown hcn hck hni hf hlink e.platform hpl (by rw [X.admits.platform])
  have hE : s.MethodEntryUp e T.vm m.cls index cn m' ci := State.methodEntryUp X.warmed hl hright
  obtain ⟨kr, hkr, hnr⟩ := className_of_methodNamed hn
  cases hk'.symm.trans hkr
  obtain ⟨dk, cfile, nt, mname, mdesc, ck9, _, _, hd, hcf, hcp, hnt, -, -, hck9, -, hpoly, -⟩ := hl.here
  cases hck.symm.trans hck9
  have alike := hE.warmed.alike
  obtain ⟨dk₂, hdk₂, hres⟩ := hE.classReady
  obtain ⟨dk₃, hdk₃, hed⟩ := alike.2.2 _ _ hd
  cases hdk₂.symm.trans hdk₃
  obtain ⟨k₂, hk₂, he₂⟩ := alike.2.2 _ _ hk'
  obtain ⟨ck₂, hck₂, hec⟩ := alike.2.2 _ _ hck
  have hnone : (ck.methods.any fun y => y.name == mname && !y.isStatic && signaturePolymorphic ck y) = false := by simp [hpoly]
  have hnone₂ : (ck₂.methods.any fun y => y.name == mname && !y.isStatic && signaturePolymorphic ck₂ y) = false := by rw [hec]; exact hnone
  refine ⟨T.vm.calledUp m.cls ci index cn m', X.noted hE.warmed, fun target hrest => ?_⟩
  subst hg
  jvm_step X.here [hexec, hdg, stup_cold (e := e) (s := T) (s₀ := s) (f := g) X.here.top hpv X.warmed hE hd hcf hcp hnt hck hnone,
    Jvm.Op.invokestatic.wp_ready (e := e) (s := T.setVm (T.vm.calledUp g.method.cls ci index cn m')) (k := k₂) (meth := meth') (m := m') (args := argsL) (rest := rest) (f := g)
      X.here.top ⟨ci, mname, mdesc, false, cn, ck₂, memberRef_ask_via (via := false) (e := e) hdk₂ (by rw [hed]; exact hcf) hcp hnt, ⟨dk₂, hdk₂, hres⟩, hck₂, hnone₂⟩ hE.ready hk₂
      (by show (T.vm.calledUp g.method.cls ci index cn m').method? m' = some meth'; rw [alike.method?]; exact hm') (by rw [he₂]; exact signaturePolymorphic_of_name (by rw [hnr]; exact howner) meth') hstatic (by rw [he₂]; exact hinit) hlen hstack]
  exact fun acts => hrest _
theorem vx_callSO (X : Stand p l e R s m args below meth c T locs cells slots) (hexec : p.tables.exec = Jvm.exec) {own : String} {index : Nat} {x y : MethodName} {bytes : ByteArray} {maxL : Nat} {ret : Option FieldType}
    (hown : s.vm.findClass own = some m.cls) (hlink : (Cond.methodLink own index x).before args s = true) (hsame : (Cond.sameMethod x.cls y.cls x.name x.desc).before args s = true) (hyx : y = ⟨y.cls, x.name, x.desc⟩) (hstat : (Cond.static y).before args s = true) (hinit : (Cond.initialized y.cls).before args s = true)
    (hcode : (Cond.code y bytes maxL ret).before args s = true) (hy : y.cls ≠ "java/lang/invoke/MethodHandle" ∧ y.cls ≠ "java/lang/invoke/VarHandle")
    {W9 : Nat} {Pre : Pt → Array Value → Prop} {Post : Pt → Array Value → Option Value → Pt → Prop} {PostX : Pt → Array Value → Addr → Pt → Prop} (hK : vx_Back l R p e below s args y 3 W9 Pre Post PostX)
    {g : JFrame} (hg : g.method = m) (hsize : g.locals.size = c.maxLocals) {argsL rest : List Value} (hlen : ∀ sig, parseMethodDescriptor y.desc = some sig → argsL.length = sig.parameters.length)
    (hstack : g.stack = argsL.reverse ++ rest) (hW : 2 * g.monitorRoom + (rest.map fun v => v.category).sum ≤ W9) (hdg : decode c.code g.pc = .ok (.invokestatic index, 3))
    (hpre : ∀ vm₁, s.WarmedH vm₁ → Pre ⟨T.setVm vm₁, locs, cells, slots⟩ argsL.toArray) :
    (∃ (v : Option Value) (vm₁ : Vm) (B : Pt), s.WarmedH vm₁ ∧ Stand p l e R s m args below meth c B.U B.locs B.cells B.slots ∧ Post ⟨T.setVm vm₁, locs, cells, slots⟩ argsL.toArray v B ∧
      ∀ target, Steps p.tables e below (B.U.setTop { g with pc := g.pc + 3, stack := v.toList ++ rest }) target → Steps p.tables e below (T.setTop g) target) ∨
    (∃ (q : Addr) (vm₁ : Vm) (B : Pt), s.WarmedH vm₁ ∧ Stand p l e R s m args below meth c B.U B.locs B.cells B.slots ∧ PostX ⟨T.setVm vm₁, locs, cells, slots⟩ argsL.toArray q B ∧
      Steps p.tables e below (T.setTop g) ((B.U.setTop { g with stack := rest }).pushFrame (.throwing q))) := by
  obtain ⟨mk, hnamed⟩ := Cond.code_named hcode
  obtain ⟨methM, cM, hmethM, -, -, -, -, -, -, hsigM⟩ := Cond.code_spec hnamed hcode
  have hstatic : methM.isStatic = true := Cond.static_spec hnamed hmethM hstat
  obtain ⟨kP, hkP, -⟩ := className_of_methodNamed hnamed
  have hinitP : kP.init = .initialized := Cond.initialized_spec (findClass_of_methodNamed hnamed) hkP hinit
  obtain ⟨vm₁, X₁, hstep₁⟩ := stup X hexec hown hlink hsame hy (by rw [← hyx]; exact hnamed) hmethM hstatic hkP hinitP (g := g) hg (argsL := argsL) (rest := rest) (hlen _ hsigM) hstack hdg
  rcases hK m meth c ⟨T.setVm vm₁, locs, cells, slots⟩ { g with stack := rest } (.invokestatic index) mk argsL.toArray X₁ hg hsize hdg hW (X₁.named hnamed) (hpre vm₁ X₁.warmed) with ⟨v, B, X', hpost, hsteps⟩ | ⟨q, B, X', hpost, hsteps⟩
  · exact Or.inl ⟨v, vm₁, B, X₁.warmed, X', hpost, fun target h => hstep₁ _ fun acts => by rw [doInvoke_state]; exact hsteps.trans h⟩
  · exact Or.inr ⟨q, vm₁, B, X₁.warmed, X', hpost, hstep₁ _ fun acts => by rw [doInvoke_state]; exact hsteps⟩
end STUP
end
section
/-! calls -/
theorem preB_blind {G : GT} {S : ST} {A : AB} {sz : Nat} {av : List Value} : FrameBlind (PreB G S A sz av) := fun a U g mk h => ⟨h.1, h.2.1, h.2.2.1, h.2.2.2.calling g mk a⟩
theorem preB_ok {G : GT} {S : ST} {A : AB} {Al : Nat → Prop} {s : State} {H : Heap} {locs : List Loc} (hw : HW G S A Al H) (hs : va_S Al s.heap H locs) (hG : GE G Al s) (hAl : ∀ q, s.heap.size ≤ q → Al q) (av : List Value) : ∀ U : State, U.heap = H → s.WarmedH U.vm → PreB G S A H.size av av.toArray U := fun U hU hW => by
  refine ⟨rfl, by rw [hU], by rw [hU]; exact hw.weaken (fun _ _ _ => trivial), hG.moved hW hU hs.2.1 (fun q hq => ?_)⟩
  rcases hq with ⟨k, z, hl, rfl⟩ | hq
  · exact (hw.in hl).1
  · exact hAl q (Nat.le_trans hs.1 hq)
theorem j_run {G : GT} {p : Program} {l : Launch} {e : Env} {R : Room} {s : State} {m : MethodId} {args : Array Value} {below : List Frame} {meth : Method} {c : Code} {H : Heap} {locs : List Loc} {k n mc ms pc nL : Nat} {ls : Array Slot} {lv : List (Option Value)} {st0 rest : List Value} {Q : State → Prop} {Al : Nat → Prop} {S : ST} {A : AB} {a : Array Value} {Po : Option Value → ST → AB → Prop} {XPo : String → ST → AB → Prop}
    (hr : vx_Run p l e R s m args below meth c H locs k n mc ms (F0 m pc ls st0) rest (QB G Po A H.size a) (XB G XPo A H.size) (fA A H.size)) (hl : LH ls nL lv) (hw : HW G S A Al H) (hs : va_S Al s.heap H locs) (hAl : ∀ q, s.heap.size ≤ q → Al q)
    (kx : ∀ (E : String) (S' : ST) (A' : AB), XPo E S' A' → ∀ (H1 : Heap) (locs1 : List Loc) (ls1 : Array Slot) (rest1 : List Value) (q9 : Addr) (ce : Cell), LH ls1 nL lv → HW G S' A' Al H1 → va_S Al s.heap H1 locs1 → H1[q9]? = some ce → ce.vm = .none → s.vm.findClass E = some ce.cls → vx_W p l e R s m args below meth c H1 locs1 (k + mc) (n + ms) Q (F0 m pc ls1 rest1) q9)
    (kk : ∀ (r : Option Value) (S' : ST) (A' : AB), Po r S' A' → ∀ (H1 : Heap) (locs1 : List Loc) (ls1 : Array Slot), LH ls1 nL lv → HW G S' A' Al H1 → va_S Al s.heap H1 locs1 → W p l e R s m args below meth c H1 locs1 (k + mc) (n + ms) Q (F0 m (pc + 3) ls1 (r.toList ++ rest))) : W p l e R s m args below meth c H locs k n Q (F0 m pc ls st0) := by
  have hsub : ∀ q, fA A H.size q → Al q := by
    intro q hq
    rcases hq with ⟨k9, z, hl9, rfl⟩ | hq
    · exact (hw.in hl9).1
    · exact hAl q (Nat.le_trans hs.1 hq)
  intro T hT X
  rcases hr T hT X with ⟨v, st₀, t, T', L, h0, X', hL, e1, e2, ⟨⟨r, S', A', hv, hpo, hw1⟩, hF⟩, st⟩ | ⟨q, st₀, t, T', L, E, ce, h0, X', hL, e1, e2, ⟨⟨S', A', hpo, hw1⟩, hF⟩, hce, hcv, hcl, st⟩
  · obtain ⟨k1, k2, k3⟩ := vx_keep h0 e1 hs (fun q _ h => hsub q h) hsub hL hF
    cases hv
    obtain ⟨t2, a1, b1⟩ := kk v S' A' hpo T'.heap (locs ++ L) ls hl (by rw [e1]; exact hw1.weaken (fun k z hlv => hsub _ (hw1.in hlv).1)) k3 T' rfl X'
    exact ⟨t2, st t2 a1, b1⟩
  · obtain ⟨k1, k2, k3⟩ := vx_keep h0 e1 hs (fun q _ h => hsub q h) hsub hL hF
    obtain ⟨t2, a1, b1⟩ := kx E S' A' hpo T'.heap (locs ++ L) ls rest q ce hl (by rw [e1]; exact hw1.weaken (fun k z hlv => hsub _ (hw1.in hlv).1)) k3 (by rw [e1]; exact hce) hcv hcl T' rfl X'
    exact ⟨t2, st.trans a1, b1⟩
def MHn (y : MethodName) (np : Nat) : Prop := y.cls ≠ "java/lang/invoke/MethodHandle" ∧ y.cls ≠ "java/lang/invoke/VarHandle" ∧ (parseMethodDescriptor y.desc).map (fun d => d.parameters.length) = some np
theorem WA_app {ws1 ws2 : List Cond} (h1 : ∀ w ∈ ws1, w ∈ WA) (h2 : GoodIn WA ws2) : GoodIn WA (ws1 ++ ws2) := fun w h => (List.mem_append.mp h).elim (fun h => ⟨h1 w h, WA_good w (h1 w h)⟩) (h2 w)
theorem WA_code {w : Cond} (h : w ∈ WA) : GoodIn WA (w :: WA) := fun w' h' => by
  rcases List.mem_cons.mp h' with rfl | h'
  · exact ⟨h, WA_good _ h⟩
  · exact ⟨h', WA_good _ h'⟩
theorem in_2 {a b : Cond} {P : Cond → Prop} (ha : P a) (hb : P b) : ∀ w ∈ [a, b], P w := fun w h => by
  rcases List.mem_cons.mp h with rfl | h
  · exact ha
  · rw [List.mem_singleton.mp h]; exact hb
theorem in_3 {a b c : Cond} {P : Cond → Prop} (ha : P a) (hb : P b) (hc : P c) : ∀ w ∈ [a, b, c], P w := fun w h => (List.mem_cons.mp h).elim (fun e => by rw [e]; exact ha) (in_2 hb hc w)
theorem in_4 {a b c d : Cond} {P : Cond → Prop} (ha : P a) (hb : P b) (hc : P c) (hd : P d) : ∀ w ∈ [a, b, c, d], P w := fun w h => (List.mem_cons.mp h).elim (fun e => by rw [e]; exact ha) (in_3 hb hc hd w)
theorem in_5 {a b c d e : Cond} {P : Cond → Prop} (ha : P a) (hb : P b) (hc : P c) (hd : P d) (he : P e) : ∀ w ∈ [a, b, c, d, e], P w := fun w h => (List.mem_cons.mp h).elim (fun e => by rw [e]; exact ha) (in_4 hb hc hd he w)
/-- a static call's link -/
def LkS (own : String) (idx : Nat) (y : MethodName) (bytes : ByteArray) (maxL : Nat) (ret : Option FieldType) (np : Nat) : Prop := Cond.methodLink own idx y ∈ WA ∧ Cond.static y ∈ WA ∧ Cond.initialized y.cls ∈ WA ∧ Cond.code y bytes maxL ret ∈ WA ∧ MHn y np
def LkW (own : String) (idx : Nat) (y : MethodName) (bytes : ByteArray) (maxL : Nat) (ret : Option FieldType) (hh : List (Nat × Nat × Nat × Nat)) (np : Nat) : Prop := Cond.methodLink own idx y ∈ WA ∧ Cond.static y ∈ WA ∧ Cond.initialized y.cls ∈ WA ∧ Cond.codeWith y bytes maxL ret hh ∈ WA ∧ MHn y np
def LkO (own : String) (idx : Nat) (x y : MethodName) (bytes : ByteArray) (maxL : Nat) (ret : Option FieldType) (np : Nat) : Prop := Cond.methodLink own idx x ∈ WA ∧ Cond.sameMethod x.cls y.cls x.name x.desc ∈ WA ∧ y = ⟨y.cls, x.name, x.desc⟩ ∧ Cond.static y ∈ WA ∧ Cond.initialized y.cls ∈ WA ∧ Cond.code y bytes maxL ret ∈ WA ∧ MHn y np
def LkV (own : String) (idx : Nat) (kd : Nat) (y : MethodName) (bytes : ByteArray) (maxL : Nat) (ret : Option FieldType) (np : Nat) : Prop := (∃ T N, vwCl[kd]? = some (y.cls, T, N)) ∧ Cond.methodLink own idx y ∈ WA ∧ Cond.instanceMethod y ∈ WA ∧ Cond.selects y.cls y y ∈ WA ∧ Cond.initialized y.cls ∈ WA ∧ Cond.code y bytes maxL ret ∈ WA ∧ MHn y np
/-- .. of a method that another class declares -/
def LkU (own : String) (idx : Nat) (kd : Nat) (owner : String) (x y : MethodName) (bytes : ByteArray) (maxL : Nat) (ret : Option FieldType) (np : Nat) : Prop := (∃ C T N, vwCl[kd]? = some (C, T, N) ∧ Cond.selects C x y ∈ WA) ∧ Cond.methodLink own idx x ∈ WA ∧ Cond.sameMethod x.cls owner x.name x.desc ∈ WA ∧ Cond.instanceMethod y ∈ WA ∧ Cond.initialized y.cls ∈ WA ∧ Cond.code y bytes maxL ret ∈ WA ∧ (⟨owner, x.name, x.desc⟩ ∈ ndL ∨ y = ⟨owner, x.name, x.desc⟩) ∧ owner ≠ "java/lang/invoke/MethodHandle" ∧ owner ≠ "java/lang/invoke/VarHandle" ∧ (parseMethodDescriptor x.desc).map (fun d => d.parameters.length) = some np
def LkI (own : String) (idx : Nat) (y : MethodName) (bytes : ByteArray) (maxL : Nat) (np : Nat) : Prop := Cond.methodLink own idx y ∈ WA ∧ Cond.instanceMethod y ∈ WA ∧ Cond.initialized y.cls ∈ WA ∧ Cond.code y bytes maxL none ∈ WA ∧ y.name = "<init>" ∧ MHn y np
/-- .. a nest mate's private constructor -/
def LkN (own : String) (idx : Nat) (y : MethodName) (bytes : ByteArray) (maxL : Nat) (np : Nat) : Prop := (own, idx, y) ∈ nmL ∧ Cond.instanceMethod y ∈ WA ∧ Cond.initialized y.cls ∈ WA ∧ Cond.code y bytes maxL none ∈ WA ∧ y.name = "<init>" ∧ MHn y np
theorem r_callS {G : GT} {l : Launch} {R : Room} {cc : ByteArray} {nL : Nat} {own mn : String} {tb : List ExceptionTableEntry} {J : JT} {X : XT} (C : Cx G l R cc nL own mn tb J X) {pc : Nat} {lv : List (Option Value)} {S : ST} {A : AB} {k n : Nat} {idx : Nat} {bytes : ByteArray} {maxL np : Nat} {rm : Room} {Po : Option Value → ST → AB → Prop} {XPo : String → ST → AB → Prop} {av rest : List Value} {y : MethodName} {ret : Option FieldType} (hc : CT G l y bytes maxL ret rm S A av Po XPo) (d : decode cc pc = .ok (.invokestatic idx, 3)) (L : LkS own idx y bytes maxL ret np) (hn : av.length = np) (hR : rm.frames + 1 ≤ R.frames ∧ 8 + (maxL + 11) + rm.locals ≤ R.locals) (hcat : (rest.map fun v => v.category).sum ≤ 8) (hkc : k + rm.cells ≤ R.cells) (hns : n + rm.slots ≤ R.slots) (kx : ∀ (E : String) (S' : ST) (A' : AB), XPo E S' A' → X E pc lv S' A' (k + rm.cells) (n + rm.slots)) (kk : ∀ (r : Option Value) (S' : ST) (A' : AB), Po r S' A' → J (pc + 3) lv (r.toList ++ rest) S' A' (k + rm.cells) (n + rm.slots)) : J pc lv (av.reverse ++ rest) S A k n := by
  obtain ⟨p, e, s, m, args, below, meth, c, Al, Q, rfl, rfl, hx, hb, hml, hown, hts, hG, hAl, hfl, hmn, htb⟩ := C
  intro H locs ls hl hw hs
  obtain ⟨l1, l2, l3, l4, l5⟩ := L
  exact j_run (vx_runS (As := av) (rest := rest) ⟨hx, hb, hml, hown, hts⟩ (hc H.size) (va_cwS np hts (WA_app (in_3 l1 l2 l3) (WA_code l4)) rfl rfl rfl l5 hR) ⟨preB_blind, preB_ok hw hs hG hAl _⟩ rfl hn hl.1 rfl (lv_room hcat) d ⟨hkc, hns⟩) hl hw hs hAl kx kk
theorem r_callW {G : GT} {l : Launch} {R : Room} {cc : ByteArray} {nL : Nat} {own mn : String} {tb : List ExceptionTableEntry} {J : JT} {X : XT} (C : Cx G l R cc nL own mn tb J X) {pc : Nat} {lv : List (Option Value)} {S : ST} {A : AB} {k n : Nat} {idx : Nat} {bytes : ByteArray} {maxL np : Nat} {rm : Room} {Po : Option Value → ST → AB → Prop} {XPo : String → ST → AB → Prop} {av rest : List Value} {y : MethodName} {ret : Option FieldType} {hh : List (Nat × Nat × Nat × Nat)} (hc : CTH G l y bytes maxL ret hh rm S A av Po XPo) (d : decode cc pc = .ok (.invokestatic idx, 3)) (L : LkW own idx y bytes maxL ret hh np) (hn : av.length = np) (hR : rm.frames + 1 ≤ R.frames ∧ 8 + (maxL + 11) + rm.locals ≤ R.locals) (hcat : (rest.map fun v => v.category).sum ≤ 8) (hkc : k + rm.cells ≤ R.cells) (hns : n + rm.slots ≤ R.slots) (kx : ∀ (E : String) (S' : ST) (A' : AB), XPo E S' A' → X E pc lv S' A' (k + rm.cells) (n + rm.slots)) (kk : ∀ (r : Option Value) (S' : ST) (A' : AB), Po r S' A' → J (pc + 3) lv (r.toList ++ rest) S' A' (k + rm.cells) (n + rm.slots)) : J pc lv (av.reverse ++ rest) S A k n := by
  obtain ⟨p, e, s, m, args, below, meth, c, Al, Q, rfl, rfl, hx, hb, hml, hown, hts, hG, hAl, hfl, hmn, htb⟩ := C
  intro H locs ls hl hw hs
  obtain ⟨l1, l2, l3, l4, l5⟩ := L
  exact j_run (vx_runSX (As := av) (rest := rest) ⟨hx, hb, hml, hown, hts⟩ (hc H.size) (vx_cwSW np hts (WA_app (in_3 l1 l2 l3) (WA_code l4)) rfl rfl rfl l5 hR) ⟨preB_blind, preB_ok hw hs hG hAl _⟩ rfl hn hl.1 rfl (lv_room hcat) d ⟨hkc, hns⟩) hl hw hs hAl kx kk
theorem r_callV {G : GT} {l : Launch} {R : Room} {cc : ByteArray} {nL : Nat} {own mn : String} {tb : List ExceptionTableEntry} {J : JT} {X : XT} (C : Cx G l R cc nL own mn tb J X) {pc : Nat} {lv : List (Option Value)} {S : ST} {A : AB} {k n : Nat} {idx : Nat} {bytes : ByteArray} {maxL np : Nat} {rm : Room} {Po : Option Value → ST → AB → Prop} {XPo : String → ST → AB → Prop} {av rest : List Value} {kd : Nat} {z : Int} {y : MethodName} {ret : Option FieldType} (hc : CT G l y bytes maxL ret rm S A (vR A kd z :: av) Po XPo) (d : decode cc pc = .ok (.invokevirtual idx, 3)) (L : LkV own idx kd y bytes maxL ret np) (hn : av.length = np) (hz : lv1 A kd z) (hR : rm.frames + 1 ≤ R.frames ∧ 8 + (maxL + 11) + rm.locals ≤ R.locals) (hcat : (rest.map fun v => v.category).sum ≤ 8) (hkc : k + rm.cells ≤ R.cells) (hns : n + rm.slots ≤ R.slots) (kx : ∀ (E : String) (S' : ST) (A' : AB), XPo E S' A' → X E pc lv S' A' (k + rm.cells) (n + rm.slots)) (kk : ∀ (r : Option Value) (S' : ST) (A' : AB), Po r S' A' → J (pc + 3) lv (r.toList ++ rest) S' A' (k + rm.cells) (n + rm.slots)) : J pc lv (av.reverse ++ vR A kd z :: rest) S A k n := by
  obtain ⟨p, e, s, m, args, below, meth, c, Al, Q, rfl, rfl, hx, hb, hml, hown, hts, hG, hAl, hfl, hmn, htb⟩ := C
  intro H locs ls hl hw hs
  obtain ⟨⟨T, N, l0⟩, l1, l2, l3, l4, l5, l6⟩ := L
  have hrecv : ∃ cellB : Cell, H[A.1 kd z]? = some cellB ∧ cellB.vm.isStatics = false ∧ s.vm.findClass y.cls = some cellB.cls := by
    obtain ⟨ws, g1, g2, hP, hD, hA, hW⟩ := hw
    obtain ⟨q0, hq⟩ := HW.at (Al := Al) (H := H) g1 hz
    rw [cellV_o (KF kd _ l0).1] at hq
    exact va_recv (q := (y.cls, T, N)) hG.1 hP l0 hq
  rw [vR_ref hz.1] at hc ⊢
  exact j_run (vx_runV (As := av) (rest := rest) (C := y.cls) ⟨hx, hb, hml, hown, hts⟩ (hc H.size) (cwV np hts (WA_app (in_4 l1 l2 l3 l4) (WA_code l5)) rfl rfl rfl ⟨rfl, l6⟩ hR) ⟨preB_blind, hrecv, preB_ok hw hs hG hAl _⟩ rfl hn hl.1 rfl (lv_room hcat) d ⟨hkc, hns⟩) hl hw hs hAl kx kk
theorem r_callU {G : GT} {l : Launch} {R : Room} {cc : ByteArray} {nL : Nat} {own mn : String} {tb : List ExceptionTableEntry} {J : JT} {X : XT} (C : Cx G l R cc nL own mn tb J X) {pc : Nat} {lv : List (Option Value)} {S : ST} {A : AB} {k n : Nat} {idx : Nat} {bytes : ByteArray} {maxL np : Nat} {rm : Room} {Po : Option Value → ST → AB → Prop} {XPo : String → ST → AB → Prop} {av rest : List Value} {kd : Nat} {z : Int} {owner : String} {x y : MethodName} {ret : Option FieldType} (hc : CT G l y bytes maxL ret rm S A (vR A kd z :: av) Po XPo) (d : decode cc pc = .ok (.invokevirtual idx, 3)) (L : LkU own idx kd owner x y bytes maxL ret np) (hn : av.length = np) (hz : lv1 A kd z) (hR : rm.frames + 1 ≤ R.frames ∧ 8 + (maxL + 11) + rm.locals ≤ R.locals) (hcat : (rest.map fun v => v.category).sum ≤ 8) (hkc : k + rm.cells ≤ R.cells) (hns : n + rm.slots ≤ R.slots) (kx : ∀ (E : String) (S' : ST) (A' : AB), XPo E S' A' → X E pc lv S' A' (k + rm.cells) (n + rm.slots)) (kk : ∀ (r : Option Value) (S' : ST) (A' : AB), Po r S' A' → J (pc + 3) lv (r.toList ++ rest) S' A' (k + rm.cells) (n + rm.slots)) : J pc lv (av.reverse ++ vR A kd z :: rest) S A k n := by
  obtain ⟨p, e, s, m, args, below, meth, c, Al, Q, rfl, rfl, hx, hb, hml, hown, hts, hG, hAl, hfl, hmn, htb⟩ := C
  intro H locs ls hl hw hs
  obtain ⟨⟨C0, T, N, l0, l3⟩, l1, l2, l4, l5, l6, l7, l8⟩ := L
  have hrecv : ∃ cellB : Cell, H[A.1 kd z]? = some cellB ∧ cellB.vm.isStatics = false ∧ s.vm.findClass C0 = some cellB.cls := by
    obtain ⟨ws, g1, g2, hP, hD, hA, hW⟩ := hw
    obtain ⟨q0, hq⟩ := HW.at (Al := Al) (H := H) g1 hz
    rw [cellV_o (KF kd _ l0).1] at hq
    exact va_recv (q := (C0, T, N)) hG.1 hP l0 hq
  rw [vR_ref hz.1] at hc ⊢
  have hGo : GoodIn WA (va_wsU own idx C0 owner x y (Cond.code y bytes maxL ret :: WA)) := WA_app (in_5 l1 l2 l3 l4 l5) (WA_code l6)
  have cw : va_CU R s args own C0 owner idx x y bytes maxL ret (Cond.code y bytes maxL ret :: WA) rm rm.cells rm.slots np := by
    rcases l7 with l7 | l7
    · exact va_cwA (ws' := WA) np hts hGo rfl rfl rfl (hG.2.2.2.2.1 _ l7) l8 hR
    · exact va_cwU (ws' := WA) np hts hGo rfl rfl rfl l7 l8 hR
  exact j_run (vx_runU (As := av) (rest := rest) (C := C0) ⟨hx, hb, hml, hown, hts⟩ (hc H.size) cw ⟨preB_blind, hrecv, preB_ok hw hs hG hAl _⟩ rfl hn hl.1 rfl (lv_room hcat) d ⟨hkc, hns⟩) hl hw hs hAl kx kk
theorem r_callI {G : GT} {l : Launch} {R : Room} {cc : ByteArray} {nL : Nat} {own mn : String} {tb : List ExceptionTableEntry} {J : JT} {X : XT} (C : Cx G l R cc nL own mn tb J X) {pc : Nat} {lv : List (Option Value)} {S : ST} {A : AB} {k n : Nat} {idx : Nat} {bytes : ByteArray} {maxL np : Nat} {rm : Room} {Po : Option Value → ST → AB → Prop} {XPo : String → ST → AB → Prop} {av rest : List Value} {kd : Nat} {z : Int} {y : MethodName} (hc : CT G l y bytes maxL none rm S A (vR A kd z :: av) Po XPo) (d : decode cc pc = .ok (.invokespecial idx, 3)) (L : LkI own idx y bytes maxL np) (hn : av.length = np) (hz : 0 ≤ z) (hR : rm.frames + 1 ≤ R.frames ∧ 8 + (maxL + 11) + rm.locals ≤ R.locals) (hcat : (rest.map fun v => v.category).sum ≤ 8) (hkc : k + rm.cells ≤ R.cells) (hns : n + rm.slots ≤ R.slots) (kx : ∀ (E : String) (S' : ST) (A' : AB), XPo E S' A' → X E pc lv S' A' (k + rm.cells) (n + rm.slots)) (kk : ∀ (r : Option Value) (S' : ST) (A' : AB), Po r S' A' → J (pc + 3) lv (r.toList ++ rest) S' A' (k + rm.cells) (n + rm.slots)) : J pc lv (av.reverse ++ vR A kd z :: rest) S A k n := by
  obtain ⟨p, e, s, m, args, below, meth, c, Al, Q, rfl, rfl, hx, hb, hml, hown, hts, hG, hAl, hfl, hmn, htb⟩ := C
  intro H locs ls hl hw hs
  obtain ⟨l1, l2, l3, l4, l5, l6⟩ := L
  rw [vR_ref hz] at hc ⊢
  exact j_run (vx_runI (As := av) (rest := rest) ⟨hx, hb, hml, hown, hts⟩ (hc H.size) (cwI np hts (WA_code l4) rfl rfl rfl (hts _ l3) (hts _ l1) (hts _ l2) l5 l6 hR) ⟨preB_blind, preB_ok hw hs hG hAl _⟩ rfl hn hl.1 rfl (lv_room hcat) d ⟨hkc, hns⟩) hl hw hs hAl kx kk
theorem r_callN {G : GT} {l : Launch} {R : Room} {cc : ByteArray} {nL : Nat} {own mn : String} {tb : List ExceptionTableEntry} {J : JT} {X : XT} (C : Cx G l R cc nL own mn tb J X) {pc : Nat} {lv : List (Option Value)} {S : ST} {A : AB} {k n : Nat} {idx : Nat} {bytes : ByteArray} {maxL np : Nat} {rm : Room} {Po : Option Value → ST → AB → Prop} {XPo : String → ST → AB → Prop} {av rest : List Value} {kd : Nat} {z : Int} {y : MethodName} (hc : CT G l y bytes maxL none rm S A (vR A kd z :: av) Po XPo) (d : decode cc pc = .ok (.invokespecial idx, 3)) (L : LkN own idx y bytes maxL np) (hn : av.length = np) (hz : 0 ≤ z) (hR : rm.frames + 1 ≤ R.frames ∧ 8 + (maxL + 11) + rm.locals ≤ R.locals) (hcat : (rest.map fun v => v.category).sum ≤ 8) (hkc : k + rm.cells ≤ R.cells) (hns : n + rm.slots ≤ R.slots) (kx : ∀ (E : String) (S' : ST) (A' : AB), XPo E S' A' → X E pc lv S' A' (k + rm.cells) (n + rm.slots)) (kk : ∀ (r : Option Value) (S' : ST) (A' : AB), Po r S' A' → J (pc + 3) lv (r.toList ++ rest) S' A' (k + rm.cells) (n + rm.slots)) : J pc lv (av.reverse ++ vR A kd z :: rest) S A k n := by
  obtain ⟨p, e, s, m, args, below, meth, c, Al, Q, rfl, rfl, hx, hb, hml, hown, hts, hG, hAl, hfl, hmn, htb⟩ := C
  intro H locs ls hl hw hs
  obtain ⟨l1, l2, l3, l4, l5, l6⟩ := L
  rw [vR_ref hz] at hc ⊢
  exact j_run (vx_runIN (As := av) (rest := rest) ⟨hx, hb, hml, hown, hts⟩ (hc H.size) ⟨va_cnB np hts (WA_code l4) rfl rfl rfl (hG.2.2.2.1 _ l1) (hts _ l3) l6 hR, l5, hts _ l2⟩ ⟨preB_blind, preB_ok hw hs hG hAl _⟩ rfl hn hl.1 rfl (lv_room hcat) d ⟨hkc, hns⟩) hl hw hs hAl kx kk
theorem vx_runSO {p : Program} {l : Launch} {e : Env} {R : Room} {s : State} {m : MethodId} {args : Array Value} {below : List Frame} {meth : Method} {c : Code} {H : Heap} {locs : List Loc} {cells slots : Nat} {x y : MethodName} {bytes cc : ByteArray} {maxL nL mc ms n index : Nat} {ret : Option FieldType} {ws : List Cond} {rm : Room} {Pc : Array Value → State → Prop} {Qc : Array Value → State → Outcome → State → Prop} {XC : String → State → State → Prop} {free : Addr → Prop} {Ts : List Cond} {own : String} {As rest : List Value} {g : JFrame}
    (S : CallFix p m c cc nL s args Ts own) (hM : vx_Met l y ws rm Pc Qc XC mc ms free) (hcb : rm.cells = mc ∧ rm.slots = ms ∧ rm.frames + 1 ≤ R.frames ∧ 8 + (maxL + 11) + rm.locals ≤ R.locals ∧ (∀ w ∈ ws, ∀ (a' : Array Value) (U : State), s.WarmedH U.vm → w.before a' U = true) ∧ Cond.code y bytes maxL ret ∈ ws) (hcode : (Cond.code y bytes maxL ret).before args s = true) (hini : (Cond.initialized y.cls).before args s = true) (hy : y.cls ≠ "java/lang/invoke/MethodHandle" ∧ y.cls ≠ "java/lang/invoke/VarHandle") (hlen : ∀ sig, parseMethodDescriptor y.desc = some sig → n = sig.parameters.length) (hl : (Cond.methodLink own index x).before args s = true) (hsame : (Cond.sameMethod x.cls y.cls x.name x.desc).before args s = true) (hyx : y = ⟨y.cls, x.name, x.desc⟩) (hstt : (Cond.static y).before args s = true) (hp : PreS s H Pc As)
    (hg : g.method = m) (hn : As.length = n) (hsize : g.locals.size = nL) (hstack : g.stack = As.reverse ++ rest) (hW : 2 * g.monitorRoom + (rest.map fun v => v.category).sum ≤ 8) (hdg : decode cc g.pc = .ok (.invokestatic index, 3)) (hf : cells + mc ≤ R.cells ∧ slots + ms ≤ R.slots) :
    vx_Run p l e R s m args below meth c H locs cells slots mc ms g rest (Qc As.toArray) XC free := by
  obtain ⟨hrc, hrs, hfr, hlo, hws, hcw⟩ := hcb
  have hK : vx_Back l R p e below s args y 3 8 (PreOf R mc ms Pc) (PostOf Qc mc ms free) (vx_Post XC mc ms free) := vx_back (bytes := bytes) (maxL := maxL) (ret := ret) hM hp.1 hrc hrs hfr hlo hws hcw (fun a' U hW => word_at hW (Or.inl (by first | rfl | simp [Cond.onTables, Cond.keeps, Cond.steady])) hini)
  obtain ⟨hx, hb, hml, ho, -⟩ := S
  intro T hT X
  rcases vx_callSO X hx (bytes := bytes) (maxL := maxL) (ret := ret) ho hl hsame hyx hstt hini hcode hy hK hg (hsize.trans hml.symm) (argsL := As) (rest := rest) (fun sig h => hn.trans (hlen sig h)) hstack hW (by rw [hb]; exact hdg)
    (fun vm₁ hW₁ => ⟨hf.1, hf.2, hp.2 (T.setVm vm₁) hT hW₁⟩) with ⟨v, vm₁, ⟨U', l2, c2, s2⟩, hW₁, X', ⟨g', mk, t, L, e1, e2, hq, h1, hL, h2, h3⟩, st⟩ | ⟨q, vm₁, ⟨U', l2, c2, s2⟩, hW₁, X', ⟨g', mk, t, L, E, ce, e1, e2, hxc, hce, hcv, hcl, h1, hL, h2, h3⟩, st⟩
  · dsimp only [Pt.U, Pt.locs, Pt.cells, Pt.slots] at X' e1 e2 h1 h2 h3 st
    subst h1; subst h2; subst h3
    exact Or.inl ⟨v, (T.setVm vm₁).calling g' mk As.toArray, t, U', L, hT, X', hL, e1, e2, hq, st⟩
  · dsimp only [Pt.U, Pt.locs, Pt.cells, Pt.slots] at X' e1 e2 h1 h2 h3 st hxc hcl
    subst h1; subst h2; subst h3
    exact Or.inr ⟨q, (T.setVm vm₁).calling g' mk As.toArray, t, U', L, E, ce, hT, X', hL, e1, e2, hxc, hce, hcv, vx_cls hW₁ hcl, st⟩
theorem r_callO {G : GT} {l : Launch} {R : Room} {cc : ByteArray} {nL : Nat} {own mn : String} {tb : List ExceptionTableEntry} {J : JT} {X : XT} (C : Cx G l R cc nL own mn tb J X) {pc : Nat} {lv : List (Option Value)} {S : ST} {A : AB} {k n : Nat} {idx : Nat} {bytes : ByteArray} {maxL np : Nat} {rm : Room} {Po : Option Value → ST → AB → Prop} {XPo : String → ST → AB → Prop} {av rest : List Value} {x y : MethodName} {ret : Option FieldType} (hc : CT G l y bytes maxL ret rm S A av Po XPo) (d : decode cc pc = .ok (.invokestatic idx, 3)) (L : LkO own idx x y bytes maxL ret np) (hn : av.length = np) (hR : rm.frames + 1 ≤ R.frames ∧ 8 + (maxL + 11) + rm.locals ≤ R.locals) (hcat : (rest.map fun v => v.category).sum ≤ 8) (hkc : k + rm.cells ≤ R.cells) (hns : n + rm.slots ≤ R.slots) (kx : ∀ (E : String) (S' : ST) (A' : AB), XPo E S' A' → X E pc lv S' A' (k + rm.cells) (n + rm.slots)) (kk : ∀ (r : Option Value) (S' : ST) (A' : AB), Po r S' A' → J (pc + 3) lv (r.toList ++ rest) S' A' (k + rm.cells) (n + rm.slots)) : J pc lv (av.reverse ++ rest) S A k n := by
  obtain ⟨p, e, s, m, args, below, meth, c, Al, Q, rfl, rfl, hx, hb, hml, hown, hts, hG, hAl, hfl, hmn, htb⟩ := C
  intro H locs ls hl hw hs
  obtain ⟨l1, l2, l3, l4, l5, l6, l7, l8, l9⟩ := L
  refine j_run (vx_runSO (As := av) (rest := rest) ⟨hx, hb, hml, hown, hts⟩ (hc H.size) ⟨rfl, rfl, hR.1, hR.2, pay_in hts (WA_code l6), List.mem_cons_self⟩ (hts _ l6) (hts _ l5) ⟨l7, l8⟩ (fun sig h => ?_) (hts _ l1) (hts _ l2) l3 (hts _ l4) ⟨preB_blind, preB_ok hw hs hG hAl _⟩ rfl hn hl.1 rfl (lv_room hcat) d ⟨hkc, hns⟩) hl hw hs hAl kx kk
  rw [h] at l9
  exact (Option.some.inj l9).symm
theorem r_obj {G : GT} {l : Launch} {R : Room} {cc : ByteArray} {nL : Nat} {own mn : String} {tb : List ExceptionTableEntry} {J : JT} {X : XT} (C : Cx G l R cc nL own mn tb J X) {pc : Nat} {lv : List (Option Value)} {S : ST} {A : AB} {k n : Nat} {kd idx : Nat} {z : Int} {rest : List Value} (d : decode cc pc = .ok (.invokespecial idx, 3)) (hlk : Cond.methodLink own idx objectInit ∈ WA) (hz : 0 ≤ z) (hi : Cond.instanceMethod objectInit ∈ WA) (hcd : Cond.code objectInit ⟨#[0xb1]⟩ 1 none ∈ WA) (hf : 1 ≤ R.frames) (hcat : (rest.map fun v => v.category).sum + 12 ≤ R.locals) (kk : J (pc + 3) lv rest S A k n) : J pc lv (vR A kd z :: rest) S A k n := by
  obtain ⟨p, e, s, m, args, below, meth, c, Al, Q, rfl, rfl, hx, hb, hml, hown, hts, hG, hAl, hfl, hmn, htb⟩ := C
  intro H locs ls hl hw hs
  rw [vR_ref hz]
  exact W.objInit hx hb hown (hts _ hlk) (hts _ hi) (hts _ hcd) rfl (by rw [hml]; exact hl.1) rfl d hf (by show 2 * 0 + _ + 12 ≤ _; omega) (kk H locs ls hl hw hs)
theorem r_min {G : GT} {l : Launch} {R : Room} {cc : ByteArray} {nL : Nat} {own mn : String} {tb : List ExceptionTableEntry} {J : JT} {X : XT} (C : Cx G l R cc nL own mn tb J X) {pc : Nat} {lv : List (Option Value)} {S : ST} {A : AB} {k n : Nat} {idx : Nat} {x y : Int} {rest : List Value} (d : decode cc pc = .ok (.invokestatic idx, 3)) (hlk : Cond.methodLink own idx Lib.Math.min.name ∈ WA) (hst : Cond.static Lib.Math.min.name ∈ WA) (hin : Cond.initialized "java/lang/Math" ∈ WA) (hcd : Cond.code Lib.Math.min.name Lib.Math.min.code 2 (some .int) ∈ WA) (hf : 1 ≤ R.frames) (hcat : (rest.map fun v => v.category).sum + 13 ≤ R.locals) (hkc : k ≤ R.cells) (hns : n ≤ R.slots) (h1 : rI x) (h2 : rI y) (kk : J (pc + 3) lv (vI (if y < x then y else x) :: rest) S A k n) : J pc lv (vI y :: vI x :: rest) S A k n := by
  obtain ⟨p, e, s, m, args, below, meth, c, Al, Q, rfl, rfl, hx, hb, hml, hown, hts, hG, hAl, hfl, hmn, htb⟩ := C
  intro H locs ls hl hw hs
  refine va_mmin hx hb (by rw [hml]; exact hl.1.symm) hown (hts _ hlk) (hts _ hst) (hts _ hin) (hts _ hcd) hf hcat hkc hns d ?_
  have e9 : (if iI y < iI x then iI y else iI x) = iI (if y < x then y else x) := by
    by_cases h : y < x
    · rw [if_pos ((iI_lt h2 h1).mpr h), if_pos h]
    · rw [if_neg (fun q => h ((iI_lt h2 h1).mp q)), if_neg h]
  rw [e9]
  exact kk H locs ls hl hw hs
end
section
/-! the links of fields and calls, by program (out of the tables of the Statement and of javap) -/
theorem wMin2 : Cond.static Lib.Math.min.name ∈ WA := (WA_of (i := 391) (by decide +kernel) (by decide +kernel))
theorem wMin3 : Cond.initialized "java/lang/Math" ∈ WA := (WA_of (i := 60) (by decide +kernel) (by decide +kernel))
theorem wMin4 : Cond.code Lib.Math.min.name Lib.Math.min.code 2 (some .int) ∈ WA := (WA_of (i := 392) (by decide +kernel) (by decide +kernel))
theorem wObj2 : Cond.instanceMethod objectInit ∈ WA := (WA_of (i := 69) (by decide +kernel) (by decide +kernel))
theorem wObj3 : Cond.code objectInit ⟨#[0xb1]⟩ 1 none ∈ WA := (WA_of (i := 70) (by decide +kernel) (by decide +kernel))
theorem wArr_int : Cond.arrayClass (newarray.typeOf .int) ∈ WA := (WA_of (i := 162) (by decide +kernel) (by decide +kernel))
theorem wArr_long : Cond.arrayClass (newarray.typeOf .long) ∈ WA := (WA_of (i := 857) (by decide +kernel) (by decide +kernel))
theorem wArr_boolean : Cond.arrayClass (newarray.typeOf .boolean) ∈ WA := (WA_of (i := 856) (by decide +kernel) (by decide +kernel))
theorem xw_IA : XW 82 xIA := ⟨by decide +kernel, by decide +kernel, by decide +kernel, by decide +kernel, (WA_of (i := 56) (by decide +kernel) (by decide +kernel))⟩
theorem xw_IS : XW 102 xIS := ⟨by decide +kernel, by decide +kernel, by decide +kernel, by decide +kernel, (WA_of (i := 57) (by decide +kernel) (by decide +kernel))⟩
theorem xw_IO : XW 89 xIO := ⟨by decide +kernel, by decide +kernel, by decide +kernel, by decide +kernel, (WA_of (i := 61) (by decide +kernel) (by decide +kernel))⟩
theorem lk_X7_1 : Cond.methodLink RX7 1 objectInit ∈ WA := (WA_of (i := 68) (by decide +kernel) (by decide +kernel))
theorem nw_X7_9a : Cond.classLink RX7 9 RX3 ∈ WA := (WA_of (i := 71) (by decide +kernel) (by decide +kernel))
theorem fg_X7_11_6 : FG RX7 11 6 0 := ⟨RX7, "Layerbook", TX7, 7, rfl, by decide, (WA_of (i := 140) (by decide +kernel) (by decide +kernel)), Or.inl rfl⟩
theorem nw_X7_15 : Cond.classLink RX7 15 RX2 ∈ WA ∧ Cond.instantiable RX2 2 ∈ WA ∧ Cond.initialized RX2 ∈ WA := ⟨(WA_of (i := 73) (by decide +kernel) (by decide +kernel)), (WA_of (i := 74) (by decide +kernel) (by decide +kernel)), (WA_of (i := 48) (by decide +kernel) (by decide +kernel))⟩
theorem lk_X7_17 : LkN RX7 17 yX2_init cX2_init 1 0 := ⟨by decide, (WA_of (i := 76) (by decide +kernel) (by decide +kernel)), (WA_of (i := 48) (by decide +kernel) (by decide +kernel)), (WA_of (i := 77) (by decide +kernel) (by decide +kernel)), rfl, by decide, by decide, by decide +kernel⟩
theorem fg_X7_18_6 : FG RX7 18 6 1 := ⟨RX7, "Layerbook", TX7, 7, rfl, by decide, (WA_of (i := 141) (by decide +kernel) (by decide +kernel)), Or.inl rfl⟩
theorem nw_X7_22 : Cond.classLink RX7 22 RX0 ∈ WA ∧ Cond.instantiable RX0 7 ∈ WA ∧ Cond.initialized RX0 ∈ WA := ⟨(WA_of (i := 88) (by decide +kernel) (by decide +kernel)), (WA_of (i := 89) (by decide +kernel) (by decide +kernel)), (WA_of (i := 50) (by decide +kernel) (by decide +kernel))⟩
theorem lk_X7_24 : LkN RX7 24 yX0_init cX0_init 1 0 := ⟨by decide, (WA_of (i := 91) (by decide +kernel) (by decide +kernel)), (WA_of (i := 50) (by decide +kernel) (by decide +kernel)), (WA_of (i := 92) (by decide +kernel) (by decide +kernel)), rfl, by decide, by decide, by decide +kernel⟩
theorem fg_X7_25_6 : FG RX7 25 6 2 := ⟨RX7, "Layerbook", TX7, 7, rfl, by decide, (WA_of (i := 142) (by decide +kernel) (by decide +kernel)), Or.inl rfl⟩
theorem nw_X7_29 : Cond.classLink RX7 29 RX4 ∈ WA ∧ Cond.instantiable RX4 6 ∈ WA ∧ Cond.initialized RX4 ∈ WA := ⟨(WA_of (i := 125) (by decide +kernel) (by decide +kernel)), (WA_of (i := 126) (by decide +kernel) (by decide +kernel)), (WA_of (i := 51) (by decide +kernel) (by decide +kernel))⟩
theorem lk_X7_31 : LkN RX7 31 yX4_init cX4_init 1 0 := ⟨by decide, (WA_of (i := 128) (by decide +kernel) (by decide +kernel)), (WA_of (i := 51) (by decide +kernel) (by decide +kernel)), (WA_of (i := 129) (by decide +kernel) (by decide +kernel)), rfl, by decide, by decide, by decide +kernel⟩
theorem fg_X7_32_6 : FG RX7 32 6 3 := ⟨RX7, "Layerbook", TX7, 7, rfl, by decide, (WA_of (i := 143) (by decide +kernel) (by decide +kernel)), Or.inl rfl⟩
theorem fg_X7_36_6 : FG RX7 36 6 4 := ⟨RX7, "Layerbook", TX7, 7, rfl, by decide, (WA_of (i := 144) (by decide +kernel) (by decide +kernel)), Or.inl rfl⟩
theorem fg_X7_40_6 : FG RX7 40 6 6 := ⟨RX7, "Layerbook", TX7, 7, rfl, by decide, (WA_of (i := 146) (by decide +kernel) (by decide +kernel)), Or.inl rfl⟩
theorem lk_X7_44 : LkS RX7 44 yX7_checkItemAndDay cX7_checkItemAndDay 2 none 2 := ⟨(WA_of (i := 176) (by decide +kernel) (by decide +kernel)), (WA_of (i := 177) (by decide +kernel) (by decide +kernel)), (WA_of (i := 47) (by decide +kernel) (by decide +kernel)), (WA_of (i := 178) (by decide +kernel) (by decide +kernel)), by decide, by decide, by decide +kernel⟩
theorem lk_X7_48 : LkS RX7 48 yX7_checkRange cX7_checkRange 3 none 3 := ⟨(WA_of (i := 179) (by decide +kernel) (by decide +kernel)), (WA_of (i := 180) (by decide +kernel) (by decide +kernel)), (WA_of (i := 47) (by decide +kernel) (by decide +kernel)), (WA_of (i := 181) (by decide +kernel) (by decide +kernel)), by decide, by decide, by decide +kernel⟩
theorem cs_X7_52 : Cond.constant RX7 52 (1000000 : Int32) ∈ WA := (WA_of (i := 250) (by decide +kernel) (by decide +kernel))
theorem lk_X7_53 : LkV RX7 53 6 yX7_checkPosting cX7_checkPosting 2 none 1 := ⟨⟨TX7, 7, rfl⟩, (WA_of (i := 251) (by decide +kernel) (by decide +kernel)), (WA_of (i := 253) (by decide +kernel) (by decide +kernel)), (WA_of (i := 5) (by decide +kernel) (by decide +kernel)), (WA_of (i := 47) (by decide +kernel) (by decide +kernel)), (WA_of (i := 254) (by decide +kernel) (by decide +kernel)), by decide, by decide, by decide +kernel⟩
theorem nw_X7_9 : Cond.classLink RX7 9 RX3 ∈ WA ∧ Cond.instantiable RX3 11 ∈ WA ∧ Cond.initialized RX3 ∈ WA := ⟨(WA_of (i := 71) (by decide +kernel) (by decide +kernel)), (WA_of (i := 276) (by decide +kernel) (by decide +kernel)), (WA_of (i := 58) (by decide +kernel) (by decide +kernel))⟩
theorem fg_X7_57_6 : FG RX7 57 6 5 := ⟨RX7, "Layerbook", TX7, 7, rfl, by decide, (WA_of (i := 145) (by decide +kernel) (by decide +kernel)), Or.inl rfl⟩
theorem lk_X7_60 : LkI RX7 60 yX3_init cX3_init 7 6 := ⟨(WA_of (i := 277) (by decide +kernel) (by decide +kernel)), (WA_of (i := 278) (by decide +kernel) (by decide +kernel)), (WA_of (i := 58) (by decide +kernel) (by decide +kernel)), (WA_of (i := 279) (by decide +kernel) (by decide +kernel)), rfl, by decide, by decide, by decide +kernel⟩
theorem lk_X7_63 : LkV RX7 63 6 yX7_post cX7_post 2 (some .int) 1 := ⟨⟨TX7, 7, rfl⟩, (WA_of (i := 363) (by decide +kernel) (by decide +kernel)), (WA_of (i := 365) (by decide +kernel) (by decide +kernel)), (WA_of (i := 7) (by decide +kernel) (by decide +kernel)), (WA_of (i := 47) (by decide +kernel) (by decide +kernel)), (WA_of (i := 366) (by decide +kernel) (by decide +kernel)), by decide, by decide, by decide +kernel⟩
theorem lk_X7_67 : LkV RX7 67 2 yX2_spare cX2_spare 8 (some .int) 3 := ⟨⟨TX2, 2, rfl⟩, (WA_of (i := 378) (by decide +kernel) (by decide +kernel)), (WA_of (i := 379) (by decide +kernel) (by decide +kernel)), (WA_of (i := 380) (by decide +kernel) (by decide +kernel)), (WA_of (i := 48) (by decide +kernel) (by decide +kernel)), (WA_of (i := 381) (by decide +kernel) (by decide +kernel)), by decide, by decide, by decide +kernel⟩
theorem lk_X7_71 : LkS RX7 71 yX7_checkOnHand cX7_checkOnHand 2 none 2 := ⟨(WA_of (i := 397) (by decide +kernel) (by decide +kernel)), (WA_of (i := 398) (by decide +kernel) (by decide +kernel)), (WA_of (i := 47) (by decide +kernel) (by decide +kernel)), (WA_of (i := 399) (by decide +kernel) (by decide +kernel)), by decide, by decide, by decide +kernel⟩
theorem lk_X7_74 : LkV RX7 74 2 yX2_units cX2_units 5 (some .int) 2 := ⟨⟨TX2, 2, rfl⟩, (WA_of (i := 408) (by decide +kernel) (by decide +kernel)), (WA_of (i := 409) (by decide +kernel) (by decide +kernel)), (WA_of (i := 410) (by decide +kernel) (by decide +kernel)), (WA_of (i := 48) (by decide +kernel) (by decide +kernel)), (WA_of (i := 411) (by decide +kernel) (by decide +kernel)), by decide, by decide, by decide +kernel⟩
theorem nw_X7_78 : Cond.classLink RX7 78 xIA ∈ WA := (WA_of (i := 182) (by decide +kernel) (by decide +kernel))
theorem nw_X7_85 : Cond.classLink RX7 85 xIO ∈ WA := (WA_of (i := 421) (by decide +kernel) (by decide +kernel))
theorem lk_X7_90 : LkV RX7 90 6 yX7_checkReceipts cX7_checkReceipts 6 none 2 := ⟨⟨TX7, 7, rfl⟩, (WA_of (i := 437) (by decide +kernel) (by decide +kernel)), (WA_of (i := 439) (by decide +kernel) (by decide +kernel)), (WA_of (i := 8) (by decide +kernel) (by decide +kernel)), (WA_of (i := 47) (by decide +kernel) (by decide +kernel)), (WA_of (i := 440) (by decide +kernel) (by decide +kernel)), by decide, by decide, by decide +kernel⟩
theorem lk_X7_94 : LkV RX7 94 6 yX7_sumOfBasis cX7_sumOfBasis 8 (some .long) 2 := ⟨⟨TX7, 7, rfl⟩, (WA_of (i := 446) (by decide +kernel) (by decide +kernel)), (WA_of (i := 448) (by decide +kernel) (by decide +kernel)), (WA_of (i := 10) (by decide +kernel) (by decide +kernel)), (WA_of (i := 47) (by decide +kernel) (by decide +kernel)), (WA_of (i := 449) (by decide +kernel) (by decide +kernel)), by decide, by decide, by decide +kernel⟩
theorem nw_X7_98 : Cond.classLink RX7 98 xIS ∈ WA := (WA_of (i := 259) (by decide +kernel) (by decide +kernel))
theorem lk_X7_103 : LkV RX7 103 6 yX7_spread cX7_spread 13 (some (.object "Layerbook$Share")) 4 := ⟨⟨TX7, 7, rfl⟩, (WA_of (i := 459) (by decide +kernel) (by decide +kernel)), (WA_of (i := 461) (by decide +kernel) (by decide +kernel)), (WA_of (i := 13) (by decide +kernel) (by decide +kernel)), (WA_of (i := 47) (by decide +kernel) (by decide +kernel)), (WA_of (i := 462) (by decide +kernel) (by decide +kernel)), by decide, by decide, by decide +kernel⟩
theorem fg_X7_107_3 : FG RX7 107 3 9 := ⟨RX3, "Layerbook$Movement", TX3, 11, rfl, by decide, (WA_of (i := 336) (by decide +kernel) (by decide +kernel)), Or.inl rfl⟩
theorem lk_X7_111 : LkV RX7 111 6 yX7_find cX7_find 3 (some (.object "Layerbook$Movement")) 1 := ⟨⟨TX7, 7, rfl⟩, (WA_of (i := 501) (by decide +kernel) (by decide +kernel)), (WA_of (i := 503) (by decide +kernel) (by decide +kernel)), (WA_of (i := 14) (by decide +kernel) (by decide +kernel)), (WA_of (i := 47) (by decide +kernel) (by decide +kernel)), (WA_of (i := 504) (by decide +kernel) (by decide +kernel)), by decide, by decide, by decide +kernel⟩
theorem fg_X7_115_3 : FG RX7 115 3 7 := ⟨RX3, "Layerbook$Movement", TX3, 11, rfl, by decide, (WA_of (i := 332) (by decide +kernel) (by decide +kernel)), Or.inl rfl⟩
theorem fg_X7_121_3 : FG RX7 121 3 2 := ⟨RX3, "Layerbook$Movement", TX3, 11, rfl, by decide, (WA_of (i := 313) (by decide +kernel) (by decide +kernel)), Or.inl rfl⟩
theorem lk_X7_124 : LkV RX7 124 6 yX7_checkOpen cX7_checkOpen 2 none 1 := ⟨⟨TX7, 7, rfl⟩, (WA_of (i := 255) (by decide +kernel) (by decide +kernel)), (WA_of (i := 257) (by decide +kernel) (by decide +kernel)), (WA_of (i := 6) (by decide +kernel) (by decide +kernel)), (WA_of (i := 47) (by decide +kernel) (by decide +kernel)), (WA_of (i := 258) (by decide +kernel) (by decide +kernel)), by decide, by decide, by decide +kernel⟩
theorem fg_X7_127_3 : FG RX7 127 3 1 := ⟨RX3, "Layerbook$Movement", TX3, 11, rfl, by decide, (WA_of (i := 309) (by decide +kernel) (by decide +kernel)), Or.inl rfl⟩
theorem lk_X7_130 : LkV RX7 130 6 yX7_checkDispensable cX7_checkDispensable 2 none 1 := ⟨⟨TX7, 7, rfl⟩, (WA_of (i := 507) (by decide +kernel) (by decide +kernel)), (WA_of (i := 509) (by decide +kernel) (by decide +kernel)), (WA_of (i := 15) (by decide +kernel) (by decide +kernel)), (WA_of (i := 47) (by decide +kernel) (by decide +kernel)), (WA_of (i := 510) (by decide +kernel) (by decide +kernel)), by decide, by decide, by decide +kernel⟩
theorem lk_X7_134 : LkV RX7 134 2 yX2_remove cX2_remove 4 none 1 := ⟨⟨TX2, 2, rfl⟩, (WA_of (i := 520) (by decide +kernel) (by decide +kernel)), (WA_of (i := 521) (by decide +kernel) (by decide +kernel)), (WA_of (i := 522) (by decide +kernel) (by decide +kernel)), (WA_of (i := 48) (by decide +kernel) (by decide +kernel)), (WA_of (i := 523) (by decide +kernel) (by decide +kernel)), by decide, by decide, by decide +kernel⟩
theorem fg_X7_137_2 : FG RX7 137 2 1 := ⟨RX2, "Layerbook$Ledger", TX2, 2, rfl, by decide, (WA_of (i := 82) (by decide +kernel) (by decide +kernel)), Or.inl rfl⟩
theorem lk_X7_140 : LkV RX7 140 6 yX7_weightOf cX7_weightOf 2 (some .int) 1 := ⟨⟨TX7, 7, rfl⟩, (WA_of (i := 454) (by decide +kernel) (by decide +kernel)), (WA_of (i := 456) (by decide +kernel) (by decide +kernel)), (WA_of (i := 12) (by decide +kernel) (by decide +kernel)), (WA_of (i := 47) (by decide +kernel) (by decide +kernel)), (WA_of (i := 457) (by decide +kernel) (by decide +kernel)), by decide, by decide, by decide +kernel⟩
theorem lk_X7_144 : LkV RX7 144 2 yX2_place cX2_place 4 (some .int) 1 := ⟨⟨TX2, 2, rfl⟩, (WA_of (i := 566) (by decide +kernel) (by decide +kernel)), (WA_of (i := 567) (by decide +kernel) (by decide +kernel)), (WA_of (i := 568) (by decide +kernel) (by decide +kernel)), (WA_of (i := 48) (by decide +kernel) (by decide +kernel)), (WA_of (i := 569) (by decide +kernel) (by decide +kernel)), by decide, by decide, by decide +kernel⟩
theorem lk_X7_149 : LkV RX7 149 3 yX3_shareOf cX3_shareOf 3 (some (.object "Layerbook$Share")) 1 := ⟨⟨TX3, 11, rfl⟩, (WA_of (i := 578) (by decide +kernel) (by decide +kernel)), (WA_of (i := 516) (by decide +kernel) (by decide +kernel)), (WA_of (i := 517) (by decide +kernel) (by decide +kernel)), (WA_of (i := 58) (by decide +kernel) (by decide +kernel)), (WA_of (i := 518) (by decide +kernel) (by decide +kernel)), by decide, by decide, by decide +kernel⟩
theorem fg_X7_153_5 : FG RX7 153 5 2 := ⟨RX5, "Layerbook$Share", TX5, 4, rfl, by decide, (WA_of (i := 478) (by decide +kernel) (by decide +kernel)), Or.inl rfl⟩
theorem fg_X7_160_3 : FG RX7 160 3 3 := ⟨RX3, "Layerbook$Movement", TX3, 11, rfl, by decide, (WA_of (i := 318) (by decide +kernel) (by decide +kernel)), Or.inl rfl⟩
theorem lk_X7_163 : LkV RX7 163 6 yX7_replayed cX7_replayed 5 (some (.object "Layerbook$Valuation")) 3 := ⟨⟨TX7, 7, rfl⟩, (WA_of (i := 587) (by decide +kernel) (by decide +kernel)), (WA_of (i := 589) (by decide +kernel) (by decide +kernel)), (WA_of (i := 16) (by decide +kernel) (by decide +kernel)), (WA_of (i := 47) (by decide +kernel) (by decide +kernel)), (WA_of (i := 590) (by decide +kernel) (by decide +kernel)), by decide, by decide, by decide +kernel⟩
theorem fg_X7_167_3 : FG RX7 167 3 10 := ⟨RX3, "Layerbook$Movement", TX3, 11, rfl, by decide, (WA_of (i := 339) (by decide +kernel) (by decide +kernel)), Or.inl rfl⟩
theorem lk_X7_171 : Cond.methodLink RX7 171 Lib.Math.min.name ∈ WA := (WA_of (i := 681) (by decide +kernel) (by decide +kernel))
theorem lk_X7_176_0 : LkU RX7 176 0 RX6 ⟨RX6, "worth", "()J"⟩ yX0_worth cX0_worth 4 (some .long) 0 := ⟨⟨RX0, TX0, 7, rfl, (WA_of (i := 692) (by decide +kernel) (by decide +kernel))⟩, (WA_of (i := 689) (by decide +kernel) (by decide +kernel)), (WA_of (i := 691) (by decide +kernel) (by decide +kernel)), (WA_of (i := 693) (by decide +kernel) (by decide +kernel)), (WA_of (i := 50) (by decide +kernel) (by decide +kernel)), (WA_of (i := 694) (by decide +kernel) (by decide +kernel)), Or.inl (by decide), by decide, by decide, by decide +kernel⟩
theorem lk_X7_176_4 : LkU RX7 176 4 RX6 ⟨RX6, "worth", "()J"⟩ yX4_worth cX4_worth 1 (some .long) 0 := ⟨⟨RX4, TX4, 6, rfl, (WA_of (i := 695) (by decide +kernel) (by decide +kernel))⟩, (WA_of (i := 689) (by decide +kernel) (by decide +kernel)), (WA_of (i := 691) (by decide +kernel) (by decide +kernel)), (WA_of (i := 696) (by decide +kernel) (by decide +kernel)), (WA_of (i := 51) (by decide +kernel) (by decide +kernel)), (WA_of (i := 697) (by decide +kernel) (by decide +kernel)), Or.inl (by decide), by decide, by decide, by decide +kernel⟩
theorem fg_X7_182_0 : FG RX7 182 0 1 := ⟨RX0, "Layerbook$Valuation", TX0, 7, rfl, by decide, (WA_of (i := 103) (by decide +kernel) (by decide +kernel)), Or.inl rfl⟩
theorem fg_X7_182_4 : FG RX7 182 4 1 := ⟨RX4, "Layerbook$Valuation", TX4, 6, rfl, by decide, (WA_of (i := 103) (by decide +kernel) (by decide +kernel)), Or.inl rfl⟩
theorem fg_X7_185_0 : FG RX7 185 0 2 := ⟨RX0, "Layerbook$Valuation", TX0, 7, rfl, by decide, (WA_of (i := 105) (by decide +kernel) (by decide +kernel)), Or.inl rfl⟩
theorem fg_X7_185_4 : FG RX7 185 4 2 := ⟨RX4, "Layerbook$Valuation", TX4, 6, rfl, by decide, (WA_of (i := 105) (by decide +kernel) (by decide +kernel)), Or.inl rfl⟩
theorem fg_X7_188_0 : FG RX7 188 0 3 := ⟨RX0, "Layerbook$Valuation", TX0, 7, rfl, by decide, (WA_of (i := 107) (by decide +kernel) (by decide +kernel)), Or.inl rfl⟩
theorem fg_X7_188_4 : FG RX7 188 4 3 := ⟨RX4, "Layerbook$Valuation", TX4, 6, rfl, by decide, (WA_of (i := 107) (by decide +kernel) (by decide +kernel)), Or.inl rfl⟩
theorem fg_X7_191_0 : FG RX7 191 0 4 := ⟨RX0, "Layerbook$Valuation", TX0, 7, rfl, by decide, (WA_of (i := 109) (by decide +kernel) (by decide +kernel)), Or.inl rfl⟩
theorem fg_X7_191_4 : FG RX7 191 4 4 := ⟨RX4, "Layerbook$Valuation", TX4, 6, rfl, by decide, (WA_of (i := 109) (by decide +kernel) (by decide +kernel)), Or.inl rfl⟩
theorem fg_X7_194_2 : FG RX7 194 2 0 := ⟨RX2, "Layerbook$Ledger", TX2, 2, rfl, by decide, (WA_of (i := 80) (by decide +kernel) (by decide +kernel)), Or.inl rfl⟩
theorem lk_X7_198_0 : LkU RX7 198 0 RX6 ⟨RX0, "replay", "(LLayerbook$Movement;II)V"⟩ yX6_replay cX6_replay 5 none 3 := ⟨⟨RX0, TX0, 7, rfl, (WA_of (i := 736) (by decide +kernel) (by decide +kernel))⟩, (WA_of (i := 733) (by decide +kernel) (by decide +kernel)), (WA_of (i := 734) (by decide +kernel) (by decide +kernel)), (WA_of (i := 592) (by decide +kernel) (by decide +kernel)), (WA_of (i := 49) (by decide +kernel) (by decide +kernel)), (WA_of (i := 596) (by decide +kernel) (by decide +kernel)), Or.inr rfl, by decide, by decide, by decide +kernel⟩
theorem lk_X7_202 : LkV RX7 202 0 yX0_length cX0_length 3 (some .int) 0 := ⟨⟨TX0, 7, rfl⟩, (WA_of (i := 737) (by decide +kernel) (by decide +kernel)), (WA_of (i := 738) (by decide +kernel) (by decide +kernel)), (WA_of (i := 739) (by decide +kernel) (by decide +kernel)), (WA_of (i := 50) (by decide +kernel) (by decide +kernel)), (WA_of (i := 740) (by decide +kernel) (by decide +kernel)), by decide, by decide, by decide +kernel⟩
theorem lk_X7_206 : LkV RX7 206 6 yX7_findLayer cX7_findLayer 5 (some (.object "Layerbook$Layer")) 3 := ⟨⟨TX7, 7, rfl⟩, (WA_of (i := 748) (by decide +kernel) (by decide +kernel)), (WA_of (i := 750) (by decide +kernel) (by decide +kernel)), (WA_of (i := 17) (by decide +kernel) (by decide +kernel)), (WA_of (i := 47) (by decide +kernel) (by decide +kernel)), (WA_of (i := 751) (by decide +kernel) (by decide +kernel)), by decide, by decide, by decide +kernel⟩
theorem fg_X7_210_1 : FG RX7 210 1 1 := ⟨RX1, "Layerbook$Layer", TX1, 4, rfl, by decide, (WA_of (i := 291) (by decide +kernel) (by decide +kernel)), Or.inl rfl⟩
theorem fg_X7_214_1 : FG RX7 214 1 2 := ⟨RX1, "Layerbook$Layer", TX1, 4, rfl, by decide, (WA_of (i := 294) (by decide +kernel) (by decide +kernel)), Or.inl rfl⟩
theorem fg_X7_217_1 : FG RX7 217 1 0 := ⟨RX1, "Layerbook$Layer", TX1, 4, rfl, by decide, (WA_of (i := 288) (by decide +kernel) (by decide +kernel)), Or.inl rfl⟩
theorem lk_X7_228 : LkV RX7 228 6 yX7_chosen cX7_chosen 5 (some (.object "Layerbook$Movement")) 2 := ⟨⟨TX7, 7, rfl⟩, (WA_of (i := 441) (by decide +kernel) (by decide +kernel)), (WA_of (i := 443) (by decide +kernel) (by decide +kernel)), (WA_of (i := 9) (by decide +kernel) (by decide +kernel)), (WA_of (i := 47) (by decide +kernel) (by decide +kernel)), (WA_of (i := 444) (by decide +kernel) (by decide +kernel)), by decide, by decide, by decide +kernel⟩
theorem lk_X7_234 : LkV RX7 234 2 yX2_spreadsOver cX2_spreadsOver 3 (some .boolean) 1 := ⟨⟨TX2, 2, rfl⟩, (WA_of (i := 511) (by decide +kernel) (by decide +kernel)), (WA_of (i := 512) (by decide +kernel) (by decide +kernel)), (WA_of (i := 513) (by decide +kernel) (by decide +kernel)), (WA_of (i := 48) (by decide +kernel) (by decide +kernel)), (WA_of (i := 514) (by decide +kernel) (by decide +kernel)), by decide, by decide, by decide +kernel⟩
theorem fg_X7_240_3 : FG RX7 240 3 4 := ⟨RX3, "Layerbook$Movement", TX3, 11, rfl, by decide, (WA_of (i := 324) (by decide +kernel) (by decide +kernel)), Or.inl rfl⟩
theorem fg_X7_243_3 : FG RX7 243 3 0 := ⟨RX3, "Layerbook$Movement", TX3, 11, rfl, by decide, (WA_of (i := 307) (by decide +kernel) (by decide +kernel)), Or.inl rfl⟩
theorem lk_X7_248 : LkV RX7 248 0 yX0_layerAt cX0_layerAt 4 (some (.object "Layerbook$Layer")) 1 := ⟨⟨TX0, 7, rfl⟩, (WA_of (i := 752) (by decide +kernel) (by decide +kernel)), (WA_of (i := 753) (by decide +kernel) (by decide +kernel)), (WA_of (i := 754) (by decide +kernel) (by decide +kernel)), (WA_of (i := 50) (by decide +kernel) (by decide +kernel)), (WA_of (i := 755) (by decide +kernel) (by decide +kernel)), by decide, by decide, by decide +kernel⟩
theorem lk_X7_254 : LkV RX7 254 2 yX2_insert cX2_insert 4 none 1 := ⟨⟨TX2, 2, rfl⟩, (WA_of (i := 367) (by decide +kernel) (by decide +kernel)), (WA_of (i := 368) (by decide +kernel) (by decide +kernel)), (WA_of (i := 369) (by decide +kernel) (by decide +kernel)), (WA_of (i := 48) (by decide +kernel) (by decide +kernel)), (WA_of (i := 370) (by decide +kernel) (by decide +kernel)), by decide, by decide, by decide +kernel⟩
theorem lk_X7_257_0 : LkU RX7 257 0 RX6 ⟨RX6, "replay", "(LLayerbook$Movement;II)V"⟩ yX6_replay cX6_replay 5 none 3 := ⟨⟨RX0, TX0, 7, rfl, (WA_of (i := 594) (by decide +kernel) (by decide +kernel))⟩, (WA_of (i := 591) (by decide +kernel) (by decide +kernel)), (WA_of (i := 593) (by decide +kernel) (by decide +kernel)), (WA_of (i := 592) (by decide +kernel) (by decide +kernel)), (WA_of (i := 49) (by decide +kernel) (by decide +kernel)), (WA_of (i := 596) (by decide +kernel) (by decide +kernel)), Or.inr rfl, by decide, by decide, by decide +kernel⟩
theorem lk_X7_257_4 : LkU RX7 257 4 RX6 ⟨RX6, "replay", "(LLayerbook$Movement;II)V"⟩ yX6_replay cX6_replay 5 none 3 := ⟨⟨RX4, TX4, 6, rfl, (WA_of (i := 595) (by decide +kernel) (by decide +kernel))⟩, (WA_of (i := 591) (by decide +kernel) (by decide +kernel)), (WA_of (i := 593) (by decide +kernel) (by decide +kernel)), (WA_of (i := 592) (by decide +kernel) (by decide +kernel)), (WA_of (i := 49) (by decide +kernel) (by decide +kernel)), (WA_of (i := 596) (by decide +kernel) (by decide +kernel)), Or.inr rfl, by decide, by decide, by decide +kernel⟩
theorem fg_X7_258_3 : FG RX7 258 3 5 := ⟨RX3, "Layerbook$Movement", TX3, 11, rfl, by decide, (WA_of (i := 329) (by decide +kernel) (by decide +kernel)), Or.inl rfl⟩
theorem lk_X7_260 : LkV RX7 260 6 yX7_basisOf cX7_basisOf 3 (some .long) 2 := ⟨⟨TX7, 7, rfl⟩, (WA_of (i := 450) (by decide +kernel) (by decide +kernel)), (WA_of (i := 452) (by decide +kernel) (by decide +kernel)), (WA_of (i := 11) (by decide +kernel) (by decide +kernel)), (WA_of (i := 47) (by decide +kernel) (by decide +kernel)), (WA_of (i := 453) (by decide +kernel) (by decide +kernel)), by decide, by decide, by decide +kernel⟩
theorem nw_X7_154 : Cond.classLink RX7 154 RX5 ∈ WA ∧ Cond.instantiable RX5 4 ∈ WA ∧ Cond.initialized RX5 ∈ WA := ⟨(WA_of (i := 463) (by decide +kernel) (by decide +kernel)), (WA_of (i := 464) (by decide +kernel) (by decide +kernel)), (WA_of (i := 62) (by decide +kernel) (by decide +kernel))⟩
theorem lk_X7_264 : LkI RX7 264 yX5_init cX5_init 6 4 := ⟨(WA_of (i := 465) (by decide +kernel) (by decide +kernel)), (WA_of (i := 466) (by decide +kernel) (by decide +kernel)), (WA_of (i := 62) (by decide +kernel) (by decide +kernel)), (WA_of (i := 467) (by decide +kernel) (by decide +kernel)), rfl, by decide, by decide, by decide +kernel⟩
theorem lk_X7_267 : LkS RX7 267 yX7_giveCent cX7_giveCent 3 none 1 := ⟨(WA_of (i := 490) (by decide +kernel) (by decide +kernel)), (WA_of (i := 491) (by decide +kernel) (by decide +kernel)), (WA_of (i := 47) (by decide +kernel) (by decide +kernel)), (WA_of (i := 492) (by decide +kernel) (by decide +kernel)), by decide, by decide, by decide +kernel⟩
theorem fg_X7_271_5 : FG RX7 271 5 3 := ⟨RX5, "Layerbook$Share", TX5, 4, rfl, by decide, (WA_of (i := 480) (by decide +kernel) (by decide +kernel)), Or.inl rfl⟩
theorem fg_X7_274_5 : FG RX7 274 5 1 := ⟨RX5, "Layerbook$Share", TX5, 4, rfl, by decide, (WA_of (i := 475) (by decide +kernel) (by decide +kernel)), Or.inl rfl⟩
theorem cs_X7_277 : Cond.constantLong RX7 277 (-1 : Int64) ∈ WA := (WA_of (i := 493) (by decide +kernel) (by decide +kernel))
theorem lk_X8_1 : Cond.methodLink RX8 1 objectInit ∈ WA := (WA_of (i := 776) (by decide +kernel) (by decide +kernel))
theorem fg_X8_7_7 : FG RX8 7 7 0 := ⟨RX8, "LayerbookModel", TX8, 26, rfl, by decide, (WA_of (i := 777) (by decide +kernel) (by decide +kernel)), Or.inl rfl⟩
theorem fg_X8_13_7 : FG RX8 13 7 1 := ⟨RX8, "LayerbookModel", TX8, 26, rfl, by decide, (WA_of (i := 778) (by decide +kernel) (by decide +kernel)), Or.inl rfl⟩
theorem fg_X8_16_7 : FG RX8 16 7 2 := ⟨RX8, "LayerbookModel", TX8, 26, rfl, by decide, (WA_of (i := 779) (by decide +kernel) (by decide +kernel)), Or.inl rfl⟩
theorem fg_X8_19_7 : FG RX8 19 7 3 := ⟨RX8, "LayerbookModel", TX8, 26, rfl, by decide, (WA_of (i := 780) (by decide +kernel) (by decide +kernel)), Or.inl rfl⟩
theorem fg_X8_22_7 : FG RX8 22 7 4 := ⟨RX8, "LayerbookModel", TX8, 26, rfl, by decide, (WA_of (i := 781) (by decide +kernel) (by decide +kernel)), Or.inl rfl⟩
theorem fg_X8_25_7 : FG RX8 25 7 5 := ⟨RX8, "LayerbookModel", TX8, 26, rfl, by decide, (WA_of (i := 782) (by decide +kernel) (by decide +kernel)), Or.inl rfl⟩
theorem fg_X8_29_7 : FG RX8 29 7 6 := ⟨RX8, "LayerbookModel", TX8, 26, rfl, by decide, (WA_of (i := 783) (by decide +kernel) (by decide +kernel)), Or.inl rfl⟩
theorem fg_X8_33_7 : FG RX8 33 7 7 := ⟨RX8, "LayerbookModel", TX8, 26, rfl, by decide, (WA_of (i := 784) (by decide +kernel) (by decide +kernel)), Or.inl rfl⟩
theorem fg_X8_36_7 : FG RX8 36 7 9 := ⟨RX8, "LayerbookModel", TX8, 26, rfl, by decide, (WA_of (i := 786) (by decide +kernel) (by decide +kernel)), Or.inl rfl⟩
theorem fg_X8_40_7 : FG RX8 40 7 10 := ⟨RX8, "LayerbookModel", TX8, 26, rfl, by decide, (WA_of (i := 787) (by decide +kernel) (by decide +kernel)), Or.inl rfl⟩
theorem fg_X8_43_7 : FG RX8 43 7 11 := ⟨RX8, "LayerbookModel", TX8, 26, rfl, by decide, (WA_of (i := 788) (by decide +kernel) (by decide +kernel)), Or.inl rfl⟩
theorem fg_X8_46_7 : FG RX8 46 7 16 := ⟨RX8, "LayerbookModel", TX8, 26, rfl, by decide, (WA_of (i := 793) (by decide +kernel) (by decide +kernel)), Or.inl rfl⟩
theorem fg_X8_49_7 : FG RX8 49 7 17 := ⟨RX8, "LayerbookModel", TX8, 26, rfl, by decide, (WA_of (i := 794) (by decide +kernel) (by decide +kernel)), Or.inl rfl⟩
theorem fg_X8_52_7 : FG RX8 52 7 18 := ⟨RX8, "LayerbookModel", TX8, 26, rfl, by decide, (WA_of (i := 795) (by decide +kernel) (by decide +kernel)), Or.inl rfl⟩
theorem fg_X8_55_7 : FG RX8 55 7 19 := ⟨RX8, "LayerbookModel", TX8, 26, rfl, by decide, (WA_of (i := 796) (by decide +kernel) (by decide +kernel)), Or.inl rfl⟩
theorem fg_X8_58_7 : FG RX8 58 7 21 := ⟨RX8, "LayerbookModel", TX8, 26, rfl, by decide, (WA_of (i := 798) (by decide +kernel) (by decide +kernel)), Or.inl rfl⟩
theorem fg_X8_61_7 : FG RX8 61 7 22 := ⟨RX8, "LayerbookModel", TX8, 26, rfl, by decide, (WA_of (i := 799) (by decide +kernel) (by decide +kernel)), Or.inl rfl⟩
theorem fg_X8_64_7 : FG RX8 64 7 23 := ⟨RX8, "LayerbookModel", TX8, 26, rfl, by decide, (WA_of (i := 800) (by decide +kernel) (by decide +kernel)), Or.inl rfl⟩
theorem fg_X8_67_7 : FG RX8 67 7 24 := ⟨RX8, "LayerbookModel", TX8, 26, rfl, by decide, (WA_of (i := 801) (by decide +kernel) (by decide +kernel)), Or.inl rfl⟩
theorem fg_X8_70_7 : FG RX8 70 7 25 := ⟨RX8, "LayerbookModel", TX8, 26, rfl, by decide, (WA_of (i := 802) (by decide +kernel) (by decide +kernel)), Or.inl rfl⟩
theorem lk_X8_73 : LkS RX8 73 yX8_isIn cX8_isIn 3 (some .boolean) 3 := ⟨(WA_of (i := 877) (by decide +kernel) (by decide +kernel)), (WA_of (i := 878) (by decide +kernel) (by decide +kernel)), (WA_of (i := 52) (by decide +kernel) (by decide +kernel)), (WA_of (i := 879) (by decide +kernel) (by decide +kernel)), by decide, by decide, by decide +kernel⟩
theorem fg_X8_77_7 : FG RX8 77 7 8 := ⟨RX8, "LayerbookModel", TX8, 26, rfl, by decide, (WA_of (i := 785) (by decide +kernel) (by decide +kernel)), Or.inl rfl⟩
theorem fg_X8_80_7 : FG RX8 80 7 12 := ⟨RX8, "LayerbookModel", TX8, 26, rfl, by decide, (WA_of (i := 789) (by decide +kernel) (by decide +kernel)), Or.inl rfl⟩
theorem lk_X8_83 : LkV RX8 83 7 yX8_orders cX8_orders 3 none 0 := ⟨⟨TX8, 26, rfl⟩, (WA_of (i := 900) (by decide +kernel) (by decide +kernel)), (WA_of (i := 902) (by decide +kernel) (by decide +kernel)), (WA_of (i := 24) (by decide +kernel) (by decide +kernel)), (WA_of (i := 52) (by decide +kernel) (by decide +kernel)), (WA_of (i := 903) (by decide +kernel) (by decide +kernel)), by decide, by decide, by decide +kernel⟩
theorem lk_X8_86 : LkV RX8 86 7 yX8_takesUnits cX8_takesUnits 3 (some .boolean) 2 := ⟨⟨TX8, 26, rfl⟩, (WA_of (i := 904) (by decide +kernel) (by decide +kernel)), (WA_of (i := 906) (by decide +kernel) (by decide +kernel)), (WA_of (i := 25) (by decide +kernel) (by decide +kernel)), (WA_of (i := 52) (by decide +kernel) (by decide +kernel)), (WA_of (i := 907) (by decide +kernel) (by decide +kernel)), by decide, by decide, by decide +kernel⟩
theorem lk_X8_90 : LkV RX8 90 7 yX8_change cX8_change 3 (some .int) 2 := ⟨⟨TX8, 26, rfl⟩, (WA_of (i := 908) (by decide +kernel) (by decide +kernel)), (WA_of (i := 910) (by decide +kernel) (by decide +kernel)), (WA_of (i := 26) (by decide +kernel) (by decide +kernel)), (WA_of (i := 52) (by decide +kernel) (by decide +kernel)), (WA_of (i := 911) (by decide +kernel) (by decide +kernel)), by decide, by decide, by decide +kernel⟩
theorem lk_X8_94 : LkV RX8 94 7 yX8_isValid cX8_isValid 6 (some .boolean) 1 := ⟨⟨TX8, 26, rfl⟩, (WA_of (i := 896) (by decide +kernel) (by decide +kernel)), (WA_of (i := 898) (by decide +kernel) (by decide +kernel)), (WA_of (i := 23) (by decide +kernel) (by decide +kernel)), (WA_of (i := 52) (by decide +kernel) (by decide +kernel)), (WA_of (i := 899) (by decide +kernel) (by decide +kernel)), by decide, by decide, by decide +kernel⟩
theorem lk_X8_98 : LkS RX8 98 yX8_isDay cX8_isDay 1 (some .boolean) 1 := ⟨(WA_of (i := 874) (by decide +kernel) (by decide +kernel)), (WA_of (i := 875) (by decide +kernel) (by decide +kernel)), (WA_of (i := 52) (by decide +kernel) (by decide +kernel)), (WA_of (i := 876) (by decide +kernel) (by decide +kernel)), by decide, by decide, by decide +kernel⟩
theorem lk_X8_101 : LkS RX8 101 yX8_isItem cX8_isItem 1 (some .boolean) 1 := ⟨(WA_of (i := 880) (by decide +kernel) (by decide +kernel)), (WA_of (i := 881) (by decide +kernel) (by decide +kernel)), (WA_of (i := 52) (by decide +kernel) (by decide +kernel)), (WA_of (i := 882) (by decide +kernel) (by decide +kernel)), by decide, by decide, by decide +kernel⟩
theorem cs_X8_104 : Cond.constant RX8 104 (1000000 : Int32) ∈ WA := (WA_of (i := 883) (by decide +kernel) (by decide +kernel))
theorem lk_X8_105 : LkV RX8 105 7 yX8_isShut cX8_isShut 2 (some .boolean) 1 := ⟨⟨TX8, 26, rfl⟩, (WA_of (i := 884) (by decide +kernel) (by decide +kernel)), (WA_of (i := 886) (by decide +kernel) (by decide +kernel)), (WA_of (i := 20) (by decide +kernel) (by decide +kernel)), (WA_of (i := 52) (by decide +kernel) (by decide +kernel)), (WA_of (i := 887) (by decide +kernel) (by decide +kernel)), by decide, by decide, by decide +kernel⟩
theorem lk_X8_108 : LkV RX8 108 7 yX8_wrong cX8_wrong 5 (some .int) 4 := ⟨⟨TX8, 26, rfl⟩, (WA_of (i := 870) (by decide +kernel) (by decide +kernel)), (WA_of (i := 872) (by decide +kernel) (by decide +kernel)), (WA_of (i := 19) (by decide +kernel) (by decide +kernel)), (WA_of (i := 52) (by decide +kernel) (by decide +kernel)), (WA_of (i := 873) (by decide +kernel) (by decide +kernel)), by decide, by decide, by decide +kernel⟩
theorem lk_X8_112 : LkV RX8 112 7 yX8_goes cX8_goes 2 (some .boolean) 1 := ⟨⟨TX8, 26, rfl⟩, (WA_of (i := 888) (by decide +kernel) (by decide +kernel)), (WA_of (i := 890) (by decide +kernel) (by decide +kernel)), (WA_of (i := 21) (by decide +kernel) (by decide +kernel)), (WA_of (i := 52) (by decide +kernel) (by decide +kernel)), (WA_of (i := 891) (by decide +kernel) (by decide +kernel)), by decide, by decide, by decide +kernel⟩
theorem lk_X8_115 : LkV RX8 115 7 yX8_posts cX8_posts 7 (some .boolean) 5 := ⟨⟨TX8, 26, rfl⟩, (WA_of (i := 892) (by decide +kernel) (by decide +kernel)), (WA_of (i := 894) (by decide +kernel) (by decide +kernel)), (WA_of (i := 22) (by decide +kernel) (by decide +kernel)), (WA_of (i := 52) (by decide +kernel) (by decide +kernel)), (WA_of (i := 895) (by decide +kernel) (by decide +kernel)), by decide, by decide, by decide +kernel⟩
theorem lk_X8_119 : LkV RX8 119 7 yX8_post cX8_post 6 (some .int) 5 := ⟨⟨TX8, 26, rfl⟩, (WA_of (i := 866) (by decide +kernel) (by decide +kernel)), (WA_of (i := 868) (by decide +kernel) (by decide +kernel)), (WA_of (i := 18) (by decide +kernel) (by decide +kernel)), (WA_of (i := 52) (by decide +kernel) (by decide +kernel)), (WA_of (i := 869) (by decide +kernel) (by decide +kernel)), by decide, by decide, by decide +kernel⟩
theorem lk_X8_123 : LkS RX8 123 yX8_has cX8_has 3 (some .boolean) 2 := ⟨(WA_of (i := 928) (by decide +kernel) (by decide +kernel)), (WA_of (i := 929) (by decide +kernel) (by decide +kernel)), (WA_of (i := 52) (by decide +kernel) (by decide +kernel)), (WA_of (i := 930) (by decide +kernel) (by decide +kernel)), by decide, by decide, by decide +kernel⟩
theorem lk_X8_127 : LkV RX8 127 7 yX8_basisOf cX8_basisOf 3 (some .long) 2 := ⟨⟨TX8, 26, rfl⟩, (WA_of (i := 939) (by decide +kernel) (by decide +kernel)), (WA_of (i := 941) (by decide +kernel) (by decide +kernel)), (WA_of (i := 30) (by decide +kernel) (by decide +kernel)), (WA_of (i := 52) (by decide +kernel) (by decide +kernel)), (WA_of (i := 942) (by decide +kernel) (by decide +kernel)), by decide, by decide, by decide +kernel⟩
theorem cs_X8_131 : Cond.constantLong RX8 131 (-1 : Int64) ∈ WA := (WA_of (i := 947) (by decide +kernel) (by decide +kernel))
theorem lk_X8_133 : LkV RX8 133 7 yX8_sumOf cX8_sumOf 7 (some .long) 2 := ⟨⟨TX8, 26, rfl⟩, (WA_of (i := 935) (by decide +kernel) (by decide +kernel)), (WA_of (i := 937) (by decide +kernel) (by decide +kernel)), (WA_of (i := 29) (by decide +kernel) (by decide +kernel)), (WA_of (i := 52) (by decide +kernel) (by decide +kernel)), (WA_of (i := 938) (by decide +kernel) (by decide +kernel)), by decide, by decide, by decide +kernel⟩
theorem lk_X8_137 : LkV RX8 137 7 yX8_next cX8_next 3 (some .int) 0 := ⟨⟨TX8, 26, rfl⟩, (WA_of (i := 948) (by decide +kernel) (by decide +kernel)), (WA_of (i := 950) (by decide +kernel) (by decide +kernel)), (WA_of (i := 32) (by decide +kernel) (by decide +kernel)), (WA_of (i := 52) (by decide +kernel) (by decide +kernel)), (WA_of (i := 951) (by decide +kernel) (by decide +kernel)), by decide, by decide, by decide +kernel⟩
theorem lk_X8_141 : LkV RX8 141 7 yX8_areMovements cX8_areMovements 5 (some .boolean) 1 := ⟨⟨TX8, 26, rfl⟩, (WA_of (i := 924) (by decide +kernel) (by decide +kernel)), (WA_of (i := 926) (by decide +kernel) (by decide +kernel)), (WA_of (i := 27) (by decide +kernel) (by decide +kernel)), (WA_of (i := 52) (by decide +kernel) (by decide +kernel)), (WA_of (i := 927) (by decide +kernel) (by decide +kernel)), by decide, by decide, by decide +kernel⟩
theorem lk_X8_145 : LkV RX8 145 7 yX8_areReceipts cX8_areReceipts 6 (some .boolean) 2 := ⟨⟨TX8, 26, rfl⟩, (WA_of (i := 931) (by decide +kernel) (by decide +kernel)), (WA_of (i := 933) (by decide +kernel) (by decide +kernel)), (WA_of (i := 28) (by decide +kernel) (by decide +kernel)), (WA_of (i := 52) (by decide +kernel) (by decide +kernel)), (WA_of (i := 934) (by decide +kernel) (by decide +kernel)), by decide, by decide, by decide +kernel⟩
theorem lk_X8_148 : LkV RX8 148 7 yX8_spreads cX8_spreads 12 none 4 := ⟨⟨TX8, 26, rfl⟩, (WA_of (i := 943) (by decide +kernel) (by decide +kernel)), (WA_of (i := 945) (by decide +kernel) (by decide +kernel)), (WA_of (i := 31) (by decide +kernel) (by decide +kernel)), (WA_of (i := 52) (by decide +kernel) (by decide +kernel)), (WA_of (i := 946) (by decide +kernel) (by decide +kernel)), by decide, by decide, by decide +kernel⟩
theorem lk_X8_152 : LkV RX8 152 7 yX8_isSpreadOver cX8_isSpreadOver 3 (some .boolean) 2 := ⟨⟨TX8, 26, rfl⟩, (WA_of (i := 964) (by decide +kernel) (by decide +kernel)), (WA_of (i := 966) (by decide +kernel) (by decide +kernel)), (WA_of (i := 35) (by decide +kernel) (by decide +kernel)), (WA_of (i := 52) (by decide +kernel) (by decide +kernel)), (WA_of (i := 967) (by decide +kernel) (by decide +kernel)), by decide, by decide, by decide +kernel⟩
theorem lk_X8_155 : LkV RX8 155 7 yX8_isMovement cX8_isMovement 2 (some .boolean) 1 := ⟨⟨TX8, 26, rfl⟩, (WA_of (i := 956) (by decide +kernel) (by decide +kernel)), (WA_of (i := 958) (by decide +kernel) (by decide +kernel)), (WA_of (i := 33) (by decide +kernel) (by decide +kernel)), (WA_of (i := 52) (by decide +kernel) (by decide +kernel)), (WA_of (i := 959) (by decide +kernel) (by decide +kernel)), by decide, by decide, by decide +kernel⟩
theorem lk_X8_158 : LkV RX8 158 7 yX8_isLanded cX8_isLanded 4 (some .boolean) 1 := ⟨⟨TX8, 26, rfl⟩, (WA_of (i := 960) (by decide +kernel) (by decide +kernel)), (WA_of (i := 962) (by decide +kernel) (by decide +kernel)), (WA_of (i := 34) (by decide +kernel) (by decide +kernel)), (WA_of (i := 52) (by decide +kernel) (by decide +kernel)), (WA_of (i := 963) (by decide +kernel) (by decide +kernel)), by decide, by decide, by decide +kernel⟩
theorem fg_X8_161_7 : FG RX8 161 7 20 := ⟨RX8, "LayerbookModel", TX8, 26, rfl, by decide, (WA_of (i := 797) (by decide +kernel) (by decide +kernel)), Or.inl rfl⟩
theorem lk_X8_164 : LkV RX8 164 7 yX8_drops cX8_drops 2 none 0 := ⟨⟨TX8, 26, rfl⟩, (WA_of (i := 1024) (by decide +kernel) (by decide +kernel)), (WA_of (i := 1026) (by decide +kernel) (by decide +kernel)), (WA_of (i := 41) (by decide +kernel) (by decide +kernel)), (WA_of (i := 52) (by decide +kernel) (by decide +kernel)), (WA_of (i := 1027) (by decide +kernel) (by decide +kernel)), by decide, by decide, by decide +kernel⟩
theorem lk_X8_167 : LkV RX8 167 7 yX8_layerOf cX8_layerOf 4 (some .int) 1 := ⟨⟨TX8, 26, rfl⟩, (WA_of (i := 1012) (by decide +kernel) (by decide +kernel)), (WA_of (i := 1014) (by decide +kernel) (by decide +kernel)), (WA_of (i := 38) (by decide +kernel) (by decide +kernel)), (WA_of (i := 52) (by decide +kernel) (by decide +kernel)), (WA_of (i := 1015) (by decide +kernel) (by decide +kernel)), by decide, by decide, by decide +kernel⟩
theorem fg_X8_171_7 : FG RX8 171 7 15 := ⟨RX8, "LayerbookModel", TX8, 26, rfl, by decide, (WA_of (i := 792) (by decide +kernel) (by decide +kernel)), Or.inl rfl⟩
theorem fg_X8_175_7 : FG RX8 175 7 13 := ⟨RX8, "LayerbookModel", TX8, 26, rfl, by decide, (WA_of (i := 790) (by decide +kernel) (by decide +kernel)), Or.inl rfl⟩
theorem fg_X8_178_7 : FG RX8 178 7 14 := ⟨RX8, "LayerbookModel", TX8, 26, rfl, by decide, (WA_of (i := 791) (by decide +kernel) (by decide +kernel)), Or.inl rfl⟩
theorem lk_X8_181 : LkV RX8 181 7 yX8_takes cX8_takes 8 (some .long) 1 := ⟨⟨TX8, 26, rfl⟩, (WA_of (i := 1020) (by decide +kernel) (by decide +kernel)), (WA_of (i := 1022) (by decide +kernel) (by decide +kernel)), (WA_of (i := 40) (by decide +kernel) (by decide +kernel)), (WA_of (i := 52) (by decide +kernel) (by decide +kernel)), (WA_of (i := 1023) (by decide +kernel) (by decide +kernel)), by decide, by decide, by decide +kernel⟩
theorem lk_X8_185 : LkV RX8 185 7 yX8_lays cX8_lays 4 none 2 := ⟨⟨TX8, 26, rfl⟩, (WA_of (i := 1028) (by decide +kernel) (by decide +kernel)), (WA_of (i := 1030) (by decide +kernel) (by decide +kernel)), (WA_of (i := 42) (by decide +kernel) (by decide +kernel)), (WA_of (i := 52) (by decide +kernel) (by decide +kernel)), (WA_of (i := 1031) (by decide +kernel) (by decide +kernel)), by decide, by decide, by decide +kernel⟩
theorem lk_X8_189 : LkV RX8 189 7 yX8_lands cX8_lands 7 none 2 := ⟨⟨TX8, 26, rfl⟩, (WA_of (i := 1008) (by decide +kernel) (by decide +kernel)), (WA_of (i := 1010) (by decide +kernel) (by decide +kernel)), (WA_of (i := 37) (by decide +kernel) (by decide +kernel)), (WA_of (i := 52) (by decide +kernel) (by decide +kernel)), (WA_of (i := 1011) (by decide +kernel) (by decide +kernel)), by decide, by decide, by decide +kernel⟩
theorem lk_X8_192 : LkV RX8 192 7 yX8_moves cX8_moves 6 none 1 := ⟨⟨TX8, 26, rfl⟩, (WA_of (i := 1016) (by decide +kernel) (by decide +kernel)), (WA_of (i := 1018) (by decide +kernel) (by decide +kernel)), (WA_of (i := 39) (by decide +kernel) (by decide +kernel)), (WA_of (i := 52) (by decide +kernel) (by decide +kernel)), (WA_of (i := 1019) (by decide +kernel) (by decide +kernel)), by decide, by decide, by decide +kernel⟩
theorem lk_X8_196 : LkV RX8 196 7 yX8_walks cX8_walks 6 none 2 := ⟨⟨TX8, 26, rfl⟩, (WA_of (i := 1004) (by decide +kernel) (by decide +kernel)), (WA_of (i := 1006) (by decide +kernel) (by decide +kernel)), (WA_of (i := 36) (by decide +kernel) (by decide +kernel)), (WA_of (i := 52) (by decide +kernel) (by decide +kernel)), (WA_of (i := 1007) (by decide +kernel) (by decide +kernel)), by decide, by decide, by decide +kernel⟩
theorem lk_X8_199 : LkV RX8 199 7 yX8_asks cX8_asks 4 (some .boolean) 2 := ⟨⟨TX8, 26, rfl⟩, (WA_of (i := 1036) (by decide +kernel) (by decide +kernel)), (WA_of (i := 1038) (by decide +kernel) (by decide +kernel)), (WA_of (i := 43) (by decide +kernel) (by decide +kernel)), (WA_of (i := 52) (by decide +kernel) (by decide +kernel)), (WA_of (i := 1039) (by decide +kernel) (by decide +kernel)), by decide, by decide, by decide +kernel⟩
theorem lk_X8_202 : LkV RX8 202 7 yX8_handAt cX8_handAt 5 (some .int) 2 := ⟨⟨TX8, 26, rfl⟩, (WA_of (i := 1044) (by decide +kernel) (by decide +kernel)), (WA_of (i := 1046) (by decide +kernel) (by decide +kernel)), (WA_of (i := 44) (by decide +kernel) (by decide +kernel)), (WA_of (i := 52) (by decide +kernel) (by decide +kernel)), (WA_of (i := 1047) (by decide +kernel) (by decide +kernel)), by decide, by decide, by decide +kernel⟩
theorem lk_X8_205 : LkV RX8 205 7 yX8_asksLayer cX8_asksLayer 4 (some .boolean) 3 := ⟨⟨TX8, 26, rfl⟩, (WA_of (i := 1076) (by decide +kernel) (by decide +kernel)), (WA_of (i := 1078) (by decide +kernel) (by decide +kernel)), (WA_of (i := 45) (by decide +kernel) (by decide +kernel)), (WA_of (i := 52) (by decide +kernel) (by decide +kernel)), (WA_of (i := 1079) (by decide +kernel) (by decide +kernel)), by decide, by decide, by decide +kernel⟩
theorem lk_X0_1 : LkN RX0 1 yX6_init cX6_init 1 0 := ⟨by decide, (WA_of (i := 94) (by decide +kernel) (by decide +kernel)), (WA_of (i := 49) (by decide +kernel) (by decide +kernel)), (WA_of (i := 95) (by decide +kernel) (by decide +kernel)), rfl, by decide, by decide, by decide +kernel⟩
theorem fg_X0_7_0 : FG RX0 7 0 5 := ⟨RX0, "Layerbook$FirstInFirstOut", TX0, 7, rfl, by decide, (WA_of (i := 97) (by decide +kernel) (by decide +kernel)), Or.inl rfl⟩
theorem fg_X0_13_0 : FG RX0 13 0 6 := ⟨RX0, "Layerbook$FirstInFirstOut", TX0, 7, rfl, by decide, (WA_of (i := 98) (by decide +kernel) (by decide +kernel)), Or.inl rfl⟩
theorem fg_X0_16_3 : FG RX0 16 3 6 := ⟨RX3, "Layerbook$Movement", TX3, 11, rfl, by decide, (WA_of (i := 331) (by decide +kernel) (by decide +kernel)), Or.inl rfl⟩
theorem fg_X0_21_3 : FG RX0 21 3 4 := ⟨RX3, "Layerbook$Movement", TX3, 11, rfl, by decide, (WA_of (i := 320) (by decide +kernel) (by decide +kernel)), Or.inl rfl⟩
theorem fg_X0_25_3 : FG RX0 25 3 5 := ⟨RX3, "Layerbook$Movement", TX3, 11, rfl, by decide, (WA_of (i := 327) (by decide +kernel) (by decide +kernel)), Or.inl rfl⟩
theorem lk_X0_28 : LkV RX0 28 1 yX1_fill cX1_fill 5 none 3 := ⟨⟨TX1, 4, rfl⟩, (WA_of (i := 636) (by decide +kernel) (by decide +kernel)), (WA_of (i := 637) (by decide +kernel) (by decide +kernel)), (WA_of (i := 638) (by decide +kernel) (by decide +kernel)), (WA_of (i := 59) (by decide +kernel) (by decide +kernel)), (WA_of (i := 639) (by decide +kernel) (by decide +kernel)), by decide, by decide, by decide +kernel⟩
theorem fg_X0_34_1 : FG RX0 34 1 3 := ⟨RX1, "Layerbook$Layer", TX1, 4, rfl, by decide, (WA_of (i := 296) (by decide +kernel) (by decide +kernel)), Or.inl rfl⟩
theorem fg_X0_37_1 : FG RX0 37 1 1 := ⟨RX1, "Layerbook$Layer", TX1, 4, rfl, by decide, (WA_of (i := 290) (by decide +kernel) (by decide +kernel)), Or.inl rfl⟩
theorem lk_X0_40 : Cond.methodLink RX0 40 Lib.Math.min.name ∈ WA := (WA_of (i := 649) (by decide +kernel) (by decide +kernel))
theorem lk_X0_46 : LkV RX0 46 1 yX1_take cX1_take 4 (some .long) 1 := ⟨⟨TX1, 4, rfl⟩, (WA_of (i := 650) (by decide +kernel) (by decide +kernel)), (WA_of (i := 651) (by decide +kernel) (by decide +kernel)), (WA_of (i := 652) (by decide +kernel) (by decide +kernel)), (WA_of (i := 59) (by decide +kernel) (by decide +kernel)), (WA_of (i := 653) (by decide +kernel) (by decide +kernel)), by decide, by decide, by decide +kernel⟩
theorem lk_X0_50 : LkO RX0 50 ⟨RX0, "portion", "(LLayerbook$Movement;II)J"⟩ yX6_portion cX6_portion 3 (some .long) 3 := ⟨(WA_of (i := 616) (by decide +kernel) (by decide +kernel)), (WA_of (i := 617) (by decide +kernel) (by decide +kernel)), rfl, (WA_of (i := 618) (by decide +kernel) (by decide +kernel)), (WA_of (i := 49) (by decide +kernel) (by decide +kernel)), (WA_of (i := 619) (by decide +kernel) (by decide +kernel)), by decide, by decide, by decide +kernel⟩
theorem fg_X0_54_1 : FG RX0 54 1 2 := ⟨RX1, "Layerbook$Layer", TX1, 4, rfl, by decide, (WA_of (i := 293) (by decide +kernel) (by decide +kernel)), Or.inl rfl⟩
theorem lk_X1_1 : Cond.methodLink RX1 1 objectInit ∈ WA := (WA_of (i := 286) (by decide +kernel) (by decide +kernel))
theorem fg_X1_7_1 : FG RX1 7 1 0 := ⟨RX1, "Layerbook$Layer", TX1, 4, rfl, by decide, (WA_of (i := 287) (by decide +kernel) (by decide +kernel)), Or.inl rfl⟩
theorem fg_X1_13_1 : FG RX1 13 1 1 := ⟨RX1, "Layerbook$Layer", TX1, 4, rfl, by decide, (WA_of (i := 289) (by decide +kernel) (by decide +kernel)), Or.inl rfl⟩
theorem fg_X1_16_1 : FG RX1 16 1 2 := ⟨RX1, "Layerbook$Layer", TX1, 4, rfl, by decide, (WA_of (i := 292) (by decide +kernel) (by decide +kernel)), Or.inl rfl⟩
theorem fg_X1_20_1 : FG RX1 20 1 3 := ⟨RX1, "Layerbook$Layer", TX1, 4, rfl, by decide, (WA_of (i := 295) (by decide +kernel) (by decide +kernel)), Or.inl rfl⟩
theorem lk_X2_1 : Cond.methodLink RX2 1 objectInit ∈ WA := (WA_of (i := 78) (by decide +kernel) (by decide +kernel))
theorem fg_X2_7_2 : FG RX2 7 2 0 := ⟨RX2, "Layerbook$Ledger", TX2, 2, rfl, by decide, (WA_of (i := 79) (by decide +kernel) (by decide +kernel)), Or.inl rfl⟩
theorem fg_X2_13_3 : FG RX2 13 3 2 := ⟨RX3, "Layerbook$Movement", TX3, 11, rfl, by decide, (WA_of (i := 312) (by decide +kernel) (by decide +kernel)), Or.inl rfl⟩
theorem fg_X2_19_3 : FG RX2 19 3 8 := ⟨RX3, "Layerbook$Movement", TX3, 11, rfl, by decide, (WA_of (i := 333) (by decide +kernel) (by decide +kernel)), Or.inl rfl⟩
theorem fg_X2_22_2 : FG RX2 22 2 1 := ⟨RX2, "Layerbook$Ledger", TX2, 2, rfl, by decide, (WA_of (i := 81) (by decide +kernel) (by decide +kernel)), Or.inl rfl⟩
theorem fg_X2_25_3 : FG RX2 25 3 3 := ⟨RX3, "Layerbook$Movement", TX3, 11, rfl, by decide, (WA_of (i := 316) (by decide +kernel) (by decide +kernel)), Or.inl rfl⟩
theorem lk_X2_28 : LkV RX2 28 3 yX3_change cX3_change 1 (some .int) 0 := ⟨⟨TX3, 11, rfl⟩, (WA_of (i := 393) (by decide +kernel) (by decide +kernel)), (WA_of (i := 394) (by decide +kernel) (by decide +kernel)), (WA_of (i := 395) (by decide +kernel) (by decide +kernel)), (WA_of (i := 58) (by decide +kernel) (by decide +kernel)), (WA_of (i := 396) (by decide +kernel) (by decide +kernel)), by decide, by decide, by decide +kernel⟩
theorem lk_X2_32 : LkV RX2 32 3 yX3_isBehind cX3_isBehind 3 (some .boolean) 2 := ⟨⟨TX3, 11, rfl⟩, (WA_of (i := 382) (by decide +kernel) (by decide +kernel)), (WA_of (i := 383) (by decide +kernel) (by decide +kernel)), (WA_of (i := 384) (by decide +kernel) (by decide +kernel)), (WA_of (i := 58) (by decide +kernel) (by decide +kernel)), (WA_of (i := 385) (by decide +kernel) (by decide +kernel)), by decide, by decide, by decide +kernel⟩
theorem lk_X2_36 : LkV RX2 36 3 yX3_needsUnits cX3_needsUnits 1 (some .boolean) 0 := ⟨⟨TX3, 11, rfl⟩, (WA_of (i := 386) (by decide +kernel) (by decide +kernel)), (WA_of (i := 387) (by decide +kernel) (by decide +kernel)), (WA_of (i := 388) (by decide +kernel) (by decide +kernel)), (WA_of (i := 58) (by decide +kernel) (by decide +kernel)), (WA_of (i := 389) (by decide +kernel) (by decide +kernel)), by decide, by decide, by decide +kernel⟩
theorem fg_X2_40_3 : FG RX2 40 3 4 := ⟨RX3, "Layerbook$Movement", TX3, 11, rfl, by decide, (WA_of (i := 322) (by decide +kernel) (by decide +kernel)), Or.inl rfl⟩
theorem lk_X2_43 : Cond.methodLink RX2 43 Lib.Math.min.name ∈ WA := (WA_of (i := 390) (by decide +kernel) (by decide +kernel))
theorem lk_X2_49 : LkV RX2 49 3 yX3_shareOf cX3_shareOf 3 (some (.object "Layerbook$Share")) 1 := ⟨⟨TX3, 11, rfl⟩, (WA_of (i := 515) (by decide +kernel) (by decide +kernel)), (WA_of (i := 516) (by decide +kernel) (by decide +kernel)), (WA_of (i := 517) (by decide +kernel) (by decide +kernel)), (WA_of (i := 58) (by decide +kernel) (by decide +kernel)), (WA_of (i := 518) (by decide +kernel) (by decide +kernel)), by decide, by decide, by decide +kernel⟩
theorem lk_X3_3 : Cond.methodLink RX3 3 objectInit ∈ WA := (WA_of (i := 280) (by decide +kernel) (by decide +kernel))
theorem fg_X3_9_3 : FG RX3 9 3 0 := ⟨RX3, "Layerbook$Movement", TX3, 11, rfl, by decide, (WA_of (i := 306) (by decide +kernel) (by decide +kernel)), Or.inl rfl⟩
theorem fg_X3_15_3 : FG RX3 15 3 1 := ⟨RX3, "Layerbook$Movement", TX3, 11, rfl, by decide, (WA_of (i := 308) (by decide +kernel) (by decide +kernel)), Or.inl rfl⟩
theorem fg_X3_18_3 : FG RX3 18 3 2 := ⟨RX3, "Layerbook$Movement", TX3, 11, rfl, by decide, (WA_of (i := 311) (by decide +kernel) (by decide +kernel)), Or.inl rfl⟩
theorem fg_X3_21_3 : FG RX3 21 3 3 := ⟨RX3, "Layerbook$Movement", TX3, 11, rfl, by decide, (WA_of (i := 315) (by decide +kernel) (by decide +kernel)), Or.inl rfl⟩
theorem fg_X3_24_3 : FG RX3 24 3 4 := ⟨RX3, "Layerbook$Movement", TX3, 11, rfl, by decide, (WA_of (i := 319) (by decide +kernel) (by decide +kernel)), Or.inl rfl⟩
theorem fg_X3_27_3 : FG RX3 27 3 5 := ⟨RX3, "Layerbook$Movement", TX3, 11, rfl, by decide, (WA_of (i := 325) (by decide +kernel) (by decide +kernel)), Or.inl rfl⟩
theorem nw_X3_30 : Cond.classLink RX3 30 RX1 ∈ WA ∧ Cond.instantiable RX1 4 ∈ WA ∧ Cond.initialized RX1 ∈ WA := ⟨(WA_of (i := 281) (by decide +kernel) (by decide +kernel)), (WA_of (i := 282) (by decide +kernel) (by decide +kernel)), (WA_of (i := 59) (by decide +kernel) (by decide +kernel))⟩
theorem lk_X3_32 : LkI RX3 32 yX1_init cX1_init 2 1 := ⟨(WA_of (i := 283) (by decide +kernel) (by decide +kernel)), (WA_of (i := 284) (by decide +kernel) (by decide +kernel)), (WA_of (i := 59) (by decide +kernel) (by decide +kernel)), (WA_of (i := 285) (by decide +kernel) (by decide +kernel)), rfl, by decide, by decide, by decide +kernel⟩
theorem fg_X3_35_3 : FG RX3 35 3 6 := ⟨RX3, "Layerbook$Movement", TX3, 11, rfl, by decide, (WA_of (i := 330) (by decide +kernel) (by decide +kernel)), Or.inl rfl⟩
theorem fg_X3_39_3 : FG RX3 39 3 9 := ⟨RX3, "Layerbook$Movement", TX3, 11, rfl, by decide, (WA_of (i := 335) (by decide +kernel) (by decide +kernel)), Or.inl rfl⟩
theorem fg_X3_43_5 : FG RX3 43 5 0 := ⟨RX5, "Layerbook$Share", TX5, 4, rfl, by decide, (WA_of (i := 470) (by decide +kernel) (by decide +kernel)), Or.inl rfl⟩
theorem fg_X3_49_5 : FG RX3 49 5 1 := ⟨RX5, "Layerbook$Share", TX5, 4, rfl, by decide, (WA_of (i := 473) (by decide +kernel) (by decide +kernel)), Or.inl rfl⟩
theorem lk_X4_1 : LkN RX4 1 yX6_init cX6_init 1 0 := ⟨by decide, (WA_of (i := 94) (by decide +kernel) (by decide +kernel)), (WA_of (i := 49) (by decide +kernel) (by decide +kernel)), (WA_of (i := 95) (by decide +kernel) (by decide +kernel)), rfl, by decide, by decide, by decide +kernel⟩
theorem fg_X4_7_4 : FG RX4 7 4 5 := ⟨RX4, "Layerbook$MovingAverage", TX4, 6, rfl, by decide, (WA_of (i := 131) (by decide +kernel) (by decide +kernel)), Or.inl rfl⟩
theorem fg_X4_13_3 : FG RX4 13 3 5 := ⟨RX3, "Layerbook$Movement", TX3, 11, rfl, by decide, (WA_of (i := 326) (by decide +kernel) (by decide +kernel)), Or.inl rfl⟩
theorem fg_X4_19_4 : FG RX4 19 4 0 := ⟨RX4, "Layerbook$MovingAverage", TX4, 6, rfl, by decide, (WA_of (i := 99) (by decide +kernel) (by decide +kernel)), Or.inr (WA_of (i := 100) (by decide +kernel) (by decide +kernel))⟩
theorem fg_X4_22_3 : FG RX4 22 3 4 := ⟨RX3, "Layerbook$Movement", TX3, 11, rfl, by decide, (WA_of (i := 321) (by decide +kernel) (by decide +kernel)), Or.inl rfl⟩
theorem lk_X4_25 : Cond.methodLink RX4 25 Lib.Math.min.name ∈ WA := (WA_of (i := 623) (by decide +kernel) (by decide +kernel))
theorem lk_X4_31 : LkO RX4 31 ⟨RX4, "portion", "(LLayerbook$Movement;II)J"⟩ yX6_portion cX6_portion 3 (some .long) 3 := ⟨(WA_of (i := 624) (by decide +kernel) (by decide +kernel)), (WA_of (i := 625) (by decide +kernel) (by decide +kernel)), rfl, (WA_of (i := 618) (by decide +kernel) (by decide +kernel)), (WA_of (i := 49) (by decide +kernel) (by decide +kernel)), (WA_of (i := 619) (by decide +kernel) (by decide +kernel)), by decide, by decide, by decide +kernel⟩
theorem lk_X5_1 : Cond.methodLink RX5 1 objectInit ∈ WA := (WA_of (i := 468) (by decide +kernel) (by decide +kernel))
theorem fg_X5_7_5 : FG RX5 7 5 0 := ⟨RX5, "Layerbook$Share", TX5, 4, rfl, by decide, (WA_of (i := 469) (by decide +kernel) (by decide +kernel)), Or.inl rfl⟩
theorem fg_X5_13_5 : FG RX5 13 5 2 := ⟨RX5, "Layerbook$Share", TX5, 4, rfl, by decide, (WA_of (i := 476) (by decide +kernel) (by decide +kernel)), Or.inl rfl⟩
theorem fg_X5_17_5 : FG RX5 17 5 3 := ⟨RX5, "Layerbook$Share", TX5, 4, rfl, by decide, (WA_of (i := 479) (by decide +kernel) (by decide +kernel)), Or.inl rfl⟩
theorem fg_X5_21_5 : FG RX5 21 5 1 := ⟨RX5, "Layerbook$Share", TX5, 4, rfl, by decide, (WA_of (i := 472) (by decide +kernel) (by decide +kernel)), Or.inl rfl⟩
theorem lk_X6_3 : Cond.methodLink RX6 3 objectInit ∈ WA := (WA_of (i := 96) (by decide +kernel) (by decide +kernel))
theorem fg_X6_9_0 : FG RX6 9 0 0 := ⟨RX0, "Layerbook$Valuation", TX0, 7, rfl, by decide, (WA_of (i := 101) (by decide +kernel) (by decide +kernel)), Or.inl rfl⟩
theorem fg_X6_9_4 : FG RX6 9 4 0 := ⟨RX4, "Layerbook$Valuation", TX4, 6, rfl, by decide, (WA_of (i := 101) (by decide +kernel) (by decide +kernel)), Or.inl rfl⟩
theorem fg_X6_15_0 : FG RX6 15 0 1 := ⟨RX0, "Layerbook$Valuation", TX0, 7, rfl, by decide, (WA_of (i := 102) (by decide +kernel) (by decide +kernel)), Or.inl rfl⟩
theorem fg_X6_15_4 : FG RX6 15 4 1 := ⟨RX4, "Layerbook$Valuation", TX4, 6, rfl, by decide, (WA_of (i := 102) (by decide +kernel) (by decide +kernel)), Or.inl rfl⟩
theorem fg_X6_19_0 : FG RX6 19 0 2 := ⟨RX0, "Layerbook$Valuation", TX0, 7, rfl, by decide, (WA_of (i := 104) (by decide +kernel) (by decide +kernel)), Or.inl rfl⟩
theorem fg_X6_19_4 : FG RX6 19 4 2 := ⟨RX4, "Layerbook$Valuation", TX4, 6, rfl, by decide, (WA_of (i := 104) (by decide +kernel) (by decide +kernel)), Or.inl rfl⟩
theorem fg_X6_22_0 : FG RX6 22 0 3 := ⟨RX0, "Layerbook$Valuation", TX0, 7, rfl, by decide, (WA_of (i := 106) (by decide +kernel) (by decide +kernel)), Or.inl rfl⟩
theorem fg_X6_22_4 : FG RX6 22 4 3 := ⟨RX4, "Layerbook$Valuation", TX4, 6, rfl, by decide, (WA_of (i := 106) (by decide +kernel) (by decide +kernel)), Or.inl rfl⟩
theorem fg_X6_25_0 : FG RX6 25 0 4 := ⟨RX0, "Layerbook$Valuation", TX0, 7, rfl, by decide, (WA_of (i := 108) (by decide +kernel) (by decide +kernel)), Or.inl rfl⟩
theorem fg_X6_25_4 : FG RX6 25 4 4 := ⟨RX4, "Layerbook$Valuation", TX4, 6, rfl, by decide, (WA_of (i := 108) (by decide +kernel) (by decide +kernel)), Or.inl rfl⟩
theorem lk_X6_28_0 : LkU RX6 28 0 RX6 ⟨RX6, "empty", "()V"⟩ yX0_empty cX0_empty 1 none 0 := ⟨⟨RX0, TX0, 7, rfl, (WA_of (i := 600) (by decide +kernel) (by decide +kernel))⟩, (WA_of (i := 597) (by decide +kernel) (by decide +kernel)), (WA_of (i := 599) (by decide +kernel) (by decide +kernel)), (WA_of (i := 601) (by decide +kernel) (by decide +kernel)), (WA_of (i := 50) (by decide +kernel) (by decide +kernel)), (WA_of (i := 602) (by decide +kernel) (by decide +kernel)), Or.inl (by decide), by decide, by decide, by decide +kernel⟩
theorem lk_X6_28_4 : LkU RX6 28 4 RX6 ⟨RX6, "empty", "()V"⟩ yX4_empty cX4_empty 1 none 0 := ⟨⟨RX4, TX4, 6, rfl, (WA_of (i := 603) (by decide +kernel) (by decide +kernel))⟩, (WA_of (i := 597) (by decide +kernel) (by decide +kernel)), (WA_of (i := 599) (by decide +kernel) (by decide +kernel)), (WA_of (i := 604) (by decide +kernel) (by decide +kernel)), (WA_of (i := 51) (by decide +kernel) (by decide +kernel)), (WA_of (i := 605) (by decide +kernel) (by decide +kernel)), Or.inl (by decide), by decide, by decide, by decide +kernel⟩
theorem fg_X6_31_3 : FG RX6 31 3 2 := ⟨RX3, "Layerbook$Movement", TX3, 11, rfl, by decide, (WA_of (i := 314) (by decide +kernel) (by decide +kernel)), Or.inl rfl⟩
theorem fg_X6_36_3 : FG RX6 36 3 1 := ⟨RX3, "Layerbook$Movement", TX3, 11, rfl, by decide, (WA_of (i := 310) (by decide +kernel) (by decide +kernel)), Or.inl rfl⟩
theorem lk_X6_39_0 : LkU RX6 39 0 RX6 ⟨RX6, "applyShares", "(LLayerbook$Movement;I)V"⟩ yX6_applyShares cX6_applyShares 4 none 2 := ⟨⟨RX0, TX0, 7, rfl, (WA_of (i := 0) (by decide +kernel) (by decide +kernel))⟩, (WA_of (i := 606) (by decide +kernel) (by decide +kernel)), (WA_of (i := 1090) (by decide +kernel) (by decide +kernel)), (WA_of (i := 608) (by decide +kernel) (by decide +kernel)), (WA_of (i := 49) (by decide +kernel) (by decide +kernel)), (WA_of (i := 609) (by decide +kernel) (by decide +kernel)), Or.inr rfl, by decide, by decide, by decide +kernel⟩
theorem lk_X6_39_4 : LkU RX6 39 4 RX6 ⟨RX6, "applyShares", "(LLayerbook$Movement;I)V"⟩ yX6_applyShares cX6_applyShares 4 none 2 := ⟨⟨RX4, TX4, 6, rfl, (WA_of (i := 1) (by decide +kernel) (by decide +kernel))⟩, (WA_of (i := 606) (by decide +kernel) (by decide +kernel)), (WA_of (i := 1090) (by decide +kernel) (by decide +kernel)), (WA_of (i := 608) (by decide +kernel) (by decide +kernel)), (WA_of (i := 49) (by decide +kernel) (by decide +kernel)), (WA_of (i := 609) (by decide +kernel) (by decide +kernel)), Or.inr rfl, by decide, by decide, by decide +kernel⟩
theorem fg_X6_43_3 : FG RX6 43 3 3 := ⟨RX3, "Layerbook$Movement", TX3, 11, rfl, by decide, (WA_of (i := 317) (by decide +kernel) (by decide +kernel)), Or.inl rfl⟩
theorem lk_X6_46_0 : LkU RX6 46 0 RX6 ⟨RX6, "apply", "(LLayerbook$Movement;)V"⟩ yX6_apply cX6_apply 2 none 1 := ⟨⟨RX0, TX0, 7, rfl, (WA_of (i := 2) (by decide +kernel) (by decide +kernel))⟩, (WA_of (i := 626) (by decide +kernel) (by decide +kernel)), (WA_of (i := 1091) (by decide +kernel) (by decide +kernel)), (WA_of (i := 628) (by decide +kernel) (by decide +kernel)), (WA_of (i := 49) (by decide +kernel) (by decide +kernel)), (WA_of (i := 629) (by decide +kernel) (by decide +kernel)), Or.inr rfl, by decide, by decide, by decide +kernel⟩
theorem lk_X6_46_4 : LkU RX6 46 4 RX6 ⟨RX6, "apply", "(LLayerbook$Movement;)V"⟩ yX6_apply cX6_apply 2 none 1 := ⟨⟨RX4, TX4, 6, rfl, (WA_of (i := 3) (by decide +kernel) (by decide +kernel))⟩, (WA_of (i := 626) (by decide +kernel) (by decide +kernel)), (WA_of (i := 1091) (by decide +kernel) (by decide +kernel)), (WA_of (i := 628) (by decide +kernel) (by decide +kernel)), (WA_of (i := 49) (by decide +kernel) (by decide +kernel)), (WA_of (i := 629) (by decide +kernel) (by decide +kernel)), Or.inr rfl, by decide, by decide, by decide +kernel⟩
theorem fg_X6_50_3 : FG RX6 50 3 8 := ⟨RX3, "Layerbook$Movement", TX3, 11, rfl, by decide, (WA_of (i := 334) (by decide +kernel) (by decide +kernel)), Or.inl rfl⟩
theorem lk_X6_54_0 : LkU RX6 54 0 RX6 ⟨RX6, "bring", "(LLayerbook$Movement;)V"⟩ yX0_bring cX0_bring 3 none 1 := ⟨⟨RX0, TX0, 7, rfl, (WA_of (i := 633) (by decide +kernel) (by decide +kernel))⟩, (WA_of (i := 630) (by decide +kernel) (by decide +kernel)), (WA_of (i := 632) (by decide +kernel) (by decide +kernel)), (WA_of (i := 634) (by decide +kernel) (by decide +kernel)), (WA_of (i := 50) (by decide +kernel) (by decide +kernel)), (WA_of (i := 635) (by decide +kernel) (by decide +kernel)), Or.inl (by decide), by decide, by decide, by decide +kernel⟩
theorem lk_X6_54_4 : LkU RX6 54 4 RX6 ⟨RX6, "bring", "(LLayerbook$Movement;)V"⟩ yX4_bring cX4_bring 2 none 1 := ⟨⟨RX4, TX4, 6, rfl, (WA_of (i := 640) (by decide +kernel) (by decide +kernel))⟩, (WA_of (i := 630) (by decide +kernel) (by decide +kernel)), (WA_of (i := 632) (by decide +kernel) (by decide +kernel)), (WA_of (i := 641) (by decide +kernel) (by decide +kernel)), (WA_of (i := 51) (by decide +kernel) (by decide +kernel)), (WA_of (i := 642) (by decide +kernel) (by decide +kernel)), Or.inl (by decide), by decide, by decide, by decide +kernel⟩
theorem fg_X6_57_3 : FG RX6 57 3 5 := ⟨RX3, "Layerbook$Movement", TX3, 11, rfl, by decide, (WA_of (i := 328) (by decide +kernel) (by decide +kernel)), Or.inl rfl⟩
theorem fg_X6_60_3 : FG RX6 60 3 4 := ⟨RX3, "Layerbook$Movement", TX3, 11, rfl, by decide, (WA_of (i := 323) (by decide +kernel) (by decide +kernel)), Or.inl rfl⟩
theorem lk_X6_63_0 : LkU RX6 63 0 RX6 ⟨RX6, "take", "(I)J"⟩ yX0_take cX0_take 7 (some .long) 1 := ⟨⟨RX0, TX0, 7, rfl, (WA_of (i := 646) (by decide +kernel) (by decide +kernel))⟩, (WA_of (i := 643) (by decide +kernel) (by decide +kernel)), (WA_of (i := 645) (by decide +kernel) (by decide +kernel)), (WA_of (i := 647) (by decide +kernel) (by decide +kernel)), (WA_of (i := 50) (by decide +kernel) (by decide +kernel)), (WA_of (i := 648) (by decide +kernel) (by decide +kernel)), Or.inl (by decide), by decide, by decide, by decide +kernel⟩
theorem lk_X6_63_4 : LkU RX6 63 4 RX6 ⟨RX6, "take", "(I)J"⟩ yX4_take cX4_take 4 (some .long) 1 := ⟨⟨RX4, TX4, 6, rfl, (WA_of (i := 654) (by decide +kernel) (by decide +kernel))⟩, (WA_of (i := 643) (by decide +kernel) (by decide +kernel)), (WA_of (i := 645) (by decide +kernel) (by decide +kernel)), (WA_of (i := 655) (by decide +kernel) (by decide +kernel)), (WA_of (i := 51) (by decide +kernel) (by decide +kernel)), (WA_of (i := 656) (by decide +kernel) (by decide +kernel)), Or.inl (by decide), by decide, by decide, by decide +kernel⟩
theorem fg_X6_67_3 : FG RX6 67 3 10 := ⟨RX3, "Layerbook$Movement", TX3, 11, rfl, by decide, (WA_of (i := 338) (by decide +kernel) (by decide +kernel)), Or.inl rfl⟩
theorem lk_X6_70_0 : LkU RX6 70 0 RX6 ⟨RX6, "bringBack", "(LLayerbook$Movement;)V"⟩ yX0_bringBack cX0_bringBack 3 none 1 := ⟨⟨RX0, TX0, 7, rfl, (WA_of (i := 660) (by decide +kernel) (by decide +kernel))⟩, (WA_of (i := 657) (by decide +kernel) (by decide +kernel)), (WA_of (i := 659) (by decide +kernel) (by decide +kernel)), (WA_of (i := 661) (by decide +kernel) (by decide +kernel)), (WA_of (i := 50) (by decide +kernel) (by decide +kernel)), (WA_of (i := 662) (by decide +kernel) (by decide +kernel)), Or.inl (by decide), by decide, by decide, by decide +kernel⟩
theorem lk_X6_70_4 : LkU RX6 70 4 RX6 ⟨RX6, "bringBack", "(LLayerbook$Movement;)V"⟩ yX4_bringBack cX4_bringBack 2 none 1 := ⟨⟨RX4, TX4, 6, rfl, (WA_of (i := 663) (by decide +kernel) (by decide +kernel))⟩, (WA_of (i := 657) (by decide +kernel) (by decide +kernel)), (WA_of (i := 659) (by decide +kernel) (by decide +kernel)), (WA_of (i := 664) (by decide +kernel) (by decide +kernel)), (WA_of (i := 51) (by decide +kernel) (by decide +kernel)), (WA_of (i := 665) (by decide +kernel) (by decide +kernel)), Or.inl (by decide), by decide, by decide, by decide +kernel⟩
theorem lk_X6_73 : LkV RX6 73 3 yX3_change cX3_change 1 (some .int) 0 := ⟨⟨TX3, 11, rfl⟩, (WA_of (i := 666) (by decide +kernel) (by decide +kernel)), (WA_of (i := 394) (by decide +kernel) (by decide +kernel)), (WA_of (i := 395) (by decide +kernel) (by decide +kernel)), (WA_of (i := 58) (by decide +kernel) (by decide +kernel)), (WA_of (i := 396) (by decide +kernel) (by decide +kernel)), by decide, by decide, by decide +kernel⟩
theorem fg_X6_77_3 : FG RX6 77 3 9 := ⟨RX3, "Layerbook$Movement", TX3, 11, rfl, by decide, (WA_of (i := 337) (by decide +kernel) (by decide +kernel)), Or.inl rfl⟩
theorem fg_X6_81_5 : FG RX6 81 5 0 := ⟨RX5, "Layerbook$Share", TX5, 4, rfl, by decide, (WA_of (i := 471) (by decide +kernel) (by decide +kernel)), Or.inl rfl⟩
theorem fg_X6_86_5 : FG RX6 86 5 2 := ⟨RX5, "Layerbook$Share", TX5, 4, rfl, by decide, (WA_of (i := 477) (by decide +kernel) (by decide +kernel)), Or.inl rfl⟩
theorem lk_X6_89_0 : LkU RX6 89 0 RX6 ⟨RX6, "absorb", "(LLayerbook$Movement;I)J"⟩ yX0_absorb cX0_absorb 6 (some .long) 2 := ⟨⟨RX0, TX0, 7, rfl, (WA_of (i := 613) (by decide +kernel) (by decide +kernel))⟩, (WA_of (i := 610) (by decide +kernel) (by decide +kernel)), (WA_of (i := 612) (by decide +kernel) (by decide +kernel)), (WA_of (i := 614) (by decide +kernel) (by decide +kernel)), (WA_of (i := 50) (by decide +kernel) (by decide +kernel)), (WA_of (i := 615) (by decide +kernel) (by decide +kernel)), Or.inl (by decide), by decide, by decide, by decide +kernel⟩
theorem lk_X6_89_4 : LkU RX6 89 4 RX6 ⟨RX6, "absorb", "(LLayerbook$Movement;I)J"⟩ yX4_absorb cX4_absorb 5 (some .long) 2 := ⟨⟨RX4, TX4, 6, rfl, (WA_of (i := 620) (by decide +kernel) (by decide +kernel))⟩, (WA_of (i := 610) (by decide +kernel) (by decide +kernel)), (WA_of (i := 612) (by decide +kernel) (by decide +kernel)), (WA_of (i := 621) (by decide +kernel) (by decide +kernel)), (WA_of (i := 51) (by decide +kernel) (by decide +kernel)), (WA_of (i := 622) (by decide +kernel) (by decide +kernel)), Or.inl (by decide), by decide, by decide, by decide +kernel⟩
theorem fg_X6_93_5 : FG RX6 93 5 1 := ⟨RX5, "Layerbook$Share", TX5, 4, rfl, by decide, (WA_of (i := 474) (by decide +kernel) (by decide +kernel)), Or.inl rfl⟩
theorem lk_L_7 : LkV RL 7 6 yX7_receive cX7_receive 5 (some .int) 4 := ⟨⟨TX7, 7, rfl⟩, (WA_of (i := 172) (by decide +kernel) (by decide +kernel)), (WA_of (i := 173) (by decide +kernel) (by decide +kernel)), (WA_of (i := 174) (by decide +kernel) (by decide +kernel)), (WA_of (i := 47) (by decide +kernel) (by decide +kernel)), (WA_of (i := 175) (by decide +kernel) (by decide +kernel)), by decide, by decide, by decide +kernel⟩
theorem lk_L_17 : LkV RL 17 6 yX7_issue cX7_issue 4 (some .int) 3 := ⟨⟨TX7, 7, rfl⟩, (WA_of (i := 374) (by decide +kernel) (by decide +kernel)), (WA_of (i := 375) (by decide +kernel) (by decide +kernel)), (WA_of (i := 376) (by decide +kernel) (by decide +kernel)), (WA_of (i := 47) (by decide +kernel) (by decide +kernel)), (WA_of (i := 377) (by decide +kernel) (by decide +kernel)), by decide, by decide, by decide +kernel⟩
theorem lk_L_21 : LkV RL 21 6 yX7_revalue cX7_revalue 5 (some .int) 4 := ⟨⟨TX7, 7, rfl⟩, (WA_of (i := 404) (by decide +kernel) (by decide +kernel)), (WA_of (i := 405) (by decide +kernel) (by decide +kernel)), (WA_of (i := 406) (by decide +kernel) (by decide +kernel)), (WA_of (i := 47) (by decide +kernel) (by decide +kernel)), (WA_of (i := 407) (by decide +kernel) (by decide +kernel)), by decide, by decide, by decide +kernel⟩
theorem lk_L_24 : LkV RL 24 6 yX7_land cX7_land 9 (some .int) 4 := ⟨⟨TX7, 7, rfl⟩, (WA_of (i := 416) (by decide +kernel) (by decide +kernel)), (WA_of (i := 417) (by decide +kernel) (by decide +kernel)), (WA_of (i := 418) (by decide +kernel) (by decide +kernel)), (WA_of (i := 47) (by decide +kernel) (by decide +kernel)), (WA_of (i := 419) (by decide +kernel) (by decide +kernel)), by decide, by decide, by decide +kernel⟩
theorem lk_L_30 : LkV RL 30 6 yX7_cancel cX7_cancel 3 (some .int) 1 := ⟨⟨TX7, 7, rfl⟩, (WA_of (i := 497) (by decide +kernel) (by decide +kernel)), (WA_of (i := 498) (by decide +kernel) (by decide +kernel)), (WA_of (i := 499) (by decide +kernel) (by decide +kernel)), (WA_of (i := 47) (by decide +kernel) (by decide +kernel)), (WA_of (i := 500) (by decide +kernel) (by decide +kernel)), by decide, by decide, by decide +kernel⟩
theorem lk_L_34 : LkV RL 34 6 yX7_close cX7_close 3 (some .int) 1 := ⟨⟨TX7, 7, rfl⟩, (WA_of (i := 527) (by decide +kernel) (by decide +kernel)), (WA_of (i := 528) (by decide +kernel) (by decide +kernel)), (WA_of (i := 529) (by decide +kernel) (by decide +kernel)), (WA_of (i := 47) (by decide +kernel) (by decide +kernel)), (WA_of (i := 530) (by decide +kernel) (by decide +kernel)), by decide, by decide, by decide +kernel⟩
theorem lk_L_37 : LkV RL 37 6 yX7_setWeight cX7_setWeight 4 (some .int) 2 := ⟨⟨TX7, 7, rfl⟩, (WA_of (i := 534) (by decide +kernel) (by decide +kernel)), (WA_of (i := 535) (by decide +kernel) (by decide +kernel)), (WA_of (i := 536) (by decide +kernel) (by decide +kernel)), (WA_of (i := 47) (by decide +kernel) (by decide +kernel)), (WA_of (i := 537) (by decide +kernel) (by decide +kernel)), by decide, by decide, by decide +kernel⟩
theorem lk_L_41 : LkV RL 41 6 yX7_kindOf cX7_kindOf 2 (some .int) 1 := ⟨⟨TX7, 7, rfl⟩, (WA_of (i := 541) (by decide +kernel) (by decide +kernel)), (WA_of (i := 542) (by decide +kernel) (by decide +kernel)), (WA_of (i := 543) (by decide +kernel) (by decide +kernel)), (WA_of (i := 47) (by decide +kernel) (by decide +kernel)), (WA_of (i := 544) (by decide +kernel) (by decide +kernel)), by decide, by decide, by decide +kernel⟩
theorem lk_L_44 : LkV RL 44 6 yX7_dayOf cX7_dayOf 2 (some .int) 1 := ⟨⟨TX7, 7, rfl⟩, (WA_of (i := 548) (by decide +kernel) (by decide +kernel)), (WA_of (i := 549) (by decide +kernel) (by decide +kernel)), (WA_of (i := 550) (by decide +kernel) (by decide +kernel)), (WA_of (i := 47) (by decide +kernel) (by decide +kernel)), (WA_of (i := 551) (by decide +kernel) (by decide +kernel)), by decide, by decide, by decide +kernel⟩
theorem lk_L_47 : LkV RL 47 6 yX7_isCancelled cX7_isCancelled 2 (some .boolean) 1 := ⟨⟨TX7, 7, rfl⟩, (WA_of (i := 555) (by decide +kernel) (by decide +kernel)), (WA_of (i := 556) (by decide +kernel) (by decide +kernel)), (WA_of (i := 557) (by decide +kernel) (by decide +kernel)), (WA_of (i := 47) (by decide +kernel) (by decide +kernel)), (WA_of (i := 558) (by decide +kernel) (by decide +kernel)), by decide, by decide, by decide +kernel⟩
theorem lk_L_51 : LkV RL 51 6 yX7_placeOf cX7_placeOf 3 (some .int) 1 := ⟨⟨TX7, 7, rfl⟩, (WA_of (i := 562) (by decide +kernel) (by decide +kernel)), (WA_of (i := 563) (by decide +kernel) (by decide +kernel)), (WA_of (i := 564) (by decide +kernel) (by decide +kernel)), (WA_of (i := 47) (by decide +kernel) (by decide +kernel)), (WA_of (i := 565) (by decide +kernel) (by decide +kernel)), by decide, by decide, by decide +kernel⟩
theorem lk_L_54 : LkV RL 54 6 yX7_partOf cX7_partOf 6 (some .int) 2 := ⟨⟨TX7, 7, rfl⟩, (WA_of (i := 573) (by decide +kernel) (by decide +kernel)), (WA_of (i := 574) (by decide +kernel) (by decide +kernel)), (WA_of (i := 575) (by decide +kernel) (by decide +kernel)), (WA_of (i := 47) (by decide +kernel) (by decide +kernel)), (WA_of (i := 576) (by decide +kernel) (by decide +kernel)), by decide, by decide, by decide +kernel⟩
theorem lk_L_57 : LkV RL 57 6 yX7_costOf cX7_costOf 4 (some .long) 2 := ⟨⟨TX7, 7, rfl⟩, (WA_of (i := 582) (by decide +kernel) (by decide +kernel)), (WA_of (i := 583) (by decide +kernel) (by decide +kernel)), (WA_of (i := 584) (by decide +kernel) (by decide +kernel)), (WA_of (i := 47) (by decide +kernel) (by decide +kernel)), (WA_of (i := 585) (by decide +kernel) (by decide +kernel)), by decide, by decide, by decide +kernel⟩
theorem lk_L_61 : LkV RL 61 6 yX7_onHand cX7_onHand 3 (some .int) 2 := ⟨⟨TX7, 7, rfl⟩, (WA_of (i := 670) (by decide +kernel) (by decide +kernel)), (WA_of (i := 671) (by decide +kernel) (by decide +kernel)), (WA_of (i := 672) (by decide +kernel) (by decide +kernel)), (WA_of (i := 47) (by decide +kernel) (by decide +kernel)), (WA_of (i := 673) (by decide +kernel) (by decide +kernel)), by decide, by decide, by decide +kernel⟩
theorem lk_L_64 : LkV RL 64 6 yX7_available cX7_available 3 (some .int) 2 := ⟨⟨TX7, 7, rfl⟩, (WA_of (i := 677) (by decide +kernel) (by decide +kernel)), (WA_of (i := 678) (by decide +kernel) (by decide +kernel)), (WA_of (i := 679) (by decide +kernel) (by decide +kernel)), (WA_of (i := 47) (by decide +kernel) (by decide +kernel)), (WA_of (i := 680) (by decide +kernel) (by decide +kernel)), by decide, by decide, by decide +kernel⟩
theorem lk_L_67 : LkV RL 67 6 yX7_value cX7_value 4 (some .long) 3 := ⟨⟨TX7, 7, rfl⟩, (WA_of (i := 685) (by decide +kernel) (by decide +kernel)), (WA_of (i := 686) (by decide +kernel) (by decide +kernel)), (WA_of (i := 687) (by decide +kernel) (by decide +kernel)), (WA_of (i := 47) (by decide +kernel) (by decide +kernel)), (WA_of (i := 688) (by decide +kernel) (by decide +kernel)), by decide, by decide, by decide +kernel⟩
theorem lk_L_71 : LkV RL 71 6 yX7_received cX7_received 3 (some .long) 2 := ⟨⟨TX7, 7, rfl⟩, (WA_of (i := 701) (by decide +kernel) (by decide +kernel)), (WA_of (i := 702) (by decide +kernel) (by decide +kernel)), (WA_of (i := 703) (by decide +kernel) (by decide +kernel)), (WA_of (i := 47) (by decide +kernel) (by decide +kernel)), (WA_of (i := 704) (by decide +kernel) (by decide +kernel)), by decide, by decide, by decide +kernel⟩
theorem lk_L_75 : LkV RL 75 6 yX7_issued cX7_issued 4 (some .long) 3 := ⟨⟨TX7, 7, rfl⟩, (WA_of (i := 708) (by decide +kernel) (by decide +kernel)), (WA_of (i := 709) (by decide +kernel) (by decide +kernel)), (WA_of (i := 710) (by decide +kernel) (by decide +kernel)), (WA_of (i := 47) (by decide +kernel) (by decide +kernel)), (WA_of (i := 711) (by decide +kernel) (by decide +kernel)), by decide, by decide, by decide +kernel⟩
theorem lk_L_78 : LkV RL 78 6 yX7_revalued cX7_revalued 4 (some .long) 3 := ⟨⟨TX7, 7, rfl⟩, (WA_of (i := 715) (by decide +kernel) (by decide +kernel)), (WA_of (i := 716) (by decide +kernel) (by decide +kernel)), (WA_of (i := 717) (by decide +kernel) (by decide +kernel)), (WA_of (i := 47) (by decide +kernel) (by decide +kernel)), (WA_of (i := 718) (by decide +kernel) (by decide +kernel)), by decide, by decide, by decide +kernel⟩
theorem lk_L_81 : LkV RL 81 6 yX7_expensed cX7_expensed 4 (some .long) 3 := ⟨⟨TX7, 7, rfl⟩, (WA_of (i := 722) (by decide +kernel) (by decide +kernel)), (WA_of (i := 723) (by decide +kernel) (by decide +kernel)), (WA_of (i := 724) (by decide +kernel) (by decide +kernel)), (WA_of (i := 47) (by decide +kernel) (by decide +kernel)), (WA_of (i := 725) (by decide +kernel) (by decide +kernel)), by decide, by decide, by decide +kernel⟩
theorem lk_L_84 : LkV RL 84 6 yX7_layers cX7_layers 3 (some .int) 2 := ⟨⟨TX7, 7, rfl⟩, (WA_of (i := 729) (by decide +kernel) (by decide +kernel)), (WA_of (i := 730) (by decide +kernel) (by decide +kernel)), (WA_of (i := 731) (by decide +kernel) (by decide +kernel)), (WA_of (i := 47) (by decide +kernel) (by decide +kernel)), (WA_of (i := 732) (by decide +kernel) (by decide +kernel)), by decide, by decide, by decide +kernel⟩
theorem lk_L_87 : LkV RL 87 6 yX7_layerQuantity cX7_layerQuantity 4 (some .int) 3 := ⟨⟨TX7, 7, rfl⟩, (WA_of (i := 744) (by decide +kernel) (by decide +kernel)), (WA_of (i := 745) (by decide +kernel) (by decide +kernel)), (WA_of (i := 746) (by decide +kernel) (by decide +kernel)), (WA_of (i := 47) (by decide +kernel) (by decide +kernel)), (WA_of (i := 747) (by decide +kernel) (by decide +kernel)), by decide, by decide, by decide +kernel⟩
theorem lk_L_90 : LkV RL 90 6 yX7_layerCost cX7_layerCost 4 (some .long) 3 := ⟨⟨TX7, 7, rfl⟩, (WA_of (i := 760) (by decide +kernel) (by decide +kernel)), (WA_of (i := 761) (by decide +kernel) (by decide +kernel)), (WA_of (i := 762) (by decide +kernel) (by decide +kernel)), (WA_of (i := 47) (by decide +kernel) (by decide +kernel)), (WA_of (i := 763) (by decide +kernel) (by decide +kernel)), by decide, by decide, by decide +kernel⟩
theorem lk_L_94 : LkV RL 94 6 yX7_layerOrigin cX7_layerOrigin 4 (some .int) 3 := ⟨⟨TX7, 7, rfl⟩, (WA_of (i := 767) (by decide +kernel) (by decide +kernel)), (WA_of (i := 768) (by decide +kernel) (by decide +kernel)), (WA_of (i := 769) (by decide +kernel) (by decide +kernel)), (WA_of (i := 47) (by decide +kernel) (by decide +kernel)), (WA_of (i := 770) (by decide +kernel) (by decide +kernel)), by decide, by decide, by decide +kernel⟩
theorem nw_L_8 : Cond.classLink RL 8 RX7 ∈ WA ∧ Cond.instantiable RX7 7 ∈ WA ∧ Cond.initialized RX7 ∈ WA := ⟨(WA_of (i := 63) (by decide +kernel) (by decide +kernel)), (WA_of (i := 64) (by decide +kernel) (by decide +kernel)), (WA_of (i := 47) (by decide +kernel) (by decide +kernel))⟩
theorem lk_L_97 : LkI RL 97 yX7_init cX7_init 2 0 := ⟨(WA_of (i := 65) (by decide +kernel) (by decide +kernel)), (WA_of (i := 66) (by decide +kernel) (by decide +kernel)), (WA_of (i := 47) (by decide +kernel) (by decide +kernel)), (WA_of (i := 67) (by decide +kernel) (by decide +kernel)), rfl, by decide, by decide, by decide +kernel⟩
theorem nw_L_98 : Cond.classLink RL 98 RX8 ∈ WA ∧ Cond.instantiable RX8 26 ∈ WA ∧ Cond.initialized RX8 ∈ WA := ⟨(WA_of (i := 771) (by decide +kernel) (by decide +kernel)), (WA_of (i := 772) (by decide +kernel) (by decide +kernel)), (WA_of (i := 52) (by decide +kernel) (by decide +kernel))⟩
theorem lk_L_100 : LkI RL 100 yX8_init cX8_init 2 0 := ⟨(WA_of (i := 773) (by decide +kernel) (by decide +kernel)), (WA_of (i := 774) (by decide +kernel) (by decide +kernel)), (WA_of (i := 52) (by decide +kernel) (by decide +kernel)), (WA_of (i := 775) (by decide +kernel) (by decide +kernel)), rfl, by decide, by decide, by decide +kernel⟩
theorem lk_L_101 : LkW RL 101 yL_receive cL_receive 7 (some .int) [(0, 14, 17, 13), (0, 14, 21, 15)] 6 := ⟨(WA_of (i := 167) (by decide +kernel) (by decide +kernel)), (WA_of (i := 168) (by decide +kernel) (by decide +kernel)), (WA_of (i := 46) (by decide +kernel) (by decide +kernel)), (WA_of (i := 169) (by decide +kernel) (by decide +kernel)), by decide, by decide, by decide +kernel⟩
theorem lk_L_106 : LkV RL 106 7 yX8_receive cX8_receive 5 (some .int) 4 := ⟨⟨TX8, 26, rfl⟩, (WA_of (i := 862) (by decide +kernel) (by decide +kernel)), (WA_of (i := 863) (by decide +kernel) (by decide +kernel)), (WA_of (i := 864) (by decide +kernel) (by decide +kernel)), (WA_of (i := 52) (by decide +kernel) (by decide +kernel)), (WA_of (i := 865) (by decide +kernel) (by decide +kernel)), by decide, by decide, by decide +kernel⟩
theorem lk_L_107 : LkV RL 107 7 yX8_thrown cX8_thrown 1 (some .int) 0 := ⟨⟨TX8, 26, rfl⟩, (WA_of (i := 858) (by decide +kernel) (by decide +kernel)), (WA_of (i := 859) (by decide +kernel) (by decide +kernel)), (WA_of (i := 860) (by decide +kernel) (by decide +kernel)), (WA_of (i := 52) (by decide +kernel) (by decide +kernel)), (WA_of (i := 861) (by decide +kernel) (by decide +kernel)), by decide, by decide, by decide +kernel⟩
theorem lk_L_111 : LkW RL 111 yL_issue cL_issue 6 (some .int) [(0, 12, 15, 13), (0, 12, 19, 15)] 5 := ⟨(WA_of (i := 371) (by decide +kernel) (by decide +kernel)), (WA_of (i := 372) (by decide +kernel) (by decide +kernel)), (WA_of (i := 46) (by decide +kernel) (by decide +kernel)), (WA_of (i := 373) (by decide +kernel) (by decide +kernel)), by decide, by decide, by decide +kernel⟩
theorem lk_L_114 : LkV RL 114 7 yX8_issue cX8_issue 4 (some .int) 3 := ⟨⟨TX8, 26, rfl⟩, (WA_of (i := 912) (by decide +kernel) (by decide +kernel)), (WA_of (i := 913) (by decide +kernel) (by decide +kernel)), (WA_of (i := 914) (by decide +kernel) (by decide +kernel)), (WA_of (i := 52) (by decide +kernel) (by decide +kernel)), (WA_of (i := 915) (by decide +kernel) (by decide +kernel)), by decide, by decide, by decide +kernel⟩
theorem lk_L_115 : LkW RL 115 yL_revalue cL_revalue 7 (some .int) [(0, 14, 17, 13), (0, 14, 21, 15)] 6 := ⟨(WA_of (i := 401) (by decide +kernel) (by decide +kernel)), (WA_of (i := 402) (by decide +kernel) (by decide +kernel)), (WA_of (i := 46) (by decide +kernel) (by decide +kernel)), (WA_of (i := 403) (by decide +kernel) (by decide +kernel)), by decide, by decide, by decide +kernel⟩
theorem lk_L_117 : LkV RL 117 7 yX8_revalue cX8_revalue 5 (some .int) 4 := ⟨⟨TX8, 26, rfl⟩, (WA_of (i := 916) (by decide +kernel) (by decide +kernel)), (WA_of (i := 917) (by decide +kernel) (by decide +kernel)), (WA_of (i := 918) (by decide +kernel) (by decide +kernel)), (WA_of (i := 52) (by decide +kernel) (by decide +kernel)), (WA_of (i := 919) (by decide +kernel) (by decide +kernel)), by decide, by decide, by decide +kernel⟩
theorem cs_L_118 : Cond.constantLong RL 118 (4294967295 : Int64) ∈ WA := (WA_of (i := 1088) (by decide +kernel) (by decide +kernel))
theorem lk_L_120 : LkW RL 120 yL_land cL_land 8 (some .int) [(0, 14, 17, 13), (0, 14, 21, 28), (0, 14, 25, 15)] 6 := ⟨(WA_of (i := 412) (by decide +kernel) (by decide +kernel)), (WA_of (i := 413) (by decide +kernel) (by decide +kernel)), (WA_of (i := 46) (by decide +kernel) (by decide +kernel)), (WA_of (i := 414) (by decide +kernel) (by decide +kernel)), by decide, by decide, by decide +kernel⟩
theorem lk_L_123 : LkV RL 123 7 yX8_land cX8_land 8 (some .int) 4 := ⟨⟨TX8, 26, rfl⟩, (WA_of (i := 920) (by decide +kernel) (by decide +kernel)), (WA_of (i := 921) (by decide +kernel) (by decide +kernel)), (WA_of (i := 922) (by decide +kernel) (by decide +kernel)), (WA_of (i := 52) (by decide +kernel) (by decide +kernel)), (WA_of (i := 923) (by decide +kernel) (by decide +kernel)), by decide, by decide, by decide +kernel⟩
theorem lk_L_124 : LkW RL 124 yL_cancel cL_cancel 4 (some .int) [(0, 9, 12, 28), (0, 9, 15, 15)] 3 := ⟨(WA_of (i := 494) (by decide +kernel) (by decide +kernel)), (WA_of (i := 495) (by decide +kernel) (by decide +kernel)), (WA_of (i := 46) (by decide +kernel) (by decide +kernel)), (WA_of (i := 496) (by decide +kernel) (by decide +kernel)), by decide, by decide, by decide +kernel⟩
theorem lk_L_127 : LkV RL 127 7 yX8_cancel cX8_cancel 2 (some .int) 1 := ⟨⟨TX8, 26, rfl⟩, (WA_of (i := 952) (by decide +kernel) (by decide +kernel)), (WA_of (i := 953) (by decide +kernel) (by decide +kernel)), (WA_of (i := 954) (by decide +kernel) (by decide +kernel)), (WA_of (i := 52) (by decide +kernel) (by decide +kernel)), (WA_of (i := 955) (by decide +kernel) (by decide +kernel)), by decide, by decide, by decide +kernel⟩
theorem lk_L_128 : LkW RL 128 yL_close cL_close 4 (some .int) [(0, 9, 12, 13), (0, 9, 15, 15)] 3 := ⟨(WA_of (i := 524) (by decide +kernel) (by decide +kernel)), (WA_of (i := 525) (by decide +kernel) (by decide +kernel)), (WA_of (i := 46) (by decide +kernel) (by decide +kernel)), (WA_of (i := 526) (by decide +kernel) (by decide +kernel)), by decide, by decide, by decide +kernel⟩
theorem lk_L_130 : LkV RL 130 7 yX8_close cX8_close 3 (some .int) 1 := ⟨⟨TX8, 26, rfl⟩, (WA_of (i := 968) (by decide +kernel) (by decide +kernel)), (WA_of (i := 969) (by decide +kernel) (by decide +kernel)), (WA_of (i := 970) (by decide +kernel) (by decide +kernel)), (WA_of (i := 52) (by decide +kernel) (by decide +kernel)), (WA_of (i := 971) (by decide +kernel) (by decide +kernel)), by decide, by decide, by decide +kernel⟩
theorem lk_L_131 : LkW RL 131 yL_setWeight cL_setWeight 5 (some .int) [(0, 10, 13, 13)] 4 := ⟨(WA_of (i := 531) (by decide +kernel) (by decide +kernel)), (WA_of (i := 532) (by decide +kernel) (by decide +kernel)), (WA_of (i := 46) (by decide +kernel) (by decide +kernel)), (WA_of (i := 533) (by decide +kernel) (by decide +kernel)), by decide, by decide, by decide +kernel⟩
theorem lk_L_134 : LkV RL 134 7 yX8_setWeight cX8_setWeight 4 (some .int) 2 := ⟨⟨TX8, 26, rfl⟩, (WA_of (i := 972) (by decide +kernel) (by decide +kernel)), (WA_of (i := 973) (by decide +kernel) (by decide +kernel)), (WA_of (i := 974) (by decide +kernel) (by decide +kernel)), (WA_of (i := 52) (by decide +kernel) (by decide +kernel)), (WA_of (i := 975) (by decide +kernel) (by decide +kernel)), by decide, by decide, by decide +kernel⟩
theorem lk_L_135 : LkV RL 135 6 yX7_movements cX7_movements 1 (some .int) 0 := ⟨⟨TX7, 7, rfl⟩, (WA_of (i := 163) (by decide +kernel) (by decide +kernel)), (WA_of (i := 164) (by decide +kernel) (by decide +kernel)), (WA_of (i := 165) (by decide +kernel) (by decide +kernel)), (WA_of (i := 47) (by decide +kernel) (by decide +kernel)), (WA_of (i := 166) (by decide +kernel) (by decide +kernel)), by decide, by decide, by decide +kernel⟩
theorem lk_L_138 : LkV RL 138 7 yX8_movements cX8_movements 1 (some .int) 0 := ⟨⟨TX8, 26, rfl⟩, (WA_of (i := 976) (by decide +kernel) (by decide +kernel)), (WA_of (i := 977) (by decide +kernel) (by decide +kernel)), (WA_of (i := 978) (by decide +kernel) (by decide +kernel)), (WA_of (i := 52) (by decide +kernel) (by decide +kernel)), (WA_of (i := 979) (by decide +kernel) (by decide +kernel)), by decide, by decide, by decide +kernel⟩
theorem lk_L_139 : LkW RL 139 yL_kindOf cL_kindOf 4 (some .int) [(0, 9, 12, 28)] 3 := ⟨(WA_of (i := 538) (by decide +kernel) (by decide +kernel)), (WA_of (i := 539) (by decide +kernel) (by decide +kernel)), (WA_of (i := 46) (by decide +kernel) (by decide +kernel)), (WA_of (i := 540) (by decide +kernel) (by decide +kernel)), by decide, by decide, by decide +kernel⟩
theorem lk_L_141 : LkV RL 141 7 yX8_kindOf cX8_kindOf 2 (some .int) 1 := ⟨⟨TX8, 26, rfl⟩, (WA_of (i := 980) (by decide +kernel) (by decide +kernel)), (WA_of (i := 981) (by decide +kernel) (by decide +kernel)), (WA_of (i := 982) (by decide +kernel) (by decide +kernel)), (WA_of (i := 52) (by decide +kernel) (by decide +kernel)), (WA_of (i := 983) (by decide +kernel) (by decide +kernel)), by decide, by decide, by decide +kernel⟩
theorem lk_L_142 : LkW RL 142 yL_dayOf cL_dayOf 4 (some .int) [(0, 9, 12, 28)] 3 := ⟨(WA_of (i := 545) (by decide +kernel) (by decide +kernel)), (WA_of (i := 546) (by decide +kernel) (by decide +kernel)), (WA_of (i := 46) (by decide +kernel) (by decide +kernel)), (WA_of (i := 547) (by decide +kernel) (by decide +kernel)), by decide, by decide, by decide +kernel⟩
theorem lk_L_144 : LkV RL 144 7 yX8_dayOf cX8_dayOf 2 (some .int) 1 := ⟨⟨TX8, 26, rfl⟩, (WA_of (i := 984) (by decide +kernel) (by decide +kernel)), (WA_of (i := 985) (by decide +kernel) (by decide +kernel)), (WA_of (i := 986) (by decide +kernel) (by decide +kernel)), (WA_of (i := 52) (by decide +kernel) (by decide +kernel)), (WA_of (i := 987) (by decide +kernel) (by decide +kernel)), by decide, by decide, by decide +kernel⟩
theorem lk_L_145 : LkW RL 145 yL_isCancelled cL_isCancelled 4 (some .int) [(0, 16, 19, 28)] 3 := ⟨(WA_of (i := 552) (by decide +kernel) (by decide +kernel)), (WA_of (i := 553) (by decide +kernel) (by decide +kernel)), (WA_of (i := 46) (by decide +kernel) (by decide +kernel)), (WA_of (i := 554) (by decide +kernel) (by decide +kernel)), by decide, by decide, by decide +kernel⟩
theorem lk_L_147 : LkV RL 147 7 yX8_isCancelled cX8_isCancelled 2 (some .boolean) 1 := ⟨⟨TX8, 26, rfl⟩, (WA_of (i := 988) (by decide +kernel) (by decide +kernel)), (WA_of (i := 989) (by decide +kernel) (by decide +kernel)), (WA_of (i := 990) (by decide +kernel) (by decide +kernel)), (WA_of (i := 52) (by decide +kernel) (by decide +kernel)), (WA_of (i := 991) (by decide +kernel) (by decide +kernel)), by decide, by decide, by decide +kernel⟩
theorem lk_L_148 : LkW RL 148 yL_placeOf cL_placeOf 4 (some .int) [(0, 9, 12, 28)] 3 := ⟨(WA_of (i := 559) (by decide +kernel) (by decide +kernel)), (WA_of (i := 560) (by decide +kernel) (by decide +kernel)), (WA_of (i := 46) (by decide +kernel) (by decide +kernel)), (WA_of (i := 561) (by decide +kernel) (by decide +kernel)), by decide, by decide, by decide +kernel⟩
theorem lk_L_150 : LkV RL 150 7 yX8_placeOf cX8_placeOf 5 (some .int) 1 := ⟨⟨TX8, 26, rfl⟩, (WA_of (i := 992) (by decide +kernel) (by decide +kernel)), (WA_of (i := 993) (by decide +kernel) (by decide +kernel)), (WA_of (i := 994) (by decide +kernel) (by decide +kernel)), (WA_of (i := 52) (by decide +kernel) (by decide +kernel)), (WA_of (i := 995) (by decide +kernel) (by decide +kernel)), by decide, by decide, by decide +kernel⟩
theorem lk_L_151 : LkW RL 151 yL_partOf cL_partOf 5 (some .int) [(0, 10, 13, 28), (0, 10, 17, 15)] 4 := ⟨(WA_of (i := 570) (by decide +kernel) (by decide +kernel)), (WA_of (i := 571) (by decide +kernel) (by decide +kernel)), (WA_of (i := 46) (by decide +kernel) (by decide +kernel)), (WA_of (i := 572) (by decide +kernel) (by decide +kernel)), by decide, by decide, by decide +kernel⟩
theorem lk_L_153 : LkV RL 153 7 yX8_partOf cX8_partOf 4 (some .int) 2 := ⟨⟨TX8, 26, rfl⟩, (WA_of (i := 996) (by decide +kernel) (by decide +kernel)), (WA_of (i := 997) (by decide +kernel) (by decide +kernel)), (WA_of (i := 998) (by decide +kernel) (by decide +kernel)), (WA_of (i := 52) (by decide +kernel) (by decide +kernel)), (WA_of (i := 999) (by decide +kernel) (by decide +kernel)), by decide, by decide, by decide +kernel⟩
theorem lk_L_154 : LkW RL 154 yL_costOf cL_costOf 5 (some .int) [(0, 9, 12, 28), (0, 9, 16, 15)] 4 := ⟨(WA_of (i := 579) (by decide +kernel) (by decide +kernel)), (WA_of (i := 580) (by decide +kernel) (by decide +kernel)), (WA_of (i := 46) (by decide +kernel) (by decide +kernel)), (WA_of (i := 581) (by decide +kernel) (by decide +kernel)), by decide, by decide, by decide +kernel⟩
theorem lk_L_157 : LkV RL 157 7 yX8_costOf cX8_costOf 3 (some .long) 2 := ⟨⟨TX8, 26, rfl⟩, (WA_of (i := 1000) (by decide +kernel) (by decide +kernel)), (WA_of (i := 1001) (by decide +kernel) (by decide +kernel)), (WA_of (i := 1002) (by decide +kernel) (by decide +kernel)), (WA_of (i := 52) (by decide +kernel) (by decide +kernel)), (WA_of (i := 1003) (by decide +kernel) (by decide +kernel)), by decide, by decide, by decide +kernel⟩
theorem lk_L_158 : LkW RL 158 yL_onHand cL_onHand 5 (some .int) [(0, 10, 13, 13)] 4 := ⟨(WA_of (i := 667) (by decide +kernel) (by decide +kernel)), (WA_of (i := 668) (by decide +kernel) (by decide +kernel)), (WA_of (i := 46) (by decide +kernel) (by decide +kernel)), (WA_of (i := 669) (by decide +kernel) (by decide +kernel)), by decide, by decide, by decide +kernel⟩
theorem lk_L_160 : LkV RL 160 7 yX8_onHand cX8_onHand 3 (some .int) 2 := ⟨⟨TX8, 26, rfl⟩, (WA_of (i := 1032) (by decide +kernel) (by decide +kernel)), (WA_of (i := 1033) (by decide +kernel) (by decide +kernel)), (WA_of (i := 1034) (by decide +kernel) (by decide +kernel)), (WA_of (i := 52) (by decide +kernel) (by decide +kernel)), (WA_of (i := 1035) (by decide +kernel) (by decide +kernel)), by decide, by decide, by decide +kernel⟩
theorem lk_L_161 : LkW RL 161 yL_available cL_available 5 (some .int) [(0, 10, 13, 13)] 4 := ⟨(WA_of (i := 674) (by decide +kernel) (by decide +kernel)), (WA_of (i := 675) (by decide +kernel) (by decide +kernel)), (WA_of (i := 46) (by decide +kernel) (by decide +kernel)), (WA_of (i := 676) (by decide +kernel) (by decide +kernel)), by decide, by decide, by decide +kernel⟩
theorem lk_L_163 : LkV RL 163 7 yX8_available cX8_available 9 (some .int) 2 := ⟨⟨TX8, 26, rfl⟩, (WA_of (i := 1040) (by decide +kernel) (by decide +kernel)), (WA_of (i := 1041) (by decide +kernel) (by decide +kernel)), (WA_of (i := 1042) (by decide +kernel) (by decide +kernel)), (WA_of (i := 52) (by decide +kernel) (by decide +kernel)), (WA_of (i := 1043) (by decide +kernel) (by decide +kernel)), by decide, by decide, by decide +kernel⟩
theorem lk_L_164 : LkW RL 164 yL_value cL_value 6 (some .int) [(0, 11, 14, 13)] 5 := ⟨(WA_of (i := 682) (by decide +kernel) (by decide +kernel)), (WA_of (i := 683) (by decide +kernel) (by decide +kernel)), (WA_of (i := 46) (by decide +kernel) (by decide +kernel)), (WA_of (i := 684) (by decide +kernel) (by decide +kernel)), by decide, by decide, by decide +kernel⟩
theorem lk_L_167 : LkV RL 167 7 yX8_value cX8_value 7 (some .long) 3 := ⟨⟨TX8, 26, rfl⟩, (WA_of (i := 1048) (by decide +kernel) (by decide +kernel)), (WA_of (i := 1049) (by decide +kernel) (by decide +kernel)), (WA_of (i := 1050) (by decide +kernel) (by decide +kernel)), (WA_of (i := 52) (by decide +kernel) (by decide +kernel)), (WA_of (i := 1051) (by decide +kernel) (by decide +kernel)), by decide, by decide, by decide +kernel⟩
theorem lk_L_168 : LkW RL 168 yL_received cL_received 5 (some .int) [(0, 9, 12, 13)] 4 := ⟨(WA_of (i := 698) (by decide +kernel) (by decide +kernel)), (WA_of (i := 699) (by decide +kernel) (by decide +kernel)), (WA_of (i := 46) (by decide +kernel) (by decide +kernel)), (WA_of (i := 700) (by decide +kernel) (by decide +kernel)), by decide, by decide, by decide +kernel⟩
theorem lk_L_170 : LkV RL 170 7 yX8_received cX8_received 3 (some .long) 2 := ⟨⟨TX8, 26, rfl⟩, (WA_of (i := 1052) (by decide +kernel) (by decide +kernel)), (WA_of (i := 1053) (by decide +kernel) (by decide +kernel)), (WA_of (i := 1054) (by decide +kernel) (by decide +kernel)), (WA_of (i := 52) (by decide +kernel) (by decide +kernel)), (WA_of (i := 1055) (by decide +kernel) (by decide +kernel)), by decide, by decide, by decide +kernel⟩
theorem lk_L_171 : LkW RL 171 yL_issued cL_issued 6 (some .int) [(0, 11, 14, 13)] 5 := ⟨(WA_of (i := 705) (by decide +kernel) (by decide +kernel)), (WA_of (i := 706) (by decide +kernel) (by decide +kernel)), (WA_of (i := 46) (by decide +kernel) (by decide +kernel)), (WA_of (i := 707) (by decide +kernel) (by decide +kernel)), by decide, by decide, by decide +kernel⟩
theorem lk_L_173 : LkV RL 173 7 yX8_issued cX8_issued 4 (some .long) 3 := ⟨⟨TX8, 26, rfl⟩, (WA_of (i := 1056) (by decide +kernel) (by decide +kernel)), (WA_of (i := 1057) (by decide +kernel) (by decide +kernel)), (WA_of (i := 1058) (by decide +kernel) (by decide +kernel)), (WA_of (i := 52) (by decide +kernel) (by decide +kernel)), (WA_of (i := 1059) (by decide +kernel) (by decide +kernel)), by decide, by decide, by decide +kernel⟩
theorem lk_L_174 : LkW RL 174 yL_revalued cL_revalued 6 (some .int) [(0, 11, 14, 13)] 5 := ⟨(WA_of (i := 712) (by decide +kernel) (by decide +kernel)), (WA_of (i := 713) (by decide +kernel) (by decide +kernel)), (WA_of (i := 46) (by decide +kernel) (by decide +kernel)), (WA_of (i := 714) (by decide +kernel) (by decide +kernel)), by decide, by decide, by decide +kernel⟩
theorem lk_L_176 : LkV RL 176 7 yX8_revalued cX8_revalued 4 (some .long) 3 := ⟨⟨TX8, 26, rfl⟩, (WA_of (i := 1060) (by decide +kernel) (by decide +kernel)), (WA_of (i := 1061) (by decide +kernel) (by decide +kernel)), (WA_of (i := 1062) (by decide +kernel) (by decide +kernel)), (WA_of (i := 52) (by decide +kernel) (by decide +kernel)), (WA_of (i := 1063) (by decide +kernel) (by decide +kernel)), by decide, by decide, by decide +kernel⟩
theorem lk_L_177 : LkW RL 177 yL_expensed cL_expensed 6 (some .int) [(0, 11, 14, 13)] 5 := ⟨(WA_of (i := 719) (by decide +kernel) (by decide +kernel)), (WA_of (i := 720) (by decide +kernel) (by decide +kernel)), (WA_of (i := 46) (by decide +kernel) (by decide +kernel)), (WA_of (i := 721) (by decide +kernel) (by decide +kernel)), by decide, by decide, by decide +kernel⟩
theorem lk_L_179 : LkV RL 179 7 yX8_expensed cX8_expensed 4 (some .long) 3 := ⟨⟨TX8, 26, rfl⟩, (WA_of (i := 1064) (by decide +kernel) (by decide +kernel)), (WA_of (i := 1065) (by decide +kernel) (by decide +kernel)), (WA_of (i := 1066) (by decide +kernel) (by decide +kernel)), (WA_of (i := 52) (by decide +kernel) (by decide +kernel)), (WA_of (i := 1067) (by decide +kernel) (by decide +kernel)), by decide, by decide, by decide +kernel⟩
theorem lk_L_180 : LkW RL 180 yL_layers cL_layers 5 (some .int) [(0, 10, 13, 13)] 4 := ⟨(WA_of (i := 726) (by decide +kernel) (by decide +kernel)), (WA_of (i := 727) (by decide +kernel) (by decide +kernel)), (WA_of (i := 46) (by decide +kernel) (by decide +kernel)), (WA_of (i := 728) (by decide +kernel) (by decide +kernel)), by decide, by decide, by decide +kernel⟩
theorem lk_L_182 : LkV RL 182 7 yX8_layers cX8_layers 3 (some .int) 2 := ⟨⟨TX8, 26, rfl⟩, (WA_of (i := 1068) (by decide +kernel) (by decide +kernel)), (WA_of (i := 1069) (by decide +kernel) (by decide +kernel)), (WA_of (i := 1070) (by decide +kernel) (by decide +kernel)), (WA_of (i := 52) (by decide +kernel) (by decide +kernel)), (WA_of (i := 1071) (by decide +kernel) (by decide +kernel)), by decide, by decide, by decide +kernel⟩
theorem lk_L_183 : LkW RL 183 yL_layerQuantity cL_layerQuantity 6 (some .int) [(0, 12, 15, 13), (0, 12, 19, 28)] 5 := ⟨(WA_of (i := 741) (by decide +kernel) (by decide +kernel)), (WA_of (i := 742) (by decide +kernel) (by decide +kernel)), (WA_of (i := 46) (by decide +kernel) (by decide +kernel)), (WA_of (i := 743) (by decide +kernel) (by decide +kernel)), by decide, by decide, by decide +kernel⟩
theorem lk_L_185 : LkV RL 185 7 yX8_layerQuantity cX8_layerQuantity 4 (some .int) 3 := ⟨⟨TX8, 26, rfl⟩, (WA_of (i := 1072) (by decide +kernel) (by decide +kernel)), (WA_of (i := 1073) (by decide +kernel) (by decide +kernel)), (WA_of (i := 1074) (by decide +kernel) (by decide +kernel)), (WA_of (i := 52) (by decide +kernel) (by decide +kernel)), (WA_of (i := 1075) (by decide +kernel) (by decide +kernel)), by decide, by decide, by decide +kernel⟩
theorem lk_L_186 : LkW RL 186 yL_layerCost cL_layerCost 6 (some .int) [(0, 11, 14, 13), (0, 11, 18, 28)] 5 := ⟨(WA_of (i := 757) (by decide +kernel) (by decide +kernel)), (WA_of (i := 758) (by decide +kernel) (by decide +kernel)), (WA_of (i := 46) (by decide +kernel) (by decide +kernel)), (WA_of (i := 759) (by decide +kernel) (by decide +kernel)), by decide, by decide, by decide +kernel⟩
theorem lk_L_188 : LkV RL 188 7 yX8_layerCost cX8_layerCost 4 (some .long) 3 := ⟨⟨TX8, 26, rfl⟩, (WA_of (i := 1080) (by decide +kernel) (by decide +kernel)), (WA_of (i := 1081) (by decide +kernel) (by decide +kernel)), (WA_of (i := 1082) (by decide +kernel) (by decide +kernel)), (WA_of (i := 52) (by decide +kernel) (by decide +kernel)), (WA_of (i := 1083) (by decide +kernel) (by decide +kernel)), by decide, by decide, by decide +kernel⟩
theorem lk_L_189 : LkW RL 189 yL_layerOrigin cL_layerOrigin 6 (some .int) [(0, 12, 15, 13), (0, 12, 19, 28)] 5 := ⟨(WA_of (i := 764) (by decide +kernel) (by decide +kernel)), (WA_of (i := 765) (by decide +kernel) (by decide +kernel)), (WA_of (i := 46) (by decide +kernel) (by decide +kernel)), (WA_of (i := 766) (by decide +kernel) (by decide +kernel)), by decide, by decide, by decide +kernel⟩
theorem lk_L_191 : LkV RL 191 7 yX8_layerOrigin cX8_layerOrigin 4 (some .int) 3 := ⟨⟨TX8, 26, rfl⟩, (WA_of (i := 1084) (by decide +kernel) (by decide +kernel)), (WA_of (i := 1085) (by decide +kernel) (by decide +kernel)), (WA_of (i := 1086) (by decide +kernel) (by decide +kernel)), (WA_of (i := 52) (by decide +kernel) (by decide +kernel)), (WA_of (i := 1087) (by decide +kernel) (by decide +kernel)), by decide, by decide, by decide +kernel⟩
end
