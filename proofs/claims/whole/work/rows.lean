section
-- ===== PART A: goes FIRST, ahead of the names: the tables' words, and 'selects' of the private methods out of them =====
/-- a private method of a class that the tables say can be made, by its rows of tables_1 -/
def lw_okq (q : MethodName × Nat) : Prop := (q.1.cls ≠ "java/lang/invoke/MethodHandle" ∧ q.1.cls ≠ "java/lang/invoke/VarHandle") ∧ Cond.instantiable q.1.cls q.2 ∈ tables_1 ∧ Cond.privateMethod q.1 ∈ tables_1 ∧ Cond.instanceMethod q.1 ∈ tables_1
theorem lw_p0 : lw_okq (⟨"InferReduce", "canBeParent", "(II)Z"⟩, 11) := ⟨⟨by decide +kernel, by decide +kernel⟩, List.mem_of_getElem? (i := 15) (by decide +kernel), List.mem_of_getElem? (i := 360) (by decide +kernel), List.mem_of_getElem? (i := 361) (by decide +kernel)⟩
theorem lw_p1 : lw_okq (⟨"InferReduce$Classes", "renewReach", "()V"⟩, 6) := ⟨⟨by decide +kernel, by decide +kernel⟩, List.mem_of_getElem? (i := 23) (by decide +kernel), List.mem_of_getElem? (i := 402) (by decide +kernel), List.mem_of_getElem? (i := 403) (by decide +kernel)⟩
theorem lw_p2 : lw_okq (⟨"InferReduce", "canBeArgument", "(I)Z"⟩, 11) := ⟨⟨by decide +kernel, by decide +kernel⟩, List.mem_of_getElem? (i := 15) (by decide +kernel), List.mem_of_getElem? (i := 418) (by decide +kernel), List.mem_of_getElem? (i := 419) (by decide +kernel)⟩
theorem lw_p3 : lw_okq (⟨"InferReduce", "canBeTold", "(II)Z"⟩, 11) := ⟨⟨by decide +kernel, by decide +kernel⟩, List.mem_of_getElem? (i := 15) (by decide +kernel), List.mem_of_getElem? (i := 454) (by decide +kernel), List.mem_of_getElem? (i := 455) (by decide +kernel)⟩
theorem lw_p4 : lw_okq (⟨"InferReduce$Reducer", "lessCompatible", "(II)I"⟩, 9) := ⟨⟨by decide +kernel, by decide +kernel⟩, List.mem_of_getElem? (i := 150) (by decide +kernel), List.mem_of_getElem? (i := 495) (by decide +kernel), List.mem_of_getElem? (i := 496) (by decide +kernel)⟩
theorem lw_p5 : lw_okq (⟨"InferReduce$Reducer", "boxOf", "(I)I"⟩, 9) := ⟨⟨by decide +kernel, by decide +kernel⟩, List.mem_of_getElem? (i := 150) (by decide +kernel), List.mem_of_getElem? (i := 508) (by decide +kernel), List.mem_of_getElem? (i := 509) (by decide +kernel)⟩
theorem lw_p6 : lw_okq (⟨"InferReduce$Reducer", "within", "(III)I"⟩, 9) := ⟨⟨by decide +kernel, by decide +kernel⟩, List.mem_of_getElem? (i := 150) (by decide +kernel), List.mem_of_getElem? (i := 513) (by decide +kernel), List.mem_of_getElem? (i := 514) (by decide +kernel)⟩
theorem lw_p7 : lw_okq (⟨"InferReduce$Reducer", "unboxes", "(II)Z"⟩, 9) := ⟨⟨by decide +kernel, by decide +kernel⟩, List.mem_of_getElem? (i := 150) (by decide +kernel), List.mem_of_getElem? (i := 517) (by decide +kernel), List.mem_of_getElem? (i := 518) (by decide +kernel)⟩
theorem lw_p8 : lw_okq (⟨"InferReduce$Reducer", "lessSub", "(II)I"⟩, 9) := ⟨⟨by decide +kernel, by decide +kernel⟩, List.mem_of_getElem? (i := 150) (by decide +kernel), List.mem_of_getElem? (i := 566) (by decide +kernel), List.mem_of_getElem? (i := 567) (by decide +kernel)⟩
theorem lw_p9 : lw_okq (⟨"InferReduce$Reducer", "bind", "(IIII)I"⟩, 9) := ⟨⟨by decide +kernel, by decide +kernel⟩, List.mem_of_getElem? (i := 150) (by decide +kernel), List.mem_of_getElem? (i := 570) (by decide +kernel), List.mem_of_getElem? (i := 571) (by decide +kernel)⟩
theorem lw_p10 : lw_okq (⟨"InferReduce$Reducer", "withinArguments", "(III)I"⟩, 9) := ⟨⟨by decide +kernel, by decide +kernel⟩, List.mem_of_getElem? (i := 150) (by decide +kernel), List.mem_of_getElem? (i := 578) (by decide +kernel), List.mem_of_getElem? (i := 579) (by decide +kernel)⟩
theorem lw_p11 : lw_okq (⟨"InferReduce$Reducer", "lessContained", "(II)I"⟩, 9) := ⟨⟨by decide +kernel, by decide +kernel⟩, List.mem_of_getElem? (i := 150) (by decide +kernel), List.mem_of_getElem? (i := 583) (by decide +kernel), List.mem_of_getElem? (i := 584) (by decide +kernel)⟩
theorem lw_p12 : lw_okq (⟨"InferReduce$Reducer", "lessEqual", "(II)I"⟩, 9) := ⟨⟨by decide +kernel, by decide +kernel⟩, List.mem_of_getElem? (i := 150) (by decide +kernel), List.mem_of_getElem? (i := 588) (by decide +kernel), List.mem_of_getElem? (i := 589) (by decide +kernel)⟩
theorem lw_p13 : lw_okq (⟨"InferReduce$Holder", "comes", "(II)I"⟩, 7) := ⟨⟨by decide +kernel, by decide +kernel⟩, List.mem_of_getElem? (i := 226) (by decide +kernel), List.mem_of_getElem? (i := 592) (by decide +kernel), List.mem_of_getElem? (i := 593) (by decide +kernel)⟩
theorem lw_p14 : lw_okq (⟨"InferReduce$Holder", "putsInto", "(II)I"⟩, 7) := ⟨⟨by decide +kernel, by decide +kernel⟩, List.mem_of_getElem? (i := 226) (by decide +kernel), List.mem_of_getElem? (i := 600) (by decide +kernel), List.mem_of_getElem? (i := 601) (by decide +kernel)⟩
theorem lw_p15 : lw_okq (⟨"InferReduce$Holder", "shareArguments", "(II)I"⟩, 7) := ⟨⟨by decide +kernel, by decide +kernel⟩, List.mem_of_getElem? (i := 226) (by decide +kernel), List.mem_of_getElem? (i := 624) (by decide +kernel), List.mem_of_getElem? (i := 625) (by decide +kernel)⟩
def lw_privs_1 : List (MethodName × Nat) := [(⟨"InferReduce", "canBeParent", "(II)Z"⟩, 11), (⟨"InferReduce$Classes", "renewReach", "()V"⟩, 6), (⟨"InferReduce", "canBeArgument", "(I)Z"⟩, 11), (⟨"InferReduce", "canBeTold", "(II)Z"⟩, 11), (⟨"InferReduce$Reducer", "lessCompatible", "(II)I"⟩, 9), (⟨"InferReduce$Reducer", "boxOf", "(I)I"⟩, 9), (⟨"InferReduce$Reducer", "within", "(III)I"⟩, 9), (⟨"InferReduce$Reducer", "unboxes", "(II)Z"⟩, 9), (⟨"InferReduce$Reducer", "lessSub", "(II)I"⟩, 9), (⟨"InferReduce$Reducer", "bind", "(IIII)I"⟩, 9), (⟨"InferReduce$Reducer", "withinArguments", "(III)I"⟩, 9), (⟨"InferReduce$Reducer", "lessContained", "(II)I"⟩, 9), (⟨"InferReduce$Reducer", "lessEqual", "(II)I"⟩, 9), (⟨"InferReduce$Holder", "comes", "(II)I"⟩, 7), (⟨"InferReduce$Holder", "putsInto", "(II)I"⟩, 7), (⟨"InferReduce$Holder", "shareArguments", "(II)I"⟩, 7)]
theorem lw_r1 : ∀ q ∈ lw_privs_1, lw_okq q := List.forall_mem_cons.mpr ⟨lw_p0, List.forall_mem_cons.mpr ⟨lw_p1, List.forall_mem_cons.mpr ⟨lw_p2, List.forall_mem_cons.mpr ⟨lw_p3, List.forall_mem_cons.mpr ⟨lw_p4, List.forall_mem_cons.mpr ⟨lw_p5, List.forall_mem_cons.mpr ⟨lw_p6, List.forall_mem_cons.mpr ⟨lw_p7, List.forall_mem_cons.mpr ⟨lw_p8, List.forall_mem_cons.mpr ⟨lw_p9, List.forall_mem_cons.mpr ⟨lw_p10, List.forall_mem_cons.mpr ⟨lw_p11, List.forall_mem_cons.mpr ⟨lw_p12, List.forall_mem_cons.mpr ⟨lw_p13, List.forall_mem_cons.mpr ⟨lw_p14, List.forall_mem_cons.mpr ⟨lw_p15, fun _ h => absurd h List.not_mem_nil⟩⟩⟩⟩⟩⟩⟩⟩⟩⟩⟩⟩⟩⟩⟩⟩
theorem lw_p16 : lw_okq (⟨"InferReduce", "takeState", "(II)V"⟩, 11) := ⟨⟨by decide +kernel, by decide +kernel⟩, List.mem_of_getElem? (i := 15) (by decide +kernel), List.mem_of_getElem? (i := 640) (by decide +kernel), List.mem_of_getElem? (i := 641) (by decide +kernel)⟩
theorem lw_p17 : lw_okq (⟨"InferReduce$Resolver", "link", "(I)V"⟩, 8) := ⟨⟨by decide +kernel, by decide +kernel⟩, List.mem_of_getElem? (i := 255) (by decide +kernel), List.mem_of_getElem? (i := 657) (by decide +kernel), List.mem_of_getElem? (i := 658) (by decide +kernel)⟩
theorem lw_p18 : lw_okq (⟨"InferReduce$Resolver", "groupOf", "(I)I"⟩, 8) := ⟨⟨by decide +kernel, by decide +kernel⟩, List.mem_of_getElem? (i := 255) (by decide +kernel), List.mem_of_getElem? (i := 665) (by decide +kernel), List.mem_of_getElem? (i := 666) (by decide +kernel)⟩
theorem lw_p19 : lw_okq (⟨"InferReduce$Resolver", "gather", "(II)V"⟩, 8) := ⟨⟨by decide +kernel, by decide +kernel⟩, List.mem_of_getElem? (i := 255) (by decide +kernel), List.mem_of_getElem? (i := 679) (by decide +kernel), List.mem_of_getElem? (i := 680) (by decide +kernel)⟩
theorem lw_p20 : lw_okq (⟨"InferReduce$Resolver", "outermost", "(I)I"⟩, 8) := ⟨⟨by decide +kernel, by decide +kernel⟩, List.mem_of_getElem? (i := 255) (by decide +kernel), List.mem_of_getElem? (i := 685) (by decide +kernel), List.mem_of_getElem? (i := 686) (by decide +kernel)⟩
theorem lw_p21 : lw_okq (⟨"InferReduce$Resolver", "joinOfClasses", "()I"⟩, 8) := ⟨⟨by decide +kernel, by decide +kernel⟩, List.mem_of_getElem? (i := 255) (by decide +kernel), List.mem_of_getElem? (i := 691) (by decide +kernel), List.mem_of_getElem? (i := 692) (by decide +kernel)⟩
theorem lw_p22 : lw_okq (⟨"InferReduce$Resolver", "isAboveAll", "(I)I"⟩, 8) := ⟨⟨by decide +kernel, by decide +kernel⟩, List.mem_of_getElem? (i := 255) (by decide +kernel), List.mem_of_getElem? (i := 695) (by decide +kernel), List.mem_of_getElem? (i := 696) (by decide +kernel)⟩
theorem lw_p23 : lw_okq (⟨"InferReduce$Resolver", "isAboveAnother", "(IJ)I"⟩, 8) := ⟨⟨by decide +kernel, by decide +kernel⟩, List.mem_of_getElem? (i := 255) (by decide +kernel), List.mem_of_getElem? (i := 700) (by decide +kernel), List.mem_of_getElem? (i := 701) (by decide +kernel)⟩
theorem lw_p24 : lw_okq (⟨"InferReduce$Resolver", "joinAs", "(I)I"⟩, 8) := ⟨⟨by decide +kernel, by decide +kernel⟩, List.mem_of_getElem? (i := 255) (by decide +kernel), List.mem_of_getElem? (i := 705) (by decide +kernel), List.mem_of_getElem? (i := 706) (by decide +kernel)⟩
theorem lw_p25 : lw_okq (⟨"InferReduce$Resolver", "sharedArgument", "(II)I"⟩, 8) := ⟨⟨by decide +kernel, by decide +kernel⟩, List.mem_of_getElem? (i := 255) (by decide +kernel), List.mem_of_getElem? (i := 710) (by decide +kernel), List.mem_of_getElem? (i := 711) (by decide +kernel)⟩
theorem lw_p26 : lw_okq (⟨"InferReduceModel", "isClass", "(I)Z"⟩, 65) := ⟨⟨by decide +kernel, by decide +kernel⟩, List.mem_of_getElem? (i := 790) (by decide +kernel), List.mem_of_getElem? (i := 1000) (by decide +kernel), List.mem_of_getElem? (i := 1001) (by decide +kernel)⟩
theorem lw_p27 : lw_okq (⟨"InferReduceModel", "isParent", "(II)Z"⟩, 65) := ⟨⟨by decide +kernel, by decide +kernel⟩, List.mem_of_getElem? (i := 790) (by decide +kernel), List.mem_of_getElem? (i := 1004) (by decide +kernel), List.mem_of_getElem? (i := 1005) (by decide +kernel)⟩
theorem lw_p28 : lw_okq (⟨"InferReduceModel", "isType", "(I)Z"⟩, 65) := ⟨⟨by decide +kernel, by decide +kernel⟩, List.mem_of_getElem? (i := 790) (by decide +kernel), List.mem_of_getElem? (i := 1008) (by decide +kernel), List.mem_of_getElem? (i := 1009) (by decide +kernel)⟩
theorem lw_p29 : lw_okq (⟨"InferReduceModel", "isOfBefore", "(II)Z"⟩, 65) := ⟨⟨by decide +kernel, by decide +kernel⟩, List.mem_of_getElem? (i := 790) (by decide +kernel), List.mem_of_getElem? (i := 1012) (by decide +kernel), List.mem_of_getElem? (i := 1013) (by decide +kernel)⟩
theorem lw_p30 : lw_okq (⟨"InferReduceModel", "isSeen", "(I)Z"⟩, 65) := ⟨⟨by decide +kernel, by decide +kernel⟩, List.mem_of_getElem? (i := 790) (by decide +kernel), List.mem_of_getElem? (i := 1016) (by decide +kernel), List.mem_of_getElem? (i := 1017) (by decide +kernel)⟩
theorem lw_p31 : lw_okq (⟨"InferReduceModel", "plainOf", "(I)I"⟩, 65) := ⟨⟨by decide +kernel, by decide +kernel⟩, List.mem_of_getElem? (i := 790) (by decide +kernel), List.mem_of_getElem? (i := 1024) (by decide +kernel), List.mem_of_getElem? (i := 1025) (by decide +kernel)⟩
def lw_privs_2 : List (MethodName × Nat) := [(⟨"InferReduce", "takeState", "(II)V"⟩, 11), (⟨"InferReduce$Resolver", "link", "(I)V"⟩, 8), (⟨"InferReduce$Resolver", "groupOf", "(I)I"⟩, 8), (⟨"InferReduce$Resolver", "gather", "(II)V"⟩, 8), (⟨"InferReduce$Resolver", "outermost", "(I)I"⟩, 8), (⟨"InferReduce$Resolver", "joinOfClasses", "()I"⟩, 8), (⟨"InferReduce$Resolver", "isAboveAll", "(I)I"⟩, 8), (⟨"InferReduce$Resolver", "isAboveAnother", "(IJ)I"⟩, 8), (⟨"InferReduce$Resolver", "joinAs", "(I)I"⟩, 8), (⟨"InferReduce$Resolver", "sharedArgument", "(II)I"⟩, 8), (⟨"InferReduceModel", "isClass", "(I)Z"⟩, 65), (⟨"InferReduceModel", "isParent", "(II)Z"⟩, 65), (⟨"InferReduceModel", "isType", "(I)Z"⟩, 65), (⟨"InferReduceModel", "isOfBefore", "(II)Z"⟩, 65), (⟨"InferReduceModel", "isSeen", "(I)Z"⟩, 65), (⟨"InferReduceModel", "plainOf", "(I)I"⟩, 65)]
theorem lw_r2 : ∀ q ∈ lw_privs_2, lw_okq q := List.forall_mem_cons.mpr ⟨lw_p16, List.forall_mem_cons.mpr ⟨lw_p17, List.forall_mem_cons.mpr ⟨lw_p18, List.forall_mem_cons.mpr ⟨lw_p19, List.forall_mem_cons.mpr ⟨lw_p20, List.forall_mem_cons.mpr ⟨lw_p21, List.forall_mem_cons.mpr ⟨lw_p22, List.forall_mem_cons.mpr ⟨lw_p23, List.forall_mem_cons.mpr ⟨lw_p24, List.forall_mem_cons.mpr ⟨lw_p25, List.forall_mem_cons.mpr ⟨lw_p26, List.forall_mem_cons.mpr ⟨lw_p27, List.forall_mem_cons.mpr ⟨lw_p28, List.forall_mem_cons.mpr ⟨lw_p29, List.forall_mem_cons.mpr ⟨lw_p30, List.forall_mem_cons.mpr ⟨lw_p31, fun _ h => absurd h List.not_mem_nil⟩⟩⟩⟩⟩⟩⟩⟩⟩⟩⟩⟩⟩⟩⟩⟩
theorem lw_p32 : lw_okq (⟨"InferReduceModel", "make", "(IIII)I"⟩, 65) := ⟨⟨by decide +kernel, by decide +kernel⟩, List.mem_of_getElem? (i := 790) (by decide +kernel), List.mem_of_getElem? (i := 1028) (by decide +kernel), List.mem_of_getElem? (i := 1029) (by decide +kernel)⟩
theorem lw_p33 : lw_okq (⟨"InferReduceModel", "made", "(I)I"⟩, 65) := ⟨⟨by decide +kernel, by decide +kernel⟩, List.mem_of_getElem? (i := 790) (by decide +kernel), List.mem_of_getElem? (i := 1032) (by decide +kernel), List.mem_of_getElem? (i := 1033) (by decide +kernel)⟩
theorem lw_p34 : lw_okq (⟨"InferReduceModel", "isArgument", "(I)Z"⟩, 65) := ⟨⟨by decide +kernel, by decide +kernel⟩, List.mem_of_getElem? (i := 790) (by decide +kernel), List.mem_of_getElem? (i := 1040) (by decide +kernel), List.mem_of_getElem? (i := 1041) (by decide +kernel)⟩
theorem lw_p35 : lw_okq (⟨"InferReduceModel", "aboveOf", "(II)I"⟩, 65) := ⟨⟨by decide +kernel, by decide +kernel⟩, List.mem_of_getElem? (i := 790) (by decide +kernel), List.mem_of_getElem? (i := 1072) (by decide +kernel), List.mem_of_getElem? (i := 1073) (by decide +kernel)⟩
theorem lw_p36 : lw_okq (⟨"InferReduceModel", "push", "(III)V"⟩, 65) := ⟨⟨by decide +kernel, by decide +kernel⟩, List.mem_of_getElem? (i := 790) (by decide +kernel), List.mem_of_getElem? (i := 1076) (by decide +kernel), List.mem_of_getElem? (i := 1077) (by decide +kernel)⟩
theorem lw_p37 : lw_okq (⟨"InferReduceModel", "replaced", "(II)I"⟩, 65) := ⟨⟨by decide +kernel, by decide +kernel⟩, List.mem_of_getElem? (i := 790) (by decide +kernel), List.mem_of_getElem? (i := 1080) (by decide +kernel), List.mem_of_getElem? (i := 1081) (by decide +kernel)⟩
theorem lw_p38 : lw_okq (⟨"InferReduceModel", "inPlaceOf", "(II)I"⟩, 65) := ⟨⟨by decide +kernel, by decide +kernel⟩, List.mem_of_getElem? (i := 790) (by decide +kernel), List.mem_of_getElem? (i := 1084) (by decide +kernel), List.mem_of_getElem? (i := 1085) (by decide +kernel)⟩
theorem lw_p39 : lw_okq (⟨"InferReduceModel", "innerOf", "(II)I"⟩, 65) := ⟨⟨by decide +kernel, by decide +kernel⟩, List.mem_of_getElem? (i := 790) (by decide +kernel), List.mem_of_getElem? (i := 1088) (by decide +kernel), List.mem_of_getElem? (i := 1089) (by decide +kernel)⟩
theorem lw_p40 : lw_okq (⟨"InferReduceModel", "isThere", "(I)Z"⟩, 65) := ⟨⟨by decide +kernel, by decide +kernel⟩, List.mem_of_getElem? (i := 790) (by decide +kernel), List.mem_of_getElem? (i := 1096) (by decide +kernel), List.mem_of_getElem? (i := 1097) (by decide +kernel)⟩
theorem lw_p41 : lw_okq (⟨"InferReduceModel", "isIn", "(II)Z"⟩, 65) := ⟨⟨by decide +kernel, by decide +kernel⟩, List.mem_of_getElem? (i := 790) (by decide +kernel), List.mem_of_getElem? (i := 1100) (by decide +kernel), List.mem_of_getElem? (i := 1101) (by decide +kernel)⟩
theorem lw_p42 : lw_okq (⟨"InferReduceModel", "begin", "(I)V"⟩, 65) := ⟨⟨by decide +kernel, by decide +kernel⟩, List.mem_of_getElem? (i := 790) (by decide +kernel), List.mem_of_getElem? (i := 1104) (by decide +kernel), List.mem_of_getElem? (i := 1105) (by decide +kernel)⟩
theorem lw_p43 : lw_okq (⟨"InferReduceModel", "less", "(III)Z"⟩, 65) := ⟨⟨by decide +kernel, by decide +kernel⟩, List.mem_of_getElem? (i := 790) (by decide +kernel), List.mem_of_getElem? (i := 1108) (by decide +kernel), List.mem_of_getElem? (i := 1109) (by decide +kernel)⟩
theorem lw_p44 : lw_okq (⟨"InferReduceModel", "step", "(III)Z"⟩, 65) := ⟨⟨by decide +kernel, by decide +kernel⟩, List.mem_of_getElem? (i := 790) (by decide +kernel), List.mem_of_getElem? (i := 1112) (by decide +kernel), List.mem_of_getElem? (i := 1113) (by decide +kernel)⟩
theorem lw_p45 : lw_okq (⟨"InferReduceModel", "compatible", "(II)Z"⟩, 65) := ⟨⟨by decide +kernel, by decide +kernel⟩, List.mem_of_getElem? (i := 790) (by decide +kernel), List.mem_of_getElem? (i := 1116) (by decide +kernel), List.mem_of_getElem? (i := 1117) (by decide +kernel)⟩
theorem lw_p46 : lw_okq (⟨"InferReduceModel", "boxOf", "(I)I"⟩, 65) := ⟨⟨by decide +kernel, by decide +kernel⟩, List.mem_of_getElem? (i := 790) (by decide +kernel), List.mem_of_getElem? (i := 1123) (by decide +kernel), List.mem_of_getElem? (i := 1124) (by decide +kernel)⟩
theorem lw_p47 : lw_okq (⟨"InferReduceModel", "then", "(III)Z"⟩, 65) := ⟨⟨by decide +kernel, by decide +kernel⟩, List.mem_of_getElem? (i := 790) (by decide +kernel), List.mem_of_getElem? (i := 1127) (by decide +kernel), List.mem_of_getElem? (i := 1128) (by decide +kernel)⟩
def lw_privs_3 : List (MethodName × Nat) := [(⟨"InferReduceModel", "make", "(IIII)I"⟩, 65), (⟨"InferReduceModel", "made", "(I)I"⟩, 65), (⟨"InferReduceModel", "isArgument", "(I)Z"⟩, 65), (⟨"InferReduceModel", "aboveOf", "(II)I"⟩, 65), (⟨"InferReduceModel", "push", "(III)V"⟩, 65), (⟨"InferReduceModel", "replaced", "(II)I"⟩, 65), (⟨"InferReduceModel", "inPlaceOf", "(II)I"⟩, 65), (⟨"InferReduceModel", "innerOf", "(II)I"⟩, 65), (⟨"InferReduceModel", "isThere", "(I)Z"⟩, 65), (⟨"InferReduceModel", "isIn", "(II)Z"⟩, 65), (⟨"InferReduceModel", "begin", "(I)V"⟩, 65), (⟨"InferReduceModel", "less", "(III)Z"⟩, 65), (⟨"InferReduceModel", "step", "(III)Z"⟩, 65), (⟨"InferReduceModel", "compatible", "(II)Z"⟩, 65), (⟨"InferReduceModel", "boxOf", "(I)I"⟩, 65), (⟨"InferReduceModel", "then", "(III)Z"⟩, 65)]
theorem lw_r3 : ∀ q ∈ lw_privs_3, lw_okq q := List.forall_mem_cons.mpr ⟨lw_p32, List.forall_mem_cons.mpr ⟨lw_p33, List.forall_mem_cons.mpr ⟨lw_p34, List.forall_mem_cons.mpr ⟨lw_p35, List.forall_mem_cons.mpr ⟨lw_p36, List.forall_mem_cons.mpr ⟨lw_p37, List.forall_mem_cons.mpr ⟨lw_p38, List.forall_mem_cons.mpr ⟨lw_p39, List.forall_mem_cons.mpr ⟨lw_p40, List.forall_mem_cons.mpr ⟨lw_p41, List.forall_mem_cons.mpr ⟨lw_p42, List.forall_mem_cons.mpr ⟨lw_p43, List.forall_mem_cons.mpr ⟨lw_p44, List.forall_mem_cons.mpr ⟨lw_p45, List.forall_mem_cons.mpr ⟨lw_p46, List.forall_mem_cons.mpr ⟨lw_p47, fun _ h => absurd h List.not_mem_nil⟩⟩⟩⟩⟩⟩⟩⟩⟩⟩⟩⟩⟩⟩⟩⟩
theorem lw_p48 : lw_okq (⟨"InferReduceModel", "sub", "(II)Z"⟩, 65) := ⟨⟨by decide +kernel, by decide +kernel⟩, List.mem_of_getElem? (i := 790) (by decide +kernel), List.mem_of_getElem? (i := 1131) (by decide +kernel), List.mem_of_getElem? (i := 1132) (by decide +kernel)⟩
theorem lw_p49 : lw_okq (⟨"InferReduceModel", "isBelow", "(II)Z"⟩, 65) := ⟨⟨by decide +kernel, by decide +kernel⟩, List.mem_of_getElem? (i := 790) (by decide +kernel), List.mem_of_getElem? (i := 1135) (by decide +kernel), List.mem_of_getElem? (i := 1136) (by decide +kernel)⟩
theorem lw_p50 : lw_okq (⟨"InferReduceModel", "bind", "(III)V"⟩, 65) := ⟨⟨by decide +kernel, by decide +kernel⟩, List.mem_of_getElem? (i := 790) (by decide +kernel), List.mem_of_getElem? (i := 1139) (by decide +kernel), List.mem_of_getElem? (i := 1140) (by decide +kernel)⟩
theorem lw_p51 : lw_okq (⟨"InferReduceModel", "contained", "(II)Z"⟩, 65) := ⟨⟨by decide +kernel, by decide +kernel⟩, List.mem_of_getElem? (i := 790) (by decide +kernel), List.mem_of_getElem? (i := 1143) (by decide +kernel), List.mem_of_getElem? (i := 1144) (by decide +kernel)⟩
theorem lw_p52 : lw_okq (⟨"InferReduceModel", "equal", "(II)Z"⟩, 65) := ⟨⟨by decide +kernel, by decide +kernel⟩, List.mem_of_getElem? (i := 790) (by decide +kernel), List.mem_of_getElem? (i := 1147) (by decide +kernel), List.mem_of_getElem? (i := 1148) (by decide +kernel)⟩
theorem lw_p53 : lw_okq (⟨"InferReduceModel", "isSame", "(II)Z"⟩, 65) := ⟨⟨by decide +kernel, by decide +kernel⟩, List.mem_of_getElem? (i := 790) (by decide +kernel), List.mem_of_getElem? (i := 1151) (by decide +kernel), List.mem_of_getElem? (i := 1152) (by decide +kernel)⟩
theorem lw_p54 : lw_okq (⟨"InferReduceModel", "hold", "()Z"⟩, 65) := ⟨⟨by decide +kernel, by decide +kernel⟩, List.mem_of_getElem? (i := 790) (by decide +kernel), List.mem_of_getElem? (i := 1155) (by decide +kernel), List.mem_of_getElem? (i := 1156) (by decide +kernel)⟩
theorem lw_p55 : lw_okq (⟨"InferReduceModel", "holdBoth", "(IIZ)Z"⟩, 65) := ⟨⟨by decide +kernel, by decide +kernel⟩, List.mem_of_getElem? (i := 790) (by decide +kernel), List.mem_of_getElem? (i := 1159) (by decide +kernel), List.mem_of_getElem? (i := 1160) (by decide +kernel)⟩
theorem lw_p56 : lw_okq (⟨"InferReduceModel", "holdIn", "(II)Z"⟩, 65) := ⟨⟨by decide +kernel, by decide +kernel⟩, List.mem_of_getElem? (i := 790) (by decide +kernel), List.mem_of_getElem? (i := 1163) (by decide +kernel), List.mem_of_getElem? (i := 1164) (by decide +kernel)⟩
theorem lw_p57 : lw_okq (⟨"InferReduceModel", "holdArguments", "(II)Z"⟩, 65) := ⟨⟨by decide +kernel, by decide +kernel⟩, List.mem_of_getElem? (i := 790) (by decide +kernel), List.mem_of_getElem? (i := 1167) (by decide +kernel), List.mem_of_getElem? (i := 1168) (by decide +kernel)⟩
theorem lw_p58 : lw_okq (⟨"InferReduceModel", "settle", "(ZI)V"⟩, 65) := ⟨⟨by decide +kernel, by decide +kernel⟩, List.mem_of_getElem? (i := 790) (by decide +kernel), List.mem_of_getElem? (i := 1171) (by decide +kernel), List.mem_of_getElem? (i := 1172) (by decide +kernel)⟩
theorem lw_p59 : lw_okq (⟨"InferReduceModel", "instanceOf", "(I)I"⟩, 65) := ⟨⟨by decide +kernel, by decide +kernel⟩, List.mem_of_getElem? (i := 790) (by decide +kernel), List.mem_of_getElem? (i := 1183) (by decide +kernel), List.mem_of_getElem? (i := 1184) (by decide +kernel)⟩
theorem lw_p60 : lw_okq (⟨"InferReduceModel", "depends", "(I)I"⟩, 65) := ⟨⟨by decide +kernel, by decide +kernel⟩, List.mem_of_getElem? (i := 790) (by decide +kernel), List.mem_of_getElem? (i := 1187) (by decide +kernel), List.mem_of_getElem? (i := 1188) (by decide +kernel)⟩
theorem lw_p61 : lw_okq (⟨"InferReduceModel", "isLinked", "(II)Z"⟩, 65) := ⟨⟨by decide +kernel, by decide +kernel⟩, List.mem_of_getElem? (i := 790) (by decide +kernel), List.mem_of_getElem? (i := 1191) (by decide +kernel), List.mem_of_getElem? (i := 1192) (by decide +kernel)⟩
theorem lw_p62 : lw_okq (⟨"InferReduceModel", "chooseAll", "()Z"⟩, 65) := ⟨⟨by decide +kernel, by decide +kernel⟩, List.mem_of_getElem? (i := 790) (by decide +kernel), List.mem_of_getElem? (i := 1195) (by decide +kernel), List.mem_of_getElem? (i := 1196) (by decide +kernel)⟩
theorem lw_p63 : lw_okq (⟨"InferReduceModel", "choose", "(I)I"⟩, 65) := ⟨⟨by decide +kernel, by decide +kernel⟩, List.mem_of_getElem? (i := 790) (by decide +kernel), List.mem_of_getElem? (i := 1199) (by decide +kernel), List.mem_of_getElem? (i := 1200) (by decide +kernel)⟩
def lw_privs_4 : List (MethodName × Nat) := [(⟨"InferReduceModel", "sub", "(II)Z"⟩, 65), (⟨"InferReduceModel", "isBelow", "(II)Z"⟩, 65), (⟨"InferReduceModel", "bind", "(III)V"⟩, 65), (⟨"InferReduceModel", "contained", "(II)Z"⟩, 65), (⟨"InferReduceModel", "equal", "(II)Z"⟩, 65), (⟨"InferReduceModel", "isSame", "(II)Z"⟩, 65), (⟨"InferReduceModel", "hold", "()Z"⟩, 65), (⟨"InferReduceModel", "holdBoth", "(IIZ)Z"⟩, 65), (⟨"InferReduceModel", "holdIn", "(II)Z"⟩, 65), (⟨"InferReduceModel", "holdArguments", "(II)Z"⟩, 65), (⟨"InferReduceModel", "settle", "(ZI)V"⟩, 65), (⟨"InferReduceModel", "instanceOf", "(I)I"⟩, 65), (⟨"InferReduceModel", "depends", "(I)I"⟩, 65), (⟨"InferReduceModel", "isLinked", "(II)Z"⟩, 65), (⟨"InferReduceModel", "chooseAll", "()Z"⟩, 65), (⟨"InferReduceModel", "choose", "(I)I"⟩, 65)]
theorem lw_r4 : ∀ q ∈ lw_privs_4, lw_okq q := List.forall_mem_cons.mpr ⟨lw_p48, List.forall_mem_cons.mpr ⟨lw_p49, List.forall_mem_cons.mpr ⟨lw_p50, List.forall_mem_cons.mpr ⟨lw_p51, List.forall_mem_cons.mpr ⟨lw_p52, List.forall_mem_cons.mpr ⟨lw_p53, List.forall_mem_cons.mpr ⟨lw_p54, List.forall_mem_cons.mpr ⟨lw_p55, List.forall_mem_cons.mpr ⟨lw_p56, List.forall_mem_cons.mpr ⟨lw_p57, List.forall_mem_cons.mpr ⟨lw_p58, List.forall_mem_cons.mpr ⟨lw_p59, List.forall_mem_cons.mpr ⟨lw_p60, List.forall_mem_cons.mpr ⟨lw_p61, List.forall_mem_cons.mpr ⟨lw_p62, List.forall_mem_cons.mpr ⟨lw_p63, fun _ h => absurd h List.not_mem_nil⟩⟩⟩⟩⟩⟩⟩⟩⟩⟩⟩⟩⟩⟩⟩⟩
theorem lw_p64 : lw_okq (⟨"InferReduceModel", "collect", "(II)V"⟩, 65) := ⟨⟨by decide +kernel, by decide +kernel⟩, List.mem_of_getElem? (i := 790) (by decide +kernel), List.mem_of_getElem? (i := 1203) (by decide +kernel), List.mem_of_getElem? (i := 1204) (by decide +kernel)⟩
theorem lw_p65 : lw_okq (⟨"InferReduceModel", "join", "()I"⟩, 65) := ⟨⟨by decide +kernel, by decide +kernel⟩, List.mem_of_getElem? (i := 790) (by decide +kernel), List.mem_of_getElem? (i := 1207) (by decide +kernel), List.mem_of_getElem? (i := 1208) (by decide +kernel)⟩
theorem lw_p66 : lw_okq (⟨"InferReduceModel", "extreme", "(Z)I"⟩, 65) := ⟨⟨by decide +kernel, by decide +kernel⟩, List.mem_of_getElem? (i := 790) (by decide +kernel), List.mem_of_getElem? (i := 1211) (by decide +kernel), List.mem_of_getElem? (i := 1212) (by decide +kernel)⟩
theorem lw_p67 : lw_okq (⟨"InferReduceModel", "joined", "(I)I"⟩, 65) := ⟨⟨by decide +kernel, by decide +kernel⟩, List.mem_of_getElem? (i := 790) (by decide +kernel), List.mem_of_getElem? (i := 1215) (by decide +kernel), List.mem_of_getElem? (i := 1216) (by decide +kernel)⟩
def lw_privs_5 : List (MethodName × Nat) := [(⟨"InferReduceModel", "collect", "(II)V"⟩, 65), (⟨"InferReduceModel", "join", "()I"⟩, 65), (⟨"InferReduceModel", "extreme", "(Z)I"⟩, 65), (⟨"InferReduceModel", "joined", "(I)I"⟩, 65)]
theorem lw_r5 : ∀ q ∈ lw_privs_5, lw_okq q := List.forall_mem_cons.mpr ⟨lw_p64, List.forall_mem_cons.mpr ⟨lw_p65, List.forall_mem_cons.mpr ⟨lw_p66, List.forall_mem_cons.mpr ⟨lw_p67, fun _ h => absurd h List.not_mem_nil⟩⟩⟩⟩
def lw_privs : List (MethodName × Nat) := lw_privs_1 ++ (lw_privs_2 ++ (lw_privs_3 ++ (lw_privs_4 ++ (lw_privs_5))))
def lw_tbl : List Cond := k2_sels lw_privs ++ tables_1
theorem lw_privs_ok : ∀ q ∈ lw_privs, lw_okq q := by
  show ∀ q ∈ lw_privs_1 ++ (lw_privs_2 ++ (lw_privs_3 ++ (lw_privs_4 ++ (lw_privs_5)))), lw_okq q
  exact List.forall_mem_append.mpr ⟨lw_r1, List.forall_mem_append.mpr ⟨lw_r2, List.forall_mem_append.mpr ⟨lw_r3, List.forall_mem_append.mpr ⟨lw_r4, lw_r5⟩⟩⟩⟩
end
section
/-! THE JUDGEMENT J: a frame whose rest is worked out by a pure function F of the state: where F comes to some (r, σ'), the machine comes to Q r σ'. F holds every check (a place in range, a loop's count) as an Option: the walk itself needs no fact. -/
abbrev jx_E : Type := Program × Launch × Env × Room × State × MethodId × Array Value × List Frame × Method × Code
abbrev jp (K : jx_E) : Program := K.1
abbrev jl (K : jx_E) : Launch := K.2.1
abbrev je (K : jx_E) : Env := K.2.2.1
abbrev jR (K : jx_E) : Room := K.2.2.2.1
abbrev js (K : jx_E) : State := K.2.2.2.2.1
abbrev jm (K : jx_E) : MethodId := K.2.2.2.2.2.1
abbrev ja (K : jx_E) : Array Value := K.2.2.2.2.2.2.1
abbrev jb (K : jx_E) : List Frame := K.2.2.2.2.2.2.2.1
abbrev jh (K : jx_E) : Method := K.2.2.2.2.2.2.2.2.1
abbrev jc (K : jx_E) : Code := K.2.2.2.2.2.2.2.2.2
abbrev jW (K : jx_E) (H : Heap) (locs : List Loc) (cs sl : Nat) (Q : State → Prop) (g : JFrame) : Prop := W (jp K) (jl K) (je K) (jR K) (js K) (jm K) (ja K) (jb K) (jh K) (jc K) H locs cs sl Q g
/-- what stands fixed through a method's walk -/
def jx_ok (K : jx_E) (D : va_G) (cl : List vw_C) (tys : List (ClassId × FieldType)) (A : Nat → Prop) (nL : Nat) (cc : ByteArray) (own : String) (Ts : List Cond) (rm : Room) (rt : Option FieldType) : Prop :=
  (jp K).tables.exec = Jvm.exec ∧ (jc K).code = cc ∧ (jc K).maxLocals = nL ∧ (js K).vm.findClass own = some (jm K).cls ∧ (∀ w ∈ Ts, w.before (ja K) (js K) = true) ∧ va_K D cl tys (js K) ∧ (∀ q, (js K).heap.size ≤ q → A q) ∧ (jh K).locks = false ∧ jR K = rm ∧ (jh K).sig.returnType = rt
def J {St ρ : Type} (K : jx_E) (D : va_G) (cl : List vw_C) (A : Nat → Prop) (nL : Nat) (w : St → va_W) (Q : ρ → St → State → Prop) (cs sl : Nat) (pc : Nat) (lv : List (Nat × Value)) (st : List Value) (σ : St) (F : Option (ρ × St)) : Prop :=
  ∀ (r : ρ) (σ' : St), F = some (r, σ') → ∀ (H : Heap) (locs : List Loc) (ls : Array Slot), va_P D cl (w σ) H → va_D A (w σ) → va_S A (js K).heap H locs → lv_has ls nL lv → jW K H locs cs sl (Q r σ') (F0 (jm K) pc ls st)
def nm {α β : Type} (x : α) (f : α → β) : β := f x
def ck (i : Int32) (n : Nat) : Bool := decide (¬ (i < 0 ∨ n ≤ i.toNatClampNeg))
theorem ck_in {i : Int32} {n : Nat} (h : ck i n = true) : vp_in i n := (of_decide_eq_true h : ¬ (i < 0 ∨ n ≤ i.toNatClampNeg))
/-- a call's answer and state, and what goes on with them -/
def bd {α St β : Type} (x : Option (α × St)) (f : α → St → Option β) : Option β := match x with
  | none => none
  | some q => f q.1 q.2
theorem bd_some {α St β : Type} {x : Option (α × St)} {f : α → St → Option β} {z : β} (h : bd x f = some z) : ∃ a u, x = some (a, u) ∧ f a u = some z := by
  cases x with
  | none => cases h
  | some q => exact ⟨q.1, q.2, rfl, h⟩
section JR
variable {St ρ : Type} {K : jx_E} {D : va_G} {cl : List vw_C} {tys : List (ClassId × FieldType)} {A : Nat → Prop} {nL : Nat} {cc : ByteArray} {own : String} {Ts : List Cond} {rm : Room} {rt : Option FieldType} {w : St → va_W} {Q : ρ → St → State → Prop} {cs sl : Nat} {pc : Nat} {lv : List (Nat × Value)} {st : List Value} {σ : St} {F F1 F2 : Option (ρ × St)}
theorem J_none : J K D cl A nL w Q cs sl pc lv st σ none := fun _ _ h => by cases h
theorem J_sub {lv' : List (Nat × Value)} (ks : List Nat) (hk : lv_pick lv ks = lv') (k : J K D cl A nL w Q cs sl pc lv' st σ F) : J K D cl A nL w Q cs sl pc lv st σ F := fun r σ' e H locs ls hP hD hS hl => k r σ' e H locs ls hP hD hS (lv_sub hl ks hk)
theorem J_nmi {x : Int32} {f : Int32 → Option (ρ × St)} (k : ∀ y : Int32, J K D cl A nL w Q cs sl pc lv (.int y :: st) σ (f y)) : J K D cl A nL w Q cs sl pc lv (.int x :: st) σ (nm x f) := k x
theorem J_nml {x : Int64} {f : Int64 → Option (ρ × St)} (k : ∀ y : Int64, J K D cl A nL w Q cs sl pc lv (.long y :: st) σ (f y)) : J K D cl A nL w Q cs sl pc lv (.long x :: st) σ (nm x f) := k x
theorem J_if {c : Prop} [Decidable c] (k1 : c → J K D cl A nL w Q cs sl pc lv st σ F1) (k2 : ¬ c → J K D cl A nL w Q cs sl pc lv st σ F2) : J K D cl A nL w Q cs sl pc lv st σ (if c then F1 else F2) := by
  by_cases h : c
  · rw [if_pos h]; exact k1 h
  · rw [if_neg h]; exact k2 h
theorem J_iconst (h : jx_ok K D cl tys A nL cc own Ts rm rt) {n : Int} {v : Int32} (hd : decode cc pc = .ok (.iconst n, 1)) (hv : Int32.ofInt n = v) (k : J K D cl A nL w Q cs sl (pc + 1) lv (.int v :: st) σ F) : J K D cl A nL w Q cs sl pc lv st σ F :=
  fun r σ' e H locs ls hP hD hS hl => lv_iconst h.1 h.2.1 hd hv (k r σ' e H locs ls hP hD hS hl)
theorem J_bipush (h : jx_ok K D cl tys A nL cc own Ts rm rt) {n : Int} {v : Int32} (hd : decode cc pc = .ok (.bipush n, 2)) (hv : (Int8.ofInt n).toInt32 = v) (k : J K D cl A nL w Q cs sl (pc + 2) lv (.int v :: st) σ F) : J K D cl A nL w Q cs sl pc lv st σ F :=
  fun r σ' e H locs ls hP hD hS hl => lv_bipush h.1 h.2.1 hd hv (k r σ' e H locs ls hP hD hS hl)
theorem J_sipush (h : jx_ok K D cl tys A nL cc own Ts rm rt) {n : Int} {v : Int32} (hd : decode cc pc = .ok (.sipush n, 3)) (hv : (Int16.ofInt n).toInt32 = v) (k : J K D cl A nL w Q cs sl (pc + 3) lv (.int v :: st) σ F) : J K D cl A nL w Q cs sl pc lv st σ F :=
  fun r σ' e H locs ls hP hD hS hl => lv_sipush h.1 h.2.1 hd hv (k r σ' e H locs ls hP hD hS hl)
theorem J_lconst (h : jx_ok K D cl tys A nL cc own Ts rm rt) {n : Fin 2} {v : Int64} (hd : decode cc pc = .ok (.lconst n, 1)) (hv : Int64.ofNat (n : Nat) = v) (k : J K D cl A nL w Q cs sl (pc + 1) lv (.long v :: st) σ F) : J K D cl A nL w Q cs sl pc lv st σ F :=
  fun r σ' e H locs ls hP hD hS hl => lv_lconst h.1 h.2.1 hd hv (k r σ' e H locs ls hP hD hS hl)
theorem J_ldc2 (h : jx_ok K D cl tys A nL cc own Ts rm rt) {index : Nat} {v : Int64} (hd : decode cc pc = .ok (.ldc2_w index, 3)) (hw : Cond.constantLong own index v ∈ Ts) (k : J K D cl A nL w Q cs sl (pc + 3) lv (.long v :: st) σ F) : J K D cl A nL w Q cs sl pc lv st σ F :=
  fun r σ' e H locs ls hP hD hS hl => lv_ldc2 h.1 h.2.1 h.2.2.2.1 (h.2.2.2.2.1 _ hw) hd (k r σ' e H locs ls hP hD hS hl)
theorem J_ldc (h : jx_ok K D cl tys A nL cc own Ts rm rt) {index : Nat} {v : Int32} (hd : decode cc pc = .ok (.ldc index, 2)) (hw : Cond.constant own index v ∈ Ts) (k : J K D cl A nL w Q cs sl (pc + 2) lv (.int v :: st) σ F) : J K D cl A nL w Q cs sl pc lv st σ F :=
  fun r σ' e H locs ls hP hD hS hl => lv_ldc h.1 h.2.1 h.2.2.2.1 (h.2.2.2.2.1 _ hw) hd (k r σ' e H locs ls hP hD hS hl)
theorem J_iload_n (h : jx_ok K D cl tys A nL cc own Ts rm rt) {j : Fin 4} {i q : Nat} {x : Int32} (hd : decode cc pc = .ok (.iload_n j, 1)) (hi : (j : Nat) = i) (hl0 : lv[q]? = some (i, .int x)) (k : J K D cl A nL w Q cs sl (pc + 1) lv (.int x :: st) σ F) : J K D cl A nL w Q cs sl pc lv st σ F :=
  fun r σ' e H locs ls hP hD hS hl => lv_iload_n h.1 h.2.1 hd hi (lv_at hl q hl0) (k r σ' e H locs ls hP hD hS hl)
theorem J_iload (h : jx_ok K D cl tys A nL cc own Ts rm rt) {i q : Nat} {x : Int32} (hd : decode cc pc = .ok (.iload i, 2)) (hl0 : lv[q]? = some (i, .int x)) (k : J K D cl A nL w Q cs sl (pc + 2) lv (.int x :: st) σ F) : J K D cl A nL w Q cs sl pc lv st σ F :=
  fun r σ' e H locs ls hP hD hS hl => lv_iload h.1 h.2.1 hd (lv_at hl q hl0) (k r σ' e H locs ls hP hD hS hl)
theorem J_lload_n (h : jx_ok K D cl tys A nL cc own Ts rm rt) {j : Fin 4} {i q : Nat} {x : Int64} (hd : decode cc pc = .ok (.lload_n j, 1)) (hi : (j : Nat) = i) (hl0 : lv[q]? = some (i, .long x)) (k : J K D cl A nL w Q cs sl (pc + 1) lv (.long x :: st) σ F) : J K D cl A nL w Q cs sl pc lv st σ F :=
  fun r σ' e H locs ls hP hD hS hl => lv_lload_n h.1 h.2.1 hd hi (lv_at hl q hl0) (k r σ' e H locs ls hP hD hS hl)
theorem J_lload (h : jx_ok K D cl tys A nL cc own Ts rm rt) {i q : Nat} {x : Int64} (hd : decode cc pc = .ok (.lload i, 2)) (hl0 : lv[q]? = some (i, .long x)) (k : J K D cl A nL w Q cs sl (pc + 2) lv (.long x :: st) σ F) : J K D cl A nL w Q cs sl pc lv st σ F :=
  fun r σ' e H locs ls hP hD hS hl => lv_lload h.1 h.2.1 hd (lv_at hl q hl0) (k r σ' e H locs ls hP hD hS hl)
theorem J_aload_n (h : jx_ok K D cl tys A nL cc own Ts rm rt) {j : Fin 4} {i q x : Nat} (hd : decode cc pc = .ok (.aload_n j, 1)) (hi : (j : Nat) = i) (hl0 : lv[q]? = some (i, .ref x)) (k : J K D cl A nL w Q cs sl (pc + 1) lv (.ref x :: st) σ F) : J K D cl A nL w Q cs sl pc lv st σ F :=
  fun r σ' e H locs ls hP hD hS hl => lv_aload_n h.1 h.2.1 hd hi (lv_at hl q hl0) (k r σ' e H locs ls hP hD hS hl)
theorem J_aload (h : jx_ok K D cl tys A nL cc own Ts rm rt) {i q x : Nat} (hd : decode cc pc = .ok (.aload i, 2)) (hl0 : lv[q]? = some (i, .ref x)) (k : J K D cl A nL w Q cs sl (pc + 2) lv (.ref x :: st) σ F) : J K D cl A nL w Q cs sl pc lv st σ F :=
  fun r σ' e H locs ls hP hD hS hl => lv_aload h.1 h.2.1 hd (lv_at hl q hl0) (k r σ' e H locs ls hP hD hS hl)
theorem J_istore_n (h : jx_ok K D cl tys A nL cc own Ts rm rt) {j : Fin 4} {i : Nat} {x : Int32} {lv' : List (Nat × Value)} (hd : decode cc pc = .ok (.istore_n j, 1)) (hi : (j : Nat) = i) (hn : i < nL) (hl' : (i, Value.int x) :: lv.filter (fun q => !(q.1 == i) && !(q.1 + 1 == i && q.2.category == 2)) = lv') (k : J K D cl A nL w Q cs sl (pc + 1) lv' st σ F) : J K D cl A nL w Q cs sl pc lv (.int x :: st) σ F :=
  fun r σ' e H locs ls hP hD hS hl => lv_istore_n h.1 h.2.1 hd hi hl hn hl' (fun ls hl => k r σ' e H locs ls hP hD hS hl)
theorem J_istore (h : jx_ok K D cl tys A nL cc own Ts rm rt) {i : Nat} {x : Int32} {lv' : List (Nat × Value)} (hd : decode cc pc = .ok (.istore i, 2)) (hn : i < nL) (hl' : (i, Value.int x) :: lv.filter (fun q => !(q.1 == i) && !(q.1 + 1 == i && q.2.category == 2)) = lv') (k : J K D cl A nL w Q cs sl (pc + 2) lv' st σ F) : J K D cl A nL w Q cs sl pc lv (.int x :: st) σ F :=
  fun r σ' e H locs ls hP hD hS hl => lv_istore h.1 h.2.1 hd hl hn hl' (fun ls hl => k r σ' e H locs ls hP hD hS hl)
theorem J_lstore_n (h : jx_ok K D cl tys A nL cc own Ts rm rt) {j : Fin 4} {i : Nat} {x : Int64} {lv' : List (Nat × Value)} (hd : decode cc pc = .ok (.lstore_n j, 1)) (hi : (j : Nat) = i) (hn : i + 1 < nL) (hl' : (i, Value.long x) :: lv.filter (fun q => !(q.1 == i) && (!(q.1 == i + 1) && !(q.1 + 1 == i && q.2.category == 2))) = lv') (k : J K D cl A nL w Q cs sl (pc + 1) lv' st σ F) : J K D cl A nL w Q cs sl pc lv (.long x :: st) σ F :=
  fun r σ' e H locs ls hP hD hS hl => lv_lstore_n h.1 h.2.1 hd hi hl hn hl' (fun ls hl => k r σ' e H locs ls hP hD hS hl)
theorem J_lstore (h : jx_ok K D cl tys A nL cc own Ts rm rt) {i : Nat} {x : Int64} {lv' : List (Nat × Value)} (hd : decode cc pc = .ok (.lstore i, 2)) (hn : i + 1 < nL) (hl' : (i, Value.long x) :: lv.filter (fun q => !(q.1 == i) && (!(q.1 == i + 1) && !(q.1 + 1 == i && q.2.category == 2))) = lv') (k : J K D cl A nL w Q cs sl (pc + 2) lv' st σ F) : J K D cl A nL w Q cs sl pc lv (.long x :: st) σ F :=
  fun r σ' e H locs ls hP hD hS hl => lv_lstore h.1 h.2.1 hd hl hn hl' (fun ls hl => k r σ' e H locs ls hP hD hS hl)
theorem J_astore_n (h : jx_ok K D cl tys A nL cc own Ts rm rt) {j : Fin 4} {i : Nat} {x : Nat} {lv' : List (Nat × Value)} (hd : decode cc pc = .ok (.astore_n j, 1)) (hi : (j : Nat) = i) (hn : i < nL) (hl' : (i, Value.ref x) :: lv.filter (fun q => !(q.1 == i) && !(q.1 + 1 == i && q.2.category == 2)) = lv') (k : J K D cl A nL w Q cs sl (pc + 1) lv' st σ F) : J K D cl A nL w Q cs sl pc lv (.ref x :: st) σ F :=
  fun r σ' e H locs ls hP hD hS hl => lv_astore_n h.1 h.2.1 hd hi hl hn hl' (fun ls hl => k r σ' e H locs ls hP hD hS hl)
theorem J_astore (h : jx_ok K D cl tys A nL cc own Ts rm rt) {i : Nat} {x : Nat} {lv' : List (Nat × Value)} (hd : decode cc pc = .ok (.astore i, 2)) (hn : i < nL) (hl' : (i, Value.ref x) :: lv.filter (fun q => !(q.1 == i) && !(q.1 + 1 == i && q.2.category == 2)) = lv') (k : J K D cl A nL w Q cs sl (pc + 2) lv' st σ F) : J K D cl A nL w Q cs sl pc lv (.ref x :: st) σ F :=
  fun r σ' e H locs ls hP hD hS hl => lv_astore h.1 h.2.1 hd hl hn hl' (fun ls hl => k r σ' e H locs ls hP hD hS hl)
theorem J_iinc (h : jx_ok K D cl tys A nL cc own Ts rm rt) {i q : Nat} {n : Int} {x c : Int32} {f : Int32 → Option (ρ × St)} {lv' : Int32 → List (Nat × Value)} (hd : decode cc pc = .ok (.iinc i n, 3)) (hl0 : lv[q]? = some (i, .int x)) (hc : Int32.ofInt n = c) (hn : i < nL) (hl' : ∀ y, (i, Value.int y) :: lv.filter (fun q => !(q.1 == i) && !(q.1 + 1 == i && q.2.category == 2)) = lv' y) (k : ∀ y : Int32, J K D cl A nL w Q cs sl (pc + 3) (lv' y) st σ (f y)) : J K D cl A nL w Q cs sl pc lv st σ (nm (x + c) f) :=
  fun r σ' e H locs ls hP hD hS hl => lv_iinc h.1 h.2.1 hd hl hl0 (by rw [hc]) hn (hl' (x + c)) (fun ls hl => k (x + c) r σ' e H locs ls hP hD hS hl)
theorem J_iadd (h : jx_ok K D cl tys A nL cc own Ts rm rt) {x y : Int32} (hd : decode cc pc = .ok (.iadd, 1)) (k : J K D cl A nL w Q cs sl (pc + 1) lv (.int (x + y) :: st) σ F) : J K D cl A nL w Q cs sl pc lv (.int y :: .int x :: st) σ F :=
  fun r σ' e H locs ls hP hD hS hl => lv_iadd h.1 h.2.1 hd (k r σ' e H locs ls hP hD hS hl)
theorem J_isub (h : jx_ok K D cl tys A nL cc own Ts rm rt) {x y : Int32} (hd : decode cc pc = .ok (.isub, 1)) (k : J K D cl A nL w Q cs sl (pc + 1) lv (.int (x - y) :: st) σ F) : J K D cl A nL w Q cs sl pc lv (.int y :: .int x :: st) σ F :=
  fun r σ' e H locs ls hP hD hS hl => lv_isub h.1 h.2.1 hd (k r σ' e H locs ls hP hD hS hl)
theorem J_imul (h : jx_ok K D cl tys A nL cc own Ts rm rt) {x y : Int32} (hd : decode cc pc = .ok (.imul, 1)) (k : J K D cl A nL w Q cs sl (pc + 1) lv (.int (x * y) :: st) σ F) : J K D cl A nL w Q cs sl pc lv (.int y :: .int x :: st) σ F :=
  fun r σ' e H locs ls hP hD hS hl => lv_imul h.1 h.2.1 hd (k r σ' e H locs ls hP hD hS hl)
theorem J_iand (h : jx_ok K D cl tys A nL cc own Ts rm rt) {x y : Int32} (hd : decode cc pc = .ok (.iand, 1)) (k : J K D cl A nL w Q cs sl (pc + 1) lv (.int (x &&& y) :: st) σ F) : J K D cl A nL w Q cs sl pc lv (.int y :: .int x :: st) σ F :=
  fun r σ' e H locs ls hP hD hS hl => lv_iand h.1 h.2.1 hd (k r σ' e H locs ls hP hD hS hl)
theorem J_ior (h : jx_ok K D cl tys A nL cc own Ts rm rt) {x y : Int32} (hd : decode cc pc = .ok (.ior, 1)) (k : J K D cl A nL w Q cs sl (pc + 1) lv (.int (x ||| y) :: st) σ F) : J K D cl A nL w Q cs sl pc lv (.int y :: .int x :: st) σ F :=
  fun r σ' e H locs ls hP hD hS hl => lv_ior h.1 h.2.1 hd (k r σ' e H locs ls hP hD hS hl)
theorem J_ixor (h : jx_ok K D cl tys A nL cc own Ts rm rt) {x y : Int32} (hd : decode cc pc = .ok (.ixor, 1)) (k : J K D cl A nL w Q cs sl (pc + 1) lv (.int (x ^^^ y) :: st) σ F) : J K D cl A nL w Q cs sl pc lv (.int y :: .int x :: st) σ F :=
  fun r σ' e H locs ls hP hD hS hl => lv_ixor h.1 h.2.1 hd (k r σ' e H locs ls hP hD hS hl)
theorem J_ineg (h : jx_ok K D cl tys A nL cc own Ts rm rt) {x : Int32} (hd : decode cc pc = .ok (.ineg, 1)) (k : J K D cl A nL w Q cs sl (pc + 1) lv (.int (-x) :: st) σ F) : J K D cl A nL w Q cs sl pc lv (.int x :: st) σ F :=
  fun r σ' e H locs ls hP hD hS hl => lv_ineg h.1 h.2.1 hd (k r σ' e H locs ls hP hD hS hl)
theorem J_ishl (h : jx_ok K D cl tys A nL cc own Ts rm rt) {x y : Int32} (hd : decode cc pc = .ok (.ishl, 1)) (k : J K D cl A nL w Q cs sl (pc + 1) lv (.int (x <<< (y &&& 31)) :: st) σ F) : J K D cl A nL w Q cs sl pc lv (.int y :: .int x :: st) σ F :=
  fun r σ' e H locs ls hP hD hS hl => lv_ishl h.1 h.2.1 hd (k r σ' e H locs ls hP hD hS hl)
theorem J_ishr (h : jx_ok K D cl tys A nL cc own Ts rm rt) {x y : Int32} (hd : decode cc pc = .ok (.ishr, 1)) (k : J K D cl A nL w Q cs sl (pc + 1) lv (.int (x >>> (y &&& 31)) :: st) σ F) : J K D cl A nL w Q cs sl pc lv (.int y :: .int x :: st) σ F :=
  fun r σ' e H locs ls hP hD hS hl => lv_ishr h.1 h.2.1 hd (k r σ' e H locs ls hP hD hS hl)
theorem J_land (h : jx_ok K D cl tys A nL cc own Ts rm rt) {x y : Int64} (hd : decode cc pc = .ok (.land, 1)) (k : J K D cl A nL w Q cs sl (pc + 1) lv (.long (x &&& y) :: st) σ F) : J K D cl A nL w Q cs sl pc lv (.long y :: .long x :: st) σ F :=
  fun r σ' e H locs ls hP hD hS hl => lv_land h.1 h.2.1 hd (k r σ' e H locs ls hP hD hS hl)
theorem J_lor (h : jx_ok K D cl tys A nL cc own Ts rm rt) {x y : Int64} (hd : decode cc pc = .ok (.lor, 1)) (k : J K D cl A nL w Q cs sl (pc + 1) lv (.long (x ||| y) :: st) σ F) : J K D cl A nL w Q cs sl pc lv (.long y :: .long x :: st) σ F :=
  fun r σ' e H locs ls hP hD hS hl => lv_lor h.1 h.2.1 hd (k r σ' e H locs ls hP hD hS hl)
theorem J_lxor (h : jx_ok K D cl tys A nL cc own Ts rm rt) {x y : Int64} (hd : decode cc pc = .ok (.lxor, 1)) (k : J K D cl A nL w Q cs sl (pc + 1) lv (.long (x ^^^ y) :: st) σ F) : J K D cl A nL w Q cs sl pc lv (.long y :: .long x :: st) σ F :=
  fun r σ' e H locs ls hP hD hS hl => lv_lxor h.1 h.2.1 hd (k r σ' e H locs ls hP hD hS hl)
theorem J_lshl (h : jx_ok K D cl tys A nL cc own Ts rm rt) {x : Int64} {y : Int32} (hd : decode cc pc = .ok (.lshl, 1)) (k : J K D cl A nL w Q cs sl (pc + 1) lv (.long (x <<< (y.toInt64 &&& 63)) :: st) σ F) : J K D cl A nL w Q cs sl pc lv (.int y :: .long x :: st) σ F :=
  fun r σ' e H locs ls hP hD hS hl => lv_lshl h.1 h.2.1 hd rfl (k r σ' e H locs ls hP hD hS hl)
theorem J_lshr (h : jx_ok K D cl tys A nL cc own Ts rm rt) {x : Int64} {y : Int32} (hd : decode cc pc = .ok (.lshr, 1)) (k : J K D cl A nL w Q cs sl (pc + 1) lv (.long (x >>> (y.toInt64 &&& 63)) :: st) σ F) : J K D cl A nL w Q cs sl pc lv (.int y :: .long x :: st) σ F :=
  fun r σ' e H locs ls hP hD hS hl => lv_lshr h.1 h.2.1 hd rfl (k r σ' e H locs ls hP hD hS hl)
theorem J_i2l (h : jx_ok K D cl tys A nL cc own Ts rm rt) {x : Int32} (hd : decode cc pc = .ok (.i2l, 1)) (k : J K D cl A nL w Q cs sl (pc + 1) lv (.long x.toInt64 :: st) σ F) : J K D cl A nL w Q cs sl pc lv (.int x :: st) σ F :=
  fun r σ' e H locs ls hP hD hS hl => lv_i2l h.1 h.2.1 hd rfl (k r σ' e H locs ls hP hD hS hl)
theorem J_lcmp (h : jx_ok K D cl tys A nL cc own Ts rm rt) {x y : Int64} (hd : decode cc pc = .ok (.lcmp, 1)) (k : J K D cl A nL w Q cs sl (pc + 1) lv (.int (lg_cmp x y) :: st) σ F) : J K D cl A nL w Q cs sl pc lv (.long y :: .long x :: st) σ F :=
  fun r σ' e H locs ls hP hD hS hl => W.lcmp h.1 h.2.1 hd (k r σ' e H locs ls hP hD hS hl)
theorem J_dup (h : jx_ok K D cl tys A nL cc own Ts rm rt) {va : Value} (hd : decode cc pc = .ok (.dup, 1)) (hva : va.category = 1) (k : J K D cl A nL w Q cs sl (pc + 1) lv (va :: va :: st) σ F) : J K D cl A nL w Q cs sl pc lv (va :: st) σ F :=
  fun r σ' e H locs ls hP hD hS hl => lv_dup h.1 h.2.1 hd hva (k r σ' e H locs ls hP hD hS hl)
theorem J_dup2 (h : jx_ok K D cl tys A nL cc own Ts rm rt) {va vb : Value} (hd : decode cc pc = .ok (.dup2, 1)) (hva : va.category = 1) (hvb : vb.category = 1) (k : J K D cl A nL w Q cs sl (pc + 1) lv (va :: vb :: va :: vb :: st) σ F) : J K D cl A nL w Q cs sl pc lv (va :: vb :: st) σ F :=
  fun r σ' e H locs ls hP hD hS hl => lv_dup2_11 h.1 h.2.1 hd hva hvb (k r σ' e H locs ls hP hD hS hl)
theorem J_dup_x1 (h : jx_ok K D cl tys A nL cc own Ts rm rt) {va vb : Value} (hd : decode cc pc = .ok (.dup_x1, 1)) (hva : va.category = 1) (hvb : vb.category = 1) (k : J K D cl A nL w Q cs sl (pc + 1) lv (va :: vb :: va :: st) σ F) : J K D cl A nL w Q cs sl pc lv (va :: vb :: st) σ F :=
  fun r σ' e H locs ls hP hD hS hl => lv_dup_x1 h.1 h.2.1 hd hva hvb (k r σ' e H locs ls hP hD hS hl)
theorem J_dup_x2 (h : jx_ok K D cl tys A nL cc own Ts rm rt) {va vb vd : Value} (hd : decode cc pc = .ok (.dup_x2, 1)) (hva : va.category = 1) (hvb : vb.category = 1) (hvd : vd.category = 1) (k : J K D cl A nL w Q cs sl (pc + 1) lv (va :: vb :: vd :: va :: st) σ F) : J K D cl A nL w Q cs sl pc lv (va :: vb :: vd :: st) σ F :=
  fun r σ' e H locs ls hP hD hS hl => lv_dup_x2 h.1 h.2.1 hd hva hvb hvd (k r σ' e H locs ls hP hD hS hl)
theorem J_pop (h : jx_ok K D cl tys A nL cc own Ts rm rt) {va : Value} (hd : decode cc pc = .ok (.pop, 1)) (hva : va.category = 1) (k : J K D cl A nL w Q cs sl (pc + 1) lv st σ F) : J K D cl A nL w Q cs sl pc lv (va :: st) σ F :=
  fun r σ' e H locs ls hP hD hS hl => lv_pop h.1 h.2.1 hd hva (k r σ' e H locs ls hP hD hS hl)
theorem J_goto (h : jx_ok K D cl tys A nL cc own Ts rm rt) {off : Int} {tgt : Nat} (hd : decode cc pc = .ok (.goto off, 3)) (ht : (pc : Int) + off = (tgt : Int)) (k : J K D cl A nL w Q cs sl tgt lv st σ F) : J K D cl A nL w Q cs sl pc lv st σ F :=
  fun r σ' e H locs ls hP hD hS hl => lv_goto h.1 h.2.1 hd ht (k r σ' e H locs ls hP hD hS hl)
theorem J_if_eq (h : jx_ok K D cl tys A nL cc own Ts rm rt) {x : Int32} {off : Int} {tgt : Nat} (hd : decode cc pc = .ok (.ifCond .eq off, 3)) (ht : (pc : Int) + off = (tgt : Int)) (k1 : J K D cl A nL w Q cs sl tgt lv st σ F1) (k2 : J K D cl A nL w Q cs sl (pc + 3) lv st σ F2) : J K D cl A nL w Q cs sl pc lv (.int x :: st) σ (if x = 0 then F1 else F2) := by
  intro r σ' e H locs ls hP hD hS hl
  refine lv_if_eq h.1 h.2.1 hd ht (fun c => ?_) (fun c => ?_)
  · rw [if_pos c] at e; exact k1 r σ' e H locs ls hP hD hS hl
  · rw [if_neg c] at e; exact k2 r σ' e H locs ls hP hD hS hl
theorem J_icmp_eq (h : jx_ok K D cl tys A nL cc own Ts rm rt) {x y : Int32} {off : Int} {tgt : Nat} (hd : decode cc pc = .ok (.if_icmp .eq off, 3)) (ht : (pc : Int) + off = (tgt : Int)) (k1 : J K D cl A nL w Q cs sl tgt lv st σ F1) (k2 : J K D cl A nL w Q cs sl (pc + 3) lv st σ F2) : J K D cl A nL w Q cs sl pc lv (.int y :: .int x :: st) σ (if x = y then F1 else F2) := by
  intro r σ' e H locs ls hP hD hS hl
  refine lv_icmp_eq h.1 h.2.1 hd ht (fun c => ?_) (fun c => ?_)
  · rw [if_pos c] at e; exact k1 r σ' e H locs ls hP hD hS hl
  · rw [if_neg c] at e; exact k2 r σ' e H locs ls hP hD hS hl
theorem J_if_ne (h : jx_ok K D cl tys A nL cc own Ts rm rt) {x : Int32} {off : Int} {tgt : Nat} (hd : decode cc pc = .ok (.ifCond .ne off, 3)) (ht : (pc : Int) + off = (tgt : Int)) (k1 : J K D cl A nL w Q cs sl (pc + 3) lv st σ F1) (k2 : J K D cl A nL w Q cs sl tgt lv st σ F2) : J K D cl A nL w Q cs sl pc lv (.int x :: st) σ (if x = 0 then F1 else F2) := by
  intro r σ' e H locs ls hP hD hS hl
  refine lv_if_ne h.1 h.2.1 hd ht (fun c => ?_) (fun c => ?_)
  · rw [if_neg c] at e; exact k2 r σ' e H locs ls hP hD hS hl
  · rw [if_pos c] at e; exact k1 r σ' e H locs ls hP hD hS hl
theorem J_icmp_ne (h : jx_ok K D cl tys A nL cc own Ts rm rt) {x y : Int32} {off : Int} {tgt : Nat} (hd : decode cc pc = .ok (.if_icmp .ne off, 3)) (ht : (pc : Int) + off = (tgt : Int)) (k1 : J K D cl A nL w Q cs sl (pc + 3) lv st σ F1) (k2 : J K D cl A nL w Q cs sl tgt lv st σ F2) : J K D cl A nL w Q cs sl pc lv (.int y :: .int x :: st) σ (if x = y then F1 else F2) := by
  intro r σ' e H locs ls hP hD hS hl
  refine lv_icmp_ne h.1 h.2.1 hd ht (fun c => ?_) (fun c => ?_)
  · rw [if_neg c] at e; exact k2 r σ' e H locs ls hP hD hS hl
  · rw [if_pos c] at e; exact k1 r σ' e H locs ls hP hD hS hl
theorem J_if_lt (h : jx_ok K D cl tys A nL cc own Ts rm rt) {x : Int32} {off : Int} {tgt : Nat} (hd : decode cc pc = .ok (.ifCond .lt off, 3)) (ht : (pc : Int) + off = (tgt : Int)) (k1 : J K D cl A nL w Q cs sl tgt lv st σ F1) (k2 : J K D cl A nL w Q cs sl (pc + 3) lv st σ F2) : J K D cl A nL w Q cs sl pc lv (.int x :: st) σ (if x < 0 then F1 else F2) := by
  intro r σ' e H locs ls hP hD hS hl
  refine lv_if_lt h.1 h.2.1 hd ht (fun c => ?_) (fun c => ?_)
  · rw [if_pos c] at e; exact k1 r σ' e H locs ls hP hD hS hl
  · rw [if_neg c] at e; exact k2 r σ' e H locs ls hP hD hS hl
theorem J_icmp_lt (h : jx_ok K D cl tys A nL cc own Ts rm rt) {x y : Int32} {off : Int} {tgt : Nat} (hd : decode cc pc = .ok (.if_icmp .lt off, 3)) (ht : (pc : Int) + off = (tgt : Int)) (k1 : J K D cl A nL w Q cs sl tgt lv st σ F1) (k2 : J K D cl A nL w Q cs sl (pc + 3) lv st σ F2) : J K D cl A nL w Q cs sl pc lv (.int y :: .int x :: st) σ (if x < y then F1 else F2) := by
  intro r σ' e H locs ls hP hD hS hl
  refine lv_icmp_lt h.1 h.2.1 hd ht (fun c => ?_) (fun c => ?_)
  · rw [if_pos c] at e; exact k1 r σ' e H locs ls hP hD hS hl
  · rw [if_neg c] at e; exact k2 r σ' e H locs ls hP hD hS hl
theorem J_if_ge (h : jx_ok K D cl tys A nL cc own Ts rm rt) {x : Int32} {off : Int} {tgt : Nat} (hd : decode cc pc = .ok (.ifCond .ge off, 3)) (ht : (pc : Int) + off = (tgt : Int)) (k1 : J K D cl A nL w Q cs sl tgt lv st σ F1) (k2 : J K D cl A nL w Q cs sl (pc + 3) lv st σ F2) : J K D cl A nL w Q cs sl pc lv (.int x :: st) σ (if 0 ≤ x then F1 else F2) := by
  intro r σ' e H locs ls hP hD hS hl
  refine lv_if_ge h.1 h.2.1 hd ht (fun c => ?_) (fun c => ?_)
  · rw [if_pos c] at e; exact k1 r σ' e H locs ls hP hD hS hl
  · rw [if_neg c] at e; exact k2 r σ' e H locs ls hP hD hS hl
theorem J_icmp_ge (h : jx_ok K D cl tys A nL cc own Ts rm rt) {x y : Int32} {off : Int} {tgt : Nat} (hd : decode cc pc = .ok (.if_icmp .ge off, 3)) (ht : (pc : Int) + off = (tgt : Int)) (k1 : J K D cl A nL w Q cs sl tgt lv st σ F1) (k2 : J K D cl A nL w Q cs sl (pc + 3) lv st σ F2) : J K D cl A nL w Q cs sl pc lv (.int y :: .int x :: st) σ (if y ≤ x then F1 else F2) := by
  intro r σ' e H locs ls hP hD hS hl
  refine lv_icmp_ge h.1 h.2.1 hd ht (fun c => ?_) (fun c => ?_)
  · rw [if_pos c] at e; exact k1 r σ' e H locs ls hP hD hS hl
  · rw [if_neg c] at e; exact k2 r σ' e H locs ls hP hD hS hl
theorem J_if_gt (h : jx_ok K D cl tys A nL cc own Ts rm rt) {x : Int32} {off : Int} {tgt : Nat} (hd : decode cc pc = .ok (.ifCond .gt off, 3)) (ht : (pc : Int) + off = (tgt : Int)) (k1 : J K D cl A nL w Q cs sl tgt lv st σ F1) (k2 : J K D cl A nL w Q cs sl (pc + 3) lv st σ F2) : J K D cl A nL w Q cs sl pc lv (.int x :: st) σ (if 0 < x then F1 else F2) := by
  intro r σ' e H locs ls hP hD hS hl
  refine lv_if_gt h.1 h.2.1 hd ht (fun c => ?_) (fun c => ?_)
  · rw [if_pos c] at e; exact k1 r σ' e H locs ls hP hD hS hl
  · rw [if_neg c] at e; exact k2 r σ' e H locs ls hP hD hS hl
theorem J_icmp_gt (h : jx_ok K D cl tys A nL cc own Ts rm rt) {x y : Int32} {off : Int} {tgt : Nat} (hd : decode cc pc = .ok (.if_icmp .gt off, 3)) (ht : (pc : Int) + off = (tgt : Int)) (k1 : J K D cl A nL w Q cs sl tgt lv st σ F1) (k2 : J K D cl A nL w Q cs sl (pc + 3) lv st σ F2) : J K D cl A nL w Q cs sl pc lv (.int y :: .int x :: st) σ (if y < x then F1 else F2) := by
  intro r σ' e H locs ls hP hD hS hl
  refine lv_icmp_gt h.1 h.2.1 hd ht (fun c => ?_) (fun c => ?_)
  · rw [if_pos c] at e; exact k1 r σ' e H locs ls hP hD hS hl
  · rw [if_neg c] at e; exact k2 r σ' e H locs ls hP hD hS hl
theorem J_if_le (h : jx_ok K D cl tys A nL cc own Ts rm rt) {x : Int32} {off : Int} {tgt : Nat} (hd : decode cc pc = .ok (.ifCond .le off, 3)) (ht : (pc : Int) + off = (tgt : Int)) (k1 : J K D cl A nL w Q cs sl tgt lv st σ F1) (k2 : J K D cl A nL w Q cs sl (pc + 3) lv st σ F2) : J K D cl A nL w Q cs sl pc lv (.int x :: st) σ (if x ≤ 0 then F1 else F2) := by
  intro r σ' e H locs ls hP hD hS hl
  refine lv_if_le h.1 h.2.1 hd ht (fun c => ?_) (fun c => ?_)
  · rw [if_pos c] at e; exact k1 r σ' e H locs ls hP hD hS hl
  · rw [if_neg c] at e; exact k2 r σ' e H locs ls hP hD hS hl
theorem J_icmp_le (h : jx_ok K D cl tys A nL cc own Ts rm rt) {x y : Int32} {off : Int} {tgt : Nat} (hd : decode cc pc = .ok (.if_icmp .le off, 3)) (ht : (pc : Int) + off = (tgt : Int)) (k1 : J K D cl A nL w Q cs sl tgt lv st σ F1) (k2 : J K D cl A nL w Q cs sl (pc + 3) lv st σ F2) : J K D cl A nL w Q cs sl pc lv (.int y :: .int x :: st) σ (if x ≤ y then F1 else F2) := by
  intro r σ' e H locs ls hP hD hS hl
  refine lv_icmp_le h.1 h.2.1 hd ht (fun c => ?_) (fun c => ?_)
  · rw [if_pos c] at e; exact k1 r σ' e H locs ls hP hD hS hl
  · rw [if_neg c] at e; exact k2 r σ' e H locs ls hP hD hS hl
theorem J_getf (h : jx_ok K D cl tys A nL cc own Ts rm rt) {C : String} {T : u_T} {N ci index a : Nat} (q0 : Nat) {fs : List Value} (he : (w σ)[q0]? = some (a, .inr (ci, fs))) (hin : ∀ x ∈ u_ws C T N, x ∈ Ts) (hc : cl[ci]? = some (C, T, N)) (j : Nat) (hj : j < N) (hw : Cond.fieldLink own index (T j).1 (T j).2.1 (T j).2.2.1 ∈ Ts) {v : Value} (hv : fs[j]? = some v) (hd : decode cc pc = .ok (.getfield index, 3)) (k : J K D cl A nL w Q cs sl (pc + 3) lv (v :: st) σ F) : J K D cl A nL w Q cs sl pc lv (.ref a :: st) σ F :=
  fun r σ' e H locs ls hP hD hS hl => va_get h.1 h.2.1 h.2.2.2.2.1 hin h.2.2.2.1 h.2.2.2.2.2.1 hP q0 he hc j hj (h.2.2.2.2.1 _ hw) (fun _ z => z) hv hd (k r σ' e H locs ls hP hD hS hl)
theorem J_putf (h : jx_ok K D cl tys A nL cc own Ts rm rt) {C : String} {T : u_T} {N ci index a : Nat} (q0 : Nat) {fs : List Value} (he : (w σ)[q0]? = some (a, .inr (ci, fs))) (hin : ∀ x ∈ u_ws C T N, x ∈ Ts) (hc : cl[ci]? = some (C, T, N)) (ty0 : Nat → FieldType) (hty : ∀ k, k < N → parseFieldDescriptor (T k).2.2.1 = some (ty0 k)) (hnm : ∀ a, a < N → ∀ b, b < N → a ≠ b → (T a).2.1 ≠ (T b).2.1) (j : Nat) (hj : j < N) (hw : Cond.fieldLink own index (T j).1 (T j).2.1 (T j).2.2.1 ∈ Ts) (hfin : (T j).2.2.2 = false) {v : Value} (hn : narrow (ty0 j) v = v) (hfit : fits (ty0 j) v = true) (hl0 : j < fs.length) {σ2 : St} (hset : (w σ).set q0 (a, .inr (ci, fs.set j v)) = w σ2) {f : St → Option (ρ × St)} (hd : decode cc pc = .ok (.putfield index, 3)) (k : ∀ σ1 : St, J K D cl A nL w Q cs sl (pc + 3) lv st σ1 (f σ1)) : J K D cl A nL w Q cs sl pc lv (v :: .ref a :: st) σ (nm σ2 f) :=
  fun r σ' e H locs ls hP hD hS hl => va_put h.1 h.2.1 h.2.2.2.2.1 hin ty0 hty hnm h.2.2.2.1 h.2.2.2.2.2.1 hP hD hS q0 he hc j hj (h.2.2.2.2.1 _ hw) (fun _ z => z) hfin (hty j hj) hn hfit hl0 hd (fun H1 locs1 hP hD hS => by
    rw [hset] at hP hD
    exact k σ2 r σ' e H1 locs1 ls hP hD hS hl)
theorem J_iald (h : jx_ok K D cl tys A nL cc own Ts rm rt) {a : Nat} (q0 t0 : Nat) {cA : ClassId} {n : Nat} {g : Nat → Int32} (he : (w σ)[q0]? = some (a, .inl (cA, n, .inl g))) (ht : tys[t0]? = some (cA, .int)) {i : Int32} (hd : decode cc pc = .ok (.iaload, 1)) (k : J K D cl A nL w Q cs sl (pc + 1) lv (.int (g i.toNatClampNeg) :: st) σ F) : J K D cl A nL w Q cs sl pc lv (.int i :: .ref a :: st) σ (if ck i n = true then F else none) := by
  intro r σ' e H locs ls hP hD hS hl
  by_cases hk : ck i n = true
  · rw [if_pos hk] at e
    exact va_iald h.1 h.2.1 h.2.2.2.2.2.1 hP q0 t0 he ht (ck_in hk) hd (k r σ' e H locs ls hP hD hS hl)
  · rw [if_neg hk] at e; cases e
theorem J_zald (h : jx_ok K D cl tys A nL cc own Ts rm rt) {a : Nat} (q0 t0 : Nat) {cA : ClassId} {n : Nat} {g : Nat → Int32} (he : (w σ)[q0]? = some (a, .inl (cA, n, .inl g))) (ht : tys[t0]? = some (cA, .boolean)) {i : Int32} (hd : decode cc pc = .ok (.baload, 1)) (k : J K D cl A nL w Q cs sl (pc + 1) lv (.int (g i.toNatClampNeg) :: st) σ F) : J K D cl A nL w Q cs sl pc lv (.int i :: .ref a :: st) σ (if ck i n = true then F else none) := by
  intro r σ' e H locs ls hP hD hS hl
  by_cases hk : ck i n = true
  · rw [if_pos hk] at e
    exact va_zald h.1 h.2.1 h.2.2.2.2.2.1 hP q0 t0 he ht (ck_in hk) hd (k r σ' e H locs ls hP hD hS hl)
  · rw [if_neg hk] at e; cases e
theorem J_lald (h : jx_ok K D cl tys A nL cc own Ts rm rt) {a : Nat} (q0 t0 : Nat) {cA : ClassId} {n : Nat} {g : Nat → Int64} (he : (w σ)[q0]? = some (a, .inl (cA, n, .inr (.inl g)))) (ht : tys[t0]? = some (cA, .long)) {i : Int32} (hd : decode cc pc = .ok (.laload, 1)) (k : J K D cl A nL w Q cs sl (pc + 1) lv (.long (g i.toNatClampNeg) :: st) σ F) : J K D cl A nL w Q cs sl pc lv (.int i :: .ref a :: st) σ (if ck i n = true then F else none) := by
  intro r σ' e H locs ls hP hD hS hl
  by_cases hk : ck i n = true
  · rw [if_pos hk] at e
    exact va_lald h.1 h.2.1 h.2.2.2.2.2.1 hP q0 t0 he ht (ck_in hk) hd (k r σ' e H locs ls hP hD hS hl)
  · rw [if_neg hk] at e; cases e
theorem J_iast (h : jx_ok K D cl tys A nL cc own Ts rm rt) {a : Nat} (q0 t0 : Nat) {cA : ClassId} {n : Nat} {g : Nat → Int32} (he : (w σ)[q0]? = some (a, .inl (cA, n, .inl g))) (ht : tys[t0]? = some (cA, .int)) {i x : Int32} {σ2 : St} (hset : (w σ).set q0 (a, .inl (cA, n, .inl (upd g i.toNatClampNeg x))) = w σ2) {f : St → Option (ρ × St)} (hd : decode cc pc = .ok (.iastore, 1)) (k : ∀ σ1 : St, J K D cl A nL w Q cs sl (pc + 1) lv st σ1 (f σ1)) : J K D cl A nL w Q cs sl pc lv (.int x :: .int i :: .ref a :: st) σ (if ck i n = true then nm σ2 f else none) := by
  intro r σ' e H locs ls hP hD hS hl
  by_cases hk : ck i n = true
  · rw [if_pos hk] at e
    exact va_iast h.1 h.2.1 h.2.2.2.2.2.1 hP hD hS q0 t0 he ht (ck_in hk) hd (fun H1 locs1 hP hD hS => by
      rw [hset] at hP hD
      exact k σ2 r σ' e H1 locs1 ls hP hD hS hl)
  · rw [if_neg hk] at e; cases e
theorem J_zast (h : jx_ok K D cl tys A nL cc own Ts rm rt) {a : Nat} (q0 t0 : Nat) {cA : ClassId} {n : Nat} {g : Nat → Int32} (he : (w σ)[q0]? = some (a, .inl (cA, n, .inl g))) (ht : tys[t0]? = some (cA, .boolean)) {i x : Int32} {σ2 : St} (hset : (w σ).set q0 (a, .inl (cA, n, .inl (upd g i.toNatClampNeg (vp_nar .boolean x)))) = w σ2) {f : St → Option (ρ × St)} (hd : decode cc pc = .ok (.bastore, 1)) (k : ∀ σ1 : St, J K D cl A nL w Q cs sl (pc + 1) lv st σ1 (f σ1)) : J K D cl A nL w Q cs sl pc lv (.int x :: .int i :: .ref a :: st) σ (if ck i n = true then nm σ2 f else none) := by
  intro r σ' e H locs ls hP hD hS hl
  by_cases hk : ck i n = true
  · rw [if_pos hk] at e
    exact va_zast h.1 h.2.1 h.2.2.2.2.2.1 hP hD hS q0 t0 he ht (ck_in hk) hd (fun H1 locs1 hP hD hS => by
      rw [hset] at hP hD
      exact k σ2 r σ' e H1 locs1 ls hP hD hS hl)
  · rw [if_neg hk] at e; cases e
theorem J_last (h : jx_ok K D cl tys A nL cc own Ts rm rt) {a : Nat} (q0 t0 : Nat) {cA : ClassId} {n : Nat} {g : Nat → Int64} (he : (w σ)[q0]? = some (a, .inl (cA, n, .inr (.inl g)))) (ht : tys[t0]? = some (cA, .long)) {i : Int32} {x : Int64} {σ2 : St} (hset : (w σ).set q0 (a, .inl (cA, n, .inr (.inl (vp_updL g i.toNatClampNeg x)))) = w σ2) {f : St → Option (ρ × St)} (hd : decode cc pc = .ok (.lastore, 1)) (k : ∀ σ1 : St, J K D cl A nL w Q cs sl (pc + 1) lv st σ1 (f σ1)) : J K D cl A nL w Q cs sl pc lv (.long x :: .int i :: .ref a :: st) σ (if ck i n = true then nm σ2 f else none) := by
  intro r σ' e H locs ls hP hD hS hl
  by_cases hk : ck i n = true
  · rw [if_pos hk] at e
    exact va_last h.1 h.2.1 h.2.2.2.2.2.1 hP hD hS q0 t0 he ht (ck_in hk) hd (fun H1 locs1 hP hD hS => by
      rw [hset] at hP hD
      exact k σ2 r σ' e H1 locs1 ls hP hD hS hl)
  · rw [if_neg hk] at e; cases e
theorem J_alen (h : jx_ok K D cl tys A nL cc own Ts rm rt) {a : Nat} (q0 t0 : Nat) {cA : ClassId} {x : vp_A} (he : (w σ)[q0]? = some (a, .inl (cA, x))) {ty : FieldType} (ht : tys[t0]? = some (cA, ty)) {v : Int32} (hv : Int32.ofNat x.1 = v) (hd : decode cc pc = .ok (.arraylength, 1)) (k : J K D cl A nL w Q cs sl (pc + 1) lv (.int v :: st) σ F) : J K D cl A nL w Q cs sl pc lv (.ref a :: st) σ F :=
  fun r σ' e H locs ls hP hD hS hl => va_alen h.1 h.2.1 h.2.2.2.2.2.1 hP q0 t0 he ht hv hd (k r σ' e H locs ls hP hD hS hl)
theorem J_tblIn (h : jx_ok K D cl tys A nL cc own Ts rm rt) {dflt lo hi : Int} {offs : Array Int} {len : Nat} {x v : Int32} {off : Int} {tgt : Nat} (hx : x = v) (hd : decode cc pc = .ok (.tableswitch dflt lo hi offs, len)) (h1 : ¬ v.toInt < lo) (h2 : ¬ hi < v.toInt) (ho : offs[(v.toInt - lo).toNat]? = some off) (ht : (pc : Int) + off = (tgt : Int)) (k : J K D cl A nL w Q cs sl tgt lv st σ F) : J K D cl A nL w Q cs sl pc lv (.int x :: st) σ F := by
  subst hx
  exact fun r σ' e H locs ls hP hD hS hl => lv_tableIn h.1 h.2.1 hd h1 h2 ho ht (k r σ' e H locs ls hP hD hS hl)
theorem J_tblOut (h : jx_ok K D cl tys A nL cc own Ts rm rt) {dflt lo hi : Int} {offs : Array Int} {len : Nat} {x : Int32} {tgt : Nat} (hx : x.toInt < lo ∨ hi < x.toInt) (hd : decode cc pc = .ok (.tableswitch dflt lo hi offs, len)) (ht : (pc : Int) + dflt = (tgt : Int)) (k : J K D cl A nL w Q cs sl tgt lv st σ F) : J K D cl A nL w Q cs sl pc lv (.int x :: st) σ F :=
  fun r σ' e H locs ls hP hD hS hl => lv_tableOut h.1 h.2.1 hd hx ht (k r σ' e H locs ls hP hD hS hl)
theorem J_lkp (h : jx_ok K D cl tys A nL cc own Ts rm rt) {dflt : Int} {ps : Array (Int × Int)} {len : Nat} {x : Int32} {off : Int} {tgt : Nat} (ho : Op.lookupswitch.offset ps.toList dflt x.toInt = off) (hd : decode cc pc = .ok (.lookupswitch dflt ps, len)) (hp : (ps.toList.zip (ps.toList.drop 1)).all (fun (a, next) => a.1 < next.1) = true) (ht : (pc : Int) + off = (tgt : Int)) (k : J K D cl A nL w Q cs sl tgt lv st σ F) : J K D cl A nL w Q cs sl pc lv (.int x :: st) σ F :=
  fun r σ' e H locs ls hP hD hS hl => lv_lookup h.1 h.2.1 hd hp ho ht (k r σ' e H locs ls hP hD hS hl)
end JR
section JC
variable {St ρ : Type} {K : jx_E} {D : va_G} {cl : List vw_C} {tys : List (ClassId × FieldType)} {A : Nat → Prop} {nL : Nat} {cc : ByteArray} {own : String} {Ts : List Cond} {rm : Room} {rt : Option FieldType} {w : St → va_W} {Q : ρ → St → State → Prop} {cs sl : Nat} {pc : Nat} {lv : List (Nat × Value)} {st : List Value} {σ : St}
/-- the start and the end of a method over one world, which it keeps: no cell is made -/
def jx_Pc (D : va_G) (cl : List vw_C) (tys : List (ClassId × FieldType)) (w : St → va_W) (vs : List Value) (σ : St) (sz : Nat) : Array Value → State → Prop := va_Pc vs (fun U => U.heap.size = sz ∧ va_P D cl (w σ) U.heap ∧ va_K D cl tys U ∧ va_D (fun _ => True) (w σ))
def jx_B (D : va_G) (cl : List vw_C) (tys : List (ClassId × FieldType)) (w : St → va_W) (A : Nat → Prop) : St → State → Prop := fun u t => va_P D cl (w u) t.heap ∧ va_K D cl tys t ∧ va_D A (w u)
def MetI (l : Launch) (y : MethodName) (ws : List Cond) (rm : Room) (D : va_G) (cl : List vw_C) (tys : List (ClassId × FieldType)) (w : St → va_W) (vs : List Value) (σ : St) (r : Int32) (σ' : St) : Prop :=
  ∀ sz : Nat, Met l y ws rm (jx_Pc D cl tys w vs σ sz) (va_Qi (fun (r2 : Int32) (u : St) => r2 = r ∧ u = σ') (jx_B D cl tys w (va_A (w σ) sz)) (va_A (w σ) sz)) 0 0 (va_A (w σ) sz)
def MetL (l : Launch) (y : MethodName) (ws : List Cond) (rm : Room) (D : va_G) (cl : List vw_C) (tys : List (ClassId × FieldType)) (w : St → va_W) (vs : List Value) (σ : St) (r : Int64) (σ' : St) : Prop :=
  ∀ sz : Nat, Met l y ws rm (jx_Pc D cl tys w vs σ sz) (va_Ql (fun (r2 : Int64) (u : St) => r2 = r ∧ u = σ') (jx_B D cl tys w (va_A (w σ) sz)) (va_A (w σ) sz)) 0 0 (va_A (w σ) sz)
def MetV (l : Launch) (y : MethodName) (ws : List Cond) (rm : Room) (D : va_G) (cl : List vw_C) (tys : List (ClassId × FieldType)) (w : St → va_W) (vs : List Value) (σ : St) (_ : Unit) (σ' : St) : Prop :=
  ∀ sz : Nat, Met l y ws rm (jx_Pc D cl tys w vs σ sz) (va_Qv (fun (u : St) => u = σ') (jx_B D cl tys w (va_A (w σ) sz)) (va_A (w σ) sz)) 0 0 (va_A (w σ) sz)
def jx_Qi (K : jx_E) (D : va_G) (cl : List vw_C) (tys : List (ClassId × FieldType)) (w : St → va_W) (A : Nat → Prop) : Int32 → St → State → Prop := fun r σ' => MQ (jb K) (va_Qi (fun (r2 : Int32) (u : St) => r2 = r ∧ u = σ') (jx_B D cl tys w A) A) (ja K) (js K) 0 0 A
def jx_Ql (K : jx_E) (D : va_G) (cl : List vw_C) (tys : List (ClassId × FieldType)) (w : St → va_W) (A : Nat → Prop) : Int64 → St → State → Prop := fun r σ' => MQ (jb K) (va_Ql (fun (r2 : Int64) (u : St) => r2 = r ∧ u = σ') (jx_B D cl tys w A) A) (ja K) (js K) 0 0 A
def jx_Qv (K : jx_E) (D : va_G) (cl : List vw_C) (tys : List (ClassId × FieldType)) (w : St → va_W) (A : Nat → Prop) : Unit → St → State → Prop := fun _ σ' => MQ (jb K) (va_Qv (fun (u : St) => u = σ') (jx_B D cl tys w A) A) (ja K) (js K) 0 0 A
theorem J_iret (h : jx_ok K D cl tys A nL cc own Ts rm rt) (hr : rt = some .int) {v : Int32} (hd : decode cc pc = .ok (.ireturn, 1)) : J K D cl A nL w (jx_Qi K D cl tys w A) 0 0 pc lv [.int v] σ (some (v, σ)) := by
  intro r σ' e H locs ls hP hD hS hl
  cases e
  exact W.iret h.1 h.2.1 (h.2.2.2.2.2.2.2.2.2.trans hr) (fun t ht hW => ⟨⟨v, σ, rfl, ⟨rfl, rfl⟩, by rw [ht]; exact hP, va_K.moved hW.alike h.2.2.2.2.2.1, hD⟩, hS.F ht⟩) hS.2.2 hd h.2.2.2.2.2.2.2.1
theorem J_zret (h : jx_ok K D cl tys A nL cc own Ts rm rt) (hr : rt = some .boolean) {v : Int32} (hn : narrow .boolean (.int v) = .int v) (hd : decode cc pc = .ok (.ireturn, 1)) : J K D cl A nL w (jx_Qi K D cl tys w A) 0 0 pc lv [.int v] σ (some (v, σ)) := by
  intro r σ' e H locs ls hP hD hS hl
  cases e
  exact W.zret h.1 h.2.1 (h.2.2.2.2.2.2.2.2.2.trans hr) hn (fun t ht hW => ⟨⟨v, σ, rfl, ⟨rfl, rfl⟩, by rw [ht]; exact hP, va_K.moved hW.alike h.2.2.2.2.2.1, hD⟩, hS.F ht⟩) hS.2.2 hd h.2.2.2.2.2.2.2.1
theorem J_lret (h : jx_ok K D cl tys A nL cc own Ts rm rt) (hr : rt = some .long) {v : Int64} (hd : decode cc pc = .ok (.lreturn, 1)) : J K D cl A nL w (jx_Ql K D cl tys w A) 0 0 pc lv [.long v] σ (some (v, σ)) := by
  intro r σ' e H locs ls hP hD hS hl
  cases e
  exact W.lret h.1 h.2.1 (h.2.2.2.2.2.2.2.2.2.trans hr) (fun t ht hW => ⟨⟨v, σ, rfl, ⟨rfl, rfl⟩, by rw [ht]; exact hP, va_K.moved hW.alike h.2.2.2.2.2.1, hD⟩, hS.F ht⟩) hS.2.2 hd h.2.2.2.2.2.2.2.1
theorem J_vret (h : jx_ok K D cl tys A nL cc own Ts rm rt) (hr : rt = none) (hd : decode cc pc = .ok (.return_, 1)) : J K D cl A nL w (jx_Qv K D cl tys w A) 0 0 pc lv [] σ (some ((), σ)) := by
  intro r σ' e H locs ls hP hD hS hl
  cases e
  exact W.vret h.1 h.2.1 (h.2.2.2.2.2.2.2.2.2.trans hr) (fun t ht hW => ⟨⟨σ, rfl, rfl, by rw [ht]; exact hP, va_K.moved hW.alike h.2.2.2.2.2.1, hD⟩, hS.F ht⟩) hS.2.2 hd h.2.2.2.2.2.2.2.1
theorem jx_blind {vs : List Value} {sz : Nat} : FrameBlind (jx_Pc D cl tys w vs σ sz) := fun a U g mk q => by
  obtain ⟨q0, q1, qP, qK, qD⟩ := q
  exact ⟨q0, q1, qP, va_K.moved (u := U) (U := U.calling g mk a) (Vm.Alike.refl U.vm) qK, qD⟩
theorem jx_free {ws : va_W} {H0 H : Heap} {locs : List Loc} (hD : va_D A ws) (hS : va_S A H0 H locs) (hA : ∀ q, H0.size ≤ q → A q) : ∀ q, va_A ws H.size q → A q := by
  intro q hq
  rcases hq with ⟨k, e, hk⟩ | hq
  · exact hD.2 k (q, e) hk
  · exact hA q (Nat.le_trans hS.1 hq)
theorem jx_start {l : Launch} {y : MethodName} {ws ws' : List Cond} {p : Program} {e : Env} {s : State} {m : MethodId} {args : Array Value} {below : List Frame} {meth : Method} {c : Code} {s₁ : State} {vs : List Value} {sz : Nat} (B : BodyLoose p l y (headSpec ws rm) cc nL rt e s m args below meth c s₁) (hml : c.maxLocals = nL) (hv : jx_Pc D cl tys w vs σ sz args s) : jx_ok (p, l, e, (headSpec ws rm).room, s, m, args, below, meth, c) D cl tys (va_A (w σ) sz) nL cc y.cls ws rm rt := by
  obtain ⟨rfl, hsz, hP, hK, hD0⟩ := hv
  exact ⟨B.exec, B.bytes, hml, findClass_of_methodNamed B.named, atoms_spec (ws := ws) B.pre, hK, fun q h => Or.inr (by rw [← hsz]; exact h), B.notSynchronized, rfl, B.returns⟩
theorem jx_metI {l : Launch} {y : MethodName} {ws ws' : List Cond} {vs : List Value} {F : Option (Int32 × St)} {r : Int32} {σ' : St} (hy : plainName y.cls = true) (hw : ws = Cond.code y cc nL rt :: ws') (hlen : (lg_sl vs).length ≤ nL) (body : ∀ (K : jx_E) (A : Nat → Prop), jx_ok K D cl tys A nL cc y.cls ws rm rt → J K D cl A nL w (jx_Qi K D cl tys w A) 0 0 0 (lv_args 0 vs) [] σ F) (hF : F = some (r, σ')) : MetI l y ws rm D cl tys w vs σ r σ' := by
  intro sz
  refine Met.ofW (cc := cc) (maxL := nL) (ret := rt) hy hw ?_
  intro p e s m args below meth c s₁ B hml hv
  have hok := jx_start (ws' := ws') B hml hv
  obtain ⟨rfl, hsz, hP, hK, hD0⟩ := hv
  rw [lg_entry_eq]
  exact body _ _ hok r σ' hF s.heap [] _ hP hD0.self va_S.rf (lv_entry vs hlen)
theorem jx_metL {l : Launch} {y : MethodName} {ws ws' : List Cond} {vs : List Value} {F : Option (Int64 × St)} {r : Int64} {σ' : St} (hy : plainName y.cls = true) (hw : ws = Cond.code y cc nL rt :: ws') (hlen : (lg_sl vs).length ≤ nL) (body : ∀ (K : jx_E) (A : Nat → Prop), jx_ok K D cl tys A nL cc y.cls ws rm rt → J K D cl A nL w (jx_Ql K D cl tys w A) 0 0 0 (lv_args 0 vs) [] σ F) (hF : F = some (r, σ')) : MetL l y ws rm D cl tys w vs σ r σ' := by
  intro sz
  refine Met.ofW (cc := cc) (maxL := nL) (ret := rt) hy hw ?_
  intro p e s m args below meth c s₁ B hml hv
  have hok := jx_start (ws' := ws') B hml hv
  obtain ⟨rfl, hsz, hP, hK, hD0⟩ := hv
  rw [lg_entry_eq]
  exact body _ _ hok r σ' hF s.heap [] _ hP hD0.self va_S.rf (lv_entry vs hlen)
theorem jx_metV {l : Launch} {y : MethodName} {ws ws' : List Cond} {vs : List Value} {F : Option (Unit × St)} {r : Unit} {σ' : St} (hy : plainName y.cls = true) (hw : ws = Cond.code y cc nL rt :: ws') (hlen : (lg_sl vs).length ≤ nL) (body : ∀ (K : jx_E) (A : Nat → Prop), jx_ok K D cl tys A nL cc y.cls ws rm rt → J K D cl A nL w (jx_Qv K D cl tys w A) 0 0 0 (lv_args 0 vs) [] σ F) (hF : F = some (r, σ')) : MetV l y ws rm D cl tys w vs σ r σ' := by
  intro sz
  refine Met.ofW (cc := cc) (maxL := nL) (ret := rt) hy hw ?_
  intro p e s m args below meth c s₁ B hml hv
  have hok := jx_start (ws' := ws') B hml hv
  obtain ⟨rfl, hsz, hP, hK, hD0⟩ := hv
  rw [lg_entry_eq]
  exact body _ _ hok r σ' hF s.heap [] _ hP hD0.self va_S.rf (lv_entry vs hlen)
theorem J_callVi (h : jx_ok K D cl tys A nL cc own Ts rm rt) {y : MethodName} {ws ws' : List Cond} {bytes : ByteArray} {maxL index n q0 ci b : Nat} {ret : Option FieldType} {rmc : Room} {C : String} {qc : vw_C} {fs As st0 : List Value} {f : Option (Int32 × St)} {g : Int32 → St → Option (ρ × St)} (hM : ∀ r σ', f = some (r, σ') → MetI (jl K) y ws rmc D cl tys w (.ref b :: As) σ r σ')
    (hG : GoodIn Ts (wsV own index C y ws)) (hw : ws = Cond.code y bytes maxL ret :: ws') (hrm : rmc.cells = 0 ∧ rmc.slots = 0) (hdd : y.cls = C ∧ y.cls ≠ "java/lang/invoke/MethodHandle" ∧ y.cls ≠ "java/lang/invoke/VarHandle" ∧ (parseMethodDescriptor y.desc).map (fun d => d.parameters.length) = some n) (hR : rmc.frames + 1 ≤ rm.frames ∧ 8 + (maxL + 11) + rmc.locals ≤ rm.locals)
    (hc : cl[ci]? = some qc) (hC : qc.1 = C) (he : (w σ)[q0]? = some (b, .inr (ci, fs))) (hn : As.length = n) (hst : st0 = As.reverse ++ .ref b :: st) (hroom : (st.map fun v => v.category).sum ≤ 8) (hcs : cs ≤ rm.cells ∧ sl ≤ rm.slots) (hd : decode cc pc = .ok (.invokevirtual index, 3))
    (k : ∀ (r : Int32) (σ1 : St), J K D cl A nL w Q cs sl (pc + 3) lv (.int r :: st) σ1 (g r σ1)) : J K D cl A nL w Q cs sl pc lv st0 σ (bd f g) := by
  intro r1 σ9 e1 H locs ls hP hD hS hl
  obtain ⟨r0, σ0, ef, eg⟩ := bd_some e1
  have hF := jx_free hD hS h.2.2.2.2.2.2.1
  have hRe := h.2.2.2.2.2.2.2.2.1
  refine va_calli (va_runV (As := As) (rest := st) (mc := 0) (ms := 0) ⟨h.1, h.2.1, h.2.2.1, h.2.2.2.1, h.2.2.2.2.1⟩ (hM r0 σ0 ef H.size) (cwV n h.2.2.2.2.1 hG hw hrm.1 hrm.2 hdd (by rw [hRe]; exact hR)) ⟨jx_blind, by rw [← hC]; exact va_recv h.2.2.2.2.2.1 hP hc he, fun U hU hW => ⟨rfl, by rw [hU], by rw [hU]; exact hP, va_K.moved hW.alike h.2.2.2.2.2.1, hD.weaken (fun _ _ _ _ => trivial)⟩⟩ rfl hn hl.1 hst (lv_room hroom) hd (by rw [hRe]; exact hcs)) hS (fun q _ z => hF q z) hF (fun r u t H1 locs1 ht hvm hw hB hz1 hk1 hS => ?_)
  obtain ⟨rfl, rfl⟩ := hw
  obtain ⟨hP1, hK1, hD1⟩ := hB
  rw [ht] at hP1
  exact k _ _ _ _ eg H1 locs1 ls hP1 (hD1.weaken (fun _ q _ z => hF q.1 z)) hS hl
theorem J_callSi (h : jx_ok K D cl tys A nL cc own Ts rm rt) {y : MethodName} {ws ws' : List Cond} {bytes : ByteArray} {maxL index n : Nat} {ret : Option FieldType} {rmc : Room} {As st0 : List Value} {f : Option (Int32 × St)} {g : Int32 → St → Option (ρ × St)} (hM : ∀ r σ', f = some (r, σ') → MetI (jl K) y ws rmc D cl tys w As σ r σ')
    (hG : GoodIn Ts (wsS own index y ws)) (hw : ws = Cond.code y bytes maxL ret :: ws') (hrm : rmc.cells = 0 ∧ rmc.slots = 0) (hdd : y.cls = own ∧ y.cls ≠ "java/lang/invoke/MethodHandle" ∧ y.cls ≠ "java/lang/invoke/VarHandle" ∧ (parseMethodDescriptor y.desc).map (fun d => d.parameters.length) = some n) (hR : rmc.frames + 1 ≤ rm.frames ∧ 8 + (maxL + 11) + rmc.locals ≤ rm.locals)
    (hn : As.length = n) (hst : st0 = As.reverse ++ st) (hroom : (st.map fun v => v.category).sum ≤ 8) (hcs : cs ≤ rm.cells ∧ sl ≤ rm.slots) (hd : decode cc pc = .ok (.invokestatic index, 3))
    (k : ∀ (r : Int32) (σ1 : St), J K D cl A nL w Q cs sl (pc + 3) lv (.int r :: st) σ1 (g r σ1)) : J K D cl A nL w Q cs sl pc lv st0 σ (bd f g) := by
  intro r1 σ9 e1 H locs ls hP hD hS hl
  obtain ⟨r0, σ0, ef, eg⟩ := bd_some e1
  have hF := jx_free hD hS h.2.2.2.2.2.2.1
  have hRe := h.2.2.2.2.2.2.2.2.1
  refine va_calli (va_runS (As := As) (rest := st) (mc := 0) (ms := 0) ⟨h.1, h.2.1, h.2.2.1, h.2.2.2.1, h.2.2.2.2.1⟩ (hM r0 σ0 ef H.size) (cwS n h.2.2.2.2.1 hG hw hrm.1 hrm.2 hdd (by rw [hRe]; exact hR)) ⟨jx_blind, fun U hU hW => ⟨rfl, by rw [hU], by rw [hU]; exact hP, va_K.moved hW.alike h.2.2.2.2.2.1, hD.weaken (fun _ _ _ _ => trivial)⟩⟩ rfl hn hl.1 hst (lv_room hroom) hd (by rw [hRe]; exact hcs)) hS (fun q _ z => hF q z) hF (fun r u t H1 locs1 ht hvm hw hB hz1 hk1 hS => ?_)
  obtain ⟨rfl, rfl⟩ := hw
  obtain ⟨hP1, hK1, hD1⟩ := hB
  rw [ht] at hP1
  exact k _ _ _ _ eg H1 locs1 ls hP1 (hD1.weaken (fun _ q _ z => hF q.1 z)) hS hl
theorem J_callVl (h : jx_ok K D cl tys A nL cc own Ts rm rt) {y : MethodName} {ws ws' : List Cond} {bytes : ByteArray} {maxL index n q0 ci b : Nat} {ret : Option FieldType} {rmc : Room} {C : String} {qc : vw_C} {fs As st0 : List Value} {f : Option (Int64 × St)} {g : Int64 → St → Option (ρ × St)} (hM : ∀ r σ', f = some (r, σ') → MetL (jl K) y ws rmc D cl tys w (.ref b :: As) σ r σ')
    (hG : GoodIn Ts (wsV own index C y ws)) (hw : ws = Cond.code y bytes maxL ret :: ws') (hrm : rmc.cells = 0 ∧ rmc.slots = 0) (hdd : y.cls = C ∧ y.cls ≠ "java/lang/invoke/MethodHandle" ∧ y.cls ≠ "java/lang/invoke/VarHandle" ∧ (parseMethodDescriptor y.desc).map (fun d => d.parameters.length) = some n) (hR : rmc.frames + 1 ≤ rm.frames ∧ 8 + (maxL + 11) + rmc.locals ≤ rm.locals)
    (hc : cl[ci]? = some qc) (hC : qc.1 = C) (he : (w σ)[q0]? = some (b, .inr (ci, fs))) (hn : As.length = n) (hst : st0 = As.reverse ++ .ref b :: st) (hroom : (st.map fun v => v.category).sum ≤ 8) (hcs : cs ≤ rm.cells ∧ sl ≤ rm.slots) (hd : decode cc pc = .ok (.invokevirtual index, 3))
    (k : ∀ (r : Int64) (σ1 : St), J K D cl A nL w Q cs sl (pc + 3) lv (.long r :: st) σ1 (g r σ1)) : J K D cl A nL w Q cs sl pc lv st0 σ (bd f g) := by
  intro r1 σ9 e1 H locs ls hP hD hS hl
  obtain ⟨r0, σ0, ef, eg⟩ := bd_some e1
  have hF := jx_free hD hS h.2.2.2.2.2.2.1
  have hRe := h.2.2.2.2.2.2.2.2.1
  refine va_calll (va_runV (As := As) (rest := st) (mc := 0) (ms := 0) ⟨h.1, h.2.1, h.2.2.1, h.2.2.2.1, h.2.2.2.2.1⟩ (hM r0 σ0 ef H.size) (cwV n h.2.2.2.2.1 hG hw hrm.1 hrm.2 hdd (by rw [hRe]; exact hR)) ⟨jx_blind, by rw [← hC]; exact va_recv h.2.2.2.2.2.1 hP hc he, fun U hU hW => ⟨rfl, by rw [hU], by rw [hU]; exact hP, va_K.moved hW.alike h.2.2.2.2.2.1, hD.weaken (fun _ _ _ _ => trivial)⟩⟩ rfl hn hl.1 hst (lv_room hroom) hd (by rw [hRe]; exact hcs)) hS (fun q _ z => hF q z) hF (fun r u t H1 locs1 ht hvm hw hB hz1 hk1 hS => ?_)
  obtain ⟨rfl, rfl⟩ := hw
  obtain ⟨hP1, hK1, hD1⟩ := hB
  rw [ht] at hP1
  exact k _ _ _ _ eg H1 locs1 ls hP1 (hD1.weaken (fun _ q _ z => hF q.1 z)) hS hl
theorem J_callSl (h : jx_ok K D cl tys A nL cc own Ts rm rt) {y : MethodName} {ws ws' : List Cond} {bytes : ByteArray} {maxL index n : Nat} {ret : Option FieldType} {rmc : Room} {As st0 : List Value} {f : Option (Int64 × St)} {g : Int64 → St → Option (ρ × St)} (hM : ∀ r σ', f = some (r, σ') → MetL (jl K) y ws rmc D cl tys w As σ r σ')
    (hG : GoodIn Ts (wsS own index y ws)) (hw : ws = Cond.code y bytes maxL ret :: ws') (hrm : rmc.cells = 0 ∧ rmc.slots = 0) (hdd : y.cls = own ∧ y.cls ≠ "java/lang/invoke/MethodHandle" ∧ y.cls ≠ "java/lang/invoke/VarHandle" ∧ (parseMethodDescriptor y.desc).map (fun d => d.parameters.length) = some n) (hR : rmc.frames + 1 ≤ rm.frames ∧ 8 + (maxL + 11) + rmc.locals ≤ rm.locals)
    (hn : As.length = n) (hst : st0 = As.reverse ++ st) (hroom : (st.map fun v => v.category).sum ≤ 8) (hcs : cs ≤ rm.cells ∧ sl ≤ rm.slots) (hd : decode cc pc = .ok (.invokestatic index, 3))
    (k : ∀ (r : Int64) (σ1 : St), J K D cl A nL w Q cs sl (pc + 3) lv (.long r :: st) σ1 (g r σ1)) : J K D cl A nL w Q cs sl pc lv st0 σ (bd f g) := by
  intro r1 σ9 e1 H locs ls hP hD hS hl
  obtain ⟨r0, σ0, ef, eg⟩ := bd_some e1
  have hF := jx_free hD hS h.2.2.2.2.2.2.1
  have hRe := h.2.2.2.2.2.2.2.2.1
  refine va_calll (va_runS (As := As) (rest := st) (mc := 0) (ms := 0) ⟨h.1, h.2.1, h.2.2.1, h.2.2.2.1, h.2.2.2.2.1⟩ (hM r0 σ0 ef H.size) (cwS n h.2.2.2.2.1 hG hw hrm.1 hrm.2 hdd (by rw [hRe]; exact hR)) ⟨jx_blind, fun U hU hW => ⟨rfl, by rw [hU], by rw [hU]; exact hP, va_K.moved hW.alike h.2.2.2.2.2.1, hD.weaken (fun _ _ _ _ => trivial)⟩⟩ rfl hn hl.1 hst (lv_room hroom) hd (by rw [hRe]; exact hcs)) hS (fun q _ z => hF q z) hF (fun r u t H1 locs1 ht hvm hw hB hz1 hk1 hS => ?_)
  obtain ⟨rfl, rfl⟩ := hw
  obtain ⟨hP1, hK1, hD1⟩ := hB
  rw [ht] at hP1
  exact k _ _ _ _ eg H1 locs1 ls hP1 (hD1.weaken (fun _ q _ z => hF q.1 z)) hS hl
theorem J_callVv (h : jx_ok K D cl tys A nL cc own Ts rm rt) {y : MethodName} {ws ws' : List Cond} {bytes : ByteArray} {maxL index n q0 ci b : Nat} {ret : Option FieldType} {rmc : Room} {C : String} {qc : vw_C} {fs As st0 : List Value} {f : Option (Unit × St)} {g : Unit → St → Option (ρ × St)} (hM : ∀ r σ', f = some (r, σ') → MetV (jl K) y ws rmc D cl tys w (.ref b :: As) σ r σ')
    (hG : GoodIn Ts (wsV own index C y ws)) (hw : ws = Cond.code y bytes maxL ret :: ws') (hrm : rmc.cells = 0 ∧ rmc.slots = 0) (hdd : y.cls = C ∧ y.cls ≠ "java/lang/invoke/MethodHandle" ∧ y.cls ≠ "java/lang/invoke/VarHandle" ∧ (parseMethodDescriptor y.desc).map (fun d => d.parameters.length) = some n) (hR : rmc.frames + 1 ≤ rm.frames ∧ 8 + (maxL + 11) + rmc.locals ≤ rm.locals)
    (hc : cl[ci]? = some qc) (hC : qc.1 = C) (he : (w σ)[q0]? = some (b, .inr (ci, fs))) (hn : As.length = n) (hst : st0 = As.reverse ++ .ref b :: st) (hroom : (st.map fun v => v.category).sum ≤ 8) (hcs : cs ≤ rm.cells ∧ sl ≤ rm.slots) (hd : decode cc pc = .ok (.invokevirtual index, 3))
    (k : ∀ (r : Unit) (σ1 : St), J K D cl A nL w Q cs sl (pc + 3) lv (st) σ1 (g r σ1)) : J K D cl A nL w Q cs sl pc lv st0 σ (bd f g) := by
  intro r1 σ9 e1 H locs ls hP hD hS hl
  obtain ⟨r0, σ0, ef, eg⟩ := bd_some e1
  have hF := jx_free hD hS h.2.2.2.2.2.2.1
  have hRe := h.2.2.2.2.2.2.2.2.1
  refine va_callv (va_runV (As := As) (rest := st) (mc := 0) (ms := 0) ⟨h.1, h.2.1, h.2.2.1, h.2.2.2.1, h.2.2.2.2.1⟩ (hM r0 σ0 ef H.size) (cwV n h.2.2.2.2.1 hG hw hrm.1 hrm.2 hdd (by rw [hRe]; exact hR)) ⟨jx_blind, by rw [← hC]; exact va_recv h.2.2.2.2.2.1 hP hc he, fun U hU hW => ⟨rfl, by rw [hU], by rw [hU]; exact hP, va_K.moved hW.alike h.2.2.2.2.2.1, hD.weaken (fun _ _ _ _ => trivial)⟩⟩ rfl hn hl.1 hst (lv_room hroom) hd (by rw [hRe]; exact hcs)) hS (fun q _ z => hF q z) hF (fun u t H1 locs1 ht hvm hw hB hz1 hk1 hS => ?_)
  subst hw
  obtain ⟨hP1, hK1, hD1⟩ := hB
  rw [ht] at hP1
  exact k _ _ _ _ eg H1 locs1 ls hP1 (hD1.weaken (fun _ q _ z => hF q.1 z)) hS hl
theorem J_callSv (h : jx_ok K D cl tys A nL cc own Ts rm rt) {y : MethodName} {ws ws' : List Cond} {bytes : ByteArray} {maxL index n : Nat} {ret : Option FieldType} {rmc : Room} {As st0 : List Value} {f : Option (Unit × St)} {g : Unit → St → Option (ρ × St)} (hM : ∀ r σ', f = some (r, σ') → MetV (jl K) y ws rmc D cl tys w As σ r σ')
    (hG : GoodIn Ts (wsS own index y ws)) (hw : ws = Cond.code y bytes maxL ret :: ws') (hrm : rmc.cells = 0 ∧ rmc.slots = 0) (hdd : y.cls = own ∧ y.cls ≠ "java/lang/invoke/MethodHandle" ∧ y.cls ≠ "java/lang/invoke/VarHandle" ∧ (parseMethodDescriptor y.desc).map (fun d => d.parameters.length) = some n) (hR : rmc.frames + 1 ≤ rm.frames ∧ 8 + (maxL + 11) + rmc.locals ≤ rm.locals)
    (hn : As.length = n) (hst : st0 = As.reverse ++ st) (hroom : (st.map fun v => v.category).sum ≤ 8) (hcs : cs ≤ rm.cells ∧ sl ≤ rm.slots) (hd : decode cc pc = .ok (.invokestatic index, 3))
    (k : ∀ (r : Unit) (σ1 : St), J K D cl A nL w Q cs sl (pc + 3) lv (st) σ1 (g r σ1)) : J K D cl A nL w Q cs sl pc lv st0 σ (bd f g) := by
  intro r1 σ9 e1 H locs ls hP hD hS hl
  obtain ⟨r0, σ0, ef, eg⟩ := bd_some e1
  have hF := jx_free hD hS h.2.2.2.2.2.2.1
  have hRe := h.2.2.2.2.2.2.2.2.1
  refine va_callv (va_runS (As := As) (rest := st) (mc := 0) (ms := 0) ⟨h.1, h.2.1, h.2.2.1, h.2.2.2.1, h.2.2.2.2.1⟩ (hM r0 σ0 ef H.size) (cwS n h.2.2.2.2.1 hG hw hrm.1 hrm.2 hdd (by rw [hRe]; exact hR)) ⟨jx_blind, fun U hU hW => ⟨rfl, by rw [hU], by rw [hU]; exact hP, va_K.moved hW.alike h.2.2.2.2.2.1, hD.weaken (fun _ _ _ _ => trivial)⟩⟩ rfl hn hl.1 hst (lv_room hroom) hd (by rw [hRe]; exact hcs)) hS (fun q _ z => hF q z) hF (fun u t H1 locs1 ht hvm hw hB hz1 hk1 hS => ?_)
  subst hw
  obtain ⟨hP1, hK1, hD1⟩ := hB
  rw [ht] at hP1
  exact k _ _ _ _ eg H1 locs1 ls hP1 (hD1.weaken (fun _ q _ z => hF q.1 z)) hS hl
end JC
end
section
/-! rows that came later: branches of constants, booleans, static calls of any class, the words of all methods -/
def zb (v : Int32) : Bool := decide (v = 0 ∨ v = 1)
theorem zb_fit {v : Int32} (h : zb v = true) : fits .boolean (.int v) = true := by
  rcases (of_decide_eq_true h : v = 0 ∨ v = 1) with rfl | rfl <;> decide
theorem zb_nar {v : Int32} (h : zb v = true) : narrow .boolean (.int v) = .int v := by
  rcases (of_decide_eq_true h : v = 0 ∨ v = 1) with rfl | rfl <;> decide
section JM
variable {St ρ : Type} {K : jx_E} {D : va_G} {cl : List vw_C} {tys : List (ClassId × FieldType)} {A : Nat → Prop} {nL : Nat} {cc : ByteArray} {own : String} {Ts : List Cond} {rm : Room} {rt : Option FieldType} {w : St → va_W} {Q : ρ → St → State → Prop} {cs sl : Nat} {pc : Nat} {lv : List (Nat × Value)} {st : List Value} {σ : St} {F F1 F2 : Option (ρ × St)}
theorem J_br_t {c : Prop} [Decidable c] (hc : c) (k : J K D cl A nL w Q cs sl pc lv st σ (if c then F else none)) : J K D cl A nL w Q cs sl pc lv st σ F := by
  rw [if_pos hc] at k; exact k
theorem J_br_f {c : Prop} [Decidable c] (hc : ¬ c) (k : J K D cl A nL w Q cs sl pc lv st σ (if c then none else F)) : J K D cl A nL w Q cs sl pc lv st σ F := by
  rw [if_neg hc] at k; exact k
theorem J_putz (h : jx_ok K D cl tys A nL cc own Ts rm rt) {C : String} {T : u_T} {N ci index a : Nat} (q0 : Nat) {fs : List Value} (he : (w σ)[q0]? = some (a, .inr (ci, fs))) (hin : ∀ x ∈ u_ws C T N, x ∈ Ts) (hc : cl[ci]? = some (C, T, N)) (ty0 : Nat → FieldType) (hty : ∀ k, k < N → parseFieldDescriptor (T k).2.2.1 = some (ty0 k)) (hnm : ∀ a, a < N → ∀ b, b < N → a ≠ b → (T a).2.1 ≠ (T b).2.1) (j : Nat) (hj : j < N) (hw : Cond.fieldLink own index (T j).1 (T j).2.1 (T j).2.2.1 ∈ Ts) (hfin : (T j).2.2.2 = false) {v : Int32} (hb : ty0 j = .boolean) (hl0 : j < fs.length) {σ2 : St} (hset : (w σ).set q0 (a, .inr (ci, fs.set j (.int v))) = w σ2) {f : St → Option (ρ × St)} (hd : decode cc pc = .ok (.putfield index, 3)) (k : ∀ σ1 : St, J K D cl A nL w Q cs sl (pc + 3) lv st σ1 (f σ1)) : J K D cl A nL w Q cs sl pc lv (.int v :: .ref a :: st) σ (if zb v = true then nm σ2 f else none) := by
  by_cases hz : zb v = true
  · rw [if_pos hz]
    exact J_putf h q0 he hin hc ty0 hty hnm j hj hw hfin (by rw [hb]; exact zb_nar hz) (by rw [hb]; exact zb_fit hz) hl0 hset hd k
  · rw [if_neg hz]; exact J_none
end JM
section JMC
variable {St ρ : Type} {K : jx_E} {D : va_G} {cl : List vw_C} {tys : List (ClassId × FieldType)} {A : Nat → Prop} {nL : Nat} {cc : ByteArray} {own : String} {Ts : List Cond} {rm : Room} {rt : Option FieldType} {w : St → va_W} {Q : ρ → St → State → Prop} {cs sl : Nat} {pc : Nat} {lv : List (Nat × Value)} {st : List Value} {σ : St}
theorem J_zretc (h : jx_ok K D cl tys A nL cc own Ts rm rt) (hr : rt = some .boolean) {v : Int32} (hd : decode cc pc = .ok (.ireturn, 1)) : J K D cl A nL w (jx_Qi K D cl tys w A) 0 0 pc lv [.int v] σ (if zb v = true then some (v, σ) else none) := by
  by_cases hz : zb v = true
  · rw [if_pos hz]
    exact J_zret h hr (zb_nar hz) hd
  · rw [if_neg hz]; exact J_none
theorem J_callTi (h : jx_ok K D cl tys A nL cc own Ts rm rt) {y : MethodName} {ws ws' : List Cond} {bytes : ByteArray} {maxL index n : Nat} {ret : Option FieldType} {rmc : Room} {As st0 : List Value} {f : Option (Int32 × St)} {g : Int32 → St → Option (ρ × St)} (hM : ∀ r σ', f = some (r, σ') → MetI (jl K) y ws rmc D cl tys w As σ r σ')
    (hG : GoodIn Ts ws) (hw1 : Cond.methodLink own index y ∈ Ts) (hw2 : Cond.static y ∈ Ts) (hw3 : Cond.initialized y.cls ∈ Ts) (hw : ws = Cond.code y bytes maxL ret :: ws') (hrm : rmc.cells = 0 ∧ rmc.slots = 0) (hdd : y.cls ≠ "java/lang/invoke/MethodHandle" ∧ y.cls ≠ "java/lang/invoke/VarHandle" ∧ (parseMethodDescriptor y.desc).map (fun d => d.parameters.length) = some n) (hR : rmc.frames + 1 ≤ rm.frames ∧ 8 + (maxL + 11) + rmc.locals ≤ rm.locals)
    (hn : As.length = n) (hst : st0 = As.reverse ++ st) (hroom : (st.map fun v => v.category).sum ≤ 8) (hcs : cs ≤ rm.cells ∧ sl ≤ rm.slots) (hd : decode cc pc = .ok (.invokestatic index, 3))
    (k : ∀ (r : Int32) (σ1 : St), J K D cl A nL w Q cs sl (pc + 3) lv (.int r :: st) σ1 (g r σ1)) : J K D cl A nL w Q cs sl pc lv st0 σ (bd f g) := by
  intro r1 σ9 e1 H locs ls hP hD hS hl
  obtain ⟨r0, σ0, ef, eg⟩ := bd_some e1
  have hF := jx_free hD hS h.2.2.2.2.2.2.1
  have hRe := h.2.2.2.2.2.2.2.2.1
  refine va_calli (va_runS (As := As) (rest := st) (mc := 0) (ms := 0) ⟨h.1, h.2.1, h.2.2.1, h.2.2.2.1, h.2.2.2.2.1⟩ (hM r0 σ0 ef H.size) ⟨callB_of n h.2.2.2.2.1 hG hw hrm.1 hrm.2 (h.2.2.2.2.1 _ hw3) (h.2.2.2.2.1 _ hw1) hdd (by rw [hRe]; exact hR), h.2.2.2.2.1 _ hw2⟩ ⟨jx_blind, fun U hU hW => ⟨rfl, by rw [hU], by rw [hU]; exact hP, va_K.moved hW.alike h.2.2.2.2.2.1, hD.weaken (fun _ _ _ _ => trivial)⟩⟩ rfl hn hl.1 hst (lv_room hroom) hd (by rw [hRe]; exact hcs)) hS (fun q _ z => hF q z) hF (fun r u t H1 locs1 ht hvm hw hB hz1 hk1 hS => ?_)
  obtain ⟨rfl, rfl⟩ := hw
  obtain ⟨hP1, hK1, hD1⟩ := hB
  rw [ht] at hP1
  exact k _ _ _ _ eg H1 locs1 ls hP1 (hD1.weaken (fun _ q _ z => hF q.1 z)) hS hl
theorem J_callTl (h : jx_ok K D cl tys A nL cc own Ts rm rt) {y : MethodName} {ws ws' : List Cond} {bytes : ByteArray} {maxL index n : Nat} {ret : Option FieldType} {rmc : Room} {As st0 : List Value} {f : Option (Int64 × St)} {g : Int64 → St → Option (ρ × St)} (hM : ∀ r σ', f = some (r, σ') → MetL (jl K) y ws rmc D cl tys w As σ r σ')
    (hG : GoodIn Ts ws) (hw1 : Cond.methodLink own index y ∈ Ts) (hw2 : Cond.static y ∈ Ts) (hw3 : Cond.initialized y.cls ∈ Ts) (hw : ws = Cond.code y bytes maxL ret :: ws') (hrm : rmc.cells = 0 ∧ rmc.slots = 0) (hdd : y.cls ≠ "java/lang/invoke/MethodHandle" ∧ y.cls ≠ "java/lang/invoke/VarHandle" ∧ (parseMethodDescriptor y.desc).map (fun d => d.parameters.length) = some n) (hR : rmc.frames + 1 ≤ rm.frames ∧ 8 + (maxL + 11) + rmc.locals ≤ rm.locals)
    (hn : As.length = n) (hst : st0 = As.reverse ++ st) (hroom : (st.map fun v => v.category).sum ≤ 8) (hcs : cs ≤ rm.cells ∧ sl ≤ rm.slots) (hd : decode cc pc = .ok (.invokestatic index, 3))
    (k : ∀ (r : Int64) (σ1 : St), J K D cl A nL w Q cs sl (pc + 3) lv (.long r :: st) σ1 (g r σ1)) : J K D cl A nL w Q cs sl pc lv st0 σ (bd f g) := by
  intro r1 σ9 e1 H locs ls hP hD hS hl
  obtain ⟨r0, σ0, ef, eg⟩ := bd_some e1
  have hF := jx_free hD hS h.2.2.2.2.2.2.1
  have hRe := h.2.2.2.2.2.2.2.2.1
  refine va_calll (va_runS (As := As) (rest := st) (mc := 0) (ms := 0) ⟨h.1, h.2.1, h.2.2.1, h.2.2.2.1, h.2.2.2.2.1⟩ (hM r0 σ0 ef H.size) ⟨callB_of n h.2.2.2.2.1 hG hw hrm.1 hrm.2 (h.2.2.2.2.1 _ hw3) (h.2.2.2.2.1 _ hw1) hdd (by rw [hRe]; exact hR), h.2.2.2.2.1 _ hw2⟩ ⟨jx_blind, fun U hU hW => ⟨rfl, by rw [hU], by rw [hU]; exact hP, va_K.moved hW.alike h.2.2.2.2.2.1, hD.weaken (fun _ _ _ _ => trivial)⟩⟩ rfl hn hl.1 hst (lv_room hroom) hd (by rw [hRe]; exact hcs)) hS (fun q _ z => hF q z) hF (fun r u t H1 locs1 ht hvm hw hB hz1 hk1 hS => ?_)
  obtain ⟨rfl, rfl⟩ := hw
  obtain ⟨hP1, hK1, hD1⟩ := hB
  rw [ht] at hP1
  exact k _ _ _ _ eg H1 locs1 ls hP1 (hD1.weaken (fun _ q _ z => hF q.1 z)) hS hl
theorem J_callTv (h : jx_ok K D cl tys A nL cc own Ts rm rt) {y : MethodName} {ws ws' : List Cond} {bytes : ByteArray} {maxL index n : Nat} {ret : Option FieldType} {rmc : Room} {As st0 : List Value} {f : Option (Unit × St)} {g : Unit → St → Option (ρ × St)} (hM : ∀ r σ', f = some (r, σ') → MetV (jl K) y ws rmc D cl tys w As σ r σ')
    (hG : GoodIn Ts ws) (hw1 : Cond.methodLink own index y ∈ Ts) (hw2 : Cond.static y ∈ Ts) (hw3 : Cond.initialized y.cls ∈ Ts) (hw : ws = Cond.code y bytes maxL ret :: ws') (hrm : rmc.cells = 0 ∧ rmc.slots = 0) (hdd : y.cls ≠ "java/lang/invoke/MethodHandle" ∧ y.cls ≠ "java/lang/invoke/VarHandle" ∧ (parseMethodDescriptor y.desc).map (fun d => d.parameters.length) = some n) (hR : rmc.frames + 1 ≤ rm.frames ∧ 8 + (maxL + 11) + rmc.locals ≤ rm.locals)
    (hn : As.length = n) (hst : st0 = As.reverse ++ st) (hroom : (st.map fun v => v.category).sum ≤ 8) (hcs : cs ≤ rm.cells ∧ sl ≤ rm.slots) (hd : decode cc pc = .ok (.invokestatic index, 3))
    (k : ∀ (r : Unit) (σ1 : St), J K D cl A nL w Q cs sl (pc + 3) lv (st) σ1 (g r σ1)) : J K D cl A nL w Q cs sl pc lv st0 σ (bd f g) := by
  intro r1 σ9 e1 H locs ls hP hD hS hl
  obtain ⟨r0, σ0, ef, eg⟩ := bd_some e1
  have hF := jx_free hD hS h.2.2.2.2.2.2.1
  have hRe := h.2.2.2.2.2.2.2.2.1
  refine va_callv (va_runS (As := As) (rest := st) (mc := 0) (ms := 0) ⟨h.1, h.2.1, h.2.2.1, h.2.2.2.1, h.2.2.2.2.1⟩ (hM r0 σ0 ef H.size) ⟨callB_of n h.2.2.2.2.1 hG hw hrm.1 hrm.2 (h.2.2.2.2.1 _ hw3) (h.2.2.2.2.1 _ hw1) hdd (by rw [hRe]; exact hR), h.2.2.2.2.1 _ hw2⟩ ⟨jx_blind, fun U hU hW => ⟨rfl, by rw [hU], by rw [hU]; exact hP, va_K.moved hW.alike h.2.2.2.2.2.1, hD.weaken (fun _ _ _ _ => trivial)⟩⟩ rfl hn hl.1 hst (lv_room hroom) hd (by rw [hRe]; exact hcs)) hS (fun q _ z => hF q z) hF (fun u t H1 locs1 ht hvm hw hB hz1 hk1 hS => ?_)
  subst hw
  obtain ⟨hP1, hK1, hD1⟩ := hB
  rw [ht] at hP1
  exact k _ _ _ _ eg H1 locs1 ls hP1 (hD1.weaken (fun _ q _ z => hF q.1 z)) hS hl
end JMC
def tblG : List Cond := lw_tbl.filter goodWord
theorem tb_all : tblG.all goodWord = true := List.all_eq_true.mpr (fun _ h => (List.mem_filter.mp h).2)
theorem tb_lw {w : Cond} (h : w ∈ tblG) : w ∈ lw_tbl := (List.mem_filter.mp h).1
theorem tb_s {w : Cond} (i : Nat) (h : (k2_sels lw_privs)[i]? = some w) (g : goodWord w = true) : w ∈ tblG := List.mem_filter.mpr ⟨List.mem_append_left _ (List.mem_of_getElem? h), g⟩
theorem tb_1 {w : Cond} (i : Nat) (h : tables_1_1[i]? = some w) (g : goodWord w = true) : w ∈ tblG := List.mem_filter.mpr ⟨List.mem_append_right _ (List.mem_append_left _ (List.mem_of_getElem? h)), g⟩
theorem tb_2 {w : Cond} (i : Nat) (h : tables_1_2[i]? = some w) (g : goodWord w = true) : w ∈ tblG := List.mem_filter.mpr ⟨List.mem_append_right _ (List.mem_append_right _ (List.mem_append_left _ (List.mem_of_getElem? h))), g⟩
theorem tb_3 {w : Cond} (i : Nat) (h : tables_1_3[i]? = some w) (g : goodWord w = true) : w ∈ tblG := List.mem_filter.mpr ⟨List.mem_append_right _ (List.mem_append_right _ (List.mem_append_right _ (List.mem_append_left _ (List.mem_of_getElem? h)))), g⟩
theorem tb_4 {w : Cond} (i : Nat) (h : tables_1_4[i]? = some w) (g : goodWord w = true) : w ∈ tblG := List.mem_filter.mpr ⟨List.mem_append_right _ (List.mem_append_right _ (List.mem_append_right _ (List.mem_append_right _ (List.mem_append_left _ (List.mem_of_getElem? h))))), g⟩
theorem tb_5 {w : Cond} (i : Nat) (h : tables_1_5[i]? = some w) (g : goodWord w = true) : w ∈ tblG := List.mem_filter.mpr ⟨List.mem_append_right _ (List.mem_append_right _ (List.mem_append_right _ (List.mem_append_right _ (List.mem_append_right _ (List.mem_append_left _ (List.mem_of_getElem? h)))))), g⟩
theorem tb_6 {w : Cond} (i : Nat) (h : tables_1_6[i]? = some w) (g : goodWord w = true) : w ∈ tblG := List.mem_filter.mpr ⟨List.mem_append_right _ (List.mem_append_right _ (List.mem_append_right _ (List.mem_append_right _ (List.mem_append_right _ (List.mem_append_right _ (List.mem_of_getElem? h)))))), g⟩
theorem gd_all {cm c : Cond} (hc : c ∈ tblG) : GoodIn (cm :: tblG) (c :: tblG) := by
  intro w hw
  have hm : w ∈ tblG := by
    rcases List.mem_cons.mp hw with rfl | h
    · exact hc
    · exact h
  exact ⟨List.mem_cons_of_mem _ hm, good_of_word (List.all_eq_true.mp tb_all w hm)⟩
theorem gd_V {cm : Cond} {own C : String} {idx n : Nat} {y : MethodName} {b : ByteArray} {r : Option FieldType} (h1 : Cond.methodLink own idx y ∈ tblG) (h2 : Cond.instanceMethod y ∈ tblG) (h3 : Cond.selects C y y ∈ tblG) (h4 : Cond.initialized C ∈ tblG) (h5 : Cond.code y b n r ∈ tblG) : GoodIn (cm :: tblG) (wsV own idx C y (Cond.code y b n r :: tblG)) := by
  intro w hw
  have hm : w ∈ tblG := by
    rcases List.mem_append.mp hw with h | h
    · simp only [List.mem_cons, List.not_mem_nil, or_false] at h
      rcases h with rfl | rfl | rfl | rfl
      · exact h1
      · exact h2
      · exact h3
      · exact h4
    · rcases List.mem_cons.mp h with rfl | h
      · exact h5
      · exact h
  exact ⟨List.mem_cons_of_mem _ hm, good_of_word (List.all_eq_true.mp tb_all w hm)⟩
theorem tb_up {cm w : Cond} (h : w ∈ tblG) : w ∈ cm :: tblG := List.mem_cons_of_mem _ h
theorem tb_ups {cm : Cond} {us : List Cond} (h : ∀ x ∈ us, x ∈ tblG) : ∀ x ∈ us, x ∈ cm :: tblG := fun x hx => List.mem_cons_of_mem _ (h x hx)
end
section
/-! names: the classes' fields, the methods -/
def T_Bounds : u_T := fun k => match k with
  | 0 => ("InferReduce$Bounds", "sort", "[I", true)
  | 1 => ("InferReduce$Bounds", "variable", "[I", true)
  | 2 => ("InferReduce$Bounds", "type", "[I", true)
  | 3 => ("InferReduce$Bounds", "origin", "[I", true)
  | _ => ("InferReduce$Bounds", "size", "I", false)
def ft_Bounds : Nat → FieldType := fun k => match k with
  | 0 => .array .int
  | 1 => .array .int
  | 2 => .array .int
  | 3 => .array .int
  | _ => .int
theorem nm_Bounds : ∀ a, a < 5 → ∀ b, b < 5 → a ≠ b → (T_Bounds a).2.1 ≠ (T_Bounds b).2.1 := by decide +kernel
theorem ft_Bounds_ok : ∀ k, k < 5 → parseFieldDescriptor (T_Bounds k).2.2.1 = some (ft_Bounds k) := by decide +kernel
theorem in_Bounds_0 : u_lay "InferReduce$Bounds" T_Bounds 0 ∈ tblG := tb_1 110 rfl rfl
theorem in_Bounds_1 : u_lay "InferReduce$Bounds" T_Bounds 1 ∈ tblG := tb_1 112 rfl rfl
theorem in_Bounds_2 : u_lay "InferReduce$Bounds" T_Bounds 2 ∈ tblG := tb_1 114 rfl rfl
theorem in_Bounds_3 : u_lay "InferReduce$Bounds" T_Bounds 3 ∈ tblG := tb_1 116 rfl rfl
theorem in_Bounds_4 : u_lay "InferReduce$Bounds" T_Bounds 4 ∈ tblG := tb_1 118 rfl rfl
theorem in_Bounds : ∀ x ∈ u_ws "InferReduce$Bounds" T_Bounds 5, x ∈ tblG := by
  intro x hx
  obtain ⟨k, hk, rfl⟩ := List.mem_map.mp hx
  have hk := List.mem_range.mp hk
  match k, hk with
  | 0, _ => exact in_Bounds_0
  | 1, _ => exact in_Bounds_1
  | 2, _ => exact in_Bounds_2
  | 3, _ => exact in_Bounds_3
  | 4, _ => exact in_Bounds_4
  | k + 5, h => exact absurd h (by omega)
def T_Classes : u_T := fun k => match k with
  | 0 => ("InferReduce$Classes", "parameters", "[I", true)
  | 1 => ("InferReduce$Classes", "parentCount", "[I", true)
  | 2 => ("InferReduce$Classes", "parentType", "[I", true)
  | 3 => ("InferReduce$Classes", "parentClass", "[I", true)
  | 4 => ("InferReduce$Classes", "reach", "[J", true)
  | _ => ("InferReduce$Classes", "size", "I", false)
def ft_Classes : Nat → FieldType := fun k => match k with
  | 0 => .array .int
  | 1 => .array .int
  | 2 => .array .int
  | 3 => .array .int
  | 4 => .array .long
  | _ => .int
theorem nm_Classes : ∀ a, a < 6 → ∀ b, b < 6 → a ≠ b → (T_Classes a).2.1 ≠ (T_Classes b).2.1 := by decide +kernel
theorem ft_Classes_ok : ∀ k, k < 6 → parseFieldDescriptor (T_Classes k).2.2.1 = some (ft_Classes k) := by decide +kernel
theorem in_Classes_0 : u_lay "InferReduce$Classes" T_Classes 0 ∈ tblG := tb_1 37 rfl rfl
theorem in_Classes_1 : u_lay "InferReduce$Classes" T_Classes 1 ∈ tblG := tb_1 39 rfl rfl
theorem in_Classes_2 : u_lay "InferReduce$Classes" T_Classes 2 ∈ tblG := tb_1 41 rfl rfl
theorem in_Classes_3 : u_lay "InferReduce$Classes" T_Classes 3 ∈ tblG := tb_1 43 rfl rfl
theorem in_Classes_4 : u_lay "InferReduce$Classes" T_Classes 4 ∈ tblG := tb_1 45 rfl rfl
theorem in_Classes_5 : u_lay "InferReduce$Classes" T_Classes 5 ∈ tblG := tb_1 47 rfl rfl
theorem in_Classes : ∀ x ∈ u_ws "InferReduce$Classes" T_Classes 6, x ∈ tblG := by
  intro x hx
  obtain ⟨k, hk, rfl⟩ := List.mem_map.mp hx
  have hk := List.mem_range.mp hk
  match k, hk with
  | 0, _ => exact in_Classes_0
  | 1, _ => exact in_Classes_1
  | 2, _ => exact in_Classes_2
  | 3, _ => exact in_Classes_3
  | 4, _ => exact in_Classes_4
  | 5, _ => exact in_Classes_5
  | k + 6, h => exact absurd h (by omega)
def T_Exchange : u_T := fun k => match k with
  | 0 => ("InferReduce$Exchange", "types", "LInferReduce$Types;", true)
  | 1 => ("InferReduce$Exchange", "instead", "[I", true)
  | 2 => ("InferReduce$Exchange", "done", "[I", true)
  | 3 => ("InferReduce$Exchange", "doneAt", "[I", true)
  | 4 => ("InferReduce$Exchange", "stamp", "I", false)
  | 5 => ("InferReduce$Exchange", "variables", "I", false)
  | _ => ("InferReduce$Exchange", "owner", "I", false)
def ft_Exchange : Nat → FieldType := fun k => match k with
  | 0 => .object "InferReduce$Types"
  | 1 => .array .int
  | 2 => .array .int
  | 3 => .array .int
  | 4 => .int
  | 5 => .int
  | _ => .int
theorem nm_Exchange : ∀ a, a < 7 → ∀ b, b < 7 → a ≠ b → (T_Exchange a).2.1 ≠ (T_Exchange b).2.1 := by decide +kernel
theorem ft_Exchange_ok : ∀ k, k < 7 → parseFieldDescriptor (T_Exchange k).2.2.1 = some (ft_Exchange k) := by decide +kernel
theorem in_Exchange_0 : u_lay "InferReduce$Exchange" T_Exchange 0 ∈ tblG := tb_1 134 rfl rfl
theorem in_Exchange_1 : u_lay "InferReduce$Exchange" T_Exchange 1 ∈ tblG := tb_1 136 rfl rfl
theorem in_Exchange_2 : u_lay "InferReduce$Exchange" T_Exchange 2 ∈ tblG := tb_1 138 rfl rfl
theorem in_Exchange_3 : u_lay "InferReduce$Exchange" T_Exchange 3 ∈ tblG := tb_1 140 rfl rfl
theorem in_Exchange_4 : u_lay "InferReduce$Exchange" T_Exchange 4 ∈ tblG := tb_1 142 rfl rfl
theorem in_Exchange_5 : u_lay "InferReduce$Exchange" T_Exchange 5 ∈ tblG := tb_1 144 rfl rfl
theorem in_Exchange_6 : u_lay "InferReduce$Exchange" T_Exchange 6 ∈ tblG := tb_1 146 rfl rfl
theorem in_Exchange : ∀ x ∈ u_ws "InferReduce$Exchange" T_Exchange 7, x ∈ tblG := by
  intro x hx
  obtain ⟨k, hk, rfl⟩ := List.mem_map.mp hx
  have hk := List.mem_range.mp hk
  match k, hk with
  | 0, _ => exact in_Exchange_0
  | 1, _ => exact in_Exchange_1
  | 2, _ => exact in_Exchange_2
  | 3, _ => exact in_Exchange_3
  | 4, _ => exact in_Exchange_4
  | 5, _ => exact in_Exchange_5
  | 6, _ => exact in_Exchange_6
  | k + 7, h => exact absurd h (by omega)
def T_Holder : u_T := fun k => match k with
  | 0 => ("InferReduce$Holder", "classes", "LInferReduce$Classes;", true)
  | 1 => ("InferReduce$Holder", "types", "LInferReduce$Types;", true)
  | 2 => ("InferReduce$Holder", "bounds", "LInferReduce$Bounds;", true)
  | 3 => ("InferReduce$Holder", "exchange", "LInferReduce$Exchange;", true)
  | 4 => ("InferReduce$Holder", "reducer", "LInferReduce$Reducer;", true)
  | 5 => ("InferReduce$Holder", "variableTypes", "[I", true)
  | _ => ("InferReduce$Holder", "held", "I", false)
def ft_Holder : Nat → FieldType := fun k => match k with
  | 0 => .object "InferReduce$Classes"
  | 1 => .object "InferReduce$Types"
  | 2 => .object "InferReduce$Bounds"
  | 3 => .object "InferReduce$Exchange"
  | 4 => .object "InferReduce$Reducer"
  | 5 => .array .int
  | _ => .int
theorem nm_Holder : ∀ a, a < 7 → ∀ b, b < 7 → a ≠ b → (T_Holder a).2.1 ≠ (T_Holder b).2.1 := by decide +kernel
theorem ft_Holder_ok : ∀ k, k < 7 → parseFieldDescriptor (T_Holder k).2.2.1 = some (ft_Holder k) := by decide +kernel
theorem in_Holder_0 : u_lay "InferReduce$Holder" T_Holder 0 ∈ tblG := tb_1 239 rfl rfl
theorem in_Holder_1 : u_lay "InferReduce$Holder" T_Holder 1 ∈ tblG := tb_2 1 rfl rfl
theorem in_Holder_2 : u_lay "InferReduce$Holder" T_Holder 2 ∈ tblG := tb_2 3 rfl rfl
theorem in_Holder_3 : u_lay "InferReduce$Holder" T_Holder 3 ∈ tblG := tb_2 5 rfl rfl
theorem in_Holder_4 : u_lay "InferReduce$Holder" T_Holder 4 ∈ tblG := tb_2 7 rfl rfl
theorem in_Holder_5 : u_lay "InferReduce$Holder" T_Holder 5 ∈ tblG := tb_2 9 rfl rfl
theorem in_Holder_6 : u_lay "InferReduce$Holder" T_Holder 6 ∈ tblG := tb_2 11 rfl rfl
theorem in_Holder : ∀ x ∈ u_ws "InferReduce$Holder" T_Holder 7, x ∈ tblG := by
  intro x hx
  obtain ⟨k, hk, rfl⟩ := List.mem_map.mp hx
  have hk := List.mem_range.mp hk
  match k, hk with
  | 0, _ => exact in_Holder_0
  | 1, _ => exact in_Holder_1
  | 2, _ => exact in_Holder_2
  | 3, _ => exact in_Holder_3
  | 4, _ => exact in_Holder_4
  | 5, _ => exact in_Holder_5
  | 6, _ => exact in_Holder_6
  | k + 7, h => exact absurd h (by omega)
def T_Reducer : u_T := fun k => match k with
  | 0 => ("InferReduce$Reducer", "classes", "LInferReduce$Classes;", true)
  | 1 => ("InferReduce$Reducer", "types", "LInferReduce$Types;", true)
  | 2 => ("InferReduce$Reducer", "bounds", "LInferReduce$Bounds;", true)
  | 3 => ("InferReduce$Reducer", "exchange", "LInferReduce$Exchange;", true)
  | 4 => ("InferReduce$Reducer", "work", "LInferReduce$Work;", true)
  | 5 => ("InferReduce$Reducer", "made", "I", false)
  | 6 => ("InferReduce$Reducer", "madeInCall", "I", false)
  | 7 => ("InferReduce$Reducer", "origin", "I", false)
  | _ => ("InferReduce$Reducer", "sawUnchecked", "Z", false)
def ft_Reducer : Nat → FieldType := fun k => match k with
  | 0 => .object "InferReduce$Classes"
  | 1 => .object "InferReduce$Types"
  | 2 => .object "InferReduce$Bounds"
  | 3 => .object "InferReduce$Exchange"
  | 4 => .object "InferReduce$Work"
  | 5 => .int
  | 6 => .int
  | 7 => .int
  | _ => .boolean
theorem nm_Reducer : ∀ a, a < 9 → ∀ b, b < 9 → a ≠ b → (T_Reducer a).2.1 ≠ (T_Reducer b).2.1 := by decide +kernel
theorem ft_Reducer_ok : ∀ k, k < 9 → parseFieldDescriptor (T_Reducer k).2.2.1 = some (ft_Reducer k) := by decide +kernel
theorem in_Reducer_0 : u_lay "InferReduce$Reducer" T_Reducer 0 ∈ tblG := tb_1 206 rfl rfl
theorem in_Reducer_1 : u_lay "InferReduce$Reducer" T_Reducer 1 ∈ tblG := tb_1 208 rfl rfl
theorem in_Reducer_2 : u_lay "InferReduce$Reducer" T_Reducer 2 ∈ tblG := tb_1 210 rfl rfl
theorem in_Reducer_3 : u_lay "InferReduce$Reducer" T_Reducer 3 ∈ tblG := tb_1 212 rfl rfl
theorem in_Reducer_4 : u_lay "InferReduce$Reducer" T_Reducer 4 ∈ tblG := tb_1 214 rfl rfl
theorem in_Reducer_5 : u_lay "InferReduce$Reducer" T_Reducer 5 ∈ tblG := tb_1 216 rfl rfl
theorem in_Reducer_6 : u_lay "InferReduce$Reducer" T_Reducer 6 ∈ tblG := tb_1 218 rfl rfl
theorem in_Reducer_7 : u_lay "InferReduce$Reducer" T_Reducer 7 ∈ tblG := tb_1 220 rfl rfl
theorem in_Reducer_8 : u_lay "InferReduce$Reducer" T_Reducer 8 ∈ tblG := tb_1 222 rfl rfl
theorem in_Reducer : ∀ x ∈ u_ws "InferReduce$Reducer" T_Reducer 9, x ∈ tblG := by
  intro x hx
  obtain ⟨k, hk, rfl⟩ := List.mem_map.mp hx
  have hk := List.mem_range.mp hk
  match k, hk with
  | 0, _ => exact in_Reducer_0
  | 1, _ => exact in_Reducer_1
  | 2, _ => exact in_Reducer_2
  | 3, _ => exact in_Reducer_3
  | 4, _ => exact in_Reducer_4
  | 5, _ => exact in_Reducer_5
  | 6, _ => exact in_Reducer_6
  | 7, _ => exact in_Reducer_7
  | 8, _ => exact in_Reducer_8
  | k + 9, h => exact absurd h (by omega)
def T_Resolver : u_T := fun k => match k with
  | 0 => ("InferReduce$Resolver", "classes", "LInferReduce$Classes;", true)
  | 1 => ("InferReduce$Resolver", "types", "LInferReduce$Types;", true)
  | 2 => ("InferReduce$Resolver", "bounds", "LInferReduce$Bounds;", true)
  | 3 => ("InferReduce$Resolver", "reducer", "LInferReduce$Reducer;", true)
  | 4 => ("InferReduce$Resolver", "near", "[I", true)
  | 5 => ("InferReduce$Resolver", "nearSize", "I", false)
  | 6 => ("InferReduce$Resolver", "links", "[I", true)
  | _ => ("InferReduce$Resolver", "choices", "[I", true)
def ft_Resolver : Nat → FieldType := fun k => match k with
  | 0 => .object "InferReduce$Classes"
  | 1 => .object "InferReduce$Types"
  | 2 => .object "InferReduce$Bounds"
  | 3 => .object "InferReduce$Reducer"
  | 4 => .array .int
  | 5 => .int
  | 6 => .array .int
  | _ => .array .int
theorem nm_Resolver : ∀ a, a < 8 → ∀ b, b < 8 → a ≠ b → (T_Resolver a).2.1 ≠ (T_Resolver b).2.1 := by decide +kernel
theorem ft_Resolver_ok : ∀ k, k < 8 → parseFieldDescriptor (T_Resolver k).2.2.1 = some (ft_Resolver k) := by decide +kernel
theorem in_Resolver_0 : u_lay "InferReduce$Resolver" T_Resolver 0 ∈ tblG := tb_2 28 rfl rfl
theorem in_Resolver_1 : u_lay "InferReduce$Resolver" T_Resolver 1 ∈ tblG := tb_2 30 rfl rfl
theorem in_Resolver_2 : u_lay "InferReduce$Resolver" T_Resolver 2 ∈ tblG := tb_2 32 rfl rfl
theorem in_Resolver_3 : u_lay "InferReduce$Resolver" T_Resolver 3 ∈ tblG := tb_2 34 rfl rfl
theorem in_Resolver_4 : u_lay "InferReduce$Resolver" T_Resolver 4 ∈ tblG := tb_2 36 rfl rfl
theorem in_Resolver_5 : u_lay "InferReduce$Resolver" T_Resolver 5 ∈ tblG := tb_2 38 rfl rfl
theorem in_Resolver_6 : u_lay "InferReduce$Resolver" T_Resolver 6 ∈ tblG := tb_2 40 rfl rfl
theorem in_Resolver_7 : u_lay "InferReduce$Resolver" T_Resolver 7 ∈ tblG := tb_2 42 rfl rfl
theorem in_Resolver : ∀ x ∈ u_ws "InferReduce$Resolver" T_Resolver 8, x ∈ tblG := by
  intro x hx
  obtain ⟨k, hk, rfl⟩ := List.mem_map.mp hx
  have hk := List.mem_range.mp hk
  match k, hk with
  | 0, _ => exact in_Resolver_0
  | 1, _ => exact in_Resolver_1
  | 2, _ => exact in_Resolver_2
  | 3, _ => exact in_Resolver_3
  | 4, _ => exact in_Resolver_4
  | 5, _ => exact in_Resolver_5
  | 6, _ => exact in_Resolver_6
  | 7, _ => exact in_Resolver_7
  | k + 8, h => exact absurd h (by omega)
def T_Told : u_T := fun k => match k with
  | 0 => ("InferReduce$Told", "sort", "[I", true)
  | 1 => ("InferReduce$Told", "left", "[I", true)
  | 2 => ("InferReduce$Told", "right", "[I", true)
  | 3 => ("InferReduce$Told", "loose", "[Z", true)
  | _ => ("InferReduce$Told", "size", "I", false)
def ft_Told : Nat → FieldType := fun k => match k with
  | 0 => .array .int
  | 1 => .array .int
  | 2 => .array .int
  | 3 => .array .boolean
  | _ => .int
theorem nm_Told : ∀ a, a < 5 → ∀ b, b < 5 → a ≠ b → (T_Told a).2.1 ≠ (T_Told b).2.1 := by decide +kernel
theorem ft_Told_ok : ∀ k, k < 5 → parseFieldDescriptor (T_Told k).2.2.1 = some (ft_Told k) := by decide +kernel
theorem in_Told_0 : u_lay "InferReduce$Told" T_Told 0 ∈ tblG := tb_2 57 rfl rfl
theorem in_Told_1 : u_lay "InferReduce$Told" T_Told 1 ∈ tblG := tb_2 59 rfl rfl
theorem in_Told_2 : u_lay "InferReduce$Told" T_Told 2 ∈ tblG := tb_2 61 rfl rfl
theorem in_Told_3 : u_lay "InferReduce$Told" T_Told 3 ∈ tblG := tb_2 63 rfl rfl
theorem in_Told_4 : u_lay "InferReduce$Told" T_Told 4 ∈ tblG := tb_2 65 rfl rfl
theorem in_Told : ∀ x ∈ u_ws "InferReduce$Told" T_Told 5, x ∈ tblG := by
  intro x hx
  obtain ⟨k, hk, rfl⟩ := List.mem_map.mp hx
  have hk := List.mem_range.mp hk
  match k, hk with
  | 0, _ => exact in_Told_0
  | 1, _ => exact in_Told_1
  | 2, _ => exact in_Told_2
  | 3, _ => exact in_Told_3
  | 4, _ => exact in_Told_4
  | k + 5, h => exact absurd h (by omega)
def T_Types : u_T := fun k => match k with
  | 0 => ("InferReduce$Types", "kind", "[I", true)
  | 1 => ("InferReduce$Types", "first", "[I", true)
  | 2 => ("InferReduce$Types", "second", "[I", true)
  | 3 => ("InferReduce$Types", "third", "[I", true)
  | 4 => ("InferReduce$Types", "depth", "[I", true)
  | 5 => ("InferReduce$Types", "variables", "[I", true)
  | 6 => ("InferReduce$Types", "owners", "[J", true)
  | 7 => ("InferReduce$Types", "named", "[J", true)
  | 8 => ("InferReduce$Types", "chainFirst", "[I", true)
  | 9 => ("InferReduce$Types", "chainNext", "[I", true)
  | _ => ("InferReduce$Types", "size", "I", false)
def ft_Types : Nat → FieldType := fun k => match k with
  | 0 => .array .int
  | 1 => .array .int
  | 2 => .array .int
  | 3 => .array .int
  | 4 => .array .int
  | 5 => .array .int
  | 6 => .array .long
  | 7 => .array .long
  | 8 => .array .int
  | 9 => .array .int
  | _ => .int
theorem nm_Types : ∀ a, a < 11 → ∀ b, b < 11 → a ≠ b → (T_Types a).2.1 ≠ (T_Types b).2.1 := by decide +kernel
theorem ft_Types_ok : ∀ k, k < 11 → parseFieldDescriptor (T_Types k).2.2.1 = some (ft_Types k) := by decide +kernel
theorem in_Types_0 : u_lay "InferReduce$Types" T_Types 0 ∈ tblG := tb_1 73 rfl rfl
theorem in_Types_1 : u_lay "InferReduce$Types" T_Types 1 ∈ tblG := tb_1 75 rfl rfl
theorem in_Types_2 : u_lay "InferReduce$Types" T_Types 2 ∈ tblG := tb_1 77 rfl rfl
theorem in_Types_3 : u_lay "InferReduce$Types" T_Types 3 ∈ tblG := tb_1 79 rfl rfl
theorem in_Types_4 : u_lay "InferReduce$Types" T_Types 4 ∈ tblG := tb_1 81 rfl rfl
theorem in_Types_5 : u_lay "InferReduce$Types" T_Types 5 ∈ tblG := tb_1 83 rfl rfl
theorem in_Types_6 : u_lay "InferReduce$Types" T_Types 6 ∈ tblG := tb_1 85 rfl rfl
theorem in_Types_7 : u_lay "InferReduce$Types" T_Types 7 ∈ tblG := tb_1 87 rfl rfl
theorem in_Types_8 : u_lay "InferReduce$Types" T_Types 8 ∈ tblG := tb_1 89 rfl rfl
theorem in_Types_9 : u_lay "InferReduce$Types" T_Types 9 ∈ tblG := tb_1 91 rfl rfl
theorem in_Types_10 : u_lay "InferReduce$Types" T_Types 10 ∈ tblG := tb_1 93 rfl rfl
theorem in_Types : ∀ x ∈ u_ws "InferReduce$Types" T_Types 11, x ∈ tblG := by
  intro x hx
  obtain ⟨k, hk, rfl⟩ := List.mem_map.mp hx
  have hk := List.mem_range.mp hk
  match k, hk with
  | 0, _ => exact in_Types_0
  | 1, _ => exact in_Types_1
  | 2, _ => exact in_Types_2
  | 3, _ => exact in_Types_3
  | 4, _ => exact in_Types_4
  | 5, _ => exact in_Types_5
  | 6, _ => exact in_Types_6
  | 7, _ => exact in_Types_7
  | 8, _ => exact in_Types_8
  | 9, _ => exact in_Types_9
  | 10, _ => exact in_Types_10
  | k + 11, h => exact absurd h (by omega)
def T_Work : u_T := fun k => match k with
  | 0 => ("InferReduce$Work", "sorts", "[I", true)
  | 1 => ("InferReduce$Work", "lefts", "[I", true)
  | 2 => ("InferReduce$Work", "rights", "[I", true)
  | 3 => ("InferReduce$Work", "levels", "[I", true)
  | 4 => ("InferReduce$Work", "size", "I", false)
  | 5 => ("InferReduce$Work", "sort", "I", false)
  | 6 => ("InferReduce$Work", "left", "I", false)
  | 7 => ("InferReduce$Work", "right", "I", false)
  | _ => ("InferReduce$Work", "level", "I", false)
def ft_Work : Nat → FieldType := fun k => match k with
  | 0 => .array .int
  | 1 => .array .int
  | 2 => .array .int
  | 3 => .array .int
  | 4 => .int
  | 5 => .int
  | 6 => .int
  | 7 => .int
  | _ => .int
theorem nm_Work : ∀ a, a < 9 → ∀ b, b < 9 → a ≠ b → (T_Work a).2.1 ≠ (T_Work b).2.1 := by decide +kernel
theorem ft_Work_ok : ∀ k, k < 9 → parseFieldDescriptor (T_Work k).2.2.1 = some (ft_Work k) := by decide +kernel
theorem in_Work_0 : u_lay "InferReduce$Work" T_Work 0 ∈ tblG := tb_1 175 rfl rfl
theorem in_Work_1 : u_lay "InferReduce$Work" T_Work 1 ∈ tblG := tb_1 177 rfl rfl
theorem in_Work_2 : u_lay "InferReduce$Work" T_Work 2 ∈ tblG := tb_1 179 rfl rfl
theorem in_Work_3 : u_lay "InferReduce$Work" T_Work 3 ∈ tblG := tb_1 181 rfl rfl
theorem in_Work_4 : u_lay "InferReduce$Work" T_Work 4 ∈ tblG := tb_1 183 rfl rfl
theorem in_Work_5 : u_lay "InferReduce$Work" T_Work 5 ∈ tblG := tb_1 185 rfl rfl
theorem in_Work_6 : u_lay "InferReduce$Work" T_Work 6 ∈ tblG := tb_1 187 rfl rfl
theorem in_Work_7 : u_lay "InferReduce$Work" T_Work 7 ∈ tblG := tb_1 189 rfl rfl
theorem in_Work_8 : u_lay "InferReduce$Work" T_Work 8 ∈ tblG := tb_1 191 rfl rfl
theorem in_Work : ∀ x ∈ u_ws "InferReduce$Work" T_Work 9, x ∈ tblG := by
  intro x hx
  obtain ⟨k, hk, rfl⟩ := List.mem_map.mp hx
  have hk := List.mem_range.mp hk
  match k, hk with
  | 0, _ => exact in_Work_0
  | 1, _ => exact in_Work_1
  | 2, _ => exact in_Work_2
  | 3, _ => exact in_Work_3
  | 4, _ => exact in_Work_4
  | 5, _ => exact in_Work_5
  | 6, _ => exact in_Work_6
  | 7, _ => exact in_Work_7
  | 8, _ => exact in_Work_8
  | k + 9, h => exact absurd h (by omega)
def T_I : u_T := fun k => match k with
  | 0 => ("InferReduce", "classes", "LInferReduce$Classes;", true)
  | 1 => ("InferReduce", "types", "LInferReduce$Types;", true)
  | 2 => ("InferReduce", "bounds", "LInferReduce$Bounds;", true)
  | 3 => ("InferReduce", "reducer", "LInferReduce$Reducer;", true)
  | 4 => ("InferReduce", "holder", "LInferReduce$Holder;", true)
  | 5 => ("InferReduce", "resolver", "LInferReduce$Resolver;", true)
  | 6 => ("InferReduce", "told", "LInferReduce$Told;", true)
  | 7 => ("InferReduce", "variableTypes", "[I", true)
  | 8 => ("InferReduce", "variables", "I", false)
  | 9 => ("InferReduce", "state", "I", false)
  | _ => ("InferReduce", "stateAt", "I", false)
def ft_I : Nat → FieldType := fun k => match k with
  | 0 => .object "InferReduce$Classes"
  | 1 => .object "InferReduce$Types"
  | 2 => .object "InferReduce$Bounds"
  | 3 => .object "InferReduce$Reducer"
  | 4 => .object "InferReduce$Holder"
  | 5 => .object "InferReduce$Resolver"
  | 6 => .object "InferReduce$Told"
  | 7 => .array .int
  | 8 => .int
  | 9 => .int
  | _ => .int
theorem nm_I : ∀ a, a < 11 → ∀ b, b < 11 → a ≠ b → (T_I a).2.1 ≠ (T_I b).2.1 := by decide +kernel
theorem ft_I_ok : ∀ k, k < 11 → parseFieldDescriptor (T_I k).2.2.1 = some (ft_I k) := by decide +kernel
theorem in_I_0 : u_lay "InferReduce" T_I 0 ∈ tblG := tb_2 80 rfl rfl
theorem in_I_1 : u_lay "InferReduce" T_I 1 ∈ tblG := tb_2 82 rfl rfl
theorem in_I_2 : u_lay "InferReduce" T_I 2 ∈ tblG := tb_2 84 rfl rfl
theorem in_I_3 : u_lay "InferReduce" T_I 3 ∈ tblG := tb_2 86 rfl rfl
theorem in_I_4 : u_lay "InferReduce" T_I 4 ∈ tblG := tb_2 88 rfl rfl
theorem in_I_5 : u_lay "InferReduce" T_I 5 ∈ tblG := tb_2 90 rfl rfl
theorem in_I_6 : u_lay "InferReduce" T_I 6 ∈ tblG := tb_2 92 rfl rfl
theorem in_I_7 : u_lay "InferReduce" T_I 7 ∈ tblG := tb_2 94 rfl rfl
theorem in_I_8 : u_lay "InferReduce" T_I 8 ∈ tblG := tb_2 96 rfl rfl
theorem in_I_9 : u_lay "InferReduce" T_I 9 ∈ tblG := tb_2 98 rfl rfl
theorem in_I_10 : u_lay "InferReduce" T_I 10 ∈ tblG := tb_2 100 rfl rfl
theorem in_I : ∀ x ∈ u_ws "InferReduce" T_I 11, x ∈ tblG := by
  intro x hx
  obtain ⟨k, hk, rfl⟩ := List.mem_map.mp hx
  have hk := List.mem_range.mp hk
  match k, hk with
  | 0, _ => exact in_I_0
  | 1, _ => exact in_I_1
  | 2, _ => exact in_I_2
  | 3, _ => exact in_I_3
  | 4, _ => exact in_I_4
  | 5, _ => exact in_I_5
  | 6, _ => exact in_I_6
  | 7, _ => exact in_I_7
  | 8, _ => exact in_I_8
  | 9, _ => exact in_I_9
  | 10, _ => exact in_I_10
  | k + 11, h => exact absurd h (by omega)
def T_M : u_T := fun k => match k with
  | 0 => ("InferReduceModel", "parameters", "[I", true)
  | 1 => ("InferReduceModel", "parents", "[I", true)
  | 2 => ("InferReduceModel", "parentMany", "[I", true)
  | 3 => ("InferReduceModel", "upward", "[J", true)
  | 4 => ("InferReduceModel", "classes", "I", false)
  | 5 => ("InferReduceModel", "kind", "[I", true)
  | 6 => ("InferReduceModel", "one", "[I", true)
  | 7 => ("InferReduceModel", "two", "[I", true)
  | 8 => ("InferReduceModel", "three", "[I", true)
  | 9 => ("InferReduceModel", "deep", "[I", true)
  | 10 => ("InferReduceModel", "proper", "[Z", true)
  | 11 => ("InferReduceModel", "types", "I", false)
  | 12 => ("InferReduceModel", "full", "Z", false)
  | 13 => ("InferReduceModel", "todo", "[I", true)
  | 14 => ("InferReduceModel", "todoMore", "[I", true)
  | 15 => ("InferReduceModel", "todoFlag", "[I", true)
  | 16 => ("InferReduceModel", "todos", "I", false)
  | 17 => ("InferReduceModel", "variables", "I", false)
  | 18 => ("InferReduceModel", "workType", "[I", true)
  | 19 => ("InferReduceModel", "workStage", "[I", true)
  | 20 => ("InferReduceModel", "workFirst", "[I", true)
  | 21 => ("InferReduceModel", "inPlace", "[I", true)
  | 22 => ("InferReduceModel", "became", "[I", true)
  | 23 => ("InferReduceModel", "seen", "[I", true)
  | 24 => ("InferReduceModel", "looks", "I", false)
  | 25 => ("InferReduceModel", "aboveType", "[I", true)
  | 26 => ("InferReduceModel", "aboveMore", "[I", true)
  | 27 => ("InferReduceModel", "aboveFlag", "[I", true)
  | 28 => ("InferReduceModel", "aboves", "I", false)
  | 29 => ("InferReduceModel", "lessSort", "[I", true)
  | 30 => ("InferReduceModel", "lessLeft", "[I", true)
  | 31 => ("InferReduceModel", "lessRight", "[I", true)
  | 32 => ("InferReduceModel", "lessDeep", "[I", true)
  | 33 => ("InferReduceModel", "lesses", "I", false)
  | 34 => ("InferReduceModel", "deepNow", "I", false)
  | 35 => ("InferReduceModel", "inCall", "I", false)
  | 36 => ("InferReduceModel", "madeLess", "I", false)
  | 37 => ("InferReduceModel", "judging", "Z", false)
  | 38 => ("InferReduceModel", "metVariable", "Z", false)
  | 39 => ("InferReduceModel", "isUnchecked", "Z", false)
  | 40 => ("InferReduceModel", "origin", "I", false)
  | 41 => ("InferReduceModel", "nextSort", "[I", true)
  | 42 => ("InferReduceModel", "nextLeft", "[I", true)
  | 43 => ("InferReduceModel", "nextRight", "[I", true)
  | 44 => ("InferReduceModel", "nexts", "I", false)
  | 45 => ("InferReduceModel", "boundSort", "[I", true)
  | 46 => ("InferReduceModel", "boundOf", "[I", true)
  | 47 => ("InferReduceModel", "boundType", "[I", true)
  | 48 => ("InferReduceModel", "boundFrom", "[I", true)
  | 49 => ("InferReduceModel", "bounds", "I", false)
  | 50 => ("InferReduceModel", "held", "I", false)
  | 51 => ("InferReduceModel", "toldSort", "[I", true)
  | 52 => ("InferReduceModel", "toldLeft", "[I", true)
  | 53 => ("InferReduceModel", "toldRight", "[I", true)
  | 54 => ("InferReduceModel", "toldUnchecked", "[Z", true)
  | 55 => ("InferReduceModel", "told", "I", false)
  | 56 => ("InferReduceModel", "state", "I", false)
  | 57 => ("InferReduceModel", "stateAt", "I", false)
  | 58 => ("InferReduceModel", "settled", "[Z", true)
  | 59 => ("InferReduceModel", "with", "[Z", true)
  | 60 => ("InferReduceModel", "chosen", "[I", true)
  | 61 => ("InferReduceModel", "some", "[I", true)
  | 62 => ("InferReduceModel", "someMany", "I", false)
  | 63 => ("InferReduceModel", "common", "[Z", true)
  | _ => ("InferReduceModel", "outdone", "[Z", true)
def ft_M : Nat → FieldType := fun k => match k with
  | 0 => .array .int
  | 1 => .array .int
  | 2 => .array .int
  | 3 => .array .long
  | 4 => .int
  | 5 => .array .int
  | 6 => .array .int
  | 7 => .array .int
  | 8 => .array .int
  | 9 => .array .int
  | 10 => .array .boolean
  | 11 => .int
  | 12 => .boolean
  | 13 => .array .int
  | 14 => .array .int
  | 15 => .array .int
  | 16 => .int
  | 17 => .int
  | 18 => .array .int
  | 19 => .array .int
  | 20 => .array .int
  | 21 => .array .int
  | 22 => .array .int
  | 23 => .array .int
  | 24 => .int
  | 25 => .array .int
  | 26 => .array .int
  | 27 => .array .int
  | 28 => .int
  | 29 => .array .int
  | 30 => .array .int
  | 31 => .array .int
  | 32 => .array .int
  | 33 => .int
  | 34 => .int
  | 35 => .int
  | 36 => .int
  | 37 => .boolean
  | 38 => .boolean
  | 39 => .boolean
  | 40 => .int
  | 41 => .array .int
  | 42 => .array .int
  | 43 => .array .int
  | 44 => .int
  | 45 => .array .int
  | 46 => .array .int
  | 47 => .array .int
  | 48 => .array .int
  | 49 => .int
  | 50 => .int
  | 51 => .array .int
  | 52 => .array .int
  | 53 => .array .int
  | 54 => .array .boolean
  | 55 => .int
  | 56 => .int
  | 57 => .int
  | 58 => .array .boolean
  | 59 => .array .boolean
  | 60 => .array .int
  | 61 => .array .int
  | 62 => .int
  | 63 => .array .boolean
  | _ => .array .boolean
theorem nm_M : ∀ a, a < 65 → ∀ b, b < 65 → a ≠ b → (T_M a).2.1 ≠ (T_M b).2.1 := by decide +kernel
theorem ft_M_ok : ∀ k, k < 65 → parseFieldDescriptor (T_M k).2.2.1 = some (ft_M k) := by decide +kernel
theorem in_M_0 : u_lay "InferReduceModel" T_M 0 ∈ tblG := tb_4 140 rfl rfl
theorem in_M_1 : u_lay "InferReduceModel" T_M 1 ∈ tblG := tb_4 142 rfl rfl
theorem in_M_2 : u_lay "InferReduceModel" T_M 2 ∈ tblG := tb_4 144 rfl rfl
theorem in_M_3 : u_lay "InferReduceModel" T_M 3 ∈ tblG := tb_4 146 rfl rfl
theorem in_M_4 : u_lay "InferReduceModel" T_M 4 ∈ tblG := tb_4 148 rfl rfl
theorem in_M_5 : u_lay "InferReduceModel" T_M 5 ∈ tblG := tb_4 150 rfl rfl
theorem in_M_6 : u_lay "InferReduceModel" T_M 6 ∈ tblG := tb_4 152 rfl rfl
theorem in_M_7 : u_lay "InferReduceModel" T_M 7 ∈ tblG := tb_4 154 rfl rfl
theorem in_M_8 : u_lay "InferReduceModel" T_M 8 ∈ tblG := tb_4 156 rfl rfl
theorem in_M_9 : u_lay "InferReduceModel" T_M 9 ∈ tblG := tb_4 158 rfl rfl
theorem in_M_10 : u_lay "InferReduceModel" T_M 10 ∈ tblG := tb_4 160 rfl rfl
theorem in_M_11 : u_lay "InferReduceModel" T_M 11 ∈ tblG := tb_4 162 rfl rfl
theorem in_M_12 : u_lay "InferReduceModel" T_M 12 ∈ tblG := tb_4 164 rfl rfl
theorem in_M_13 : u_lay "InferReduceModel" T_M 13 ∈ tblG := tb_4 166 rfl rfl
theorem in_M_14 : u_lay "InferReduceModel" T_M 14 ∈ tblG := tb_4 168 rfl rfl
theorem in_M_15 : u_lay "InferReduceModel" T_M 15 ∈ tblG := tb_4 170 rfl rfl
theorem in_M_16 : u_lay "InferReduceModel" T_M 16 ∈ tblG := tb_4 172 rfl rfl
theorem in_M_17 : u_lay "InferReduceModel" T_M 17 ∈ tblG := tb_4 174 rfl rfl
theorem in_M_18 : u_lay "InferReduceModel" T_M 18 ∈ tblG := tb_4 176 rfl rfl
theorem in_M_19 : u_lay "InferReduceModel" T_M 19 ∈ tblG := tb_4 178 rfl rfl
theorem in_M_20 : u_lay "InferReduceModel" T_M 20 ∈ tblG := tb_4 180 rfl rfl
theorem in_M_21 : u_lay "InferReduceModel" T_M 21 ∈ tblG := tb_4 182 rfl rfl
theorem in_M_22 : u_lay "InferReduceModel" T_M 22 ∈ tblG := tb_4 184 rfl rfl
theorem in_M_23 : u_lay "InferReduceModel" T_M 23 ∈ tblG := tb_4 186 rfl rfl
theorem in_M_24 : u_lay "InferReduceModel" T_M 24 ∈ tblG := tb_4 188 rfl rfl
theorem in_M_25 : u_lay "InferReduceModel" T_M 25 ∈ tblG := tb_4 190 rfl rfl
theorem in_M_26 : u_lay "InferReduceModel" T_M 26 ∈ tblG := tb_4 192 rfl rfl
theorem in_M_27 : u_lay "InferReduceModel" T_M 27 ∈ tblG := tb_4 194 rfl rfl
theorem in_M_28 : u_lay "InferReduceModel" T_M 28 ∈ tblG := tb_4 196 rfl rfl
theorem in_M_29 : u_lay "InferReduceModel" T_M 29 ∈ tblG := tb_4 198 rfl rfl
theorem in_M_30 : u_lay "InferReduceModel" T_M 30 ∈ tblG := tb_4 200 rfl rfl
theorem in_M_31 : u_lay "InferReduceModel" T_M 31 ∈ tblG := tb_4 202 rfl rfl
theorem in_M_32 : u_lay "InferReduceModel" T_M 32 ∈ tblG := tb_4 204 rfl rfl
theorem in_M_33 : u_lay "InferReduceModel" T_M 33 ∈ tblG := tb_4 206 rfl rfl
theorem in_M_34 : u_lay "InferReduceModel" T_M 34 ∈ tblG := tb_4 208 rfl rfl
theorem in_M_35 : u_lay "InferReduceModel" T_M 35 ∈ tblG := tb_4 210 rfl rfl
theorem in_M_36 : u_lay "InferReduceModel" T_M 36 ∈ tblG := tb_4 212 rfl rfl
theorem in_M_37 : u_lay "InferReduceModel" T_M 37 ∈ tblG := tb_4 214 rfl rfl
theorem in_M_38 : u_lay "InferReduceModel" T_M 38 ∈ tblG := tb_4 216 rfl rfl
theorem in_M_39 : u_lay "InferReduceModel" T_M 39 ∈ tblG := tb_4 218 rfl rfl
theorem in_M_40 : u_lay "InferReduceModel" T_M 40 ∈ tblG := tb_4 220 rfl rfl
theorem in_M_41 : u_lay "InferReduceModel" T_M 41 ∈ tblG := tb_4 222 rfl rfl
theorem in_M_42 : u_lay "InferReduceModel" T_M 42 ∈ tblG := tb_4 224 rfl rfl
theorem in_M_43 : u_lay "InferReduceModel" T_M 43 ∈ tblG := tb_4 226 rfl rfl
theorem in_M_44 : u_lay "InferReduceModel" T_M 44 ∈ tblG := tb_4 228 rfl rfl
theorem in_M_45 : u_lay "InferReduceModel" T_M 45 ∈ tblG := tb_4 230 rfl rfl
theorem in_M_46 : u_lay "InferReduceModel" T_M 46 ∈ tblG := tb_4 232 rfl rfl
theorem in_M_47 : u_lay "InferReduceModel" T_M 47 ∈ tblG := tb_4 234 rfl rfl
theorem in_M_48 : u_lay "InferReduceModel" T_M 48 ∈ tblG := tb_4 236 rfl rfl
theorem in_M_49 : u_lay "InferReduceModel" T_M 49 ∈ tblG := tb_4 238 rfl rfl
theorem in_M_50 : u_lay "InferReduceModel" T_M 50 ∈ tblG := tb_5 0 rfl rfl
theorem in_M_51 : u_lay "InferReduceModel" T_M 51 ∈ tblG := tb_5 2 rfl rfl
theorem in_M_52 : u_lay "InferReduceModel" T_M 52 ∈ tblG := tb_5 4 rfl rfl
theorem in_M_53 : u_lay "InferReduceModel" T_M 53 ∈ tblG := tb_5 6 rfl rfl
theorem in_M_54 : u_lay "InferReduceModel" T_M 54 ∈ tblG := tb_5 8 rfl rfl
theorem in_M_55 : u_lay "InferReduceModel" T_M 55 ∈ tblG := tb_5 10 rfl rfl
theorem in_M_56 : u_lay "InferReduceModel" T_M 56 ∈ tblG := tb_5 12 rfl rfl
theorem in_M_57 : u_lay "InferReduceModel" T_M 57 ∈ tblG := tb_5 14 rfl rfl
theorem in_M_58 : u_lay "InferReduceModel" T_M 58 ∈ tblG := tb_5 16 rfl rfl
theorem in_M_59 : u_lay "InferReduceModel" T_M 59 ∈ tblG := tb_5 18 rfl rfl
theorem in_M_60 : u_lay "InferReduceModel" T_M 60 ∈ tblG := tb_5 20 rfl rfl
theorem in_M_61 : u_lay "InferReduceModel" T_M 61 ∈ tblG := tb_5 22 rfl rfl
theorem in_M_62 : u_lay "InferReduceModel" T_M 62 ∈ tblG := tb_5 24 rfl rfl
theorem in_M_63 : u_lay "InferReduceModel" T_M 63 ∈ tblG := tb_5 26 rfl rfl
theorem in_M_64 : u_lay "InferReduceModel" T_M 64 ∈ tblG := tb_5 28 rfl rfl
theorem in_M : ∀ x ∈ u_ws "InferReduceModel" T_M 65, x ∈ tblG := by
  intro x hx
  obtain ⟨k, hk, rfl⟩ := List.mem_map.mp hx
  have hk := List.mem_range.mp hk
  match k, hk with
  | 0, _ => exact in_M_0
  | 1, _ => exact in_M_1
  | 2, _ => exact in_M_2
  | 3, _ => exact in_M_3
  | 4, _ => exact in_M_4
  | 5, _ => exact in_M_5
  | 6, _ => exact in_M_6
  | 7, _ => exact in_M_7
  | 8, _ => exact in_M_8
  | 9, _ => exact in_M_9
  | 10, _ => exact in_M_10
  | 11, _ => exact in_M_11
  | 12, _ => exact in_M_12
  | 13, _ => exact in_M_13
  | 14, _ => exact in_M_14
  | 15, _ => exact in_M_15
  | 16, _ => exact in_M_16
  | 17, _ => exact in_M_17
  | 18, _ => exact in_M_18
  | 19, _ => exact in_M_19
  | 20, _ => exact in_M_20
  | 21, _ => exact in_M_21
  | 22, _ => exact in_M_22
  | 23, _ => exact in_M_23
  | 24, _ => exact in_M_24
  | 25, _ => exact in_M_25
  | 26, _ => exact in_M_26
  | 27, _ => exact in_M_27
  | 28, _ => exact in_M_28
  | 29, _ => exact in_M_29
  | 30, _ => exact in_M_30
  | 31, _ => exact in_M_31
  | 32, _ => exact in_M_32
  | 33, _ => exact in_M_33
  | 34, _ => exact in_M_34
  | 35, _ => exact in_M_35
  | 36, _ => exact in_M_36
  | 37, _ => exact in_M_37
  | 38, _ => exact in_M_38
  | 39, _ => exact in_M_39
  | 40, _ => exact in_M_40
  | 41, _ => exact in_M_41
  | 42, _ => exact in_M_42
  | 43, _ => exact in_M_43
  | 44, _ => exact in_M_44
  | 45, _ => exact in_M_45
  | 46, _ => exact in_M_46
  | 47, _ => exact in_M_47
  | 48, _ => exact in_M_48
  | 49, _ => exact in_M_49
  | 50, _ => exact in_M_50
  | 51, _ => exact in_M_51
  | 52, _ => exact in_M_52
  | 53, _ => exact in_M_53
  | 54, _ => exact in_M_54
  | 55, _ => exact in_M_55
  | 56, _ => exact in_M_56
  | 57, _ => exact in_M_57
  | 58, _ => exact in_M_58
  | 59, _ => exact in_M_59
  | 60, _ => exact in_M_60
  | 61, _ => exact in_M_61
  | 62, _ => exact in_M_62
  | 63, _ => exact in_M_63
  | 64, _ => exact in_M_64
  | k + 65, h => exact absurd h (by omega)
abbrev clA : List vw_C := [("InferReduce$Bounds", T_Bounds, 5), ("InferReduce$Classes", T_Classes, 6), ("InferReduce$Exchange", T_Exchange, 7), ("InferReduce$Holder", T_Holder, 7), ("InferReduce$Reducer", T_Reducer, 9), ("InferReduce$Resolver", T_Resolver, 8), ("InferReduce$Told", T_Told, 5), ("InferReduce$Types", T_Types, 11), ("InferReduce$Work", T_Work, 9), ("InferReduce", T_I, 11), ("InferReduceModel", T_M, 65)]
abbrev b_Bounds_init : ByteArray := prog_2_method_1_code
abbrev y_Bounds_init : MethodName := ⟨"InferReduce$Bounds", "<init>", "()V"⟩
theorem dd_Bounds_init : y_Bounds_init.cls = "InferReduce$Bounds" ∧ y_Bounds_init.cls ≠ "java/lang/invoke/MethodHandle" ∧ y_Bounds_init.cls ≠ "java/lang/invoke/VarHandle" ∧ (parseMethodDescriptor y_Bounds_init.desc).map (fun d => d.parameters.length) = some 0 := ⟨rfl, by decide, by decide, by decide +kernel⟩
abbrev b_Bounds_has : ByteArray := prog_2_method_2_code
abbrev y_Bounds_has : MethodName := ⟨"InferReduce$Bounds", "has", "(I)Z"⟩
theorem dd_Bounds_has : y_Bounds_has.cls = "InferReduce$Bounds" ∧ y_Bounds_has.cls ≠ "java/lang/invoke/MethodHandle" ∧ y_Bounds_has.cls ≠ "java/lang/invoke/VarHandle" ∧ (parseMethodDescriptor y_Bounds_has.desc).map (fun d => d.parameters.length) = some 1 := ⟨rfl, by decide, by decide, by decide +kernel⟩
abbrev b_Bounds_sortOf : ByteArray := prog_2_method_3_code
abbrev y_Bounds_sortOf : MethodName := ⟨"InferReduce$Bounds", "sortOf", "(I)I"⟩
theorem dd_Bounds_sortOf : y_Bounds_sortOf.cls = "InferReduce$Bounds" ∧ y_Bounds_sortOf.cls ≠ "java/lang/invoke/MethodHandle" ∧ y_Bounds_sortOf.cls ≠ "java/lang/invoke/VarHandle" ∧ (parseMethodDescriptor y_Bounds_sortOf.desc).map (fun d => d.parameters.length) = some 1 := ⟨rfl, by decide, by decide, by decide +kernel⟩
abbrev b_Bounds_variableOf : ByteArray := prog_2_method_4_code
abbrev y_Bounds_variableOf : MethodName := ⟨"InferReduce$Bounds", "variableOf", "(I)I"⟩
theorem dd_Bounds_variableOf : y_Bounds_variableOf.cls = "InferReduce$Bounds" ∧ y_Bounds_variableOf.cls ≠ "java/lang/invoke/MethodHandle" ∧ y_Bounds_variableOf.cls ≠ "java/lang/invoke/VarHandle" ∧ (parseMethodDescriptor y_Bounds_variableOf.desc).map (fun d => d.parameters.length) = some 1 := ⟨rfl, by decide, by decide, by decide +kernel⟩
abbrev b_Bounds_typeOf : ByteArray := prog_2_method_5_code
abbrev y_Bounds_typeOf : MethodName := ⟨"InferReduce$Bounds", "typeOf", "(I)I"⟩
theorem dd_Bounds_typeOf : y_Bounds_typeOf.cls = "InferReduce$Bounds" ∧ y_Bounds_typeOf.cls ≠ "java/lang/invoke/MethodHandle" ∧ y_Bounds_typeOf.cls ≠ "java/lang/invoke/VarHandle" ∧ (parseMethodDescriptor y_Bounds_typeOf.desc).map (fun d => d.parameters.length) = some 1 := ⟨rfl, by decide, by decide, by decide +kernel⟩
abbrev b_Bounds_originOf : ByteArray := prog_2_method_6_code
abbrev y_Bounds_originOf : MethodName := ⟨"InferReduce$Bounds", "originOf", "(I)I"⟩
theorem dd_Bounds_originOf : y_Bounds_originOf.cls = "InferReduce$Bounds" ∧ y_Bounds_originOf.cls ≠ "java/lang/invoke/MethodHandle" ∧ y_Bounds_originOf.cls ≠ "java/lang/invoke/VarHandle" ∧ (parseMethodDescriptor y_Bounds_originOf.desc).map (fun d => d.parameters.length) = some 1 := ⟨rfl, by decide, by decide, by decide +kernel⟩
abbrev b_Bounds_add : ByteArray := prog_2_method_7_code
abbrev y_Bounds_add : MethodName := ⟨"InferReduce$Bounds", "add", "(IIII)I"⟩
theorem dd_Bounds_add : y_Bounds_add.cls = "InferReduce$Bounds" ∧ y_Bounds_add.cls ≠ "java/lang/invoke/MethodHandle" ∧ y_Bounds_add.cls ≠ "java/lang/invoke/VarHandle" ∧ (parseMethodDescriptor y_Bounds_add.desc).map (fun d => d.parameters.length) = some 4 := ⟨rfl, by decide, by decide, by decide +kernel⟩
abbrev b_Bounds_settledAs : ByteArray := prog_2_method_8_code
abbrev y_Bounds_settledAs : MethodName := ⟨"InferReduce$Bounds", "settledAs", "(ILInferReduce$Types;)I"⟩
theorem dd_Bounds_settledAs : y_Bounds_settledAs.cls = "InferReduce$Bounds" ∧ y_Bounds_settledAs.cls ≠ "java/lang/invoke/MethodHandle" ∧ y_Bounds_settledAs.cls ≠ "java/lang/invoke/VarHandle" ∧ (parseMethodDescriptor y_Bounds_settledAs.desc).map (fun d => d.parameters.length) = some 2 := ⟨rfl, by decide, by decide, by decide +kernel⟩
abbrev b_Classes_init : ByteArray := prog_3_method_1_code
abbrev y_Classes_init : MethodName := ⟨"InferReduce$Classes", "<init>", "()V"⟩
theorem dd_Classes_init : y_Classes_init.cls = "InferReduce$Classes" ∧ y_Classes_init.cls ≠ "java/lang/invoke/MethodHandle" ∧ y_Classes_init.cls ≠ "java/lang/invoke/VarHandle" ∧ (parseMethodDescriptor y_Classes_init.desc).map (fun d => d.parameters.length) = some 0 := ⟨rfl, by decide, by decide, by decide +kernel⟩
abbrev b_Classes_has : ByteArray := prog_3_method_2_code
abbrev y_Classes_has : MethodName := ⟨"InferReduce$Classes", "has", "(I)Z"⟩
theorem dd_Classes_has : y_Classes_has.cls = "InferReduce$Classes" ∧ y_Classes_has.cls ≠ "java/lang/invoke/MethodHandle" ∧ y_Classes_has.cls ≠ "java/lang/invoke/VarHandle" ∧ (parseMethodDescriptor y_Classes_has.desc).map (fun d => d.parameters.length) = some 1 := ⟨rfl, by decide, by decide, by decide +kernel⟩
abbrev b_Classes_add : ByteArray := prog_3_method_3_code
abbrev y_Classes_add : MethodName := ⟨"InferReduce$Classes", "add", "(I)I"⟩
theorem dd_Classes_add : y_Classes_add.cls = "InferReduce$Classes" ∧ y_Classes_add.cls ≠ "java/lang/invoke/MethodHandle" ∧ y_Classes_add.cls ≠ "java/lang/invoke/VarHandle" ∧ (parseMethodDescriptor y_Classes_add.desc).map (fun d => d.parameters.length) = some 1 := ⟨rfl, by decide, by decide, by decide +kernel⟩
abbrev b_Classes_parametersOf : ByteArray := prog_3_method_4_code
abbrev y_Classes_parametersOf : MethodName := ⟨"InferReduce$Classes", "parametersOf", "(I)I"⟩
theorem dd_Classes_parametersOf : y_Classes_parametersOf.cls = "InferReduce$Classes" ∧ y_Classes_parametersOf.cls ≠ "java/lang/invoke/MethodHandle" ∧ y_Classes_parametersOf.cls ≠ "java/lang/invoke/VarHandle" ∧ (parseMethodDescriptor y_Classes_parametersOf.desc).map (fun d => d.parameters.length) = some 1 := ⟨rfl, by decide, by decide, by decide +kernel⟩
abbrev b_Classes_addParent : ByteArray := prog_3_method_5_code
abbrev y_Classes_addParent : MethodName := ⟨"InferReduce$Classes", "addParent", "(III)I"⟩
theorem dd_Classes_addParent : y_Classes_addParent.cls = "InferReduce$Classes" ∧ y_Classes_addParent.cls ≠ "java/lang/invoke/MethodHandle" ∧ y_Classes_addParent.cls ≠ "java/lang/invoke/VarHandle" ∧ (parseMethodDescriptor y_Classes_addParent.desc).map (fun d => d.parameters.length) = some 3 := ⟨rfl, by decide, by decide, by decide +kernel⟩
abbrev b_Classes_renewReach : ByteArray := prog_3_method_6_code
abbrev y_Classes_renewReach : MethodName := ⟨"InferReduce$Classes", "renewReach", "()V"⟩
theorem dd_Classes_renewReach : y_Classes_renewReach.cls = "InferReduce$Classes" ∧ y_Classes_renewReach.cls ≠ "java/lang/invoke/MethodHandle" ∧ y_Classes_renewReach.cls ≠ "java/lang/invoke/VarHandle" ∧ (parseMethodDescriptor y_Classes_renewReach.desc).map (fun d => d.parameters.length) = some 0 := ⟨rfl, by decide, by decide, by decide +kernel⟩
abbrev b_Classes_reaches : ByteArray := prog_3_method_7_code
abbrev y_Classes_reaches : MethodName := ⟨"InferReduce$Classes", "reaches", "(II)Z"⟩
theorem dd_Classes_reaches : y_Classes_reaches.cls = "InferReduce$Classes" ∧ y_Classes_reaches.cls ≠ "java/lang/invoke/MethodHandle" ∧ y_Classes_reaches.cls ≠ "java/lang/invoke/VarHandle" ∧ (parseMethodDescriptor y_Classes_reaches.desc).map (fun d => d.parameters.length) = some 2 := ⟨rfl, by decide, by decide, by decide +kernel⟩
abbrev b_Classes_parentTowards : ByteArray := prog_3_method_8_code
abbrev y_Classes_parentTowards : MethodName := ⟨"InferReduce$Classes", "parentTowards", "(II)I"⟩
theorem dd_Classes_parentTowards : y_Classes_parentTowards.cls = "InferReduce$Classes" ∧ y_Classes_parentTowards.cls ≠ "java/lang/invoke/MethodHandle" ∧ y_Classes_parentTowards.cls ≠ "java/lang/invoke/VarHandle" ∧ (parseMethodDescriptor y_Classes_parentTowards.desc).map (fun d => d.parameters.length) = some 2 := ⟨rfl, by decide, by decide, by decide +kernel⟩
abbrev b_Exchange_init : ByteArray := prog_4_method_1_code
abbrev y_Exchange_init : MethodName := ⟨"InferReduce$Exchange", "<init>", "(LInferReduce$Types;)V"⟩
theorem dd_Exchange_init : y_Exchange_init.cls = "InferReduce$Exchange" ∧ y_Exchange_init.cls ≠ "java/lang/invoke/MethodHandle" ∧ y_Exchange_init.cls ≠ "java/lang/invoke/VarHandle" ∧ (parseMethodDescriptor y_Exchange_init.desc).map (fun d => d.parameters.length) = some 1 := ⟨rfl, by decide, by decide, by decide +kernel⟩
abbrev b_Exchange_forVariables : ByteArray := prog_4_method_2_code
abbrev y_Exchange_forVariables : MethodName := ⟨"InferReduce$Exchange", "forVariables", "()V"⟩
theorem dd_Exchange_forVariables : y_Exchange_forVariables.cls = "InferReduce$Exchange" ∧ y_Exchange_forVariables.cls ≠ "java/lang/invoke/MethodHandle" ∧ y_Exchange_forVariables.cls ≠ "java/lang/invoke/VarHandle" ∧ (parseMethodDescriptor y_Exchange_forVariables.desc).map (fun d => d.parameters.length) = some 0 := ⟨rfl, by decide, by decide, by decide +kernel⟩
abbrev b_Exchange_setInstead : ByteArray := prog_4_method_3_code
abbrev y_Exchange_setInstead : MethodName := ⟨"InferReduce$Exchange", "setInstead", "(II)V"⟩
theorem dd_Exchange_setInstead : y_Exchange_setInstead.cls = "InferReduce$Exchange" ∧ y_Exchange_setInstead.cls ≠ "java/lang/invoke/MethodHandle" ∧ y_Exchange_setInstead.cls ≠ "java/lang/invoke/VarHandle" ∧ (parseMethodDescriptor y_Exchange_setInstead.desc).map (fun d => d.parameters.length) = some 2 := ⟨rfl, by decide, by decide, by decide +kernel⟩
abbrev b_Exchange_forArguments : ByteArray := prog_4_method_4_code
abbrev y_Exchange_forArguments : MethodName := ⟨"InferReduce$Exchange", "forArguments", "(I)V"⟩
theorem dd_Exchange_forArguments : y_Exchange_forArguments.cls = "InferReduce$Exchange" ∧ y_Exchange_forArguments.cls ≠ "java/lang/invoke/MethodHandle" ∧ y_Exchange_forArguments.cls ≠ "java/lang/invoke/VarHandle" ∧ (parseMethodDescriptor y_Exchange_forArguments.desc).map (fun d => d.parameters.length) = some 1 := ⟨rfl, by decide, by decide, by decide +kernel⟩
abbrev b_Exchange_put : ByteArray := prog_4_method_5_code
abbrev y_Exchange_put : MethodName := ⟨"InferReduce$Exchange", "put", "(I)I"⟩
theorem dd_Exchange_put : y_Exchange_put.cls = "InferReduce$Exchange" ∧ y_Exchange_put.cls ≠ "java/lang/invoke/MethodHandle" ∧ y_Exchange_put.cls ≠ "java/lang/invoke/VarHandle" ∧ (parseMethodDescriptor y_Exchange_put.desc).map (fun d => d.parameters.length) = some 1 := ⟨rfl, by decide, by decide, by decide +kernel⟩
abbrev b_Holder_init : ByteArray := prog_5_method_1_code
abbrev y_Holder_init : MethodName := ⟨"InferReduce$Holder", "<init>", "(LInferReduce$Classes;LInferReduce$Types;LInferReduce$Bounds;LInferReduce$Exchange;LInferReduce$Reducer;[I)V"⟩
theorem dd_Holder_init : y_Holder_init.cls = "InferReduce$Holder" ∧ y_Holder_init.cls ≠ "java/lang/invoke/MethodHandle" ∧ y_Holder_init.cls ≠ "java/lang/invoke/VarHandle" ∧ (parseMethodDescriptor y_Holder_init.desc).map (fun d => d.parameters.length) = some 6 := ⟨rfl, by decide, by decide, by decide +kernel⟩
abbrev b_Holder_holdAll : ByteArray := prog_5_method_2_code
abbrev y_Holder_holdAll : MethodName := ⟨"InferReduce$Holder", "holdAll", "()I"⟩
theorem dd_Holder_holdAll : y_Holder_holdAll.cls = "InferReduce$Holder" ∧ y_Holder_holdAll.cls ≠ "java/lang/invoke/MethodHandle" ∧ y_Holder_holdAll.cls ≠ "java/lang/invoke/VarHandle" ∧ (parseMethodDescriptor y_Holder_holdAll.desc).map (fun d => d.parameters.length) = some 0 := ⟨rfl, by decide, by decide, by decide +kernel⟩
abbrev b_Holder_comes : ByteArray := prog_5_method_3_code
abbrev y_Holder_comes : MethodName := ⟨"InferReduce$Holder", "comes", "(II)I"⟩
theorem dd_Holder_comes : y_Holder_comes.cls = "InferReduce$Holder" ∧ y_Holder_comes.cls ≠ "java/lang/invoke/MethodHandle" ∧ y_Holder_comes.cls ≠ "java/lang/invoke/VarHandle" ∧ (parseMethodDescriptor y_Holder_comes.desc).map (fun d => d.parameters.length) = some 2 := ⟨rfl, by decide, by decide, by decide +kernel⟩
abbrev b_Holder_putsInto : ByteArray := prog_5_method_4_code
abbrev y_Holder_putsInto : MethodName := ⟨"InferReduce$Holder", "putsInto", "(II)I"⟩
theorem dd_Holder_putsInto : y_Holder_putsInto.cls = "InferReduce$Holder" ∧ y_Holder_putsInto.cls ≠ "java/lang/invoke/MethodHandle" ∧ y_Holder_putsInto.cls ≠ "java/lang/invoke/VarHandle" ∧ (parseMethodDescriptor y_Holder_putsInto.desc).map (fun d => d.parameters.length) = some 2 := ⟨rfl, by decide, by decide, by decide +kernel⟩
abbrev b_Holder_shareArguments : ByteArray := prog_5_method_5_code
abbrev y_Holder_shareArguments : MethodName := ⟨"InferReduce$Holder", "shareArguments", "(II)I"⟩
theorem dd_Holder_shareArguments : y_Holder_shareArguments.cls = "InferReduce$Holder" ∧ y_Holder_shareArguments.cls ≠ "java/lang/invoke/MethodHandle" ∧ y_Holder_shareArguments.cls ≠ "java/lang/invoke/VarHandle" ∧ (parseMethodDescriptor y_Holder_shareArguments.desc).map (fun d => d.parameters.length) = some 2 := ⟨rfl, by decide, by decide, by decide +kernel⟩
abbrev b_Reducer_init : ByteArray := prog_6_method_1_code
abbrev y_Reducer_init : MethodName := ⟨"InferReduce$Reducer", "<init>", "(LInferReduce$Classes;LInferReduce$Types;LInferReduce$Bounds;LInferReduce$Exchange;)V"⟩
theorem dd_Reducer_init : y_Reducer_init.cls = "InferReduce$Reducer" ∧ y_Reducer_init.cls ≠ "java/lang/invoke/MethodHandle" ∧ y_Reducer_init.cls ≠ "java/lang/invoke/VarHandle" ∧ (parseMethodDescriptor y_Reducer_init.desc).map (fun d => d.parameters.length) = some 4 := ⟨rfl, by decide, by decide, by decide +kernel⟩
abbrev b_Reducer_begin : ByteArray := prog_6_method_2_code
abbrev y_Reducer_begin : MethodName := ⟨"InferReduce$Reducer", "begin", "(I)V"⟩
theorem dd_Reducer_begin : y_Reducer_begin.cls = "InferReduce$Reducer" ∧ y_Reducer_begin.cls ≠ "java/lang/invoke/MethodHandle" ∧ y_Reducer_begin.cls ≠ "java/lang/invoke/VarHandle" ∧ (parseMethodDescriptor y_Reducer_begin.desc).map (fun d => d.parameters.length) = some 1 := ⟨rfl, by decide, by decide, by decide +kernel⟩
abbrev b_Reducer_ask : ByteArray := prog_6_method_3_code
abbrev y_Reducer_ask : MethodName := ⟨"InferReduce$Reducer", "ask", "(III)I"⟩
theorem dd_Reducer_ask : y_Reducer_ask.cls = "InferReduce$Reducer" ∧ y_Reducer_ask.cls ≠ "java/lang/invoke/MethodHandle" ∧ y_Reducer_ask.cls ≠ "java/lang/invoke/VarHandle" ∧ (parseMethodDescriptor y_Reducer_ask.desc).map (fun d => d.parameters.length) = some 3 := ⟨rfl, by decide, by decide, by decide +kernel⟩
abbrev b_Reducer_less : ByteArray := prog_6_method_4_code
abbrev y_Reducer_less : MethodName := ⟨"InferReduce$Reducer", "less", "()I"⟩
theorem dd_Reducer_less : y_Reducer_less.cls = "InferReduce$Reducer" ∧ y_Reducer_less.cls ≠ "java/lang/invoke/MethodHandle" ∧ y_Reducer_less.cls ≠ "java/lang/invoke/VarHandle" ∧ (parseMethodDescriptor y_Reducer_less.desc).map (fun d => d.parameters.length) = some 0 := ⟨rfl, by decide, by decide, by decide +kernel⟩
abbrev b_Reducer_within : ByteArray := prog_6_method_5_code
abbrev y_Reducer_within : MethodName := ⟨"InferReduce$Reducer", "within", "(III)I"⟩
theorem dd_Reducer_within : y_Reducer_within.cls = "InferReduce$Reducer" ∧ y_Reducer_within.cls ≠ "java/lang/invoke/MethodHandle" ∧ y_Reducer_within.cls ≠ "java/lang/invoke/VarHandle" ∧ (parseMethodDescriptor y_Reducer_within.desc).map (fun d => d.parameters.length) = some 3 := ⟨rfl, by decide, by decide, by decide +kernel⟩
abbrev b_Reducer_withinArguments : ByteArray := prog_6_method_6_code
abbrev y_Reducer_withinArguments : MethodName := ⟨"InferReduce$Reducer", "withinArguments", "(III)I"⟩
theorem dd_Reducer_withinArguments : y_Reducer_withinArguments.cls = "InferReduce$Reducer" ∧ y_Reducer_withinArguments.cls ≠ "java/lang/invoke/MethodHandle" ∧ y_Reducer_withinArguments.cls ≠ "java/lang/invoke/VarHandle" ∧ (parseMethodDescriptor y_Reducer_withinArguments.desc).map (fun d => d.parameters.length) = some 3 := ⟨rfl, by decide, by decide, by decide +kernel⟩
abbrev b_Reducer_lessCompatible : ByteArray := prog_6_method_7_code
abbrev y_Reducer_lessCompatible : MethodName := ⟨"InferReduce$Reducer", "lessCompatible", "(II)I"⟩
theorem dd_Reducer_lessCompatible : y_Reducer_lessCompatible.cls = "InferReduce$Reducer" ∧ y_Reducer_lessCompatible.cls ≠ "java/lang/invoke/MethodHandle" ∧ y_Reducer_lessCompatible.cls ≠ "java/lang/invoke/VarHandle" ∧ (parseMethodDescriptor y_Reducer_lessCompatible.desc).map (fun d => d.parameters.length) = some 2 := ⟨rfl, by decide, by decide, by decide +kernel⟩
abbrev b_Reducer_lessSub : ByteArray := prog_6_method_8_code
abbrev y_Reducer_lessSub : MethodName := ⟨"InferReduce$Reducer", "lessSub", "(II)I"⟩
theorem dd_Reducer_lessSub : y_Reducer_lessSub.cls = "InferReduce$Reducer" ∧ y_Reducer_lessSub.cls ≠ "java/lang/invoke/MethodHandle" ∧ y_Reducer_lessSub.cls ≠ "java/lang/invoke/VarHandle" ∧ (parseMethodDescriptor y_Reducer_lessSub.desc).map (fun d => d.parameters.length) = some 2 := ⟨rfl, by decide, by decide, by decide +kernel⟩
abbrev b_Reducer_lessContained : ByteArray := prog_6_method_9_code
abbrev y_Reducer_lessContained : MethodName := ⟨"InferReduce$Reducer", "lessContained", "(II)I"⟩
theorem dd_Reducer_lessContained : y_Reducer_lessContained.cls = "InferReduce$Reducer" ∧ y_Reducer_lessContained.cls ≠ "java/lang/invoke/MethodHandle" ∧ y_Reducer_lessContained.cls ≠ "java/lang/invoke/VarHandle" ∧ (parseMethodDescriptor y_Reducer_lessContained.desc).map (fun d => d.parameters.length) = some 2 := ⟨rfl, by decide, by decide, by decide +kernel⟩
abbrev b_Reducer_lessEqual : ByteArray := prog_6_method_10_code
abbrev y_Reducer_lessEqual : MethodName := ⟨"InferReduce$Reducer", "lessEqual", "(II)I"⟩
theorem dd_Reducer_lessEqual : y_Reducer_lessEqual.cls = "InferReduce$Reducer" ∧ y_Reducer_lessEqual.cls ≠ "java/lang/invoke/MethodHandle" ∧ y_Reducer_lessEqual.cls ≠ "java/lang/invoke/VarHandle" ∧ (parseMethodDescriptor y_Reducer_lessEqual.desc).map (fun d => d.parameters.length) = some 2 := ⟨rfl, by decide, by decide, by decide +kernel⟩
abbrev b_Reducer_bind : ByteArray := prog_6_method_11_code
abbrev y_Reducer_bind : MethodName := ⟨"InferReduce$Reducer", "bind", "(IIII)I"⟩
theorem dd_Reducer_bind : y_Reducer_bind.cls = "InferReduce$Reducer" ∧ y_Reducer_bind.cls ≠ "java/lang/invoke/MethodHandle" ∧ y_Reducer_bind.cls ≠ "java/lang/invoke/VarHandle" ∧ (parseMethodDescriptor y_Reducer_bind.desc).map (fun d => d.parameters.length) = some 4 := ⟨rfl, by decide, by decide, by decide +kernel⟩
abbrev b_Reducer_truth : ByteArray := prog_6_method_12_code
abbrev y_Reducer_truth : MethodName := ⟨"InferReduce$Reducer", "truth", "(Z)I"⟩
theorem dd_Reducer_truth : y_Reducer_truth.cls ≠ "java/lang/invoke/MethodHandle" ∧ y_Reducer_truth.cls ≠ "java/lang/invoke/VarHandle" ∧ (parseMethodDescriptor y_Reducer_truth.desc).map (fun d => d.parameters.length) = some 1 := ⟨by decide, by decide, by decide +kernel⟩
abbrev b_Reducer_boxOf : ByteArray := prog_6_method_13_code
abbrev y_Reducer_boxOf : MethodName := ⟨"InferReduce$Reducer", "boxOf", "(I)I"⟩
theorem dd_Reducer_boxOf : y_Reducer_boxOf.cls = "InferReduce$Reducer" ∧ y_Reducer_boxOf.cls ≠ "java/lang/invoke/MethodHandle" ∧ y_Reducer_boxOf.cls ≠ "java/lang/invoke/VarHandle" ∧ (parseMethodDescriptor y_Reducer_boxOf.desc).map (fun d => d.parameters.length) = some 1 := ⟨rfl, by decide, by decide, by decide +kernel⟩
abbrev b_Reducer_widens : ByteArray := prog_6_method_14_code
abbrev y_Reducer_widens : MethodName := ⟨"InferReduce$Reducer", "widens", "(II)Z"⟩
theorem dd_Reducer_widens : y_Reducer_widens.cls ≠ "java/lang/invoke/MethodHandle" ∧ y_Reducer_widens.cls ≠ "java/lang/invoke/VarHandle" ∧ (parseMethodDescriptor y_Reducer_widens.desc).map (fun d => d.parameters.length) = some 2 := ⟨by decide, by decide, by decide +kernel⟩
abbrev b_Reducer_unboxes : ByteArray := prog_6_method_15_code
abbrev y_Reducer_unboxes : MethodName := ⟨"InferReduce$Reducer", "unboxes", "(II)Z"⟩
theorem dd_Reducer_unboxes : y_Reducer_unboxes.cls = "InferReduce$Reducer" ∧ y_Reducer_unboxes.cls ≠ "java/lang/invoke/MethodHandle" ∧ y_Reducer_unboxes.cls ≠ "java/lang/invoke/VarHandle" ∧ (parseMethodDescriptor y_Reducer_unboxes.desc).map (fun d => d.parameters.length) = some 2 := ⟨rfl, by decide, by decide, by decide +kernel⟩
abbrev b_Reducer_aboveOf : ByteArray := prog_6_method_16_code
abbrev y_Reducer_aboveOf : MethodName := ⟨"InferReduce$Reducer", "aboveOf", "(II)I"⟩
theorem dd_Reducer_aboveOf : y_Reducer_aboveOf.cls = "InferReduce$Reducer" ∧ y_Reducer_aboveOf.cls ≠ "java/lang/invoke/MethodHandle" ∧ y_Reducer_aboveOf.cls ≠ "java/lang/invoke/VarHandle" ∧ (parseMethodDescriptor y_Reducer_aboveOf.desc).map (fun d => d.parameters.length) = some 2 := ⟨rfl, by decide, by decide, by decide +kernel⟩
abbrev b_Resolver_init : ByteArray := prog_7_method_1_code
abbrev y_Resolver_init : MethodName := ⟨"InferReduce$Resolver", "<init>", "(LInferReduce$Classes;LInferReduce$Types;LInferReduce$Bounds;LInferReduce$Reducer;)V"⟩
theorem dd_Resolver_init : y_Resolver_init.cls = "InferReduce$Resolver" ∧ y_Resolver_init.cls ≠ "java/lang/invoke/MethodHandle" ∧ y_Resolver_init.cls ≠ "java/lang/invoke/VarHandle" ∧ (parseMethodDescriptor y_Resolver_init.desc).map (fun d => d.parameters.length) = some 4 := ⟨rfl, by decide, by decide, by decide +kernel⟩
abbrev b_Resolver_choiceOf : ByteArray := prog_7_method_2_code
abbrev y_Resolver_choiceOf : MethodName := ⟨"InferReduce$Resolver", "choiceOf", "(I)I"⟩
theorem dd_Resolver_choiceOf : y_Resolver_choiceOf.cls = "InferReduce$Resolver" ∧ y_Resolver_choiceOf.cls ≠ "java/lang/invoke/MethodHandle" ∧ y_Resolver_choiceOf.cls ≠ "java/lang/invoke/VarHandle" ∧ (parseMethodDescriptor y_Resolver_choiceOf.desc).map (fun d => d.parameters.length) = some 1 := ⟨rfl, by decide, by decide, by decide +kernel⟩
abbrev b_Resolver_nextGroup : ByteArray := prog_7_method_3_code
abbrev y_Resolver_nextGroup : MethodName := ⟨"InferReduce$Resolver", "nextGroup", "(I)I"⟩
theorem dd_Resolver_nextGroup : y_Resolver_nextGroup.cls = "InferReduce$Resolver" ∧ y_Resolver_nextGroup.cls ≠ "java/lang/invoke/MethodHandle" ∧ y_Resolver_nextGroup.cls ≠ "java/lang/invoke/VarHandle" ∧ (parseMethodDescriptor y_Resolver_nextGroup.desc).map (fun d => d.parameters.length) = some 1 := ⟨rfl, by decide, by decide, by decide +kernel⟩
abbrev b_Resolver_link : ByteArray := prog_7_method_4_code
abbrev y_Resolver_link : MethodName := ⟨"InferReduce$Resolver", "link", "(I)V"⟩
theorem dd_Resolver_link : y_Resolver_link.cls = "InferReduce$Resolver" ∧ y_Resolver_link.cls ≠ "java/lang/invoke/MethodHandle" ∧ y_Resolver_link.cls ≠ "java/lang/invoke/VarHandle" ∧ (parseMethodDescriptor y_Resolver_link.desc).map (fun d => d.parameters.length) = some 1 := ⟨rfl, by decide, by decide, by decide +kernel⟩
abbrev b_Resolver_groupOf : ByteArray := prog_7_method_5_code
abbrev y_Resolver_groupOf : MethodName := ⟨"InferReduce$Resolver", "groupOf", "(I)I"⟩
theorem dd_Resolver_groupOf : y_Resolver_groupOf.cls = "InferReduce$Resolver" ∧ y_Resolver_groupOf.cls ≠ "java/lang/invoke/MethodHandle" ∧ y_Resolver_groupOf.cls ≠ "java/lang/invoke/VarHandle" ∧ (parseMethodDescriptor y_Resolver_groupOf.desc).map (fun d => d.parameters.length) = some 1 := ⟨rfl, by decide, by decide, by decide +kernel⟩
abbrev b_Resolver_choose : ByteArray := prog_7_method_6_code
abbrev y_Resolver_choose : MethodName := ⟨"InferReduce$Resolver", "choose", "(I)I"⟩
theorem dd_Resolver_choose : y_Resolver_choose.cls = "InferReduce$Resolver" ∧ y_Resolver_choose.cls ≠ "java/lang/invoke/MethodHandle" ∧ y_Resolver_choose.cls ≠ "java/lang/invoke/VarHandle" ∧ (parseMethodDescriptor y_Resolver_choose.desc).map (fun d => d.parameters.length) = some 1 := ⟨rfl, by decide, by decide, by decide +kernel⟩
abbrev b_Resolver_gather : ByteArray := prog_7_method_7_code
abbrev y_Resolver_gather : MethodName := ⟨"InferReduce$Resolver", "gather", "(II)V"⟩
theorem dd_Resolver_gather : y_Resolver_gather.cls = "InferReduce$Resolver" ∧ y_Resolver_gather.cls ≠ "java/lang/invoke/MethodHandle" ∧ y_Resolver_gather.cls ≠ "java/lang/invoke/VarHandle" ∧ (parseMethodDescriptor y_Resolver_gather.desc).map (fun d => d.parameters.length) = some 2 := ⟨rfl, by decide, by decide, by decide +kernel⟩
abbrev b_Resolver_outermost : ByteArray := prog_7_method_8_code
abbrev y_Resolver_outermost : MethodName := ⟨"InferReduce$Resolver", "outermost", "(I)I"⟩
theorem dd_Resolver_outermost : y_Resolver_outermost.cls = "InferReduce$Resolver" ∧ y_Resolver_outermost.cls ≠ "java/lang/invoke/MethodHandle" ∧ y_Resolver_outermost.cls ≠ "java/lang/invoke/VarHandle" ∧ (parseMethodDescriptor y_Resolver_outermost.desc).map (fun d => d.parameters.length) = some 1 := ⟨rfl, by decide, by decide, by decide +kernel⟩
abbrev b_Resolver_joinOfClasses : ByteArray := prog_7_method_9_code
abbrev y_Resolver_joinOfClasses : MethodName := ⟨"InferReduce$Resolver", "joinOfClasses", "()I"⟩
theorem dd_Resolver_joinOfClasses : y_Resolver_joinOfClasses.cls = "InferReduce$Resolver" ∧ y_Resolver_joinOfClasses.cls ≠ "java/lang/invoke/MethodHandle" ∧ y_Resolver_joinOfClasses.cls ≠ "java/lang/invoke/VarHandle" ∧ (parseMethodDescriptor y_Resolver_joinOfClasses.desc).map (fun d => d.parameters.length) = some 0 := ⟨rfl, by decide, by decide, by decide +kernel⟩
abbrev b_Resolver_isAboveAll : ByteArray := prog_7_method_10_code
abbrev y_Resolver_isAboveAll : MethodName := ⟨"InferReduce$Resolver", "isAboveAll", "(I)I"⟩
theorem dd_Resolver_isAboveAll : y_Resolver_isAboveAll.cls = "InferReduce$Resolver" ∧ y_Resolver_isAboveAll.cls ≠ "java/lang/invoke/MethodHandle" ∧ y_Resolver_isAboveAll.cls ≠ "java/lang/invoke/VarHandle" ∧ (parseMethodDescriptor y_Resolver_isAboveAll.desc).map (fun d => d.parameters.length) = some 1 := ⟨rfl, by decide, by decide, by decide +kernel⟩
abbrev b_Resolver_isAboveAnother : ByteArray := prog_7_method_11_code
abbrev y_Resolver_isAboveAnother : MethodName := ⟨"InferReduce$Resolver", "isAboveAnother", "(IJ)I"⟩
theorem dd_Resolver_isAboveAnother : y_Resolver_isAboveAnother.cls = "InferReduce$Resolver" ∧ y_Resolver_isAboveAnother.cls ≠ "java/lang/invoke/MethodHandle" ∧ y_Resolver_isAboveAnother.cls ≠ "java/lang/invoke/VarHandle" ∧ (parseMethodDescriptor y_Resolver_isAboveAnother.desc).map (fun d => d.parameters.length) = some 2 := ⟨rfl, by decide, by decide, by decide +kernel⟩
abbrev b_Resolver_joinAs : ByteArray := prog_7_method_12_code
abbrev y_Resolver_joinAs : MethodName := ⟨"InferReduce$Resolver", "joinAs", "(I)I"⟩
theorem dd_Resolver_joinAs : y_Resolver_joinAs.cls = "InferReduce$Resolver" ∧ y_Resolver_joinAs.cls ≠ "java/lang/invoke/MethodHandle" ∧ y_Resolver_joinAs.cls ≠ "java/lang/invoke/VarHandle" ∧ (parseMethodDescriptor y_Resolver_joinAs.desc).map (fun d => d.parameters.length) = some 1 := ⟨rfl, by decide, by decide, by decide +kernel⟩
abbrev b_Resolver_sharedArgument : ByteArray := prog_7_method_13_code
abbrev y_Resolver_sharedArgument : MethodName := ⟨"InferReduce$Resolver", "sharedArgument", "(II)I"⟩
theorem dd_Resolver_sharedArgument : y_Resolver_sharedArgument.cls = "InferReduce$Resolver" ∧ y_Resolver_sharedArgument.cls ≠ "java/lang/invoke/MethodHandle" ∧ y_Resolver_sharedArgument.cls ≠ "java/lang/invoke/VarHandle" ∧ (parseMethodDescriptor y_Resolver_sharedArgument.desc).map (fun d => d.parameters.length) = some 2 := ⟨rfl, by decide, by decide, by decide +kernel⟩
abbrev b_Told_init : ByteArray := prog_8_method_1_code
abbrev y_Told_init : MethodName := ⟨"InferReduce$Told", "<init>", "()V"⟩
theorem dd_Told_init : y_Told_init.cls = "InferReduce$Told" ∧ y_Told_init.cls ≠ "java/lang/invoke/MethodHandle" ∧ y_Told_init.cls ≠ "java/lang/invoke/VarHandle" ∧ (parseMethodDescriptor y_Told_init.desc).map (fun d => d.parameters.length) = some 0 := ⟨rfl, by decide, by decide, by decide +kernel⟩
abbrev b_Told_has : ByteArray := prog_8_method_2_code
abbrev y_Told_has : MethodName := ⟨"InferReduce$Told", "has", "(I)Z"⟩
theorem dd_Told_has : y_Told_has.cls = "InferReduce$Told" ∧ y_Told_has.cls ≠ "java/lang/invoke/MethodHandle" ∧ y_Told_has.cls ≠ "java/lang/invoke/VarHandle" ∧ (parseMethodDescriptor y_Told_has.desc).map (fun d => d.parameters.length) = some 1 := ⟨rfl, by decide, by decide, by decide +kernel⟩
abbrev b_Told_hasRoom : ByteArray := prog_8_method_3_code
abbrev y_Told_hasRoom : MethodName := ⟨"InferReduce$Told", "hasRoom", "()Z"⟩
theorem dd_Told_hasRoom : y_Told_hasRoom.cls = "InferReduce$Told" ∧ y_Told_hasRoom.cls ≠ "java/lang/invoke/MethodHandle" ∧ y_Told_hasRoom.cls ≠ "java/lang/invoke/VarHandle" ∧ (parseMethodDescriptor y_Told_hasRoom.desc).map (fun d => d.parameters.length) = some 0 := ⟨rfl, by decide, by decide, by decide +kernel⟩
abbrev b_Told_add : ByteArray := prog_8_method_4_code
abbrev y_Told_add : MethodName := ⟨"InferReduce$Told", "add", "(III)I"⟩
theorem dd_Told_add : y_Told_add.cls = "InferReduce$Told" ∧ y_Told_add.cls ≠ "java/lang/invoke/MethodHandle" ∧ y_Told_add.cls ≠ "java/lang/invoke/VarHandle" ∧ (parseMethodDescriptor y_Told_add.desc).map (fun d => d.parameters.length) = some 3 := ⟨rfl, by decide, by decide, by decide +kernel⟩
abbrev b_Told_sortOf : ByteArray := prog_8_method_5_code
abbrev y_Told_sortOf : MethodName := ⟨"InferReduce$Told", "sortOf", "(I)I"⟩
theorem dd_Told_sortOf : y_Told_sortOf.cls = "InferReduce$Told" ∧ y_Told_sortOf.cls ≠ "java/lang/invoke/MethodHandle" ∧ y_Told_sortOf.cls ≠ "java/lang/invoke/VarHandle" ∧ (parseMethodDescriptor y_Told_sortOf.desc).map (fun d => d.parameters.length) = some 1 := ⟨rfl, by decide, by decide, by decide +kernel⟩
abbrev b_Told_leftOf : ByteArray := prog_8_method_6_code
abbrev y_Told_leftOf : MethodName := ⟨"InferReduce$Told", "leftOf", "(I)I"⟩
theorem dd_Told_leftOf : y_Told_leftOf.cls = "InferReduce$Told" ∧ y_Told_leftOf.cls ≠ "java/lang/invoke/MethodHandle" ∧ y_Told_leftOf.cls ≠ "java/lang/invoke/VarHandle" ∧ (parseMethodDescriptor y_Told_leftOf.desc).map (fun d => d.parameters.length) = some 1 := ⟨rfl, by decide, by decide, by decide +kernel⟩
abbrev b_Told_rightOf : ByteArray := prog_8_method_7_code
abbrev y_Told_rightOf : MethodName := ⟨"InferReduce$Told", "rightOf", "(I)I"⟩
theorem dd_Told_rightOf : y_Told_rightOf.cls = "InferReduce$Told" ∧ y_Told_rightOf.cls ≠ "java/lang/invoke/MethodHandle" ∧ y_Told_rightOf.cls ≠ "java/lang/invoke/VarHandle" ∧ (parseMethodDescriptor y_Told_rightOf.desc).map (fun d => d.parameters.length) = some 1 := ⟨rfl, by decide, by decide, by decide +kernel⟩
abbrev b_Told_markUnchecked : ByteArray := prog_8_method_8_code
abbrev y_Told_markUnchecked : MethodName := ⟨"InferReduce$Told", "markUnchecked", "(I)V"⟩
theorem dd_Told_markUnchecked : y_Told_markUnchecked.cls = "InferReduce$Told" ∧ y_Told_markUnchecked.cls ≠ "java/lang/invoke/MethodHandle" ∧ y_Told_markUnchecked.cls ≠ "java/lang/invoke/VarHandle" ∧ (parseMethodDescriptor y_Told_markUnchecked.desc).map (fun d => d.parameters.length) = some 1 := ⟨rfl, by decide, by decide, by decide +kernel⟩
abbrev b_Told_isUnchecked : ByteArray := prog_8_method_9_code
abbrev y_Told_isUnchecked : MethodName := ⟨"InferReduce$Told", "isUnchecked", "(I)Z"⟩
theorem dd_Told_isUnchecked : y_Told_isUnchecked.cls = "InferReduce$Told" ∧ y_Told_isUnchecked.cls ≠ "java/lang/invoke/MethodHandle" ∧ y_Told_isUnchecked.cls ≠ "java/lang/invoke/VarHandle" ∧ (parseMethodDescriptor y_Told_isUnchecked.desc).map (fun d => d.parameters.length) = some 1 := ⟨rfl, by decide, by decide, by decide +kernel⟩
abbrev b_Types_init : ByteArray := prog_9_method_1_code
abbrev y_Types_init : MethodName := ⟨"InferReduce$Types", "<init>", "()V"⟩
theorem dd_Types_init : y_Types_init.cls = "InferReduce$Types" ∧ y_Types_init.cls ≠ "java/lang/invoke/MethodHandle" ∧ y_Types_init.cls ≠ "java/lang/invoke/VarHandle" ∧ (parseMethodDescriptor y_Types_init.desc).map (fun d => d.parameters.length) = some 0 := ⟨rfl, by decide, by decide, by decide +kernel⟩
abbrev b_Types_has : ByteArray := prog_9_method_2_code
abbrev y_Types_has : MethodName := ⟨"InferReduce$Types", "has", "(I)Z"⟩
theorem dd_Types_has : y_Types_has.cls = "InferReduce$Types" ∧ y_Types_has.cls ≠ "java/lang/invoke/MethodHandle" ∧ y_Types_has.cls ≠ "java/lang/invoke/VarHandle" ∧ (parseMethodDescriptor y_Types_has.desc).map (fun d => d.parameters.length) = some 1 := ⟨rfl, by decide, by decide, by decide +kernel⟩
abbrev b_Types_kindOf : ByteArray := prog_9_method_3_code
abbrev y_Types_kindOf : MethodName := ⟨"InferReduce$Types", "kindOf", "(I)I"⟩
theorem dd_Types_kindOf : y_Types_kindOf.cls = "InferReduce$Types" ∧ y_Types_kindOf.cls ≠ "java/lang/invoke/MethodHandle" ∧ y_Types_kindOf.cls ≠ "java/lang/invoke/VarHandle" ∧ (parseMethodDescriptor y_Types_kindOf.desc).map (fun d => d.parameters.length) = some 1 := ⟨rfl, by decide, by decide, by decide +kernel⟩
abbrev b_Types_firstOf : ByteArray := prog_9_method_4_code
abbrev y_Types_firstOf : MethodName := ⟨"InferReduce$Types", "firstOf", "(I)I"⟩
theorem dd_Types_firstOf : y_Types_firstOf.cls = "InferReduce$Types" ∧ y_Types_firstOf.cls ≠ "java/lang/invoke/MethodHandle" ∧ y_Types_firstOf.cls ≠ "java/lang/invoke/VarHandle" ∧ (parseMethodDescriptor y_Types_firstOf.desc).map (fun d => d.parameters.length) = some 1 := ⟨rfl, by decide, by decide, by decide +kernel⟩
abbrev b_Types_secondOf : ByteArray := prog_9_method_5_code
abbrev y_Types_secondOf : MethodName := ⟨"InferReduce$Types", "secondOf", "(I)I"⟩
theorem dd_Types_secondOf : y_Types_secondOf.cls = "InferReduce$Types" ∧ y_Types_secondOf.cls ≠ "java/lang/invoke/MethodHandle" ∧ y_Types_secondOf.cls ≠ "java/lang/invoke/VarHandle" ∧ (parseMethodDescriptor y_Types_secondOf.desc).map (fun d => d.parameters.length) = some 1 := ⟨rfl, by decide, by decide, by decide +kernel⟩
abbrev b_Types_thirdOf : ByteArray := prog_9_method_6_code
abbrev y_Types_thirdOf : MethodName := ⟨"InferReduce$Types", "thirdOf", "(I)I"⟩
theorem dd_Types_thirdOf : y_Types_thirdOf.cls = "InferReduce$Types" ∧ y_Types_thirdOf.cls ≠ "java/lang/invoke/MethodHandle" ∧ y_Types_thirdOf.cls ≠ "java/lang/invoke/VarHandle" ∧ (parseMethodDescriptor y_Types_thirdOf.desc).map (fun d => d.parameters.length) = some 1 := ⟨rfl, by decide, by decide, by decide +kernel⟩
abbrev b_Types_depthOf : ByteArray := prog_9_method_7_code
abbrev y_Types_depthOf : MethodName := ⟨"InferReduce$Types", "depthOf", "(I)I"⟩
theorem dd_Types_depthOf : y_Types_depthOf.cls = "InferReduce$Types" ∧ y_Types_depthOf.cls ≠ "java/lang/invoke/MethodHandle" ∧ y_Types_depthOf.cls ≠ "java/lang/invoke/VarHandle" ∧ (parseMethodDescriptor y_Types_depthOf.desc).map (fun d => d.parameters.length) = some 1 := ⟨rfl, by decide, by decide, by decide +kernel⟩
abbrev b_Types_variablesIn : ByteArray := prog_9_method_8_code
abbrev y_Types_variablesIn : MethodName := ⟨"InferReduce$Types", "variablesIn", "(I)I"⟩
theorem dd_Types_variablesIn : y_Types_variablesIn.cls = "InferReduce$Types" ∧ y_Types_variablesIn.cls ≠ "java/lang/invoke/MethodHandle" ∧ y_Types_variablesIn.cls ≠ "java/lang/invoke/VarHandle" ∧ (parseMethodDescriptor y_Types_variablesIn.desc).map (fun d => d.parameters.length) = some 1 := ⟨rfl, by decide, by decide, by decide +kernel⟩
abbrev b_Types_isProper : ByteArray := prog_9_method_9_code
abbrev y_Types_isProper : MethodName := ⟨"InferReduce$Types", "isProper", "(I)Z"⟩
theorem dd_Types_isProper : y_Types_isProper.cls = "InferReduce$Types" ∧ y_Types_isProper.cls ≠ "java/lang/invoke/MethodHandle" ∧ y_Types_isProper.cls ≠ "java/lang/invoke/VarHandle" ∧ (parseMethodDescriptor y_Types_isProper.desc).map (fun d => d.parameters.length) = some 1 := ⟨rfl, by decide, by decide, by decide +kernel⟩
abbrev b_Types_ownersIn : ByteArray := prog_9_method_10_code
abbrev y_Types_ownersIn : MethodName := ⟨"InferReduce$Types", "ownersIn", "(II)J"⟩
theorem dd_Types_ownersIn : y_Types_ownersIn.cls = "InferReduce$Types" ∧ y_Types_ownersIn.cls ≠ "java/lang/invoke/MethodHandle" ∧ y_Types_ownersIn.cls ≠ "java/lang/invoke/VarHandle" ∧ (parseMethodDescriptor y_Types_ownersIn.desc).map (fun d => d.parameters.length) = some 2 := ⟨rfl, by decide, by decide, by decide +kernel⟩
abbrev b_Types_isOfClassesBefore : ByteArray := prog_9_method_11_code
abbrev y_Types_isOfClassesBefore : MethodName := ⟨"InferReduce$Types", "isOfClassesBefore", "(II)Z"⟩
theorem dd_Types_isOfClassesBefore : y_Types_isOfClassesBefore.cls = "InferReduce$Types" ∧ y_Types_isOfClassesBefore.cls ≠ "java/lang/invoke/MethodHandle" ∧ y_Types_isOfClassesBefore.cls ≠ "java/lang/invoke/VarHandle" ∧ (parseMethodDescriptor y_Types_isOfClassesBefore.desc).map (fun d => d.parameters.length) = some 2 := ⟨rfl, by decide, by decide, by decide +kernel⟩
abbrev b_Types_argumentOf : ByteArray := prog_9_method_12_code
abbrev y_Types_argumentOf : MethodName := ⟨"InferReduce$Types", "argumentOf", "(II)I"⟩
theorem dd_Types_argumentOf : y_Types_argumentOf.cls = "InferReduce$Types" ∧ y_Types_argumentOf.cls ≠ "java/lang/invoke/MethodHandle" ∧ y_Types_argumentOf.cls ≠ "java/lang/invoke/VarHandle" ∧ (parseMethodDescriptor y_Types_argumentOf.desc).map (fun d => d.parameters.length) = some 2 := ⟨rfl, by decide, by decide, by decide +kernel⟩
abbrev b_Types_classOf : ByteArray := prog_9_method_13_code
abbrev y_Types_classOf : MethodName := ⟨"InferReduce$Types", "classOf", "(I)I"⟩
theorem dd_Types_classOf : y_Types_classOf.cls = "InferReduce$Types" ∧ y_Types_classOf.cls ≠ "java/lang/invoke/MethodHandle" ∧ y_Types_classOf.cls ≠ "java/lang/invoke/VarHandle" ∧ (parseMethodDescriptor y_Types_classOf.desc).map (fun d => d.parameters.length) = some 1 := ⟨rfl, by decide, by decide, by decide +kernel⟩
abbrev b_Types_captureBound : ByteArray := prog_9_method_14_code
abbrev y_Types_captureBound : MethodName := ⟨"InferReduce$Types", "captureBound", "(II)I"⟩
theorem dd_Types_captureBound : y_Types_captureBound.cls = "InferReduce$Types" ∧ y_Types_captureBound.cls ≠ "java/lang/invoke/MethodHandle" ∧ y_Types_captureBound.cls ≠ "java/lang/invoke/VarHandle" ∧ (parseMethodDescriptor y_Types_captureBound.desc).map (fun d => d.parameters.length) = some 2 := ⟨rfl, by decide, by decide, by decide +kernel⟩
abbrev b_Types_make : ByteArray := prog_9_method_15_code
abbrev y_Types_make : MethodName := ⟨"InferReduce$Types", "make", "(IIII)I"⟩
theorem dd_Types_make : y_Types_make.cls = "InferReduce$Types" ∧ y_Types_make.cls ≠ "java/lang/invoke/MethodHandle" ∧ y_Types_make.cls ≠ "java/lang/invoke/VarHandle" ∧ (parseMethodDescriptor y_Types_make.desc).map (fun d => d.parameters.length) = some 4 := ⟨rfl, by decide, by decide, by decide +kernel⟩
abbrev b_Work_init : ByteArray := prog_10_method_1_code
abbrev y_Work_init : MethodName := ⟨"InferReduce$Work", "<init>", "()V"⟩
theorem dd_Work_init : y_Work_init.cls = "InferReduce$Work" ∧ y_Work_init.cls ≠ "java/lang/invoke/MethodHandle" ∧ y_Work_init.cls ≠ "java/lang/invoke/VarHandle" ∧ (parseMethodDescriptor y_Work_init.desc).map (fun d => d.parameters.length) = some 0 := ⟨rfl, by decide, by decide, by decide +kernel⟩
abbrev b_Work_add : ByteArray := prog_10_method_2_code
abbrev y_Work_add : MethodName := ⟨"InferReduce$Work", "add", "(IIII)Z"⟩
theorem dd_Work_add : y_Work_add.cls = "InferReduce$Work" ∧ y_Work_add.cls ≠ "java/lang/invoke/MethodHandle" ∧ y_Work_add.cls ≠ "java/lang/invoke/VarHandle" ∧ (parseMethodDescriptor y_Work_add.desc).map (fun d => d.parameters.length) = some 4 := ⟨rfl, by decide, by decide, by decide +kernel⟩
abbrev b_Work_take : ByteArray := prog_10_method_3_code
abbrev y_Work_take : MethodName := ⟨"InferReduce$Work", "take", "()Z"⟩
theorem dd_Work_take : y_Work_take.cls = "InferReduce$Work" ∧ y_Work_take.cls ≠ "java/lang/invoke/MethodHandle" ∧ y_Work_take.cls ≠ "java/lang/invoke/VarHandle" ∧ (parseMethodDescriptor y_Work_take.desc).map (fun d => d.parameters.length) = some 0 := ⟨rfl, by decide, by decide, by decide +kernel⟩
abbrev b_I_init : ByteArray := prog_1_method_1_code
abbrev y_I_init : MethodName := ⟨"InferReduce", "<init>", "()V"⟩
theorem dd_I_init : y_I_init.cls = "InferReduce" ∧ y_I_init.cls ≠ "java/lang/invoke/MethodHandle" ∧ y_I_init.cls ≠ "java/lang/invoke/VarHandle" ∧ (parseMethodDescriptor y_I_init.desc).map (fun d => d.parameters.length) = some 0 := ⟨rfl, by decide, by decide, by decide +kernel⟩
abbrev b_I_declare : ByteArray := prog_1_method_2_code
abbrev y_I_declare : MethodName := ⟨"InferReduce", "declare", "(I)I"⟩
theorem dd_I_declare : y_I_declare.cls = "InferReduce" ∧ y_I_declare.cls ≠ "java/lang/invoke/MethodHandle" ∧ y_I_declare.cls ≠ "java/lang/invoke/VarHandle" ∧ (parseMethodDescriptor y_I_declare.desc).map (fun d => d.parameters.length) = some 1 := ⟨rfl, by decide, by decide, by decide +kernel⟩
abbrev b_I_parent : ByteArray := prog_1_method_3_code
abbrev y_I_parent : MethodName := ⟨"InferReduce", "parent", "(II)I"⟩
theorem dd_I_parent : y_I_parent.cls = "InferReduce" ∧ y_I_parent.cls ≠ "java/lang/invoke/MethodHandle" ∧ y_I_parent.cls ≠ "java/lang/invoke/VarHandle" ∧ (parseMethodDescriptor y_I_parent.desc).map (fun d => d.parameters.length) = some 2 := ⟨rfl, by decide, by decide, by decide +kernel⟩
abbrev b_I_plain : ByteArray := prog_1_method_4_code
abbrev y_I_plain : MethodName := ⟨"InferReduce", "plain", "(I)I"⟩
theorem dd_I_plain : y_I_plain.cls = "InferReduce" ∧ y_I_plain.cls ≠ "java/lang/invoke/MethodHandle" ∧ y_I_plain.cls ≠ "java/lang/invoke/VarHandle" ∧ (parseMethodDescriptor y_I_plain.desc).map (fun d => d.parameters.length) = some 1 := ⟨rfl, by decide, by decide, by decide +kernel⟩
abbrev b_I_of : ByteArray := prog_1_method_5_code
abbrev y_I_of : MethodName := ⟨"InferReduce", "of", "(III)I"⟩
theorem dd_I_of : y_I_of.cls = "InferReduce" ∧ y_I_of.cls ≠ "java/lang/invoke/MethodHandle" ∧ y_I_of.cls ≠ "java/lang/invoke/VarHandle" ∧ (parseMethodDescriptor y_I_of.desc).map (fun d => d.parameters.length) = some 3 := ⟨rfl, by decide, by decide, by decide +kernel⟩
abbrev b_I_wild : ByteArray := prog_1_method_6_code
abbrev y_I_wild : MethodName := ⟨"InferReduce", "wild", "(II)I"⟩
theorem dd_I_wild : y_I_wild.cls = "InferReduce" ∧ y_I_wild.cls ≠ "java/lang/invoke/MethodHandle" ∧ y_I_wild.cls ≠ "java/lang/invoke/VarHandle" ∧ (parseMethodDescriptor y_I_wild.desc).map (fun d => d.parameters.length) = some 2 := ⟨rfl, by decide, by decide, by decide +kernel⟩
abbrev b_I_parameter : ByteArray := prog_1_method_7_code
abbrev y_I_parameter : MethodName := ⟨"InferReduce", "parameter", "(II)I"⟩
theorem dd_I_parameter : y_I_parameter.cls = "InferReduce" ∧ y_I_parameter.cls ≠ "java/lang/invoke/MethodHandle" ∧ y_I_parameter.cls ≠ "java/lang/invoke/VarHandle" ∧ (parseMethodDescriptor y_I_parameter.desc).map (fun d => d.parameters.length) = some 2 := ⟨rfl, by decide, by decide, by decide +kernel⟩
abbrev b_I_array : ByteArray := prog_1_method_8_code
abbrev y_I_array : MethodName := ⟨"InferReduce", "array", "(I)I"⟩
theorem dd_I_array : y_I_array.cls = "InferReduce" ∧ y_I_array.cls ≠ "java/lang/invoke/MethodHandle" ∧ y_I_array.cls ≠ "java/lang/invoke/VarHandle" ∧ (parseMethodDescriptor y_I_array.desc).map (fun d => d.parameters.length) = some 1 := ⟨rfl, by decide, by decide, by decide +kernel⟩
abbrev b_I_primitive : ByteArray := prog_1_method_9_code
abbrev y_I_primitive : MethodName := ⟨"InferReduce", "primitive", "(I)I"⟩
theorem dd_I_primitive : y_I_primitive.cls = "InferReduce" ∧ y_I_primitive.cls ≠ "java/lang/invoke/MethodHandle" ∧ y_I_primitive.cls ≠ "java/lang/invoke/VarHandle" ∧ (parseMethodDescriptor y_I_primitive.desc).map (fun d => d.parameters.length) = some 1 := ⟨rfl, by decide, by decide, by decide +kernel⟩
abbrev b_I_nothing : ByteArray := prog_1_method_10_code
abbrev y_I_nothing : MethodName := ⟨"InferReduce", "nothing", "()I"⟩
theorem dd_I_nothing : y_I_nothing.cls = "InferReduce" ∧ y_I_nothing.cls ≠ "java/lang/invoke/MethodHandle" ∧ y_I_nothing.cls ≠ "java/lang/invoke/VarHandle" ∧ (parseMethodDescriptor y_I_nothing.desc).map (fun d => d.parameters.length) = some 0 := ⟨rfl, by decide, by decide, by decide +kernel⟩
abbrev b_I_variable : ByteArray := prog_1_method_11_code
abbrev y_I_variable : MethodName := ⟨"InferReduce", "variable", "()I"⟩
theorem dd_I_variable : y_I_variable.cls = "InferReduce" ∧ y_I_variable.cls ≠ "java/lang/invoke/MethodHandle" ∧ y_I_variable.cls ≠ "java/lang/invoke/VarHandle" ∧ (parseMethodDescriptor y_I_variable.desc).map (fun d => d.parameters.length) = some 0 := ⟨rfl, by decide, by decide, by decide +kernel⟩
abbrev b_I_formula : ByteArray := prog_1_method_12_code
abbrev y_I_formula : MethodName := ⟨"InferReduce", "formula", "(III)I"⟩
theorem dd_I_formula : y_I_formula.cls = "InferReduce" ∧ y_I_formula.cls ≠ "java/lang/invoke/MethodHandle" ∧ y_I_formula.cls ≠ "java/lang/invoke/VarHandle" ∧ (parseMethodDescriptor y_I_formula.desc).map (fun d => d.parameters.length) = some 3 := ⟨rfl, by decide, by decide, by decide +kernel⟩
abbrev b_I_resolve : ByteArray := prog_1_method_13_code
abbrev y_I_resolve : MethodName := ⟨"InferReduce", "resolve", "()I"⟩
theorem dd_I_resolve : y_I_resolve.cls = "InferReduce" ∧ y_I_resolve.cls ≠ "java/lang/invoke/MethodHandle" ∧ y_I_resolve.cls ≠ "java/lang/invoke/VarHandle" ∧ (parseMethodDescriptor y_I_resolve.desc).map (fun d => d.parameters.length) = some 0 := ⟨rfl, by decide, by decide, by decide +kernel⟩
abbrev b_I_clear : ByteArray := prog_1_method_14_code
abbrev y_I_clear : MethodName := ⟨"InferReduce", "clear", "()I"⟩
theorem dd_I_clear : y_I_clear.cls = "InferReduce" ∧ y_I_clear.cls ≠ "java/lang/invoke/MethodHandle" ∧ y_I_clear.cls ≠ "java/lang/invoke/VarHandle" ∧ (parseMethodDescriptor y_I_clear.desc).map (fun d => d.parameters.length) = some 0 := ⟨rfl, by decide, by decide, by decide +kernel⟩
abbrev b_I_count : ByteArray := prog_1_method_15_code
abbrev y_I_count : MethodName := ⟨"InferReduce", "count", "(I)I"⟩
theorem dd_I_count : y_I_count.cls = "InferReduce" ∧ y_I_count.cls ≠ "java/lang/invoke/MethodHandle" ∧ y_I_count.cls ≠ "java/lang/invoke/VarHandle" ∧ (parseMethodDescriptor y_I_count.desc).map (fun d => d.parameters.length) = some 1 := ⟨rfl, by decide, by decide, by decide +kernel⟩
abbrev b_I_type : ByteArray := prog_1_method_16_code
abbrev y_I_type : MethodName := ⟨"InferReduce", "type", "(II)I"⟩
theorem dd_I_type : y_I_type.cls = "InferReduce" ∧ y_I_type.cls ≠ "java/lang/invoke/MethodHandle" ∧ y_I_type.cls ≠ "java/lang/invoke/VarHandle" ∧ (parseMethodDescriptor y_I_type.desc).map (fun d => d.parameters.length) = some 2 := ⟨rfl, by decide, by decide, by decide +kernel⟩
abbrev b_I_bound : ByteArray := prog_1_method_17_code
abbrev y_I_bound : MethodName := ⟨"InferReduce", "bound", "(II)I"⟩
theorem dd_I_bound : y_I_bound.cls = "InferReduce" ∧ y_I_bound.cls ≠ "java/lang/invoke/MethodHandle" ∧ y_I_bound.cls ≠ "java/lang/invoke/VarHandle" ∧ (parseMethodDescriptor y_I_bound.desc).map (fun d => d.parameters.length) = some 2 := ⟨rfl, by decide, by decide, by decide +kernel⟩
abbrev b_I_instance : ByteArray := prog_1_method_18_code
abbrev y_I_instance : MethodName := ⟨"InferReduce", "instance", "(I)I"⟩
theorem dd_I_instance : y_I_instance.cls = "InferReduce" ∧ y_I_instance.cls ≠ "java/lang/invoke/MethodHandle" ∧ y_I_instance.cls ≠ "java/lang/invoke/VarHandle" ∧ (parseMethodDescriptor y_I_instance.desc).map (fun d => d.parameters.length) = some 1 := ⟨rfl, by decide, by decide, by decide +kernel⟩
abbrev b_I_above : ByteArray := prog_1_method_19_code
abbrev y_I_above : MethodName := ⟨"InferReduce", "above", "(II)I"⟩
theorem dd_I_above : y_I_above.cls = "InferReduce" ∧ y_I_above.cls ≠ "java/lang/invoke/MethodHandle" ∧ y_I_above.cls ≠ "java/lang/invoke/VarHandle" ∧ (parseMethodDescriptor y_I_above.desc).map (fun d => d.parameters.length) = some 2 := ⟨rfl, by decide, by decide, by decide +kernel⟩
abbrev b_I_unchecked : ByteArray := prog_1_method_20_code
abbrev y_I_unchecked : MethodName := ⟨"InferReduce", "unchecked", "(I)I"⟩
theorem dd_I_unchecked : y_I_unchecked.cls = "InferReduce" ∧ y_I_unchecked.cls ≠ "java/lang/invoke/MethodHandle" ∧ y_I_unchecked.cls ≠ "java/lang/invoke/VarHandle" ∧ (parseMethodDescriptor y_I_unchecked.desc).map (fun d => d.parameters.length) = some 1 := ⟨rfl, by decide, by decide, by decide +kernel⟩
abbrev b_I_judge : ByteArray := prog_1_method_21_code
abbrev y_I_judge : MethodName := ⟨"InferReduce", "judge", "(I)I"⟩
theorem dd_I_judge : y_I_judge.cls = "InferReduce" ∧ y_I_judge.cls ≠ "java/lang/invoke/MethodHandle" ∧ y_I_judge.cls ≠ "java/lang/invoke/VarHandle" ∧ (parseMethodDescriptor y_I_judge.desc).map (fun d => d.parameters.length) = some 1 := ⟨rfl, by decide, by decide, by decide +kernel⟩
abbrev b_I_canBeArgument : ByteArray := prog_1_method_22_code
abbrev y_I_canBeArgument : MethodName := ⟨"InferReduce", "canBeArgument", "(I)Z"⟩
theorem dd_I_canBeArgument : y_I_canBeArgument.cls = "InferReduce" ∧ y_I_canBeArgument.cls ≠ "java/lang/invoke/MethodHandle" ∧ y_I_canBeArgument.cls ≠ "java/lang/invoke/VarHandle" ∧ (parseMethodDescriptor y_I_canBeArgument.desc).map (fun d => d.parameters.length) = some 1 := ⟨rfl, by decide, by decide, by decide +kernel⟩
abbrev b_I_canBeTold : ByteArray := prog_1_method_23_code
abbrev y_I_canBeTold : MethodName := ⟨"InferReduce", "canBeTold", "(II)Z"⟩
theorem dd_I_canBeTold : y_I_canBeTold.cls = "InferReduce" ∧ y_I_canBeTold.cls ≠ "java/lang/invoke/MethodHandle" ∧ y_I_canBeTold.cls ≠ "java/lang/invoke/VarHandle" ∧ (parseMethodDescriptor y_I_canBeTold.desc).map (fun d => d.parameters.length) = some 2 := ⟨rfl, by decide, by decide, by decide +kernel⟩
abbrev b_I_canBeParent : ByteArray := prog_1_method_24_code
abbrev y_I_canBeParent : MethodName := ⟨"InferReduce", "canBeParent", "(II)Z"⟩
theorem dd_I_canBeParent : y_I_canBeParent.cls = "InferReduce" ∧ y_I_canBeParent.cls ≠ "java/lang/invoke/MethodHandle" ∧ y_I_canBeParent.cls ≠ "java/lang/invoke/VarHandle" ∧ (parseMethodDescriptor y_I_canBeParent.desc).map (fun d => d.parameters.length) = some 2 := ⟨rfl, by decide, by decide, by decide +kernel⟩
abbrev b_I_takeState : ByteArray := prog_1_method_25_code
abbrev y_I_takeState : MethodName := ⟨"InferReduce", "takeState", "(II)V"⟩
theorem dd_I_takeState : y_I_takeState.cls = "InferReduce" ∧ y_I_takeState.cls ≠ "java/lang/invoke/MethodHandle" ∧ y_I_takeState.cls ≠ "java/lang/invoke/VarHandle" ∧ (parseMethodDescriptor y_I_takeState.desc).map (fun d => d.parameters.length) = some 2 := ⟨rfl, by decide, by decide, by decide +kernel⟩
abbrev b_M_init : ByteArray := prog_12_method_1_code
abbrev y_M_init : MethodName := ⟨"InferReduceModel", "<init>", "()V"⟩
theorem dd_M_init : y_M_init.cls = "InferReduceModel" ∧ y_M_init.cls ≠ "java/lang/invoke/MethodHandle" ∧ y_M_init.cls ≠ "java/lang/invoke/VarHandle" ∧ (parseMethodDescriptor y_M_init.desc).map (fun d => d.parameters.length) = some 0 := ⟨rfl, by decide, by decide, by decide +kernel⟩
abbrev b_M_make : ByteArray := prog_12_method_2_code
abbrev y_M_make : MethodName := ⟨"InferReduceModel", "make", "(IIII)I"⟩
theorem dd_M_make : y_M_make.cls = "InferReduceModel" ∧ y_M_make.cls ≠ "java/lang/invoke/MethodHandle" ∧ y_M_make.cls ≠ "java/lang/invoke/VarHandle" ∧ (parseMethodDescriptor y_M_make.desc).map (fun d => d.parameters.length) = some 4 := ⟨rfl, by decide, by decide, by decide +kernel⟩
abbrev b_M_made : ByteArray := prog_12_method_3_code
abbrev y_M_made : MethodName := ⟨"InferReduceModel", "made", "(I)I"⟩
theorem dd_M_made : y_M_made.cls = "InferReduceModel" ∧ y_M_made.cls ≠ "java/lang/invoke/MethodHandle" ∧ y_M_made.cls ≠ "java/lang/invoke/VarHandle" ∧ (parseMethodDescriptor y_M_made.desc).map (fun d => d.parameters.length) = some 1 := ⟨rfl, by decide, by decide, by decide +kernel⟩
abbrev b_M_plainOf : ByteArray := prog_12_method_4_code
abbrev y_M_plainOf : MethodName := ⟨"InferReduceModel", "plainOf", "(I)I"⟩
theorem dd_M_plainOf : y_M_plainOf.cls = "InferReduceModel" ∧ y_M_plainOf.cls ≠ "java/lang/invoke/MethodHandle" ∧ y_M_plainOf.cls ≠ "java/lang/invoke/VarHandle" ∧ (parseMethodDescriptor y_M_plainOf.desc).map (fun d => d.parameters.length) = some 1 := ⟨rfl, by decide, by decide, by decide +kernel⟩
abbrev b_M_isType : ByteArray := prog_12_method_5_code
abbrev y_M_isType : MethodName := ⟨"InferReduceModel", "isType", "(I)Z"⟩
theorem dd_M_isType : y_M_isType.cls = "InferReduceModel" ∧ y_M_isType.cls ≠ "java/lang/invoke/MethodHandle" ∧ y_M_isType.cls ≠ "java/lang/invoke/VarHandle" ∧ (parseMethodDescriptor y_M_isType.desc).map (fun d => d.parameters.length) = some 1 := ⟨rfl, by decide, by decide, by decide +kernel⟩
abbrev b_M_isClass : ByteArray := prog_12_method_6_code
abbrev y_M_isClass : MethodName := ⟨"InferReduceModel", "isClass", "(I)Z"⟩
theorem dd_M_isClass : y_M_isClass.cls = "InferReduceModel" ∧ y_M_isClass.cls ≠ "java/lang/invoke/MethodHandle" ∧ y_M_isClass.cls ≠ "java/lang/invoke/VarHandle" ∧ (parseMethodDescriptor y_M_isClass.desc).map (fun d => d.parameters.length) = some 1 := ⟨rfl, by decide, by decide, by decide +kernel⟩
abbrev b_M_declare : ByteArray := prog_12_method_7_code
abbrev y_M_declare : MethodName := ⟨"InferReduceModel", "declare", "(I)I"⟩
theorem dd_M_declare : y_M_declare.cls = "InferReduceModel" ∧ y_M_declare.cls ≠ "java/lang/invoke/MethodHandle" ∧ y_M_declare.cls ≠ "java/lang/invoke/VarHandle" ∧ (parseMethodDescriptor y_M_declare.desc).map (fun d => d.parameters.length) = some 1 := ⟨rfl, by decide, by decide, by decide +kernel⟩
abbrev b_M_isParent : ByteArray := prog_12_method_8_code
abbrev y_M_isParent : MethodName := ⟨"InferReduceModel", "isParent", "(II)Z"⟩
theorem dd_M_isParent : y_M_isParent.cls = "InferReduceModel" ∧ y_M_isParent.cls ≠ "java/lang/invoke/MethodHandle" ∧ y_M_isParent.cls ≠ "java/lang/invoke/VarHandle" ∧ (parseMethodDescriptor y_M_isParent.desc).map (fun d => d.parameters.length) = some 2 := ⟨rfl, by decide, by decide, by decide +kernel⟩
abbrev b_M_isOfBefore : ByteArray := prog_12_method_9_code
abbrev y_M_isOfBefore : MethodName := ⟨"InferReduceModel", "isOfBefore", "(II)Z"⟩
theorem dd_M_isOfBefore : y_M_isOfBefore.cls = "InferReduceModel" ∧ y_M_isOfBefore.cls ≠ "java/lang/invoke/MethodHandle" ∧ y_M_isOfBefore.cls ≠ "java/lang/invoke/VarHandle" ∧ (parseMethodDescriptor y_M_isOfBefore.desc).map (fun d => d.parameters.length) = some 2 := ⟨rfl, by decide, by decide, by decide +kernel⟩
abbrev b_M_parent : ByteArray := prog_12_method_10_code
abbrev y_M_parent : MethodName := ⟨"InferReduceModel", "parent", "(II)I"⟩
theorem dd_M_parent : y_M_parent.cls = "InferReduceModel" ∧ y_M_parent.cls ≠ "java/lang/invoke/MethodHandle" ∧ y_M_parent.cls ≠ "java/lang/invoke/VarHandle" ∧ (parseMethodDescriptor y_M_parent.desc).map (fun d => d.parameters.length) = some 2 := ⟨rfl, by decide, by decide, by decide +kernel⟩
abbrev b_M_plain : ByteArray := prog_12_method_11_code
abbrev y_M_plain : MethodName := ⟨"InferReduceModel", "plain", "(I)I"⟩
theorem dd_M_plain : y_M_plain.cls = "InferReduceModel" ∧ y_M_plain.cls ≠ "java/lang/invoke/MethodHandle" ∧ y_M_plain.cls ≠ "java/lang/invoke/VarHandle" ∧ (parseMethodDescriptor y_M_plain.desc).map (fun d => d.parameters.length) = some 1 := ⟨rfl, by decide, by decide, by decide +kernel⟩
abbrev b_M_isArgument : ByteArray := prog_12_method_12_code
abbrev y_M_isArgument : MethodName := ⟨"InferReduceModel", "isArgument", "(I)Z"⟩
theorem dd_M_isArgument : y_M_isArgument.cls = "InferReduceModel" ∧ y_M_isArgument.cls ≠ "java/lang/invoke/MethodHandle" ∧ y_M_isArgument.cls ≠ "java/lang/invoke/VarHandle" ∧ (parseMethodDescriptor y_M_isArgument.desc).map (fun d => d.parameters.length) = some 1 := ⟨rfl, by decide, by decide, by decide +kernel⟩
abbrev b_M_of : ByteArray := prog_12_method_13_code
abbrev y_M_of : MethodName := ⟨"InferReduceModel", "of", "(III)I"⟩
theorem dd_M_of : y_M_of.cls = "InferReduceModel" ∧ y_M_of.cls ≠ "java/lang/invoke/MethodHandle" ∧ y_M_of.cls ≠ "java/lang/invoke/VarHandle" ∧ (parseMethodDescriptor y_M_of.desc).map (fun d => d.parameters.length) = some 3 := ⟨rfl, by decide, by decide, by decide +kernel⟩
abbrev b_M_wild : ByteArray := prog_12_method_14_code
abbrev y_M_wild : MethodName := ⟨"InferReduceModel", "wild", "(II)I"⟩
theorem dd_M_wild : y_M_wild.cls = "InferReduceModel" ∧ y_M_wild.cls ≠ "java/lang/invoke/MethodHandle" ∧ y_M_wild.cls ≠ "java/lang/invoke/VarHandle" ∧ (parseMethodDescriptor y_M_wild.desc).map (fun d => d.parameters.length) = some 2 := ⟨rfl, by decide, by decide, by decide +kernel⟩
abbrev b_M_parameter : ByteArray := prog_12_method_15_code
abbrev y_M_parameter : MethodName := ⟨"InferReduceModel", "parameter", "(II)I"⟩
theorem dd_M_parameter : y_M_parameter.cls = "InferReduceModel" ∧ y_M_parameter.cls ≠ "java/lang/invoke/MethodHandle" ∧ y_M_parameter.cls ≠ "java/lang/invoke/VarHandle" ∧ (parseMethodDescriptor y_M_parameter.desc).map (fun d => d.parameters.length) = some 2 := ⟨rfl, by decide, by decide, by decide +kernel⟩
abbrev b_M_array : ByteArray := prog_12_method_16_code
abbrev y_M_array : MethodName := ⟨"InferReduceModel", "array", "(I)I"⟩
theorem dd_M_array : y_M_array.cls = "InferReduceModel" ∧ y_M_array.cls ≠ "java/lang/invoke/MethodHandle" ∧ y_M_array.cls ≠ "java/lang/invoke/VarHandle" ∧ (parseMethodDescriptor y_M_array.desc).map (fun d => d.parameters.length) = some 1 := ⟨rfl, by decide, by decide, by decide +kernel⟩
abbrev b_M_primitive : ByteArray := prog_12_method_17_code
abbrev y_M_primitive : MethodName := ⟨"InferReduceModel", "primitive", "(I)I"⟩
theorem dd_M_primitive : y_M_primitive.cls = "InferReduceModel" ∧ y_M_primitive.cls ≠ "java/lang/invoke/MethodHandle" ∧ y_M_primitive.cls ≠ "java/lang/invoke/VarHandle" ∧ (parseMethodDescriptor y_M_primitive.desc).map (fun d => d.parameters.length) = some 1 := ⟨rfl, by decide, by decide, by decide +kernel⟩
abbrev b_M_nothing : ByteArray := prog_12_method_18_code
abbrev y_M_nothing : MethodName := ⟨"InferReduceModel", "nothing", "()I"⟩
theorem dd_M_nothing : y_M_nothing.cls = "InferReduceModel" ∧ y_M_nothing.cls ≠ "java/lang/invoke/MethodHandle" ∧ y_M_nothing.cls ≠ "java/lang/invoke/VarHandle" ∧ (parseMethodDescriptor y_M_nothing.desc).map (fun d => d.parameters.length) = some 0 := ⟨rfl, by decide, by decide, by decide +kernel⟩
abbrev b_M_variable : ByteArray := prog_12_method_19_code
abbrev y_M_variable : MethodName := ⟨"InferReduceModel", "variable", "()I"⟩
theorem dd_M_variable : y_M_variable.cls = "InferReduceModel" ∧ y_M_variable.cls ≠ "java/lang/invoke/MethodHandle" ∧ y_M_variable.cls ≠ "java/lang/invoke/VarHandle" ∧ (parseMethodDescriptor y_M_variable.desc).map (fun d => d.parameters.length) = some 0 := ⟨rfl, by decide, by decide, by decide +kernel⟩
abbrev b_M_inPlaceOf : ByteArray := prog_12_method_20_code
abbrev y_M_inPlaceOf : MethodName := ⟨"InferReduceModel", "inPlaceOf", "(II)I"⟩
theorem dd_M_inPlaceOf : y_M_inPlaceOf.cls = "InferReduceModel" ∧ y_M_inPlaceOf.cls ≠ "java/lang/invoke/MethodHandle" ∧ y_M_inPlaceOf.cls ≠ "java/lang/invoke/VarHandle" ∧ (parseMethodDescriptor y_M_inPlaceOf.desc).map (fun d => d.parameters.length) = some 2 := ⟨rfl, by decide, by decide, by decide +kernel⟩
abbrev b_M_innerOf : ByteArray := prog_12_method_21_code
abbrev y_M_innerOf : MethodName := ⟨"InferReduceModel", "innerOf", "(II)I"⟩
theorem dd_M_innerOf : y_M_innerOf.cls = "InferReduceModel" ∧ y_M_innerOf.cls ≠ "java/lang/invoke/MethodHandle" ∧ y_M_innerOf.cls ≠ "java/lang/invoke/VarHandle" ∧ (parseMethodDescriptor y_M_innerOf.desc).map (fun d => d.parameters.length) = some 2 := ⟨rfl, by decide, by decide, by decide +kernel⟩
abbrev b_M_isSeen : ByteArray := prog_12_method_22_code
abbrev y_M_isSeen : MethodName := ⟨"InferReduceModel", "isSeen", "(I)Z"⟩
theorem dd_M_isSeen : y_M_isSeen.cls = "InferReduceModel" ∧ y_M_isSeen.cls ≠ "java/lang/invoke/MethodHandle" ∧ y_M_isSeen.cls ≠ "java/lang/invoke/VarHandle" ∧ (parseMethodDescriptor y_M_isSeen.desc).map (fun d => d.parameters.length) = some 1 := ⟨rfl, by decide, by decide, by decide +kernel⟩
abbrev b_M_replaced : ByteArray := prog_12_method_23_code
abbrev y_M_replaced : MethodName := ⟨"InferReduceModel", "replaced", "(II)I"⟩
theorem dd_M_replaced : y_M_replaced.cls = "InferReduceModel" ∧ y_M_replaced.cls ≠ "java/lang/invoke/MethodHandle" ∧ y_M_replaced.cls ≠ "java/lang/invoke/VarHandle" ∧ (parseMethodDescriptor y_M_replaced.desc).map (fun d => d.parameters.length) = some 2 := ⟨rfl, by decide, by decide, by decide +kernel⟩
abbrev b_M_aboveOf : ByteArray := prog_12_method_24_code
abbrev y_M_aboveOf : MethodName := ⟨"InferReduceModel", "aboveOf", "(II)I"⟩
theorem dd_M_aboveOf : y_M_aboveOf.cls = "InferReduceModel" ∧ y_M_aboveOf.cls ≠ "java/lang/invoke/MethodHandle" ∧ y_M_aboveOf.cls ≠ "java/lang/invoke/VarHandle" ∧ (parseMethodDescriptor y_M_aboveOf.desc).map (fun d => d.parameters.length) = some 2 := ⟨rfl, by decide, by decide, by decide +kernel⟩
abbrev b_M_push : ByteArray := prog_12_method_25_code
abbrev y_M_push : MethodName := ⟨"InferReduceModel", "push", "(III)V"⟩
theorem dd_M_push : y_M_push.cls = "InferReduceModel" ∧ y_M_push.cls ≠ "java/lang/invoke/MethodHandle" ∧ y_M_push.cls ≠ "java/lang/invoke/VarHandle" ∧ (parseMethodDescriptor y_M_push.desc).map (fun d => d.parameters.length) = some 3 := ⟨rfl, by decide, by decide, by decide +kernel⟩
abbrev b_M_above : ByteArray := prog_12_method_26_code
abbrev y_M_above : MethodName := ⟨"InferReduceModel", "above", "(II)I"⟩
theorem dd_M_above : y_M_above.cls = "InferReduceModel" ∧ y_M_above.cls ≠ "java/lang/invoke/MethodHandle" ∧ y_M_above.cls ≠ "java/lang/invoke/VarHandle" ∧ (parseMethodDescriptor y_M_above.desc).map (fun d => d.parameters.length) = some 2 := ⟨rfl, by decide, by decide, by decide +kernel⟩
abbrev b_M_then : ByteArray := prog_12_method_27_code
abbrev y_M_then : MethodName := ⟨"InferReduceModel", "then", "(III)Z"⟩
theorem dd_M_then : y_M_then.cls = "InferReduceModel" ∧ y_M_then.cls ≠ "java/lang/invoke/MethodHandle" ∧ y_M_then.cls ≠ "java/lang/invoke/VarHandle" ∧ (parseMethodDescriptor y_M_then.desc).map (fun d => d.parameters.length) = some 3 := ⟨rfl, by decide, by decide, by decide +kernel⟩
abbrev b_M_less : ByteArray := prog_12_method_28_code
abbrev y_M_less : MethodName := ⟨"InferReduceModel", "less", "(III)Z"⟩
theorem dd_M_less : y_M_less.cls = "InferReduceModel" ∧ y_M_less.cls ≠ "java/lang/invoke/MethodHandle" ∧ y_M_less.cls ≠ "java/lang/invoke/VarHandle" ∧ (parseMethodDescriptor y_M_less.desc).map (fun d => d.parameters.length) = some 3 := ⟨rfl, by decide, by decide, by decide +kernel⟩
abbrev b_M_step : ByteArray := prog_12_method_29_code
abbrev y_M_step : MethodName := ⟨"InferReduceModel", "step", "(III)Z"⟩
theorem dd_M_step : y_M_step.cls = "InferReduceModel" ∧ y_M_step.cls ≠ "java/lang/invoke/MethodHandle" ∧ y_M_step.cls ≠ "java/lang/invoke/VarHandle" ∧ (parseMethodDescriptor y_M_step.desc).map (fun d => d.parameters.length) = some 3 := ⟨rfl, by decide, by decide, by decide +kernel⟩
abbrev b_M_isWidened : ByteArray := prog_12_method_30_code
abbrev y_M_isWidened : MethodName := ⟨"InferReduceModel", "isWidened", "(II)Z"⟩
theorem dd_M_isWidened : y_M_isWidened.cls ≠ "java/lang/invoke/MethodHandle" ∧ y_M_isWidened.cls ≠ "java/lang/invoke/VarHandle" ∧ (parseMethodDescriptor y_M_isWidened.desc).map (fun d => d.parameters.length) = some 2 := ⟨by decide, by decide, by decide +kernel⟩
abbrev b_M_boxOf : ByteArray := prog_12_method_31_code
abbrev y_M_boxOf : MethodName := ⟨"InferReduceModel", "boxOf", "(I)I"⟩
theorem dd_M_boxOf : y_M_boxOf.cls = "InferReduceModel" ∧ y_M_boxOf.cls ≠ "java/lang/invoke/MethodHandle" ∧ y_M_boxOf.cls ≠ "java/lang/invoke/VarHandle" ∧ (parseMethodDescriptor y_M_boxOf.desc).map (fun d => d.parameters.length) = some 1 := ⟨rfl, by decide, by decide, by decide +kernel⟩
abbrev b_M_compatible : ByteArray := prog_12_method_32_code
abbrev y_M_compatible : MethodName := ⟨"InferReduceModel", "compatible", "(II)Z"⟩
theorem dd_M_compatible : y_M_compatible.cls = "InferReduceModel" ∧ y_M_compatible.cls ≠ "java/lang/invoke/MethodHandle" ∧ y_M_compatible.cls ≠ "java/lang/invoke/VarHandle" ∧ (parseMethodDescriptor y_M_compatible.desc).map (fun d => d.parameters.length) = some 2 := ⟨rfl, by decide, by decide, by decide +kernel⟩
abbrev b_M_sub : ByteArray := prog_12_method_33_code
abbrev y_M_sub : MethodName := ⟨"InferReduceModel", "sub", "(II)Z"⟩
theorem dd_M_sub : y_M_sub.cls = "InferReduceModel" ∧ y_M_sub.cls ≠ "java/lang/invoke/MethodHandle" ∧ y_M_sub.cls ≠ "java/lang/invoke/VarHandle" ∧ (parseMethodDescriptor y_M_sub.desc).map (fun d => d.parameters.length) = some 2 := ⟨rfl, by decide, by decide, by decide +kernel⟩
abbrev b_M_contained : ByteArray := prog_12_method_34_code
abbrev y_M_contained : MethodName := ⟨"InferReduceModel", "contained", "(II)Z"⟩
theorem dd_M_contained : y_M_contained.cls = "InferReduceModel" ∧ y_M_contained.cls ≠ "java/lang/invoke/MethodHandle" ∧ y_M_contained.cls ≠ "java/lang/invoke/VarHandle" ∧ (parseMethodDescriptor y_M_contained.desc).map (fun d => d.parameters.length) = some 2 := ⟨rfl, by decide, by decide, by decide +kernel⟩
abbrev b_M_equal : ByteArray := prog_12_method_35_code
abbrev y_M_equal : MethodName := ⟨"InferReduceModel", "equal", "(II)Z"⟩
theorem dd_M_equal : y_M_equal.cls = "InferReduceModel" ∧ y_M_equal.cls ≠ "java/lang/invoke/MethodHandle" ∧ y_M_equal.cls ≠ "java/lang/invoke/VarHandle" ∧ (parseMethodDescriptor y_M_equal.desc).map (fun d => d.parameters.length) = some 2 := ⟨rfl, by decide, by decide, by decide +kernel⟩
abbrev b_M_bind : ByteArray := prog_12_method_36_code
abbrev y_M_bind : MethodName := ⟨"InferReduceModel", "bind", "(III)V"⟩
theorem dd_M_bind : y_M_bind.cls = "InferReduceModel" ∧ y_M_bind.cls ≠ "java/lang/invoke/MethodHandle" ∧ y_M_bind.cls ≠ "java/lang/invoke/VarHandle" ∧ (parseMethodDescriptor y_M_bind.desc).map (fun d => d.parameters.length) = some 3 := ⟨rfl, by decide, by decide, by decide +kernel⟩
abbrev b_M_isBelow : ByteArray := prog_12_method_37_code
abbrev y_M_isBelow : MethodName := ⟨"InferReduceModel", "isBelow", "(II)Z"⟩
theorem dd_M_isBelow : y_M_isBelow.cls = "InferReduceModel" ∧ y_M_isBelow.cls ≠ "java/lang/invoke/MethodHandle" ∧ y_M_isBelow.cls ≠ "java/lang/invoke/VarHandle" ∧ (parseMethodDescriptor y_M_isBelow.desc).map (fun d => d.parameters.length) = some 2 := ⟨rfl, by decide, by decide, by decide +kernel⟩
abbrev b_M_isSame : ByteArray := prog_12_method_38_code
abbrev y_M_isSame : MethodName := ⟨"InferReduceModel", "isSame", "(II)Z"⟩
theorem dd_M_isSame : y_M_isSame.cls = "InferReduceModel" ∧ y_M_isSame.cls ≠ "java/lang/invoke/MethodHandle" ∧ y_M_isSame.cls ≠ "java/lang/invoke/VarHandle" ∧ (parseMethodDescriptor y_M_isSame.desc).map (fun d => d.parameters.length) = some 2 := ⟨rfl, by decide, by decide, by decide +kernel⟩
abbrev b_M_hold : ByteArray := prog_12_method_39_code
abbrev y_M_hold : MethodName := ⟨"InferReduceModel", "hold", "()Z"⟩
theorem dd_M_hold : y_M_hold.cls = "InferReduceModel" ∧ y_M_hold.cls ≠ "java/lang/invoke/MethodHandle" ∧ y_M_hold.cls ≠ "java/lang/invoke/VarHandle" ∧ (parseMethodDescriptor y_M_hold.desc).map (fun d => d.parameters.length) = some 0 := ⟨rfl, by decide, by decide, by decide +kernel⟩
abbrev b_M_holdBoth : ByteArray := prog_12_method_40_code
abbrev y_M_holdBoth : MethodName := ⟨"InferReduceModel", "holdBoth", "(IIZ)Z"⟩
theorem dd_M_holdBoth : y_M_holdBoth.cls = "InferReduceModel" ∧ y_M_holdBoth.cls ≠ "java/lang/invoke/MethodHandle" ∧ y_M_holdBoth.cls ≠ "java/lang/invoke/VarHandle" ∧ (parseMethodDescriptor y_M_holdBoth.desc).map (fun d => d.parameters.length) = some 3 := ⟨rfl, by decide, by decide, by decide +kernel⟩
abbrev b_M_isIn : ByteArray := prog_12_method_41_code
abbrev y_M_isIn : MethodName := ⟨"InferReduceModel", "isIn", "(II)Z"⟩
theorem dd_M_isIn : y_M_isIn.cls = "InferReduceModel" ∧ y_M_isIn.cls ≠ "java/lang/invoke/MethodHandle" ∧ y_M_isIn.cls ≠ "java/lang/invoke/VarHandle" ∧ (parseMethodDescriptor y_M_isIn.desc).map (fun d => d.parameters.length) = some 2 := ⟨rfl, by decide, by decide, by decide +kernel⟩
abbrev b_M_holdIn : ByteArray := prog_12_method_42_code
abbrev y_M_holdIn : MethodName := ⟨"InferReduceModel", "holdIn", "(II)Z"⟩
theorem dd_M_holdIn : y_M_holdIn.cls = "InferReduceModel" ∧ y_M_holdIn.cls ≠ "java/lang/invoke/MethodHandle" ∧ y_M_holdIn.cls ≠ "java/lang/invoke/VarHandle" ∧ (parseMethodDescriptor y_M_holdIn.desc).map (fun d => d.parameters.length) = some 2 := ⟨rfl, by decide, by decide, by decide +kernel⟩
abbrev b_M_holdArguments : ByteArray := prog_12_method_43_code
abbrev y_M_holdArguments : MethodName := ⟨"InferReduceModel", "holdArguments", "(II)Z"⟩
theorem dd_M_holdArguments : y_M_holdArguments.cls = "InferReduceModel" ∧ y_M_holdArguments.cls ≠ "java/lang/invoke/MethodHandle" ∧ y_M_holdArguments.cls ≠ "java/lang/invoke/VarHandle" ∧ (parseMethodDescriptor y_M_holdArguments.desc).map (fun d => d.parameters.length) = some 2 := ⟨rfl, by decide, by decide, by decide +kernel⟩
abbrev b_M_isThere : ByteArray := prog_12_method_44_code
abbrev y_M_isThere : MethodName := ⟨"InferReduceModel", "isThere", "(I)Z"⟩
theorem dd_M_isThere : y_M_isThere.cls = "InferReduceModel" ∧ y_M_isThere.cls ≠ "java/lang/invoke/MethodHandle" ∧ y_M_isThere.cls ≠ "java/lang/invoke/VarHandle" ∧ (parseMethodDescriptor y_M_isThere.desc).map (fun d => d.parameters.length) = some 1 := ⟨rfl, by decide, by decide, by decide +kernel⟩
abbrev b_M_formula : ByteArray := prog_12_method_45_code
abbrev y_M_formula : MethodName := ⟨"InferReduceModel", "formula", "(III)I"⟩
theorem dd_M_formula : y_M_formula.cls = "InferReduceModel" ∧ y_M_formula.cls ≠ "java/lang/invoke/MethodHandle" ∧ y_M_formula.cls ≠ "java/lang/invoke/VarHandle" ∧ (parseMethodDescriptor y_M_formula.desc).map (fun d => d.parameters.length) = some 3 := ⟨rfl, by decide, by decide, by decide +kernel⟩
abbrev b_M_begin : ByteArray := prog_12_method_46_code
abbrev y_M_begin : MethodName := ⟨"InferReduceModel", "begin", "(I)V"⟩
theorem dd_M_begin : y_M_begin.cls = "InferReduceModel" ∧ y_M_begin.cls ≠ "java/lang/invoke/MethodHandle" ∧ y_M_begin.cls ≠ "java/lang/invoke/VarHandle" ∧ (parseMethodDescriptor y_M_begin.desc).map (fun d => d.parameters.length) = some 1 := ⟨rfl, by decide, by decide, by decide +kernel⟩
abbrev b_M_settle : ByteArray := prog_12_method_47_code
abbrev y_M_settle : MethodName := ⟨"InferReduceModel", "settle", "(ZI)V"⟩
theorem dd_M_settle : y_M_settle.cls = "InferReduceModel" ∧ y_M_settle.cls ≠ "java/lang/invoke/MethodHandle" ∧ y_M_settle.cls ≠ "java/lang/invoke/VarHandle" ∧ (parseMethodDescriptor y_M_settle.desc).map (fun d => d.parameters.length) = some 2 := ⟨rfl, by decide, by decide, by decide +kernel⟩
abbrev b_M_clear : ByteArray := prog_12_method_48_code
abbrev y_M_clear : MethodName := ⟨"InferReduceModel", "clear", "()I"⟩
theorem dd_M_clear : y_M_clear.cls = "InferReduceModel" ∧ y_M_clear.cls ≠ "java/lang/invoke/MethodHandle" ∧ y_M_clear.cls ≠ "java/lang/invoke/VarHandle" ∧ (parseMethodDescriptor y_M_clear.desc).map (fun d => d.parameters.length) = some 0 := ⟨rfl, by decide, by decide, by decide +kernel⟩
abbrev b_M_instanceOf : ByteArray := prog_12_method_49_code
abbrev y_M_instanceOf : MethodName := ⟨"InferReduceModel", "instanceOf", "(I)I"⟩
theorem dd_M_instanceOf : y_M_instanceOf.cls = "InferReduceModel" ∧ y_M_instanceOf.cls ≠ "java/lang/invoke/MethodHandle" ∧ y_M_instanceOf.cls ≠ "java/lang/invoke/VarHandle" ∧ (parseMethodDescriptor y_M_instanceOf.desc).map (fun d => d.parameters.length) = some 1 := ⟨rfl, by decide, by decide, by decide +kernel⟩
abbrev b_M_isLinked : ByteArray := prog_12_method_50_code
abbrev y_M_isLinked : MethodName := ⟨"InferReduceModel", "isLinked", "(II)Z"⟩
theorem dd_M_isLinked : y_M_isLinked.cls = "InferReduceModel" ∧ y_M_isLinked.cls ≠ "java/lang/invoke/MethodHandle" ∧ y_M_isLinked.cls ≠ "java/lang/invoke/VarHandle" ∧ (parseMethodDescriptor y_M_isLinked.desc).map (fun d => d.parameters.length) = some 2 := ⟨rfl, by decide, by decide, by decide +kernel⟩
abbrev b_M_depends : ByteArray := prog_12_method_51_code
abbrev y_M_depends : MethodName := ⟨"InferReduceModel", "depends", "(I)I"⟩
theorem dd_M_depends : y_M_depends.cls = "InferReduceModel" ∧ y_M_depends.cls ≠ "java/lang/invoke/MethodHandle" ∧ y_M_depends.cls ≠ "java/lang/invoke/VarHandle" ∧ (parseMethodDescriptor y_M_depends.desc).map (fun d => d.parameters.length) = some 1 := ⟨rfl, by decide, by decide, by decide +kernel⟩
abbrev b_M_resolve : ByteArray := prog_12_method_52_code
abbrev y_M_resolve : MethodName := ⟨"InferReduceModel", "resolve", "()I"⟩
theorem dd_M_resolve : y_M_resolve.cls = "InferReduceModel" ∧ y_M_resolve.cls ≠ "java/lang/invoke/MethodHandle" ∧ y_M_resolve.cls ≠ "java/lang/invoke/VarHandle" ∧ (parseMethodDescriptor y_M_resolve.desc).map (fun d => d.parameters.length) = some 0 := ⟨rfl, by decide, by decide, by decide +kernel⟩
abbrev b_M_chooseAll : ByteArray := prog_12_method_53_code
abbrev y_M_chooseAll : MethodName := ⟨"InferReduceModel", "chooseAll", "()Z"⟩
theorem dd_M_chooseAll : y_M_chooseAll.cls = "InferReduceModel" ∧ y_M_chooseAll.cls ≠ "java/lang/invoke/MethodHandle" ∧ y_M_chooseAll.cls ≠ "java/lang/invoke/VarHandle" ∧ (parseMethodDescriptor y_M_chooseAll.desc).map (fun d => d.parameters.length) = some 0 := ⟨rfl, by decide, by decide, by decide +kernel⟩
abbrev b_M_collect : ByteArray := prog_12_method_54_code
abbrev y_M_collect : MethodName := ⟨"InferReduceModel", "collect", "(II)V"⟩
theorem dd_M_collect : y_M_collect.cls = "InferReduceModel" ∧ y_M_collect.cls ≠ "java/lang/invoke/MethodHandle" ∧ y_M_collect.cls ≠ "java/lang/invoke/VarHandle" ∧ (parseMethodDescriptor y_M_collect.desc).map (fun d => d.parameters.length) = some 2 := ⟨rfl, by decide, by decide, by decide +kernel⟩
abbrev b_M_choose : ByteArray := prog_12_method_55_code
abbrev y_M_choose : MethodName := ⟨"InferReduceModel", "choose", "(I)I"⟩
theorem dd_M_choose : y_M_choose.cls = "InferReduceModel" ∧ y_M_choose.cls ≠ "java/lang/invoke/MethodHandle" ∧ y_M_choose.cls ≠ "java/lang/invoke/VarHandle" ∧ (parseMethodDescriptor y_M_choose.desc).map (fun d => d.parameters.length) = some 1 := ⟨rfl, by decide, by decide, by decide +kernel⟩
abbrev b_M_extreme : ByteArray := prog_12_method_56_code
abbrev y_M_extreme : MethodName := ⟨"InferReduceModel", "extreme", "(Z)I"⟩
theorem dd_M_extreme : y_M_extreme.cls = "InferReduceModel" ∧ y_M_extreme.cls ≠ "java/lang/invoke/MethodHandle" ∧ y_M_extreme.cls ≠ "java/lang/invoke/VarHandle" ∧ (parseMethodDescriptor y_M_extreme.desc).map (fun d => d.parameters.length) = some 1 := ⟨rfl, by decide, by decide, by decide +kernel⟩
abbrev b_M_join : ByteArray := prog_12_method_57_code
abbrev y_M_join : MethodName := ⟨"InferReduceModel", "join", "()I"⟩
theorem dd_M_join : y_M_join.cls = "InferReduceModel" ∧ y_M_join.cls ≠ "java/lang/invoke/MethodHandle" ∧ y_M_join.cls ≠ "java/lang/invoke/VarHandle" ∧ (parseMethodDescriptor y_M_join.desc).map (fun d => d.parameters.length) = some 0 := ⟨rfl, by decide, by decide, by decide +kernel⟩
abbrev b_M_joined : ByteArray := prog_12_method_58_code
abbrev y_M_joined : MethodName := ⟨"InferReduceModel", "joined", "(I)I"⟩
theorem dd_M_joined : y_M_joined.cls = "InferReduceModel" ∧ y_M_joined.cls ≠ "java/lang/invoke/MethodHandle" ∧ y_M_joined.cls ≠ "java/lang/invoke/VarHandle" ∧ (parseMethodDescriptor y_M_joined.desc).map (fun d => d.parameters.length) = some 1 := ⟨rfl, by decide, by decide, by decide +kernel⟩
abbrev b_M_count : ByteArray := prog_12_method_59_code
abbrev y_M_count : MethodName := ⟨"InferReduceModel", "count", "(I)I"⟩
theorem dd_M_count : y_M_count.cls = "InferReduceModel" ∧ y_M_count.cls ≠ "java/lang/invoke/MethodHandle" ∧ y_M_count.cls ≠ "java/lang/invoke/VarHandle" ∧ (parseMethodDescriptor y_M_count.desc).map (fun d => d.parameters.length) = some 1 := ⟨rfl, by decide, by decide, by decide +kernel⟩
abbrev b_M_type : ByteArray := prog_12_method_60_code
abbrev y_M_type : MethodName := ⟨"InferReduceModel", "type", "(II)I"⟩
theorem dd_M_type : y_M_type.cls = "InferReduceModel" ∧ y_M_type.cls ≠ "java/lang/invoke/MethodHandle" ∧ y_M_type.cls ≠ "java/lang/invoke/VarHandle" ∧ (parseMethodDescriptor y_M_type.desc).map (fun d => d.parameters.length) = some 2 := ⟨rfl, by decide, by decide, by decide +kernel⟩
abbrev b_M_bound : ByteArray := prog_12_method_61_code
abbrev y_M_bound : MethodName := ⟨"InferReduceModel", "bound", "(II)I"⟩
theorem dd_M_bound : y_M_bound.cls = "InferReduceModel" ∧ y_M_bound.cls ≠ "java/lang/invoke/MethodHandle" ∧ y_M_bound.cls ≠ "java/lang/invoke/VarHandle" ∧ (parseMethodDescriptor y_M_bound.desc).map (fun d => d.parameters.length) = some 2 := ⟨rfl, by decide, by decide, by decide +kernel⟩
abbrev b_M_instance : ByteArray := prog_12_method_62_code
abbrev y_M_instance : MethodName := ⟨"InferReduceModel", "instance", "(I)I"⟩
theorem dd_M_instance : y_M_instance.cls = "InferReduceModel" ∧ y_M_instance.cls ≠ "java/lang/invoke/MethodHandle" ∧ y_M_instance.cls ≠ "java/lang/invoke/VarHandle" ∧ (parseMethodDescriptor y_M_instance.desc).map (fun d => d.parameters.length) = some 1 := ⟨rfl, by decide, by decide, by decide +kernel⟩
abbrev b_M_unchecked : ByteArray := prog_12_method_63_code
abbrev y_M_unchecked : MethodName := ⟨"InferReduceModel", "unchecked", "(I)I"⟩
theorem dd_M_unchecked : y_M_unchecked.cls = "InferReduceModel" ∧ y_M_unchecked.cls ≠ "java/lang/invoke/MethodHandle" ∧ y_M_unchecked.cls ≠ "java/lang/invoke/VarHandle" ∧ (parseMethodDescriptor y_M_unchecked.desc).map (fun d => d.parameters.length) = some 1 := ⟨rfl, by decide, by decide, by decide +kernel⟩
abbrev b_M_judge : ByteArray := prog_12_method_64_code
abbrev y_M_judge : MethodName := ⟨"InferReduceModel", "judge", "(I)I"⟩
theorem dd_M_judge : y_M_judge.cls = "InferReduceModel" ∧ y_M_judge.cls ≠ "java/lang/invoke/MethodHandle" ∧ y_M_judge.cls ≠ "java/lang/invoke/VarHandle" ∧ (parseMethodDescriptor y_M_judge.desc).map (fun d => d.parameters.length) = some 1 := ⟨rfl, by decide, by decide, by decide +kernel⟩
abbrev b_Integer_bitCount : ByteArray := prog_13_method_49_code
abbrev y_Integer_bitCount : MethodName := ⟨"java/lang/Integer", "bitCount", "(I)I"⟩
theorem dd_Integer_bitCount : y_Integer_bitCount.cls ≠ "java/lang/invoke/MethodHandle" ∧ y_Integer_bitCount.cls ≠ "java/lang/invoke/VarHandle" ∧ (parseMethodDescriptor y_Integer_bitCount.desc).map (fun d => d.parameters.length) = some 1 := ⟨by decide, by decide, by decide +kernel⟩
abbrev b_Arrays_fill : ByteArray := prog_14_method_103_code
abbrev y_Arrays_fill : MethodName := ⟨"java/util/Arrays", "fill", "([II)V"⟩
theorem dd_Arrays_fill : y_Arrays_fill.cls ≠ "java/lang/invoke/MethodHandle" ∧ y_Arrays_fill.cls ≠ "java/lang/invoke/VarHandle" ∧ (parseMethodDescriptor y_Arrays_fill.desc).map (fun d => d.parameters.length) = some 2 := ⟨by decide, by decide, by decide +kernel⟩
end
