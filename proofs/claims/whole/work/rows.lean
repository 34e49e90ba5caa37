section
-- ===== PART A: goes FIRST, ahead of the names: the tables' words, and 'selects' of the private methods out of them =====
/-- a private method of a class that the tables say can be made, by its rows of tables_1 -/
def lw_okq (q : MethodName × Nat) : Prop := (q.1.cls ≠ "java/lang/invoke/MethodHandle" ∧ q.1.cls ≠ "java/lang/invoke/VarHandle") ∧ Cond.instantiable q.1.cls q.2 ∈ tables_1 ∧ Cond.privateMethod q.1 ∈ tables_1 ∧ Cond.instanceMethod q.1 ∈ tables_1
theorem lw_p0 : lw_okq (⟨"InferReduce", "canBeParent", "(II)Z"⟩, 11) := ⟨⟨by decide +kernel, by decide +kernel⟩, List.mem_of_getElem? (i := 15) (by decide +kernel), List.mem_of_getElem? (i := 360) (by decide +kernel), List.mem_of_getElem? (i := 361) (by decide +kernel)⟩
theorem lw_p1 : lw_okq (⟨"InferReduce$Classes", "renewReach", "()V"⟩, 6) := ⟨⟨by decide +kernel, by decide +kernel⟩, List.mem_of_getElem? (i := 23) (by decide +kernel), List.mem_of_getElem? (i := 402) (by decide +kernel), List.mem_of_getElem? (i := 403) (by decide +kernel)⟩
theorem lw_p2 : lw_okq (⟨"InferReduce", "canBeArgument", "(I)Z"⟩, 11) := ⟨⟨by decide +kernel, by decide +kernel⟩, List.mem_of_getElem? (i := 15) (by decide +kernel), List.mem_of_getElem? (i := 418) (by decide +kernel), List.mem_of_getElem? (i := 419) (by decide +kernel)⟩
theorem lw_p3 : lw_okq (⟨"InferReduce", "canBeTold", "(II)Z"⟩, 11) := ⟨⟨by decide +kernel, by decide +kernel⟩, List.mem_of_getElem? (i := 15) (by decide +kernel), List.mem_of_getElem? (i := 454) (by decide +kernel), List.mem_of_getElem? (i := 455) (by decide +kernel)⟩
theorem lw_p4 : lw_okq (⟨"InferReduce$Reducer", "lessCompatible", "(II)I"⟩, 9) := ⟨⟨by decide +kernel, by decide +kernel⟩, List.mem_of_getElem? (i := 150) (by decide +kernel), List.mem_of_getElem? (i := 495) (by decide +kernel), List.mem_of_getElem? (i := 496) (by decide +kernel)⟩
theorem lw_p5 : lw_okq (⟨"InferReduce$Reducer", "boxOf", "(I)I"⟩, 9) := ⟨⟨by decide +kernel, by decide +kernel⟩, List.mem_of_getElem? (i := 150) (by decide +kernel), List.mem_of_getElem? (i := 508) (by decide +kernel), List.mem_of_getElem? (i := 509) (by decide +kernel)⟩
theorem lw_p6 : lw_okq (⟨"InferReduce$Reducer", "within", "(III)I"⟩, 9) := ⟨⟨by decide +kernel, by decide +kernel⟩, List.mem_of_getElem? (i := 150) (by decide +kernel), List.mem_of_getElem? (i := 513) (by decide +kernel), List.mem_of_getElem? (i := 514) (by decide +kernel)⟩
theorem lw_p7 : lw_okq (⟨"InferReduce$Reducer", "unboxes", "(II)Z"⟩, 9) := ⟨⟨by decide +kernel, by decide +kernel⟩, List.mem_of_getElem? (i := 150) (by decide +kernel), List.mem_of_getElem? (i := 517) (by decide +kernel), List.mem_of_getElem? (i := 518) (by decide +kernel)⟩
theorem lw_p8 : lw_okq (⟨"InferReduce$Reducer", "lessSub", "(II)I"⟩, 9) := ⟨⟨by decide +kernel, by decide +kernel⟩, List.mem_of_getElem? (i := 150) (by decide +kernel), List.mem_of_getElem? (i := 566) (by decide +kernel), List.mem_of_getElem? (i := 567) (by decide +kernel)⟩
theorem lw_p9 : lw_okq (⟨"InferReduce$Reducer", "bind", "(IIII)I"⟩, 9) := ⟨⟨by decide +kernel, by decide +kernel⟩, List.mem_of_getElem? (i := 150) (by decide +kernel), List.mem_of_getElem? (i := 570) (by decide +kernel), List.mem_of_getElem? (i := 571) (by decide +kernel)⟩
theorem lw_p10 : lw_okq (⟨"InferReduce$Reducer", "withinArguments", "(III)I"⟩, 9) := ⟨⟨by decide +kernel, by decide +kernel⟩, List.mem_of_getElem? (i := 150) (by decide +kernel), List.mem_of_getElem? (i := 578) (by decide +kernel), List.mem_of_getElem? (i := 579) (by decide +kernel)⟩
theorem lw_p11 : lw_okq (⟨"InferReduce$Reducer", "lessContained", "(II)I"⟩, 9) := ⟨⟨by decide +kernel, by decide +kernel⟩, List.mem_of_getElem? (i := 150) (by decide +kernel), List.mem_of_getElem? (i := 583) (by decide +kernel), List.mem_of_getElem? (i := 584) (by decide +kernel)⟩
theorem lw_p12 : lw_okq (⟨"InferReduce$Reducer", "lessEqual", "(II)I"⟩, 9) := ⟨⟨by decide +kernel, by decide +kernel⟩, List.mem_of_getElem? (i := 150) (by decide +kernel), List.mem_of_getElem? (i := 588) (by decide +kernel), List.mem_of_getElem? (i := 589) (by decide +kernel)⟩
theorem lw_p13 : lw_okq (⟨"InferReduce$Holder", "comes", "(II)I"⟩, 7) := ⟨⟨by decide +kernel, by decide +kernel⟩, List.mem_of_getElem? (i := 226) (by decide +kernel), List.mem_of_getElem? (i := 592) (by decide +kernel), List.mem_of_getElem? (i := 593) (by decide +kernel)⟩
theorem lw_p14 : lw_okq (⟨"InferReduce$Holder", "putsInto", "(II)I"⟩, 7) := ⟨⟨by decide +kernel, by decide +kernel⟩, List.mem_of_getElem? (i := 226) (by decide +kernel), List.mem_of_getElem? (i := 600) (by decide +kernel), List.mem_of_getElem? (i := 601) (by decide +kernel)⟩
theorem lw_p15 : lw_okq (⟨"InferReduce$Holder", "shareArguments", "(II)I"⟩, 7) := ⟨⟨by decide +kernel, by decide +kernel⟩, List.mem_of_getElem? (i := 226) (by decide +kernel), List.mem_of_getElem? (i := 624) (by decide +kernel), List.mem_of_getElem? (i := 625) (by decide +kernel)⟩
def lw_privs_1 : List (MethodName × Nat) := [(⟨"InferReduce", "canBeParent", "(II)Z"⟩, 11), (⟨"InferReduce$Classes", "renewReach", "()V"⟩, 6), (⟨"InferReduce", "canBeArgument", "(I)Z"⟩, 11), (⟨"InferReduce", "canBeTold", "(II)Z"⟩, 11), (⟨"InferReduce$Reducer", "lessCompatible", "(II)I"⟩, 9), (⟨"InferReduce$Reducer", "boxOf", "(I)I"⟩, 9), (⟨"InferReduce$Reducer", "within", "(III)I"⟩, 9), (⟨"InferReduce$Reducer", "unboxes", "(II)Z"⟩, 9), (⟨"InferReduce$Reducer", "lessSub", "(II)I"⟩, 9), (⟨"InferReduce$Reducer", "bind", "(IIII)I"⟩, 9), (⟨"InferReduce$Reducer", "withinArguments", "(III)I"⟩, 9), (⟨"InferReduce$Reducer", "lessContained", "(II)I"⟩, 9), (⟨"InferReduce$Reducer", "lessEqual", "(II)I"⟩, 9), (⟨"InferReduce$Holder", "comes", "(II)I"⟩, 7), (⟨"InferReduce$Holder", "putsInto", "(II)I"⟩, 7), (⟨"InferReduce$Holder", "shareArguments", "(II)I"⟩, 7)]
theorem lw_r1 : ∀ q ∈ lw_privs_1, lw_okq q := List.forall_mem_cons.mpr ⟨lw_p0, List.forall_mem_cons.mpr ⟨lw_p1, List.forall_mem_cons.mpr ⟨lw_p2, List.forall_mem_cons.mpr ⟨lw_p3, List.forall_mem_cons.mpr ⟨lw_p4, List.forall_mem_cons.mpr ⟨lw_p5, List.forall_mem_cons.mpr ⟨lw_p6, List.forall_mem_cons.mpr ⟨lw_p7, List.forall_mem_cons.mpr ⟨lw_p8, List.forall_mem_cons.mpr ⟨lw_p9, List.forall_mem_cons.mpr ⟨lw_p10, List.forall_mem_cons.mpr ⟨lw_p11, List.forall_mem_cons.mpr ⟨lw_p12, List.forall_mem_cons.mpr ⟨lw_p13, List.forall_mem_cons.mpr ⟨lw_p14, List.forall_mem_cons.mpr ⟨lw_p15, fun _ h => absurd h List.not_mem_nil⟩⟩⟩⟩⟩⟩⟩⟩⟩⟩⟩⟩⟩⟩⟩⟩
theorem lw_p16 : lw_okq (⟨"InferReduce", "takeState", "(II)V"⟩, 11) := ⟨⟨by decide +kernel, by decide +kernel⟩, List.mem_of_getElem? (i := 15) (by decide +kernel), List.mem_of_getElem? (i := 640) (by decide +kernel), List.mem_of_getElem? (i := 641) (by decide +kernel)⟩
theorem lw_p17 : lw_okq (⟨"InferReduce$Resolver", "link", "(I)V"⟩, 8) := ⟨⟨by decide +kernel, by decide +kernel⟩, List.mem_of_getElem? (i := 255) (by decide +kernel), List.mem_of_getElem? (i := 657) (by decide +kernel), List.mem_of_getElem? (i := 658) (by decide +kernel)⟩
theorem lw_p18 : lw_okq (⟨"InferReduce$Resolver", "groupOf", "(I)I"⟩, 8) := ⟨⟨by decide +kernel, by decide +kernel⟩, List.mem_of_getElem? (i := 255) (by decide +kernel), List.mem_of_getElem? (i := 665) (by decide +kernel), List.mem_of_getElem? (i := 666) (by decide +kernel)⟩
theorem lw_p19 : lw_okq (⟨"InferReduce$Resolver", "gather", "(II)V"⟩, 8) := ⟨⟨by decide +kernel, by decide +kernel⟩, List.mem_of_getElem? (i := 255) (by decide +kernel), List.mem_of_getElem? (i := 679) (by decide +kernel), List.mem_of_getElem? (i := 680) (by decide +kernel)⟩
theorem lw_p20 : lw_okq (⟨"InferReduce$Resolver", "outermost", "(I)I"⟩, 8) := ⟨⟨by decide +kernel, by decide +kernel⟩, List.mem_of_getElem? (i := 255) (by decide +kernel), List.mem_of_getElem? (i := 685) (by decide +kernel), List.mem_of_getElem? (i := 686) (by decide +kernel)⟩
theorem lw_p21 : lw_okq (⟨"InferReduce$Resolver", "joinOfClasses", "()I"⟩, 8) := ⟨⟨by decide +kernel, by decide +kernel⟩, List.mem_of_getElem? (i := 255) (by decide +kernel), List.mem_of_getElem? (i := 691) (by decide +kernel), List.mem_of_getElem? (i := 692) (by decide +kernel)⟩
theorem lw_p22 : lw_okq (⟨"InferReduce$Resolver", "isAboveAll", "(I)I"⟩, 8) := ⟨⟨by decide +kernel, by decide +kernel⟩, List.mem_of_getElem? (i := 255) (by decide +kernel), List.mem_of_getElem? (i := 695) (by decide +kernel), List.mem_of_getElem? (i := 696) (by decide +kernel)⟩
theorem lw_p23 : lw_okq (⟨"InferReduce$Resolver", "isAboveAnother", "(IJ)I"⟩, 8) := ⟨⟨by decide +kernel, by decide +kernel⟩, List.mem_of_getElem? (i := 255) (by decide +kernel), List.mem_of_getElem? (i := 700) (by decide +kernel), List.mem_of_getElem? (i := 701) (by decide +kernel)⟩
theorem lw_p24 : lw_okq (⟨"InferReduce$Resolver", "joinAs", "(I)I"⟩, 8) := ⟨⟨by decide +kernel, by decide +kernel⟩, List.mem_of_getElem? (i := 255) (by decide +kernel), List.mem_of_getElem? (i := 705) (by decide +kernel), List.mem_of_getElem? (i := 706) (by decide +kernel)⟩
theorem lw_p25 : lw_okq (⟨"InferReduce$Resolver", "sharedArgument", "(II)I"⟩, 8) := ⟨⟨by decide +kernel, by decide +kernel⟩, List.mem_of_getElem? (i := 255) (by decide +kernel), List.mem_of_getElem? (i := 710) (by decide +kernel), List.mem_of_getElem? (i := 711) (by decide +kernel)⟩
theorem lw_p26 : lw_okq (⟨"InferReduceModel", "isClass", "(I)Z"⟩, 65) := ⟨⟨by decide +kernel, by decide +kernel⟩, List.mem_of_getElem? (i := 790) (by decide +kernel), List.mem_of_getElem? (i := 1000) (by decide +kernel), List.mem_of_getElem? (i := 1001) (by decide +kernel)⟩
theorem lw_p27 : lw_okq (⟨"InferReduceModel", "isParent", "(II)Z"⟩, 65) := ⟨⟨by decide +kernel, by decide +kernel⟩, List.mem_of_getElem? (i := 790) (by decide +kernel), List.mem_of_getElem? (i := 1004) (by decide +kernel), List.mem_of_getElem? (i := 1005) (by decide +kernel)⟩
theorem lw_p28 : lw_okq (⟨"InferReduceModel", "isType", "(I)Z"⟩, 65) := ⟨⟨by decide +kernel, by decide +kernel⟩, List.mem_of_getElem? (i := 790) (by decide +kernel), List.mem_of_getElem? (i := 1008) (by decide +kernel), List.mem_of_getElem? (i := 1009) (by decide +kernel)⟩
theorem lw_p29 : lw_okq (⟨"InferReduceModel", "isOfBefore", "(II)Z"⟩, 65) := ⟨⟨by decide +kernel, by decide +kernel⟩, List.mem_of_getElem? (i := 790) (by decide +kernel), List.mem_of_getElem? (i := 1012) (by decide +kernel), List.mem_of_getElem? (i := 1013) (by decide +kernel)⟩
theorem lw_p30 : lw_okq (⟨"InferReduceModel", "isSeen", "(I)Z"⟩, 65) := ⟨⟨by decide +kernel, by decide +kernel⟩, List.mem_of_getElem? (i := 790) (by decide +kernel), List.mem_of_getElem? (i := 1016) (by decide +kernel), List.mem_of_getElem? (i := 1017) (by decide +kernel)⟩
theorem lw_p31 : lw_okq (⟨"InferReduceModel", "plainOf", "(I)I"⟩, 65) := ⟨⟨by decide +kernel, by decide +kernel⟩, List.mem_of_getElem? (i := 790) (by decide +kernel), List.mem_of_getElem? (i := 1024) (by decide +kernel), List.mem_of_getElem? (i := 1025) (by decide +kernel)⟩
def lw_privs_2 : List (MethodName × Nat) := [(⟨"InferReduce", "takeState", "(II)V"⟩, 11), (⟨"InferReduce$Resolver", "link", "(I)V"⟩, 8), (⟨"InferReduce$Resolver", "groupOf", "(I)I"⟩, 8), (⟨"InferReduce$Resolver", "gather", "(II)V"⟩, 8), (⟨"InferReduce$Resolver", "outermost", "(I)I"⟩, 8), (⟨"InferReduce$Resolver", "joinOfClasses", "()I"⟩, 8), (⟨"InferReduce$Resolver", "isAboveAll", "(I)I"⟩, 8), (⟨"InferReduce$Resolver", "isAboveAnother", "(IJ)I"⟩, 8), (⟨"InferReduce$Resolver", "joinAs", "(I)I"⟩, 8), (⟨"InferReduce$Resolver", "sharedArgument", "(II)I"⟩, 8), (⟨"InferReduceModel", "isClass", "(I)Z"⟩, 65), (⟨"InferReduceModel", "isParent", "(II)Z"⟩, 65), (⟨"InferReduceModel", "isType", "(I)Z"⟩, 65), (⟨"InferReduceModel", "isOfBefore", "(II)Z"⟩, 65), (⟨"InferReduceModel", "isSeen", "(I)Z"⟩, 65), (⟨"InferReduceModel", "plainOf", "(I)I"⟩, 65)]
theorem lw_r2 : ∀ q ∈ lw_privs_2, lw_okq q := List.forall_mem_cons.mpr ⟨lw_p16, List.forall_mem_cons.mpr ⟨lw_p17, List.forall_mem_cons.mpr ⟨lw_p18, List.forall_mem_cons.mpr ⟨lw_p19, List.forall_mem_cons.mpr ⟨lw_p20, List.forall_mem_cons.mpr ⟨lw_p21, List.forall_mem_cons.mpr ⟨lw_p22, List.forall_mem_cons.mpr ⟨lw_p23, List.forall_mem_cons.mpr ⟨lw_p24, List.forall_mem_cons.mpr ⟨lw_p25, List.forall_mem_cons.mpr ⟨lw_p26, List.forall_mem_cons.mpr ⟨lw_p27, List.forall_mem_cons.mpr ⟨lw_p28, List.forall_mem_cons.mpr ⟨lw_p29, List.forall_mem_cons.mpr ⟨lw_p30, List.forall_mem_cons.mpr ⟨lw_p31, fun _ h => absurd h List.not_mem_nil⟩⟩⟩⟩⟩⟩⟩⟩⟩⟩⟩⟩⟩⟩⟩⟩
theorem lw_p32 : lw_okq (⟨"InferReduceModel", "make", "(IIII)I"⟩, 65) := ⟨⟨by decide +kernel, by decide +kernel⟩, List.mem_of_getElem? (i := 790) (by decide +kernel), List.mem_of_getElem? (i := 1028) (by decide +kernel), List.mem_of_getElem? (i := 1029) (by decide +kernel)⟩
theorem lw_p33 : lw_okq (⟨"InferReduceModel", "made", "(I)I"⟩, 65) := ⟨⟨by decide +kernel, by decide +kernel⟩, List.mem_of_getElem? (i := 790) (by decide +kernel), List.mem_of_getElem? (i := 1032) (by decide +kernel), List.mem_of_getElem? (i := 1033) (by decide +kernel)⟩
theorem lw_p34 : lw_okq (⟨"InferReduceModel", "isArgument", "(I)Z"⟩, 65) := ⟨⟨by decide +kernel, by decide +kernel⟩, List.mem_of_getElem? (i := 790) (by decide +kernel), List.mem_of_getElem? (i := 1040) (by decide +kernel), List.mem_of_getElem? (i := 1041) (by decide +kernel)⟩
theorem lw_p35 : lw_okq (⟨"InferReduceModel", "aboveOf", "(II)I"⟩, 65) := ⟨⟨by decide +kernel, by decide +kernel⟩, List.mem_of_getElem? (i := 790) (by decide +kernel), List.mem_of_getElem? (i := 1072) (by decide +kernel), List.mem_of_getElem? (i := 1073) (by decide +kernel)⟩
theorem lw_p36 : lw_okq (⟨"InferReduceModel", "push", "(III)V"⟩, 65) := ⟨⟨by decide +kernel, by decide +kernel⟩, List.mem_of_getElem? (i := 790) (by decide +kernel), List.mem_of_getElem? (i := 1076) (by decide +kernel), List.mem_of_getElem? (i := 1077) (by decide +kernel)⟩
theorem lw_p37 : lw_okq (⟨"InferReduceModel", "replaced", "(II)I"⟩, 65) := ⟨⟨by decide +kernel, by decide +kernel⟩, List.mem_of_getElem? (i := 790) (by decide +kernel), List.mem_of_getElem? (i := 1080) (by decide +kernel), List.mem_of_getElem? (i := 1081) (by decide +kernel)⟩
theorem lw_p38 : lw_okq (⟨"InferReduceModel", "inPlaceOf", "(II)I"⟩, 65) := ⟨⟨by decide +kernel, by decide +kernel⟩, List.mem_of_getElem? (i := 790) (by decide +kernel), List.mem_of_getElem? (i := 1084) (by decide +kernel), List.mem_of_getElem? (i := 1085) (by decide +kernel)⟩
theorem lw_p39 : lw_okq (⟨"InferReduceModel", "innerOf", "(II)I"⟩, 65) := ⟨⟨by decide +kernel, by decide +kernel⟩, List.mem_of_getElem? (i := 790) (by decide +kernel), List.mem_of_getElem? (i := 1088) (by decide +kernel), List.mem_of_getElem? (i := 1089) (by decide +kernel)⟩
theorem lw_p40 : lw_okq (⟨"InferReduceModel", "isThere", "(I)Z"⟩, 65) := ⟨⟨by decide +kernel, by decide +kernel⟩, List.mem_of_getElem? (i := 790) (by decide +kernel), List.mem_of_getElem? (i := 1096) (by decide +kernel), List.mem_of_getElem? (i := 1097) (by decide +kernel)⟩
theorem lw_p41 : lw_okq (⟨"InferReduceModel", "isIn", "(II)Z"⟩, 65) := ⟨⟨by decide +kernel, by decide +kernel⟩, List.mem_of_getElem? (i := 790) (by decide +kernel), List.mem_of_getElem? (i := 1100) (by decide +kernel), List.mem_of_getElem? (i := 1101) (by decide +kernel)⟩
theorem lw_p42 : lw_okq (⟨"InferReduceModel", "begin", "(I)V"⟩, 65) := ⟨⟨by decide +kernel, by decide +kernel⟩, List.mem_of_getElem? (i := 790) (by decide +kernel), List.mem_of_getElem? (i := 1104) (by decide +kernel), List.mem_of_getElem? (i := 1105) (by decide +kernel)⟩
theorem lw_p43 : lw_okq (⟨"InferReduceModel", "less", "(III)Z"⟩, 65) := ⟨⟨by decide +kernel, by decide +kernel⟩, List.mem_of_getElem? (i := 790) (by decide +kernel), List.mem_of_getElem? (i := 1108) (by decide +kernel), List.mem_of_getElem? (i := 1109) (by decide +kernel)⟩
theorem lw_p44 : lw_okq (⟨"InferReduceModel", "step", "(III)Z"⟩, 65) := ⟨⟨by decide +kernel, by decide +kernel⟩, List.mem_of_getElem? (i := 790) (by decide +kernel), List.mem_of_getElem? (i := 1112) (by decide +kernel), List.mem_of_getElem? (i := 1113) (by decide +kernel)⟩
theorem lw_p45 : lw_okq (⟨"InferReduceModel", "compatible", "(II)Z"⟩, 65) := ⟨⟨by decide +kernel, by decide +kernel⟩, List.mem_of_getElem? (i := 790) (by decide +kernel), List.mem_of_getElem? (i := 1116) (by decide +kernel), List.mem_of_getElem? (i := 1117) (by decide +kernel)⟩
theorem lw_p46 : lw_okq (⟨"InferReduceModel", "boxOf", "(I)I"⟩, 65) := ⟨⟨by decide +kernel, by decide +kernel⟩, List.mem_of_getElem? (i := 790) (by decide +kernel), List.mem_of_getElem? (i := 1123) (by decide +kernel), List.mem_of_getElem? (i := 1124) (by decide +kernel)⟩
theorem lw_p47 : lw_okq (⟨"InferReduceModel", "then", "(III)Z"⟩, 65) := ⟨⟨by decide +kernel, by decide +kernel⟩, List.mem_of_getElem? (i := 790) (by decide +kernel), List.mem_of_getElem? (i := 1127) (by decide +kernel), List.mem_of_getElem? (i := 1128) (by decide +kernel)⟩
def lw_privs_3 : List (MethodName × Nat) := [(⟨"InferReduceModel", "make", "(IIII)I"⟩, 65), (⟨"InferReduceModel", "made", "(I)I"⟩, 65), (⟨"InferReduceModel", "isArgument", "(I)Z"⟩, 65), (⟨"InferReduceModel", "aboveOf", "(II)I"⟩, 65), (⟨"InferReduceModel", "push", "(III)V"⟩, 65), (⟨"InferReduceModel", "replaced", "(II)I"⟩, 65), (⟨"InferReduceModel", "inPlaceOf", "(II)I"⟩, 65), (⟨"InferReduceModel", "innerOf", "(II)I"⟩, 65), (⟨"InferReduceModel", "isThere", "(I)Z"⟩, 65), (⟨"InferReduceModel", "isIn", "(II)Z"⟩, 65), (⟨"InferReduceModel", "begin", "(I)V"⟩, 65), (⟨"InferReduceModel", "less", "(III)Z"⟩, 65), (⟨"InferReduceModel", "step", "(III)Z"⟩, 65), (⟨"InferReduceModel", "compatible", "(II)Z"⟩, 65), (⟨"InferReduceModel", "boxOf", "(I)I"⟩, 65), (⟨"InferReduceModel", "then", "(III)Z"⟩, 65)]
theorem lw_r3 : ∀ q ∈ lw_privs_3, lw_okq q := List.forall_mem_cons.mpr ⟨lw_p32, List.forall_mem_cons.mpr ⟨lw_p33, List.forall_mem_cons.mpr ⟨lw_p34, List.forall_mem_cons.mpr ⟨lw_p35, List.forall_mem_cons.mpr ⟨lw_p36, List.forall_mem_cons.mpr ⟨lw_p37, List.forall_mem_cons.mpr ⟨lw_p38, List.forall_mem_cons.mpr ⟨lw_p39, List.forall_mem_cons.mpr ⟨lw_p40, List.forall_mem_cons.mpr ⟨lw_p41, List.forall_mem_cons.mpr ⟨lw_p42, List.forall_mem_cons.mpr ⟨lw_p43, List.forall_mem_cons.mpr ⟨lw_p44, List.forall_mem_cons.mpr ⟨lw_p45, List.forall_mem_cons.mpr ⟨lw_p46, List.forall_mem_cons.mpr ⟨lw_p47, fun _ h => absurd h List.not_mem_nil⟩⟩⟩⟩⟩⟩⟩⟩⟩⟩⟩⟩⟩⟩⟩⟩
theorem lw_p48 : lw_okq (⟨"InferReduceModel", "sub", "(II)Z"⟩, 65) := ⟨⟨by decide +kernel, by decide +kernel⟩, List.mem_of_getElem? (i := 790) (by decide +kernel), List.mem_of_getElem? (i := 1131) (by decide +kernel), List.mem_of_getElem? (i := 1132) (by decide +kernel)⟩
theorem lw_p49 : lw_okq (⟨"InferReduceModel", "isBelow", "(II)Z"⟩, 65) := ⟨⟨by decide +kernel, by decide +kernel⟩, List.mem_of_getElem? (i := 790) (by decide +kernel), List.mem_of_getElem? (i := 1135) (by decide +kernel), List.mem_of_getElem? (i := 1136) (by decide +kernel)⟩
theorem lw_p50 : lw_okq (⟨"InferReduceModel", "bind", "(III)V"⟩, 65) := ⟨⟨by decide +kernel, by decide +kernel⟩, List.mem_of_getElem? (i := 790) (by decide +kernel), List.mem_of_getElem? (i := 1139) (by decide +kernel), List.mem_of_getElem? (i := 1140) (by decide +kernel)⟩
theorem lw_p51 : lw_okq (⟨"InferReduceModel", "contained", "(II)Z"⟩, 65) := ⟨⟨by decide +kernel, by decide +kernel⟩, List.mem_of_getElem? (i := 790) (by decide +kernel), List.mem_of_getElem? (i := 1143) (by decide +kernel), List.mem_of_getElem? (i := 1144) (by decide +kernel)⟩
theorem lw_p52 : lw_okq (⟨"InferReduceModel", "equal", "(II)Z"⟩, 65) := ⟨⟨by decide +kernel, by decide +kernel⟩, List.mem_of_getElem? (i := 790) (by decide +kernel), List.mem_of_getElem? (i := 1147) (by decide +kernel), List.mem_of_getElem? (i := 1148) (by decide +kernel)⟩
theorem lw_p53 : lw_okq (⟨"InferReduceModel", "isSame", "(II)Z"⟩, 65) := ⟨⟨by decide +kernel, by decide +kernel⟩, List.mem_of_getElem? (i := 790) (by decide +kernel), List.mem_of_getElem? (i := 1151) (by decide +kernel), List.mem_of_getElem? (i := 1152) (by decide +kernel)⟩
theorem lw_p54 : lw_okq (⟨"InferReduceModel", "hold", "()Z"⟩, 65) := ⟨⟨by decide +kernel, by decide +kernel⟩, List.mem_of_getElem? (i := 790) (by decide +kernel), List.mem_of_getElem? (i := 1155) (by decide +kernel), List.mem_of_getElem? (i := 1156) (by decide +kernel)⟩
theorem lw_p55 : lw_okq (⟨"InferReduceModel", "holdBoth", "(IIZ)Z"⟩, 65) := ⟨⟨by decide +kernel, by decide +kernel⟩, List.mem_of_getElem? (i := 790) (by decide +kernel), List.mem_of_getElem? (i := 1159) (by decide +kernel), List.mem_of_getElem? (i := 1160) (by decide +kernel)⟩
theorem lw_p56 : lw_okq (⟨"InferReduceModel", "holdIn", "(II)Z"⟩, 65) := ⟨⟨by decide +kernel, by decide +kernel⟩, List.mem_of_getElem? (i := 790) (by decide +kernel), List.mem_of_getElem? (i := 1163) (by decide +kernel), List.mem_of_getElem? (i := 1164) (by decide +kernel)⟩
theorem lw_p57 : lw_okq (⟨"InferReduceModel", "holdArguments", "(II)Z"⟩, 65) := ⟨⟨by decide +kernel, by decide +kernel⟩, List.mem_of_getElem? (i := 790) (by decide +kernel), List.mem_of_getElem? (i := 1167) (by decide +kernel), List.mem_of_getElem? (i := 1168) (by decide +kernel)⟩
theorem lw_p58 : lw_okq (⟨"InferReduceModel", "settle", "(ZI)V"⟩, 65) := ⟨⟨by decide +kernel, by decide +kernel⟩, List.mem_of_getElem? (i := 790) (by decide +kernel), List.mem_of_getElem? (i := 1171) (by decide +kernel), List.mem_of_getElem? (i := 1172) (by decide +kernel)⟩
theorem lw_p59 : lw_okq (⟨"InferReduceModel", "instanceOf", "(I)I"⟩, 65) := ⟨⟨by decide +kernel, by decide +kernel⟩, List.mem_of_getElem? (i := 790) (by decide +kernel), List.mem_of_getElem? (i := 1183) (by decide +kernel), List.mem_of_getElem? (i := 1184) (by decide +kernel)⟩
theorem lw_p60 : lw_okq (⟨"InferReduceModel", "depends", "(I)I"⟩, 65) := ⟨⟨by decide +kernel, by decide +kernel⟩, List.mem_of_getElem? (i := 790) (by decide +kernel), List.mem_of_getElem? (i := 1187) (by decide +kernel), List.mem_of_getElem? (i := 1188) (by decide +kernel)⟩
theorem lw_p61 : lw_okq (⟨"InferReduceModel", "isLinked", "(II)Z"⟩, 65) := ⟨⟨by decide +kernel, by decide +kernel⟩, List.mem_of_getElem? (i := 790) (by decide +kernel), List.mem_of_getElem? (i := 1191) (by decide +kernel), List.mem_of_getElem? (i := 1192) (by decide +kernel)⟩
theorem lw_p62 : lw_okq (⟨"InferReduceModel", "chooseAll", "()Z"⟩, 65) := ⟨⟨by decide +kernel, by decide +kernel⟩, List.mem_of_getElem? (i := 790) (by decide +kernel), List.mem_of_getElem? (i := 1195) (by decide +kernel), List.mem_of_getElem? (i := 1196) (by decide +kernel)⟩
theorem lw_p63 : lw_okq (⟨"InferReduceModel", "choose", "(I)I"⟩, 65) := ⟨⟨by decide +kernel, by decide +kernel⟩, List.mem_of_getElem? (i := 790) (by decide +kernel), List.mem_of_getElem? (i := 1199) (by decide +kernel), List.mem_of_getElem? (i := 1200) (by decide +kernel)⟩
def lw_privs_4 : List (MethodName × Nat) := [(⟨"InferReduceModel", "sub", "(II)Z"⟩, 65), (⟨"InferReduceModel", "isBelow", "(II)Z"⟩, 65), (⟨"InferReduceModel", "bind", "(III)V"⟩, 65), (⟨"InferReduceModel", "contained", "(II)Z"⟩, 65), (⟨"InferReduceModel", "equal", "(II)Z"⟩, 65), (⟨"InferReduceModel", "isSame", "(II)Z"⟩, 65), (⟨"InferReduceModel", "hold", "()Z"⟩, 65), (⟨"InferReduceModel", "holdBoth", "(IIZ)Z"⟩, 65), (⟨"InferReduceModel", "holdIn", "(II)Z"⟩, 65), (⟨"InferReduceModel", "holdArguments", "(II)Z"⟩, 65), (⟨"InferReduceModel", "settle", "(ZI)V"⟩, 65), (⟨"InferReduceModel", "instanceOf", "(I)I"⟩, 65), (⟨"InferReduceModel", "depends", "(I)I"⟩, 65), (⟨"InferReduceModel", "isLinked", "(II)Z"⟩, 65), (⟨"InferReduceModel", "chooseAll", "()Z"⟩, 65), (⟨"InferReduceModel", "choose", "(I)I"⟩, 65)]
theorem lw_r4 : ∀ q ∈ lw_privs_4, lw_okq q := List.forall_mem_cons.mpr ⟨lw_p48, List.forall_mem_cons.mpr ⟨lw_p49, List.forall_mem_cons.mpr ⟨lw_p50, List.forall_mem_cons.mpr ⟨lw_p51, List.forall_mem_cons.mpr ⟨lw_p52, List.forall_mem_cons.mpr ⟨lw_p53, List.forall_mem_cons.mpr ⟨lw_p54, List.forall_mem_cons.mpr ⟨lw_p55, List.forall_mem_cons.mpr ⟨lw_p56, List.forall_mem_cons.mpr ⟨lw_p57, List.forall_mem_cons.mpr ⟨lw_p58, List.forall_mem_cons.mpr ⟨lw_p59, List.forall_mem_cons.mpr ⟨lw_p60, List.forall_mem_cons.mpr ⟨lw_p61, List.forall_mem_cons.mpr ⟨lw_p62, List.forall_mem_cons.mpr ⟨lw_p63, fun _ h => absurd h List.not_mem_nil⟩⟩⟩⟩⟩⟩⟩⟩⟩⟩⟩⟩⟩⟩⟩⟩
theorem lw_p64 : lw_okq (⟨"InferReduceModel", "collect", "(II)V"⟩, 65) := ⟨⟨by decide +kernel, by decide +kernel⟩, List.mem_of_getElem? (i := 790) (by decide +kernel), List.mem_of_getElem? (i := 1203) (by decide +kernel), List.mem_of_getElem? (i := 1204) (by decide +kernel)⟩
theorem lw_p65 : lw_okq (⟨"InferReduceModel", "join", "()I"⟩, 65) := ⟨⟨by decide +kernel, by decide +kernel⟩, List.mem_of_getElem? (i := 790) (by decide +kernel), List.mem_of_getElem? (i := 1207) (by decide +kernel), List.mem_of_getElem? (i := 1208) (by decide +kernel)⟩
theorem lw_p66 : lw_okq (⟨"InferReduceModel", "extreme", "(Z)I"⟩, 65) := ⟨⟨by decide +kernel, by decide +kernel⟩, List.mem_of_getElem? (i := 790) (by decide +kernel), List.mem_of_getElem? (i := 1211) (by decide +kernel), List.mem_of_getElem? (i := 1212) (by decide +kernel)⟩
theorem lw_p67 : lw_okq (⟨"InferReduceModel", "joined", "(I)I"⟩, 65) := ⟨⟨by decide +kernel, by decide +kernel⟩, List.mem_of_getElem? (i := 790) (by decide +kernel), List.mem_of_getElem? (i := 1215) (by decide +kernel), List.mem_of_getElem? (i := 1216) (by decide +kernel)⟩
def lw_privs_5 : List (MethodName × Nat) := [(⟨"InferReduceModel", "collect", "(II)V"⟩, 65), (⟨"InferReduceModel", "join", "()I"⟩, 65), (⟨"InferReduceModel", "extreme", "(Z)I"⟩, 65), (⟨"InferReduceModel", "joined", "(I)I"⟩, 65)]
theorem lw_r5 : ∀ q ∈ lw_privs_5, lw_okq q := List.forall_mem_cons.mpr ⟨lw_p64, List.forall_mem_cons.mpr ⟨lw_p65, List.forall_mem_cons.mpr ⟨lw_p66, List.forall_mem_cons.mpr ⟨lw_p67, fun _ h => absurd h List.not_mem_nil⟩⟩⟩⟩
def lw_privs : List (MethodName × Nat) := lw_privs_1 ++ (lw_privs_2 ++ (lw_privs_3 ++ (lw_privs_4 ++ (lw_privs_5))))
def lw_tbl : List Cond := k2_sels lw_privs ++ tables_1
theorem lw_privs_ok : ∀ q ∈ lw_privs, lw_okq q := by
  show ∀ q ∈ lw_privs_1 ++ (lw_privs_2 ++ (lw_privs_3 ++ (lw_privs_4 ++ (lw_privs_5)))), lw_okq q
  exact List.forall_mem_append.mpr ⟨lw_r1, List.forall_mem_append.mpr ⟨lw_r2, List.forall_mem_append.mpr ⟨lw_r3, List.forall_mem_append.mpr ⟨lw_r4, lw_r5⟩⟩⟩⟩
end
section
/-! THE JUDGEMENT J: a frame whose rest is worked out by a pure function F of the state: where F comes to some (r, σ'), the machine comes to Q r σ'. F holds every check (a place in range, a loop's count) as an Option: the walk itself needs no fact. -/
abbrev jx_E : Type := Program × Launch × Env × Room × State × MethodId × Array Value × List Frame × Method × Code
abbrev jp (K : jx_E) : Program := K.1
abbrev jl (K : jx_E) : Launch := K.2.1
abbrev je (K : jx_E) : Env := K.2.2.1
abbrev jR (K : jx_E) : Room := K.2.2.2.1
abbrev js (K : jx_E) : State := K.2.2.2.2.1
abbrev jm (K : jx_E) : MethodId := K.2.2.2.2.2.1
abbrev ja (K : jx_E) : Array Value := K.2.2.2.2.2.2.1
abbrev jb (K : jx_E) : List Frame := K.2.2.2.2.2.2.2.1
abbrev jh (K : jx_E) : Method := K.2.2.2.2.2.2.2.2.1
abbrev jc (K : jx_E) : Code := K.2.2.2.2.2.2.2.2.2
abbrev jW (K : jx_E) (H : Heap) (locs : List Loc) (cs sl : Nat) (Q : State → Prop) (g : JFrame) : Prop := W (jp K) (jl K) (je K) (jR K) (js K) (jm K) (ja K) (jb K) (jh K) (jc K) H locs cs sl Q g
/-- what stands fixed through a method's walk -/
def jx_ok (K : jx_E) (D : va_G) (cl : List vw_C) (tys : List (ClassId × FieldType)) (A : Nat → Prop) (nL : Nat) (cc : ByteArray) (own : String) (Ts : List Cond) (rm : Room) (rt : Option FieldType) : Prop :=
  (jp K).tables.exec = Jvm.exec ∧ (jc K).code = cc ∧ (jc K).maxLocals = nL ∧ (js K).vm.findClass own = some (jm K).cls ∧ (∀ w ∈ Ts, w.before (ja K) (js K) = true) ∧ va_K D cl tys (js K) ∧ (∀ q, (js K).heap.size ≤ q → A q) ∧ (jh K).locks = false ∧ jR K = rm ∧ (jh K).sig.returnType = rt
def J {St ρ : Type} (K : jx_E) (D : va_G) (cl : List vw_C) (A : Nat → Prop) (nL : Nat) (w : St → va_W) (Q : ρ → St → State → Prop) (cs sl : Nat) (pc : Nat) (lv : List (Nat × Value)) (st : List Value) (σ : St) (F : Option (ρ × St)) : Prop :=
  ∀ (r : ρ) (σ' : St), F = some (r, σ') → ∀ (H : Heap) (locs : List Loc) (ls : Array Slot), va_P D cl (w σ) H → va_D A (w σ) → va_S A (js K).heap H locs → lv_has ls nL lv → jW K H locs cs sl (Q r σ') (F0 (jm K) pc ls st)
def nm {α β : Type} (x : α) (f : α → β) : β := f x
def ck (i : Int32) (n : Nat) : Bool := decide (¬ (i < 0 ∨ n ≤ i.toNatClampNeg))
theorem ck_in {i : Int32} {n : Nat} (h : ck i n = true) : vp_in i n := (of_decide_eq_true h : ¬ (i < 0 ∨ n ≤ i.toNatClampNeg))
/-- a call's answer and state, and what goes on with them -/
def bd {α St β : Type} (x : Option (α × St)) (f : α → St → Option β) : Option β := match x with
  | none => none
  | some q => f q.1 q.2
theorem bd_some {α St β : Type} {x : Option (α × St)} {f : α → St → Option β} {z : β} (h : bd x f = some z) : ∃ a u, x = some (a, u) ∧ f a u = some z := by
  cases x with
  | none => cases h
  | some q => exact ⟨q.1, q.2, rfl, h⟩
section JR
variable {St ρ : Type} {K : jx_E} {D : va_G} {cl : List vw_C} {tys : List (ClassId × FieldType)} {A : Nat → Prop} {nL : Nat} {cc : ByteArray} {own : String} {Ts : List Cond} {rm : Room} {rt : Option FieldType} {w : St → va_W} {Q : ρ → St → State → Prop} {cs sl : Nat} {pc : Nat} {lv : List (Nat × Value)} {st : List Value} {σ : St} {F F1 F2 : Option (ρ × St)}
theorem J_none : J K D cl A nL w Q cs sl pc lv st σ none := fun _ _ h => by cases h
theorem J_sub {lv' : List (Nat × Value)} (ks : List Nat) (hk : lv_pick lv ks = lv') (k : J K D cl A nL w Q cs sl pc lv' st σ F) : J K D cl A nL w Q cs sl pc lv st σ F := fun r σ' e H locs ls hP hD hS hl => k r σ' e H locs ls hP hD hS (lv_sub hl ks hk)
theorem J_nmi {x : Int32} {f : Int32 → Option (ρ × St)} (k : ∀ y : Int32, J K D cl A nL w Q cs sl pc lv (.int y :: st) σ (f y)) : J K D cl A nL w Q cs sl pc lv (.int x :: st) σ (nm x f) := k x
theorem J_nml {x : Int64} {f : Int64 → Option (ρ × St)} (k : ∀ y : Int64, J K D cl A nL w Q cs sl pc lv (.long y :: st) σ (f y)) : J K D cl A nL w Q cs sl pc lv (.long x :: st) σ (nm x f) := k x
theorem J_if {c : Prop} [Decidable c] (k1 : c → J K D cl A nL w Q cs sl pc lv st σ F1) (k2 : ¬ c → J K D cl A nL w Q cs sl pc lv st σ F2) : J K D cl A nL w Q cs sl pc lv st σ (if c then F1 else F2) := by
  by_cases h : c
  · rw [if_pos h]; exact k1 h
  · rw [if_neg h]; exact k2 h
theorem J_iconst (h : jx_ok K D cl tys A nL cc own Ts rm rt) {n : Int} {v : Int32} (hd : decode cc pc = .ok (.iconst n, 1)) (hv : Int32.ofInt n = v) (k : J K D cl A nL w Q cs sl (pc + 1) lv (.int v :: st) σ F) : J K D cl A nL w Q cs sl pc lv st σ F :=
  fun r σ' e H locs ls hP hD hS hl => lv_iconst h.1 h.2.1 hd hv (k r σ' e H locs ls hP hD hS hl)
theorem J_bipush (h : jx_ok K D cl tys A nL cc own Ts rm rt) {n : Int} {v : Int32} (hd : decode cc pc = .ok (.bipush n, 2)) (hv : (Int8.ofInt n).toInt32 = v) (k : J K D cl A nL w Q cs sl (pc + 2) lv (.int v :: st) σ F) : J K D cl A nL w Q cs sl pc lv st σ F :=
  fun r σ' e H locs ls hP hD hS hl => lv_bipush h.1 h.2.1 hd hv (k r σ' e H locs ls hP hD hS hl)
theorem J_sipush (h : jx_ok K D cl tys A nL cc own Ts rm rt) {n : Int} {v : Int32} (hd : decode cc pc = .ok (.sipush n, 3)) (hv : (Int16.ofInt n).toInt32 = v) (k : J K D cl A nL w Q cs sl (pc + 3) lv (.int v :: st) σ F) : J K D cl A nL w Q cs sl pc lv st σ F :=
  fun r σ' e H locs ls hP hD hS hl => lv_sipush h.1 h.2.1 hd hv (k r σ' e H locs ls hP hD hS hl)
theorem J_lconst (h : jx_ok K D cl tys A nL cc own Ts rm rt) {n : Fin 2} {v : Int64} (hd : decode cc pc = .ok (.lconst n, 1)) (hv : Int64.ofNat (n : Nat) = v) (k : J K D cl A nL w Q cs sl (pc + 1) lv (.long v :: st) σ F) : J K D cl A nL w Q cs sl pc lv st σ F :=
  fun r σ' e H locs ls hP hD hS hl => lv_lconst h.1 h.2.1 hd hv (k r σ' e H locs ls hP hD hS hl)
theorem J_ldc2 (h : jx_ok K D cl tys A nL cc own Ts rm rt) {index : Nat} {v : Int64} (hd : decode cc pc = .ok (.ldc2_w index, 3)) (hw : Cond.constantLong own index v ∈ Ts) (k : J K D cl A nL w Q cs sl (pc + 3) lv (.long v :: st) σ F) : J K D cl A nL w Q cs sl pc lv st σ F :=
  fun r σ' e H locs ls hP hD hS hl => lv_ldc2 h.1 h.2.1 h.2.2.2.1 (h.2.2.2.2.1 _ hw) hd (k r σ' e H locs ls hP hD hS hl)
theorem J_ldc (h : jx_ok K D cl tys A nL cc own Ts rm rt) {index : Nat} {v : Int32} (hd : decode cc pc = .ok (.ldc index, 2)) (hw : Cond.constant own index v ∈ Ts) (k : J K D cl A nL w Q cs sl (pc + 2) lv (.int v :: st) σ F) : J K D cl A nL w Q cs sl pc lv st σ F :=
  fun r σ' e H locs ls hP hD hS hl => lv_ldc h.1 h.2.1 h.2.2.2.1 (h.2.2.2.2.1 _ hw) hd (k r σ' e H locs ls hP hD hS hl)
theorem J_iload_n (h : jx_ok K D cl tys A nL cc own Ts rm rt) {j : Fin 4} {i q : Nat} {x : Int32} (hd : decode cc pc = .ok (.iload_n j, 1)) (hi : (j : Nat) = i) (hl0 : lv[q]? = some (i, .int x)) (k : J K D cl A nL w Q cs sl (pc + 1) lv (.int x :: st) σ F) : J K D cl A nL w Q cs sl pc lv st σ F :=
  fun r σ' e H locs ls hP hD hS hl => lv_iload_n h.1 h.2.1 hd hi (lv_at hl q hl0) (k r σ' e H locs ls hP hD hS hl)
theorem J_iload (h : jx_ok K D cl tys A nL cc own Ts rm rt) {i q : Nat} {x : Int32} (hd : decode cc pc = .ok (.iload i, 2)) (hl0 : lv[q]? = some (i, .int x)) (k : J K D cl A nL w Q cs sl (pc + 2) lv (.int x :: st) σ F) : J K D cl A nL w Q cs sl pc lv st σ F :=
  fun r σ' e H locs ls hP hD hS hl => lv_iload h.1 h.2.1 hd (lv_at hl q hl0) (k r σ' e H locs ls hP hD hS hl)
theorem J_lload_n (h : jx_ok K D cl tys A nL cc own Ts rm rt) {j : Fin 4} {i q : Nat} {x : Int64} (hd : decode cc pc = .ok (.lload_n j, 1)) (hi : (j : Nat) = i) (hl0 : lv[q]? = some (i, .long x)) (k : J K D cl A nL w Q cs sl (pc + 1) lv (.long x :: st) σ F) : J K D cl A nL w Q cs sl pc lv st σ F :=
  fun r σ' e H locs ls hP hD hS hl => lv_lload_n h.1 h.2.1 hd hi (lv_at hl q hl0) (k r σ' e H locs ls hP hD hS hl)
theorem J_lload (h : jx_ok K D cl tys A nL cc own Ts rm rt) {i q : Nat} {x : Int64} (hd : decode cc pc = .ok (.lload i, 2)) (hl0 : lv[q]? = some (i, .long x)) (k : J K D cl A nL w Q cs sl (pc + 2) lv (.long x :: st) σ F) : J K D cl A nL w Q cs sl pc lv st σ F :=
  fun r σ' e H locs ls hP hD hS hl => lv_lload h.1 h.2.1 hd (lv_at hl q hl0) (k r σ' e H locs ls hP hD hS hl)
theorem J_aload_n (h : jx_ok K D cl tys A nL cc own Ts rm rt) {j : Fin 4} {i q x : Nat} (hd : decode cc pc = .ok (.aload_n j, 1)) (hi : (j : Nat) = i) (hl0 : lv[q]? = some (i, .ref x)) (k : J K D cl A nL w Q cs sl (pc + 1) lv (.ref x :: st) σ F) : J K D cl A nL w Q cs sl pc lv st σ F :=
  fun r σ' e H locs ls hP hD hS hl => lv_aload_n h.1 h.2.1 hd hi (lv_at hl q hl0) (k r σ' e H locs ls hP hD hS hl)
theorem J_aload (h : jx_ok K D cl tys A nL cc own Ts rm rt) {i q x : Nat} (hd : decode cc pc = .ok (.aload i, 2)) (hl0 : lv[q]? = some (i, .ref x)) (k : J K D cl A nL w Q cs sl (pc + 2) lv (.ref x :: st) σ F) : J K D cl A nL w Q cs sl pc lv st σ F :=
  fun r σ' e H locs ls hP hD hS hl => lv_aload h.1 h.2.1 hd (lv_at hl q hl0) (k r σ' e H locs ls hP hD hS hl)
theorem J_istore_n (h : jx_ok K D cl tys A nL cc own Ts rm rt) {j : Fin 4} {i : Nat} {x : Int32} {lv' : List (Nat × Value)} (hd : decode cc pc = .ok (.istore_n j, 1)) (hi : (j : Nat) = i) (hn : i < nL) (hl' : (i, Value.int x) :: lv.filter (fun q => !(q.1 == i) && !(q.1 + 1 == i && q.2.category == 2)) = lv') (k : J K D cl A nL w Q cs sl (pc + 1) lv' st σ F) : J K D cl A nL w Q cs sl pc lv (.int x :: st) σ F :=
  fun r σ' e H locs ls hP hD hS hl => lv_istore_n h.1 h.2.1 hd hi hl hn hl' (fun ls hl => k r σ' e H locs ls hP hD hS hl)
theorem J_istore (h : jx_ok K D cl tys A nL cc own Ts rm rt) {i : Nat} {x : Int32} {lv' : List (Nat × Value)} (hd : decode cc pc = .ok (.istore i, 2)) (hn : i < nL) (hl' : (i, Value.int x) :: lv.filter (fun q => !(q.1 == i) && !(q.1 + 1 == i && q.2.category == 2)) = lv') (k : J K D cl A nL w Q cs sl (pc + 2) lv' st σ F) : J K D cl A nL w Q cs sl pc lv (.int x :: st) σ F :=
  fun r σ' e H locs ls hP hD hS hl => lv_istore h.1 h.2.1 hd hl hn hl' (fun ls hl => k r σ' e H locs ls hP hD hS hl)
theorem J_lstore_n (h : jx_ok K D cl tys A nL cc own Ts rm rt) {j : Fin 4} {i : Nat} {x : Int64} {lv' : List (Nat × Value)} (hd : decode cc pc = .ok (.lstore_n j, 1)) (hi : (j : Nat) = i) (hn : i + 1 < nL) (hl' : (i, Value.long x) :: lv.filter (fun q => !(q.1 == i) && (!(q.1 == i + 1) && !(q.1 + 1 == i && q.2.category == 2))) = lv') (k : J K D cl A nL w Q cs sl (pc + 1) lv' st σ F) : J K D cl A nL w Q cs sl pc lv (.long x :: st) σ F :=
  fun r σ' e H locs ls hP hD hS hl => lv_lstore_n h.1 h.2.1 hd hi hl hn hl' (fun ls hl => k r σ' e H locs ls hP hD hS hl)
theorem J_lstore (h : jx_ok K D cl tys A nL cc own Ts rm rt) {i : Nat} {x : Int64} {lv' : List (Nat × Value)} (hd : decode cc pc = .ok (.lstore i, 2)) (hn : i + 1 < nL) (hl' : (i, Value.long x) :: lv.filter (fun q => !(q.1 == i) && (!(q.1 == i + 1) && !(q.1 + 1 == i && q.2.category == 2))) = lv') (k : J K D cl A nL w Q cs sl (pc + 2) lv' st σ F) : J K D cl A nL w Q cs sl pc lv (.long x :: st) σ F :=
  fun r σ' e H locs ls hP hD hS hl => lv_lstore h.1 h.2.1 hd hl hn hl' (fun ls hl => k r σ' e H locs ls hP hD hS hl)
theorem J_astore_n (h : jx_ok K D cl tys A nL cc own Ts rm rt) {j : Fin 4} {i : Nat} {x : Nat} {lv' : List (Nat × Value)} (hd : decode cc pc = .ok (.astore_n j, 1)) (hi : (j : Nat) = i) (hn : i < nL) (hl' : (i, Value.ref x) :: lv.filter (fun q => !(q.1 == i) && !(q.1 + 1 == i && q.2.category == 2)) = lv') (k : J K D cl A nL w Q cs sl (pc + 1) lv' st σ F) : J K D cl A nL w Q cs sl pc lv (.ref x :: st) σ F :=
  fun r σ' e H locs ls hP hD hS hl => lv_astore_n h.1 h.2.1 hd hi hl hn hl' (fun ls hl => k r σ' e H locs ls hP hD hS hl)
theorem J_astore (h : jx_ok K D cl tys A nL cc own Ts rm rt) {i : Nat} {x : Nat} {lv' : List (Nat × Value)} (hd : decode cc pc = .ok (.astore i, 2)) (hn : i < nL) (hl' : (i, Value.ref x) :: lv.filter (fun q => !(q.1 == i) && !(q.1 + 1 == i && q.2.category == 2)) = lv') (k : J K D cl A nL w Q cs sl (pc + 2) lv' st σ F) : J K D cl A nL w Q cs sl pc lv (.ref x :: st) σ F :=
  fun r σ' e H locs ls hP hD hS hl => lv_astore h.1 h.2.1 hd hl hn hl' (fun ls hl => k r σ' e H locs ls hP hD hS hl)
theorem J_iinc (h : jx_ok K D cl tys A nL cc own Ts rm rt) {i q : Nat} {n : Int} {x c : Int32} {f : Int32 → Option (ρ × St)} {lv' : Int32 → List (Nat × Value)} (hd : decode cc pc = .ok (.iinc i n, 3)) (hl0 : lv[q]? = some (i, .int x)) (hc : Int32.ofInt n = c) (hn : i < nL) (hl' : ∀ y, (i, Value.int y) :: lv.filter (fun q => !(q.1 == i) && !(q.1 + 1 == i && q.2.category == 2)) = lv' y) (k : ∀ y : Int32, J K D cl A nL w Q cs sl (pc + 3) (lv' y) st σ (f y)) : J K D cl A nL w Q cs sl pc lv st σ (nm (x + c) f) :=
  fun r σ' e H locs ls hP hD hS hl => lv_iinc h.1 h.2.1 hd hl hl0 (by rw [hc]) hn (hl' (x + c)) (fun ls hl => k (x + c) r σ' e H locs ls hP hD hS hl)
theorem J_iadd (h : jx_ok K D cl tys A nL cc own Ts rm rt) {x y : Int32} (hd : decode cc pc = .ok (.iadd, 1)) (k : J K D cl A nL w Q cs sl (pc + 1) lv (.int (x + y) :: st) σ F) : J K D cl A nL w Q cs sl pc lv (.int y :: .int x :: st) σ F :=
  fun r σ' e H locs ls hP hD hS hl => lv_iadd h.1 h.2.1 hd (k r σ' e H locs ls hP hD hS hl)
theorem J_isub (h : jx_ok K D cl tys A nL cc own Ts rm rt) {x y : Int32} (hd : decode cc pc = .ok (.isub, 1)) (k : J K D cl A nL w Q cs sl (pc + 1) lv (.int (x - y) :: st) σ F) : J K D cl A nL w Q cs sl pc lv (.int y :: .int x :: st) σ F :=
  fun r σ' e H locs ls hP hD hS hl => lv_isub h.1 h.2.1 hd (k r σ' e H locs ls hP hD hS hl)
theorem J_imul (h : jx_ok K D cl tys A nL cc own Ts rm rt) {x y : Int32} (hd : decode cc pc = .ok (.imul, 1)) (k : J K D cl A nL w Q cs sl (pc + 1) lv (.int (x * y) :: st) σ F) : J K D cl A nL w Q cs sl pc lv (.int y :: .int x :: st) σ F :=
  fun r σ' e H locs ls hP hD hS hl => lv_imul h.1 h.2.1 hd (k r σ' e H locs ls hP hD hS hl)
theorem J_iand (h : jx_ok K D cl tys A nL cc own Ts rm rt) {x y : Int32} (hd : decode cc pc = .ok (.iand, 1)) (k : J K D cl A nL w Q cs sl (pc + 1) lv (.int (x &&& y) :: st) σ F) : J K D cl A nL w Q cs sl pc lv (.int y :: .int x :: st) σ F :=
  fun r σ' e H locs ls hP hD hS hl => lv_iand h.1 h.2.1 hd (k r σ' e H locs ls hP hD hS hl)
theorem J_ior (h : jx_ok K D cl tys A nL cc own Ts rm rt) {x y : Int32} (hd : decode cc pc = .ok (.ior, 1)) (k : J K D cl A nL w Q cs sl (pc + 1) lv (.int (x ||| y) :: st) σ F) : J K D cl A nL w Q cs sl pc lv (.int y :: .int x :: st) σ F :=
  fun r σ' e H locs ls hP hD hS hl => lv_ior h.1 h.2.1 hd (k r σ' e H locs ls hP hD hS hl)
theorem J_ixor (h : jx_ok K D cl tys A nL cc own Ts rm rt) {x y : Int32} (hd : decode cc pc = .ok (.ixor, 1)) (k : J K D cl A nL w Q cs sl (pc + 1) lv (.int (x ^^^ y) :: st) σ F) : J K D cl A nL w Q cs sl pc lv (.int y :: .int x :: st) σ F :=
  fun r σ' e H locs ls hP hD hS hl => lv_ixor h.1 h.2.1 hd (k r σ' e H locs ls hP hD hS hl)
theorem J_ineg (h : jx_ok K D cl tys A nL cc own Ts rm rt) {x : Int32} (hd : decode cc pc = .ok (.ineg, 1)) (k : J K D cl A nL w Q cs sl (pc + 1) lv (.int (-x) :: st) σ F) : J K D cl A nL w Q cs sl pc lv (.int x :: st) σ F :=
  fun r σ' e H locs ls hP hD hS hl => lv_ineg h.1 h.2.1 hd (k r σ' e H locs ls hP hD hS hl)
theorem J_ishl (h : jx_ok K D cl tys A nL cc own Ts rm rt) {x y : Int32} (hd : decode cc pc = .ok (.ishl, 1)) (k : J K D cl A nL w Q cs sl (pc + 1) lv (.int (x <<< (y &&& 31)) :: st) σ F) : J K D cl A nL w Q cs sl pc lv (.int y :: .int x :: st) σ F :=
  fun r σ' e H locs ls hP hD hS hl => lv_ishl h.1 h.2.1 hd (k r σ' e H locs ls hP hD hS hl)
theorem J_ishr (h : jx_ok K D cl tys A nL cc own Ts rm rt) {x y : Int32} (hd : decode cc pc = .ok (.ishr, 1)) (k : J K D cl A nL w Q cs sl (pc + 1) lv (.int (x >>> (y &&& 31)) :: st) σ F) : J K D cl A nL w Q cs sl pc lv (.int y :: .int x :: st) σ F :=
  fun r σ' e H locs ls hP hD hS hl => lv_ishr h.1 h.2.1 hd (k r σ' e H locs ls hP hD hS hl)
theorem J_land (h : jx_ok K D cl tys A nL cc own Ts rm rt) {x y : Int64} (hd : decode cc pc = .ok (.land, 1)) (k : J K D cl A nL w Q cs sl (pc + 1) lv (.long (x &&& y) :: st) σ F) : J K D cl A nL w Q cs sl pc lv (.long y :: .long x :: st) σ F :=
  fun r σ' e H locs ls hP hD hS hl => lv_land h.1 h.2.1 hd (k r σ' e H locs ls hP hD hS hl)
theorem J_lor (h : jx_ok K D cl tys A nL cc own Ts rm rt) {x y : Int64} (hd : decode cc pc = .ok (.lor, 1)) (k : J K D cl A nL w Q cs sl (pc + 1) lv (.long (x ||| y) :: st) σ F) : J K D cl A nL w Q cs sl pc lv (.long y :: .long x :: st) σ F :=
  fun r σ' e H locs ls hP hD hS hl => lv_lor h.1 h.2.1 hd (k r σ' e H locs ls hP hD hS hl)
theorem J_lxor (h : jx_ok K D cl tys A nL cc own Ts rm rt) {x y : Int64} (hd : decode cc pc = .ok (.lxor, 1)) (k : J K D cl A nL w Q cs sl (pc + 1) lv (.long (x ^^^ y) :: st) σ F) : J K D cl A nL w Q cs sl pc lv (.long y :: .long x :: st) σ F :=
  fun r σ' e H locs ls hP hD hS hl => lv_lxor h.1 h.2.1 hd (k r σ' e H locs ls hP hD hS hl)
theorem J_lshl (h : jx_ok K D cl tys A nL cc own Ts rm rt) {x : Int64} {y : Int32} (hd : decode cc pc = .ok (.lshl, 1)) (k : J K D cl A nL w Q cs sl (pc + 1) lv (.long (x <<< (y.toInt64 &&& 63)) :: st) σ F) : J K D cl A nL w Q cs sl pc lv (.int y :: .long x :: st) σ F :=
  fun r σ' e H locs ls hP hD hS hl => lv_lshl h.1 h.2.1 hd rfl (k r σ' e H locs ls hP hD hS hl)
theorem J_lshr (h : jx_ok K D cl tys A nL cc own Ts rm rt) {x : Int64} {y : Int32} (hd : decode cc pc = .ok (.lshr, 1)) (k : J K D cl A nL w Q cs sl (pc + 1) lv (.long (x >>> (y.toInt64 &&& 63)) :: st) σ F) : J K D cl A nL w Q cs sl pc lv (.int y :: .long x :: st) σ F :=
  fun r σ' e H locs ls hP hD hS hl => lv_lshr h.1 h.2.1 hd rfl (k r σ' e H locs ls hP hD hS hl)
theorem J_i2l (h : jx_ok K D cl tys A nL cc own Ts rm rt) {x : Int32} (hd : decode cc pc = .ok (.i2l, 1)) (k : J K D cl A nL w Q cs sl (pc + 1) lv (.long x.toInt64 :: st) σ F) : J K D cl A nL w Q cs sl pc lv (.int x :: st) σ F :=
  fun r σ' e H locs ls hP hD hS hl => lv_i2l h.1 h.2.1 hd rfl (k r σ' e H locs ls hP hD hS hl)
theorem J_lcmp (h : jx_ok K D cl tys A nL cc own Ts rm rt) {x y : Int64} (hd : decode cc pc = .ok (.lcmp, 1)) (k : J K D cl A nL w Q cs sl (pc + 1) lv (.int (lg_cmp x y) :: st) σ F) : J K D cl A nL w Q cs sl pc lv (.long y :: .long x :: st) σ F :=
  fun r σ' e H locs ls hP hD hS hl => W.lcmp h.1 h.2.1 hd (k r σ' e H locs ls hP hD hS hl)
theorem J_dup (h : jx_ok K D cl tys A nL cc own Ts rm rt) {va : Value} (hd : decode cc pc = .ok (.dup, 1)) (hva : va.category = 1) (k : J K D cl A nL w Q cs sl (pc + 1) lv (va :: va :: st) σ F) : J K D cl A nL w Q cs sl pc lv (va :: st) σ F :=
  fun r σ' e H locs ls hP hD hS hl => lv_dup h.1 h.2.1 hd hva (k r σ' e H locs ls hP hD hS hl)
theorem J_dup2 (h : jx_ok K D cl tys A nL cc own Ts rm rt) {va vb : Value} (hd : decode cc pc = .ok (.dup2, 1)) (hva : va.category = 1) (hvb : vb.category = 1) (k : J K D cl A nL w Q cs sl (pc + 1) lv (va :: vb :: va :: vb :: st) σ F) : J K D cl A nL w Q cs sl pc lv (va :: vb :: st) σ F :=
  fun r σ' e H locs ls hP hD hS hl => lv_dup2_11 h.1 h.2.1 hd hva hvb (k r σ' e H locs ls hP hD hS hl)
theorem J_dup_x1 (h : jx_ok K D cl tys A nL cc own Ts rm rt) {va vb : Value} (hd : decode cc pc = .ok (.dup_x1, 1)) (hva : va.category = 1) (hvb : vb.category = 1) (k : J K D cl A nL w Q cs sl (pc + 1) lv (va :: vb :: va :: st) σ F) : J K D cl A nL w Q cs sl pc lv (va :: vb :: st) σ F :=
  fun r σ' e H locs ls hP hD hS hl => lv_dup_x1 h.1 h.2.1 hd hva hvb (k r σ' e H locs ls hP hD hS hl)
theorem J_dup_x2 (h : jx_ok K D cl tys A nL cc own Ts rm rt) {va vb vd : Value} (hd : decode cc pc = .ok (.dup_x2, 1)) (hva : va.category = 1) (hvb : vb.category = 1) (hvd : vd.category = 1) (k : J K D cl A nL w Q cs sl (pc + 1) lv (va :: vb :: vd :: va :: st) σ F) : J K D cl A nL w Q cs sl pc lv (va :: vb :: vd :: st) σ F :=
  fun r σ' e H locs ls hP hD hS hl => lv_dup_x2 h.1 h.2.1 hd hva hvb hvd (k r σ' e H locs ls hP hD hS hl)
theorem J_pop (h : jx_ok K D cl tys A nL cc own Ts rm rt) {va : Value} (hd : decode cc pc = .ok (.pop, 1)) (hva : va.category = 1) (k : J K D cl A nL w Q cs sl (pc + 1) lv st σ F) : J K D cl A nL w Q cs sl pc lv (va :: st) σ F :=
  fun r σ' e H locs ls hP hD hS hl => lv_pop h.1 h.2.1 hd hva (k r σ' e H locs ls hP hD hS hl)
theorem J_goto (h : jx_ok K D cl tys A nL cc own Ts rm rt) {off : Int} {tgt : Nat} (hd : decode cc pc = .ok (.goto off, 3)) (ht : (pc : Int) + off = (tgt : Int)) (k : J K D cl A nL w Q cs sl tgt lv st σ F) : J K D cl A nL w Q cs sl pc lv st σ F :=
  fun r σ' e H locs ls hP hD hS hl => lv_goto h.1 h.2.1 hd ht (k r σ' e H locs ls hP hD hS hl)
theorem J_if_eq (h : jx_ok K D cl tys A nL cc own Ts rm rt) {x : Int32} {off : Int} {tgt : Nat} (hd : decode cc pc = .ok (.ifCond .eq off, 3)) (ht : (pc : Int) + off = (tgt : Int)) (k1 : J K D cl A nL w Q cs sl tgt lv st σ F1) (k2 : J K D cl A nL w Q cs sl (pc + 3) lv st σ F2) : J K D cl A nL w Q cs sl pc lv (.int x :: st) σ (if x = 0 then F1 else F2) := by
  intro r σ' e H locs ls hP hD hS hl
  refine lv_if_eq h.1 h.2.1 hd ht (fun c => ?_) (fun c => ?_)
  · rw [if_pos c] at e; exact k1 r σ' e H locs ls hP hD hS hl
  · rw [if_neg c] at e; exact k2 r σ' e H locs ls hP hD hS hl
theorem J_icmp_eq (h : jx_ok K D cl tys A nL cc own Ts rm rt) {x y : Int32} {off : Int} {tgt : Nat} (hd : decode cc pc = .ok (.if_icmp .eq off, 3)) (ht : (pc : Int) + off = (tgt : Int)) (k1 : J K D cl A nL w Q cs sl tgt lv st σ F1) (k2 : J K D cl A nL w Q cs sl (pc + 3) lv st σ F2) : J K D cl A nL w Q cs sl pc lv (.int y :: .int x :: st) σ (if x = y then F1 else F2) := by
  intro r σ' e H locs ls hP hD hS hl
  refine lv_icmp_eq h.1 h.2.1 hd ht (fun c => ?_) (fun c => ?_)
  · rw [if_pos c] at e; exact k1 r σ' e H locs ls hP hD hS hl
  · rw [if_neg c] at e; exact k2 r σ' e H locs ls hP hD hS hl
theorem J_if_ne (h : jx_ok K D cl tys A nL cc own Ts rm rt) {x : Int32} {off : Int} {tgt : Nat} (hd : decode cc pc = .ok (.ifCond .ne off, 3)) (ht : (pc : Int) + off = (tgt : Int)) (k1 : J K D cl A nL w Q cs sl (pc + 3) lv st σ F1) (k2 : J K D cl A nL w Q cs sl tgt lv st σ F2) : J K D cl A nL w Q cs sl pc lv (.int x :: st) σ (if x = 0 then F1 else F2) := by
  intro r σ' e H locs ls hP hD hS hl
  refine lv_if_ne h.1 h.2.1 hd ht (fun c => ?_) (fun c => ?_)
  · rw [if_neg c] at e; exact k2 r σ' e H locs ls hP hD hS hl
  · rw [if_pos c] at e; exact k1 r σ' e H locs ls hP hD hS hl
theorem J_icmp_ne (h : jx_ok K D cl tys A nL cc own Ts rm rt) {x y : Int32} {off : Int} {tgt : Nat} (hd : decode cc pc = .ok (.if_icmp .ne off, 3)) (ht : (pc : Int) + off = (tgt : Int)) (k1 : J K D cl A nL w Q cs sl (pc + 3) lv st σ F1) (k2 : J K D cl A nL w Q cs sl tgt lv st σ F2) : J K D cl A nL w Q cs sl pc lv (.int y :: .int x :: st) σ (if x = y then F1 else F2) := by
  intro r σ' e H locs ls hP hD hS hl
  refine lv_icmp_ne h.1 h.2.1 hd ht (fun c => ?_) (fun c => ?_)
  · rw [if_neg c] at e; exact k2 r σ' e H locs ls hP hD hS hl
  · rw [if_pos c] at e; exact k1 r σ' e H locs ls hP hD hS hl
theorem J_if_lt (h : jx_ok K D cl tys A nL cc own Ts rm rt) {x : Int32} {off : Int} {tgt : Nat} (hd : decode cc pc = .ok (.ifCond .lt off, 3)) (ht : (pc : Int) + off = (tgt : Int)) (k1 : J K D cl A nL w Q cs sl tgt lv st σ F1) (k2 : J K D cl A nL w Q cs sl (pc + 3) lv st σ F2) : J K D cl A nL w Q cs sl pc lv (.int x :: st) σ (if x < 0 then F1 else F2) := by
  intro r σ' e H locs ls hP hD hS hl
  refine lv_if_lt h.1 h.2.1 hd ht (fun c => ?_) (fun c => ?_)
  · rw [if_pos c] at e; exact k1 r σ' e H locs ls hP hD hS hl
  · rw [if_neg c] at e; exact k2 r σ' e H locs ls hP hD hS hl
theorem J_icmp_lt (h : jx_ok K D cl tys A nL cc own Ts rm rt) {x y : Int32} {off : Int} {tgt : Nat} (hd : decode cc pc = .ok (.if_icmp .lt off, 3)) (ht : (pc : Int) + off = (tgt : Int)) (k1 : J K D cl A nL w Q cs sl tgt lv st σ F1) (k2 : J K D cl A nL w Q cs sl (pc + 3) lv st σ F2) : J K D cl A nL w Q cs sl pc lv (.int y :: .int x :: st) σ (if x < y then F1 else F2) := by
  intro r σ' e H locs ls hP hD hS hl
  refine lv_icmp_lt h.1 h.2.1 hd ht (fun c => ?_) (fun c => ?_)
  · rw [if_pos c] at e; exact k1 r σ' e H locs ls hP hD hS hl
  · rw [if_neg c] at e; exact k2 r σ' e H locs ls hP hD hS hl
theorem J_if_ge (h : jx_ok K D cl tys A nL cc own Ts rm rt) {x : Int32} {off : Int} {tgt : Nat} (hd : decode cc pc = .ok (.ifCond .ge off, 3)) (ht : (pc : Int) + off = (tgt : Int)) (k1 : J K D cl A nL w Q cs sl tgt lv st σ F1) (k2 : J K D cl A nL w Q cs sl (pc + 3) lv st σ F2) : J K D cl A nL w Q cs sl pc lv (.int x :: st) σ (if 0 ≤ x then F1 else F2) := by
  intro r σ' e H locs ls hP hD hS hl
  refine lv_if_ge h.1 h.2.1 hd ht (fun c => ?_) (fun c => ?_)
  · rw [if_pos c] at e; exact k1 r σ' e H locs ls hP hD hS hl
  · rw [if_neg c] at e; exact k2 r σ' e H locs ls hP hD hS hl
theorem J_icmp_ge (h : jx_ok K D cl tys A nL cc own Ts rm rt) {x y : Int32} {off : Int} {tgt : Nat} (hd : decode cc pc = .ok (.if_icmp .ge off, 3)) (ht : (pc : Int) + off = (tgt : Int)) (k1 : J K D cl A nL w Q cs sl tgt lv st σ F1) (k2 : J K D cl A nL w Q cs sl (pc + 3) lv st σ F2) : J K D cl A nL w Q cs sl pc lv (.int y :: .int x :: st) σ (if y ≤ x then F1 else F2) := by
  intro r σ' e H locs ls hP hD hS hl
  refine lv_icmp_ge h.1 h.2.1 hd ht (fun c => ?_) (fun c => ?_)
  · rw [if_pos c] at e; exact k1 r σ' e H locs ls hP hD hS hl
  · rw [if_neg c] at e; exact k2 r σ' e H locs ls hP hD hS hl
theorem J_if_gt (h : jx_ok K D cl tys A nL cc own Ts rm rt) {x : Int32} {off : Int} {tgt : Nat} (hd : decode cc pc = .ok (.ifCond .gt off, 3)) (ht : (pc : Int) + off = (tgt : Int)) (k1 : J K D cl A nL w Q cs sl tgt lv st σ F1) (k2 : J K D cl A nL w Q cs sl (pc + 3) lv st σ F2) : J K D cl A nL w Q cs sl pc lv (.int x :: st) σ (if 0 < x then F1 else F2) := by
  intro r σ' e H locs ls hP hD hS hl
  refine lv_if_gt h.1 h.2.1 hd ht (fun c => ?_) (fun c => ?_)
  · rw [if_pos c] at e; exact k1 r σ' e H locs ls hP hD hS hl
  · rw [if_neg c] at e; exact k2 r σ' e H locs ls hP hD hS hl
theorem J_icmp_gt (h : jx_ok K D cl tys A nL cc own Ts rm rt) {x y : Int32} {off : Int} {tgt : Nat} (hd : decode cc pc = .ok (.if_icmp .gt off, 3)) (ht : (pc : Int) + off = (tgt : Int)) (k1 : J K D cl A nL w Q cs sl tgt lv st σ F1) (k2 : J K D cl A nL w Q cs sl (pc + 3) lv st σ F2) : J K D cl A nL w Q cs sl pc lv (.int y :: .int x :: st) σ (if y < x then F1 else F2) := by
  intro r σ' e H locs ls hP hD hS hl
  refine lv_icmp_gt h.1 h.2.1 hd ht (fun c => ?_) (fun c => ?_)
  · rw [if_pos c] at e; exact k1 r σ' e H locs ls hP hD hS hl
  · rw [if_neg c] at e; exact k2 r σ' e H locs ls hP hD hS hl
theorem J_if_le (h : jx_ok K D cl tys A nL cc own Ts rm rt) {x : Int32} {off : Int} {tgt : Nat} (hd : decode cc pc = .ok (.ifCond .le off, 3)) (ht : (pc : Int) + off = (tgt : Int)) (k1 : J K D cl A nL w Q cs sl tgt lv st σ F1) (k2 : J K D cl A nL w Q cs sl (pc + 3) lv st σ F2) : J K D cl A nL w Q cs sl pc lv (.int x :: st) σ (if x ≤ 0 then F1 else F2) := by
  intro r σ' e H locs ls hP hD hS hl
  refine lv_if_le h.1 h.2.1 hd ht (fun c => ?_) (fun c => ?_)
  · rw [if_pos c] at e; exact k1 r σ' e H locs ls hP hD hS hl
  · rw [if_neg c] at e; exact k2 r σ' e H locs ls hP hD hS hl
theorem J_icmp_le (h : jx_ok K D cl tys A nL cc own Ts rm rt) {x y : Int32} {off : Int} {tgt : Nat} (hd : decode cc pc = .ok (.if_icmp .le off, 3)) (ht : (pc : Int) + off = (tgt : Int)) (k1 : J K D cl A nL w Q cs sl tgt lv st σ F1) (k2 : J K D cl A nL w Q cs sl (pc + 3) lv st σ F2) : J K D cl A nL w Q cs sl pc lv (.int y :: .int x :: st) σ (if x ≤ y then F1 else F2) := by
  intro r σ' e H locs ls hP hD hS hl
  refine lv_icmp_le h.1 h.2.1 hd ht (fun c => ?_) (fun c => ?_)
  · rw [if_pos c] at e; exact k1 r σ' e H locs ls hP hD hS hl
  · rw [if_neg c] at e; exact k2 r σ' e H locs ls hP hD hS hl
theorem J_getf (h : jx_ok K D cl tys A nL cc own Ts rm rt) {C : String} {T : u_T} {N ci index a : Nat} (q0 : Nat) {fs : List Value} (he : (w σ)[q0]? = some (a, .inr (ci, fs))) (hin : ∀ x ∈ u_ws C T N, x ∈ Ts) (hc : cl[ci]? = some (C, T, N)) (j : Nat) (hj : j < N) (hw : Cond.fieldLink own index (T j).1 (T j).2.1 (T j).2.2.1 ∈ Ts) {v : Value} (hv : fs[j]? = some v) (hd : decode cc pc = .ok (.getfield index, 3)) (k : J K D cl A nL w Q cs sl (pc + 3) lv (v :: st) σ F) : J K D cl A nL w Q cs sl pc lv (.ref a :: st) σ F :=
  fun r σ' e H locs ls hP hD hS hl => va_get h.1 h.2.1 h.2.2.2.2.1 hin h.2.2.2.1 h.2.2.2.2.2.1 hP q0 he hc j hj (h.2.2.2.2.1 _ hw) (fun _ z => z) hv hd (k r σ' e H locs ls hP hD hS hl)
theorem J_putf (h : jx_ok K D cl tys A nL cc own Ts rm rt) {C : String} {T : u_T} {N ci index a : Nat} (q0 : Nat) {fs : List Value} (he : (w σ)[q0]? = some (a, .inr (ci, fs))) (hin : ∀ x ∈ u_ws C T N, x ∈ Ts) (hc : cl[ci]? = some (C, T, N)) (ty0 : Nat → FieldType) (hty : ∀ k, k < N → parseFieldDescriptor (T k).2.2.1 = some (ty0 k)) (hnm : ∀ a, a < N → ∀ b, b < N → a ≠ b → (T a).2.1 ≠ (T b).2.1) (j : Nat) (hj : j < N) (hw : Cond.fieldLink own index (T j).1 (T j).2.1 (T j).2.2.1 ∈ Ts) (hfin : (T j).2.2.2 = false) {v : Value} (hn : narrow (ty0 j) v = v) (hfit : fits (ty0 j) v = true) (hl0 : j < fs.length) {σ2 : St} (hset : (w σ).set q0 (a, .inr (ci, fs.set j v)) = w σ2) {f : St → Option (ρ × St)} (hd : decode cc pc = .ok (.putfield index, 3)) (k : ∀ σ1 : St, J K D cl A nL w Q cs sl (pc + 3) lv st σ1 (f σ1)) : J K D cl A nL w Q cs sl pc lv (v :: .ref a :: st) σ (nm σ2 f) :=
  fun r σ' e H locs ls hP hD hS hl => va_put h.1 h.2.1 h.2.2.2.2.1 hin ty0 hty hnm h.2.2.2.1 h.2.2.2.2.2.1 hP hD hS q0 he hc j hj (h.2.2.2.2.1 _ hw) (fun _ z => z) hfin (hty j hj) hn hfit hl0 hd (fun H1 locs1 hP hD hS => by
    rw [hset] at hP hD
    exact k σ2 r σ' e H1 locs1 ls hP hD hS hl)
theorem J_iald (h : jx_ok K D cl tys A nL cc own Ts rm rt) {a : Nat} (q0 t0 : Nat) {cA : ClassId} {n : Nat} {g : Nat → Int32} (he : (w σ)[q0]? = some (a, .inl (cA, n, .inl g))) (ht : tys[t0]? = some (cA, .int)) {i : Int32} (hd : decode cc pc = .ok (.iaload, 1)) (k : J K D cl A nL w Q cs sl (pc + 1) lv (.int (g i.toNatClampNeg) :: st) σ F) : J K D cl A nL w Q cs sl pc lv (.int i :: .ref a :: st) σ (if ck i n = true then F else none) := by
  intro r σ' e H locs ls hP hD hS hl
  by_cases hk : ck i n = true
  · rw [if_pos hk] at e
    exact va_iald h.1 h.2.1 h.2.2.2.2.2.1 hP q0 t0 he ht (ck_in hk) hd (k r σ' e H locs ls hP hD hS hl)
  · rw [if_neg hk] at e; cases e
theorem J_zald (h : jx_ok K D cl tys A nL cc own Ts rm rt) {a : Nat} (q0 t0 : Nat) {cA : ClassId} {n : Nat} {g : Nat → Int32} (he : (w σ)[q0]? = some (a, .inl (cA, n, .inl g))) (ht : tys[t0]? = some (cA, .boolean)) {i : Int32} (hd : decode cc pc = .ok (.baload, 1)) (k : J K D cl A nL w Q cs sl (pc + 1) lv (.int (g i.toNatClampNeg) :: st) σ F) : J K D cl A nL w Q cs sl pc lv (.int i :: .ref a :: st) σ (if ck i n = true then F else none) := by
  intro r σ' e H locs ls hP hD hS hl
  by_cases hk : ck i n = true
  · rw [if_pos hk] at e
    exact va_zald h.1 h.2.1 h.2.2.2.2.2.1 hP q0 t0 he ht (ck_in hk) hd (k r σ' e H locs ls hP hD hS hl)
  · rw [if_neg hk] at e; cases e
theorem J_lald (h : jx_ok K D cl tys A nL cc own Ts rm rt) {a : Nat} (q0 t0 : Nat) {cA : ClassId} {n : Nat} {g : Nat → Int64} (he : (w σ)[q0]? = some (a, .inl (cA, n, .inr (.inl g)))) (ht : tys[t0]? = some (cA, .long)) {i : Int32} (hd : decode cc pc = .ok (.laload, 1)) (k : J K D cl A nL w Q cs sl (pc + 1) lv (.long (g i.toNatClampNeg) :: st) σ F) : J K D cl A nL w Q cs sl pc lv (.int i :: .ref a :: st) σ (if ck i n = true then F else none) := by
  intro r σ' e H locs ls hP hD hS hl
  by_cases hk : ck i n = true
  · rw [if_pos hk] at e
    exact va_lald h.1 h.2.1 h.2.2.2.2.2.1 hP q0 t0 he ht (ck_in hk) hd (k r σ' e H locs ls hP hD hS hl)
  · rw [if_neg hk] at e; cases e
theorem J_iast (h : jx_ok K D cl tys A nL cc own Ts rm rt) {a : Nat} (q0 t0 : Nat) {cA : ClassId} {n : Nat} {g : Nat → Int32} (he : (w σ)[q0]? = some (a, .inl (cA, n, .inl g))) (ht : tys[t0]? = some (cA, .int)) {i x : Int32} {σ2 : St} (hset : (w σ).set q0 (a, .inl (cA, n, .inl (upd g i.toNatClampNeg x))) = w σ2) {f : St → Option (ρ × St)} (hd : decode cc pc = .ok (.iastore, 1)) (k : ∀ σ1 : St, J K D cl A nL w Q cs sl (pc + 1) lv st σ1 (f σ1)) : J K D cl A nL w Q cs sl pc lv (.int x :: .int i :: .ref a :: st) σ (if ck i n = true then nm σ2 f else none) := by
  intro r σ' e H locs ls hP hD hS hl
  by_cases hk : ck i n = true
  · rw [if_pos hk] at e
    exact va_iast h.1 h.2.1 h.2.2.2.2.2.1 hP hD hS q0 t0 he ht (ck_in hk) hd (fun H1 locs1 hP hD hS => by
      rw [hset] at hP hD
      exact k σ2 r σ' e H1 locs1 ls hP hD hS hl)
  · rw [if_neg hk] at e; cases e
theorem J_zast (h : jx_ok K D cl tys A nL cc own Ts rm rt) {a : Nat} (q0 t0 : Nat) {cA : ClassId} {n : Nat} {g : Nat → Int32} (he : (w σ)[q0]? = some (a, .inl (cA, n, .inl g))) (ht : tys[t0]? = some (cA, .boolean)) {i x : Int32} {σ2 : St} (hset : (w σ).set q0 (a, .inl (cA, n, .inl (upd g i.toNatClampNeg (vp_nar .boolean x)))) = w σ2) {f : St → Option (ρ × St)} (hd : decode cc pc = .ok (.bastore, 1)) (k : ∀ σ1 : St, J K D cl A nL w Q cs sl (pc + 1) lv st σ1 (f σ1)) : J K D cl A nL w Q cs sl pc lv (.int x :: .int i :: .ref a :: st) σ (if ck i n = true then nm σ2 f else none) := by
  intro r σ' e H locs ls hP hD hS hl
  by_cases hk : ck i n = true
  · rw [if_pos hk] at e
    exact va_zast h.1 h.2.1 h.2.2.2.2.2.1 hP hD hS q0 t0 he ht (ck_in hk) hd (fun H1 locs1 hP hD hS => by
      rw [hset] at hP hD
      exact k σ2 r σ' e H1 locs1 ls hP hD hS hl)
  · rw [if_neg hk] at e; cases e
theorem J_last (h : jx_ok K D cl tys A nL cc own Ts rm rt) {a : Nat} (q0 t0 : Nat) {cA : ClassId} {n : Nat} {g : Nat → Int64} (he : (w σ)[q0]? = some (a, .inl (cA, n, .inr (.inl g)))) (ht : tys[t0]? = some (cA, .long)) {i : Int32} {x : Int64} {σ2 : St} (hset : (w σ).set q0 (a, .inl (cA, n, .inr (.inl (vp_updL g i.toNatClampNeg x)))) = w σ2) {f : St → Option (ρ × St)} (hd : decode cc pc = .ok (.lastore, 1)) (k : ∀ σ1 : St, J K D cl A nL w Q cs sl (pc + 1) lv st σ1 (f σ1)) : J K D cl A nL w Q cs sl pc lv (.long x :: .int i :: .ref a :: st) σ (if ck i n = true then nm σ2 f else none) := by
  intro r σ' e H locs ls hP hD hS hl
  by_cases hk : ck i n = true
  · rw [if_pos hk] at e
    exact va_last h.1 h.2.1 h.2.2.2.2.2.1 hP hD hS q0 t0 he ht (ck_in hk) hd (fun H1 locs1 hP hD hS => by
      rw [hset] at hP hD
      exact k σ2 r σ' e H1 locs1 ls hP hD hS hl)
  · rw [if_neg hk] at e; cases e
theorem J_alen (h : jx_ok K D cl tys A nL cc own Ts rm rt) {a : Nat} (q0 t0 : Nat) {cA : ClassId} {x : vp_A} (he : (w σ)[q0]? = some (a, .inl (cA, x))) {ty : FieldType} (ht : tys[t0]? = some (cA, ty)) {v : Int32} (hv : Int32.ofNat x.1 = v) (hd : decode cc pc = .ok (.arraylength, 1)) (k : J K D cl A nL w Q cs sl (pc + 1) lv (.int v :: st) σ F) : J K D cl A nL w Q cs sl pc lv (.ref a :: st) σ F :=
  fun r σ' e H locs ls hP hD hS hl => va_alen h.1 h.2.1 h.2.2.2.2.2.1 hP q0 t0 he ht hv hd (k r σ' e H locs ls hP hD hS hl)
theorem J_tblIn (h : jx_ok K D cl tys A nL cc own Ts rm rt) {dflt lo hi : Int} {offs : Array Int} {len : Nat} {x v : Int32} {off : Int} {tgt : Nat} (hx : x = v) (hd : decode cc pc = .ok (.tableswitch dflt lo hi offs, len)) (h1 : ¬ v.toInt < lo) (h2 : ¬ hi < v.toInt) (ho : offs[(v.toInt - lo).toNat]? = some off) (ht : (pc : Int) + off = (tgt : Int)) (k : J K D cl A nL w Q cs sl tgt lv st σ F) : J K D cl A nL w Q cs sl pc lv (.int x :: st) σ F := by
  subst hx
  exact fun r σ' e H locs ls hP hD hS hl => lv_tableIn h.1 h.2.1 hd h1 h2 ho ht (k r σ' e H locs ls hP hD hS hl)
theorem J_tblOut (h : jx_ok K D cl tys A nL cc own Ts rm rt) {dflt lo hi : Int} {offs : Array Int} {len : Nat} {x : Int32} {tgt : Nat} (hx : x.toInt < lo ∨ hi < x.toInt) (hd : decode cc pc = .ok (.tableswitch dflt lo hi offs, len)) (ht : (pc : Int) + dflt = (tgt : Int)) (k : J K D cl A nL w Q cs sl tgt lv st σ F) : J K D cl A nL w Q cs sl pc lv (.int x :: st) σ F :=
  fun r σ' e H locs ls hP hD hS hl => lv_tableOut h.1 h.2.1 hd hx ht (k r σ' e H locs ls hP hD hS hl)
theorem J_lkp (h : jx_ok K D cl tys A nL cc own Ts rm rt) {dflt : Int} {ps : Array (Int × Int)} {len : Nat} {x : Int32} {off : Int} {tgt : Nat} (ho : Op.lookupswitch.offset ps.toList dflt x.toInt = off) (hd : decode cc pc = .ok (.lookupswitch dflt ps, len)) (hp : (ps.toList.zip (ps.toList.drop 1)).all (fun (a, next) => a.1 < next.1) = true) (ht : (pc : Int) + off = (tgt : Int)) (k : J K D cl A nL w Q cs sl tgt lv st σ F) : J K D cl A nL w Q cs sl pc lv (.int x :: st) σ F :=
  fun r σ' e H locs ls hP hD hS hl => lv_lookup h.1 h.2.1 hd hp ho ht (k r σ' e H locs ls hP hD hS hl)
end JR
section JC
variable {St ρ : Type} {K : jx_E} {D : va_G} {cl : List vw_C} {tys : List (ClassId × FieldType)} {A : Nat → Prop} {nL : Nat} {cc : ByteArray} {own : String} {Ts : List Cond} {rm : Room} {rt : Option FieldType} {w : St → va_W} {Q : ρ → St → State → Prop} {cs sl : Nat} {pc : Nat} {lv : List (Nat × Value)} {st : List Value} {σ : St}
/-- the start and the end of a method over one world, which it keeps: no cell is made -/
def jx_Pc (D : va_G) (cl : List vw_C) (tys : List (ClassId × FieldType)) (w : St → va_W) (vs : List Value) (σ : St) (sz : Nat) : Array Value → State → Prop := va_Pc vs (fun U => U.heap.size = sz ∧ va_P D cl (w σ) U.heap ∧ va_K D cl tys U ∧ va_D (fun _ => True) (w σ))
def jx_B (D : va_G) (cl : List vw_C) (tys : List (ClassId × FieldType)) (w : St → va_W) (A : Nat → Prop) : St → State → Prop := fun u t => va_P D cl (w u) t.heap ∧ va_K D cl tys t ∧ va_D A (w u)
def MetI (l : Launch) (y : MethodName) (ws : List Cond) (rm : Room) (D : va_G) (cl : List vw_C) (tys : List (ClassId × FieldType)) (w : St → va_W) (vs : List Value) (σ : St) (r : Int32) (σ' : St) : Prop :=
  ∀ sz : Nat, Met l y ws rm (jx_Pc D cl tys w vs σ sz) (va_Qi (fun (r2 : Int32) (u : St) => r2 = r ∧ u = σ') (jx_B D cl tys w (va_A (w σ) sz)) (va_A (w σ) sz)) 0 0 (va_A (w σ) sz)
def MetL (l : Launch) (y : MethodName) (ws : List Cond) (rm : Room) (D : va_G) (cl : List vw_C) (tys : List (ClassId × FieldType)) (w : St → va_W) (vs : List Value) (σ : St) (r : Int64) (σ' : St) : Prop :=
  ∀ sz : Nat, Met l y ws rm (jx_Pc D cl tys w vs σ sz) (va_Ql (fun (r2 : Int64) (u : St) => r2 = r ∧ u = σ') (jx_B D cl tys w (va_A (w σ) sz)) (va_A (w σ) sz)) 0 0 (va_A (w σ) sz)
def MetV (l : Launch) (y : MethodName) (ws : List Cond) (rm : Room) (D : va_G) (cl : List vw_C) (tys : List (ClassId × FieldType)) (w : St → va_W) (vs : List Value) (σ : St) (_ : Unit) (σ' : St) : Prop :=
  ∀ sz : Nat, Met l y ws rm (jx_Pc D cl tys w vs σ sz) (va_Qv (fun (u : St) => u = σ') (jx_B D cl tys w (va_A (w σ) sz)) (va_A (w σ) sz)) 0 0 (va_A (w σ) sz)
def jx_Qi (K : jx_E) (D : va_G) (cl : List vw_C) (tys : List (ClassId × FieldType)) (w : St → va_W) (A : Nat → Prop) : Int32 → St → State → Prop := fun r σ' => MQ (jb K) (va_Qi (fun (r2 : Int32) (u : St) => r2 = r ∧ u = σ') (jx_B D cl tys w A) A) (ja K) (js K) 0 0 A
def jx_Ql (K : jx_E) (D : va_G) (cl : List vw_C) (tys : List (ClassId × FieldType)) (w : St → va_W) (A : Nat → Prop) : Int64 → St → State → Prop := fun r σ' => MQ (jb K) (va_Ql (fun (r2 : Int64) (u : St) => r2 = r ∧ u = σ') (jx_B D cl tys w A) A) (ja K) (js K) 0 0 A
def jx_Qv (K : jx_E) (D : va_G) (cl : List vw_C) (tys : List (ClassId × FieldType)) (w : St → va_W) (A : Nat → Prop) : Unit → St → State → Prop := fun _ σ' => MQ (jb K) (va_Qv (fun (u : St) => u = σ') (jx_B D cl tys w A) A) (ja K) (js K) 0 0 A
theorem J_iret (h : jx_ok K D cl tys A nL cc own Ts rm rt) (hr : rt = some .int) {v : Int32} (hd : decode cc pc = .ok (.ireturn, 1)) : J K D cl A nL w (jx_Qi K D cl tys w A) 0 0 pc lv [.int v] σ (some (v, σ)) := by
  intro r σ' e H locs ls hP hD hS hl
  cases e
  exact W.iret h.1 h.2.1 (h.2.2.2.2.2.2.2.2.2.trans hr) (fun t ht hW => ⟨⟨v, σ, rfl, ⟨rfl, rfl⟩, by rw [ht]; exact hP, va_K.moved hW.alike h.2.2.2.2.2.1, hD⟩, hS.F ht⟩) hS.2.2 hd h.2.2.2.2.2.2.2.1
theorem J_zret (h : jx_ok K D cl tys A nL cc own Ts rm rt) (hr : rt = some .boolean) {v : Int32} (hn : narrow .boolean (.int v) = .int v) (hd : decode cc pc = .ok (.ireturn, 1)) : J K D cl A nL w (jx_Qi K D cl tys w A) 0 0 pc lv [.int v] σ (some (v, σ)) := by
  intro r σ' e H locs ls hP hD hS hl
  cases e
  exact W.zret h.1 h.2.1 (h.2.2.2.2.2.2.2.2.2.trans hr) hn (fun t ht hW => ⟨⟨v, σ, rfl, ⟨rfl, rfl⟩, by rw [ht]; exact hP, va_K.moved hW.alike h.2.2.2.2.2.1, hD⟩, hS.F ht⟩) hS.2.2 hd h.2.2.2.2.2.2.2.1
theorem J_lret (h : jx_ok K D cl tys A nL cc own Ts rm rt) (hr : rt = some .long) {v : Int64} (hd : decode cc pc = .ok (.lreturn, 1)) : J K D cl A nL w (jx_Ql K D cl tys w A) 0 0 pc lv [.long v] σ (some (v, σ)) := by
  intro r σ' e H locs ls hP hD hS hl
  cases e
  exact W.lret h.1 h.2.1 (h.2.2.2.2.2.2.2.2.2.trans hr) (fun t ht hW => ⟨⟨v, σ, rfl, ⟨rfl, rfl⟩, by rw [ht]; exact hP, va_K.moved hW.alike h.2.2.2.2.2.1, hD⟩, hS.F ht⟩) hS.2.2 hd h.2.2.2.2.2.2.2.1
theorem J_vret (h : jx_ok K D cl tys A nL cc own Ts rm rt) (hr : rt = none) (hd : decode cc pc = .ok (.return_, 1)) : J K D cl A nL w (jx_Qv K D cl tys w A) 0 0 pc lv [] σ (some ((), σ)) := by
  intro r σ' e H locs ls hP hD hS hl
  cases e
  exact W.vret h.1 h.2.1 (h.2.2.2.2.2.2.2.2.2.trans hr) (fun t ht hW => ⟨⟨σ, rfl, rfl, by rw [ht]; exact hP, va_K.moved hW.alike h.2.2.2.2.2.1, hD⟩, hS.F ht⟩) hS.2.2 hd h.2.2.2.2.2.2.2.1
theorem jx_blind {vs : List Value} {sz : Nat} : FrameBlind (jx_Pc D cl tys w vs σ sz) := fun a U g mk q => by
  obtain ⟨q0, q1, qP, qK, qD⟩ := q
  exact ⟨q0, q1, qP, va_K.moved (u := U) (U := U.calling g mk a) (Vm.Alike.refl U.vm) qK, qD⟩
theorem jx_free {ws : va_W} {H0 H : Heap} {locs : List Loc} (hD : va_D A ws) (hS : va_S A H0 H locs) (hA : ∀ q, H0.size ≤ q → A q) : ∀ q, va_A ws H.size q → A q := by
  intro q hq
  rcases hq with ⟨k, e, hk⟩ | hq
  · exact hD.2 k (q, e) hk
  · exact hA q (Nat.le_trans hS.1 hq)
theorem jx_start {l : Launch} {y : MethodName} {ws ws' : List Cond} {p : Program} {e : Env} {s : State} {m : MethodId} {args : Array Value} {below : List Frame} {meth : Method} {c : Code} {s₁ : State} {vs : List Value} {sz : Nat} (B : BodyLoose p l y (headSpec ws rm) cc nL rt e s m args below meth c s₁) (hml : c.maxLocals = nL) (hv : jx_Pc D cl tys w vs σ sz args s) : jx_ok (p, l, e, (headSpec ws rm).room, s, m, args, below, meth, c) D cl tys (va_A (w σ) sz) nL cc y.cls ws rm rt := by
  obtain ⟨rfl, hsz, hP, hK, hD0⟩ := hv
  exact ⟨B.exec, B.bytes, hml, findClass_of_methodNamed B.named, atoms_spec (ws := ws) B.pre, hK, fun q h => Or.inr (by rw [← hsz]; exact h), B.notSynchronized, rfl, B.returns⟩
theorem jx_metI {l : Launch} {y : MethodName} {ws ws' : List Cond} {vs : List Value} {F : Option (Int32 × St)} {r : Int32} {σ' : St} (hy : plainName y.cls = true) (hw : ws = Cond.code y cc nL rt :: ws') (hlen : (lg_sl vs).length ≤ nL) (body : ∀ (K : jx_E) (A : Nat → Prop), jx_ok K D cl tys A nL cc y.cls ws rm rt → J K D cl A nL w (jx_Qi K D cl tys w A) 0 0 0 (lv_args 0 vs) [] σ F) (hF : F = some (r, σ')) : MetI l y ws rm D cl tys w vs σ r σ' := by
  intro sz
  refine Met.ofW (cc := cc) (maxL := nL) (ret := rt) hy hw ?_
  intro p e s m args below meth c s₁ B hml hv
  have hok := jx_start (ws' := ws') B hml hv
  obtain ⟨rfl, hsz, hP, hK, hD0⟩ := hv
  rw [lg_entry_eq]
  exact body _ _ hok r σ' hF s.heap [] _ hP hD0.self va_S.rf (lv_entry vs hlen)
theorem jx_metL {l : Launch} {y : MethodName} {ws ws' : List Cond} {vs : List Value} {F : Option (Int64 × St)} {r : Int64} {σ' : St} (hy : plainName y.cls = true) (hw : ws = Cond.code y cc nL rt :: ws') (hlen : (lg_sl vs).length ≤ nL) (body : ∀ (K : jx_E) (A : Nat → Prop), jx_ok K D cl tys A nL cc y.cls ws rm rt → J K D cl A nL w (jx_Ql K D cl tys w A) 0 0 0 (lv_args 0 vs) [] σ F) (hF : F = some (r, σ')) : MetL l y ws rm D cl tys w vs σ r σ' := by
  intro sz
  refine Met.ofW (cc := cc) (maxL := nL) (ret := rt) hy hw ?_
  intro p e s m args below meth c s₁ B hml hv
  have hok := jx_start (ws' := ws') B hml hv
  obtain ⟨rfl, hsz, hP, hK, hD0⟩ := hv
  rw [lg_entry_eq]
  exact body _ _ hok r σ' hF s.heap [] _ hP hD0.self va_S.rf (lv_entry vs hlen)
theorem jx_metV {l : Launch} {y : MethodName} {ws ws' : List Cond} {vs : List Value} {F : Option (Unit × St)} {r : Unit} {σ' : St} (hy : plainName y.cls = true) (hw : ws = Cond.code y cc nL rt :: ws') (hlen : (lg_sl vs).length ≤ nL) (body : ∀ (K : jx_E) (A : Nat → Prop), jx_ok K D cl tys A nL cc y.cls ws rm rt → J K D cl A nL w (jx_Qv K D cl tys w A) 0 0 0 (lv_args 0 vs) [] σ F) (hF : F = some (r, σ')) : MetV l y ws rm D cl tys w vs σ r σ' := by
  intro sz
  refine Met.ofW (cc := cc) (maxL := nL) (ret := rt) hy hw ?_
  intro p e s m args below meth c s₁ B hml hv
  have hok := jx_start (ws' := ws') B hml hv
  obtain ⟨rfl, hsz, hP, hK, hD0⟩ := hv
  rw [lg_entry_eq]
  exact body _ _ hok r σ' hF s.heap [] _ hP hD0.self va_S.rf (lv_entry vs hlen)
theorem J_callVi (h : jx_ok K D cl tys A nL cc own Ts rm rt) {y : MethodName} {ws ws' : List Cond} {bytes : ByteArray} {maxL index n q0 ci b : Nat} {ret : Option FieldType} {rmc : Room} {C : String} {qc : vw_C} {fs As st0 : List Value} {f : Option (Int32 × St)} {g : Int32 → St → Option (ρ × St)} (hM : ∀ r σ', f = some (r, σ') → MetI (jl K) y ws rmc D cl tys w (.ref b :: As) σ r σ')
    (hG : GoodIn Ts (wsV own index C y ws)) (hw : ws = Cond.code y bytes maxL ret :: ws') (hrm : rmc.cells = 0 ∧ rmc.slots = 0) (hdd : y.cls = C ∧ y.cls ≠ "java/lang/invoke/MethodHandle" ∧ y.cls ≠ "java/lang/invoke/VarHandle" ∧ (parseMethodDescriptor y.desc).map (fun d => d.parameters.length) = some n) (hR : rmc.frames + 1 ≤ rm.frames ∧ 8 + (maxL + 11) + rmc.locals ≤ rm.locals)
    (hc : cl[ci]? = some qc) (hC : qc.1 = C) (he : (w σ)[q0]? = some (b, .inr (ci, fs))) (hn : As.length = n) (hst : st0 = As.reverse ++ .ref b :: st) (hroom : (st.map fun v => v.category).sum ≤ 8) (hcs : cs ≤ rm.cells ∧ sl ≤ rm.slots) (hd : decode cc pc = .ok (.invokevirtual index, 3))
    (k : ∀ (r : Int32) (σ1 : St), J K D cl A nL w Q cs sl (pc + 3) lv (.int r :: st) σ1 (g r σ1)) : J K D cl A nL w Q cs sl pc lv st0 σ (bd f g) := by
  intro r1 σ9 e1 H locs ls hP hD hS hl
  obtain ⟨r0, σ0, ef, eg⟩ := bd_some e1
  have hF := jx_free hD hS h.2.2.2.2.2.2.1
  have hRe := h.2.2.2.2.2.2.2.2.1
  refine va_calli (va_runV (As := As) (rest := st) (mc := 0) (ms := 0) ⟨h.1, h.2.1, h.2.2.1, h.2.2.2.1, h.2.2.2.2.1⟩ (hM r0 σ0 ef H.size) (cwV n h.2.2.2.2.1 hG hw hrm.1 hrm.2 hdd (by rw [hRe]; exact hR)) ⟨jx_blind, by rw [← hC]; exact va_recv h.2.2.2.2.2.1 hP hc he, fun U hU hW => ⟨rfl, by rw [hU], by rw [hU]; exact hP, va_K.moved hW.alike h.2.2.2.2.2.1, hD.weaken (fun _ _ _ _ => trivial)⟩⟩ rfl hn hl.1 hst (lv_room hroom) hd (by rw [hRe]; exact hcs)) hS (fun q _ z => hF q z) hF (fun r u t H1 locs1 ht hvm hw hB hz1 hk1 hS => ?_)
  obtain ⟨rfl, rfl⟩ := hw
  obtain ⟨hP1, hK1, hD1⟩ := hB
  rw [ht] at hP1
  exact k _ _ _ _ eg H1 locs1 ls hP1 (hD1.weaken (fun _ q _ z => hF q.1 z)) hS hl
theorem J_callSi (h : jx_ok K D cl tys A nL cc own Ts rm rt) {y : MethodName} {ws ws' : List Cond} {bytes : ByteArray} {maxL index n : Nat} {ret : Option FieldType} {rmc : Room} {As st0 : List Value} {f : Option (Int32 × St)} {g : Int32 → St → Option (ρ × St)} (hM : ∀ r σ', f = some (r, σ') → MetI (jl K) y ws rmc D cl tys w As σ r σ')
    (hG : GoodIn Ts (wsS own index y ws)) (hw : ws = Cond.code y bytes maxL ret :: ws') (hrm : rmc.cells = 0 ∧ rmc.slots = 0) (hdd : y.cls = own ∧ y.cls ≠ "java/lang/invoke/MethodHandle" ∧ y.cls ≠ "java/lang/invoke/VarHandle" ∧ (parseMethodDescriptor y.desc).map (fun d => d.parameters.length) = some n) (hR : rmc.frames + 1 ≤ rm.frames ∧ 8 + (maxL + 11) + rmc.locals ≤ rm.locals)
    (hn : As.length = n) (hst : st0 = As.reverse ++ st) (hroom : (st.map fun v => v.category).sum ≤ 8) (hcs : cs ≤ rm.cells ∧ sl ≤ rm.slots) (hd : decode cc pc = .ok (.invokestatic index, 3))
    (k : ∀ (r : Int32) (σ1 : St), J K D cl A nL w Q cs sl (pc + 3) lv (.int r :: st) σ1 (g r σ1)) : J K D cl A nL w Q cs sl pc lv st0 σ (bd f g) := by
  intro r1 σ9 e1 H locs ls hP hD hS hl
  obtain ⟨r0, σ0, ef, eg⟩ := bd_some e1
  have hF := jx_free hD hS h.2.2.2.2.2.2.1
  have hRe := h.2.2.2.2.2.2.2.2.1
  refine va_calli (va_runS (As := As) (rest := st) (mc := 0) (ms := 0) ⟨h.1, h.2.1, h.2.2.1, h.2.2.2.1, h.2.2.2.2.1⟩ (hM r0 σ0 ef H.size) (cwS n h.2.2.2.2.1 hG hw hrm.1 hrm.2 hdd (by rw [hRe]; exact hR)) ⟨jx_blind, fun U hU hW => ⟨rfl, by rw [hU], by rw [hU]; exact hP, va_K.moved hW.alike h.2.2.2.2.2.1, hD.weaken (fun _ _ _ _ => trivial)⟩⟩ rfl hn hl.1 hst (lv_room hroom) hd (by rw [hRe]; exact hcs)) hS (fun q _ z => hF q z) hF (fun r u t H1 locs1 ht hvm hw hB hz1 hk1 hS => ?_)
  obtain ⟨rfl, rfl⟩ := hw
  obtain ⟨hP1, hK1, hD1⟩ := hB
  rw [ht] at hP1
  exact k _ _ _ _ eg H1 locs1 ls hP1 (hD1.weaken (fun _ q _ z => hF q.1 z)) hS hl
theorem J_callVl (h : jx_ok K D cl tys A nL cc own Ts rm rt) {y : MethodName} {ws ws' : List Cond} {bytes : ByteArray} {maxL index n q0 ci b : Nat} {ret : Option FieldType} {rmc : Room} {C : String} {qc : vw_C} {fs As st0 : List Value} {f : Option (Int64 × St)} {g : Int64 → St → Option (ρ × St)} (hM : ∀ r σ', f = some (r, σ') → MetL (jl K) y ws rmc D cl tys w (.ref b :: As) σ r σ')
    (hG : GoodIn Ts (wsV own index C y ws)) (hw : ws = Cond.code y bytes maxL ret :: ws') (hrm : rmc.cells = 0 ∧ rmc.slots = 0) (hdd : y.cls = C ∧ y.cls ≠ "java/lang/invoke/MethodHandle" ∧ y.cls ≠ "java/lang/invoke/VarHandle" ∧ (parseMethodDescriptor y.desc).map (fun d => d.parameters.length) = some n) (hR : rmc.frames + 1 ≤ rm.frames ∧ 8 + (maxL + 11) + rmc.locals ≤ rm.locals)
    (hc : cl[ci]? = some qc) (hC : qc.1 = C) (he : (w σ)[q0]? = some (b, .inr (ci, fs))) (hn : As.length = n) (hst : st0 = As.reverse ++ .ref b :: st) (hroom : (st.map fun v => v.category).sum ≤ 8) (hcs : cs ≤ rm.cells ∧ sl ≤ rm.slots) (hd : decode cc pc = .ok (.invokevirtual index, 3))
    (k : ∀ (r : Int64) (σ1 : St), J K D cl A nL w Q cs sl (pc + 3) lv (.long r :: st) σ1 (g r σ1)) : J K D cl A nL w Q cs sl pc lv st0 σ (bd f g) := by
  intro r1 σ9 e1 H locs ls hP hD hS hl
  obtain ⟨r0, σ0, ef, eg⟩ := bd_some e1
  have hF := jx_free hD hS h.2.2.2.2.2.2.1
  have hRe := h.2.2.2.2.2.2.2.2.1
  refine va_calll (va_runV (As := As) (rest := st) (mc := 0) (ms := 0) ⟨h.1, h.2.1, h.2.2.1, h.2.2.2.1, h.2.2.2.2.1⟩ (hM r0 σ0 ef H.size) (cwV n h.2.2.2.2.1 hG hw hrm.1 hrm.2 hdd (by rw [hRe]; exact hR)) ⟨jx_blind, by rw [← hC]; exact va_recv h.2.2.2.2.2.1 hP hc he, fun U hU hW => ⟨rfl, by rw [hU], by rw [hU]; exact hP, va_K.moved hW.alike h.2.2.2.2.2.1, hD.weaken (fun _ _ _ _ => trivial)⟩⟩ rfl hn hl.1 hst (lv_room hroom) hd (by rw [hRe]; exact hcs)) hS (fun q _ z => hF q z) hF (fun r u t H1 locs1 ht hvm hw hB hz1 hk1 hS => ?_)
  obtain ⟨rfl, rfl⟩ := hw
  obtain ⟨hP1, hK1, hD1⟩ := hB
  rw [ht] at hP1
  exact k _ _ _ _ eg H1 locs1 ls hP1 (hD1.weaken (fun _ q _ z => hF q.1 z)) hS hl
theorem J_callSl (h : jx_ok K D cl tys A nL cc own Ts rm rt) {y : MethodName} {ws ws' : List Cond} {bytes : ByteArray} {maxL index n : Nat} {ret : Option FieldType} {rmc : Room} {As st0 : List Value} {f : Option (Int64 × St)} {g : Int64 → St → Option (ρ × St)} (hM : ∀ r σ', f = some (r, σ') → MetL (jl K) y ws rmc D cl tys w As σ r σ')
    (hG : GoodIn Ts (wsS own index y ws)) (hw : ws = Cond.code y bytes maxL ret :: ws') (hrm : rmc.cells = 0 ∧ rmc.slots = 0) (hdd : y.cls = own ∧ y.cls ≠ "java/lang/invoke/MethodHandle" ∧ y.cls ≠ "java/lang/invoke/VarHandle" ∧ (parseMethodDescriptor y.desc).map (fun d => d.parameters.length) = some n) (hR : rmc.frames + 1 ≤ rm.frames ∧ 8 + (maxL + 11) + rmc.locals ≤ rm.locals)
    (hn : As.length = n) (hst : st0 = As.reverse ++ st) (hroom : (st.map fun v => v.category).sum ≤ 8) (hcs : cs ≤ rm.cells ∧ sl ≤ rm.slots) (hd : decode cc pc = .ok (.invokestatic index, 3))
    (k : ∀ (r : Int64) (σ1 : St), J K D cl A nL w Q cs sl (pc + 3) lv (.long r :: st) σ1 (g r σ1)) : J K D cl A nL w Q cs sl pc lv st0 σ (bd f g) := by
  intro r1 σ9 e1 H locs ls hP hD hS hl
  obtain ⟨r0, σ0, ef, eg⟩ := bd_some e1
  have hF := jx_free hD hS h.2.2.2.2.2.2.1
  have hRe := h.2.2.2.2.2.2.2.2.1
  refine va_calll (va_runS (As := As) (rest := st) (mc := 0) (ms := 0) ⟨h.1, h.2.1, h.2.2.1, h.2.2.2.1, h.2.2.2.2.1⟩ (hM r0 σ0 ef H.size) (cwS n h.2.2.2.2.1 hG hw hrm.1 hrm.2 hdd (by rw [hRe]; exact hR)) ⟨jx_blind, fun U hU hW => ⟨rfl, by rw [hU], by rw [hU]; exact hP, va_K.moved hW.alike h.2.2.2.2.2.1, hD.weaken (fun _ _ _ _ => trivial)⟩⟩ rfl hn hl.1 hst (lv_room hroom) hd (by rw [hRe]; exact hcs)) hS (fun q _ z => hF q z) hF (fun r u t H1 locs1 ht hvm hw hB hz1 hk1 hS => ?_)
  obtain ⟨rfl, rfl⟩ := hw
  obtain ⟨hP1, hK1, hD1⟩ := hB
  rw [ht] at hP1
  exact k _ _ _ _ eg H1 locs1 ls hP1 (hD1.weaken (fun _ q _ z => hF q.1 z)) hS hl
theorem J_callVv (h : jx_ok K D cl tys A nL cc own Ts rm rt) {y : MethodName} {ws ws' : List Cond} {bytes : ByteArray} {maxL index n q0 ci b : Nat} {ret : Option FieldType} {rmc : Room} {C : String} {qc : vw_C} {fs As st0 : List Value} {f : Option (Unit × St)} {g : Unit → St → Option (ρ × St)} (hM : ∀ r σ', f = some (r, σ') → MetV (jl K) y ws rmc D cl tys w (.ref b :: As) σ r σ')
    (hG : GoodIn Ts (wsV own index C y ws)) (hw : ws = Cond.code y bytes maxL ret :: ws') (hrm : rmc.cells = 0 ∧ rmc.slots = 0) (hdd : y.cls = C ∧ y.cls ≠ "java/lang/invoke/MethodHandle" ∧ y.cls ≠ "java/lang/invoke/VarHandle" ∧ (parseMethodDescriptor y.desc).map (fun d => d.parameters.length) = some n) (hR : rmc.frames + 1 ≤ rm.frames ∧ 8 + (maxL + 11) + rmc.locals ≤ rm.locals)
    (hc : cl[ci]? = some qc) (hC : qc.1 = C) (he : (w σ)[q0]? = some (b, .inr (ci, fs))) (hn : As.length = n) (hst : st0 = As.reverse ++ .ref b :: st) (hroom : (st.map fun v => v.category).sum ≤ 8) (hcs : cs ≤ rm.cells ∧ sl ≤ rm.slots) (hd : decode cc pc = .ok (.invokevirtual index, 3))
    (k : ∀ (r : Unit) (σ1 : St), J K D cl A nL w Q cs sl (pc + 3) lv (st) σ1 (g r σ1)) : J K D cl A nL w Q cs sl pc lv st0 σ (bd f g) := by
  intro r1 σ9 e1 H locs ls hP hD hS hl
  obtain ⟨r0, σ0, ef, eg⟩ := bd_some e1
  have hF := jx_free hD hS h.2.2.2.2.2.2.1
  have hRe := h.2.2.2.2.2.2.2.2.1
  refine va_callv (va_runV (As := As) (rest := st) (mc := 0) (ms := 0) ⟨h.1, h.2.1, h.2.2.1, h.2.2.2.1, h.2.2.2.2.1⟩ (hM r0 σ0 ef H.size) (cwV n h.2.2.2.2.1 hG hw hrm.1 hrm.2 hdd (by rw [hRe]; exact hR)) ⟨jx_blind, by rw [← hC]; exact va_recv h.2.2.2.2.2.1 hP hc he, fun U hU hW => ⟨rfl, by rw [hU], by rw [hU]; exact hP, va_K.moved hW.alike h.2.2.2.2.2.1, hD.weaken (fun _ _ _ _ => trivial)⟩⟩ rfl hn hl.1 hst (lv_room hroom) hd (by rw [hRe]; exact hcs)) hS (fun q _ z => hF q z) hF (fun u t H1 locs1 ht hvm hw hB hz1 hk1 hS => ?_)
  subst hw
  obtain ⟨hP1, hK1, hD1⟩ := hB
  rw [ht] at hP1
  exact k _ _ _ _ eg H1 locs1 ls hP1 (hD1.weaken (fun _ q _ z => hF q.1 z)) hS hl
theorem J_callSv (h : jx_ok K D cl tys A nL cc own Ts rm rt) {y : MethodName} {ws ws' : List Cond} {bytes : ByteArray} {maxL index n : Nat} {ret : Option FieldType} {rmc : Room} {As st0 : List Value} {f : Option (Unit × St)} {g : Unit → St → Option (ρ × St)} (hM : ∀ r σ', f = some (r, σ') → MetV (jl K) y ws rmc D cl tys w As σ r σ')
    (hG : GoodIn Ts (wsS own index y ws)) (hw : ws = Cond.code y bytes maxL ret :: ws') (hrm : rmc.cells = 0 ∧ rmc.slots = 0) (hdd : y.cls = own ∧ y.cls ≠ "java/lang/invoke/MethodHandle" ∧ y.cls ≠ "java/lang/invoke/VarHandle" ∧ (parseMethodDescriptor y.desc).map (fun d => d.parameters.length) = some n) (hR : rmc.frames + 1 ≤ rm.frames ∧ 8 + (maxL + 11) + rmc.locals ≤ rm.locals)
    (hn : As.length = n) (hst : st0 = As.reverse ++ st) (hroom : (st.map fun v => v.category).sum ≤ 8) (hcs : cs ≤ rm.cells ∧ sl ≤ rm.slots) (hd : decode cc pc = .ok (.invokestatic index, 3))
    (k : ∀ (r : Unit) (σ1 : St), J K D cl A nL w Q cs sl (pc + 3) lv (st) σ1 (g r σ1)) : J K D cl A nL w Q cs sl pc lv st0 σ (bd f g) := by
  intro r1 σ9 e1 H locs ls hP hD hS hl
  obtain ⟨r0, σ0, ef, eg⟩ := bd_some e1
  have hF := jx_free hD hS h.2.2.2.2.2.2.1
  have hRe := h.2.2.2.2.2.2.2.2.1
  refine va_callv (va_runS (As := As) (rest := st) (mc := 0) (ms := 0) ⟨h.1, h.2.1, h.2.2.1, h.2.2.2.1, h.2.2.2.2.1⟩ (hM r0 σ0 ef H.size) (cwS n h.2.2.2.2.1 hG hw hrm.1 hrm.2 hdd (by rw [hRe]; exact hR)) ⟨jx_blind, fun U hU hW => ⟨rfl, by rw [hU], by rw [hU]; exact hP, va_K.moved hW.alike h.2.2.2.2.2.1, hD.weaken (fun _ _ _ _ => trivial)⟩⟩ rfl hn hl.1 hst (lv_room hroom) hd (by rw [hRe]; exact hcs)) hS (fun q _ z => hF q z) hF (fun u t H1 locs1 ht hvm hw hB hz1 hk1 hS => ?_)
  subst hw
  obtain ⟨hP1, hK1, hD1⟩ := hB
  rw [ht] at hP1
  exact k _ _ _ _ eg H1 locs1 ls hP1 (hD1.weaken (fun _ q _ z => hF q.1 z)) hS hl
end JC
end
section
/-! rows that came later: branches of constants, booleans, static calls of any class, the words of all methods -/
def zb (v : Int32) : Bool := decide (v = 0 ∨ v = 1)
theorem zb_fit {v : Int32} (h : zb v = true) : fits .boolean (.int v) = true := by
  rcases (of_decide_eq_true h : v = 0 ∨ v = 1) with rfl | rfl <;> decide
theorem zb_nar {v : Int32} (h : zb v = true) : narrow .boolean (.int v) = .int v := by
  rcases (of_decide_eq_true h : v = 0 ∨ v = 1) with rfl | rfl <;> decide
section JM
variable {St ρ : Type} {K : jx_E} {D : va_G} {cl : List vw_C} {tys : List (ClassId × FieldType)} {A : Nat → Prop} {nL : Nat} {cc : ByteArray} {own : String} {Ts : List Cond} {rm : Room} {rt : Option FieldType} {w : St → va_W} {Q : ρ → St → State → Prop} {cs sl : Nat} {pc : Nat} {lv : List (Nat × Value)} {st : List Value} {σ : St} {F F1 F2 : Option (ρ × St)}
theorem J_br_t {c : Prop} [Decidable c] (hc : c) (k : J K D cl A nL w Q cs sl pc lv st σ (if c then F else none)) : J K D cl A nL w Q cs sl pc lv st σ F := by
  rw [if_pos hc] at k; exact k
theorem J_br_f {c : Prop} [Decidable c] (hc : ¬ c) (k : J K D cl A nL w Q cs sl pc lv st σ (if c then none else F)) : J K D cl A nL w Q cs sl pc lv st σ F := by
  rw [if_neg hc] at k; exact k
theorem J_putz (h : jx_ok K D cl tys A nL cc own Ts rm rt) {C : String} {T : u_T} {N ci index a : Nat} (q0 : Nat) {fs : List Value} (he : (w σ)[q0]? = some (a, .inr (ci, fs))) (hin : ∀ x ∈ u_ws C T N, x ∈ Ts) (hc : cl[ci]? = some (C, T, N)) (ty0 : Nat → FieldType) (hty : ∀ k, k < N → parseFieldDescriptor (T k).2.2.1 = some (ty0 k)) (hnm : ∀ a, a < N → ∀ b, b < N → a ≠ b → (T a).2.1 ≠ (T b).2.1) (j : Nat) (hj : j < N) (hw : Cond.fieldLink own index (T j).1 (T j).2.1 (T j).2.2.1 ∈ Ts) (hfin : (T j).2.2.2 = false) {v : Int32} (hb : ty0 j = .boolean) (hl0 : j < fs.length) {σ2 : St} (hset : (w σ).set q0 (a, .inr (ci, fs.set j (.int v))) = w σ2) {f : St → Option (ρ × St)} (hd : decode cc pc = .ok (.putfield index, 3)) (k : ∀ σ1 : St, J K D cl A nL w Q cs sl (pc + 3) lv st σ1 (f σ1)) : J K D cl A nL w Q cs sl pc lv (.int v :: .ref a :: st) σ (if zb v = true then nm σ2 f else none) := by
  by_cases hz : zb v = true
  · rw [if_pos hz]
    exact J_putf h q0 he hin hc ty0 hty hnm j hj hw hfin (by rw [hb]; exact zb_nar hz) (by rw [hb]; exact zb_fit hz) hl0 hset hd k
  · rw [if_neg hz]; exact J_none
end JM
section JMC
variable {St ρ : Type} {K : jx_E} {D : va_G} {cl : List vw_C} {tys : List (ClassId × FieldType)} {A : Nat → Prop} {nL : Nat} {cc : ByteArray} {own : String} {Ts : List Cond} {rm : Room} {rt : Option FieldType} {w : St → va_W} {Q : ρ → St → State → Prop} {cs sl : Nat} {pc : Nat} {lv : List (Nat × Value)} {st : List Value} {σ : St}
theorem J_zretc (h : jx_ok K D cl tys A nL cc own Ts rm rt) (hr : rt = some .boolean) {v : Int32} (hd : decode cc pc = .ok (.ireturn, 1)) : J K D cl A nL w (jx_Qi K D cl tys w A) 0 0 pc lv [.int v] σ (if zb v = true then some (v, σ) else none) := by
  by_cases hz : zb v = true
  · rw [if_pos hz]
    exact J_zret h hr (zb_nar hz) hd
  · rw [if_neg hz]; exact J_none
theorem J_callTi (h : jx_ok K D cl tys A nL cc own Ts rm rt) {y : MethodName} {ws ws' : List Cond} {bytes : ByteArray} {maxL index n : Nat} {ret : Option FieldType} {rmc : Room} {As st0 : List Value} {f : Option (Int32 × St)} {g : Int32 → St → Option (ρ × St)} (hM : ∀ r σ', f = some (r, σ') → MetI (jl K) y ws rmc D cl tys w As σ r σ')
    (hG : GoodIn Ts ws) (hw1 : Cond.methodLink own index y ∈ Ts) (hw2 : Cond.static y ∈ Ts) (hw3 : Cond.initialized y.cls ∈ Ts) (hw : ws = Cond.code y bytes maxL ret :: ws') (hrm : rmc.cells = 0 ∧ rmc.slots = 0) (hdd : y.cls ≠ "java/lang/invoke/MethodHandle" ∧ y.cls ≠ "java/lang/invoke/VarHandle" ∧ (parseMethodDescriptor y.desc).map (fun d => d.parameters.length) = some n) (hR : rmc.frames + 1 ≤ rm.frames ∧ 8 + (maxL + 11) + rmc.locals ≤ rm.locals)
    (hn : As.length = n) (hst : st0 = As.reverse ++ st) (hroom : (st.map fun v => v.category).sum ≤ 8) (hcs : cs ≤ rm.cells ∧ sl ≤ rm.slots) (hd : decode cc pc = .ok (.invokestatic index, 3))
    (k : ∀ (r : Int32) (σ1 : St), J K D cl A nL w Q cs sl (pc + 3) lv (.int r :: st) σ1 (g r σ1)) : J K D cl A nL w Q cs sl pc lv st0 σ (bd f g) := by
  intro r1 σ9 e1 H locs ls hP hD hS hl
  obtain ⟨r0, σ0, ef, eg⟩ := bd_some e1
  have hF := jx_free hD hS h.2.2.2.2.2.2.1
  have hRe := h.2.2.2.2.2.2.2.2.1
  refine va_calli (va_runS (As := As) (rest := st) (mc := 0) (ms := 0) ⟨h.1, h.2.1, h.2.2.1, h.2.2.2.1, h.2.2.2.2.1⟩ (hM r0 σ0 ef H.size) ⟨callB_of n h.2.2.2.2.1 hG hw hrm.1 hrm.2 (h.2.2.2.2.1 _ hw3) (h.2.2.2.2.1 _ hw1) hdd (by rw [hRe]; exact hR), h.2.2.2.2.1 _ hw2⟩ ⟨jx_blind, fun U hU hW => ⟨rfl, by rw [hU], by rw [hU]; exact hP, va_K.moved hW.alike h.2.2.2.2.2.1, hD.weaken (fun _ _ _ _ => trivial)⟩⟩ rfl hn hl.1 hst (lv_room hroom) hd (by rw [hRe]; exact hcs)) hS (fun q _ z => hF q z) hF (fun r u t H1 locs1 ht hvm hw hB hz1 hk1 hS => ?_)
  obtain ⟨rfl, rfl⟩ := hw
  obtain ⟨hP1, hK1, hD1⟩ := hB
  rw [ht] at hP1
  exact k _ _ _ _ eg H1 locs1 ls hP1 (hD1.weaken (fun _ q _ z => hF q.1 z)) hS hl
theorem J_callTl (h : jx_ok K D cl tys A nL cc own Ts rm rt) {y : MethodName} {ws ws' : List Cond} {bytes : ByteArray} {maxL index n : Nat} {ret : Option FieldType} {rmc : Room} {As st0 : List Value} {f : Option (Int64 × St)} {g : Int64 → St → Option (ρ × St)} (hM : ∀ r σ', f = some (r, σ') → MetL (jl K) y ws rmc D cl tys w As σ r σ')
    (hG : GoodIn Ts ws) (hw1 : Cond.methodLink own index y ∈ Ts) (hw2 : Cond.static y ∈ Ts) (hw3 : Cond.initialized y.cls ∈ Ts) (hw : ws = Cond.code y bytes maxL ret :: ws') (hrm : rmc.cells = 0 ∧ rmc.slots = 0) (hdd : y.cls ≠ "java/lang/invoke/MethodHandle" ∧ y.cls ≠ "java/lang/invoke/VarHandle" ∧ (parseMethodDescriptor y.desc).map (fun d => d.parameters.length) = some n) (hR : rmc.frames + 1 ≤ rm.frames ∧ 8 + (maxL + 11) + rmc.locals ≤ rm.locals)
    (hn : As.length = n) (hst : st0 = As.reverse ++ st) (hroom : (st.map fun v => v.category).sum ≤ 8) (hcs : cs ≤ rm.cells ∧ sl ≤ rm.slots) (hd : decode cc pc = .ok (.invokestatic index, 3))
    (k : ∀ (r : Int64) (σ1 : St), J K D cl A nL w Q cs sl (pc + 3) lv (.long r :: st) σ1 (g r σ1)) : J K D cl A nL w Q cs sl pc lv st0 σ (bd f g) := by
  intro r1 σ9 e1 H locs ls hP hD hS hl
  obtain ⟨r0, σ0, ef, eg⟩ := bd_some e1
  have hF := jx_free hD hS h.2.2.2.2.2.2.1
  have hRe := h.2.2.2.2.2.2.2.2.1
  refine va_calll (va_runS (As := As) (rest := st) (mc := 0) (ms := 0) ⟨h.1, h.2.1, h.2.2.1, h.2.2.2.1, h.2.2.2.2.1⟩ (hM r0 σ0 ef H.size) ⟨callB_of n h.2.2.2.2.1 hG hw hrm.1 hrm.2 (h.2.2.2.2.1 _ hw3) (h.2.2.2.2.1 _ hw1) hdd (by rw [hRe]; exact hR), h.2.2.2.2.1 _ hw2⟩ ⟨jx_blind, fun U hU hW => ⟨rfl, by rw [hU], by rw [hU]; exact hP, va_K.moved hW.alike h.2.2.2.2.2.1, hD.weaken (fun _ _ _ _ => trivial)⟩⟩ rfl hn hl.1 hst (lv_room hroom) hd (by rw [hRe]; exact hcs)) hS (fun q _ z => hF q z) hF (fun r u t H1 locs1 ht hvm hw hB hz1 hk1 hS => ?_)
  obtain ⟨rfl, rfl⟩ := hw
  obtain ⟨hP1, hK1, hD1⟩ := hB
  rw [ht] at hP1
  exact k _ _ _ _ eg H1 locs1 ls hP1 (hD1.weaken (fun _ q _ z => hF q.1 z)) hS hl
theorem J_callTv (h : jx_ok K D cl tys A nL cc own Ts rm rt) {y : MethodName} {ws ws' : List Cond} {bytes : ByteArray} {maxL index n : Nat} {ret : Option FieldType} {rmc : Room} {As st0 : List Value} {f : Option (Unit × St)} {g : Unit → St → Option (ρ × St)} (hM : ∀ r σ', f = some (r, σ') → MetV (jl K) y ws rmc D cl tys w As σ r σ')
    (hG : GoodIn Ts ws) (hw1 : Cond.methodLink own index y ∈ Ts) (hw2 : Cond.static y ∈ Ts) (hw3 : Cond.initialized y.cls ∈ Ts) (hw : ws = Cond.code y bytes maxL ret :: ws') (hrm : rmc.cells = 0 ∧ rmc.slots = 0) (hdd : y.cls ≠ "java/lang/invoke/MethodHandle" ∧ y.cls ≠ "java/lang/invoke/VarHandle" ∧ (parseMethodDescriptor y.desc).map (fun d => d.parameters.length) = some n) (hR : rmc.frames + 1 ≤ rm.frames ∧ 8 + (maxL + 11) + rmc.locals ≤ rm.locals)
    (hn : As.length = n) (hst : st0 = As.reverse ++ st) (hroom : (st.map fun v => v.category).sum ≤ 8) (hcs : cs ≤ rm.cells ∧ sl ≤ rm.slots) (hd : decode cc pc = .ok (.invokestatic index, 3))
    (k : ∀ (r : Unit) (σ1 : St), J K D cl A nL w Q cs sl (pc + 3) lv (st) σ1 (g r σ1)) : J K D cl A nL w Q cs sl pc lv st0 σ (bd f g) := by
  intro r1 σ9 e1 H locs ls hP hD hS hl
  obtain ⟨r0, σ0, ef, eg⟩ := bd_some e1
  have hF := jx_free hD hS h.2.2.2.2.2.2.1
  have hRe := h.2.2.2.2.2.2.2.2.1
  refine va_callv (va_runS (As := As) (rest := st) (mc := 0) (ms := 0) ⟨h.1, h.2.1, h.2.2.1, h.2.2.2.1, h.2.2.2.2.1⟩ (hM r0 σ0 ef H.size) ⟨callB_of n h.2.2.2.2.1 hG hw hrm.1 hrm.2 (h.2.2.2.2.1 _ hw3) (h.2.2.2.2.1 _ hw1) hdd (by rw [hRe]; exact hR), h.2.2.2.2.1 _ hw2⟩ ⟨jx_blind, fun U hU hW => ⟨rfl, by rw [hU], by rw [hU]; exact hP, va_K.moved hW.alike h.2.2.2.2.2.1, hD.weaken (fun _ _ _ _ => trivial)⟩⟩ rfl hn hl.1 hst (lv_room hroom) hd (by rw [hRe]; exact hcs)) hS (fun q _ z => hF q z) hF (fun u t H1 locs1 ht hvm hw hB hz1 hk1 hS => ?_)
  subst hw
  obtain ⟨hP1, hK1, hD1⟩ := hB
  rw [ht] at hP1
  exact k _ _ _ _ eg H1 locs1 ls hP1 (hD1.weaken (fun _ q _ z => hF q.1 z)) hS hl
end JMC
def tblG : List Cond := lw_tbl.filter goodWord
theorem tb_all : tblG.all goodWord = true := List.all_eq_true.mpr (fun _ h => (List.mem_filter.mp h).2)
theorem tb_lw {w : Cond} (h : w ∈ tblG) : w ∈ lw_tbl := (List.mem_filter.mp h).1
theorem tb_s {w : Cond} (i : Nat) (h : (k2_sels lw_privs)[i]? = some w) (g : goodWord w = true) : w ∈ tblG := List.mem_filter.mpr ⟨List.mem_append_left _ (List.mem_of_getElem? h), g⟩
theorem tb_1 {w : Cond} (i : Nat) (h : tables_1_1[i]? = some w) (g : goodWord w = true) : w ∈ tblG := List.mem_filter.mpr ⟨List.mem_append_right _ (List.mem_append_left _ (List.mem_of_getElem? h)), g⟩
theorem tb_2 {w : Cond} (i : Nat) (h : tables_1_2[i]? = some w) (g : goodWord w = true) : w ∈ tblG := List.mem_filter.mpr ⟨List.mem_append_right _ (List.mem_append_right _ (List.mem_append_left _ (List.mem_of_getElem? h))), g⟩
theorem tb_3 {w : Cond} (i : Nat) (h : tables_1_3[i]? = some w) (g : goodWord w = true) : w ∈ tblG := List.mem_filter.mpr ⟨List.mem_append_right _ (List.mem_append_right _ (List.mem_append_right _ (List.mem_append_left _ (List.mem_of_getElem? h)))), g⟩
theorem tb_4 {w : Cond} (i : Nat) (h : tables_1_4[i]? = some w) (g : goodWord w = true) : w ∈ tblG := List.mem_filter.mpr ⟨List.mem_append_right _ (List.mem_append_right _ (List.mem_append_right _ (List.mem_append_right _ (List.mem_append_left _ (List.mem_of_getElem? h))))), g⟩
theorem tb_5 {w : Cond} (i : Nat) (h : tables_1_5[i]? = some w) (g : goodWord w = true) : w ∈ tblG := List.mem_filter.mpr ⟨List.mem_append_right _ (List.mem_append_right _ (List.mem_append_right _ (List.mem_append_right _ (List.mem_append_right _ (List.mem_append_left _ (List.mem_of_getElem? h)))))), g⟩
theorem tb_6 {w : Cond} (i : Nat) (h : tables_1_6[i]? = some w) (g : goodWord w = true) : w ∈ tblG := List.mem_filter.mpr ⟨List.mem_append_right _ (List.mem_append_right _ (List.mem_append_right _ (List.mem_append_right _ (List.mem_append_right _ (List.mem_append_right _ (List.mem_of_getElem? h)))))), g⟩
theorem gd_all {cm c : Cond} (hc : c ∈ tblG) : GoodIn (cm :: tblG) (c :: tblG) := by
  intro w hw
  have hm : w ∈ tblG := by
    rcases List.mem_cons.mp hw with rfl | h
    · exact hc
    · exact h
  exact ⟨List.mem_cons_of_mem _ hm, good_of_word (List.all_eq_true.mp tb_all w hm)⟩
theorem gd_V {cm : Cond} {own C : String} {idx n : Nat} {y : MethodName} {b : ByteArray} {r : Option FieldType} (h1 : Cond.methodLink own idx y ∈ tblG) (h2 : Cond.instanceMethod y ∈ tblG) (h3 : Cond.selects C y y ∈ tblG) (h4 : Cond.initialized C ∈ tblG) (h5 : Cond.code y b n r ∈ tblG) : GoodIn (cm :: tblG) (wsV own idx C y (Cond.code y b n r :: tblG)) := by
  intro w hw
  have hm : w ∈ tblG := by
    rcases List.mem_append.mp hw with h | h
    · simp only [List.mem_cons, List.not_mem_nil, or_false] at h
      rcases h with rfl | rfl | rfl | rfl
      · exact h1
      · exact h2
      · exact h3
      · exact h4
    · rcases List.mem_cons.mp h with rfl | h
      · exact h5
      · exact h
  exact ⟨List.mem_cons_of_mem _ hm, good_of_word (List.all_eq_true.mp tb_all w hm)⟩
theorem tb_up {cm w : Cond} (h : w ∈ tblG) : w ∈ cm :: tblG := List.mem_cons_of_mem _ h
theorem tb_ups {cm : Cond} {us : List Cond} (h : ∀ x ∈ us, x ∈ tblG) : ∀ x ∈ us, x ∈ cm :: tblG := fun x hx => List.mem_cons_of_mem _ (h x hx)
end
section
/-! names: the classes' fields, the methods -/
def T_Bounds : u_T := fun k => match k with
  | 0 => ("InferReduce$Bounds", "sort", "[I", true)
  | 1 => ("InferReduce$Bounds", "variable", "[I", true)
  | 2 => ("InferReduce$Bounds", "type", "[I", true)
  | 3 => ("InferReduce$Bounds", "origin", "[I", true)
  | _ => ("InferReduce$Bounds", "size", "I", false)
def ft_Bounds : Nat → FieldType := fun k => match k with
  | 0 => .array .int
  | 1 => .array .int
  | 2 => .array .int
  | 3 => .array .int
  | _ => .int
theorem nm_Bounds : ∀ a, a < 5 → ∀ b, b < 5 → a ≠ b → (T_Bounds a).2.1 ≠ (T_Bounds b).2.1 := by decide +kernel
theorem ft_Bounds_ok : ∀ k, k < 5 → parseFieldDescriptor (T_Bounds k).2.2.1 = some (ft_Bounds k) := by decide +kernel
theorem in_Bounds_0 : u_lay "InferReduce$Bounds" T_Bounds 0 ∈ tblG := tb_1 110 rfl rfl
theorem in_Bounds_1 : u_lay "InferReduce$Bounds" T_Bounds 1 ∈ tblG := tb_1 112 rfl rfl
theorem in_Bounds_2 : u_lay "InferReduce$Bounds" T_Bounds 2 ∈ tblG := tb_1 114 rfl rfl
theorem in_Bounds_3 : u_lay "InferReduce$Bounds" T_Bounds 3 ∈ tblG := tb_1 116 rfl rfl
theorem in_Bounds_4 : u_lay "InferReduce$Bounds" T_Bounds 4 ∈ tblG := tb_1 118 rfl rfl
theorem in_Bounds : ∀ x ∈ u_ws "InferReduce$Bounds" T_Bounds 5, x ∈ tblG := by
  intro x hx
  obtain ⟨k, hk, rfl⟩ := List.mem_map.mp hx
  have hk := List.mem_range.mp hk
  match k, hk with
  | 0, _ => exact in_Bounds_0
  | 1, _ => exact in_Bounds_1
  | 2, _ => exact in_Bounds_2
  | 3, _ => exact in_Bounds_3
  | 4, _ => exact in_Bounds_4
  | k + 5, h => exact absurd h (by omega)
def T_Classes : u_T := fun k => match k with
  | 0 => ("InferReduce$Classes", "parameters", "[I", true)
  | 1 => ("InferReduce$Classes", "parentCount", "[I", true)
  | 2 => ("InferReduce$Classes", "parentType", "[I", true)
  | 3 => ("InferReduce$Classes", "parentClass", "[I", true)
  | 4 => ("InferReduce$Classes", "reach", "[J", true)
  | _ => ("InferReduce$Classes", "size", "I", false)
def ft_Classes : Nat → FieldType := fun k => match k with
  | 0 => .array .int
  | 1 => .array .int
  | 2 => .array .int
  | 3 => .array .int
  | 4 => .array .long
  | _ => .int
theorem nm_Classes : ∀ a, a < 6 → ∀ b, b < 6 → a ≠ b → (T_Classes a).2.1 ≠ (T_Classes b).2.1 := by decide +kernel
theorem ft_Classes_ok : ∀ k, k < 6 → parseFieldDescriptor (T_Classes k).2.2.1 = some (ft_Classes k) := by decide +kernel
theorem in_Classes_0 : u_lay "InferReduce$Classes" T_Classes 0 ∈ tblG := tb_1 37 rfl rfl
theorem in_Classes_1 : u_lay "InferReduce$Classes" T_Classes 1 ∈ tblG := tb_1 39 rfl rfl
theorem in_Classes_2 : u_lay "InferReduce$Classes" T_Classes 2 ∈ tblG := tb_1 41 rfl rfl
theorem in_Classes_3 : u_lay "InferReduce$Classes" T_Classes 3 ∈ tblG := tb_1 43 rfl rfl
theorem in_Classes_4 : u_lay "InferReduce$Classes" T_Classes 4 ∈ tblG := tb_1 45 rfl rfl
theorem in_Classes_5 : u_lay "InferReduce$Classes" T_Classes 5 ∈ tblG := tb_1 47 rfl rfl
theorem in_Classes : ∀ x ∈ u_ws "InferReduce$Classes" T_Classes 6, x ∈ tblG := by
  intro x hx
  obtain ⟨k, hk, rfl⟩ := List.mem_map.mp hx
  have hk := List.mem_range.mp hk
  match k, hk with
  | 0, _ => exact in_Classes_0
  | 1, _ => exact in_Classes_1
  | 2, _ => exact in_Classes_2
  | 3, _ => exact in_Classes_3
  | 4, _ => exact in_Classes_4
  | 5, _ => exact in_Classes_5
  | k + 6, h => exact absurd h (by omega)
def T_Exchange : u_T := fun k => match k with
  | 0 => ("InferReduce$Exchange", "types", "LInferReduce$Types;", true)
  | 1 => ("InferReduce$Exchange", "instead", "[I", true)
  | 2 => ("InferReduce$Exchange", "done", "[I", true)
  | 3 => ("InferReduce$Exchange", "doneAt", "[I", true)
  | 4 => ("InferReduce$Exchange", "stamp", "I", false)
  | 5 => ("InferReduce$Exchange", "variables", "I", false)
  | _ => ("InferReduce$Exchange", "owner", "I", false)
def ft_Exchange : Nat → FieldType := fun k => match k with
  | 0 => .object "InferReduce$Types"
  | 1 => .array .int
  | 2 => .array .int
  | 3 => .array .int
  | 4 => .int
  | 5 => .int
  | _ => .int
theorem nm_Exchange : ∀ a, a < 7 → ∀ b, b < 7 → a ≠ b → (T_Exchange a).2.1 ≠ (T_Exchange b).2.1 := by decide +kernel
theorem ft_Exchange_ok : ∀ k, k < 7 → parseFieldDescriptor (T_Exchange k).2.2.1 = some (ft_Exchange k) := by decide +kernel
theorem in_Exchange_0 : u_lay "InferReduce$Exchange" T_Exchange 0 ∈ tblG := tb_1 134 rfl rfl
theorem in_Exchange_1 : u_lay "InferReduce$Exchange" T_Exchange 1 ∈ tblG := tb_1 136 rfl rfl
theorem in_Exchange_2 : u_lay "InferReduce$Exchange" T_Exchange 2 ∈ tblG := tb_1 138 rfl rfl
theorem in_Exchange_3 : u_lay "InferReduce$Exchange" T_Exchange 3 ∈ tblG := tb_1 140 rfl rfl
theorem in_Exchange_4 : u_lay "InferReduce$Exchange" T_Exchange 4 ∈ tblG := tb_1 142 rfl rfl
theorem in_Exchange_5 : u_lay "InferReduce$Exchange" T_Exchange 5 ∈ tblG := tb_1 144 rfl rfl
theorem in_Exchange_6 : u_lay "InferReduce$Exchange" T_Exchange 6 ∈ tblG := tb_1 146 rfl rfl
theorem in_Exchange : ∀ x ∈ u_ws "InferReduce$Exchange" T_Exchange 7, x ∈ tblG := by
  intro x hx
  obtain ⟨k, hk, rfl⟩ := List.mem_map.mp hx
  have hk := List.mem_range.mp hk
  match k, hk with
  | 0, _ => exact in_Exchange_0
  | 1, _ => exact in_Exchange_1
  | 2, _ => exact in_Exchange_2
  | 3, _ => exact in_Exchange_3
  | 4, _ => exact in_Exchange_4
  | 5, _ => exact in_Exchange_5
  | 6, _ => exact in_Exchange_6
  | k + 7, h => exact absurd h (by omega)
def T_Holder : u_T := fun k => match k with
  | 0 => ("InferReduce$Holder", "classes", "LInferReduce$Classes;", true)
  | 1 => ("InferReduce$Holder", "types", "LInferReduce$Types;", true)
  | 2 => ("InferReduce$Holder", "bounds", "LInferReduce$Bounds;", true)
  | 3 => ("InferReduce$Holder", "exchange", "LInferReduce$Exchange;", true)
  | 4 => ("InferReduce$Holder", "reducer", "LInferReduce$Reducer;", true)
  | 5 => ("InferReduce$Holder", "variableTypes", "[I", true)
  | _ => ("InferReduce$Holder", "held", "I", false)
def ft_Holder : Nat → FieldType := fun k => match k with
  | 0 => .object "InferReduce$Classes"
  | 1 => .object "InferReduce$Types"
  | 2 => .object "InferReduce$Bounds"
  | 3 => .object "InferReduce$Exchange"
  | 4 => .object "InferReduce$Reducer"
  | 5 => .array .int
  | _ => .int
theorem nm_Holder : ∀ a, a < 7 → ∀ b, b < 7 → a ≠ b → (T_Holder a).2.1 ≠ (T_Holder b).2.1 := by decide +kernel
theorem ft_Holder_ok : ∀ k, k < 7 → parseFieldDescriptor (T_Holder k).2.2.1 = some (ft_Holder k) := by decide +kernel
theorem in_Holder_0 : u_lay "InferReduce$Holder" T_Holder 0 ∈ tblG := tb_1 239 rfl rfl
theorem in_Holder_1 : u_lay "InferReduce$Holder" T_Holder 1 ∈ tblG := tb_2 1 rfl rfl
theorem in_Holder_2 : u_lay "InferReduce$Holder" T_Holder 2 ∈ tblG := tb_2 3 rfl rfl
theorem in_Holder_3 : u_lay "InferReduce$Holder" T_Holder 3 ∈ tblG := tb_2 5 rfl rfl
theorem in_Holder_4 : u_lay "InferReduce$Holder" T_Holder 4 ∈ tblG := tb_2 7 rfl rfl
theorem in_Holder_5 : u_lay "InferReduce$Holder" T_Holder 5 ∈ tblG := tb_2 9 rfl rfl
theorem in_Holder_6 : u_lay "InferReduce$Holder" T_Holder 6 ∈ tblG := tb_2 11 rfl rfl
theorem in_Holder : ∀ x ∈ u_ws "InferReduce$Holder" T_Holder 7, x ∈ tblG := by
  intro x hx
  obtain ⟨k, hk, rfl⟩ := List.mem_map.mp hx
  have hk := List.mem_range.mp hk
  match k, hk with
  | 0, _ => exact in_Holder_0
  | 1, _ => exact in_Holder_1
  | 2, _ => exact in_Holder_2
  | 3, _ => exact in_Holder_3
  | 4, _ => exact in_Holder_4
  | 5, _ => exact in_Holder_5
  | 6, _ => exact in_Holder_6
  | k + 7, h => exact absurd h (by omega)
def T_Reducer : u_T := fun k => match k with
  | 0 => ("InferReduce$Reducer", "classes", "LInferReduce$Classes;", true)
  | 1 => ("InferReduce$Reducer", "types", "LInferReduce$Types;", true)
  | 2 => ("InferReduce$Reducer", "bounds", "LInferReduce$Bounds;", true)
  | 3 => ("InferReduce$Reducer", "exchange", "LInferReduce$Exchange;", true)
  | 4 => ("InferReduce$Reducer", "work", "LInferReduce$Work;", true)
  | 5 => ("InferReduce$Reducer", "made", "I", false)
  | 6 => ("InferReduce$Reducer", "madeInCall", "I", false)
  | 7 => ("InferReduce$Reducer", "origin", "I", false)
  | _ => ("InferReduce$Reducer", "sawUnchecked", "Z", false)
def ft_Reducer : Nat → FieldType := fun k => match k with
  | 0 => .object "InferReduce$Classes"
  | 1 => .object "InferReduce$Types"
  | 2 => .object "InferReduce$Bounds"
  | 3 => .object "InferReduce$Exchange"
  | 4 => .object "InferReduce$Work"
  | 5 => .int
  | 6 => .int
  | 7 => .int
  | _ => .boolean
theorem nm_Reducer : ∀ a, a < 9 → ∀ b, b < 9 → a ≠ b → (T_Reducer a).2.1 ≠ (T_Reducer b).2.1 := by decide +kernel
theorem ft_Reducer_ok : ∀ k, k < 9 → parseFieldDescriptor (T_Reducer k).2.2.1 = some (ft_Reducer k) := by decide +kernel
theorem in_Reducer_0 : u_lay "InferReduce$Reducer" T_Reducer 0 ∈ tblG := tb_1 206 rfl rfl
theorem in_Reducer_1 : u_lay "InferReduce$Reducer" T_Reducer 1 ∈ tblG := tb_1 208 rfl rfl
theorem in_Reducer_2 : u_lay "InferReduce$Reducer" T_Reducer 2 ∈ tblG := tb_1 210 rfl rfl
theorem in_Reducer_3 : u_lay "InferReduce$Reducer" T_Reducer 3 ∈ tblG := tb_1 212 rfl rfl
theorem in_Reducer_4 : u_lay "InferReduce$Reducer" T_Reducer 4 ∈ tblG := tb_1 214 rfl rfl
theorem in_Reducer_5 : u_lay "InferReduce$Reducer" T_Reducer 5 ∈ tblG := tb_1 216 rfl rfl
theorem in_Reducer_6 : u_lay "InferReduce$Reducer" T_Reducer 6 ∈ tblG := tb_1 218 rfl rfl
theorem in_Reducer_7 : u_lay "InferReduce$Reducer" T_Reducer 7 ∈ tblG := tb_1 220 rfl rfl
theorem in_Reducer_8 : u_lay "InferReduce$Reducer" T_Reducer 8 ∈ tblG := tb_1 222 rfl rfl
theorem in_Reducer : ∀ x ∈ u_ws "InferReduce$Reducer" T_Reducer 9, x ∈ tblG := by
  intro x hx
  obtain ⟨k, hk, rfl⟩ := List.mem_map.mp hx
  have hk := List.mem_range.mp hk
  match k, hk with
  | 0, _ => exact in_Reducer_0
  | 1, _ => exact in_Reducer_1
  | 2, _ => exact in_Reducer_2
  | 3, _ => exact in_Reducer_3
  | 4, _ => exact in_Reducer_4
  | 5, _ => exact in_Reducer_5
  | 6, _ => exact in_Reducer_6
  | 7, _ => exact in_Reducer_7
  | 8, _ => exact in_Reducer_8
  | k + 9, h => exact absurd h (by omega)
def T_Resolver : u_T := fun k => match k with
  | 0 => ("InferReduce$Resolver", "classes", "LInferReduce$Classes;", true)
  | 1 => ("InferReduce$Resolver", "types", "LInferReduce$Types;", true)
  | 2 => ("InferReduce$Resolver", "bounds", "LInferReduce$Bounds;", true)
  | 3 => ("InferReduce$Resolver", "reducer", "LInferReduce$Reducer;", true)
  | 4 => ("InferReduce$Resolver", "near", "[I", true)
  | 5 => ("InferReduce$Resolver", "nearSize", "I", false)
  | 6 => ("InferReduce$Resolver", "links", "[I", true)
  | _ => ("InferReduce$Resolver", "choices", "[I", true)
def ft_Resolver : Nat → FieldType := fun k => match k with
  | 0 => .object "InferReduce$Classes"
  | 1 => .object "InferReduce$Types"
  | 2 => .object "InferReduce$Bounds"
  | 3 => .object "InferReduce$Reducer"
  | 4 => .array .int
  | 5 => .int
  | 6 => .array .int
  | _ => .array .int
theorem nm_Resolver : ∀ a, a < 8 → ∀ b, b < 8 → a ≠ b → (T_Resolver a).2.1 ≠ (T_Resolver b).2.1 := by decide +kernel
theorem ft_Resolver_ok : ∀ k, k < 8 → parseFieldDescriptor (T_Resolver k).2.2.1 = some (ft_Resolver k) := by decide +kernel
theorem in_Resolver_0 : u_lay "InferReduce$Resolver" T_Resolver 0 ∈ tblG := tb_2 28 rfl rfl
theorem in_Resolver_1 : u_lay "InferReduce$Resolver" T_Resolver 1 ∈ tblG := tb_2 30 rfl rfl
theorem in_Resolver_2 : u_lay "InferReduce$Resolver" T_Resolver 2 ∈ tblG := tb_2 32 rfl rfl
theorem in_Resolver_3 : u_lay "InferReduce$Resolver" T_Resolver 3 ∈ tblG := tb_2 34 rfl rfl
theorem in_Resolver_4 : u_lay "InferReduce$Resolver" T_Resolver 4 ∈ tblG := tb_2 36 rfl rfl
theorem in_Resolver_5 : u_lay "InferReduce$Resolver" T_Resolver 5 ∈ tblG := tb_2 38 rfl rfl
theorem in_Resolver_6 : u_lay "InferReduce$Resolver" T_Resolver 6 ∈ tblG := tb_2 40 rfl rfl
theorem in_Resolver_7 : u_lay "InferReduce$Resolver" T_Resolver 7 ∈ tblG := tb_2 42 rfl rfl
theorem in_Resolver : ∀ x ∈ u_ws "InferReduce$Resolver" T_Resolver 8, x ∈ tblG := by
  intro x hx
  obtain ⟨k, hk, rfl⟩ := List.mem_map.mp hx
  have hk := List.mem_range.mp hk
  match k, hk with
  | 0, _ => exact in_Resolver_0
  | 1, _ => exact in_Resolver_1
  | 2, _ => exact in_Resolver_2
  | 3, _ => exact in_Resolver_3
  | 4, _ => exact in_Resolver_4
  | 5, _ => exact in_Resolver_5
  | 6, _ => exact in_Resolver_6
  | 7, _ => exact in_Resolver_7
  | k + 8, h => exact absurd h (by omega)
def T_Told : u_T := fun k => match k with
  | 0 => ("InferReduce$Told", "sort", "[I", true)
  | 1 => ("InferReduce$Told", "left", "[I", true)
  | 2 => ("InferReduce$Told", "right", "[I", true)
  | 3 => ("InferReduce$Told", "loose", "[Z", true)
  | _ => ("InferReduce$Told", "size", "I", false)
def ft_Told : Nat → FieldType := fun k => match k with
  | 0 => .array .int
  | 1 => .array .int
  | 2 => .array .int
  | 3 => .array .boolean
  | _ => .int
theorem nm_Told : ∀ a, a < 5 → ∀ b, b < 5 → a ≠ b → (T_Told a).2.1 ≠ (T_Told b).2.1 := by decide +kernel
theorem ft_Told_ok : ∀ k, k < 5 → parseFieldDescriptor (T_Told k).2.2.1 = some (ft_Told k) := by decide +kernel
theorem in_Told_0 : u_lay "InferReduce$Told" T_Told 0 ∈ tblG := tb_2 57 rfl rfl
theorem in_Told_1 : u_lay "InferReduce$Told" T_Told 1 ∈ tblG := tb_2 59 rfl rfl
theorem in_Told_2 : u_lay "InferReduce$Told" T_Told 2 ∈ tblG := tb_2 61 rfl rfl
theorem in_Told_3 : u_lay "InferReduce$Told" T_Told 3 ∈ tblG := tb_2 63 rfl rfl
theorem in_Told_4 : u_lay "InferReduce$Told" T_Told 4 ∈ tblG := tb_2 65 rfl rfl
theorem in_Told : ∀ x ∈ u_ws "InferReduce$Told" T_Told 5, x ∈ tblG := by
  intro x hx
  obtain ⟨k, hk, rfl⟩ := List.mem_map.mp hx
  have hk := List.mem_range.mp hk
  match k, hk with
  | 0, _ => exact in_Told_0
  | 1, _ => exact in_Told_1
  | 2, _ => exact in_Told_2
  | 3, _ => exact in_Told_3
  | 4, _ => exact in_Told_4
  | k + 5, h => exact absurd h (by omega)
def T_Types : u_T := fun k => match k with
  | 0 => ("InferReduce$Types", "kind", "[I", true)
  | 1 => ("InferReduce$Types", "first", "[I", true)
  | 2 => ("InferReduce$Types", "second", "[I", true)
  | 3 => ("InferReduce$Types", "third", "[I", true)
  | 4 => ("InferReduce$Types", "depth", "[I", true)
  | 5 => ("InferReduce$Types", "variables", "[I", true)
  | 6 => ("InferReduce$Types", "owners", "[J", true)
  | 7 => ("InferReduce$Types", "named", "[J", true)
  | 8 => ("InferReduce$Types", "chainFirst", "[I", true)
  | 9 => ("InferReduce$Types", "chainNext", "[I", true)
  | _ => ("InferReduce$Types", "size", "I", false)
def ft_Types : Nat → FieldType := fun k => match k with
  | 0 => .array .int
  | 1 => .array .int
  | 2 => .array .int
  | 3 => .array .int
  | 4 => .array .int
  | 5 => .array .int
  | 6 => .array .long
  | 7 => .array .long
  | 8 => .array .int
  | 9 => .array .int
  | _ => .int
theorem nm_Types : ∀ a, a < 11 → ∀ b, b < 11 → a ≠ b → (T_Types a).2.1 ≠ (T_Types b).2.1 := by decide +kernel
theorem ft_Types_ok : ∀ k, k < 11 → parseFieldDescriptor (T_Types k).2.2.1 = some (ft_Types k) := by decide +kernel
theorem in_Types_0 : u_lay "InferReduce$Types" T_Types 0 ∈ tblG := tb_1 73 rfl rfl
theorem in_Types_1 : u_lay "InferReduce$Types" T_Types 1 ∈ tblG := tb_1 75 rfl rfl
theorem in_Types_2 : u_lay "InferReduce$Types" T_Types 2 ∈ tblG := tb_1 77 rfl rfl
theorem in_Types_3 : u_lay "InferReduce$Types" T_Types 3 ∈ tblG := tb_1 79 rfl rfl
theorem in_Types_4 : u_lay "InferReduce$Types" T_Types 4 ∈ tblG := tb_1 81 rfl rfl
theorem in_Types_5 : u_lay "InferReduce$Types" T_Types 5 ∈ tblG := tb_1 83 rfl rfl
theorem in_Types_6 : u_lay "InferReduce$Types" T_Types 6 ∈ tblG := tb_1 85 rfl rfl
theorem in_Types_7 : u_lay "InferReduce$Types" T_Types 7 ∈ tblG := tb_1 87 rfl rfl
theorem in_Types_8 : u_lay "InferReduce$Types" T_Types 8 ∈ tblG := tb_1 89 rfl rfl
theorem in_Types_9 : u_lay "InferReduce$Types" T_Types 9 ∈ tblG := tb_1 91 rfl rfl
theorem in_Types_10 : u_lay "InferReduce$Types" T_Types 10 ∈ tblG := tb_1 93 rfl rfl
theorem in_Types : ∀ x ∈ u_ws "InferReduce$Types" T_Types 11, x ∈ tblG := by
  intro x hx
  obtain ⟨k, hk, rfl⟩ := List.mem_map.mp hx
  have hk := List.mem_range.mp hk
  match k, hk with
  | 0, _ => exact in_Types_0
  | 1, _ => exact in_Types_1
  | 2, _ => exact in_Types_2
  | 3, _ => exact in_Types_3
  | 4, _ => exact in_Types_4
  | 5, _ => exact in_Types_5
  | 6, _ => exact in_Types_6
  | 7, _ => exact in_Types_7
  | 8, _ => exact in_Types_8
  | 9, _ => exact in_Types_9
  | 10, _ => exact in_Types_10
  | k + 11, h => exact absurd h (by omega)
def T_Work : u_T := fun k => match k with
  | 0 => ("InferReduce$Work", "sorts", "[I", true)
  | 1 => ("InferReduce$Work", "lefts", "[I", true)
  | 2 => ("InferReduce$Work", "rights", "[I", true)
  | 3 => ("InferReduce$Work", "levels", "[I", true)
  | 4 => ("InferReduce$Work", "size", "I", false)
  | 5 => ("InferReduce$Work", "sort", "I", false)
  | 6 => ("InferReduce$Work", "left", "I", false)
  | 7 => ("InferReduce$Work", "right", "I", false)
  | _ => ("InferReduce$Work", "level", "I", false)
def ft_Work : Nat → FieldType := fun k => match k with
  | 0 => .array .int
  | 1 => .array .int
  | 2 => .array .int
  | 3 => .array .int
  | 4 => .int
  | 5 => .int
  | 6 => .int
  | 7 => .int
  | _ => .int
theorem nm_Work : ∀ a, a < 9 → ∀ b, b < 9 → a ≠ b → (T_Work a).2.1 ≠ (T_Work b).2.1 := by decide +kernel
theorem ft_Work_ok : ∀ k, k < 9 → parseFieldDescriptor (T_Work k).2.2.1 = some (ft_Work k) := by decide +kernel
theorem in_Work_0 : u_lay "InferReduce$Work" T_Work 0 ∈ tblG := tb_1 175 rfl rfl
theorem in_Work_1 : u_lay "InferReduce$Work" T_Work 1 ∈ tblG := tb_1 177 rfl rfl
theorem in_Work_2 : u_lay "InferReduce$Work" T_Work 2 ∈ tblG := tb_1 179 rfl rfl
theorem in_Work_3 : u_lay "InferReduce$Work" T_Work 3 ∈ tblG := tb_1 181 rfl rfl
theorem in_Work_4 : u_lay "InferReduce$Work" T_Work 4 ∈ tblG := tb_1 183 rfl rfl
theorem in_Work_5 : u_lay "InferReduce$Work" T_Work 5 ∈ tblG := tb_1 185 rfl rfl
theorem in_Work_6 : u_lay "InferReduce$Work" T_Work 6 ∈ tblG := tb_1 187 rfl rfl
theorem in_Work_7 : u_lay "InferReduce$Work" T_Work 7 ∈ tblG := tb_1 189 rfl rfl
theorem in_Work_8 : u_lay "InferReduce$Work" T_Work 8 ∈ tblG := tb_1 191 rfl rfl
theorem in_Work : ∀ x ∈ u_ws "InferReduce$Work" T_Work 9, x ∈ tblG := by
  intro x hx
  obtain ⟨k, hk, rfl⟩ := List.mem_map.mp hx
  have hk := List.mem_range.mp hk
  match k, hk with
  | 0, _ => exact in_Work_0
  | 1, _ => exact in_Work_1
  | 2, _ => exact in_Work_2
  | 3, _ => exact in_Work_3
  | 4, _ => exact in_Work_4
  | 5, _ => exact in_Work_5
  | 6, _ => exact in_Work_6
  | 7, _ => exact in_Work_7
  | 8, _ => exact in_Work_8
  | k + 9, h => exact absurd h (by omega)
def T_I : u_T := fun k => match k with
  | 0 => ("InferReduce", "classes", "LInferReduce$Classes;", true)
  | 1 => ("InferReduce", "types", "LInferReduce$Types;", true)
  | 2 => ("InferReduce", "bounds", "LInferReduce$Bounds;", true)
  | 3 => ("InferReduce", "reducer", "LInferReduce$Reducer;", true)
  | 4 => ("InferReduce", "holder", "LInferReduce$Holder;", true)
  | 5 => ("InferReduce", "resolver", "LInferReduce$Resolver;", true)
  | 6 => ("InferReduce", "told", "LInferReduce$Told;", true)
  | 7 => ("InferReduce", "variableTypes", "[I", true)
  | 8 => ("InferReduce", "variables", "I", false)
  | 9 => ("InferReduce", "state", "I", false)
  | _ => ("InferReduce", "stateAt", "I", false)
def ft_I : Nat → FieldType := fun k => match k with
  | 0 => .object "InferReduce$Classes"
  | 1 => .object "InferReduce$Types"
  | 2 => .object "InferReduce$Bounds"
  | 3 => .object "InferReduce$Reducer"
  | 4 => .object "InferReduce$Holder"
  | 5 => .object "InferReduce$Resolver"
  | 6 => .object "InferReduce$Told"
  | 7 => .array .int
  | 8 => .int
  | 9 => .int
  | _ => .int
theorem nm_I : ∀ a, a < 11 → ∀ b, b < 11 → a ≠ b → (T_I a).2.1 ≠ (T_I b).2.1 := by decide +kernel
theorem ft_I_ok : ∀ k, k < 11 → parseFieldDescriptor (T_I k).2.2.1 = some (ft_I k) := by decide +kernel
theorem in_I_0 : u_lay "InferReduce" T_I 0 ∈ tblG := tb_2 80 rfl rfl
theorem in_I_1 : u_lay "InferReduce" T_I 1 ∈ tblG := tb_2 82 rfl rfl
theorem in_I_2 : u_lay "InferReduce" T_I 2 ∈ tblG := tb_2 84 rfl rfl
theorem in_I_3 : u_lay "InferReduce" T_I 3 ∈ tblG := tb_2 86 rfl rfl
theorem in_I_4 : u_lay "InferReduce" T_I 4 ∈ tblG := tb_2 88 rfl rfl
theorem in_I_5 : u_lay "InferReduce" T_I 5 ∈ tblG := tb_2 90 rfl rfl
theorem in_I_6 : u_lay "InferReduce" T_I 6 ∈ tblG := tb_2 92 rfl rfl
theorem in_I_7 : u_lay "InferReduce" T_I 7 ∈ tblG := tb_2 94 rfl rfl
theorem in_I_8 : u_lay "InferReduce" T_I 8 ∈ tblG := tb_2 96 rfl rfl
theorem in_I_9 : u_lay "InferReduce" T_I 9 ∈ tblG := tb_2 98 rfl rfl
theorem in_I_10 : u_lay "InferReduce" T_I 10 ∈ tblG := tb_2 100 rfl rfl
theorem in_I : ∀ x ∈ u_ws "InferReduce" T_I 11, x ∈ tblG := by
  intro x hx
  obtain ⟨k, hk, rfl⟩ := List.mem_map.mp hx
  have hk := List.mem_range.mp hk
  match k, hk with
  | 0, _ => exact in_I_0
  | 1, _ => exact in_I_1
  | 2, _ => exact in_I_2
  | 3, _ => exact in_I_3
  | 4, _ => exact in_I_4
  | 5, _ => exact in_I_5
  | 6, _ => exact in_I_6
  | 7, _ => exact in_I_7
  | 8, _ => exact in_I_8
  | 9, _ => exact in_I_9
  | 10, _ => exact in_I_10
  | k + 11, h => exact absurd h (by omega)
def T_M : u_T := fun k => match k with
  | 0 => ("InferReduceModel", "parameters", "[I", true)
  | 1 => ("InferReduceModel", "parents", "[I", true)
  | 2 => ("InferReduceModel", "parentMany", "[I", true)
  | 3 => ("InferReduceModel", "upward", "[J", true)
  | 4 => ("InferReduceModel", "classes", "I", false)
  | 5 => ("InferReduceModel", "kind", "[I", true)
  | 6 => ("InferReduceModel", "one", "[I", true)
  | 7 => ("InferReduceModel", "two", "[I", true)
  | 8 => ("InferReduceModel", "three", "[I", true)
  | 9 => ("InferReduceModel", "deep", "[I", true)
  | 10 => ("InferReduceModel", "proper", "[Z", true)
  | 11 => ("InferReduceModel", "types", "I", false)
  | 12 => ("InferReduceModel", "full", "Z", false)
  | 13 => ("InferReduceModel", "todo", "[I", true)
  | 14 => ("InferReduceModel", "todoMore", "[I", true)
  | 15 => ("InferReduceModel", "todoFlag", "[I", true)
  | 16 => ("InferReduceModel", "todos", "I", false)
  | 17 => ("InferReduceModel", "variables", "I", false)
  | 18 => ("InferReduceModel", "workType", "[I", true)
  | 19 => ("InferReduceModel", "workStage", "[I", true)
  | 20 => ("InferReduceModel", "workFirst", "[I", true)
  | 21 => ("InferReduceModel", "inPlace", "[I", true)
  | 22 => ("InferReduceModel", "became", "[I", true)
  | 23 => ("InferReduceModel", "seen", "[I", true)
  | 24 => ("InferReduceModel", "looks", "I", false)
  | 25 => ("InferReduceModel", "aboveType", "[I", true)
  | 26 => ("InferReduceModel", "aboveMore", "[I", true)
  | 27 => ("InferReduceModel", "aboveFlag", "[I", true)
  | 28 => ("InferReduceModel", "aboves", "I", false)
  | 29 => ("InferReduceModel", "lessSort", "[I", true)
  | 30 => ("InferReduceModel", "lessLeft", "[I", true)
  | 31 => ("InferReduceModel", "lessRight", "[I", true)
  | 32 => ("InferReduceModel", "lessDeep", "[I", true)
  | 33 => ("InferReduceModel", "lesses", "I", false)
  | 34 => ("InferReduceModel", "deepNow", "I", false)
  | 35 => ("InferReduceModel", "inCall", "I", false)
  | 36 => ("InferReduceModel", "madeLess", "I", false)
  | 37 => ("InferReduceModel", "judging", "Z", false)
  | 38 => ("InferReduceModel", "metVariable", "Z", false)
  | 39 => ("InferReduceModel", "isUnchecked", "Z", false)
  | 40 => ("InferReduceModel", "origin", "I", false)
  | 41 => ("InferReduceModel", "nextSort", "[I", true)
  | 42 => ("InferReduceModel", "nextLeft", "[I", true)
  | 43 => ("InferReduceModel", "nextRight", "[I", true)
  | 44 => ("InferReduceModel", "nexts", "I", false)
  | 45 => ("InferReduceModel", "boundSort", "[I", true)
  | 46 => ("InferReduceModel", "boundOf", "[I", true)
  | 47 => ("InferReduceModel", "boundType", "[I", true)
  | 48 => ("InferReduceModel", "boundFrom", "[I", true)
  | 49 => ("InferReduceModel", "bounds", "I", false)
  | 50 => ("InferReduceModel", "held", "I", false)
  | 51 => ("InferReduceModel", "toldSort", "[I", true)
  | 52 => ("InferReduceModel", "toldLeft", "[I", true)
  | 53 => ("InferReduceModel", "toldRight", "[I", true)
  | 54 => ("InferReduceModel", "toldUnchecked", "[Z", true)
  | 55 => ("InferReduceModel", "told", "I", false)
  | 56 => ("InferReduceModel", "state", "I", false)
  | 57 => ("InferReduceModel", "stateAt", "I", false)
  | 58 => ("InferReduceModel", "settled", "[Z", true)
  | 59 => ("InferReduceModel", "with", "[Z", true)
  | 60 => ("InferReduceModel", "chosen", "[I", true)
  | 61 => ("InferReduceModel", "some", "[I", true)
  | 62 => ("InferReduceModel", "someMany", "I", false)
  | 63 => ("InferReduceModel", "common", "[Z", true)
  | _ => ("InferReduceModel", "outdone", "[Z", true)
def ft_M : Nat → FieldType := fun k => match k with
  | 0 => .array .int
  | 1 => .array .int
  | 2 => .array .int
  | 3 => .array .long
  | 4 => .int
  | 5 => .array .int
  | 6 => .array .int
  | 7 => .array .int
  | 8 => .array .int
  | 9 => .array .int
  | 10 => .array .boolean
  | 11 => .int
  | 12 => .boolean
  | 13 => .array .int
  | 14 => .array .int
  | 15 => .array .int
  | 16 => .int
  | 17 => .int
  | 18 => .array .int
  | 19 => .array .int
  | 20 => .array .int
  | 21 => .array .int
  | 22 => .array .int
  | 23 => .array .int
  | 24 => .int
  | 25 => .array .int
  | 26 => .array .int
  | 27 => .array .int
  | 28 => .int
  | 29 => .array .int
  | 30 => .array .int
  | 31 => .array .int
  | 32 => .array .int
  | 33 => .int
  | 34 => .int
  | 35 => .int
  | 36 => .int
  | 37 => .boolean
  | 38 => .boolean
  | 39 => .boolean
  | 40 => .int
  | 41 => .array .int
  | 42 => .array .int
  | 43 => .array .int
  | 44 => .int
  | 45 => .array .int
  | 46 => .array .int
  | 47 => .array .int
  | 48 => .array .int
  | 49 => .int
  | 50 => .int
  | 51 => .array .int
  | 52 => .array .int
  | 53 => .array .int
  | 54 => .array .boolean
  | 55 => .int
  | 56 => .int
  | 57 => .int
  | 58 => .array .boolean
  | 59 => .array .boolean
  | 60 => .array .int
  | 61 => .array .int
  | 62 => .int
  | 63 => .array .boolean
  | _ => .array .boolean
theorem nm_M : ∀ a, a < 65 → ∀ b, b < 65 → a ≠ b → (T_M a).2.1 ≠ (T_M b).2.1 := by decide +kernel
theorem ft_M_ok : ∀ k, k < 65 → parseFieldDescriptor (T_M k).2.2.1 = some (ft_M k) := by decide +kernel
theorem in_M_0 : u_lay "InferReduceModel" T_M 0 ∈ tblG := tb_4 140 rfl rfl
theorem in_M_1 : u_lay "InferReduceModel" T_M 1 ∈ tblG := tb_4 142 rfl rfl
theorem in_M_2 : u_lay "InferReduceModel" T_M 2 ∈ tblG := tb_4 144 rfl rfl
theorem in_M_3 : u_lay "InferReduceModel" T_M 3 ∈ tblG := tb_4 146 rfl rfl
theorem in_M_4 : u_lay "InferReduceModel" T_M 4 ∈ tblG := tb_4 148 rfl rfl
theorem in_M_5 : u_lay "InferReduceModel" T_M 5 ∈ tblG := tb_4 150 rfl rfl
theorem in_M_6 : u_lay "InferReduceModel" T_M 6 ∈ tblG := tb_4 152 rfl rfl
theorem in_M_7 : u_lay "InferReduceModel" T_M 7 ∈ tblG := tb_4 154 rfl rfl
theorem in_M_8 : u_lay "InferReduceModel" T_M 8 ∈ tblG := tb_4 156 rfl rfl
theorem in_M_9 : u_lay "InferReduceModel" T_M 9 ∈ tblG := tb_4 158 rfl rfl
theorem in_M_10 : u_lay "InferReduceModel" T_M 10 ∈ tblG := tb_4 160 rfl rfl
theorem in_M_11 : u_lay "InferReduceModel" T_M 11 ∈ tblG := tb_4 162 rfl rfl
theorem in_M_12 : u_lay "InferReduceModel" T_M 12 ∈ tblG := tb_4 164 rfl rfl
theorem in_M_13 : u_lay "InferReduceModel" T_M 13 ∈ tblG := tb_4 166 rfl rfl
theorem in_M_14 : u_lay "InferReduceModel" T_M 14 ∈ tblG := tb_4 168 rfl rfl
theorem in_M_15 : u_lay "InferReduceModel" T_M 15 ∈ tblG := tb_4 170 rfl rfl
theorem in_M_16 : u_lay "InferReduceModel" T_M 16 ∈ tblG := tb_4 172 rfl rfl
theorem in_M_17 : u_lay "InferReduceModel" T_M 17 ∈ tblG := tb_4 174 rfl rfl
theorem in_M_18 : u_lay "InferReduceModel" T_M 18 ∈ tblG := tb_4 176 rfl rfl
theorem in_M_19 : u_lay "InferReduceModel" T_M 19 ∈ tblG := tb_4 178 rfl rfl
theorem in_M_20 : u_lay "InferReduceModel" T_M 20 ∈ tblG := tb_4 180 rfl rfl
theorem in_M_21 : u_lay "InferReduceModel" T_M 21 ∈ tblG := tb_4 182 rfl rfl
theorem in_M_22 : u_lay "InferReduceModel" T_M 22 ∈ tblG := tb_4 184 rfl rfl
theorem in_M_23 : u_lay "InferReduceModel" T_M 23 ∈ tblG := tb_4 186 rfl rfl
theorem in_M_24 : u_lay "InferReduceModel" T_M 24 ∈ tblG := tb_4 188 rfl rfl
theorem in_M_25 : u_lay "InferReduceModel" T_M 25 ∈ tblG := tb_4 190 rfl rfl
theorem in_M_26 : u_lay "InferReduceModel" T_M 26 ∈ tblG := tb_4 192 rfl rfl
theorem in_M_27 : u_lay "InferReduceModel" T_M 27 ∈ tblG := tb_4 194 rfl rfl
theorem in_M_28 : u_lay "InferReduceModel" T_M 28 ∈ tblG := tb_4 196 rfl rfl
theorem in_M_29 : u_lay "InferReduceModel" T_M 29 ∈ tblG := tb_4 198 rfl rfl
theorem in_M_30 : u_lay "InferReduceModel" T_M 30 ∈ tblG := tb_4 200 rfl rfl
theorem in_M_31 : u_lay "InferReduceModel" T_M 31 ∈ tblG := tb_4 202 rfl rfl
theorem in_M_32 : u_lay "InferReduceModel" T_M 32 ∈ tblG := tb_4 204 rfl rfl
theorem in_M_33 : u_lay "InferReduceModel" T_M 33 ∈ tblG := tb_4 206 rfl rfl
theorem in_M_34 : u_lay "InferReduceModel" T_M 34 ∈ tblG := tb_4 208 rfl rfl
theorem in_M_35 : u_lay "InferReduceModel" T_M 35 ∈ tblG := tb_4 210 rfl rfl
theorem in_M_36 : u_lay "InferReduceModel" T_M 36 ∈ tblG := tb_4 212 rfl rfl
theorem in_M_37 : u_lay "InferReduceModel" T_M 37 ∈ tblG := tb_4 214 rfl rfl
theorem in_M_38 : u_lay "InferReduceModel" T_M 38 ∈ tblG := tb_4 216 rfl rfl
theorem in_M_39 : u_lay "InferReduceModel" T_M 39 ∈ tblG := tb_4 218 rfl rfl
theorem in_M_40 : u_lay "InferReduceModel" T_M 40 ∈ tblG := tb_4 220 rfl rfl
theorem in_M_41 : u_lay "InferReduceModel" T_M 41 ∈ tblG := tb_4 222 rfl rfl
theorem in_M_42 : u_lay "InferReduceModel" T_M 42 ∈ tblG := tb_4 224 rfl rfl
theorem in_M_43 : u_lay "InferReduceModel" T_M 43 ∈ tblG := tb_4 226 rfl rfl
theorem in_M_44 : u_lay "InferReduceModel" T_M 44 ∈ tblG := tb_4 228 rfl rfl
theorem in_M_45 : u_lay "InferReduceModel" T_M 45 ∈ tblG := tb_4 230 rfl rfl
theorem in_M_46 : u_lay "InferReduceModel" T_M 46 ∈ tblG := tb_4 232 rfl rfl
theorem in_M_47 : u_lay "InferReduceModel" T_M 47 ∈ tblG := tb_4 234 rfl rfl
theorem in_M_48 : u_lay "InferReduceModel" T_M 48 ∈ tblG := tb_4 236 rfl rfl
theorem in_M_49 : u_lay "InferReduceModel" T_M 49 ∈ tblG := tb_4 238 rfl rfl
theorem in_M_50 : u_lay "InferReduceModel" T_M 50 ∈ tblG := tb_5 0 rfl rfl
theorem in_M_51 : u_lay "InferReduceModel" T_M 51 ∈ tblG := tb_5 2 rfl rfl
theorem in_M_52 : u_lay "InferReduceModel" T_M 52 ∈ tblG := tb_5 4 rfl rfl
theorem in_M_53 : u_lay "InferReduceModel" T_M 53 ∈ tblG := tb_5 6 rfl rfl
theorem in_M_54 : u_lay "InferReduceModel" T_M 54 ∈ tblG := tb_5 8 rfl rfl
theorem in_M_55 : u_lay "InferReduceModel" T_M 55 ∈ tblG := tb_5 10 rfl rfl
theorem in_M_56 : u_lay "InferReduceModel" T_M 56 ∈ tblG := tb_5 12 rfl rfl
theorem in_M_57 : u_lay "InferReduceModel" T_M 57 ∈ tblG := tb_5 14 rfl rfl
theorem in_M_58 : u_lay "InferReduceModel" T_M 58 ∈ tblG := tb_5 16 rfl rfl
theorem in_M_59 : u_lay "InferReduceModel" T_M 59 ∈ tblG := tb_5 18 rfl rfl
theorem in_M_60 : u_lay "InferReduceModel" T_M 60 ∈ tblG := tb_5 20 rfl rfl
theorem in_M_61 : u_lay "InferReduceModel" T_M 61 ∈ tblG := tb_5 22 rfl rfl
theorem in_M_62 : u_lay "InferReduceModel" T_M 62 ∈ tblG := tb_5 24 rfl rfl
theorem in_M_63 : u_lay "InferReduceModel" T_M 63 ∈ tblG := tb_5 26 rfl rfl
theorem in_M_64 : u_lay "InferReduceModel" T_M 64 ∈ tblG := tb_5 28 rfl rfl
theorem in_M : ∀ x ∈ u_ws "InferReduceModel" T_M 65, x ∈ tblG := by
  intro x hx
  obtain ⟨k, hk, rfl⟩ := List.mem_map.mp hx
  have hk := List.mem_range.mp hk
  match k, hk with
  | 0, _ => exact in_M_0
  | 1, _ => exact in_M_1
  | 2, _ => exact in_M_2
  | 3, _ => exact in_M_3
  | 4, _ => exact in_M_4
  | 5, _ => exact in_M_5
  | 6, _ => exact in_M_6
  | 7, _ => exact in_M_7
  | 8, _ => exact in_M_8
  | 9, _ => exact in_M_9
  | 10, _ => exact in_M_10
  | 11, _ => exact in_M_11
  | 12, _ => exact in_M_12
  | 13, _ => exact in_M_13
  | 14, _ => exact in_M_14
  | 15, _ => exact in_M_15
  | 16, _ => exact in_M_16
  | 17, _ => exact in_M_17
  | 18, _ => exact in_M_18
  | 19, _ => exact in_M_19
  | 20, _ => exact in_M_20
  | 21, _ => exact in_M_21
  | 22, _ => exact in_M_22
  | 23, _ => exact in_M_23
  | 24, _ => exact in_M_24
  | 25, _ => exact in_M_25
  | 26, _ => exact in_M_26
  | 27, _ => exact in_M_27
  | 28, _ => exact in_M_28
  | 29, _ => exact in_M_29
  | 30, _ => exact in_M_30
  | 31, _ => exact in_M_31
  | 32, _ => exact in_M_32
  | 33, _ => exact in_M_33
  | 34, _ => exact in_M_34
  | 35, _ => exact in_M_35
  | 36, _ => exact in_M_36
  | 37, _ => exact in_M_37
  | 38, _ => exact in_M_38
  | 39, _ => exact in_M_39
  | 40, _ => exact in_M_40
  | 41, _ => exact in_M_41
  | 42, _ => exact in_M_42
  | 43, _ => exact in_M_43
  | 44, _ => exact in_M_44
  | 45, _ => exact in_M_45
  | 46, _ => exact in_M_46
  | 47, _ => exact in_M_47
  | 48, _ => exact in_M_48
  | 49, _ => exact in_M_49
  | 50, _ => exact in_M_50
  | 51, _ => exact in_M_51
  | 52, _ => exact in_M_52
  | 53, _ => exact in_M_53
  | 54, _ => exact in_M_54
  | 55, _ => exact in_M_55
  | 56, _ => exact in_M_56
  | 57, _ => exact in_M_57
  | 58, _ => exact in_M_58
  | 59, _ => exact in_M_59
  | 60, _ => exact in_M_60
  | 61, _ => exact in_M_61
  | 62, _ => exact in_M_62
  | 63, _ => exact in_M_63
  | 64, _ => exact in_M_64
  | k + 65, h => exact absurd h (by omega)
abbrev clA : List vw_C := [("InferReduce$Bounds", T_Bounds, 5), ("InferReduce$Classes", T_Classes, 6), ("InferReduce$Exchange", T_Exchange, 7), ("InferReduce$Holder", T_Holder, 7), ("InferReduce$Reducer", T_Reducer, 9), ("InferReduce$Resolver", T_Resolver, 8), ("InferReduce$Told", T_Told, 5), ("InferReduce$Types", T_Types, 11), ("InferReduce$Work", T_Work, 9), ("InferReduce", T_I, 11), ("InferReduceModel", T_M, 65)]
abbrev b_Bounds_init : ByteArray := prog_2_method_1_code
abbrev y_Bounds_init : MethodName := ⟨"InferReduce$Bounds", "<init>", "()V"⟩
theorem dd_Bounds_init : y_Bounds_init.cls = "InferReduce$Bounds" ∧ y_Bounds_init.cls ≠ "java/lang/invoke/MethodHandle" ∧ y_Bounds_init.cls ≠ "java/lang/invoke/VarHandle" ∧ (parseMethodDescriptor y_Bounds_init.desc).map (fun d => d.parameters.length) = some 0 := ⟨rfl, by decide, by decide, by decide +kernel⟩
abbrev b_Bounds_has : ByteArray := prog_2_method_2_code
abbrev y_Bounds_has : MethodName := ⟨"InferReduce$Bounds", "has", "(I)Z"⟩
theorem dd_Bounds_has : y_Bounds_has.cls = "InferReduce$Bounds" ∧ y_Bounds_has.cls ≠ "java/lang/invoke/MethodHandle" ∧ y_Bounds_has.cls ≠ "java/lang/invoke/VarHandle" ∧ (parseMethodDescriptor y_Bounds_has.desc).map (fun d => d.parameters.length) = some 1 := ⟨rfl, by decide, by decide, by decide +kernel⟩
abbrev b_Bounds_sortOf : ByteArray := prog_2_method_3_code
abbrev y_Bounds_sortOf : MethodName := ⟨"InferReduce$Bounds", "sortOf", "(I)I"⟩
theorem dd_Bounds_sortOf : y_Bounds_sortOf.cls = "InferReduce$Bounds" ∧ y_Bounds_sortOf.cls ≠ "java/lang/invoke/MethodHandle" ∧ y_Bounds_sortOf.cls ≠ "java/lang/invoke/VarHandle" ∧ (parseMethodDescriptor y_Bounds_sortOf.desc).map (fun d => d.parameters.length) = some 1 := ⟨rfl, by decide, by decide, by decide +kernel⟩
abbrev b_Bounds_variableOf : ByteArray := prog_2_method_4_code
abbrev y_Bounds_variableOf : MethodName := ⟨"InferReduce$Bounds", "variableOf", "(I)I"⟩
theorem dd_Bounds_variableOf : y_Bounds_variableOf.cls = "InferReduce$Bounds" ∧ y_Bounds_variableOf.cls ≠ "java/lang/invoke/MethodHandle" ∧ y_Bounds_variableOf.cls ≠ "java/lang/invoke/VarHandle" ∧ (parseMethodDescriptor y_Bounds_variableOf.desc).map (fun d => d.parameters.length) = some 1 := ⟨rfl, by decide, by decide, by decide +kernel⟩
abbrev b_Bounds_typeOf : ByteArray := prog_2_method_5_code
abbrev y_Bounds_typeOf : MethodName := ⟨"InferReduce$Bounds", "typeOf", "(I)I"⟩
theorem dd_Bounds_typeOf : y_Bounds_typeOf.cls = "InferReduce$Bounds" ∧ y_Bounds_typeOf.cls ≠ "java/lang/invoke/MethodHandle" ∧ y_Bounds_typeOf.cls ≠ "java/lang/invoke/VarHandle" ∧ (parseMethodDescriptor y_Bounds_typeOf.desc).map (fun d => d.parameters.length) = some 1 := ⟨rfl, by decide, by decide, by decide +kernel⟩
abbrev b_Bounds_originOf : ByteArray := prog_2_method_6_code
abbrev y_Bounds_originOf : MethodName := ⟨"InferReduce$Bounds", "originOf", "(I)I"⟩
theorem dd_Bounds_originOf : y_Bounds_originOf.cls = "InferReduce$Bounds" ∧ y_Bounds_originOf.cls ≠ "java/lang/invoke/MethodHandle" ∧ y_Bounds_originOf.cls ≠ "java/lang/invoke/VarHandle" ∧ (parseMethodDescriptor y_Bounds_originOf.desc).map (fun d => d.parameters.length) = some 1 := ⟨rfl, by decide, by decide, by decide +kernel⟩
abbrev b_Bounds_add : ByteArray := prog_2_method_7_code
abbrev y_Bounds_add : MethodName := ⟨"InferReduce$Bounds", "add", "(IIII)I"⟩
theorem dd_Bounds_add : y_Bounds_add.cls = "InferReduce$Bounds" ∧ y_Bounds_add.cls ≠ "java/lang/invoke/MethodHandle" ∧ y_Bounds_add.cls ≠ "java/lang/invoke/VarHandle" ∧ (parseMethodDescriptor y_Bounds_add.desc).map (fun d => d.parameters.length) = some 4 := ⟨rfl, by decide, by decide, by decide +kernel⟩
abbrev b_Bounds_settledAs : ByteArray := prog_2_method_8_code
abbrev y_Bounds_settledAs : MethodName := ⟨"InferReduce$Bounds", "settledAs", "(ILInferReduce$Types;)I"⟩
theorem dd_Bounds_settledAs : y_Bounds_settledAs.cls = "InferReduce$Bounds" ∧ y_Bounds_settledAs.cls ≠ "java/lang/invoke/MethodHandle" ∧ y_Bounds_settledAs.cls ≠ "java/lang/invoke/VarHandle" ∧ (parseMethodDescriptor y_Bounds_settledAs.desc).map (fun d => d.parameters.length) = some 2 := ⟨rfl, by decide, by decide, by decide +kernel⟩
abbrev b_Classes_init : ByteArray := prog_3_method_1_code
abbrev y_Classes_init : MethodName := ⟨"InferReduce$Classes", "<init>", "()V"⟩
theorem dd_Classes_init : y_Classes_init.cls = "InferReduce$Classes" ∧ y_Classes_init.cls ≠ "java/lang/invoke/MethodHandle" ∧ y_Classes_init.cls ≠ "java/lang/invoke/VarHandle" ∧ (parseMethodDescriptor y_Classes_init.desc).map (fun d => d.parameters.length) = some 0 := ⟨rfl, by decide, by decide, by decide +kernel⟩
abbrev b_Classes_has : ByteArray := prog_3_method_2_code
abbrev y_Classes_has : MethodName := ⟨"InferReduce$Classes", "has", "(I)Z"⟩
theorem dd_Classes_has : y_Classes_has.cls = "InferReduce$Classes" ∧ y_Classes_has.cls ≠ "java/lang/invoke/MethodHandle" ∧ y_Classes_has.cls ≠ "java/lang/invoke/VarHandle" ∧ (parseMethodDescriptor y_Classes_has.desc).map (fun d => d.parameters.length) = some 1 := ⟨rfl, by decide, by decide, by decide +kernel⟩
abbrev b_Classes_add : ByteArray := prog_3_method_3_code
abbrev y_Classes_add : MethodName := ⟨"InferReduce$Classes", "add", "(I)I"⟩
theorem dd_Classes_add : y_Classes_add.cls = "InferReduce$Classes" ∧ y_Classes_add.cls ≠ "java/lang/invoke/MethodHandle" ∧ y_Classes_add.cls ≠ "java/lang/invoke/VarHandle" ∧ (parseMethodDescriptor y_Classes_add.desc).map (fun d => d.parameters.length) = some 1 := ⟨rfl, by decide, by decide, by decide +kernel⟩
abbrev b_Classes_parametersOf : ByteArray := prog_3_method_4_code
abbrev y_Classes_parametersOf : MethodName := ⟨"InferReduce$Classes", "parametersOf", "(I)I"⟩
theorem dd_Classes_parametersOf : y_Classes_parametersOf.cls = "InferReduce$Classes" ∧ y_Classes_parametersOf.cls ≠ "java/lang/invoke/MethodHandle" ∧ y_Classes_parametersOf.cls ≠ "java/lang/invoke/VarHandle" ∧ (parseMethodDescriptor y_Classes_parametersOf.desc).map (fun d => d.parameters.length) = some 1 := ⟨rfl, by decide, by decide, by decide +kernel⟩
abbrev b_Classes_addParent : ByteArray := prog_3_method_5_code
abbrev y_Classes_addParent : MethodName := ⟨"InferReduce$Classes", "addParent", "(III)I"⟩
theorem dd_Classes_addParent : y_Classes_addParent.cls = "InferReduce$Classes" ∧ y_Classes_addParent.cls ≠ "java/lang/invoke/MethodHandle" ∧ y_Classes_addParent.cls ≠ "java/lang/invoke/VarHandle" ∧ (parseMethodDescriptor y_Classes_addParent.desc).map (fun d => d.parameters.length) = some 3 := ⟨rfl, by decide, by decide, by decide +kernel⟩
abbrev b_Classes_renewReach : ByteArray := prog_3_method_6_code
abbrev y_Classes_renewReach : MethodName := ⟨"InferReduce$Classes", "renewReach", "()V"⟩
theorem dd_Classes_renewReach : y_Classes_renewReach.cls = "InferReduce$Classes" ∧ y_Classes_renewReach.cls ≠ "java/lang/invoke/MethodHandle" ∧ y_Classes_renewReach.cls ≠ "java/lang/invoke/VarHandle" ∧ (parseMethodDescriptor y_Classes_renewReach.desc).map (fun d => d.parameters.length) = some 0 := ⟨rfl, by decide, by decide, by decide +kernel⟩
abbrev b_Classes_reaches : ByteArray := prog_3_method_7_code
abbrev y_Classes_reaches : MethodName := ⟨"InferReduce$Classes", "reaches", "(II)Z"⟩
theorem dd_Classes_reaches : y_Classes_reaches.cls = "InferReduce$Classes" ∧ y_Classes_reaches.cls ≠ "java/lang/invoke/MethodHandle" ∧ y_Classes_reaches.cls ≠ "java/lang/invoke/VarHandle" ∧ (parseMethodDescriptor y_Classes_reaches.desc).map (fun d => d.parameters.length) = some 2 := ⟨rfl, by decide, by decide, by decide +kernel⟩
abbrev b_Classes_parentTowards : ByteArray := prog_3_method_8_code
abbrev y_Classes_parentTowards : MethodName := ⟨"InferReduce$Classes", "parentTowards", "(II)I"⟩
theorem dd_Classes_parentTowards : y_Classes_parentTowards.cls = "InferReduce$Classes" ∧ y_Classes_parentTowards.cls ≠ "java/lang/invoke/MethodHandle" ∧ y_Classes_parentTowards.cls ≠ "java/lang/invoke/VarHandle" ∧ (parseMethodDescriptor y_Classes_parentTowards.desc).map (fun d => d.parameters.length) = some 2 := ⟨rfl, by decide, by decide, by decide +kernel⟩
abbrev b_Exchange_init : ByteArray := prog_4_method_1_code
abbrev y_Exchange_init : MethodName := ⟨"InferReduce$Exchange", "<init>", "(LInferReduce$Types;)V"⟩
theorem dd_Exchange_init : y_Exchange_init.cls = "InferReduce$Exchange" ∧ y_Exchange_init.cls ≠ "java/lang/invoke/MethodHandle" ∧ y_Exchange_init.cls ≠ "java/lang/invoke/VarHandle" ∧ (parseMethodDescriptor y_Exchange_init.desc).map (fun d => d.parameters.length) = some 1 := ⟨rfl, by decide, by decide, by decide +kernel⟩
abbrev b_Exchange_forVariables : ByteArray := prog_4_method_2_code
abbrev y_Exchange_forVariables : MethodName := ⟨"InferReduce$Exchange", "forVariables", "()V"⟩
theorem dd_Exchange_forVariables : y_Exchange_forVariables.cls = "InferReduce$Exchange" ∧ y_Exchange_forVariables.cls ≠ "java/lang/invoke/MethodHandle" ∧ y_Exchange_forVariables.cls ≠ "java/lang/invoke/VarHandle" ∧ (parseMethodDescriptor y_Exchange_forVariables.desc).map (fun d => d.parameters.length) = some 0 := ⟨rfl, by decide, by decide, by decide +kernel⟩
abbrev b_Exchange_setInstead : ByteArray := prog_4_method_3_code
abbrev y_Exchange_setInstead : MethodName := ⟨"InferReduce$Exchange", "setInstead", "(II)V"⟩
theorem dd_Exchange_setInstead : y_Exchange_setInstead.cls = "InferReduce$Exchange" ∧ y_Exchange_setInstead.cls ≠ "java/lang/invoke/MethodHandle" ∧ y_Exchange_setInstead.cls ≠ "java/lang/invoke/VarHandle" ∧ (parseMethodDescriptor y_Exchange_setInstead.desc).map (fun d => d.parameters.length) = some 2 := ⟨rfl, by decide, by decide, by decide +kernel⟩
abbrev b_Exchange_forArguments : ByteArray := prog_4_method_4_code
abbrev y_Exchange_forArguments : MethodName := ⟨"InferReduce$Exchange", "forArguments", "(I)V"⟩
theorem dd_Exchange_forArguments : y_Exchange_forArguments.cls = "InferReduce$Exchange" ∧ y_Exchange_forArguments.cls ≠ "java/lang/invoke/MethodHandle" ∧ y_Exchange_forArguments.cls ≠ "java/lang/invoke/VarHandle" ∧ (parseMethodDescriptor y_Exchange_forArguments.desc).map (fun d => d.parameters.length) = some 1 := ⟨rfl, by decide, by decide, by decide +kernel⟩
abbrev b_Exchange_put : ByteArray := prog_4_method_5_code
abbrev y_Exchange_put : MethodName := ⟨"InferReduce$Exchange", "put", "(I)I"⟩
theorem dd_Exchange_put : y_Exchange_put.cls = "InferReduce$Exchange" ∧ y_Exchange_put.cls ≠ "java/lang/invoke/MethodHandle" ∧ y_Exchange_put.cls ≠ "java/lang/invoke/VarHandle" ∧ (parseMethodDescriptor y_Exchange_put.desc).map (fun d => d.parameters.length) = some 1 := ⟨rfl, by decide, by decide, by decide +kernel⟩
abbrev b_Holder_init : ByteArray := prog_5_method_1_code
abbrev y_Holder_init : MethodName := ⟨"InferReduce$Holder", "<init>", "(LInferReduce$Classes;LInferReduce$Types;LInferReduce$Bounds;LInferReduce$Exchange;LInferReduce$Reducer;[I)V"⟩
theorem dd_Holder_init : y_Holder_init.cls = "InferReduce$Holder" ∧ y_Holder_init.cls ≠ "java/lang/invoke/MethodHandle" ∧ y_Holder_init.cls ≠ "java/lang/invoke/VarHandle" ∧ (parseMethodDescriptor y_Holder_init.desc).map (fun d => d.parameters.length) = some 6 := ⟨rfl, by decide, by decide, by decide +kernel⟩
abbrev b_Holder_holdAll : ByteArray := prog_5_method_2_code
abbrev y_Holder_holdAll : MethodName := ⟨"InferReduce$Holder", "holdAll", "()I"⟩
theorem dd_Holder_holdAll : y_Holder_holdAll.cls = "InferReduce$Holder" ∧ y_Holder_holdAll.cls ≠ "java/lang/invoke/MethodHandle" ∧ y_Holder_holdAll.cls ≠ "java/lang/invoke/VarHandle" ∧ (parseMethodDescriptor y_Holder_holdAll.desc).map (fun d => d.parameters.length) = some 0 := ⟨rfl, by decide, by decide, by decide +kernel⟩
abbrev b_Holder_comes : ByteArray := prog_5_method_3_code
abbrev y_Holder_comes : MethodName := ⟨"InferReduce$Holder", "comes", "(II)I"⟩
theorem dd_Holder_comes : y_Holder_comes.cls = "InferReduce$Holder" ∧ y_Holder_comes.cls ≠ "java/lang/invoke/MethodHandle" ∧ y_Holder_comes.cls ≠ "java/lang/invoke/VarHandle" ∧ (parseMethodDescriptor y_Holder_comes.desc).map (fun d => d.parameters.length) = some 2 := ⟨rfl, by decide, by decide, by decide +kernel⟩
abbrev b_Holder_putsInto : ByteArray := prog_5_method_4_code
abbrev y_Holder_putsInto : MethodName := ⟨"InferReduce$Holder", "putsInto", "(II)I"⟩
theorem dd_Holder_putsInto : y_Holder_putsInto.cls = "InferReduce$Holder" ∧ y_Holder_putsInto.cls ≠ "java/lang/invoke/MethodHandle" ∧ y_Holder_putsInto.cls ≠ "java/lang/invoke/VarHandle" ∧ (parseMethodDescriptor y_Holder_putsInto.desc).map (fun d => d.parameters.length) = some 2 := ⟨rfl, by decide, by decide, by decide +kernel⟩
abbrev b_Holder_shareArguments : ByteArray := prog_5_method_5_code
abbrev y_Holder_shareArguments : MethodName := ⟨"InferReduce$Holder", "shareArguments", "(II)I"⟩
theorem dd_Holder_shareArguments : y_Holder_shareArguments.cls = "InferReduce$Holder" ∧ y_Holder_shareArguments.cls ≠ "java/lang/invoke/MethodHandle" ∧ y_Holder_shareArguments.cls ≠ "java/lang/invoke/VarHandle" ∧ (parseMethodDescriptor y_Holder_shareArguments.desc).map (fun d => d.parameters.length) = some 2 := ⟨rfl, by decide, by decide, by decide +kernel⟩
abbrev b_Reducer_init : ByteArray := prog_6_method_1_code
abbrev y_Reducer_init : MethodName := ⟨"InferReduce$Reducer", "<init>", "(LInferReduce$Classes;LInferReduce$Types;LInferReduce$Bounds;LInferReduce$Exchange;)V"⟩
theorem dd_Reducer_init : y_Reducer_init.cls = "InferReduce$Reducer" ∧ y_Reducer_init.cls ≠ "java/lang/invoke/MethodHandle" ∧ y_Reducer_init.cls ≠ "java/lang/invoke/VarHandle" ∧ (parseMethodDescriptor y_Reducer_init.desc).map (fun d => d.parameters.length) = some 4 := ⟨rfl, by decide, by decide, by decide +kernel⟩
abbrev b_Reducer_begin : ByteArray := prog_6_method_2_code
abbrev y_Reducer_begin : MethodName := ⟨"InferReduce$Reducer", "begin", "(I)V"⟩
theorem dd_Reducer_begin : y_Reducer_begin.cls = "InferReduce$Reducer" ∧ y_Reducer_begin.cls ≠ "java/lang/invoke/MethodHandle" ∧ y_Reducer_begin.cls ≠ "java/lang/invoke/VarHandle" ∧ (parseMethodDescriptor y_Reducer_begin.desc).map (fun d => d.parameters.length) = some 1 := ⟨rfl, by decide, by decide, by decide +kernel⟩
abbrev b_Reducer_ask : ByteArray := prog_6_method_3_code
abbrev y_Reducer_ask : MethodName := ⟨"InferReduce$Reducer", "ask", "(III)I"⟩
theorem dd_Reducer_ask : y_Reducer_ask.cls = "InferReduce$Reducer" ∧ y_Reducer_ask.cls ≠ "java/lang/invoke/MethodHandle" ∧ y_Reducer_ask.cls ≠ "java/lang/invoke/VarHandle" ∧ (parseMethodDescriptor y_Reducer_ask.desc).map (fun d => d.parameters.length) = some 3 := ⟨rfl, by decide, by decide, by decide +kernel⟩
abbrev b_Reducer_less : ByteArray := prog_6_method_4_code
abbrev y_Reducer_less : MethodName := ⟨"InferReduce$Reducer", "less", "()I"⟩
theorem dd_Reducer_less : y_Reducer_less.cls = "InferReduce$Reducer" ∧ y_Reducer_less.cls ≠ "java/lang/invoke/MethodHandle" ∧ y_Reducer_less.cls ≠ "java/lang/invoke/VarHandle" ∧ (parseMethodDescriptor y_Reducer_less.desc).map (fun d => d.parameters.length) = some 0 := ⟨rfl, by decide, by decide, by decide +kernel⟩
abbrev b_Reducer_within : ByteArray := prog_6_method_5_code
abbrev y_Reducer_within : MethodName := ⟨"InferReduce$Reducer", "within", "(III)I"⟩
theorem dd_Reducer_within : y_Reducer_within.cls = "InferReduce$Reducer" ∧ y_Reducer_within.cls ≠ "java/lang/invoke/MethodHandle" ∧ y_Reducer_within.cls ≠ "java/lang/invoke/VarHandle" ∧ (parseMethodDescriptor y_Reducer_within.desc).map (fun d => d.parameters.length) = some 3 := ⟨rfl, by decide, by decide, by decide +kernel⟩
abbrev b_Reducer_withinArguments : ByteArray := prog_6_method_6_code
abbrev y_Reducer_withinArguments : MethodName := ⟨"InferReduce$Reducer", "withinArguments", "(III)I"⟩
theorem dd_Reducer_withinArguments : y_Reducer_withinArguments.cls = "InferReduce$Reducer" ∧ y_Reducer_withinArguments.cls ≠ "java/lang/invoke/MethodHandle" ∧ y_Reducer_withinArguments.cls ≠ "java/lang/invoke/VarHandle" ∧ (parseMethodDescriptor y_Reducer_withinArguments.desc).map (fun d => d.parameters.length) = some 3 := ⟨rfl, by decide, by decide, by decide +kernel⟩
abbrev b_Reducer_lessCompatible : ByteArray := prog_6_method_7_code
abbrev y_Reducer_lessCompatible : MethodName := ⟨"InferReduce$Reducer", "lessCompatible", "(II)I"⟩
theorem dd_Reducer_lessCompatible : y_Reducer_lessCompatible.cls = "InferReduce$Reducer" ∧ y_Reducer_lessCompatible.cls ≠ "java/lang/invoke/MethodHandle" ∧ y_Reducer_lessCompatible.cls ≠ "java/lang/invoke/VarHandle" ∧ (parseMethodDescriptor y_Reducer_lessCompatible.desc).map (fun d => d.parameters.length) = some 2 := ⟨rfl, by decide, by decide, by decide +kernel⟩
abbrev b_Reducer_lessSub : ByteArray := prog_6_method_8_code
abbrev y_Reducer_lessSub : MethodName := ⟨"InferReduce$Reducer", "lessSub", "(II)I"⟩
theorem dd_Reducer_lessSub : y_Reducer_lessSub.cls = "InferReduce$Reducer" ∧ y_Reducer_lessSub.cls ≠ "java/lang/invoke/MethodHandle" ∧ y_Reducer_lessSub.cls ≠ "java/lang/invoke/VarHandle" ∧ (parseMethodDescriptor y_Reducer_lessSub.desc).map (fun d => d.parameters.length) = some 2 := ⟨rfl, by decide, by decide, by decide +kernel⟩
abbrev b_Reducer_lessContained : ByteArray := prog_6_method_9_code
abbrev y_Reducer_lessContained : MethodName := ⟨"InferReduce$Reducer", "lessContained", "(II)I"⟩
theorem dd_Reducer_lessContained : y_Reducer_lessContained.cls = "InferReduce$Reducer" ∧ y_Reducer_lessContained.cls ≠ "java/lang/invoke/MethodHandle" ∧ y_Reducer_lessContained.cls ≠ "java/lang/invoke/VarHandle" ∧ (parseMethodDescriptor y_Reducer_lessContained.desc).map (fun d => d.parameters.length) = some 2 := ⟨rfl, by decide, by decide, by decide +kernel⟩
abbrev b_Reducer_lessEqual : ByteArray := prog_6_method_10_code
abbrev y_Reducer_lessEqual : MethodName := ⟨"InferReduce$Reducer", "lessEqual", "(II)I"⟩
theorem dd_Reducer_lessEqual : y_Reducer_lessEqual.cls = "InferReduce$Reducer" ∧ y_Reducer_lessEqual.cls ≠ "java/lang/invoke/MethodHandle" ∧ y_Reducer_lessEqual.cls ≠ "java/lang/invoke/VarHandle" ∧ (parseMethodDescriptor y_Reducer_lessEqual.desc).map (fun d => d.parameters.length) = some 2 := ⟨rfl, by decide, by decide, by decide +kernel⟩
abbrev b_Reducer_bind : ByteArray := prog_6_method_11_code
abbrev y_Reducer_bind : MethodName := ⟨"InferReduce$Reducer", "bind", "(IIII)I"⟩
theorem dd_Reducer_bind : y_Reducer_bind.cls = "InferReduce$Reducer" ∧ y_Reducer_bind.cls ≠ "java/lang/invoke/MethodHandle" ∧ y_Reducer_bind.cls ≠ "java/lang/invoke/VarHandle" ∧ (parseMethodDescriptor y_Reducer_bind.desc).map (fun d => d.parameters.length) = some 4 := ⟨rfl, by decide, by decide, by decide +kernel⟩
abbrev b_Reducer_truth : ByteArray := prog_6_method_12_code
abbrev y_Reducer_truth : MethodName := ⟨"InferReduce$Reducer", "truth", "(Z)I"⟩
theorem dd_Reducer_truth : y_Reducer_truth.cls ≠ "java/lang/invoke/MethodHandle" ∧ y_Reducer_truth.cls ≠ "java/lang/invoke/VarHandle" ∧ (parseMethodDescriptor y_Reducer_truth.desc).map (fun d => d.parameters.length) = some 1 := ⟨by decide, by decide, by decide +kernel⟩
abbrev b_Reducer_boxOf : ByteArray := prog_6_method_13_code
abbrev y_Reducer_boxOf : MethodName := ⟨"InferReduce$Reducer", "boxOf", "(I)I"⟩
theorem dd_Reducer_boxOf : y_Reducer_boxOf.cls = "InferReduce$Reducer" ∧ y_Reducer_boxOf.cls ≠ "java/lang/invoke/MethodHandle" ∧ y_Reducer_boxOf.cls ≠ "java/lang/invoke/VarHandle" ∧ (parseMethodDescriptor y_Reducer_boxOf.desc).map (fun d => d.parameters.length) = some 1 := ⟨rfl, by decide, by decide, by decide +kernel⟩
abbrev b_Reducer_widens : ByteArray := prog_6_method_14_code
abbrev y_Reducer_widens : MethodName := ⟨"InferReduce$Reducer", "widens", "(II)Z"⟩
theorem dd_Reducer_widens : y_Reducer_widens.cls ≠ "java/lang/invoke/MethodHandle" ∧ y_Reducer_widens.cls ≠ "java/lang/invoke/VarHandle" ∧ (parseMethodDescriptor y_Reducer_widens.desc).map (fun d => d.parameters.length) = some 2 := ⟨by decide, by decide, by decide +kernel⟩
abbrev b_Reducer_unboxes : ByteArray := prog_6_method_15_code
abbrev y_Reducer_unboxes : MethodName := ⟨"InferReduce$Reducer", "unboxes", "(II)Z"⟩
theorem dd_Reducer_unboxes : y_Reducer_unboxes.cls = "InferReduce$Reducer" ∧ y_Reducer_unboxes.cls ≠ "java/lang/invoke/MethodHandle" ∧ y_Reducer_unboxes.cls ≠ "java/lang/invoke/VarHandle" ∧ (parseMethodDescriptor y_Reducer_unboxes.desc).map (fun d => d.parameters.length) = some 2 := ⟨rfl, by decide, by decide, by decide +kernel⟩
abbrev b_Reducer_aboveOf : ByteArray := prog_6_method_16_code
abbrev y_Reducer_aboveOf : MethodName := ⟨"InferReduce$Reducer", "aboveOf", "(II)I"⟩
theorem dd_Reducer_aboveOf : y_Reducer_aboveOf.cls = "InferReduce$Reducer" ∧ y_Reducer_aboveOf.cls ≠ "java/lang/invoke/MethodHandle" ∧ y_Reducer_aboveOf.cls ≠ "java/lang/invoke/VarHandle" ∧ (parseMethodDescriptor y_Reducer_aboveOf.desc).map (fun d => d.parameters.length) = some 2 := ⟨rfl, by decide, by decide, by decide +kernel⟩
abbrev b_Resolver_init : ByteArray := prog_7_method_1_code
abbrev y_Resolver_init : MethodName := ⟨"InferReduce$Resolver", "<init>", "(LInferReduce$Classes;LInferReduce$Types;LInferReduce$Bounds;LInferReduce$Reducer;)V"⟩
theorem dd_Resolver_init : y_Resolver_init.cls = "InferReduce$Resolver" ∧ y_Resolver_init.cls ≠ "java/lang/invoke/MethodHandle" ∧ y_Resolver_init.cls ≠ "java/lang/invoke/VarHandle" ∧ (parseMethodDescriptor y_Resolver_init.desc).map (fun d => d.parameters.length) = some 4 := ⟨rfl, by decide, by decide, by decide +kernel⟩
abbrev b_Resolver_choiceOf : ByteArray := prog_7_method_2_code
abbrev y_Resolver_choiceOf : MethodName := ⟨"InferReduce$Resolver", "choiceOf", "(I)I"⟩
theorem dd_Resolver_choiceOf : y_Resolver_choiceOf.cls = "InferReduce$Resolver" ∧ y_Resolver_choiceOf.cls ≠ "java/lang/invoke/MethodHandle" ∧ y_Resolver_choiceOf.cls ≠ "java/lang/invoke/VarHandle" ∧ (parseMethodDescriptor y_Resolver_choiceOf.desc).map (fun d => d.parameters.length) = some 1 := ⟨rfl, by decide, by decide, by decide +kernel⟩
abbrev b_Resolver_nextGroup : ByteArray := prog_7_method_3_code
abbrev y_Resolver_nextGroup : MethodName := ⟨"InferReduce$Resolver", "nextGroup", "(I)I"⟩
theorem dd_Resolver_nextGroup : y_Resolver_nextGroup.cls = "InferReduce$Resolver" ∧ y_Resolver_nextGroup.cls ≠ "java/lang/invoke/MethodHandle" ∧ y_Resolver_nextGroup.cls ≠ "java/lang/invoke/VarHandle" ∧ (parseMethodDescriptor y_Resolver_nextGroup.desc).map (fun d => d.parameters.length) = some 1 := ⟨rfl, by decide, by decide, by decide +kernel⟩
abbrev b_Resolver_link : ByteArray := prog_7_method_4_code
abbrev y_Resolver_link : MethodName := ⟨"InferReduce$Resolver", "link", "(I)V"⟩
theorem dd_Resolver_link : y_Resolver_link.cls = "InferReduce$Resolver" ∧ y_Resolver_link.cls ≠ "java/lang/invoke/MethodHandle" ∧ y_Resolver_link.cls ≠ "java/lang/invoke/VarHandle" ∧ (parseMethodDescriptor y_Resolver_link.desc).map (fun d => d.parameters.length) = some 1 := ⟨rfl, by decide, by decide, by decide +kernel⟩
abbrev b_Resolver_groupOf : ByteArray := prog_7_method_5_code
abbrev y_Resolver_groupOf : MethodName := ⟨"InferReduce$Resolver", "groupOf", "(I)I"⟩
theorem dd_Resolver_groupOf : y_Resolver_groupOf.cls = "InferReduce$Resolver" ∧ y_Resolver_groupOf.cls ≠ "java/lang/invoke/MethodHandle" ∧ y_Resolver_groupOf.cls ≠ "java/lang/invoke/VarHandle" ∧ (parseMethodDescriptor y_Resolver_groupOf.desc).map (fun d => d.parameters.length) = some 1 := ⟨rfl, by decide, by decide, by decide +kernel⟩
abbrev b_Resolver_choose : ByteArray := prog_7_method_6_code
abbrev y_Resolver_choose : MethodName := ⟨"InferReduce$Resolver", "choose", "(I)I"⟩
theorem dd_Resolver_choose : y_Resolver_choose.cls = "InferReduce$Resolver" ∧ y_Resolver_choose.cls ≠ "java/lang/invoke/MethodHandle" ∧ y_Resolver_choose.cls ≠ "java/lang/invoke/VarHandle" ∧ (parseMethodDescriptor y_Resolver_choose.desc).map (fun d => d.parameters.length) = some 1 := ⟨rfl, by decide, by decide, by decide +kernel⟩
abbrev b_Resolver_gather : ByteArray := prog_7_method_7_code
abbrev y_Resolver_gather : MethodName := ⟨"InferReduce$Resolver", "gather", "(II)V"⟩
theorem dd_Resolver_gather : y_Resolver_gather.cls = "InferReduce$Resolver" ∧ y_Resolver_gather.cls ≠ "java/lang/invoke/MethodHandle" ∧ y_Resolver_gather.cls ≠ "java/lang/invoke/VarHandle" ∧ (parseMethodDescriptor y_Resolver_gather.desc).map (fun d => d.parameters.length) = some 2 := ⟨rfl, by decide, by decide, by decide +kernel⟩
abbrev b_Resolver_outermost : ByteArray := prog_7_method_8_code
abbrev y_Resolver_outermost : MethodName := ⟨"InferReduce$Resolver", "outermost", "(I)I"⟩
theorem dd_Resolver_outermost : y_Resolver_outermost.cls = "InferReduce$Resolver" ∧ y_Resolver_outermost.cls ≠ "java/lang/invoke/MethodHandle" ∧ y_Resolver_outermost.cls ≠ "java/lang/invoke/VarHandle" ∧ (parseMethodDescriptor y_Resolver_outermost.desc).map (fun d => d.parameters.length) = some 1 := ⟨rfl, by decide, by decide, by decide +kernel⟩
abbrev b_Resolver_joinOfClasses : ByteArray := prog_7_method_9_code
abbrev y_Resolver_joinOfClasses : MethodName := ⟨"InferReduce$Resolver", "joinOfClasses", "()I"⟩
theorem dd_Resolver_joinOfClasses : y_Resolver_joinOfClasses.cls = "InferReduce$Resolver" ∧ y_Resolver_joinOfClasses.cls ≠ "java/lang/invoke/MethodHandle" ∧ y_Resolver_joinOfClasses.cls ≠ "java/lang/invoke/VarHandle" ∧ (parseMethodDescriptor y_Resolver_joinOfClasses.desc).map (fun d => d.parameters.length) = some 0 := ⟨rfl, by decide, by decide, by decide +kernel⟩
abbrev b_Resolver_isAboveAll : ByteArray := prog_7_method_10_code
abbrev y_Resolver_isAboveAll : MethodName := ⟨"InferReduce$Resolver", "isAboveAll", "(I)I"⟩
theorem dd_Resolver_isAboveAll : y_Resolver_isAboveAll.cls = "InferReduce$Resolver" ∧ y_Resolver_isAboveAll.cls ≠ "java/lang/invoke/MethodHandle" ∧ y_Resolver_isAboveAll.cls ≠ "java/lang/invoke/VarHandle" ∧ (parseMethodDescriptor y_Resolver_isAboveAll.desc).map (fun d => d.parameters.length) = some 1 := ⟨rfl, by decide, by decide, by decide +kernel⟩
abbrev b_Resolver_isAboveAnother : ByteArray := prog_7_method_11_code
abbrev y_Resolver_isAboveAnother : MethodName := ⟨"InferReduce$Resolver", "isAboveAnother", "(IJ)I"⟩
theorem dd_Resolver_isAboveAnother : y_Resolver_isAboveAnother.cls = "InferReduce$Resolver" ∧ y_Resolver_isAboveAnother.cls ≠ "java/lang/invoke/MethodHandle" ∧ y_Resolver_isAboveAnother.cls ≠ "java/lang/invoke/VarHandle" ∧ (parseMethodDescriptor y_Resolver_isAboveAnother.desc).map (fun d => d.parameters.length) = some 2 := ⟨rfl, by decide, by decide, by decide +kernel⟩
abbrev b_Resolver_joinAs : ByteArray := prog_7_method_12_code
abbrev y_Resolver_joinAs : MethodName := ⟨"InferReduce$Resolver", "joinAs", "(I)I"⟩
theorem dd_Resolver_joinAs : y_Resolver_joinAs.cls = "InferReduce$Resolver" ∧ y_Resolver_joinAs.cls ≠ "java/lang/invoke/MethodHandle" ∧ y_Resolver_joinAs.cls ≠ "java/lang/invoke/VarHandle" ∧ (parseMethodDescriptor y_Resolver_joinAs.desc).map (fun d => d.parameters.length) = some 1 := ⟨rfl, by decide, by decide, by decide +kernel⟩
abbrev b_Resolver_sharedArgument : ByteArray := prog_7_method_13_code
abbrev y_Resolver_sharedArgument : MethodName := ⟨"InferReduce$Resolver", "sharedArgument", "(II)I"⟩
theorem dd_Resolver_sharedArgument : y_Resolver_sharedArgument.cls = "InferReduce$Resolver" ∧ y_Resolver_sharedArgument.cls ≠ "java/lang/invoke/MethodHandle" ∧ y_Resolver_sharedArgument.cls ≠ "java/lang/invoke/VarHandle" ∧ (parseMethodDescriptor y_Resolver_sharedArgument.desc).map (fun d => d.parameters.length) = some 2 := ⟨rfl, by decide, by decide, by decide +kernel⟩
abbrev b_Told_init : ByteArray := prog_8_method_1_code
abbrev y_Told_init : MethodName := ⟨"InferReduce$Told", "<init>", "()V"⟩
theorem dd_Told_init : y_Told_init.cls = "InferReduce$Told" ∧ y_Told_init.cls ≠ "java/lang/invoke/MethodHandle" ∧ y_Told_init.cls ≠ "java/lang/invoke/VarHandle" ∧ (parseMethodDescriptor y_Told_init.desc).map (fun d => d.parameters.length) = some 0 := ⟨rfl, by decide, by decide, by decide +kernel⟩
abbrev b_Told_has : ByteArray := prog_8_method_2_code
abbrev y_Told_has : MethodName := ⟨"InferReduce$Told", "has", "(I)Z"⟩
theorem dd_Told_has : y_Told_has.cls = "InferReduce$Told" ∧ y_Told_has.cls ≠ "java/lang/invoke/MethodHandle" ∧ y_Told_has.cls ≠ "java/lang/invoke/VarHandle" ∧ (parseMethodDescriptor y_Told_has.desc).map (fun d => d.parameters.length) = some 1 := ⟨rfl, by decide, by decide, by decide +kernel⟩
abbrev b_Told_hasRoom : ByteArray := prog_8_method_3_code
abbrev y_Told_hasRoom : MethodName := ⟨"InferReduce$Told", "hasRoom", "()Z"⟩
theorem dd_Told_hasRoom : y_Told_hasRoom.cls = "InferReduce$Told" ∧ y_Told_hasRoom.cls ≠ "java/lang/invoke/MethodHandle" ∧ y_Told_hasRoom.cls ≠ "java/lang/invoke/VarHandle" ∧ (parseMethodDescriptor y_Told_hasRoom.desc).map (fun d => d.parameters.length) = some 0 := ⟨rfl, by decide, by decide, by decide +kernel⟩
abbrev b_Told_add : ByteArray := prog_8_method_4_code
abbrev y_Told_add : MethodName := ⟨"InferReduce$Told", "add", "(III)I"⟩
theorem dd_Told_add : y_Told_add.cls = "InferReduce$Told" ∧ y_Told_add.cls ≠ "java/lang/invoke/MethodHandle" ∧ y_Told_add.cls ≠ "java/lang/invoke/VarHandle" ∧ (parseMethodDescriptor y_Told_add.desc).map (fun d => d.parameters.length) = some 3 := ⟨rfl, by decide, by decide, by decide +kernel⟩
abbrev b_Told_sortOf : ByteArray := prog_8_method_5_code
abbrev y_Told_sortOf : MethodName := ⟨"InferReduce$Told", "sortOf", "(I)I"⟩
theorem dd_Told_sortOf : y_Told_sortOf.cls = "InferReduce$Told" ∧ y_Told_sortOf.cls ≠ "java/lang/invoke/MethodHandle" ∧ y_Told_sortOf.cls ≠ "java/lang/invoke/VarHandle" ∧ (parseMethodDescriptor y_Told_sortOf.desc).map (fun d => d.parameters.length) = some 1 := ⟨rfl, by decide, by decide, by decide +kernel⟩
abbrev b_Told_leftOf : ByteArray := prog_8_method_6_code
abbrev y_Told_leftOf : MethodName := ⟨"InferReduce$Told", "leftOf", "(I)I"⟩
theorem dd_Told_leftOf : y_Told_leftOf.cls = "InferReduce$Told" ∧ y_Told_leftOf.cls ≠ "java/lang/invoke/MethodHandle" ∧ y_Told_leftOf.cls ≠ "java/lang/invoke/VarHandle" ∧ (parseMethodDescriptor y_Told_leftOf.desc).map (fun d => d.parameters.length) = some 1 := ⟨rfl, by decide, by decide, by decide +kernel⟩
abbrev b_Told_rightOf : ByteArray := prog_8_method_7_code
abbrev y_Told_rightOf : MethodName := ⟨"InferReduce$Told", "rightOf", "(I)I"⟩
theorem dd_Told_rightOf : y_Told_rightOf.cls = "InferReduce$Told" ∧ y_Told_rightOf.cls ≠ "java/lang/invoke/MethodHandle" ∧ y_Told_rightOf.cls ≠ "java/lang/invoke/VarHandle" ∧ (parseMethodDescriptor y_Told_rightOf.desc).map (fun d => d.parameters.length) = some 1 := ⟨rfl, by decide, by decide, by decide +kernel⟩
abbrev b_Told_markUnchecked : ByteArray := prog_8_method_8_code
abbrev y_Told_markUnchecked : MethodName := ⟨"InferReduce$Told", "markUnchecked", "(I)V"⟩
theorem dd_Told_markUnchecked : y_Told_markUnchecked.cls = "InferReduce$Told" ∧ y_Told_markUnchecked.cls ≠ "java/lang/invoke/MethodHandle" ∧ y_Told_markUnchecked.cls ≠ "java/lang/invoke/VarHandle" ∧ (parseMethodDescriptor y_Told_markUnchecked.desc).map (fun d => d.parameters.length) = some 1 := ⟨rfl, by decide, by decide, by decide +kernel⟩
abbrev b_Told_isUnchecked : ByteArray := prog_8_method_9_code
abbrev y_Told_isUnchecked : MethodName := ⟨"InferReduce$Told", "isUnchecked", "(I)Z"⟩
theorem dd_Told_isUnchecked : y_Told_isUnchecked.cls = "InferReduce$Told" ∧ y_Told_isUnchecked.cls ≠ "java/lang/invoke/MethodHandle" ∧ y_Told_isUnchecked.cls ≠ "java/lang/invoke/VarHandle" ∧ (parseMethodDescriptor y_Told_isUnchecked.desc).map (fun d => d.parameters.length) = some 1 := ⟨rfl, by decide, by decide, by decide +kernel⟩
abbrev b_Types_init : ByteArray := prog_9_method_1_code
abbrev y_Types_init : MethodName := ⟨"InferReduce$Types", "<init>", "()V"⟩
theorem dd_Types_init : y_Types_init.cls = "InferReduce$Types" ∧ y_Types_init.cls ≠ "java/lang/invoke/MethodHandle" ∧ y_Types_init.cls ≠ "java/lang/invoke/VarHandle" ∧ (parseMethodDescriptor y_Types_init.desc).map (fun d => d.parameters.length) = some 0 := ⟨rfl, by decide, by decide, by decide +kernel⟩
abbrev b_Types_has : ByteArray := prog_9_method_2_code
abbrev y_Types_has : MethodName := ⟨"InferReduce$Types", "has", "(I)Z"⟩
theorem dd_Types_has : y_Types_has.cls = "InferReduce$Types" ∧ y_Types_has.cls ≠ "java/lang/invoke/MethodHandle" ∧ y_Types_has.cls ≠ "java/lang/invoke/VarHandle" ∧ (parseMethodDescriptor y_Types_has.desc).map (fun d => d.parameters.length) = some 1 := ⟨rfl, by decide, by decide, by decide +kernel⟩
abbrev b_Types_kindOf : ByteArray := prog_9_method_3_code
abbrev y_Types_kindOf : MethodName := ⟨"InferReduce$Types", "kindOf", "(I)I"⟩
theorem dd_Types_kindOf : y_Types_kindOf.cls = "InferReduce$Types" ∧ y_Types_kindOf.cls ≠ "java/lang/invoke/MethodHandle" ∧ y_Types_kindOf.cls ≠ "java/lang/invoke/VarHandle" ∧ (parseMethodDescriptor y_Types_kindOf.desc).map (fun d => d.parameters.length) = some 1 := ⟨rfl, by decide, by decide, by decide +kernel⟩
abbrev b_Types_firstOf : ByteArray := prog_9_method_4_code
abbrev y_Types_firstOf : MethodName := ⟨"InferReduce$Types", "firstOf", "(I)I"⟩
theorem dd_Types_firstOf : y_Types_firstOf.cls = "InferReduce$Types" ∧ y_Types_firstOf.cls ≠ "java/lang/invoke/MethodHandle" ∧ y_Types_firstOf.cls ≠ "java/lang/invoke/VarHandle" ∧ (parseMethodDescriptor y_Types_firstOf.desc).map (fun d => d.parameters.length) = some 1 := ⟨rfl, by decide, by decide, by decide +kernel⟩
abbrev b_Types_secondOf : ByteArray := prog_9_method_5_code
abbrev y_Types_secondOf : MethodName := ⟨"InferReduce$Types", "secondOf", "(I)I"⟩
theorem dd_Types_secondOf : y_Types_secondOf.cls = "InferReduce$Types" ∧ y_Types_secondOf.cls ≠ "java/lang/invoke/MethodHandle" ∧ y_Types_secondOf.cls ≠ "java/lang/invoke/VarHandle" ∧ (parseMethodDescriptor y_Types_secondOf.desc).map (fun d => d.parameters.length) = some 1 := ⟨rfl, by decide, by decide, by decide +kernel⟩
abbrev b_Types_thirdOf : ByteArray := prog_9_method_6_code
abbrev y_Types_thirdOf : MethodName := ⟨"InferReduce$Types", "thirdOf", "(I)I"⟩
theorem dd_Types_thirdOf : y_Types_thirdOf.cls = "InferReduce$Types" ∧ y_Types_thirdOf.cls ≠ "java/lang/invoke/MethodHandle" ∧ y_Types_thirdOf.cls ≠ "java/lang/invoke/VarHandle" ∧ (parseMethodDescriptor y_Types_thirdOf.desc).map (fun d => d.parameters.length) = some 1 := ⟨rfl, by decide, by decide, by decide +kernel⟩
abbrev b_Types_depthOf : ByteArray := prog_9_method_7_code
abbrev y_Types_depthOf : MethodName := ⟨"InferReduce$Types", "depthOf", "(I)I"⟩
theorem dd_Types_depthOf : y_Types_depthOf.cls = "InferReduce$Types" ∧ y_Types_depthOf.cls ≠ "java/lang/invoke/MethodHandle" ∧ y_Types_depthOf.cls ≠ "java/lang/invoke/VarHandle" ∧ (parseMethodDescriptor y_Types_depthOf.desc).map (fun d => d.parameters.length) = some 1 := ⟨rfl, by decide, by decide, by decide +kernel⟩
abbrev b_Types_variablesIn : ByteArray := prog_9_method_8_code
abbrev y_Types_variablesIn : MethodName := ⟨"InferReduce$Types", "variablesIn", "(I)I"⟩
theorem dd_Types_variablesIn : y_Types_variablesIn.cls = "InferReduce$Types" ∧ y_Types_variablesIn.cls ≠ "java/lang/invoke/MethodHandle" ∧ y_Types_variablesIn.cls ≠ "java/lang/invoke/VarHandle" ∧ (parseMethodDescriptor y_Types_variablesIn.desc).map (fun d => d.parameters.length) = some 1 := ⟨rfl, by decide, by decide, by decide +kernel⟩
abbrev b_Types_isProper : ByteArray := prog_9_method_9_code
abbrev y_Types_isProper : MethodName := ⟨"InferReduce$Types", "isProper", "(I)Z"⟩
theorem dd_Types_isProper : y_Types_isProper.cls = "InferReduce$Types" ∧ y_Types_isProper.cls ≠ "java/lang/invoke/MethodHandle" ∧ y_Types_isProper.cls ≠ "java/lang/invoke/VarHandle" ∧ (parseMethodDescriptor y_Types_isProper.desc).map (fun d => d.parameters.length) = some 1 := ⟨rfl, by decide, by decide, by decide +kernel⟩
abbrev b_Types_ownersIn : ByteArray := prog_9_method_10_code
abbrev y_Types_ownersIn : MethodName := ⟨"InferReduce$Types", "ownersIn", "(II)J"⟩
theorem dd_Types_ownersIn : y_Types_ownersIn.cls = "InferReduce$Types" ∧ y_Types_ownersIn.cls ≠ "java/lang/invoke/MethodHandle" ∧ y_Types_ownersIn.cls ≠ "java/lang/invoke/VarHandle" ∧ (parseMethodDescriptor y_Types_ownersIn.desc).map (fun d => d.parameters.length) = some 2 := ⟨rfl, by decide, by decide, by decide +kernel⟩
abbrev b_Types_isOfClassesBefore : ByteArray := prog_9_method_11_code
abbrev y_Types_isOfClassesBefore : MethodName := ⟨"InferReduce$Types", "isOfClassesBefore", "(II)Z"⟩
theorem dd_Types_isOfClassesBefore : y_Types_isOfClassesBefore.cls = "InferReduce$Types" ∧ y_Types_isOfClassesBefore.cls ≠ "java/lang/invoke/MethodHandle" ∧ y_Types_isOfClassesBefore.cls ≠ "java/lang/invoke/VarHandle" ∧ (parseMethodDescriptor y_Types_isOfClassesBefore.desc).map (fun d => d.parameters.length) = some 2 := ⟨rfl, by decide, by decide, by decide +kernel⟩
abbrev b_Types_argumentOf : ByteArray := prog_9_method_12_code
abbrev y_Types_argumentOf : MethodName := ⟨"InferReduce$Types", "argumentOf", "(II)I"⟩
theorem dd_Types_argumentOf : y_Types_argumentOf.cls = "InferReduce$Types" ∧ y_Types_argumentOf.cls ≠ "java/lang/invoke/MethodHandle" ∧ y_Types_argumentOf.cls ≠ "java/lang/invoke/VarHandle" ∧ (parseMethodDescriptor y_Types_argumentOf.desc).map (fun d => d.parameters.length) = some 2 := ⟨rfl, by decide, by decide, by decide +kernel⟩
abbrev b_Types_classOf : ByteArray := prog_9_method_13_code
abbrev y_Types_classOf : MethodName := ⟨"InferReduce$Types", "classOf", "(I)I"⟩
theorem dd_Types_classOf : y_Types_classOf.cls = "InferReduce$Types" ∧ y_Types_classOf.cls ≠ "java/lang/invoke/MethodHandle" ∧ y_Types_classOf.cls ≠ "java/lang/invoke/VarHandle" ∧ (parseMethodDescriptor y_Types_classOf.desc).map (fun d => d.parameters.length) = some 1 := ⟨rfl, by decide, by decide, by decide +kernel⟩
abbrev b_Types_captureBound : ByteArray := prog_9_method_14_code
abbrev y_Types_captureBound : MethodName := ⟨"InferReduce$Types", "captureBound", "(II)I"⟩
theorem dd_Types_captureBound : y_Types_captureBound.cls = "InferReduce$Types" ∧ y_Types_captureBound.cls ≠ "java/lang/invoke/MethodHandle" ∧ y_Types_captureBound.cls ≠ "java/lang/invoke/VarHandle" ∧ (parseMethodDescriptor y_Types_captureBound.desc).map (fun d => d.parameters.length) = some 2 := ⟨rfl, by decide, by decide, by decide +kernel⟩
abbrev b_Types_make : ByteArray := prog_9_method_15_code
abbrev y_Types_make : MethodName := ⟨"InferReduce$Types", "make", "(IIII)I"⟩
theorem dd_Types_make : y_Types_make.cls = "InferReduce$Types" ∧ y_Types_make.cls ≠ "java/lang/invoke/MethodHandle" ∧ y_Types_make.cls ≠ "java/lang/invoke/VarHandle" ∧ (parseMethodDescriptor y_Types_make.desc).map (fun d => d.parameters.length) = some 4 := ⟨rfl, by decide, by decide, by decide +kernel⟩
abbrev b_Work_init : ByteArray := prog_10_method_1_code
abbrev y_Work_init : MethodName := ⟨"InferReduce$Work", "<init>", "()V"⟩
theorem dd_Work_init : y_Work_init.cls = "InferReduce$Work" ∧ y_Work_init.cls ≠ "java/lang/invoke/MethodHandle" ∧ y_Work_init.cls ≠ "java/lang/invoke/VarHandle" ∧ (parseMethodDescriptor y_Work_init.desc).map (fun d => d.parameters.length) = some 0 := ⟨rfl, by decide, by decide, by decide +kernel⟩
abbrev b_Work_add : ByteArray := prog_10_method_2_code
abbrev y_Work_add : MethodName := ⟨"InferReduce$Work", "add", "(IIII)Z"⟩
theorem dd_Work_add : y_Work_add.cls = "InferReduce$Work" ∧ y_Work_add.cls ≠ "java/lang/invoke/MethodHandle" ∧ y_Work_add.cls ≠ "java/lang/invoke/VarHandle" ∧ (parseMethodDescriptor y_Work_add.desc).map (fun d => d.parameters.length) = some 4 := ⟨rfl, by decide, by decide, by decide +kernel⟩
abbrev b_Work_take : ByteArray := prog_10_method_3_code
abbrev y_Work_take : MethodName := ⟨"InferReduce$Work", "take", "()Z"⟩
theorem dd_Work_take : y_Work_take.cls = "InferReduce$Work" ∧ y_Work_take.cls ≠ "java/lang/invoke/MethodHandle" ∧ y_Work_take.cls ≠ "java/lang/invoke/VarHandle" ∧ (parseMethodDescriptor y_Work_take.desc).map (fun d => d.parameters.length) = some 0 := ⟨rfl, by decide, by decide, by decide +kernel⟩
abbrev b_I_init : ByteArray := prog_1_method_1_code
abbrev y_I_init : MethodName := ⟨"InferReduce", "<init>", "()V"⟩
theorem dd_I_init : y_I_init.cls = "InferReduce" ∧ y_I_init.cls ≠ "java/lang/invoke/MethodHandle" ∧ y_I_init.cls ≠ "java/lang/invoke/VarHandle" ∧ (parseMethodDescriptor y_I_init.desc).map (fun d => d.parameters.length) = some 0 := ⟨rfl, by decide, by decide, by decide +kernel⟩
abbrev b_I_declare : ByteArray := prog_1_method_2_code
abbrev y_I_declare : MethodName := ⟨"InferReduce", "declare", "(I)I"⟩
theorem dd_I_declare : y_I_declare.cls = "InferReduce" ∧ y_I_declare.cls ≠ "java/lang/invoke/MethodHandle" ∧ y_I_declare.cls ≠ "java/lang/invoke/VarHandle" ∧ (parseMethodDescriptor y_I_declare.desc).map (fun d => d.parameters.length) = some 1 := ⟨rfl, by decide, by decide, by decide +kernel⟩
abbrev b_I_parent : ByteArray := prog_1_method_3_code
abbrev y_I_parent : MethodName := ⟨"InferReduce", "parent", "(II)I"⟩
theorem dd_I_parent : y_I_parent.cls = "InferReduce" ∧ y_I_parent.cls ≠ "java/lang/invoke/MethodHandle" ∧ y_I_parent.cls ≠ "java/lang/invoke/VarHandle" ∧ (parseMethodDescriptor y_I_parent.desc).map (fun d => d.parameters.length) = some 2 := ⟨rfl, by decide, by decide, by decide +kernel⟩
abbrev b_I_plain : ByteArray := prog_1_method_4_code
abbrev y_I_plain : MethodName := ⟨"InferReduce", "plain", "(I)I"⟩
theorem dd_I_plain : y_I_plain.cls = "InferReduce" ∧ y_I_plain.cls ≠ "java/lang/invoke/MethodHandle" ∧ y_I_plain.cls ≠ "java/lang/invoke/VarHandle" ∧ (parseMethodDescriptor y_I_plain.desc).map (fun d => d.parameters.length) = some 1 := ⟨rfl, by decide, by decide, by decide +kernel⟩
abbrev b_I_of : ByteArray := prog_1_method_5_code
abbrev y_I_of : MethodName := ⟨"InferReduce", "of", "(III)I"⟩
theorem dd_I_of : y_I_of.cls = "InferReduce" ∧ y_I_of.cls ≠ "java/lang/invoke/MethodHandle" ∧ y_I_of.cls ≠ "java/lang/invoke/VarHandle" ∧ (parseMethodDescriptor y_I_of.desc).map (fun d => d.parameters.length) = some 3 := ⟨rfl, by decide, by decide, by decide +kernel⟩
abbrev b_I_wild : ByteArray := prog_1_method_6_code
abbrev y_I_wild : MethodName := ⟨"InferReduce", "wild", "(II)I"⟩
theorem dd_I_wild : y_I_wild.cls = "InferReduce" ∧ y_I_wild.cls ≠ "java/lang/invoke/MethodHandle" ∧ y_I_wild.cls ≠ "java/lang/invoke/VarHandle" ∧ (parseMethodDescriptor y_I_wild.desc).map (fun d => d.parameters.length) = some 2 := ⟨rfl, by decide, by decide, by decide +kernel⟩
abbrev b_I_parameter : ByteArray := prog_1_method_7_code
abbrev y_I_parameter : MethodName := ⟨"InferReduce", "parameter", "(II)I"⟩
theorem dd_I_parameter : y_I_parameter.cls = "InferReduce" ∧ y_I_parameter.cls ≠ "java/lang/invoke/MethodHandle" ∧ y_I_parameter.cls ≠ "java/lang/invoke/VarHandle" ∧ (parseMethodDescriptor y_I_parameter.desc).map (fun d => d.parameters.length) = some 2 := ⟨rfl, by decide, by decide, by decide +kernel⟩
abbrev b_I_array : ByteArray := prog_1_method_8_code
abbrev y_I_array : MethodName := ⟨"InferReduce", "array", "(I)I"⟩
theorem dd_I_array : y_I_array.cls = "InferReduce" ∧ y_I_array.cls ≠ "java/lang/invoke/MethodHandle" ∧ y_I_array.cls ≠ "java/lang/invoke/VarHandle" ∧ (parseMethodDescriptor y_I_array.desc).map (fun d => d.parameters.length) = some 1 := ⟨rfl, by decide, by decide, by decide +kernel⟩
abbrev b_I_primitive : ByteArray := prog_1_method_9_code
abbrev y_I_primitive : MethodName := ⟨"InferReduce", "primitive", "(I)I"⟩
theorem dd_I_primitive : y_I_primitive.cls = "InferReduce" ∧ y_I_primitive.cls ≠ "java/lang/invoke/MethodHandle" ∧ y_I_primitive.cls ≠ "java/lang/invoke/VarHandle" ∧ (parseMethodDescriptor y_I_primitive.desc).map (fun d => d.parameters.length) = some 1 := ⟨rfl, by decide, by decide, by decide +kernel⟩
abbrev b_I_nothing : ByteArray := prog_1_method_10_code
abbrev y_I_nothing : MethodName := ⟨"InferReduce", "nothing", "()I"⟩
theorem dd_I_nothing : y_I_nothing.cls = "InferReduce" ∧ y_I_nothing.cls ≠ "java/lang/invoke/MethodHandle" ∧ y_I_nothing.cls ≠ "java/lang/invoke/VarHandle" ∧ (parseMethodDescriptor y_I_nothing.desc).map (fun d => d.parameters.length) = some 0 := ⟨rfl, by decide, by decide, by decide +kernel⟩
abbrev b_I_variable : ByteArray := prog_1_method_11_code
abbrev y_I_variable : MethodName := ⟨"InferReduce", "variable", "()I"⟩
theorem dd_I_variable : y_I_variable.cls = "InferReduce" ∧ y_I_variable.cls ≠ "java/lang/invoke/MethodHandle" ∧ y_I_variable.cls ≠ "java/lang/invoke/VarHandle" ∧ (parseMethodDescriptor y_I_variable.desc).map (fun d => d.parameters.length) = some 0 := ⟨rfl, by decide, by decide, by decide +kernel⟩
abbrev b_I_formula : ByteArray := prog_1_method_12_code
abbrev y_I_formula : MethodName := ⟨"InferReduce", "formula", "(III)I"⟩
theorem dd_I_formula : y_I_formula.cls = "InferReduce" ∧ y_I_formula.cls ≠ "java/lang/invoke/MethodHandle" ∧ y_I_formula.cls ≠ "java/lang/invoke/VarHandle" ∧ (parseMethodDescriptor y_I_formula.desc).map (fun d => d.parameters.length) = some 3 := ⟨rfl, by decide, by decide, by decide +kernel⟩
abbrev b_I_resolve : ByteArray := prog_1_method_13_code
abbrev y_I_resolve : MethodName := ⟨"InferReduce", "resolve", "()I"⟩
theorem dd_I_resolve : y_I_resolve.cls = "InferReduce" ∧ y_I_resolve.cls ≠ "java/lang/invoke/MethodHandle" ∧ y_I_resolve.cls ≠ "java/lang/invoke/VarHandle" ∧ (parseMethodDescriptor y_I_resolve.desc).map (fun d => d.parameters.length) = some 0 := ⟨rfl, by decide, by decide, by decide +kernel⟩
abbrev b_I_clear : ByteArray := prog_1_method_14_code
abbrev y_I_clear : MethodName := ⟨"InferReduce", "clear", "()I"⟩
theorem dd_I_clear : y_I_clear.cls = "InferReduce" ∧ y_I_clear.cls ≠ "java/lang/invoke/MethodHandle" ∧ y_I_clear.cls ≠ "java/lang/invoke/VarHandle" ∧ (parseMethodDescriptor y_I_clear.desc).map (fun d => d.parameters.length) = some 0 := ⟨rfl, by decide, by decide, by decide +kernel⟩
abbrev b_I_count : ByteArray := prog_1_method_15_code
abbrev y_I_count : MethodName := ⟨"InferReduce", "count", "(I)I"⟩
theorem dd_I_count : y_I_count.cls = "InferReduce" ∧ y_I_count.cls ≠ "java/lang/invoke/MethodHandle" ∧ y_I_count.cls ≠ "java/lang/invoke/VarHandle" ∧ (parseMethodDescriptor y_I_count.desc).map (fun d => d.parameters.length) = some 1 := ⟨rfl, by decide, by decide, by decide +kernel⟩
abbrev b_I_type : ByteArray := prog_1_method_16_code
abbrev y_I_type : MethodName := ⟨"InferReduce", "type", "(II)I"⟩
theorem dd_I_type : y_I_type.cls = "InferReduce" ∧ y_I_type.cls ≠ "java/lang/invoke/MethodHandle" ∧ y_I_type.cls ≠ "java/lang/invoke/VarHandle" ∧ (parseMethodDescriptor y_I_type.desc).map (fun d => d.parameters.length) = some 2 := ⟨rfl, by decide, by decide, by decide +kernel⟩
abbrev b_I_bound : ByteArray := prog_1_method_17_code
abbrev y_I_bound : MethodName := ⟨"InferReduce", "bound", "(II)I"⟩
theorem dd_I_bound : y_I_bound.cls = "InferReduce" ∧ y_I_bound.cls ≠ "java/lang/invoke/MethodHandle" ∧ y_I_bound.cls ≠ "java/lang/invoke/VarHandle" ∧ (parseMethodDescriptor y_I_bound.desc).map (fun d => d.parameters.length) = some 2 := ⟨rfl, by decide, by decide, by decide +kernel⟩
abbrev b_I_instance : ByteArray := prog_1_method_18_code
abbrev y_I_instance : MethodName := ⟨"InferReduce", "instance", "(I)I"⟩
theorem dd_I_instance : y_I_instance.cls = "InferReduce" ∧ y_I_instance.cls ≠ "java/lang/invoke/MethodHandle" ∧ y_I_instance.cls ≠ "java/lang/invoke/VarHandle" ∧ (parseMethodDescriptor y_I_instance.desc).map (fun d => d.parameters.length) = some 1 := ⟨rfl, by decide, by decide, by decide +kernel⟩
abbrev b_I_above : ByteArray := prog_1_method_19_code
abbrev y_I_above : MethodName := ⟨"InferReduce", "above", "(II)I"⟩
theorem dd_I_above : y_I_above.cls = "InferReduce" ∧ y_I_above.cls ≠ "java/lang/invoke/MethodHandle" ∧ y_I_above.cls ≠ "java/lang/invoke/VarHandle" ∧ (parseMethodDescriptor y_I_above.desc).map (fun d => d.parameters.length) = some 2 := ⟨rfl, by decide, by decide, by decide +kernel⟩
abbrev b_I_unchecked : ByteArray := prog_1_method_20_code
abbrev y_I_unchecked : MethodName := ⟨"InferReduce", "unchecked", "(I)I"⟩
theorem dd_I_unchecked : y_I_unchecked.cls = "InferReduce" ∧ y_I_unchecked.cls ≠ "java/lang/invoke/MethodHandle" ∧ y_I_unchecked.cls ≠ "java/lang/invoke/VarHandle" ∧ (parseMethodDescriptor y_I_unchecked.desc).map (fun d => d.parameters.length) = some 1 := ⟨rfl, by decide, by decide, by decide +kernel⟩
abbrev b_I_judge : ByteArray := prog_1_method_21_code
abbrev y_I_judge : MethodName := ⟨"InferReduce", "judge", "(I)I"⟩
theorem dd_I_judge : y_I_judge.cls = "InferReduce" ∧ y_I_judge.cls ≠ "java/lang/invoke/MethodHandle" ∧ y_I_judge.cls ≠ "java/lang/invoke/VarHandle" ∧ (parseMethodDescriptor y_I_judge.desc).map (fun d => d.parameters.length) = some 1 := ⟨rfl, by decide, by decide, by decide +kernel⟩
abbrev b_I_canBeArgument : ByteArray := prog_1_method_22_code
abbrev y_I_canBeArgument : MethodName := ⟨"InferReduce", "canBeArgument", "(I)Z"⟩
theorem dd_I_canBeArgument : y_I_canBeArgument.cls = "InferReduce" ∧ y_I_canBeArgument.cls ≠ "java/lang/invoke/MethodHandle" ∧ y_I_canBeArgument.cls ≠ "java/lang/invoke/VarHandle" ∧ (parseMethodDescriptor y_I_canBeArgument.desc).map (fun d => d.parameters.length) = some 1 := ⟨rfl, by decide, by decide, by decide +kernel⟩
abbrev b_I_canBeTold : ByteArray := prog_1_method_23_code
abbrev y_I_canBeTold : MethodName := ⟨"InferReduce", "canBeTold", "(II)Z"⟩
theorem dd_I_canBeTold : y_I_canBeTold.cls = "InferReduce" ∧ y_I_canBeTold.cls ≠ "java/lang/invoke/MethodHandle" ∧ y_I_canBeTold.cls ≠ "java/lang/invoke/VarHandle" ∧ (parseMethodDescriptor y_I_canBeTold.desc).map (fun d => d.parameters.length) = some 2 := ⟨rfl, by decide, by decide, by decide +kernel⟩
abbrev b_I_canBeParent : ByteArray := prog_1_method_24_code
abbrev y_I_canBeParent : MethodName := ⟨"InferReduce", "canBeParent", "(II)Z"⟩
theorem dd_I_canBeParent : y_I_canBeParent.cls = "InferReduce" ∧ y_I_canBeParent.cls ≠ "java/lang/invoke/MethodHandle" ∧ y_I_canBeParent.cls ≠ "java/lang/invoke/VarHandle" ∧ (parseMethodDescriptor y_I_canBeParent.desc).map (fun d => d.parameters.length) = some 2 := ⟨rfl, by decide, by decide, by decide +kernel⟩
abbrev b_I_takeState : ByteArray := prog_1_method_25_code
abbrev y_I_takeState : MethodName := ⟨"InferReduce", "takeState", "(II)V"⟩
theorem dd_I_takeState : y_I_takeState.cls = "InferReduce" ∧ y_I_takeState.cls ≠ "java/lang/invoke/MethodHandle" ∧ y_I_takeState.cls ≠ "java/lang/invoke/VarHandle" ∧ (parseMethodDescriptor y_I_takeState.desc).map (fun d => d.parameters.length) = some 2 := ⟨rfl, by decide, by decide, by decide +kernel⟩
abbrev b_M_init : ByteArray := prog_12_method_1_code
abbrev y_M_init : MethodName := ⟨"InferReduceModel", "<init>", "()V"⟩
theorem dd_M_init : y_M_init.cls = "InferReduceModel" ∧ y_M_init.cls ≠ "java/lang/invoke/MethodHandle" ∧ y_M_init.cls ≠ "java/lang/invoke/VarHandle" ∧ (parseMethodDescriptor y_M_init.desc).map (fun d => d.parameters.length) = some 0 := ⟨rfl, by decide, by decide, by decide +kernel⟩
abbrev b_M_make : ByteArray := prog_12_method_2_code
abbrev y_M_make : MethodName := ⟨"InferReduceModel", "make", "(IIII)I"⟩
theorem dd_M_make : y_M_make.cls = "InferReduceModel" ∧ y_M_make.cls ≠ "java/lang/invoke/MethodHandle" ∧ y_M_make.cls ≠ "java/lang/invoke/VarHandle" ∧ (parseMethodDescriptor y_M_make.desc).map (fun d => d.parameters.length) = some 4 := ⟨rfl, by decide, by decide, by decide +kernel⟩
abbrev b_M_made : ByteArray := prog_12_method_3_code
abbrev y_M_made : MethodName := ⟨"InferReduceModel", "made", "(I)I"⟩
theorem dd_M_made : y_M_made.cls = "InferReduceModel" ∧ y_M_made.cls ≠ "java/lang/invoke/MethodHandle" ∧ y_M_made.cls ≠ "java/lang/invoke/VarHandle" ∧ (parseMethodDescriptor y_M_made.desc).map (fun d => d.parameters.length) = some 1 := ⟨rfl, by decide, by decide, by decide +kernel⟩
abbrev b_M_plainOf : ByteArray := prog_12_method_4_code
abbrev y_M_plainOf : MethodName := ⟨"InferReduceModel", "plainOf", "(I)I"⟩
theorem dd_M_plainOf : y_M_plainOf.cls = "InferReduceModel" ∧ y_M_plainOf.cls ≠ "java/lang/invoke/MethodHandle" ∧ y_M_plainOf.cls ≠ "java/lang/invoke/VarHandle" ∧ (parseMethodDescriptor y_M_plainOf.desc).map (fun d => d.parameters.length) = some 1 := ⟨rfl, by decide, by decide, by decide +kernel⟩
abbrev b_M_isType : ByteArray := prog_12_method_5_code
abbrev y_M_isType : MethodName := ⟨"InferReduceModel", "isType", "(I)Z"⟩
theorem dd_M_isType : y_M_isType.cls = "InferReduceModel" ∧ y_M_isType.cls ≠ "java/lang/invoke/MethodHandle" ∧ y_M_isType.cls ≠ "java/lang/invoke/VarHandle" ∧ (parseMethodDescriptor y_M_isType.desc).map (fun d => d.parameters.length) = some 1 := ⟨rfl, by decide, by decide, by decide +kernel⟩
abbrev b_M_isClass : ByteArray := prog_12_method_6_code
abbrev y_M_isClass : MethodName := ⟨"InferReduceModel", "isClass", "(I)Z"⟩
theorem dd_M_isClass : y_M_isClass.cls = "InferReduceModel" ∧ y_M_isClass.cls ≠ "java/lang/invoke/MethodHandle" ∧ y_M_isClass.cls ≠ "java/lang/invoke/VarHandle" ∧ (parseMethodDescriptor y_M_isClass.desc).map (fun d => d.parameters.length) = some 1 := ⟨rfl, by decide, by decide, by decide +kernel⟩
abbrev b_M_declare : ByteArray := prog_12_method_7_code
abbrev y_M_declare : MethodName := ⟨"InferReduceModel", "declare", "(I)I"⟩
theorem dd_M_declare : y_M_declare.cls = "InferReduceModel" ∧ y_M_declare.cls ≠ "java/lang/invoke/MethodHandle" ∧ y_M_declare.cls ≠ "java/lang/invoke/VarHandle" ∧ (parseMethodDescriptor y_M_declare.desc).map (fun d => d.parameters.length) = some 1 := ⟨rfl, by decide, by decide, by decide +kernel⟩
abbrev b_M_isParent : ByteArray := prog_12_method_8_code
abbrev y_M_isParent : MethodName := ⟨"InferReduceModel", "isParent", "(II)Z"⟩
theorem dd_M_isParent : y_M_isParent.cls = "InferReduceModel" ∧ y_M_isParent.cls ≠ "java/lang/invoke/MethodHandle" ∧ y_M_isParent.cls ≠ "java/lang/invoke/VarHandle" ∧ (parseMethodDescriptor y_M_isParent.desc).map (fun d => d.parameters.length) = some 2 := ⟨rfl, by decide, by decide, by decide +kernel⟩
abbrev b_M_isOfBefore : ByteArray := prog_12_method_9_code
abbrev y_M_isOfBefore : MethodName := ⟨"InferReduceModel", "isOfBefore", "(II)Z"⟩
theorem dd_M_isOfBefore : y_M_isOfBefore.cls = "InferReduceModel" ∧ y_M_isOfBefore.cls ≠ "java/lang/invoke/MethodHandle" ∧ y_M_isOfBefore.cls ≠ "java/lang/invoke/VarHandle" ∧ (parseMethodDescriptor y_M_isOfBefore.desc).map (fun d => d.parameters.length) = some 2 := ⟨rfl, by decide, by decide, by decide +kernel⟩
abbrev b_M_parent : ByteArray := prog_12_method_10_code
abbrev y_M_parent : MethodName := ⟨"InferReduceModel", "parent", "(II)I"⟩
theorem dd_M_parent : y_M_parent.cls = "InferReduceModel" ∧ y_M_parent.cls ≠ "java/lang/invoke/MethodHandle" ∧ y_M_parent.cls ≠ "java/lang/invoke/VarHandle" ∧ (parseMethodDescriptor y_M_parent.desc).map (fun d => d.parameters.length) = some 2 := ⟨rfl, by decide, by decide, by decide +kernel⟩
abbrev b_M_plain : ByteArray := prog_12_method_11_code
abbrev y_M_plain : MethodName := ⟨"InferReduceModel", "plain", "(I)I"⟩
theorem dd_M_plain : y_M_plain.cls = "InferReduceModel" ∧ y_M_plain.cls ≠ "java/lang/invoke/MethodHandle" ∧ y_M_plain.cls ≠ "java/lang/invoke/VarHandle" ∧ (parseMethodDescriptor y_M_plain.desc).map (fun d => d.parameters.length) = some 1 := ⟨rfl, by decide, by decide, by decide +kernel⟩
abbrev b_M_isArgument : ByteArray := prog_12_method_12_code
abbrev y_M_isArgument : MethodName := ⟨"InferReduceModel", "isArgument", "(I)Z"⟩
theorem dd_M_isArgument : y_M_isArgument.cls = "InferReduceModel" ∧ y_M_isArgument.cls ≠ "java/lang/invoke/MethodHandle" ∧ y_M_isArgument.cls ≠ "java/lang/invoke/VarHandle" ∧ (parseMethodDescriptor y_M_isArgument.desc).map (fun d => d.parameters.length) = some 1 := ⟨rfl, by decide, by decide, by decide +kernel⟩
abbrev b_M_of : ByteArray := prog_12_method_13_code
abbrev y_M_of : MethodName := ⟨"InferReduceModel", "of", "(III)I"⟩
theorem dd_M_of : y_M_of.cls = "InferReduceModel" ∧ y_M_of.cls ≠ "java/lang/invoke/MethodHandle" ∧ y_M_of.cls ≠ "java/lang/invoke/VarHandle" ∧ (parseMethodDescriptor y_M_of.desc).map (fun d => d.parameters.length) = some 3 := ⟨rfl, by decide, by decide, by decide +kernel⟩
abbrev b_M_wild : ByteArray := prog_12_method_14_code
abbrev y_M_wild : MethodName := ⟨"InferReduceModel", "wild", "(II)I"⟩
theorem dd_M_wild : y_M_wild.cls = "InferReduceModel" ∧ y_M_wild.cls ≠ "java/lang/invoke/MethodHandle" ∧ y_M_wild.cls ≠ "java/lang/invoke/VarHandle" ∧ (parseMethodDescriptor y_M_wild.desc).map (fun d => d.parameters.length) = some 2 := ⟨rfl, by decide, by decide, by decide +kernel⟩
abbrev b_M_parameter : ByteArray := prog_12_method_15_code
abbrev y_M_parameter : MethodName := ⟨"InferReduceModel", "parameter", "(II)I"⟩
theorem dd_M_parameter : y_M_parameter.cls = "InferReduceModel" ∧ y_M_parameter.cls ≠ "java/lang/invoke/MethodHandle" ∧ y_M_parameter.cls ≠ "java/lang/invoke/VarHandle" ∧ (parseMethodDescriptor y_M_parameter.desc).map (fun d => d.parameters.length) = some 2 := ⟨rfl, by decide, by decide, by decide +kernel⟩
abbrev b_M_array : ByteArray := prog_12_method_16_code
abbrev y_M_array : MethodName := ⟨"InferReduceModel", "array", "(I)I"⟩
theorem dd_M_array : y_M_array.cls = "InferReduceModel" ∧ y_M_array.cls ≠ "java/lang/invoke/MethodHandle" ∧ y_M_array.cls ≠ "java/lang/invoke/VarHandle" ∧ (parseMethodDescriptor y_M_array.desc).map (fun d => d.parameters.length) = some 1 := ⟨rfl, by decide, by decide, by decide +kernel⟩
abbrev b_M_primitive : ByteArray := prog_12_method_17_code
abbrev y_M_primitive : MethodName := ⟨"InferReduceModel", "primitive", "(I)I"⟩
theorem dd_M_primitive : y_M_primitive.cls = "InferReduceModel" ∧ y_M_primitive.cls ≠ "java/lang/invoke/MethodHandle" ∧ y_M_primitive.cls ≠ "java/lang/invoke/VarHandle" ∧ (parseMethodDescriptor y_M_primitive.desc).map (fun d => d.parameters.length) = some 1 := ⟨rfl, by decide, by decide, by decide +kernel⟩
abbrev b_M_nothing : ByteArray := prog_12_method_18_code
abbrev y_M_nothing : MethodName := ⟨"InferReduceModel", "nothing", "()I"⟩
theorem dd_M_nothing : y_M_nothing.cls = "InferReduceModel" ∧ y_M_nothing.cls ≠ "java/lang/invoke/MethodHandle" ∧ y_M_nothing.cls ≠ "java/lang/invoke/VarHandle" ∧ (parseMethodDescriptor y_M_nothing.desc).map (fun d => d.parameters.length) = some 0 := ⟨rfl, by decide, by decide, by decide +kernel⟩
abbrev b_M_variable : ByteArray := prog_12_method_19_code
abbrev y_M_variable : MethodName := ⟨"InferReduceModel", "variable", "()I"⟩
theorem dd_M_variable : y_M_variable.cls = "InferReduceModel" ∧ y_M_variable.cls ≠ "java/lang/invoke/MethodHandle" ∧ y_M_variable.cls ≠ "java/lang/invoke/VarHandle" ∧ (parseMethodDescriptor y_M_variable.desc).map (fun d => d.parameters.length) = some 0 := ⟨rfl, by decide, by decide, by decide +kernel⟩
abbrev b_M_inPlaceOf : ByteArray := prog_12_method_20_code
abbrev y_M_inPlaceOf : MethodName := ⟨"InferReduceModel", "inPlaceOf", "(II)I"⟩
theorem dd_M_inPlaceOf : y_M_inPlaceOf.cls = "InferReduceModel" ∧ y_M_inPlaceOf.cls ≠ "java/lang/invoke/MethodHandle" ∧ y_M_inPlaceOf.cls ≠ "java/lang/invoke/VarHandle" ∧ (parseMethodDescriptor y_M_inPlaceOf.desc).map (fun d => d.parameters.length) = some 2 := ⟨rfl, by decide, by decide, by decide +kernel⟩
abbrev b_M_innerOf : ByteArray := prog_12_method_21_code
abbrev y_M_innerOf : MethodName := ⟨"InferReduceModel", "innerOf", "(II)I"⟩
theorem dd_M_innerOf : y_M_innerOf.cls = "InferReduceModel" ∧ y_M_innerOf.cls ≠ "java/lang/invoke/MethodHandle" ∧ y_M_innerOf.cls ≠ "java/lang/invoke/VarHandle" ∧ (parseMethodDescriptor y_M_innerOf.desc).map (fun d => d.parameters.length) = some 2 := ⟨rfl, by decide, by decide, by decide +kernel⟩
abbrev b_M_isSeen : ByteArray := prog_12_method_22_code
abbrev y_M_isSeen : MethodName := ⟨"InferReduceModel", "isSeen", "(I)Z"⟩
theorem dd_M_isSeen : y_M_isSeen.cls = "InferReduceModel" ∧ y_M_isSeen.cls ≠ "java/lang/invoke/MethodHandle" ∧ y_M_isSeen.cls ≠ "java/lang/invoke/VarHandle" ∧ (parseMethodDescriptor y_M_isSeen.desc).map (fun d => d.parameters.length) = some 1 := ⟨rfl, by decide, by decide, by decide +kernel⟩
abbrev b_M_replaced : ByteArray := prog_12_method_23_code
abbrev y_M_replaced : MethodName := ⟨"InferReduceModel", "replaced", "(II)I"⟩
theorem dd_M_replaced : y_M_replaced.cls = "InferReduceModel" ∧ y_M_replaced.cls ≠ "java/lang/invoke/MethodHandle" ∧ y_M_replaced.cls ≠ "java/lang/invoke/VarHandle" ∧ (parseMethodDescriptor y_M_replaced.desc).map (fun d => d.parameters.length) = some 2 := ⟨rfl, by decide, by decide, by decide +kernel⟩
abbrev b_M_aboveOf : ByteArray := prog_12_method_24_code
abbrev y_M_aboveOf : MethodName := ⟨"InferReduceModel", "aboveOf", "(II)I"⟩
theorem dd_M_aboveOf : y_M_aboveOf.cls = "InferReduceModel" ∧ y_M_aboveOf.cls ≠ "java/lang/invoke/MethodHandle" ∧ y_M_aboveOf.cls ≠ "java/lang/invoke/VarHandle" ∧ (parseMethodDescriptor y_M_aboveOf.desc).map (fun d => d.parameters.length) = some 2 := ⟨rfl, by decide, by decide, by decide +kernel⟩
abbrev b_M_push : ByteArray := prog_12_method_25_code
abbrev y_M_push : MethodName := ⟨"InferReduceModel", "push", "(III)V"⟩
theorem dd_M_push : y_M_push.cls = "InferReduceModel" ∧ y_M_push.cls ≠ "java/lang/invoke/MethodHandle" ∧ y_M_push.cls ≠ "java/lang/invoke/VarHandle" ∧ (parseMethodDescriptor y_M_push.desc).map (fun d => d.parameters.length) = some 3 := ⟨rfl, by decide, by decide, by decide +kernel⟩
abbrev b_M_above : ByteArray := prog_12_method_26_code
abbrev y_M_above : MethodName := ⟨"InferReduceModel", "above", "(II)I"⟩
theorem dd_M_above : y_M_above.cls = "InferReduceModel" ∧ y_M_above.cls ≠ "java/lang/invoke/MethodHandle" ∧ y_M_above.cls ≠ "java/lang/invoke/VarHandle" ∧ (parseMethodDescriptor y_M_above.desc).map (fun d => d.parameters.length) = some 2 := ⟨rfl, by decide, by decide, by decide +kernel⟩
abbrev b_M_then : ByteArray := prog_12_method_27_code
abbrev y_M_then : MethodName := ⟨"InferReduceModel", "then", "(III)Z"⟩
theorem dd_M_then : y_M_then.cls = "InferReduceModel" ∧ y_M_then.cls ≠ "java/lang/invoke/MethodHandle" ∧ y_M_then.cls ≠ "java/lang/invoke/VarHandle" ∧ (parseMethodDescriptor y_M_then.desc).map (fun d => d.parameters.length) = some 3 := ⟨rfl, by decide, by decide, by decide +kernel⟩
abbrev b_M_less : ByteArray := prog_12_method_28_code
abbrev y_M_less : MethodName := ⟨"InferReduceModel", "less", "(III)Z"⟩
theorem dd_M_less : y_M_less.cls = "InferReduceModel" ∧ y_M_less.cls ≠ "java/lang/invoke/MethodHandle" ∧ y_M_less.cls ≠ "java/lang/invoke/VarHandle" ∧ (parseMethodDescriptor y_M_less.desc).map (fun d => d.parameters.length) = some 3 := ⟨rfl, by decide, by decide, by decide +kernel⟩
abbrev b_M_step : ByteArray := prog_12_method_29_code
abbrev y_M_step : MethodName := ⟨"InferReduceModel", "step", "(III)Z"⟩
theorem dd_M_step : y_M_step.cls = "InferReduceModel" ∧ y_M_step.cls ≠ "java/lang/invoke/MethodHandle" ∧ y_M_step.cls ≠ "java/lang/invoke/VarHandle" ∧ (parseMethodDescriptor y_M_step.desc).map (fun d => d.parameters.length) = some 3 := ⟨rfl, by decide, by decide, by decide +kernel⟩
abbrev b_M_isWidened : ByteArray := prog_12_method_30_code
abbrev y_M_isWidened : MethodName := ⟨"InferReduceModel", "isWidened", "(II)Z"⟩
theorem dd_M_isWidened : y_M_isWidened.cls ≠ "java/lang/invoke/MethodHandle" ∧ y_M_isWidened.cls ≠ "java/lang/invoke/VarHandle" ∧ (parseMethodDescriptor y_M_isWidened.desc).map (fun d => d.parameters.length) = some 2 := ⟨by decide, by decide, by decide +kernel⟩
abbrev b_M_boxOf : ByteArray := prog_12_method_31_code
abbrev y_M_boxOf : MethodName := ⟨"InferReduceModel", "boxOf", "(I)I"⟩
theorem dd_M_boxOf : y_M_boxOf.cls = "InferReduceModel" ∧ y_M_boxOf.cls ≠ "java/lang/invoke/MethodHandle" ∧ y_M_boxOf.cls ≠ "java/lang/invoke/VarHandle" ∧ (parseMethodDescriptor y_M_boxOf.desc).map (fun d => d.parameters.length) = some 1 := ⟨rfl, by decide, by decide, by decide +kernel⟩
abbrev b_M_compatible : ByteArray := prog_12_method_32_code
abbrev y_M_compatible : MethodName := ⟨"InferReduceModel", "compatible", "(II)Z"⟩
theorem dd_M_compatible : y_M_compatible.cls = "InferReduceModel" ∧ y_M_compatible.cls ≠ "java/lang/invoke/MethodHandle" ∧ y_M_compatible.cls ≠ "java/lang/invoke/VarHandle" ∧ (parseMethodDescriptor y_M_compatible.desc).map (fun d => d.parameters.length) = some 2 := ⟨rfl, by decide, by decide, by decide +kernel⟩
abbrev b_M_sub : ByteArray := prog_12_method_33_code
abbrev y_M_sub : MethodName := ⟨"InferReduceModel", "sub", "(II)Z"⟩
theorem dd_M_sub : y_M_sub.cls = "InferReduceModel" ∧ y_M_sub.cls ≠ "java/lang/invoke/MethodHandle" ∧ y_M_sub.cls ≠ "java/lang/invoke/VarHandle" ∧ (parseMethodDescriptor y_M_sub.desc).map (fun d => d.parameters.length) = some 2 := ⟨rfl, by decide, by decide, by decide +kernel⟩
abbrev b_M_contained : ByteArray := prog_12_method_34_code
abbrev y_M_contained : MethodName := ⟨"InferReduceModel", "contained", "(II)Z"⟩
theorem dd_M_contained : y_M_contained.cls = "InferReduceModel" ∧ y_M_contained.cls ≠ "java/lang/invoke/MethodHandle" ∧ y_M_contained.cls ≠ "java/lang/invoke/VarHandle" ∧ (parseMethodDescriptor y_M_contained.desc).map (fun d => d.parameters.length) = some 2 := ⟨rfl, by decide, by decide, by decide +kernel⟩
abbrev b_M_equal : ByteArray := prog_12_method_35_code
abbrev y_M_equal : MethodName := ⟨"InferReduceModel", "equal", "(II)Z"⟩
theorem dd_M_equal : y_M_equal.cls = "InferReduceModel" ∧ y_M_equal.cls ≠ "java/lang/invoke/MethodHandle" ∧ y_M_equal.cls ≠ "java/lang/invoke/VarHandle" ∧ (parseMethodDescriptor y_M_equal.desc).map (fun d => d.parameters.length) = some 2 := ⟨rfl, by decide, by decide, by decide +kernel⟩
abbrev b_M_bind : ByteArray := prog_12_method_36_code
abbrev y_M_bind : MethodName := ⟨"InferReduceModel", "bind", "(III)V"⟩
theorem dd_M_bind : y_M_bind.cls = "InferReduceModel" ∧ y_M_bind.cls ≠ "java/lang/invoke/MethodHandle" ∧ y_M_bind.cls ≠ "java/lang/invoke/VarHandle" ∧ (parseMethodDescriptor y_M_bind.desc).map (fun d => d.parameters.length) = some 3 := ⟨rfl, by decide, by decide, by decide +kernel⟩
abbrev b_M_isBelow : ByteArray := prog_12_method_37_code
abbrev y_M_isBelow : MethodName := ⟨"InferReduceModel", "isBelow", "(II)Z"⟩
theorem dd_M_isBelow : y_M_isBelow.cls = "InferReduceModel" ∧ y_M_isBelow.cls ≠ "java/lang/invoke/MethodHandle" ∧ y_M_isBelow.cls ≠ "java/lang/invoke/VarHandle" ∧ (parseMethodDescriptor y_M_isBelow.desc).map (fun d => d.parameters.length) = some 2 := ⟨rfl, by decide, by decide, by decide +kernel⟩
abbrev b_M_isSame : ByteArray := prog_12_method_38_code
abbrev y_M_isSame : MethodName := ⟨"InferReduceModel", "isSame", "(II)Z"⟩
theorem dd_M_isSame : y_M_isSame.cls = "InferReduceModel" ∧ y_M_isSame.cls ≠ "java/lang/invoke/MethodHandle" ∧ y_M_isSame.cls ≠ "java/lang/invoke/VarHandle" ∧ (parseMethodDescriptor y_M_isSame.desc).map (fun d => d.parameters.length) = some 2 := ⟨rfl, by decide, by decide, by decide +kernel⟩
abbrev b_M_hold : ByteArray := prog_12_method_39_code
abbrev y_M_hold : MethodName := ⟨"InferReduceModel", "hold", "()Z"⟩
theorem dd_M_hold : y_M_hold.cls = "InferReduceModel" ∧ y_M_hold.cls ≠ "java/lang/invoke/MethodHandle" ∧ y_M_hold.cls ≠ "java/lang/invoke/VarHandle" ∧ (parseMethodDescriptor y_M_hold.desc).map (fun d => d.parameters.length) = some 0 := ⟨rfl, by decide, by decide, by decide +kernel⟩
abbrev b_M_holdBoth : ByteArray := prog_12_method_40_code
abbrev y_M_holdBoth : MethodName := ⟨"InferReduceModel", "holdBoth", "(IIZ)Z"⟩
theorem dd_M_holdBoth : y_M_holdBoth.cls = "InferReduceModel" ∧ y_M_holdBoth.cls ≠ "java/lang/invoke/MethodHandle" ∧ y_M_holdBoth.cls ≠ "java/lang/invoke/VarHandle" ∧ (parseMethodDescriptor y_M_holdBoth.desc).map (fun d => d.parameters.length) = some 3 := ⟨rfl, by decide, by decide, by decide +kernel⟩
abbrev b_M_isIn : ByteArray := prog_12_method_41_code
abbrev y_M_isIn : MethodName := ⟨"InferReduceModel", "isIn", "(II)Z"⟩
theorem dd_M_isIn : y_M_isIn.cls = "InferReduceModel" ∧ y_M_isIn.cls ≠ "java/lang/invoke/MethodHandle" ∧ y_M_isIn.cls ≠ "java/lang/invoke/VarHandle" ∧ (parseMethodDescriptor y_M_isIn.desc).map (fun d => d.parameters.length) = some 2 := ⟨rfl, by decide, by decide, by decide +kernel⟩
abbrev b_M_holdIn : ByteArray := prog_12_method_42_code
abbrev y_M_holdIn : MethodName := ⟨"InferReduceModel", "holdIn", "(II)Z"⟩
theorem dd_M_holdIn : y_M_holdIn.cls = "InferReduceModel" ∧ y_M_holdIn.cls ≠ "java/lang/invoke/MethodHandle" ∧ y_M_holdIn.cls ≠ "java/lang/invoke/VarHandle" ∧ (parseMethodDescriptor y_M_holdIn.desc).map (fun d => d.parameters.length) = some 2 := ⟨rfl, by decide, by decide, by decide +kernel⟩
abbrev b_M_holdArguments : ByteArray := prog_12_method_43_code
abbrev y_M_holdArguments : MethodName := ⟨"InferReduceModel", "holdArguments", "(II)Z"⟩
theorem dd_M_holdArguments : y_M_holdArguments.cls = "InferReduceModel" ∧ y_M_holdArguments.cls ≠ "java/lang/invoke/MethodHandle" ∧ y_M_holdArguments.cls ≠ "java/lang/invoke/VarHandle" ∧ (parseMethodDescriptor y_M_holdArguments.desc).map (fun d => d.parameters.length) = some 2 := ⟨rfl, by decide, by decide, by decide +kernel⟩
abbrev b_M_isThere : ByteArray := prog_12_method_44_code
abbrev y_M_isThere : MethodName := ⟨"InferReduceModel", "isThere", "(I)Z"⟩
theorem dd_M_isThere : y_M_isThere.cls = "InferReduceModel" ∧ y_M_isThere.cls ≠ "java/lang/invoke/MethodHandle" ∧ y_M_isThere.cls ≠ "java/lang/invoke/VarHandle" ∧ (parseMethodDescriptor y_M_isThere.desc).map (fun d => d.parameters.length) = some 1 := ⟨rfl, by decide, by decide, by decide +kernel⟩
abbrev b_M_formula : ByteArray := prog_12_method_45_code
abbrev y_M_formula : MethodName := ⟨"InferReduceModel", "formula", "(III)I"⟩
theorem dd_M_formula : y_M_formula.cls = "InferReduceModel" ∧ y_M_formula.cls ≠ "java/lang/invoke/MethodHandle" ∧ y_M_formula.cls ≠ "java/lang/invoke/VarHandle" ∧ (parseMethodDescriptor y_M_formula.desc).map (fun d => d.parameters.length) = some 3 := ⟨rfl, by decide, by decide, by decide +kernel⟩
abbrev b_M_begin : ByteArray := prog_12_method_46_code
abbrev y_M_begin : MethodName := ⟨"InferReduceModel", "begin", "(I)V"⟩
theorem dd_M_begin : y_M_begin.cls = "InferReduceModel" ∧ y_M_begin.cls ≠ "java/lang/invoke/MethodHandle" ∧ y_M_begin.cls ≠ "java/lang/invoke/VarHandle" ∧ (parseMethodDescriptor y_M_begin.desc).map (fun d => d.parameters.length) = some 1 := ⟨rfl, by decide, by decide, by decide +kernel⟩
abbrev b_M_settle : ByteArray := prog_12_method_47_code
abbrev y_M_settle : MethodName := ⟨"InferReduceModel", "settle", "(ZI)V"⟩
theorem dd_M_settle : y_M_settle.cls = "InferReduceModel" ∧ y_M_settle.cls ≠ "java/lang/invoke/MethodHandle" ∧ y_M_settle.cls ≠ "java/lang/invoke/VarHandle" ∧ (parseMethodDescriptor y_M_settle.desc).map (fun d => d.parameters.length) = some 2 := ⟨rfl, by decide, by decide, by decide +kernel⟩
abbrev b_M_clear : ByteArray := prog_12_method_48_code
abbrev y_M_clear : MethodName := ⟨"InferReduceModel", "clear", "()I"⟩
theorem dd_M_clear : y_M_clear.cls = "InferReduceModel" ∧ y_M_clear.cls ≠ "java/lang/invoke/MethodHandle" ∧ y_M_clear.cls ≠ "java/lang/invoke/VarHandle" ∧ (parseMethodDescriptor y_M_clear.desc).map (fun d => d.parameters.length) = some 0 := ⟨rfl, by decide, by decide, by decide +kernel⟩
abbrev b_M_instanceOf : ByteArray := prog_12_method_49_code
abbrev y_M_instanceOf : MethodName := ⟨"InferReduceModel", "instanceOf", "(I)I"⟩
theorem dd_M_instanceOf : y_M_instanceOf.cls = "InferReduceModel" ∧ y_M_instanceOf.cls ≠ "java/lang/invoke/MethodHandle" ∧ y_M_instanceOf.cls ≠ "java/lang/invoke/VarHandle" ∧ (parseMethodDescriptor y_M_instanceOf.desc).map (fun d => d.parameters.length) = some 1 := ⟨rfl, by decide, by decide, by decide +kernel⟩
abbrev b_M_isLinked : ByteArray := prog_12_method_50_code
abbrev y_M_isLinked : MethodName := ⟨"InferReduceModel", "isLinked", "(II)Z"⟩
theorem dd_M_isLinked : y_M_isLinked.cls = "InferReduceModel" ∧ y_M_isLinked.cls ≠ "java/lang/invoke/MethodHandle" ∧ y_M_isLinked.cls ≠ "java/lang/invoke/VarHandle" ∧ (parseMethodDescriptor y_M_isLinked.desc).map (fun d => d.parameters.length) = some 2 := ⟨rfl, by decide, by decide, by decide +kernel⟩
abbrev b_M_depends : ByteArray := prog_12_method_51_code
abbrev y_M_depends : MethodName := ⟨"InferReduceModel", "depends", "(I)I"⟩
theorem dd_M_depends : y_M_depends.cls = "InferReduceModel" ∧ y_M_depends.cls ≠ "java/lang/invoke/MethodHandle" ∧ y_M_depends.cls ≠ "java/lang/invoke/VarHandle" ∧ (parseMethodDescriptor y_M_depends.desc).map (fun d => d.parameters.length) = some 1 := ⟨rfl, by decide, by decide, by decide +kernel⟩
abbrev b_M_resolve : ByteArray := prog_12_method_52_code
abbrev y_M_resolve : MethodName := ⟨"InferReduceModel", "resolve", "()I"⟩
theorem dd_M_resolve : y_M_resolve.cls = "InferReduceModel" ∧ y_M_resolve.cls ≠ "java/lang/invoke/MethodHandle" ∧ y_M_resolve.cls ≠ "java/lang/invoke/VarHandle" ∧ (parseMethodDescriptor y_M_resolve.desc).map (fun d => d.parameters.length) = some 0 := ⟨rfl, by decide, by decide, by decide +kernel⟩
abbrev b_M_chooseAll : ByteArray := prog_12_method_53_code
abbrev y_M_chooseAll : MethodName := ⟨"InferReduceModel", "chooseAll", "()Z"⟩
theorem dd_M_chooseAll : y_M_chooseAll.cls = "InferReduceModel" ∧ y_M_chooseAll.cls ≠ "java/lang/invoke/MethodHandle" ∧ y_M_chooseAll.cls ≠ "java/lang/invoke/VarHandle" ∧ (parseMethodDescriptor y_M_chooseAll.desc).map (fun d => d.parameters.length) = some 0 := ⟨rfl, by decide, by decide, by decide +kernel⟩
abbrev b_M_collect : ByteArray := prog_12_method_54_code
abbrev y_M_collect : MethodName := ⟨"InferReduceModel", "collect", "(II)V"⟩
theorem dd_M_collect : y_M_collect.cls = "InferReduceModel" ∧ y_M_collect.cls ≠ "java/lang/invoke/MethodHandle" ∧ y_M_collect.cls ≠ "java/lang/invoke/VarHandle" ∧ (parseMethodDescriptor y_M_collect.desc).map (fun d => d.parameters.length) = some 2 := ⟨rfl, by decide, by decide, by decide +kernel⟩
abbrev b_M_choose : ByteArray := prog_12_method_55_code
abbrev y_M_choose : MethodName := ⟨"InferReduceModel", "choose", "(I)I"⟩
theorem dd_M_choose : y_M_choose.cls = "InferReduceModel" ∧ y_M_choose.cls ≠ "java/lang/invoke/MethodHandle" ∧ y_M_choose.cls ≠ "java/lang/invoke/VarHandle" ∧ (parseMethodDescriptor y_M_choose.desc).map (fun d => d.parameters.length) = some 1 := ⟨rfl, by decide, by decide, by decide +kernel⟩
abbrev b_M_extreme : ByteArray := prog_12_method_56_code
abbrev y_M_extreme : MethodName := ⟨"InferReduceModel", "extreme", "(Z)I"⟩
theorem dd_M_extreme : y_M_extreme.cls = "InferReduceModel" ∧ y_M_extreme.cls ≠ "java/lang/invoke/MethodHandle" ∧ y_M_extreme.cls ≠ "java/lang/invoke/VarHandle" ∧ (parseMethodDescriptor y_M_extreme.desc).map (fun d => d.parameters.length) = some 1 := ⟨rfl, by decide, by decide, by decide +kernel⟩
abbrev b_M_join : ByteArray := prog_12_method_57_code
abbrev y_M_join : MethodName := ⟨"InferReduceModel", "join", "()I"⟩
theorem dd_M_join : y_M_join.cls = "InferReduceModel" ∧ y_M_join.cls ≠ "java/lang/invoke/MethodHandle" ∧ y_M_join.cls ≠ "java/lang/invoke/VarHandle" ∧ (parseMethodDescriptor y_M_join.desc).map (fun d => d.parameters.length) = some 0 := ⟨rfl, by decide, by decide, by decide +kernel⟩
abbrev b_M_joined : ByteArray := prog_12_method_58_code
abbrev y_M_joined : MethodName := ⟨"InferReduceModel", "joined", "(I)I"⟩
theorem dd_M_joined : y_M_joined.cls = "InferReduceModel" ∧ y_M_joined.cls ≠ "java/lang/invoke/MethodHandle" ∧ y_M_joined.cls ≠ "java/lang/invoke/VarHandle" ∧ (parseMethodDescriptor y_M_joined.desc).map (fun d => d.parameters.length) = some 1 := ⟨rfl, by decide, by decide, by decide +kernel⟩
abbrev b_M_count : ByteArray := prog_12_method_59_code
abbrev y_M_count : MethodName := ⟨"InferReduceModel", "count", "(I)I"⟩
theorem dd_M_count : y_M_count.cls = "InferReduceModel" ∧ y_M_count.cls ≠ "java/lang/invoke/MethodHandle" ∧ y_M_count.cls ≠ "java/lang/invoke/VarHandle" ∧ (parseMethodDescriptor y_M_count.desc).map (fun d => d.parameters.length) = some 1 := ⟨rfl, by decide, by decide, by decide +kernel⟩
abbrev b_M_type : ByteArray := prog_12_method_60_code
abbrev y_M_type : MethodName := ⟨"InferReduceModel", "type", "(II)I"⟩
theorem dd_M_type : y_M_type.cls = "InferReduceModel" ∧ y_M_type.cls ≠ "java/lang/invoke/MethodHandle" ∧ y_M_type.cls ≠ "java/lang/invoke/VarHandle" ∧ (parseMethodDescriptor y_M_type.desc).map (fun d => d.parameters.length) = some 2 := ⟨rfl, by decide, by decide, by decide +kernel⟩
abbrev b_M_bound : ByteArray := prog_12_method_61_code
abbrev y_M_bound : MethodName := ⟨"InferReduceModel", "bound", "(II)I"⟩
theorem dd_M_bound : y_M_bound.cls = "InferReduceModel" ∧ y_M_bound.cls ≠ "java/lang/invoke/MethodHandle" ∧ y_M_bound.cls ≠ "java/lang/invoke/VarHandle" ∧ (parseMethodDescriptor y_M_bound.desc).map (fun d => d.parameters.length) = some 2 := ⟨rfl, by decide, by decide, by decide +kernel⟩
abbrev b_M_instance : ByteArray := prog_12_method_62_code
abbrev y_M_instance : MethodName := ⟨"InferReduceModel", "instance", "(I)I"⟩
theorem dd_M_instance : y_M_instance.cls = "InferReduceModel" ∧ y_M_instance.cls ≠ "java/lang/invoke/MethodHandle" ∧ y_M_instance.cls ≠ "java/lang/invoke/VarHandle" ∧ (parseMethodDescriptor y_M_instance.desc).map (fun d => d.parameters.length) = some 1 := ⟨rfl, by decide, by decide, by decide +kernel⟩
abbrev b_M_unchecked : ByteArray := prog_12_method_63_code
abbrev y_M_unchecked : MethodName := ⟨"InferReduceModel", "unchecked", "(I)I"⟩
theorem dd_M_unchecked : y_M_unchecked.cls = "InferReduceModel" ∧ y_M_unchecked.cls ≠ "java/lang/invoke/MethodHandle" ∧ y_M_unchecked.cls ≠ "java/lang/invoke/VarHandle" ∧ (parseMethodDescriptor y_M_unchecked.desc).map (fun d => d.parameters.length) = some 1 := ⟨rfl, by decide, by decide, by decide +kernel⟩
abbrev b_M_judge : ByteArray := prog_12_method_64_code
abbrev y_M_judge : MethodName := ⟨"InferReduceModel", "judge", "(I)I"⟩
theorem dd_M_judge : y_M_judge.cls = "InferReduceModel" ∧ y_M_judge.cls ≠ "java/lang/invoke/MethodHandle" ∧ y_M_judge.cls ≠ "java/lang/invoke/VarHandle" ∧ (parseMethodDescriptor y_M_judge.desc).map (fun d => d.parameters.length) = some 1 := ⟨rfl, by decide, by decide, by decide +kernel⟩
abbrev b_Integer_bitCount : ByteArray := prog_13_method_49_code
abbrev y_Integer_bitCount : MethodName := ⟨"java/lang/Integer", "bitCount", "(I)I"⟩
theorem dd_Integer_bitCount : y_Integer_bitCount.cls ≠ "java/lang/invoke/MethodHandle" ∧ y_Integer_bitCount.cls ≠ "java/lang/invoke/VarHandle" ∧ (parseMethodDescriptor y_Integer_bitCount.desc).map (fun d => d.parameters.length) = some 1 := ⟨by decide, by decide, by decide +kernel⟩
abbrev b_Arrays_fill : ByteArray := prog_14_method_103_code
abbrev y_Arrays_fill : MethodName := ⟨"java/util/Arrays", "fill", "([II)V"⟩
theorem dd_Arrays_fill : y_Arrays_fill.cls ≠ "java/lang/invoke/MethodHandle" ∧ y_Arrays_fill.cls ≠ "java/lang/invoke/VarHandle" ∧ (parseMethodDescriptor y_Arrays_fill.desc).map (fun d => d.parameters.length) = some 2 := ⟨by decide, by decide, by decide +kernel⟩
end
section
theorem d_Bounds_init_0 : decode b_Bounds_init 0 = .ok (.aload_n 0, 1) := by decide +kernel
theorem d_Bounds_init_1 : decode b_Bounds_init 1 = .ok (.invokespecial 3, 3) := by decide +kernel
theorem d_Bounds_init_4 : decode b_Bounds_init 4 = .ok (.aload_n 0, 1) := by decide +kernel
theorem d_Bounds_init_5 : decode b_Bounds_init 5 = .ok (.sipush 200, 3) := by decide +kernel
theorem d_Bounds_init_8 : decode b_Bounds_init 8 = .ok (.newarray .int, 2) := by decide +kernel
theorem d_Bounds_init_10 : decode b_Bounds_init 10 = .ok (.putfield 9, 3) := by decide +kernel
theorem d_Bounds_init_13 : decode b_Bounds_init 13 = .ok (.aload_n 0, 1) := by decide +kernel
theorem d_Bounds_init_14 : decode b_Bounds_init 14 = .ok (.sipush 200, 3) := by decide +kernel
theorem d_Bounds_init_17 : decode b_Bounds_init 17 = .ok (.newarray .int, 2) := by decide +kernel
theorem d_Bounds_init_19 : decode b_Bounds_init 19 = .ok (.putfield 15, 3) := by decide +kernel
theorem d_Bounds_init_22 : decode b_Bounds_init 22 = .ok (.aload_n 0, 1) := by decide +kernel
theorem d_Bounds_init_23 : decode b_Bounds_init 23 = .ok (.sipush 200, 3) := by decide +kernel
theorem d_Bounds_init_26 : decode b_Bounds_init 26 = .ok (.newarray .int, 2) := by decide +kernel
theorem d_Bounds_init_28 : decode b_Bounds_init 28 = .ok (.putfield 18, 3) := by decide +kernel
theorem d_Bounds_init_31 : decode b_Bounds_init 31 = .ok (.aload_n 0, 1) := by decide +kernel
theorem d_Bounds_init_32 : decode b_Bounds_init 32 = .ok (.sipush 200, 3) := by decide +kernel
theorem d_Bounds_init_35 : decode b_Bounds_init 35 = .ok (.newarray .int, 2) := by decide +kernel
theorem d_Bounds_init_37 : decode b_Bounds_init 37 = .ok (.putfield 21, 3) := by decide +kernel
theorem d_Bounds_init_40 : decode b_Bounds_init 40 = .ok (.return_, 1) := by decide +kernel
theorem d_Bounds_has_0 : decode b_Bounds_has 0 = .ok (.iload_n 1, 1) := by decide +kernel
theorem d_Bounds_has_1 : decode b_Bounds_has 1 = .ok (.ifCond .lt 15, 3) := by decide +kernel
theorem d_Bounds_has_4 : decode b_Bounds_has 4 = .ok (.iload_n 1, 1) := by decide +kernel
theorem d_Bounds_has_5 : decode b_Bounds_has 5 = .ok (.aload_n 0, 1) := by decide +kernel
theorem d_Bounds_has_6 : decode b_Bounds_has 6 = .ok (.getfield 24, 3) := by decide +kernel
theorem d_Bounds_has_9 : decode b_Bounds_has 9 = .ok (.if_icmp .ge 7, 3) := by decide +kernel
theorem d_Bounds_has_12 : decode b_Bounds_has 12 = .ok (.iconst 1, 1) := by decide +kernel
theorem d_Bounds_has_13 : decode b_Bounds_has 13 = .ok (.goto 4, 3) := by decide +kernel
theorem d_Bounds_has_16 : decode b_Bounds_has 16 = .ok (.iconst 0, 1) := by decide +kernel
theorem d_Bounds_has_17 : decode b_Bounds_has 17 = .ok (.ireturn, 1) := by decide +kernel
theorem d_Bounds_sortOf_0 : decode b_Bounds_sortOf 0 = .ok (.iload_n 1, 1) := by decide +kernel
theorem d_Bounds_sortOf_1 : decode b_Bounds_sortOf 1 = .ok (.ifCond .lt 20, 3) := by decide +kernel
theorem d_Bounds_sortOf_4 : decode b_Bounds_sortOf 4 = .ok (.iload_n 1, 1) := by decide +kernel
theorem d_Bounds_sortOf_5 : decode b_Bounds_sortOf 5 = .ok (.aload_n 0, 1) := by decide +kernel
theorem d_Bounds_sortOf_6 : decode b_Bounds_sortOf 6 = .ok (.getfield 24, 3) := by decide +kernel
theorem d_Bounds_sortOf_9 : decode b_Bounds_sortOf 9 = .ok (.if_icmp .ge 12, 3) := by decide +kernel
theorem d_Bounds_sortOf_12 : decode b_Bounds_sortOf 12 = .ok (.aload_n 0, 1) := by decide +kernel
theorem d_Bounds_sortOf_13 : decode b_Bounds_sortOf 13 = .ok (.getfield 9, 3) := by decide +kernel
theorem d_Bounds_sortOf_16 : decode b_Bounds_sortOf 16 = .ok (.iload_n 1, 1) := by decide +kernel
theorem d_Bounds_sortOf_17 : decode b_Bounds_sortOf 17 = .ok (.iaload, 1) := by decide +kernel
theorem d_Bounds_sortOf_18 : decode b_Bounds_sortOf 18 = .ok (.goto 4, 3) := by decide +kernel
theorem d_Bounds_sortOf_21 : decode b_Bounds_sortOf 21 = .ok (.iconst (-1), 1) := by decide +kernel
theorem d_Bounds_sortOf_22 : decode b_Bounds_sortOf 22 = .ok (.ireturn, 1) := by decide +kernel
theorem d_Bounds_variableOf_0 : decode b_Bounds_variableOf 0 = .ok (.iload_n 1, 1) := by decide +kernel
theorem d_Bounds_variableOf_1 : decode b_Bounds_variableOf 1 = .ok (.ifCond .lt 20, 3) := by decide +kernel
theorem d_Bounds_variableOf_4 : decode b_Bounds_variableOf 4 = .ok (.iload_n 1, 1) := by decide +kernel
theorem d_Bounds_variableOf_5 : decode b_Bounds_variableOf 5 = .ok (.aload_n 0, 1) := by decide +kernel
theorem d_Bounds_variableOf_6 : decode b_Bounds_variableOf 6 = .ok (.getfield 24, 3) := by decide +kernel
theorem d_Bounds_variableOf_9 : decode b_Bounds_variableOf 9 = .ok (.if_icmp .ge 12, 3) := by decide +kernel
theorem d_Bounds_variableOf_12 : decode b_Bounds_variableOf 12 = .ok (.aload_n 0, 1) := by decide +kernel
theorem d_Bounds_variableOf_13 : decode b_Bounds_variableOf 13 = .ok (.getfield 15, 3) := by decide +kernel
theorem d_Bounds_variableOf_16 : decode b_Bounds_variableOf 16 = .ok (.iload_n 1, 1) := by decide +kernel
theorem d_Bounds_variableOf_17 : decode b_Bounds_variableOf 17 = .ok (.iaload, 1) := by decide +kernel
theorem d_Bounds_variableOf_18 : decode b_Bounds_variableOf 18 = .ok (.goto 4, 3) := by decide +kernel
theorem d_Bounds_variableOf_21 : decode b_Bounds_variableOf 21 = .ok (.iconst (-1), 1) := by decide +kernel
theorem d_Bounds_variableOf_22 : decode b_Bounds_variableOf 22 = .ok (.ireturn, 1) := by decide +kernel
theorem d_Bounds_typeOf_0 : decode b_Bounds_typeOf 0 = .ok (.iload_n 1, 1) := by decide +kernel
theorem d_Bounds_typeOf_1 : decode b_Bounds_typeOf 1 = .ok (.ifCond .lt 20, 3) := by decide +kernel
theorem d_Bounds_typeOf_4 : decode b_Bounds_typeOf 4 = .ok (.iload_n 1, 1) := by decide +kernel
theorem d_Bounds_typeOf_5 : decode b_Bounds_typeOf 5 = .ok (.aload_n 0, 1) := by decide +kernel
theorem d_Bounds_typeOf_6 : decode b_Bounds_typeOf 6 = .ok (.getfield 24, 3) := by decide +kernel
theorem d_Bounds_typeOf_9 : decode b_Bounds_typeOf 9 = .ok (.if_icmp .ge 12, 3) := by decide +kernel
theorem d_Bounds_typeOf_12 : decode b_Bounds_typeOf 12 = .ok (.aload_n 0, 1) := by decide +kernel
theorem d_Bounds_typeOf_13 : decode b_Bounds_typeOf 13 = .ok (.getfield 18, 3) := by decide +kernel
theorem d_Bounds_typeOf_16 : decode b_Bounds_typeOf 16 = .ok (.iload_n 1, 1) := by decide +kernel
theorem d_Bounds_typeOf_17 : decode b_Bounds_typeOf 17 = .ok (.iaload, 1) := by decide +kernel
theorem d_Bounds_typeOf_18 : decode b_Bounds_typeOf 18 = .ok (.goto 4, 3) := by decide +kernel
theorem d_Bounds_typeOf_21 : decode b_Bounds_typeOf 21 = .ok (.iconst (-1), 1) := by decide +kernel
theorem d_Bounds_typeOf_22 : decode b_Bounds_typeOf 22 = .ok (.ireturn, 1) := by decide +kernel
theorem d_Bounds_originOf_0 : decode b_Bounds_originOf 0 = .ok (.iload_n 1, 1) := by decide +kernel
theorem d_Bounds_originOf_1 : decode b_Bounds_originOf 1 = .ok (.ifCond .lt 20, 3) := by decide +kernel
theorem d_Bounds_originOf_4 : decode b_Bounds_originOf 4 = .ok (.iload_n 1, 1) := by decide +kernel
theorem d_Bounds_originOf_5 : decode b_Bounds_originOf 5 = .ok (.aload_n 0, 1) := by decide +kernel
theorem d_Bounds_originOf_6 : decode b_Bounds_originOf 6 = .ok (.getfield 24, 3) := by decide +kernel
theorem d_Bounds_originOf_9 : decode b_Bounds_originOf 9 = .ok (.if_icmp .ge 12, 3) := by decide +kernel
theorem d_Bounds_originOf_12 : decode b_Bounds_originOf 12 = .ok (.aload_n 0, 1) := by decide +kernel
theorem d_Bounds_originOf_13 : decode b_Bounds_originOf 13 = .ok (.getfield 21, 3) := by decide +kernel
theorem d_Bounds_originOf_16 : decode b_Bounds_originOf 16 = .ok (.iload_n 1, 1) := by decide +kernel
theorem d_Bounds_originOf_17 : decode b_Bounds_originOf 17 = .ok (.iaload, 1) := by decide +kernel
theorem d_Bounds_originOf_18 : decode b_Bounds_originOf 18 = .ok (.goto 4, 3) := by decide +kernel
theorem d_Bounds_originOf_21 : decode b_Bounds_originOf 21 = .ok (.iconst (-1), 1) := by decide +kernel
theorem d_Bounds_originOf_22 : decode b_Bounds_originOf 22 = .ok (.ireturn, 1) := by decide +kernel
theorem d_Bounds_add_0 : decode b_Bounds_add 0 = .ok (.iconst 0, 1) := by decide +kernel
theorem d_Bounds_add_1 : decode b_Bounds_add 1 = .ok (.istore 5, 2) := by decide +kernel
theorem d_Bounds_add_3 : decode b_Bounds_add 3 = .ok (.iload 5, 2) := by decide +kernel
theorem d_Bounds_add_5 : decode b_Bounds_add 5 = .ok (.aload_n 0, 1) := by decide +kernel
theorem d_Bounds_add_6 : decode b_Bounds_add 6 = .ok (.getfield 24, 3) := by decide +kernel
theorem d_Bounds_add_9 : decode b_Bounds_add 9 = .ok (.if_icmp .ge 44, 3) := by decide +kernel
theorem d_Bounds_add_12 : decode b_Bounds_add 12 = .ok (.aload_n 0, 1) := by decide +kernel
theorem d_Bounds_add_13 : decode b_Bounds_add 13 = .ok (.getfield 9, 3) := by decide +kernel
theorem d_Bounds_add_16 : decode b_Bounds_add 16 = .ok (.iload 5, 2) := by decide +kernel
theorem d_Bounds_add_18 : decode b_Bounds_add 18 = .ok (.iaload, 1) := by decide +kernel
theorem d_Bounds_add_19 : decode b_Bounds_add 19 = .ok (.iload_n 1, 1) := by decide +kernel
theorem d_Bounds_add_20 : decode b_Bounds_add 20 = .ok (.if_icmp .ne 27, 3) := by decide +kernel
theorem d_Bounds_add_23 : decode b_Bounds_add 23 = .ok (.aload_n 0, 1) := by decide +kernel
theorem d_Bounds_add_24 : decode b_Bounds_add 24 = .ok (.getfield 15, 3) := by decide +kernel
theorem d_Bounds_add_27 : decode b_Bounds_add 27 = .ok (.iload 5, 2) := by decide +kernel
theorem d_Bounds_add_29 : decode b_Bounds_add 29 = .ok (.iaload, 1) := by decide +kernel
theorem d_Bounds_add_30 : decode b_Bounds_add 30 = .ok (.iload_n 2, 1) := by decide +kernel
theorem d_Bounds_add_31 : decode b_Bounds_add 31 = .ok (.if_icmp .ne 16, 3) := by decide +kernel
theorem d_Bounds_add_34 : decode b_Bounds_add 34 = .ok (.aload_n 0, 1) := by decide +kernel
theorem d_Bounds_add_35 : decode b_Bounds_add 35 = .ok (.getfield 18, 3) := by decide +kernel
theorem d_Bounds_add_38 : decode b_Bounds_add 38 = .ok (.iload 5, 2) := by decide +kernel
theorem d_Bounds_add_40 : decode b_Bounds_add 40 = .ok (.iaload, 1) := by decide +kernel
theorem d_Bounds_add_41 : decode b_Bounds_add 41 = .ok (.iload_n 3, 1) := by decide +kernel
theorem d_Bounds_add_42 : decode b_Bounds_add 42 = .ok (.if_icmp .ne 5, 3) := by decide +kernel
theorem d_Bounds_add_45 : decode b_Bounds_add 45 = .ok (.iconst 1, 1) := by decide +kernel
theorem d_Bounds_add_46 : decode b_Bounds_add 46 = .ok (.ireturn, 1) := by decide +kernel
theorem d_Bounds_add_47 : decode b_Bounds_add 47 = .ok (.iinc 5 1, 3) := by decide +kernel
theorem d_Bounds_add_50 : decode b_Bounds_add 50 = .ok (.goto (-47), 3) := by decide +kernel
theorem d_Bounds_add_53 : decode b_Bounds_add 53 = .ok (.aload_n 0, 1) := by decide +kernel
theorem d_Bounds_add_54 : decode b_Bounds_add 54 = .ok (.getfield 24, 3) := by decide +kernel
theorem d_Bounds_add_57 : decode b_Bounds_add 57 = .ok (.ifCond .lt 13, 3) := by decide +kernel
theorem d_Bounds_add_60 : decode b_Bounds_add 60 = .ok (.aload_n 0, 1) := by decide +kernel
theorem d_Bounds_add_61 : decode b_Bounds_add 61 = .ok (.getfield 24, 3) := by decide +kernel
theorem d_Bounds_add_64 : decode b_Bounds_add 64 = .ok (.sipush 200, 3) := by decide +kernel
theorem d_Bounds_add_67 : decode b_Bounds_add 67 = .ok (.if_icmp .lt 6, 3) := by decide +kernel
theorem d_Bounds_add_70 : decode b_Bounds_add 70 = .ok (.bipush (-3), 2) := by decide +kernel
theorem d_Bounds_add_72 : decode b_Bounds_add 72 = .ok (.ireturn, 1) := by decide +kernel
theorem d_Bounds_add_73 : decode b_Bounds_add 73 = .ok (.aload_n 0, 1) := by decide +kernel
theorem d_Bounds_add_74 : decode b_Bounds_add 74 = .ok (.getfield 9, 3) := by decide +kernel
theorem d_Bounds_add_77 : decode b_Bounds_add 77 = .ok (.aload_n 0, 1) := by decide +kernel
theorem d_Bounds_add_78 : decode b_Bounds_add 78 = .ok (.getfield 24, 3) := by decide +kernel
theorem d_Bounds_add_81 : decode b_Bounds_add 81 = .ok (.iload_n 1, 1) := by decide +kernel
theorem d_Bounds_add_82 : decode b_Bounds_add 82 = .ok (.iastore, 1) := by decide +kernel
theorem d_Bounds_add_83 : decode b_Bounds_add 83 = .ok (.aload_n 0, 1) := by decide +kernel
theorem d_Bounds_add_84 : decode b_Bounds_add 84 = .ok (.getfield 15, 3) := by decide +kernel
theorem d_Bounds_add_87 : decode b_Bounds_add 87 = .ok (.aload_n 0, 1) := by decide +kernel
theorem d_Bounds_add_88 : decode b_Bounds_add 88 = .ok (.getfield 24, 3) := by decide +kernel
theorem d_Bounds_add_91 : decode b_Bounds_add 91 = .ok (.iload_n 2, 1) := by decide +kernel
theorem d_Bounds_add_92 : decode b_Bounds_add 92 = .ok (.iastore, 1) := by decide +kernel
theorem d_Bounds_add_93 : decode b_Bounds_add 93 = .ok (.aload_n 0, 1) := by decide +kernel
theorem d_Bounds_add_94 : decode b_Bounds_add 94 = .ok (.getfield 18, 3) := by decide +kernel
theorem d_Bounds_add_97 : decode b_Bounds_add 97 = .ok (.aload_n 0, 1) := by decide +kernel
theorem d_Bounds_add_98 : decode b_Bounds_add 98 = .ok (.getfield 24, 3) := by decide +kernel
theorem d_Bounds_add_101 : decode b_Bounds_add 101 = .ok (.iload_n 3, 1) := by decide +kernel
theorem d_Bounds_add_102 : decode b_Bounds_add 102 = .ok (.iastore, 1) := by decide +kernel
theorem d_Bounds_add_103 : decode b_Bounds_add 103 = .ok (.aload_n 0, 1) := by decide +kernel
theorem d_Bounds_add_104 : decode b_Bounds_add 104 = .ok (.getfield 21, 3) := by decide +kernel
theorem d_Bounds_add_107 : decode b_Bounds_add 107 = .ok (.aload_n 0, 1) := by decide +kernel
theorem d_Bounds_add_108 : decode b_Bounds_add 108 = .ok (.getfield 24, 3) := by decide +kernel
theorem d_Bounds_add_111 : decode b_Bounds_add 111 = .ok (.iload 4, 2) := by decide +kernel
theorem d_Bounds_add_113 : decode b_Bounds_add 113 = .ok (.iastore, 1) := by decide +kernel
theorem d_Bounds_add_114 : decode b_Bounds_add 114 = .ok (.aload_n 0, 1) := by decide +kernel
theorem d_Bounds_add_115 : decode b_Bounds_add 115 = .ok (.dup, 1) := by decide +kernel
theorem d_Bounds_add_116 : decode b_Bounds_add 116 = .ok (.getfield 24, 3) := by decide +kernel
theorem d_Bounds_add_119 : decode b_Bounds_add 119 = .ok (.iconst 1, 1) := by decide +kernel
theorem d_Bounds_add_120 : decode b_Bounds_add 120 = .ok (.iadd, 1) := by decide +kernel
theorem d_Bounds_add_121 : decode b_Bounds_add 121 = .ok (.putfield 24, 3) := by decide +kernel
theorem d_Bounds_add_124 : decode b_Bounds_add 124 = .ok (.iconst 1, 1) := by decide +kernel
theorem d_Bounds_add_125 : decode b_Bounds_add 125 = .ok (.ireturn, 1) := by decide +kernel
theorem d_Bounds_settledAs_0 : decode b_Bounds_settledAs 0 = .ok (.iconst 0, 1) := by decide +kernel
theorem d_Bounds_settledAs_1 : decode b_Bounds_settledAs 1 = .ok (.istore_n 3, 1) := by decide +kernel
theorem d_Bounds_settledAs_2 : decode b_Bounds_settledAs 2 = .ok (.iload_n 3, 1) := by decide +kernel
theorem d_Bounds_settledAs_3 : decode b_Bounds_settledAs 3 = .ok (.aload_n 0, 1) := by decide +kernel
theorem d_Bounds_settledAs_4 : decode b_Bounds_settledAs 4 = .ok (.getfield 24, 3) := by decide +kernel
theorem d_Bounds_settledAs_7 : decode b_Bounds_settledAs 7 = .ok (.if_icmp .ge 48, 3) := by decide +kernel
theorem d_Bounds_settledAs_10 : decode b_Bounds_settledAs 10 = .ok (.aload_n 0, 1) := by decide +kernel
theorem d_Bounds_settledAs_11 : decode b_Bounds_settledAs 11 = .ok (.getfield 9, 3) := by decide +kernel
theorem d_Bounds_settledAs_14 : decode b_Bounds_settledAs 14 = .ok (.iload_n 3, 1) := by decide +kernel
theorem d_Bounds_settledAs_15 : decode b_Bounds_settledAs 15 = .ok (.iaload, 1) := by decide +kernel
theorem d_Bounds_settledAs_16 : decode b_Bounds_settledAs 16 = .ok (.ifCond .ne 33, 3) := by decide +kernel
theorem d_Bounds_settledAs_19 : decode b_Bounds_settledAs 19 = .ok (.aload_n 0, 1) := by decide +kernel
theorem d_Bounds_settledAs_20 : decode b_Bounds_settledAs 20 = .ok (.getfield 15, 3) := by decide +kernel
theorem d_Bounds_settledAs_23 : decode b_Bounds_settledAs 23 = .ok (.iload_n 3, 1) := by decide +kernel
theorem d_Bounds_settledAs_24 : decode b_Bounds_settledAs 24 = .ok (.iaload, 1) := by decide +kernel
theorem d_Bounds_settledAs_25 : decode b_Bounds_settledAs 25 = .ok (.iload_n 1, 1) := by decide +kernel
theorem d_Bounds_settledAs_26 : decode b_Bounds_settledAs 26 = .ok (.if_icmp .ne 23, 3) := by decide +kernel
theorem d_Bounds_settledAs_29 : decode b_Bounds_settledAs 29 = .ok (.aload_n 2, 1) := by decide +kernel
theorem d_Bounds_settledAs_30 : decode b_Bounds_settledAs 30 = .ok (.aload_n 0, 1) := by decide +kernel
theorem d_Bounds_settledAs_31 : decode b_Bounds_settledAs 31 = .ok (.getfield 18, 3) := by decide +kernel
theorem d_Bounds_settledAs_34 : decode b_Bounds_settledAs 34 = .ok (.iload_n 3, 1) := by decide +kernel
theorem d_Bounds_settledAs_35 : decode b_Bounds_settledAs 35 = .ok (.iaload, 1) := by decide +kernel
theorem d_Bounds_settledAs_36 : decode b_Bounds_settledAs 36 = .ok (.invokevirtual 28, 3) := by decide +kernel
theorem d_Bounds_settledAs_39 : decode b_Bounds_settledAs 39 = .ok (.ifCond .eq 10, 3) := by decide +kernel
theorem d_Bounds_settledAs_42 : decode b_Bounds_settledAs 42 = .ok (.aload_n 0, 1) := by decide +kernel
theorem d_Bounds_settledAs_43 : decode b_Bounds_settledAs 43 = .ok (.getfield 18, 3) := by decide +kernel
theorem d_Bounds_settledAs_46 : decode b_Bounds_settledAs 46 = .ok (.iload_n 3, 1) := by decide +kernel
theorem d_Bounds_settledAs_47 : decode b_Bounds_settledAs 47 = .ok (.iaload, 1) := by decide +kernel
theorem d_Bounds_settledAs_48 : decode b_Bounds_settledAs 48 = .ok (.ireturn, 1) := by decide +kernel
theorem d_Bounds_settledAs_49 : decode b_Bounds_settledAs 49 = .ok (.iinc 3 1, 3) := by decide +kernel
theorem d_Bounds_settledAs_52 : decode b_Bounds_settledAs 52 = .ok (.goto (-50), 3) := by decide +kernel
theorem d_Bounds_settledAs_55 : decode b_Bounds_settledAs 55 = .ok (.iconst (-1), 1) := by decide +kernel
theorem d_Bounds_settledAs_56 : decode b_Bounds_settledAs 56 = .ok (.ireturn, 1) := by decide +kernel
theorem d_Classes_init_0 : decode b_Classes_init 0 = .ok (.aload_n 0, 1) := by decide +kernel
theorem d_Classes_init_1 : decode b_Classes_init 1 = .ok (.invokespecial 3, 3) := by decide +kernel
theorem d_Classes_init_4 : decode b_Classes_init 4 = .ok (.aload_n 0, 1) := by decide +kernel
theorem d_Classes_init_5 : decode b_Classes_init 5 = .ok (.bipush 40, 2) := by decide +kernel
theorem d_Classes_init_7 : decode b_Classes_init 7 = .ok (.newarray .int, 2) := by decide +kernel
theorem d_Classes_init_9 : decode b_Classes_init 9 = .ok (.putfield 9, 3) := by decide +kernel
theorem d_Classes_init_12 : decode b_Classes_init 12 = .ok (.aload_n 0, 1) := by decide +kernel
theorem d_Classes_init_13 : decode b_Classes_init 13 = .ok (.bipush 40, 2) := by decide +kernel
theorem d_Classes_init_15 : decode b_Classes_init 15 = .ok (.newarray .int, 2) := by decide +kernel
theorem d_Classes_init_17 : decode b_Classes_init 17 = .ok (.putfield 15, 3) := by decide +kernel
theorem d_Classes_init_20 : decode b_Classes_init 20 = .ok (.aload_n 0, 1) := by decide +kernel
theorem d_Classes_init_21 : decode b_Classes_init 21 = .ok (.bipush 120, 2) := by decide +kernel
theorem d_Classes_init_23 : decode b_Classes_init 23 = .ok (.newarray .int, 2) := by decide +kernel
theorem d_Classes_init_25 : decode b_Classes_init 25 = .ok (.putfield 18, 3) := by decide +kernel
theorem d_Classes_init_28 : decode b_Classes_init 28 = .ok (.aload_n 0, 1) := by decide +kernel
theorem d_Classes_init_29 : decode b_Classes_init 29 = .ok (.bipush 120, 2) := by decide +kernel
theorem d_Classes_init_31 : decode b_Classes_init 31 = .ok (.newarray .int, 2) := by decide +kernel
theorem d_Classes_init_33 : decode b_Classes_init 33 = .ok (.putfield 21, 3) := by decide +kernel
theorem d_Classes_init_36 : decode b_Classes_init 36 = .ok (.aload_n 0, 1) := by decide +kernel
theorem d_Classes_init_37 : decode b_Classes_init 37 = .ok (.bipush 40, 2) := by decide +kernel
theorem d_Classes_init_39 : decode b_Classes_init 39 = .ok (.newarray .long, 2) := by decide +kernel
theorem d_Classes_init_41 : decode b_Classes_init 41 = .ok (.putfield 24, 3) := by decide +kernel
theorem d_Classes_init_44 : decode b_Classes_init 44 = .ok (.aload_n 0, 1) := by decide +kernel
theorem d_Classes_init_45 : decode b_Classes_init 45 = .ok (.bipush 9, 2) := by decide +kernel
theorem d_Classes_init_47 : decode b_Classes_init 47 = .ok (.putfield 28, 3) := by decide +kernel
theorem d_Classes_init_50 : decode b_Classes_init 50 = .ok (.iconst 0, 1) := by decide +kernel
theorem d_Classes_init_51 : decode b_Classes_init 51 = .ok (.istore_n 1, 1) := by decide +kernel
theorem d_Classes_init_52 : decode b_Classes_init 52 = .ok (.iload_n 1, 1) := by decide +kernel
theorem d_Classes_init_53 : decode b_Classes_init 53 = .ok (.bipush 9, 2) := by decide +kernel
theorem d_Classes_init_55 : decode b_Classes_init 55 = .ok (.if_icmp .ge 18, 3) := by decide +kernel
theorem d_Classes_init_58 : decode b_Classes_init 58 = .ok (.aload_n 0, 1) := by decide +kernel
theorem d_Classes_init_59 : decode b_Classes_init 59 = .ok (.getfield 24, 3) := by decide +kernel
theorem d_Classes_init_62 : decode b_Classes_init 62 = .ok (.iload_n 1, 1) := by decide +kernel
theorem d_Classes_init_63 : decode b_Classes_init 63 = .ok (.lconst 1, 1) := by decide +kernel
theorem d_Classes_init_64 : decode b_Classes_init 64 = .ok (.iload_n 1, 1) := by decide +kernel
theorem d_Classes_init_65 : decode b_Classes_init 65 = .ok (.lshl, 1) := by decide +kernel
theorem d_Classes_init_66 : decode b_Classes_init 66 = .ok (.lastore, 1) := by decide +kernel
theorem d_Classes_init_67 : decode b_Classes_init 67 = .ok (.iinc 1 1, 3) := by decide +kernel
theorem d_Classes_init_70 : decode b_Classes_init 70 = .ok (.goto (-18), 3) := by decide +kernel
theorem d_Classes_init_73 : decode b_Classes_init 73 = .ok (.return_, 1) := by decide +kernel
theorem d_Classes_has_0 : decode b_Classes_has 0 = .ok (.iload_n 1, 1) := by decide +kernel
theorem d_Classes_has_1 : decode b_Classes_has 1 = .ok (.ifCond .lt 15, 3) := by decide +kernel
theorem d_Classes_has_4 : decode b_Classes_has 4 = .ok (.iload_n 1, 1) := by decide +kernel
theorem d_Classes_has_5 : decode b_Classes_has 5 = .ok (.aload_n 0, 1) := by decide +kernel
theorem d_Classes_has_6 : decode b_Classes_has 6 = .ok (.getfield 28, 3) := by decide +kernel
theorem d_Classes_has_9 : decode b_Classes_has 9 = .ok (.if_icmp .ge 7, 3) := by decide +kernel
theorem d_Classes_has_12 : decode b_Classes_has 12 = .ok (.iconst 1, 1) := by decide +kernel
theorem d_Classes_has_13 : decode b_Classes_has 13 = .ok (.goto 4, 3) := by decide +kernel
theorem d_Classes_has_16 : decode b_Classes_has 16 = .ok (.iconst 0, 1) := by decide +kernel
theorem d_Classes_has_17 : decode b_Classes_has 17 = .ok (.ireturn, 1) := by decide +kernel
theorem d_Classes_add_0 : decode b_Classes_add 0 = .ok (.aload_n 0, 1) := by decide +kernel
theorem d_Classes_add_1 : decode b_Classes_add 1 = .ok (.getfield 28, 3) := by decide +kernel
theorem d_Classes_add_4 : decode b_Classes_add 4 = .ok (.ifCond .lt 12, 3) := by decide +kernel
theorem d_Classes_add_7 : decode b_Classes_add 7 = .ok (.aload_n 0, 1) := by decide +kernel
theorem d_Classes_add_8 : decode b_Classes_add 8 = .ok (.getfield 28, 3) := by decide +kernel
theorem d_Classes_add_11 : decode b_Classes_add 11 = .ok (.bipush 40, 2) := by decide +kernel
theorem d_Classes_add_13 : decode b_Classes_add 13 = .ok (.if_icmp .lt 6, 3) := by decide +kernel
theorem d_Classes_add_16 : decode b_Classes_add 16 = .ok (.bipush (-3), 2) := by decide +kernel
theorem d_Classes_add_18 : decode b_Classes_add 18 = .ok (.ireturn, 1) := by decide +kernel
theorem d_Classes_add_19 : decode b_Classes_add 19 = .ok (.aload_n 0, 1) := by decide +kernel
theorem d_Classes_add_20 : decode b_Classes_add 20 = .ok (.getfield 9, 3) := by decide +kernel
theorem d_Classes_add_23 : decode b_Classes_add 23 = .ok (.aload_n 0, 1) := by decide +kernel
theorem d_Classes_add_24 : decode b_Classes_add 24 = .ok (.getfield 28, 3) := by decide +kernel
theorem d_Classes_add_27 : decode b_Classes_add 27 = .ok (.iload_n 1, 1) := by decide +kernel
theorem d_Classes_add_28 : decode b_Classes_add 28 = .ok (.iastore, 1) := by decide +kernel
theorem d_Classes_add_29 : decode b_Classes_add 29 = .ok (.aload_n 0, 1) := by decide +kernel
theorem d_Classes_add_30 : decode b_Classes_add 30 = .ok (.getfield 24, 3) := by decide +kernel
theorem d_Classes_add_33 : decode b_Classes_add 33 = .ok (.aload_n 0, 1) := by decide +kernel
theorem d_Classes_add_34 : decode b_Classes_add 34 = .ok (.getfield 28, 3) := by decide +kernel
theorem d_Classes_add_37 : decode b_Classes_add 37 = .ok (.lconst 1, 1) := by decide +kernel
theorem d_Classes_add_38 : decode b_Classes_add 38 = .ok (.aload_n 0, 1) := by decide +kernel
theorem d_Classes_add_39 : decode b_Classes_add 39 = .ok (.getfield 28, 3) := by decide +kernel
theorem d_Classes_add_42 : decode b_Classes_add 42 = .ok (.lshl, 1) := by decide +kernel
theorem d_Classes_add_43 : decode b_Classes_add 43 = .ok (.lastore, 1) := by decide +kernel
theorem d_Classes_add_44 : decode b_Classes_add 44 = .ok (.aload_n 0, 1) := by decide +kernel
theorem d_Classes_add_45 : decode b_Classes_add 45 = .ok (.dup, 1) := by decide +kernel
theorem d_Classes_add_46 : decode b_Classes_add 46 = .ok (.getfield 28, 3) := by decide +kernel
theorem d_Classes_add_49 : decode b_Classes_add 49 = .ok (.iconst 1, 1) := by decide +kernel
theorem d_Classes_add_50 : decode b_Classes_add 50 = .ok (.iadd, 1) := by decide +kernel
theorem d_Classes_add_51 : decode b_Classes_add 51 = .ok (.putfield 28, 3) := by decide +kernel
theorem d_Classes_add_54 : decode b_Classes_add 54 = .ok (.aload_n 0, 1) := by decide +kernel
theorem d_Classes_add_55 : decode b_Classes_add 55 = .ok (.getfield 28, 3) := by decide +kernel
theorem d_Classes_add_58 : decode b_Classes_add 58 = .ok (.iconst 1, 1) := by decide +kernel
theorem d_Classes_add_59 : decode b_Classes_add 59 = .ok (.isub, 1) := by decide +kernel
theorem d_Classes_add_60 : decode b_Classes_add 60 = .ok (.ireturn, 1) := by decide +kernel
theorem d_Classes_parametersOf_0 : decode b_Classes_parametersOf 0 = .ok (.aload_n 0, 1) := by decide +kernel
theorem d_Classes_parametersOf_1 : decode b_Classes_parametersOf 1 = .ok (.iload_n 1, 1) := by decide +kernel
theorem d_Classes_parametersOf_2 : decode b_Classes_parametersOf 2 = .ok (.invokevirtual 32, 3) := by decide +kernel
theorem d_Classes_parametersOf_5 : decode b_Classes_parametersOf 5 = .ok (.ifCond .eq 12, 3) := by decide +kernel
theorem d_Classes_parametersOf_8 : decode b_Classes_parametersOf 8 = .ok (.aload_n 0, 1) := by decide +kernel
theorem d_Classes_parametersOf_9 : decode b_Classes_parametersOf 9 = .ok (.getfield 9, 3) := by decide +kernel
theorem d_Classes_parametersOf_12 : decode b_Classes_parametersOf 12 = .ok (.iload_n 1, 1) := by decide +kernel
theorem d_Classes_parametersOf_13 : decode b_Classes_parametersOf 13 = .ok (.iaload, 1) := by decide +kernel
theorem d_Classes_parametersOf_14 : decode b_Classes_parametersOf 14 = .ok (.goto 4, 3) := by decide +kernel
theorem d_Classes_parametersOf_17 : decode b_Classes_parametersOf 17 = .ok (.iconst 0, 1) := by decide +kernel
theorem d_Classes_parametersOf_18 : decode b_Classes_parametersOf 18 = .ok (.ireturn, 1) := by decide +kernel
theorem d_Classes_addParent_0 : decode b_Classes_addParent 0 = .ok (.aload_n 0, 1) := by decide +kernel
theorem d_Classes_addParent_1 : decode b_Classes_addParent 1 = .ok (.iload_n 1, 1) := by decide +kernel
theorem d_Classes_addParent_2 : decode b_Classes_addParent 2 = .ok (.invokevirtual 32, 3) := by decide +kernel
theorem d_Classes_addParent_5 : decode b_Classes_addParent 5 = .ok (.ifCond .eq 11, 3) := by decide +kernel
theorem d_Classes_addParent_8 : decode b_Classes_addParent 8 = .ok (.aload_n 0, 1) := by decide +kernel
theorem d_Classes_addParent_9 : decode b_Classes_addParent 9 = .ok (.iload_n 3, 1) := by decide +kernel
theorem d_Classes_addParent_10 : decode b_Classes_addParent 10 = .ok (.invokevirtual 32, 3) := by decide +kernel
theorem d_Classes_addParent_13 : decode b_Classes_addParent 13 = .ok (.ifCond .ne 6, 3) := by decide +kernel
theorem d_Classes_addParent_16 : decode b_Classes_addParent 16 = .ok (.bipush (-2), 2) := by decide +kernel
theorem d_Classes_addParent_18 : decode b_Classes_addParent 18 = .ok (.ireturn, 1) := by decide +kernel
theorem d_Classes_addParent_19 : decode b_Classes_addParent 19 = .ok (.aload_n 0, 1) := by decide +kernel
theorem d_Classes_addParent_20 : decode b_Classes_addParent 20 = .ok (.getfield 15, 3) := by decide +kernel
theorem d_Classes_addParent_23 : decode b_Classes_addParent 23 = .ok (.iload_n 1, 1) := by decide +kernel
theorem d_Classes_addParent_24 : decode b_Classes_addParent 24 = .ok (.iaload, 1) := by decide +kernel
theorem d_Classes_addParent_25 : decode b_Classes_addParent 25 = .ok (.istore 4, 2) := by decide +kernel
theorem d_Classes_addParent_27 : decode b_Classes_addParent 27 = .ok (.iload 4, 2) := by decide +kernel
theorem d_Classes_addParent_29 : decode b_Classes_addParent 29 = .ok (.ifCond .lt 9, 3) := by decide +kernel
theorem d_Classes_addParent_32 : decode b_Classes_addParent 32 = .ok (.iload 4, 2) := by decide +kernel
theorem d_Classes_addParent_34 : decode b_Classes_addParent 34 = .ok (.iconst 3, 1) := by decide +kernel
theorem d_Classes_addParent_35 : decode b_Classes_addParent 35 = .ok (.if_icmp .lt 6, 3) := by decide +kernel
theorem d_Classes_addParent_38 : decode b_Classes_addParent 38 = .ok (.bipush (-3), 2) := by decide +kernel
theorem d_Classes_addParent_40 : decode b_Classes_addParent 40 = .ok (.ireturn, 1) := by decide +kernel
theorem d_Classes_addParent_41 : decode b_Classes_addParent 41 = .ok (.aload_n 0, 1) := by decide +kernel
theorem d_Classes_addParent_42 : decode b_Classes_addParent 42 = .ok (.getfield 18, 3) := by decide +kernel
theorem d_Classes_addParent_45 : decode b_Classes_addParent 45 = .ok (.iload_n 1, 1) := by decide +kernel
theorem d_Classes_addParent_46 : decode b_Classes_addParent 46 = .ok (.iconst 3, 1) := by decide +kernel
theorem d_Classes_addParent_47 : decode b_Classes_addParent 47 = .ok (.imul, 1) := by decide +kernel
theorem d_Classes_addParent_48 : decode b_Classes_addParent 48 = .ok (.iload 4, 2) := by decide +kernel
theorem d_Classes_addParent_50 : decode b_Classes_addParent 50 = .ok (.iadd, 1) := by decide +kernel
theorem d_Classes_addParent_51 : decode b_Classes_addParent 51 = .ok (.iload_n 2, 1) := by decide +kernel
theorem d_Classes_addParent_52 : decode b_Classes_addParent 52 = .ok (.iastore, 1) := by decide +kernel
theorem d_Classes_addParent_53 : decode b_Classes_addParent 53 = .ok (.aload_n 0, 1) := by decide +kernel
theorem d_Classes_addParent_54 : decode b_Classes_addParent 54 = .ok (.getfield 21, 3) := by decide +kernel
theorem d_Classes_addParent_57 : decode b_Classes_addParent 57 = .ok (.iload_n 1, 1) := by decide +kernel
theorem d_Classes_addParent_58 : decode b_Classes_addParent 58 = .ok (.iconst 3, 1) := by decide +kernel
theorem d_Classes_addParent_59 : decode b_Classes_addParent 59 = .ok (.imul, 1) := by decide +kernel
theorem d_Classes_addParent_60 : decode b_Classes_addParent 60 = .ok (.iload 4, 2) := by decide +kernel
theorem d_Classes_addParent_62 : decode b_Classes_addParent 62 = .ok (.iadd, 1) := by decide +kernel
theorem d_Classes_addParent_63 : decode b_Classes_addParent 63 = .ok (.iload_n 3, 1) := by decide +kernel
theorem d_Classes_addParent_64 : decode b_Classes_addParent 64 = .ok (.iastore, 1) := by decide +kernel
theorem d_Classes_addParent_65 : decode b_Classes_addParent 65 = .ok (.aload_n 0, 1) := by decide +kernel
theorem d_Classes_addParent_66 : decode b_Classes_addParent 66 = .ok (.getfield 15, 3) := by decide +kernel
theorem d_Classes_addParent_69 : decode b_Classes_addParent 69 = .ok (.iload_n 1, 1) := by decide +kernel
theorem d_Classes_addParent_70 : decode b_Classes_addParent 70 = .ok (.iload 4, 2) := by decide +kernel
theorem d_Classes_addParent_72 : decode b_Classes_addParent 72 = .ok (.iconst 1, 1) := by decide +kernel
theorem d_Classes_addParent_73 : decode b_Classes_addParent 73 = .ok (.iadd, 1) := by decide +kernel
theorem d_Classes_addParent_74 : decode b_Classes_addParent 74 = .ok (.iastore, 1) := by decide +kernel
theorem d_Classes_addParent_75 : decode b_Classes_addParent 75 = .ok (.aload_n 0, 1) := by decide +kernel
theorem d_Classes_addParent_76 : decode b_Classes_addParent 76 = .ok (.invokevirtual 36, 3) := by decide +kernel
theorem d_Classes_addParent_79 : decode b_Classes_addParent 79 = .ok (.iload 4, 2) := by decide +kernel
theorem d_Classes_addParent_81 : decode b_Classes_addParent 81 = .ok (.iconst 1, 1) := by decide +kernel
theorem d_Classes_addParent_82 : decode b_Classes_addParent 82 = .ok (.iadd, 1) := by decide +kernel
theorem d_Classes_addParent_83 : decode b_Classes_addParent 83 = .ok (.ireturn, 1) := by decide +kernel
theorem d_Classes_renewReach_0 : decode b_Classes_renewReach 0 = .ok (.bipush 9, 2) := by decide +kernel
theorem d_Classes_renewReach_2 : decode b_Classes_renewReach 2 = .ok (.istore_n 1, 1) := by decide +kernel
theorem d_Classes_renewReach_3 : decode b_Classes_renewReach 3 = .ok (.iload_n 1, 1) := by decide +kernel
theorem d_Classes_renewReach_4 : decode b_Classes_renewReach 4 = .ok (.aload_n 0, 1) := by decide +kernel
theorem d_Classes_renewReach_5 : decode b_Classes_renewReach 5 = .ok (.getfield 28, 3) := by decide +kernel
theorem d_Classes_renewReach_8 : decode b_Classes_renewReach 8 = .ok (.if_icmp .ge 78, 3) := by decide +kernel
theorem d_Classes_renewReach_11 : decode b_Classes_renewReach 11 = .ok (.lconst 1, 1) := by decide +kernel
theorem d_Classes_renewReach_12 : decode b_Classes_renewReach 12 = .ok (.iload_n 1, 1) := by decide +kernel
theorem d_Classes_renewReach_13 : decode b_Classes_renewReach 13 = .ok (.lshl, 1) := by decide +kernel
theorem d_Classes_renewReach_14 : decode b_Classes_renewReach 14 = .ok (.lstore_n 2, 1) := by decide +kernel
theorem d_Classes_renewReach_15 : decode b_Classes_renewReach 15 = .ok (.iconst 0, 1) := by decide +kernel
theorem d_Classes_renewReach_16 : decode b_Classes_renewReach 16 = .ok (.istore 4, 2) := by decide +kernel
theorem d_Classes_renewReach_18 : decode b_Classes_renewReach 18 = .ok (.iload 4, 2) := by decide +kernel
theorem d_Classes_renewReach_20 : decode b_Classes_renewReach 20 = .ok (.aload_n 0, 1) := by decide +kernel
theorem d_Classes_renewReach_21 : decode b_Classes_renewReach 21 = .ok (.getfield 15, 3) := by decide +kernel
theorem d_Classes_renewReach_24 : decode b_Classes_renewReach 24 = .ok (.iload_n 1, 1) := by decide +kernel
theorem d_Classes_renewReach_25 : decode b_Classes_renewReach 25 = .ok (.iaload, 1) := by decide +kernel
theorem d_Classes_renewReach_26 : decode b_Classes_renewReach 26 = .ok (.if_icmp .ge 47, 3) := by decide +kernel
theorem d_Classes_renewReach_29 : decode b_Classes_renewReach 29 = .ok (.iload 4, 2) := by decide +kernel
theorem d_Classes_renewReach_31 : decode b_Classes_renewReach 31 = .ok (.iconst 3, 1) := by decide +kernel
theorem d_Classes_renewReach_32 : decode b_Classes_renewReach 32 = .ok (.if_icmp .ge 41, 3) := by decide +kernel
theorem d_Classes_renewReach_35 : decode b_Classes_renewReach 35 = .ok (.aload_n 0, 1) := by decide +kernel
theorem d_Classes_renewReach_36 : decode b_Classes_renewReach 36 = .ok (.getfield 21, 3) := by decide +kernel
theorem d_Classes_renewReach_39 : decode b_Classes_renewReach 39 = .ok (.iload_n 1, 1) := by decide +kernel
theorem d_Classes_renewReach_40 : decode b_Classes_renewReach 40 = .ok (.iconst 3, 1) := by decide +kernel
theorem d_Classes_renewReach_41 : decode b_Classes_renewReach 41 = .ok (.imul, 1) := by decide +kernel
theorem d_Classes_renewReach_42 : decode b_Classes_renewReach 42 = .ok (.iload 4, 2) := by decide +kernel
theorem d_Classes_renewReach_44 : decode b_Classes_renewReach 44 = .ok (.iadd, 1) := by decide +kernel
theorem d_Classes_renewReach_45 : decode b_Classes_renewReach 45 = .ok (.iaload, 1) := by decide +kernel
theorem d_Classes_renewReach_46 : decode b_Classes_renewReach 46 = .ok (.istore 5, 2) := by decide +kernel
theorem d_Classes_renewReach_48 : decode b_Classes_renewReach 48 = .ok (.aload_n 0, 1) := by decide +kernel
theorem d_Classes_renewReach_49 : decode b_Classes_renewReach 49 = .ok (.iload 5, 2) := by decide +kernel
theorem d_Classes_renewReach_51 : decode b_Classes_renewReach 51 = .ok (.invokevirtual 32, 3) := by decide +kernel
theorem d_Classes_renewReach_54 : decode b_Classes_renewReach 54 = .ok (.ifCond .eq 13, 3) := by decide +kernel
theorem d_Classes_renewReach_57 : decode b_Classes_renewReach 57 = .ok (.lload_n 2, 1) := by decide +kernel
theorem d_Classes_renewReach_58 : decode b_Classes_renewReach 58 = .ok (.aload_n 0, 1) := by decide +kernel
theorem d_Classes_renewReach_59 : decode b_Classes_renewReach 59 = .ok (.getfield 24, 3) := by decide +kernel
theorem d_Classes_renewReach_62 : decode b_Classes_renewReach 62 = .ok (.iload 5, 2) := by decide +kernel
theorem d_Classes_renewReach_64 : decode b_Classes_renewReach 64 = .ok (.laload, 1) := by decide +kernel
theorem d_Classes_renewReach_65 : decode b_Classes_renewReach 65 = .ok (.lor, 1) := by decide +kernel
theorem d_Classes_renewReach_66 : decode b_Classes_renewReach 66 = .ok (.lstore_n 2, 1) := by decide +kernel
theorem d_Classes_renewReach_67 : decode b_Classes_renewReach 67 = .ok (.iinc 4 1, 3) := by decide +kernel
theorem d_Classes_renewReach_70 : decode b_Classes_renewReach 70 = .ok (.goto (-52), 3) := by decide +kernel
theorem d_Classes_renewReach_73 : decode b_Classes_renewReach 73 = .ok (.aload_n 0, 1) := by decide +kernel
theorem d_Classes_renewReach_74 : decode b_Classes_renewReach 74 = .ok (.getfield 24, 3) := by decide +kernel
theorem d_Classes_renewReach_77 : decode b_Classes_renewReach 77 = .ok (.iload_n 1, 1) := by decide +kernel
theorem d_Classes_renewReach_78 : decode b_Classes_renewReach 78 = .ok (.lload_n 2, 1) := by decide +kernel
theorem d_Classes_renewReach_79 : decode b_Classes_renewReach 79 = .ok (.lastore, 1) := by decide +kernel
theorem d_Classes_renewReach_80 : decode b_Classes_renewReach 80 = .ok (.iinc 1 1, 3) := by decide +kernel
theorem d_Classes_renewReach_83 : decode b_Classes_renewReach 83 = .ok (.goto (-80), 3) := by decide +kernel
theorem d_Classes_renewReach_86 : decode b_Classes_renewReach 86 = .ok (.return_, 1) := by decide +kernel
theorem d_Classes_reaches_0 : decode b_Classes_reaches 0 = .ok (.aload_n 0, 1) := by decide +kernel
theorem d_Classes_reaches_1 : decode b_Classes_reaches 1 = .ok (.iload_n 1, 1) := by decide +kernel
theorem d_Classes_reaches_2 : decode b_Classes_reaches 2 = .ok (.invokevirtual 32, 3) := by decide +kernel
theorem d_Classes_reaches_5 : decode b_Classes_reaches 5 = .ok (.ifCond .eq 30, 3) := by decide +kernel
theorem d_Classes_reaches_8 : decode b_Classes_reaches 8 = .ok (.aload_n 0, 1) := by decide +kernel
theorem d_Classes_reaches_9 : decode b_Classes_reaches 9 = .ok (.iload_n 2, 1) := by decide +kernel
theorem d_Classes_reaches_10 : decode b_Classes_reaches 10 = .ok (.invokevirtual 32, 3) := by decide +kernel
theorem d_Classes_reaches_13 : decode b_Classes_reaches 13 = .ok (.ifCond .eq 22, 3) := by decide +kernel
theorem d_Classes_reaches_16 : decode b_Classes_reaches 16 = .ok (.aload_n 0, 1) := by decide +kernel
theorem d_Classes_reaches_17 : decode b_Classes_reaches 17 = .ok (.getfield 24, 3) := by decide +kernel
theorem d_Classes_reaches_20 : decode b_Classes_reaches 20 = .ok (.iload_n 1, 1) := by decide +kernel
theorem d_Classes_reaches_21 : decode b_Classes_reaches 21 = .ok (.laload, 1) := by decide +kernel
theorem d_Classes_reaches_22 : decode b_Classes_reaches 22 = .ok (.iload_n 2, 1) := by decide +kernel
theorem d_Classes_reaches_23 : decode b_Classes_reaches 23 = .ok (.lshr, 1) := by decide +kernel
theorem d_Classes_reaches_24 : decode b_Classes_reaches 24 = .ok (.lconst 1, 1) := by decide +kernel
theorem d_Classes_reaches_25 : decode b_Classes_reaches 25 = .ok (.land, 1) := by decide +kernel
theorem d_Classes_reaches_26 : decode b_Classes_reaches 26 = .ok (.lconst 0, 1) := by decide +kernel
theorem d_Classes_reaches_27 : decode b_Classes_reaches 27 = .ok (.lcmp, 1) := by decide +kernel
theorem d_Classes_reaches_28 : decode b_Classes_reaches 28 = .ok (.ifCond .eq 7, 3) := by decide +kernel
theorem d_Classes_reaches_31 : decode b_Classes_reaches 31 = .ok (.iconst 1, 1) := by decide +kernel
theorem d_Classes_reaches_32 : decode b_Classes_reaches 32 = .ok (.goto 4, 3) := by decide +kernel
theorem d_Classes_reaches_35 : decode b_Classes_reaches 35 = .ok (.iconst 0, 1) := by decide +kernel
theorem d_Classes_reaches_36 : decode b_Classes_reaches 36 = .ok (.ireturn, 1) := by decide +kernel
theorem d_Classes_parentTowards_0 : decode b_Classes_parentTowards 0 = .ok (.aload_n 0, 1) := by decide +kernel
theorem d_Classes_parentTowards_1 : decode b_Classes_parentTowards 1 = .ok (.iload_n 1, 1) := by decide +kernel
theorem d_Classes_parentTowards_2 : decode b_Classes_parentTowards 2 = .ok (.invokevirtual 32, 3) := by decide +kernel
theorem d_Classes_parentTowards_5 : decode b_Classes_parentTowards 5 = .ok (.ifCond .ne 5, 3) := by decide +kernel
theorem d_Classes_parentTowards_8 : decode b_Classes_parentTowards 8 = .ok (.iconst (-1), 1) := by decide +kernel
theorem d_Classes_parentTowards_9 : decode b_Classes_parentTowards 9 = .ok (.ireturn, 1) := by decide +kernel
theorem d_Classes_parentTowards_10 : decode b_Classes_parentTowards 10 = .ok (.iconst 0, 1) := by decide +kernel
theorem d_Classes_parentTowards_11 : decode b_Classes_parentTowards 11 = .ok (.istore_n 3, 1) := by decide +kernel
theorem d_Classes_parentTowards_12 : decode b_Classes_parentTowards 12 = .ok (.iload_n 3, 1) := by decide +kernel
theorem d_Classes_parentTowards_13 : decode b_Classes_parentTowards 13 = .ok (.aload_n 0, 1) := by decide +kernel
theorem d_Classes_parentTowards_14 : decode b_Classes_parentTowards 14 = .ok (.getfield 15, 3) := by decide +kernel
theorem d_Classes_parentTowards_17 : decode b_Classes_parentTowards 17 = .ok (.iload_n 1, 1) := by decide +kernel
theorem d_Classes_parentTowards_18 : decode b_Classes_parentTowards 18 = .ok (.iaload, 1) := by decide +kernel
theorem d_Classes_parentTowards_19 : decode b_Classes_parentTowards 19 = .ok (.if_icmp .ge 62, 3) := by decide +kernel
theorem d_Classes_parentTowards_22 : decode b_Classes_parentTowards 22 = .ok (.iload_n 3, 1) := by decide +kernel
theorem d_Classes_parentTowards_23 : decode b_Classes_parentTowards 23 = .ok (.iconst 3, 1) := by decide +kernel
theorem d_Classes_parentTowards_24 : decode b_Classes_parentTowards 24 = .ok (.if_icmp .ge 57, 3) := by decide +kernel
theorem d_Classes_parentTowards_27 : decode b_Classes_parentTowards 27 = .ok (.aload_n 0, 1) := by decide +kernel
theorem d_Classes_parentTowards_28 : decode b_Classes_parentTowards 28 = .ok (.getfield 21, 3) := by decide +kernel
theorem d_Classes_parentTowards_31 : decode b_Classes_parentTowards 31 = .ok (.iload_n 1, 1) := by decide +kernel
theorem d_Classes_parentTowards_32 : decode b_Classes_parentTowards 32 = .ok (.iconst 3, 1) := by decide +kernel
theorem d_Classes_parentTowards_33 : decode b_Classes_parentTowards 33 = .ok (.imul, 1) := by decide +kernel
theorem d_Classes_parentTowards_34 : decode b_Classes_parentTowards 34 = .ok (.iload_n 3, 1) := by decide +kernel
theorem d_Classes_parentTowards_35 : decode b_Classes_parentTowards 35 = .ok (.iadd, 1) := by decide +kernel
theorem d_Classes_parentTowards_36 : decode b_Classes_parentTowards 36 = .ok (.iaload, 1) := by decide +kernel
theorem d_Classes_parentTowards_37 : decode b_Classes_parentTowards 37 = .ok (.istore 4, 2) := by decide +kernel
theorem d_Classes_parentTowards_39 : decode b_Classes_parentTowards 39 = .ok (.aload_n 0, 1) := by decide +kernel
theorem d_Classes_parentTowards_40 : decode b_Classes_parentTowards 40 = .ok (.iload 4, 2) := by decide +kernel
theorem d_Classes_parentTowards_42 : decode b_Classes_parentTowards 42 = .ok (.invokevirtual 32, 3) := by decide +kernel
theorem d_Classes_parentTowards_45 : decode b_Classes_parentTowards 45 = .ok (.ifCond .eq 30, 3) := by decide +kernel
theorem d_Classes_parentTowards_48 : decode b_Classes_parentTowards 48 = .ok (.aload_n 0, 1) := by decide +kernel
theorem d_Classes_parentTowards_49 : decode b_Classes_parentTowards 49 = .ok (.getfield 24, 3) := by decide +kernel
theorem d_Classes_parentTowards_52 : decode b_Classes_parentTowards 52 = .ok (.iload 4, 2) := by decide +kernel
theorem d_Classes_parentTowards_54 : decode b_Classes_parentTowards 54 = .ok (.laload, 1) := by decide +kernel
theorem d_Classes_parentTowards_55 : decode b_Classes_parentTowards 55 = .ok (.iload_n 2, 1) := by decide +kernel
theorem d_Classes_parentTowards_56 : decode b_Classes_parentTowards 56 = .ok (.lshr, 1) := by decide +kernel
theorem d_Classes_parentTowards_57 : decode b_Classes_parentTowards 57 = .ok (.lconst 1, 1) := by decide +kernel
theorem d_Classes_parentTowards_58 : decode b_Classes_parentTowards 58 = .ok (.land, 1) := by decide +kernel
theorem d_Classes_parentTowards_59 : decode b_Classes_parentTowards 59 = .ok (.lconst 0, 1) := by decide +kernel
theorem d_Classes_parentTowards_60 : decode b_Classes_parentTowards 60 = .ok (.lcmp, 1) := by decide +kernel
theorem d_Classes_parentTowards_61 : decode b_Classes_parentTowards 61 = .ok (.ifCond .eq 14, 3) := by decide +kernel
theorem d_Classes_parentTowards_64 : decode b_Classes_parentTowards 64 = .ok (.aload_n 0, 1) := by decide +kernel
theorem d_Classes_parentTowards_65 : decode b_Classes_parentTowards 65 = .ok (.getfield 18, 3) := by decide +kernel
theorem d_Classes_parentTowards_68 : decode b_Classes_parentTowards 68 = .ok (.iload_n 1, 1) := by decide +kernel
theorem d_Classes_parentTowards_69 : decode b_Classes_parentTowards 69 = .ok (.iconst 3, 1) := by decide +kernel
theorem d_Classes_parentTowards_70 : decode b_Classes_parentTowards 70 = .ok (.imul, 1) := by decide +kernel
theorem d_Classes_parentTowards_71 : decode b_Classes_parentTowards 71 = .ok (.iload_n 3, 1) := by decide +kernel
theorem d_Classes_parentTowards_72 : decode b_Classes_parentTowards 72 = .ok (.iadd, 1) := by decide +kernel
theorem d_Classes_parentTowards_73 : decode b_Classes_parentTowards 73 = .ok (.iaload, 1) := by decide +kernel
theorem d_Classes_parentTowards_74 : decode b_Classes_parentTowards 74 = .ok (.ireturn, 1) := by decide +kernel
theorem d_Classes_parentTowards_75 : decode b_Classes_parentTowards 75 = .ok (.iinc 3 1, 3) := by decide +kernel
theorem d_Classes_parentTowards_78 : decode b_Classes_parentTowards 78 = .ok (.goto (-66), 3) := by decide +kernel
theorem d_Classes_parentTowards_81 : decode b_Classes_parentTowards 81 = .ok (.iconst (-1), 1) := by decide +kernel
theorem d_Classes_parentTowards_82 : decode b_Classes_parentTowards 82 = .ok (.ireturn, 1) := by decide +kernel
theorem d_Exchange_init_0 : decode b_Exchange_init 0 = .ok (.aload_n 0, 1) := by decide +kernel
theorem d_Exchange_init_1 : decode b_Exchange_init 1 = .ok (.invokespecial 3, 3) := by decide +kernel
theorem d_Exchange_init_4 : decode b_Exchange_init 4 = .ok (.aload_n 0, 1) := by decide +kernel
theorem d_Exchange_init_5 : decode b_Exchange_init 5 = .ok (.bipush 12, 2) := by decide +kernel
theorem d_Exchange_init_7 : decode b_Exchange_init 7 = .ok (.newarray .int, 2) := by decide +kernel
theorem d_Exchange_init_9 : decode b_Exchange_init 9 = .ok (.putfield 9, 3) := by decide +kernel
theorem d_Exchange_init_12 : decode b_Exchange_init 12 = .ok (.aload_n 0, 1) := by decide +kernel
theorem d_Exchange_init_13 : decode b_Exchange_init 13 = .ok (.sipush 500, 3) := by decide +kernel
theorem d_Exchange_init_16 : decode b_Exchange_init 16 = .ok (.newarray .int, 2) := by decide +kernel
theorem d_Exchange_init_18 : decode b_Exchange_init 18 = .ok (.putfield 15, 3) := by decide +kernel
theorem d_Exchange_init_21 : decode b_Exchange_init 21 = .ok (.aload_n 0, 1) := by decide +kernel
theorem d_Exchange_init_22 : decode b_Exchange_init 22 = .ok (.sipush 500, 3) := by decide +kernel
theorem d_Exchange_init_25 : decode b_Exchange_init 25 = .ok (.newarray .int, 2) := by decide +kernel
theorem d_Exchange_init_27 : decode b_Exchange_init 27 = .ok (.putfield 18, 3) := by decide +kernel
theorem d_Exchange_init_30 : decode b_Exchange_init 30 = .ok (.aload_n 0, 1) := by decide +kernel
theorem d_Exchange_init_31 : decode b_Exchange_init 31 = .ok (.aload_n 1, 1) := by decide +kernel
theorem d_Exchange_init_32 : decode b_Exchange_init 32 = .ok (.putfield 21, 3) := by decide +kernel
theorem d_Exchange_init_35 : decode b_Exchange_init 35 = .ok (.aload_n 0, 1) := by decide +kernel
theorem d_Exchange_init_36 : decode b_Exchange_init 36 = .ok (.iconst (-1), 1) := by decide +kernel
theorem d_Exchange_init_37 : decode b_Exchange_init 37 = .ok (.putfield 25, 3) := by decide +kernel
theorem d_Exchange_init_40 : decode b_Exchange_init 40 = .ok (.return_, 1) := by decide +kernel
theorem d_Exchange_forVariables_0 : decode b_Exchange_forVariables 0 = .ok (.aload_n 0, 1) := by decide +kernel
theorem d_Exchange_forVariables_1 : decode b_Exchange_forVariables 1 = .ok (.dup, 1) := by decide +kernel
theorem d_Exchange_forVariables_2 : decode b_Exchange_forVariables 2 = .ok (.getfield 29, 3) := by decide +kernel
theorem d_Exchange_forVariables_5 : decode b_Exchange_forVariables 5 = .ok (.iconst 1, 1) := by decide +kernel
theorem d_Exchange_forVariables_6 : decode b_Exchange_forVariables 6 = .ok (.iadd, 1) := by decide +kernel
theorem d_Exchange_forVariables_7 : decode b_Exchange_forVariables 7 = .ok (.putfield 29, 3) := by decide +kernel
theorem d_Exchange_forVariables_10 : decode b_Exchange_forVariables 10 = .ok (.aload_n 0, 1) := by decide +kernel
theorem d_Exchange_forVariables_11 : decode b_Exchange_forVariables 11 = .ok (.iconst 0, 1) := by decide +kernel
theorem d_Exchange_forVariables_12 : decode b_Exchange_forVariables 12 = .ok (.putfield 32, 3) := by decide +kernel
theorem d_Exchange_forVariables_15 : decode b_Exchange_forVariables 15 = .ok (.aload_n 0, 1) := by decide +kernel
theorem d_Exchange_forVariables_16 : decode b_Exchange_forVariables 16 = .ok (.iconst (-1), 1) := by decide +kernel
theorem d_Exchange_forVariables_17 : decode b_Exchange_forVariables 17 = .ok (.putfield 25, 3) := by decide +kernel
theorem d_Exchange_forVariables_20 : decode b_Exchange_forVariables 20 = .ok (.return_, 1) := by decide +kernel
theorem d_Exchange_setInstead_0 : decode b_Exchange_setInstead 0 = .ok (.iload_n 1, 1) := by decide +kernel
theorem d_Exchange_setInstead_1 : decode b_Exchange_setInstead 1 = .ok (.ifCond .lt 9, 3) := by decide +kernel
theorem d_Exchange_setInstead_4 : decode b_Exchange_setInstead 4 = .ok (.iload_n 1, 1) := by decide +kernel
theorem d_Exchange_setInstead_5 : decode b_Exchange_setInstead 5 = .ok (.bipush 12, 2) := by decide +kernel
theorem d_Exchange_setInstead_7 : decode b_Exchange_setInstead 7 = .ok (.if_icmp .lt 4, 3) := by decide +kernel
theorem d_Exchange_setInstead_10 : decode b_Exchange_setInstead 10 = .ok (.return_, 1) := by decide +kernel
theorem d_Exchange_setInstead_11 : decode b_Exchange_setInstead 11 = .ok (.aload_n 0, 1) := by decide +kernel
theorem d_Exchange_setInstead_12 : decode b_Exchange_setInstead 12 = .ok (.getfield 9, 3) := by decide +kernel
theorem d_Exchange_setInstead_15 : decode b_Exchange_setInstead 15 = .ok (.iload_n 1, 1) := by decide +kernel
theorem d_Exchange_setInstead_16 : decode b_Exchange_setInstead 16 = .ok (.iload_n 2, 1) := by decide +kernel
theorem d_Exchange_setInstead_17 : decode b_Exchange_setInstead 17 = .ok (.iastore, 1) := by decide +kernel
theorem d_Exchange_setInstead_18 : decode b_Exchange_setInstead 18 = .ok (.aload_n 0, 1) := by decide +kernel
theorem d_Exchange_setInstead_19 : decode b_Exchange_setInstead 19 = .ok (.dup, 1) := by decide +kernel
theorem d_Exchange_setInstead_20 : decode b_Exchange_setInstead 20 = .ok (.getfield 32, 3) := by decide +kernel
theorem d_Exchange_setInstead_23 : decode b_Exchange_setInstead 23 = .ok (.iconst 1, 1) := by decide +kernel
theorem d_Exchange_setInstead_24 : decode b_Exchange_setInstead 24 = .ok (.iload_n 1, 1) := by decide +kernel
theorem d_Exchange_setInstead_25 : decode b_Exchange_setInstead 25 = .ok (.ishl, 1) := by decide +kernel
theorem d_Exchange_setInstead_26 : decode b_Exchange_setInstead 26 = .ok (.ior, 1) := by decide +kernel
theorem d_Exchange_setInstead_27 : decode b_Exchange_setInstead 27 = .ok (.putfield 32, 3) := by decide +kernel
theorem d_Exchange_setInstead_30 : decode b_Exchange_setInstead 30 = .ok (.return_, 1) := by decide +kernel
theorem d_Exchange_forArguments_0 : decode b_Exchange_forArguments 0 = .ok (.aload_n 0, 1) := by decide +kernel
theorem d_Exchange_forArguments_1 : decode b_Exchange_forArguments 1 = .ok (.dup, 1) := by decide +kernel
theorem d_Exchange_forArguments_2 : decode b_Exchange_forArguments 2 = .ok (.getfield 29, 3) := by decide +kernel
theorem d_Exchange_forArguments_5 : decode b_Exchange_forArguments 5 = .ok (.iconst 1, 1) := by decide +kernel
theorem d_Exchange_forArguments_6 : decode b_Exchange_forArguments 6 = .ok (.iadd, 1) := by decide +kernel
theorem d_Exchange_forArguments_7 : decode b_Exchange_forArguments 7 = .ok (.putfield 29, 3) := by decide +kernel
theorem d_Exchange_forArguments_10 : decode b_Exchange_forArguments 10 = .ok (.aload_n 0, 1) := by decide +kernel
theorem d_Exchange_forArguments_11 : decode b_Exchange_forArguments 11 = .ok (.iconst 0, 1) := by decide +kernel
theorem d_Exchange_forArguments_12 : decode b_Exchange_forArguments 12 = .ok (.putfield 32, 3) := by decide +kernel
theorem d_Exchange_forArguments_15 : decode b_Exchange_forArguments 15 = .ok (.aload_n 0, 1) := by decide +kernel
theorem d_Exchange_forArguments_16 : decode b_Exchange_forArguments 16 = .ok (.iload_n 1, 1) := by decide +kernel
theorem d_Exchange_forArguments_17 : decode b_Exchange_forArguments 17 = .ok (.putfield 25, 3) := by decide +kernel
theorem d_Exchange_forArguments_20 : decode b_Exchange_forArguments 20 = .ok (.return_, 1) := by decide +kernel
end
section
theorem d_Exchange_put_0 : decode b_Exchange_put 0 = .ok (.iload_n 1, 1) := by decide +kernel
theorem d_Exchange_put_1 : decode b_Exchange_put 1 = .ok (.ifCond .lt 10, 3) := by decide +kernel
theorem d_Exchange_put_4 : decode b_Exchange_put 4 = .ok (.iload_n 1, 1) := by decide +kernel
theorem d_Exchange_put_5 : decode b_Exchange_put 5 = .ok (.sipush 500, 3) := by decide +kernel
theorem d_Exchange_put_8 : decode b_Exchange_put 8 = .ok (.if_icmp .lt 5, 3) := by decide +kernel
theorem d_Exchange_put_11 : decode b_Exchange_put 11 = .ok (.iload_n 1, 1) := by decide +kernel
theorem d_Exchange_put_12 : decode b_Exchange_put 12 = .ok (.ireturn, 1) := by decide +kernel
theorem d_Exchange_put_13 : decode b_Exchange_put 13 = .ok (.aload_n 0, 1) := by decide +kernel
theorem d_Exchange_put_14 : decode b_Exchange_put 14 = .ok (.getfield 25, 3) := by decide +kernel
theorem d_Exchange_put_17 : decode b_Exchange_put 17 = .ok (.ifCond .ge 27, 3) := by decide +kernel
theorem d_Exchange_put_20 : decode b_Exchange_put 20 = .ok (.aload_n 0, 1) := by decide +kernel
theorem d_Exchange_put_21 : decode b_Exchange_put 21 = .ok (.getfield 21, 3) := by decide +kernel
theorem d_Exchange_put_24 : decode b_Exchange_put 24 = .ok (.iload_n 1, 1) := by decide +kernel
theorem d_Exchange_put_25 : decode b_Exchange_put 25 = .ok (.invokevirtual 35, 3) := by decide +kernel
theorem d_Exchange_put_28 : decode b_Exchange_put 28 = .ok (.aload_n 0, 1) := by decide +kernel
theorem d_Exchange_put_29 : decode b_Exchange_put 29 = .ok (.getfield 32, 3) := by decide +kernel
theorem d_Exchange_put_32 : decode b_Exchange_put 32 = .ok (.iand, 1) := by decide +kernel
theorem d_Exchange_put_33 : decode b_Exchange_put 33 = .ok (.ifCond .eq 7, 3) := by decide +kernel
theorem d_Exchange_put_36 : decode b_Exchange_put 36 = .ok (.iconst 1, 1) := by decide +kernel
theorem d_Exchange_put_37 : decode b_Exchange_put 37 = .ok (.goto 26, 3) := by decide +kernel
theorem d_Exchange_put_40 : decode b_Exchange_put 40 = .ok (.iconst 0, 1) := by decide +kernel
theorem d_Exchange_put_41 : decode b_Exchange_put 41 = .ok (.goto 22, 3) := by decide +kernel
theorem d_Exchange_put_44 : decode b_Exchange_put 44 = .ok (.aload_n 0, 1) := by decide +kernel
theorem d_Exchange_put_45 : decode b_Exchange_put 45 = .ok (.getfield 21, 3) := by decide +kernel
theorem d_Exchange_put_48 : decode b_Exchange_put 48 = .ok (.iload_n 1, 1) := by decide +kernel
theorem d_Exchange_put_49 : decode b_Exchange_put 49 = .ok (.iconst (-1), 1) := by decide +kernel
theorem d_Exchange_put_50 : decode b_Exchange_put 50 = .ok (.invokevirtual 41, 3) := by decide +kernel
theorem d_Exchange_put_53 : decode b_Exchange_put 53 = .ok (.lconst 0, 1) := by decide +kernel
theorem d_Exchange_put_54 : decode b_Exchange_put 54 = .ok (.lcmp, 1) := by decide +kernel
theorem d_Exchange_put_55 : decode b_Exchange_put 55 = .ok (.ifCond .eq 7, 3) := by decide +kernel
theorem d_Exchange_put_58 : decode b_Exchange_put 58 = .ok (.iconst 1, 1) := by decide +kernel
theorem d_Exchange_put_59 : decode b_Exchange_put 59 = .ok (.goto 4, 3) := by decide +kernel
theorem d_Exchange_put_62 : decode b_Exchange_put 62 = .ok (.iconst 0, 1) := by decide +kernel
theorem d_Exchange_put_63 : decode b_Exchange_put 63 = .ok (.istore_n 2, 1) := by decide +kernel
theorem d_Exchange_put_64 : decode b_Exchange_put 64 = .ok (.iload_n 2, 1) := by decide +kernel
theorem d_Exchange_put_65 : decode b_Exchange_put 65 = .ok (.ifCond .ne 5, 3) := by decide +kernel
theorem d_Exchange_put_68 : decode b_Exchange_put 68 = .ok (.iload_n 1, 1) := by decide +kernel
theorem d_Exchange_put_69 : decode b_Exchange_put 69 = .ok (.ireturn, 1) := by decide +kernel
theorem d_Exchange_put_70 : decode b_Exchange_put 70 = .ok (.aload_n 0, 1) := by decide +kernel
theorem d_Exchange_put_71 : decode b_Exchange_put 71 = .ok (.getfield 18, 3) := by decide +kernel
theorem d_Exchange_put_74 : decode b_Exchange_put 74 = .ok (.iload_n 1, 1) := by decide +kernel
theorem d_Exchange_put_75 : decode b_Exchange_put 75 = .ok (.iaload, 1) := by decide +kernel
theorem d_Exchange_put_76 : decode b_Exchange_put 76 = .ok (.aload_n 0, 1) := by decide +kernel
theorem d_Exchange_put_77 : decode b_Exchange_put 77 = .ok (.getfield 29, 3) := by decide +kernel
theorem d_Exchange_put_80 : decode b_Exchange_put 80 = .ok (.if_icmp .ne 10, 3) := by decide +kernel
theorem d_Exchange_put_83 : decode b_Exchange_put 83 = .ok (.aload_n 0, 1) := by decide +kernel
theorem d_Exchange_put_84 : decode b_Exchange_put 84 = .ok (.getfield 15, 3) := by decide +kernel
theorem d_Exchange_put_87 : decode b_Exchange_put 87 = .ok (.iload_n 1, 1) := by decide +kernel
theorem d_Exchange_put_88 : decode b_Exchange_put 88 = .ok (.iaload, 1) := by decide +kernel
theorem d_Exchange_put_89 : decode b_Exchange_put 89 = .ok (.ireturn, 1) := by decide +kernel
theorem d_Exchange_put_90 : decode b_Exchange_put 90 = .ok (.aload_n 0, 1) := by decide +kernel
theorem d_Exchange_put_91 : decode b_Exchange_put 91 = .ok (.getfield 21, 3) := by decide +kernel
theorem d_Exchange_put_94 : decode b_Exchange_put 94 = .ok (.iload_n 1, 1) := by decide +kernel
theorem d_Exchange_put_95 : decode b_Exchange_put 95 = .ok (.invokevirtual 45, 3) := by decide +kernel
theorem d_Exchange_put_98 : decode b_Exchange_put 98 = .ok (.istore_n 3, 1) := by decide +kernel
theorem d_Exchange_put_99 : decode b_Exchange_put 99 = .ok (.aload_n 0, 1) := by decide +kernel
theorem d_Exchange_put_100 : decode b_Exchange_put 100 = .ok (.getfield 21, 3) := by decide +kernel
theorem d_Exchange_put_103 : decode b_Exchange_put 103 = .ok (.iload_n 1, 1) := by decide +kernel
theorem d_Exchange_put_104 : decode b_Exchange_put 104 = .ok (.invokevirtual 48, 3) := by decide +kernel
theorem d_Exchange_put_107 : decode b_Exchange_put 107 = .ok (.istore 4, 2) := by decide +kernel
theorem d_Exchange_put_109 : decode b_Exchange_put 109 = .ok (.aload_n 0, 1) := by decide +kernel
theorem d_Exchange_put_110 : decode b_Exchange_put 110 = .ok (.getfield 21, 3) := by decide +kernel
theorem d_Exchange_put_113 : decode b_Exchange_put 113 = .ok (.iload_n 1, 1) := by decide +kernel
theorem d_Exchange_put_114 : decode b_Exchange_put 114 = .ok (.invokevirtual 51, 3) := by decide +kernel
theorem d_Exchange_put_117 : decode b_Exchange_put 117 = .ok (.istore 5, 2) := by decide +kernel
theorem d_Exchange_put_119 : decode b_Exchange_put 119 = .ok (.aload_n 0, 1) := by decide +kernel
theorem d_Exchange_put_120 : decode b_Exchange_put 120 = .ok (.getfield 21, 3) := by decide +kernel
theorem d_Exchange_put_123 : decode b_Exchange_put 123 = .ok (.iload_n 1, 1) := by decide +kernel
theorem d_Exchange_put_124 : decode b_Exchange_put 124 = .ok (.invokevirtual 54, 3) := by decide +kernel
theorem d_Exchange_put_127 : decode b_Exchange_put 127 = .ok (.istore 6, 2) := by decide +kernel
theorem d_Exchange_put_129 : decode b_Exchange_put 129 = .ok (.iload_n 1, 1) := by decide +kernel
theorem d_Exchange_put_130 : decode b_Exchange_put 130 = .ok (.istore 7, 2) := by decide +kernel
theorem d_Exchange_put_132 : decode b_Exchange_put 132 = .ok (.iload_n 3, 1) := by decide +kernel
theorem d_Exchange_put_133 : decode b_Exchange_put 133 = .ok (.bipush 7, 2) := by decide +kernel
theorem d_Exchange_put_135 : decode b_Exchange_put 135 = .ok (.if_icmp .ne 27, 3) := by decide +kernel
theorem d_Exchange_put_138 : decode b_Exchange_put 138 = .ok (.iload 4, 2) := by decide +kernel
theorem d_Exchange_put_140 : decode b_Exchange_put 140 = .ok (.ifCond .lt 22, 3) := by decide +kernel
theorem d_Exchange_put_143 : decode b_Exchange_put 143 = .ok (.iload 4, 2) := by decide +kernel
theorem d_Exchange_put_145 : decode b_Exchange_put 145 = .ok (.bipush 12, 2) := by decide +kernel
theorem d_Exchange_put_147 : decode b_Exchange_put 147 = .ok (.if_icmp .ge 15, 3) := by decide +kernel
theorem d_Exchange_put_150 : decode b_Exchange_put 150 = .ok (.aload_n 0, 1) := by decide +kernel
theorem d_Exchange_put_151 : decode b_Exchange_put 151 = .ok (.getfield 9, 3) := by decide +kernel
theorem d_Exchange_put_154 : decode b_Exchange_put 154 = .ok (.iload 4, 2) := by decide +kernel
theorem d_Exchange_put_156 : decode b_Exchange_put 156 = .ok (.iaload, 1) := by decide +kernel
theorem d_Exchange_put_157 : decode b_Exchange_put 157 = .ok (.istore 7, 2) := by decide +kernel
theorem d_Exchange_put_159 : decode b_Exchange_put 159 = .ok (.goto 188, 3) := by decide +kernel
theorem d_Exchange_put_162 : decode b_Exchange_put 162 = .ok (.iload_n 3, 1) := by decide +kernel
theorem d_Exchange_put_163 : decode b_Exchange_put 163 = .ok (.iconst 3, 1) := by decide +kernel
theorem d_Exchange_put_164 : decode b_Exchange_put 164 = .ok (.if_icmp .ne 68, 3) := by decide +kernel
theorem d_Exchange_put_167 : decode b_Exchange_put 167 = .ok (.iload 4, 2) := by decide +kernel
theorem d_Exchange_put_169 : decode b_Exchange_put 169 = .ok (.aload_n 0, 1) := by decide +kernel
theorem d_Exchange_put_170 : decode b_Exchange_put 170 = .ok (.getfield 21, 3) := by decide +kernel
theorem d_Exchange_put_173 : decode b_Exchange_put 173 = .ok (.aload_n 0, 1) := by decide +kernel
theorem d_Exchange_put_174 : decode b_Exchange_put 174 = .ok (.getfield 25, 3) := by decide +kernel
theorem d_Exchange_put_177 : decode b_Exchange_put 177 = .ok (.invokevirtual 48, 3) := by decide +kernel
theorem d_Exchange_put_180 : decode b_Exchange_put 180 = .ok (.if_icmp .ne 52, 3) := by decide +kernel
theorem d_Exchange_put_183 : decode b_Exchange_put 183 = .ok (.aload_n 0, 1) := by decide +kernel
theorem d_Exchange_put_184 : decode b_Exchange_put 184 = .ok (.getfield 21, 3) := by decide +kernel
theorem d_Exchange_put_187 : decode b_Exchange_put 187 = .ok (.aload_n 0, 1) := by decide +kernel
theorem d_Exchange_put_188 : decode b_Exchange_put 188 = .ok (.getfield 25, 3) := by decide +kernel
theorem d_Exchange_put_191 : decode b_Exchange_put 191 = .ok (.iload 5, 2) := by decide +kernel
theorem d_Exchange_put_193 : decode b_Exchange_put 193 = .ok (.invokevirtual 57, 3) := by decide +kernel
theorem d_Exchange_put_196 : decode b_Exchange_put 196 = .ok (.istore 7, 2) := by decide +kernel
theorem d_Exchange_put_198 : decode b_Exchange_put 198 = .ok (.aload_n 0, 1) := by decide +kernel
theorem d_Exchange_put_199 : decode b_Exchange_put 199 = .ok (.getfield 21, 3) := by decide +kernel
theorem d_Exchange_put_202 : decode b_Exchange_put 202 = .ok (.iload 7, 2) := by decide +kernel
theorem d_Exchange_put_204 : decode b_Exchange_put 204 = .ok (.invokevirtual 45, 3) := by decide +kernel
theorem d_Exchange_put_207 : decode b_Exchange_put 207 = .ok (.iconst 2, 1) := by decide +kernel
theorem d_Exchange_put_208 : decode b_Exchange_put 208 = .ok (.if_icmp .ne 139, 3) := by decide +kernel
theorem d_Exchange_put_211 : decode b_Exchange_put 211 = .ok (.aload_n 0, 1) := by decide +kernel
theorem d_Exchange_put_212 : decode b_Exchange_put 212 = .ok (.getfield 21, 3) := by decide +kernel
theorem d_Exchange_put_215 : decode b_Exchange_put 215 = .ok (.bipush 8, 2) := by decide +kernel
theorem d_Exchange_put_217 : decode b_Exchange_put 217 = .ok (.aload_n 0, 1) := by decide +kernel
theorem d_Exchange_put_218 : decode b_Exchange_put 218 = .ok (.getfield 25, 3) := by decide +kernel
theorem d_Exchange_put_221 : decode b_Exchange_put 221 = .ok (.iload 5, 2) := by decide +kernel
theorem d_Exchange_put_223 : decode b_Exchange_put 223 = .ok (.iconst (-1), 1) := by decide +kernel
theorem d_Exchange_put_224 : decode b_Exchange_put 224 = .ok (.invokevirtual 61, 3) := by decide +kernel
theorem d_Exchange_put_227 : decode b_Exchange_put 227 = .ok (.istore 7, 2) := by decide +kernel
theorem d_Exchange_put_229 : decode b_Exchange_put 229 = .ok (.goto 118, 3) := by decide +kernel
theorem d_Exchange_put_232 : decode b_Exchange_put 232 = .ok (.iload_n 3, 1) := by decide +kernel
theorem d_Exchange_put_233 : decode b_Exchange_put 233 = .ok (.iconst 4, 1) := by decide +kernel
theorem d_Exchange_put_234 : decode b_Exchange_put 234 = .ok (.if_icmp .eq 9, 3) := by decide +kernel
theorem d_Exchange_put_237 : decode b_Exchange_put 237 = .ok (.iload_n 3, 1) := by decide +kernel
theorem d_Exchange_put_238 : decode b_Exchange_put 238 = .ok (.bipush 8, 2) := by decide +kernel
theorem d_Exchange_put_240 : decode b_Exchange_put 240 = .ok (.if_icmp .ne 41, 3) := by decide +kernel
theorem d_Exchange_put_243 : decode b_Exchange_put 243 = .ok (.aload_n 0, 1) := by decide +kernel
theorem d_Exchange_put_244 : decode b_Exchange_put 244 = .ok (.iload 4, 2) := by decide +kernel
theorem d_Exchange_put_246 : decode b_Exchange_put 246 = .ok (.invokevirtual 65, 3) := by decide +kernel
theorem d_Exchange_put_249 : decode b_Exchange_put 249 = .ok (.istore 8, 2) := by decide +kernel
theorem d_Exchange_put_251 : decode b_Exchange_put 251 = .ok (.iload 8, 2) := by decide +kernel
theorem d_Exchange_put_253 : decode b_Exchange_put 253 = .ok (.bipush (-3), 2) := by decide +kernel
theorem d_Exchange_put_255 : decode b_Exchange_put 255 = .ok (.if_icmp .ne 8, 3) := by decide +kernel
theorem d_Exchange_put_258 : decode b_Exchange_put 258 = .ok (.bipush (-3), 2) := by decide +kernel
theorem d_Exchange_put_260 : decode b_Exchange_put 260 = .ok (.goto 16, 3) := by decide +kernel
theorem d_Exchange_put_263 : decode b_Exchange_put 263 = .ok (.aload_n 0, 1) := by decide +kernel
theorem d_Exchange_put_264 : decode b_Exchange_put 264 = .ok (.getfield 21, 3) := by decide +kernel
theorem d_Exchange_put_267 : decode b_Exchange_put 267 = .ok (.iload_n 3, 1) := by decide +kernel
theorem d_Exchange_put_268 : decode b_Exchange_put 268 = .ok (.iload 8, 2) := by decide +kernel
theorem d_Exchange_put_270 : decode b_Exchange_put 270 = .ok (.iload 5, 2) := by decide +kernel
theorem d_Exchange_put_272 : decode b_Exchange_put 272 = .ok (.iconst (-1), 1) := by decide +kernel
theorem d_Exchange_put_273 : decode b_Exchange_put 273 = .ok (.invokevirtual 61, 3) := by decide +kernel
theorem d_Exchange_put_276 : decode b_Exchange_put 276 = .ok (.istore 7, 2) := by decide +kernel
theorem d_Exchange_put_278 : decode b_Exchange_put 278 = .ok (.goto 69, 3) := by decide +kernel
theorem d_Exchange_put_281 : decode b_Exchange_put 281 = .ok (.iload_n 3, 1) := by decide +kernel
theorem d_Exchange_put_282 : decode b_Exchange_put 282 = .ok (.iconst 2, 1) := by decide +kernel
theorem d_Exchange_put_283 : decode b_Exchange_put 283 = .ok (.if_icmp .eq 8, 3) := by decide +kernel
theorem d_Exchange_put_286 : decode b_Exchange_put 286 = .ok (.iload_n 3, 1) := by decide +kernel
theorem d_Exchange_put_287 : decode b_Exchange_put 287 = .ok (.iconst 1, 1) := by decide +kernel
theorem d_Exchange_put_288 : decode b_Exchange_put 288 = .ok (.if_icmp .ne 59, 3) := by decide +kernel
theorem d_Exchange_put_291 : decode b_Exchange_put 291 = .ok (.aload_n 0, 1) := by decide +kernel
theorem d_Exchange_put_292 : decode b_Exchange_put 292 = .ok (.iload 5, 2) := by decide +kernel
theorem d_Exchange_put_294 : decode b_Exchange_put 294 = .ok (.invokevirtual 65, 3) := by decide +kernel
theorem d_Exchange_put_297 : decode b_Exchange_put 297 = .ok (.istore 8, 2) := by decide +kernel
theorem d_Exchange_put_299 : decode b_Exchange_put 299 = .ok (.iload 8, 2) := by decide +kernel
theorem d_Exchange_put_301 : decode b_Exchange_put 301 = .ok (.bipush (-3), 2) := by decide +kernel
theorem d_Exchange_put_303 : decode b_Exchange_put 303 = .ok (.if_icmp .ne 8, 3) := by decide +kernel
theorem d_Exchange_put_306 : decode b_Exchange_put 306 = .ok (.bipush (-3), 2) := by decide +kernel
theorem d_Exchange_put_308 : decode b_Exchange_put 308 = .ok (.goto 9, 3) := by decide +kernel
theorem d_Exchange_put_311 : decode b_Exchange_put 311 = .ok (.aload_n 0, 1) := by decide +kernel
theorem d_Exchange_put_312 : decode b_Exchange_put 312 = .ok (.iload 6, 2) := by decide +kernel
theorem d_Exchange_put_314 : decode b_Exchange_put 314 = .ok (.invokevirtual 65, 3) := by decide +kernel
theorem d_Exchange_put_317 : decode b_Exchange_put 317 = .ok (.istore 9, 2) := by decide +kernel
theorem d_Exchange_put_319 : decode b_Exchange_put 319 = .ok (.iload 9, 2) := by decide +kernel
theorem d_Exchange_put_321 : decode b_Exchange_put 321 = .ok (.bipush (-3), 2) := by decide +kernel
theorem d_Exchange_put_323 : decode b_Exchange_put 323 = .ok (.if_icmp .ne 8, 3) := by decide +kernel
theorem d_Exchange_put_326 : decode b_Exchange_put 326 = .ok (.bipush (-3), 2) := by decide +kernel
theorem d_Exchange_put_328 : decode b_Exchange_put 328 = .ok (.goto 17, 3) := by decide +kernel
theorem d_Exchange_put_331 : decode b_Exchange_put 331 = .ok (.aload_n 0, 1) := by decide +kernel
theorem d_Exchange_put_332 : decode b_Exchange_put 332 = .ok (.getfield 21, 3) := by decide +kernel
theorem d_Exchange_put_335 : decode b_Exchange_put 335 = .ok (.iload_n 3, 1) := by decide +kernel
theorem d_Exchange_put_336 : decode b_Exchange_put 336 = .ok (.iload 4, 2) := by decide +kernel
theorem d_Exchange_put_338 : decode b_Exchange_put 338 = .ok (.iload 8, 2) := by decide +kernel
theorem d_Exchange_put_340 : decode b_Exchange_put 340 = .ok (.iload 9, 2) := by decide +kernel
theorem d_Exchange_put_342 : decode b_Exchange_put 342 = .ok (.invokevirtual 61, 3) := by decide +kernel
theorem d_Exchange_put_345 : decode b_Exchange_put 345 = .ok (.istore 7, 2) := by decide +kernel
theorem d_Exchange_put_347 : decode b_Exchange_put 347 = .ok (.aload_n 0, 1) := by decide +kernel
theorem d_Exchange_put_348 : decode b_Exchange_put 348 = .ok (.getfield 15, 3) := by decide +kernel
theorem d_Exchange_put_351 : decode b_Exchange_put 351 = .ok (.iload_n 1, 1) := by decide +kernel
theorem d_Exchange_put_352 : decode b_Exchange_put 352 = .ok (.iload 7, 2) := by decide +kernel
theorem d_Exchange_put_354 : decode b_Exchange_put 354 = .ok (.iastore, 1) := by decide +kernel
theorem d_Exchange_put_355 : decode b_Exchange_put 355 = .ok (.aload_n 0, 1) := by decide +kernel
theorem d_Exchange_put_356 : decode b_Exchange_put 356 = .ok (.getfield 18, 3) := by decide +kernel
theorem d_Exchange_put_359 : decode b_Exchange_put 359 = .ok (.iload_n 1, 1) := by decide +kernel
theorem d_Exchange_put_360 : decode b_Exchange_put 360 = .ok (.aload_n 0, 1) := by decide +kernel
theorem d_Exchange_put_361 : decode b_Exchange_put 361 = .ok (.getfield 29, 3) := by decide +kernel
theorem d_Exchange_put_364 : decode b_Exchange_put 364 = .ok (.iastore, 1) := by decide +kernel
theorem d_Exchange_put_365 : decode b_Exchange_put 365 = .ok (.iload 7, 2) := by decide +kernel
theorem d_Exchange_put_367 : decode b_Exchange_put 367 = .ok (.ireturn, 1) := by decide +kernel
theorem d_Holder_init_0 : decode b_Holder_init 0 = .ok (.aload_n 0, 1) := by decide +kernel
theorem d_Holder_init_1 : decode b_Holder_init 1 = .ok (.invokespecial 3, 3) := by decide +kernel
theorem d_Holder_init_4 : decode b_Holder_init 4 = .ok (.aload_n 0, 1) := by decide +kernel
theorem d_Holder_init_5 : decode b_Holder_init 5 = .ok (.aload_n 1, 1) := by decide +kernel
theorem d_Holder_init_6 : decode b_Holder_init 6 = .ok (.putfield 9, 3) := by decide +kernel
theorem d_Holder_init_9 : decode b_Holder_init 9 = .ok (.aload_n 0, 1) := by decide +kernel
theorem d_Holder_init_10 : decode b_Holder_init 10 = .ok (.aload_n 2, 1) := by decide +kernel
theorem d_Holder_init_11 : decode b_Holder_init 11 = .ok (.putfield 15, 3) := by decide +kernel
theorem d_Holder_init_14 : decode b_Holder_init 14 = .ok (.aload_n 0, 1) := by decide +kernel
theorem d_Holder_init_15 : decode b_Holder_init 15 = .ok (.aload_n 3, 1) := by decide +kernel
theorem d_Holder_init_16 : decode b_Holder_init 16 = .ok (.putfield 19, 3) := by decide +kernel
theorem d_Holder_init_19 : decode b_Holder_init 19 = .ok (.aload_n 0, 1) := by decide +kernel
theorem d_Holder_init_20 : decode b_Holder_init 20 = .ok (.aload 4, 2) := by decide +kernel
theorem d_Holder_init_22 : decode b_Holder_init 22 = .ok (.putfield 23, 3) := by decide +kernel
theorem d_Holder_init_25 : decode b_Holder_init 25 = .ok (.aload_n 0, 1) := by decide +kernel
theorem d_Holder_init_26 : decode b_Holder_init 26 = .ok (.aload 5, 2) := by decide +kernel
theorem d_Holder_init_28 : decode b_Holder_init 28 = .ok (.putfield 27, 3) := by decide +kernel
theorem d_Holder_init_31 : decode b_Holder_init 31 = .ok (.aload_n 0, 1) := by decide +kernel
theorem d_Holder_init_32 : decode b_Holder_init 32 = .ok (.aload 6, 2) := by decide +kernel
theorem d_Holder_init_34 : decode b_Holder_init 34 = .ok (.putfield 31, 3) := by decide +kernel
theorem d_Holder_init_37 : decode b_Holder_init 37 = .ok (.return_, 1) := by decide +kernel
theorem d_Holder_holdAll_0 : decode b_Holder_holdAll 0 = .ok (.aload_n 0, 1) := by decide +kernel
theorem d_Holder_holdAll_1 : decode b_Holder_holdAll 1 = .ok (.getfield 27, 3) := by decide +kernel
theorem d_Holder_holdAll_4 : decode b_Holder_holdAll 4 = .ok (.invokevirtual 35, 3) := by decide +kernel
theorem d_Holder_holdAll_7 : decode b_Holder_holdAll 7 = .ok (.istore_n 1, 1) := by decide +kernel
theorem d_Holder_holdAll_8 : decode b_Holder_holdAll 8 = .ok (.iload_n 1, 1) := by decide +kernel
theorem d_Holder_holdAll_9 : decode b_Holder_holdAll 9 = .ok (.iconst 1, 1) := by decide +kernel
theorem d_Holder_holdAll_10 : decode b_Holder_holdAll 10 = .ok (.if_icmp .ne 127, 3) := by decide +kernel
theorem d_Holder_holdAll_13 : decode b_Holder_holdAll 13 = .ok (.aload_n 0, 1) := by decide +kernel
theorem d_Holder_holdAll_14 : decode b_Holder_holdAll 14 = .ok (.getfield 41, 3) := by decide +kernel
theorem d_Holder_holdAll_17 : decode b_Holder_holdAll 17 = .ok (.aload_n 0, 1) := by decide +kernel
theorem d_Holder_holdAll_18 : decode b_Holder_holdAll 18 = .ok (.getfield 19, 3) := by decide +kernel
theorem d_Holder_holdAll_21 : decode b_Holder_holdAll 21 = .ok (.getfield 45, 3) := by decide +kernel
theorem d_Holder_holdAll_24 : decode b_Holder_holdAll 24 = .ok (.if_icmp .ge 113, 3) := by decide +kernel
theorem d_Holder_holdAll_27 : decode b_Holder_holdAll 27 = .ok (.aload_n 0, 1) := by decide +kernel
theorem d_Holder_holdAll_28 : decode b_Holder_holdAll 28 = .ok (.getfield 41, 3) := by decide +kernel
theorem d_Holder_holdAll_31 : decode b_Holder_holdAll 31 = .ok (.sipush 200, 3) := by decide +kernel
theorem d_Holder_holdAll_34 : decode b_Holder_holdAll 34 = .ok (.if_icmp .ge 103, 3) := by decide +kernel
theorem d_Holder_holdAll_37 : decode b_Holder_holdAll 37 = .ok (.iconst 0, 1) := by decide +kernel
theorem d_Holder_holdAll_38 : decode b_Holder_holdAll 38 = .ok (.istore_n 2, 1) := by decide +kernel
theorem d_Holder_holdAll_39 : decode b_Holder_holdAll 39 = .ok (.iload_n 2, 1) := by decide +kernel
theorem d_Holder_holdAll_40 : decode b_Holder_holdAll 40 = .ok (.aload_n 0, 1) := by decide +kernel
theorem d_Holder_holdAll_41 : decode b_Holder_holdAll 41 = .ok (.getfield 41, 3) := by decide +kernel
theorem d_Holder_holdAll_44 : decode b_Holder_holdAll 44 = .ok (.if_icmp .ge 80, 3) := by decide +kernel
theorem d_Holder_holdAll_47 : decode b_Holder_holdAll 47 = .ok (.iload_n 1, 1) := by decide +kernel
theorem d_Holder_holdAll_48 : decode b_Holder_holdAll 48 = .ok (.iconst 1, 1) := by decide +kernel
theorem d_Holder_holdAll_49 : decode b_Holder_holdAll 49 = .ok (.if_icmp .ne 75, 3) := by decide +kernel
theorem d_Holder_holdAll_52 : decode b_Holder_holdAll 52 = .ok (.aload_n 0, 1) := by decide +kernel
theorem d_Holder_holdAll_53 : decode b_Holder_holdAll 53 = .ok (.iload_n 2, 1) := by decide +kernel
theorem d_Holder_holdAll_54 : decode b_Holder_holdAll 54 = .ok (.aload_n 0, 1) := by decide +kernel
theorem d_Holder_holdAll_55 : decode b_Holder_holdAll 55 = .ok (.getfield 41, 3) := by decide +kernel
theorem d_Holder_holdAll_58 : decode b_Holder_holdAll 58 = .ok (.invokevirtual 50, 3) := by decide +kernel
theorem d_Holder_holdAll_61 : decode b_Holder_holdAll 61 = .ok (.istore_n 1, 1) := by decide +kernel
theorem d_Holder_holdAll_62 : decode b_Holder_holdAll 62 = .ok (.iload_n 1, 1) := by decide +kernel
theorem d_Holder_holdAll_63 : decode b_Holder_holdAll 63 = .ok (.iconst 1, 1) := by decide +kernel
theorem d_Holder_holdAll_64 : decode b_Holder_holdAll 64 = .ok (.if_icmp .ne 11, 3) := by decide +kernel
theorem d_Holder_holdAll_67 : decode b_Holder_holdAll 67 = .ok (.aload_n 0, 1) := by decide +kernel
theorem d_Holder_holdAll_68 : decode b_Holder_holdAll 68 = .ok (.getfield 27, 3) := by decide +kernel
theorem d_Holder_holdAll_71 : decode b_Holder_holdAll 71 = .ok (.invokevirtual 35, 3) := by decide +kernel
theorem d_Holder_holdAll_74 : decode b_Holder_holdAll 74 = .ok (.istore_n 1, 1) := by decide +kernel
theorem d_Holder_holdAll_75 : decode b_Holder_holdAll 75 = .ok (.iload_n 1, 1) := by decide +kernel
theorem d_Holder_holdAll_76 : decode b_Holder_holdAll 76 = .ok (.iconst 1, 1) := by decide +kernel
theorem d_Holder_holdAll_77 : decode b_Holder_holdAll 77 = .ok (.if_icmp .ne 13, 3) := by decide +kernel
theorem d_Holder_holdAll_80 : decode b_Holder_holdAll 80 = .ok (.aload_n 0, 1) := by decide +kernel
theorem d_Holder_holdAll_81 : decode b_Holder_holdAll 81 = .ok (.iload_n 2, 1) := by decide +kernel
theorem d_Holder_holdAll_82 : decode b_Holder_holdAll 82 = .ok (.aload_n 0, 1) := by decide +kernel
theorem d_Holder_holdAll_83 : decode b_Holder_holdAll 83 = .ok (.getfield 41, 3) := by decide +kernel
theorem d_Holder_holdAll_86 : decode b_Holder_holdAll 86 = .ok (.invokevirtual 54, 3) := by decide +kernel
theorem d_Holder_holdAll_89 : decode b_Holder_holdAll 89 = .ok (.istore_n 1, 1) := by decide +kernel
theorem d_Holder_holdAll_90 : decode b_Holder_holdAll 90 = .ok (.iload_n 1, 1) := by decide +kernel
theorem d_Holder_holdAll_91 : decode b_Holder_holdAll 91 = .ok (.iconst 1, 1) := by decide +kernel
theorem d_Holder_holdAll_92 : decode b_Holder_holdAll 92 = .ok (.if_icmp .ne 13, 3) := by decide +kernel
theorem d_Holder_holdAll_95 : decode b_Holder_holdAll 95 = .ok (.aload_n 0, 1) := by decide +kernel
theorem d_Holder_holdAll_96 : decode b_Holder_holdAll 96 = .ok (.aload_n 0, 1) := by decide +kernel
theorem d_Holder_holdAll_97 : decode b_Holder_holdAll 97 = .ok (.getfield 41, 3) := by decide +kernel
theorem d_Holder_holdAll_100 : decode b_Holder_holdAll 100 = .ok (.iload_n 2, 1) := by decide +kernel
theorem d_Holder_holdAll_101 : decode b_Holder_holdAll 101 = .ok (.invokevirtual 50, 3) := by decide +kernel
theorem d_Holder_holdAll_104 : decode b_Holder_holdAll 104 = .ok (.istore_n 1, 1) := by decide +kernel
theorem d_Holder_holdAll_105 : decode b_Holder_holdAll 105 = .ok (.iload_n 1, 1) := by decide +kernel
theorem d_Holder_holdAll_106 : decode b_Holder_holdAll 106 = .ok (.iconst 1, 1) := by decide +kernel
theorem d_Holder_holdAll_107 : decode b_Holder_holdAll 107 = .ok (.if_icmp .ne 11, 3) := by decide +kernel
theorem d_Holder_holdAll_110 : decode b_Holder_holdAll 110 = .ok (.aload_n 0, 1) := by decide +kernel
theorem d_Holder_holdAll_111 : decode b_Holder_holdAll 111 = .ok (.getfield 27, 3) := by decide +kernel
theorem d_Holder_holdAll_114 : decode b_Holder_holdAll 114 = .ok (.invokevirtual 35, 3) := by decide +kernel
theorem d_Holder_holdAll_117 : decode b_Holder_holdAll 117 = .ok (.istore_n 1, 1) := by decide +kernel
theorem d_Holder_holdAll_118 : decode b_Holder_holdAll 118 = .ok (.iinc 2 1, 3) := by decide +kernel
theorem d_Holder_holdAll_121 : decode b_Holder_holdAll 121 = .ok (.goto (-82), 3) := by decide +kernel
theorem d_Holder_holdAll_124 : decode b_Holder_holdAll 124 = .ok (.aload_n 0, 1) := by decide +kernel
theorem d_Holder_holdAll_125 : decode b_Holder_holdAll 125 = .ok (.dup, 1) := by decide +kernel
theorem d_Holder_holdAll_126 : decode b_Holder_holdAll 126 = .ok (.getfield 41, 3) := by decide +kernel
theorem d_Holder_holdAll_129 : decode b_Holder_holdAll 129 = .ok (.iconst 1, 1) := by decide +kernel
theorem d_Holder_holdAll_130 : decode b_Holder_holdAll 130 = .ok (.iadd, 1) := by decide +kernel
theorem d_Holder_holdAll_131 : decode b_Holder_holdAll 131 = .ok (.putfield 41, 3) := by decide +kernel
theorem d_Holder_holdAll_134 : decode b_Holder_holdAll 134 = .ok (.goto (-126), 3) := by decide +kernel
theorem d_Holder_holdAll_137 : decode b_Holder_holdAll 137 = .ok (.iload_n 1, 1) := by decide +kernel
theorem d_Holder_holdAll_138 : decode b_Holder_holdAll 138 = .ok (.ireturn, 1) := by decide +kernel
theorem d_Holder_comes_0 : decode b_Holder_comes 0 = .ok (.aload_n 0, 1) := by decide +kernel
theorem d_Holder_comes_1 : decode b_Holder_comes 1 = .ok (.getfield 19, 3) := by decide +kernel
theorem d_Holder_comes_4 : decode b_Holder_comes 4 = .ok (.iload_n 1, 1) := by decide +kernel
theorem d_Holder_comes_5 : decode b_Holder_comes 5 = .ok (.invokevirtual 57, 3) := by decide +kernel
theorem d_Holder_comes_8 : decode b_Holder_comes 8 = .ok (.aload_n 0, 1) := by decide +kernel
theorem d_Holder_comes_9 : decode b_Holder_comes 9 = .ok (.getfield 19, 3) := by decide +kernel
theorem d_Holder_comes_12 : decode b_Holder_comes 12 = .ok (.iload_n 2, 1) := by decide +kernel
theorem d_Holder_comes_13 : decode b_Holder_comes 13 = .ok (.invokevirtual 57, 3) := by decide +kernel
theorem d_Holder_comes_16 : decode b_Holder_comes 16 = .ok (.if_icmp .eq 10, 3) := by decide +kernel
theorem d_Holder_comes_19 : decode b_Holder_comes 19 = .ok (.aload_n 0, 1) := by decide +kernel
theorem d_Holder_comes_20 : decode b_Holder_comes 20 = .ok (.iload_n 1, 1) := by decide +kernel
theorem d_Holder_comes_21 : decode b_Holder_comes 21 = .ok (.iload_n 2, 1) := by decide +kernel
theorem d_Holder_comes_22 : decode b_Holder_comes 22 = .ok (.invokevirtual 61, 3) := by decide +kernel
theorem d_Holder_comes_25 : decode b_Holder_comes 25 = .ok (.ireturn, 1) := by decide +kernel
theorem d_Holder_comes_26 : decode b_Holder_comes 26 = .ok (.aload_n 0, 1) := by decide +kernel
theorem d_Holder_comes_27 : decode b_Holder_comes 27 = .ok (.getfield 19, 3) := by decide +kernel
theorem d_Holder_comes_30 : decode b_Holder_comes 30 = .ok (.iload_n 1, 1) := by decide +kernel
theorem d_Holder_comes_31 : decode b_Holder_comes 31 = .ok (.invokevirtual 64, 3) := by decide +kernel
theorem d_Holder_comes_34 : decode b_Holder_comes 34 = .ok (.istore_n 3, 1) := by decide +kernel
theorem d_Holder_comes_35 : decode b_Holder_comes 35 = .ok (.aload_n 0, 1) := by decide +kernel
theorem d_Holder_comes_36 : decode b_Holder_comes 36 = .ok (.getfield 19, 3) := by decide +kernel
theorem d_Holder_comes_39 : decode b_Holder_comes 39 = .ok (.iload_n 2, 1) := by decide +kernel
theorem d_Holder_comes_40 : decode b_Holder_comes 40 = .ok (.invokevirtual 64, 3) := by decide +kernel
theorem d_Holder_comes_43 : decode b_Holder_comes 43 = .ok (.istore 4, 2) := by decide +kernel
theorem d_Holder_comes_45 : decode b_Holder_comes 45 = .ok (.aload_n 0, 1) := by decide +kernel
theorem d_Holder_comes_46 : decode b_Holder_comes 46 = .ok (.getfield 19, 3) := by decide +kernel
theorem d_Holder_comes_49 : decode b_Holder_comes 49 = .ok (.iload_n 1, 1) := by decide +kernel
theorem d_Holder_comes_50 : decode b_Holder_comes 50 = .ok (.invokevirtual 67, 3) := by decide +kernel
theorem d_Holder_comes_53 : decode b_Holder_comes 53 = .ok (.istore 5, 2) := by decide +kernel
theorem d_Holder_comes_55 : decode b_Holder_comes 55 = .ok (.aload_n 0, 1) := by decide +kernel
theorem d_Holder_comes_56 : decode b_Holder_comes 56 = .ok (.getfield 19, 3) := by decide +kernel
theorem d_Holder_comes_59 : decode b_Holder_comes 59 = .ok (.iload_n 2, 1) := by decide +kernel
theorem d_Holder_comes_60 : decode b_Holder_comes 60 = .ok (.invokevirtual 67, 3) := by decide +kernel
theorem d_Holder_comes_63 : decode b_Holder_comes 63 = .ok (.istore 6, 2) := by decide +kernel
theorem d_Holder_comes_65 : decode b_Holder_comes 65 = .ok (.iload_n 3, 1) := by decide +kernel
theorem d_Holder_comes_66 : decode b_Holder_comes 66 = .ok (.ifCond .ne 30, 3) := by decide +kernel
theorem d_Holder_comes_69 : decode b_Holder_comes 69 = .ok (.iload 4, 2) := by decide +kernel
theorem d_Holder_comes_71 : decode b_Holder_comes 71 = .ok (.ifCond .ne 25, 3) := by decide +kernel
theorem d_Holder_comes_74 : decode b_Holder_comes 74 = .ok (.iload_n 1, 1) := by decide +kernel
theorem d_Holder_comes_75 : decode b_Holder_comes 75 = .ok (.iload_n 2, 1) := by decide +kernel
theorem d_Holder_comes_76 : decode b_Holder_comes 76 = .ok (.if_icmp .ge 18, 3) := by decide +kernel
theorem d_Holder_comes_79 : decode b_Holder_comes 79 = .ok (.aload_n 0, 1) := by decide +kernel
theorem d_Holder_comes_80 : decode b_Holder_comes 80 = .ok (.getfield 27, 3) := by decide +kernel
theorem d_Holder_comes_83 : decode b_Holder_comes 83 = .ok (.iconst 3, 1) := by decide +kernel
theorem d_Holder_comes_84 : decode b_Holder_comes 84 = .ok (.iload 5, 2) := by decide +kernel
theorem d_Holder_comes_86 : decode b_Holder_comes 86 = .ok (.iload 6, 2) := by decide +kernel
theorem d_Holder_comes_88 : decode b_Holder_comes 88 = .ok (.invokevirtual 70, 3) := by decide +kernel
theorem d_Holder_comes_91 : decode b_Holder_comes 91 = .ok (.goto 4, 3) := by decide +kernel
theorem d_Holder_comes_94 : decode b_Holder_comes 94 = .ok (.iconst 1, 1) := by decide +kernel
theorem d_Holder_comes_95 : decode b_Holder_comes 95 = .ok (.ireturn, 1) := by decide +kernel
theorem d_Holder_comes_96 : decode b_Holder_comes 96 = .ok (.iload_n 3, 1) := by decide +kernel
theorem d_Holder_comes_97 : decode b_Holder_comes 97 = .ok (.ifCond .ne 22, 3) := by decide +kernel
theorem d_Holder_comes_100 : decode b_Holder_comes 100 = .ok (.iload 4, 2) := by decide +kernel
theorem d_Holder_comes_102 : decode b_Holder_comes 102 = .ok (.iconst 2, 1) := by decide +kernel
theorem d_Holder_comes_103 : decode b_Holder_comes 103 = .ok (.if_icmp .ne 16, 3) := by decide +kernel
theorem d_Holder_comes_106 : decode b_Holder_comes 106 = .ok (.aload_n 0, 1) := by decide +kernel
theorem d_Holder_comes_107 : decode b_Holder_comes 107 = .ok (.getfield 27, 3) := by decide +kernel
theorem d_Holder_comes_110 : decode b_Holder_comes 110 = .ok (.iconst 1, 1) := by decide +kernel
theorem d_Holder_comes_111 : decode b_Holder_comes 111 = .ok (.iload 6, 2) := by decide +kernel
theorem d_Holder_comes_113 : decode b_Holder_comes 113 = .ok (.iload 5, 2) := by decide +kernel
theorem d_Holder_comes_115 : decode b_Holder_comes 115 = .ok (.invokevirtual 70, 3) := by decide +kernel
theorem d_Holder_comes_118 : decode b_Holder_comes 118 = .ok (.ireturn, 1) := by decide +kernel
theorem d_Holder_comes_119 : decode b_Holder_comes 119 = .ok (.iload_n 3, 1) := by decide +kernel
theorem d_Holder_comes_120 : decode b_Holder_comes 120 = .ok (.iconst 1, 1) := by decide +kernel
theorem d_Holder_comes_121 : decode b_Holder_comes 121 = .ok (.if_icmp .eq 22, 3) := by decide +kernel
theorem d_Holder_comes_124 : decode b_Holder_comes 124 = .ok (.iload 4, 2) := by decide +kernel
theorem d_Holder_comes_126 : decode b_Holder_comes 126 = .ok (.iconst 1, 1) := by decide +kernel
theorem d_Holder_comes_127 : decode b_Holder_comes 127 = .ok (.if_icmp .ne 16, 3) := by decide +kernel
theorem d_Holder_comes_130 : decode b_Holder_comes 130 = .ok (.aload_n 0, 1) := by decide +kernel
theorem d_Holder_comes_131 : decode b_Holder_comes 131 = .ok (.getfield 27, 3) := by decide +kernel
theorem d_Holder_comes_134 : decode b_Holder_comes 134 = .ok (.iconst 1, 1) := by decide +kernel
theorem d_Holder_comes_135 : decode b_Holder_comes 135 = .ok (.iload 5, 2) := by decide +kernel
theorem d_Holder_comes_137 : decode b_Holder_comes 137 = .ok (.iload 6, 2) := by decide +kernel
theorem d_Holder_comes_139 : decode b_Holder_comes 139 = .ok (.invokevirtual 70, 3) := by decide +kernel
theorem d_Holder_comes_142 : decode b_Holder_comes 142 = .ok (.ireturn, 1) := by decide +kernel
theorem d_Holder_comes_143 : decode b_Holder_comes 143 = .ok (.iconst 1, 1) := by decide +kernel
theorem d_Holder_comes_144 : decode b_Holder_comes 144 = .ok (.ireturn, 1) := by decide +kernel
theorem d_Holder_putsInto_0 : decode b_Holder_putsInto 0 = .ok (.aload_n 0, 1) := by decide +kernel
theorem d_Holder_putsInto_1 : decode b_Holder_putsInto 1 = .ok (.getfield 19, 3) := by decide +kernel
theorem d_Holder_putsInto_4 : decode b_Holder_putsInto 4 = .ok (.iload_n 1, 1) := by decide +kernel
theorem d_Holder_putsInto_5 : decode b_Holder_putsInto 5 = .ok (.invokevirtual 57, 3) := by decide +kernel
theorem d_Holder_putsInto_8 : decode b_Holder_putsInto 8 = .ok (.istore_n 3, 1) := by decide +kernel
theorem d_Holder_putsInto_9 : decode b_Holder_putsInto 9 = .ok (.aload_n 0, 1) := by decide +kernel
theorem d_Holder_putsInto_10 : decode b_Holder_putsInto 10 = .ok (.getfield 19, 3) := by decide +kernel
theorem d_Holder_putsInto_13 : decode b_Holder_putsInto 13 = .ok (.iload_n 2, 1) := by decide +kernel
theorem d_Holder_putsInto_14 : decode b_Holder_putsInto 14 = .ok (.invokevirtual 57, 3) := by decide +kernel
theorem d_Holder_putsInto_17 : decode b_Holder_putsInto 17 = .ok (.istore 4, 2) := by decide +kernel
theorem d_Holder_putsInto_19 : decode b_Holder_putsInto 19 = .ok (.aload_n 0, 1) := by decide +kernel
theorem d_Holder_putsInto_20 : decode b_Holder_putsInto 20 = .ok (.getfield 19, 3) := by decide +kernel
theorem d_Holder_putsInto_23 : decode b_Holder_putsInto 23 = .ok (.iload_n 1, 1) := by decide +kernel
theorem d_Holder_putsInto_24 : decode b_Holder_putsInto 24 = .ok (.invokevirtual 67, 3) := by decide +kernel
theorem d_Holder_putsInto_27 : decode b_Holder_putsInto 27 = .ok (.istore 5, 2) := by decide +kernel
theorem d_Holder_putsInto_29 : decode b_Holder_putsInto 29 = .ok (.aload_n 0, 1) := by decide +kernel
theorem d_Holder_putsInto_30 : decode b_Holder_putsInto 30 = .ok (.getfield 19, 3) := by decide +kernel
theorem d_Holder_putsInto_33 : decode b_Holder_putsInto 33 = .ok (.iload_n 2, 1) := by decide +kernel
theorem d_Holder_putsInto_34 : decode b_Holder_putsInto 34 = .ok (.invokevirtual 67, 3) := by decide +kernel
theorem d_Holder_putsInto_37 : decode b_Holder_putsInto 37 = .ok (.istore 6, 2) := by decide +kernel
theorem d_Holder_putsInto_39 : decode b_Holder_putsInto 39 = .ok (.aload_n 0, 1) := by decide +kernel
theorem d_Holder_putsInto_40 : decode b_Holder_putsInto 40 = .ok (.getfield 19, 3) := by decide +kernel
theorem d_Holder_putsInto_43 : decode b_Holder_putsInto 43 = .ok (.iload_n 1, 1) := by decide +kernel
theorem d_Holder_putsInto_44 : decode b_Holder_putsInto 44 = .ok (.invokevirtual 64, 3) := by decide +kernel
theorem d_Holder_putsInto_47 : decode b_Holder_putsInto 47 = .ok (.ifCond .ne 15, 3) := by decide +kernel
theorem d_Holder_putsInto_50 : decode b_Holder_putsInto 50 = .ok (.aload_n 0, 1) := by decide +kernel
theorem d_Holder_putsInto_51 : decode b_Holder_putsInto 51 = .ok (.getfield 15, 3) := by decide +kernel
theorem d_Holder_putsInto_54 : decode b_Holder_putsInto 54 = .ok (.iload 5, 2) := by decide +kernel
theorem d_Holder_putsInto_56 : decode b_Holder_putsInto 56 = .ok (.invokevirtual 74, 3) := by decide +kernel
theorem d_Holder_putsInto_59 : decode b_Holder_putsInto 59 = .ok (.ifCond .ne 5, 3) := by decide +kernel
theorem d_Holder_putsInto_62 : decode b_Holder_putsInto 62 = .ok (.iconst 1, 1) := by decide +kernel
theorem d_Holder_putsInto_63 : decode b_Holder_putsInto 63 = .ok (.ireturn, 1) := by decide +kernel
theorem d_Holder_putsInto_64 : decode b_Holder_putsInto 64 = .ok (.iload 4, 2) := by decide +kernel
theorem d_Holder_putsInto_66 : decode b_Holder_putsInto 66 = .ok (.ifCond .lt 26, 3) := by decide +kernel
theorem d_Holder_putsInto_69 : decode b_Holder_putsInto 69 = .ok (.iload 4, 2) := by decide +kernel
theorem d_Holder_putsInto_71 : decode b_Holder_putsInto 71 = .ok (.bipush 12, 2) := by decide +kernel
theorem d_Holder_putsInto_73 : decode b_Holder_putsInto 73 = .ok (.if_icmp .ge 19, 3) := by decide +kernel
theorem d_Holder_putsInto_76 : decode b_Holder_putsInto 76 = .ok (.aload_n 0, 1) := by decide +kernel
theorem d_Holder_putsInto_77 : decode b_Holder_putsInto 77 = .ok (.getfield 15, 3) := by decide +kernel
theorem d_Holder_putsInto_80 : decode b_Holder_putsInto 80 = .ok (.iload 6, 2) := by decide +kernel
theorem d_Holder_putsInto_82 : decode b_Holder_putsInto 82 = .ok (.invokevirtual 80, 3) := by decide +kernel
theorem d_Holder_putsInto_85 : decode b_Holder_putsInto 85 = .ok (.iload_n 3, 1) := by decide +kernel
theorem d_Holder_putsInto_86 : decode b_Holder_putsInto 86 = .ok (.ishr, 1) := by decide +kernel
theorem d_Holder_putsInto_87 : decode b_Holder_putsInto 87 = .ok (.iconst 1, 1) := by decide +kernel
theorem d_Holder_putsInto_88 : decode b_Holder_putsInto 88 = .ok (.iand, 1) := by decide +kernel
theorem d_Holder_putsInto_89 : decode b_Holder_putsInto 89 = .ok (.ifCond .ne 5, 3) := by decide +kernel
theorem d_Holder_putsInto_92 : decode b_Holder_putsInto 92 = .ok (.iconst 1, 1) := by decide +kernel
theorem d_Holder_putsInto_93 : decode b_Holder_putsInto 93 = .ok (.ireturn, 1) := by decide +kernel
theorem d_Holder_putsInto_94 : decode b_Holder_putsInto 94 = .ok (.aload_n 0, 1) := by decide +kernel
theorem d_Holder_putsInto_95 : decode b_Holder_putsInto 95 = .ok (.getfield 23, 3) := by decide +kernel
theorem d_Holder_putsInto_98 : decode b_Holder_putsInto 98 = .ok (.invokevirtual 83, 3) := by decide +kernel
theorem d_Holder_putsInto_101 : decode b_Holder_putsInto 101 = .ok (.aload_n 0, 1) := by decide +kernel
theorem d_Holder_putsInto_102 : decode b_Holder_putsInto 102 = .ok (.getfield 23, 3) := by decide +kernel
theorem d_Holder_putsInto_105 : decode b_Holder_putsInto 105 = .ok (.iload_n 3, 1) := by decide +kernel
theorem d_Holder_putsInto_106 : decode b_Holder_putsInto 106 = .ok (.iload 5, 2) := by decide +kernel
theorem d_Holder_putsInto_108 : decode b_Holder_putsInto 108 = .ok (.invokevirtual 88, 3) := by decide +kernel
theorem d_Holder_putsInto_111 : decode b_Holder_putsInto 111 = .ok (.aload_n 0, 1) := by decide +kernel
theorem d_Holder_putsInto_112 : decode b_Holder_putsInto 112 = .ok (.getfield 23, 3) := by decide +kernel
theorem d_Holder_putsInto_115 : decode b_Holder_putsInto 115 = .ok (.iload 6, 2) := by decide +kernel
theorem d_Holder_putsInto_117 : decode b_Holder_putsInto 117 = .ok (.invokevirtual 92, 3) := by decide +kernel
theorem d_Holder_putsInto_120 : decode b_Holder_putsInto 120 = .ok (.istore 7, 2) := by decide +kernel
theorem d_Holder_putsInto_122 : decode b_Holder_putsInto 122 = .ok (.aload_n 0, 1) := by decide +kernel
theorem d_Holder_putsInto_123 : decode b_Holder_putsInto 123 = .ok (.getfield 19, 3) := by decide +kernel
theorem d_Holder_putsInto_126 : decode b_Holder_putsInto 126 = .ok (.iload_n 2, 1) := by decide +kernel
theorem d_Holder_putsInto_127 : decode b_Holder_putsInto 127 = .ok (.invokevirtual 64, 3) := by decide +kernel
theorem d_Holder_putsInto_130 : decode b_Holder_putsInto 130 = .ok (.lookupswitch 62 #[(0, 26), (1, 44)], 26) := by decide +kernel
theorem d_Holder_putsInto_156 : decode b_Holder_putsInto 156 = .ok (.aload_n 0, 1) := by decide +kernel
theorem d_Holder_putsInto_157 : decode b_Holder_putsInto 157 = .ok (.getfield 27, 3) := by decide +kernel
theorem d_Holder_putsInto_160 : decode b_Holder_putsInto 160 = .ok (.iconst 3, 1) := by decide +kernel
theorem d_Holder_putsInto_161 : decode b_Holder_putsInto 161 = .ok (.aload_n 0, 1) := by decide +kernel
theorem d_Holder_putsInto_162 : decode b_Holder_putsInto 162 = .ok (.getfield 31, 3) := by decide +kernel
theorem d_Holder_putsInto_165 : decode b_Holder_putsInto 165 = .ok (.iload 4, 2) := by decide +kernel
theorem d_Holder_putsInto_167 : decode b_Holder_putsInto 167 = .ok (.iaload, 1) := by decide +kernel
theorem d_Holder_putsInto_168 : decode b_Holder_putsInto 168 = .ok (.iload 7, 2) := by decide +kernel
theorem d_Holder_putsInto_170 : decode b_Holder_putsInto 170 = .ok (.invokevirtual 70, 3) := by decide +kernel
theorem d_Holder_putsInto_173 : decode b_Holder_putsInto 173 = .ok (.ireturn, 1) := by decide +kernel
theorem d_Holder_putsInto_174 : decode b_Holder_putsInto 174 = .ok (.aload_n 0, 1) := by decide +kernel
theorem d_Holder_putsInto_175 : decode b_Holder_putsInto 175 = .ok (.getfield 27, 3) := by decide +kernel
theorem d_Holder_putsInto_178 : decode b_Holder_putsInto 178 = .ok (.iconst 1, 1) := by decide +kernel
theorem d_Holder_putsInto_179 : decode b_Holder_putsInto 179 = .ok (.aload_n 0, 1) := by decide +kernel
theorem d_Holder_putsInto_180 : decode b_Holder_putsInto 180 = .ok (.getfield 31, 3) := by decide +kernel
theorem d_Holder_putsInto_183 : decode b_Holder_putsInto 183 = .ok (.iload 4, 2) := by decide +kernel
theorem d_Holder_putsInto_185 : decode b_Holder_putsInto 185 = .ok (.iaload, 1) := by decide +kernel
theorem d_Holder_putsInto_186 : decode b_Holder_putsInto 186 = .ok (.iload 7, 2) := by decide +kernel
theorem d_Holder_putsInto_188 : decode b_Holder_putsInto 188 = .ok (.invokevirtual 70, 3) := by decide +kernel
theorem d_Holder_putsInto_191 : decode b_Holder_putsInto 191 = .ok (.ireturn, 1) := by decide +kernel
theorem d_Holder_putsInto_192 : decode b_Holder_putsInto 192 = .ok (.aload_n 0, 1) := by decide +kernel
theorem d_Holder_putsInto_193 : decode b_Holder_putsInto 193 = .ok (.getfield 27, 3) := by decide +kernel
theorem d_Holder_putsInto_196 : decode b_Holder_putsInto 196 = .ok (.iconst 1, 1) := by decide +kernel
theorem d_Holder_putsInto_197 : decode b_Holder_putsInto 197 = .ok (.iload 7, 2) := by decide +kernel
theorem d_Holder_putsInto_199 : decode b_Holder_putsInto 199 = .ok (.aload_n 0, 1) := by decide +kernel
theorem d_Holder_putsInto_200 : decode b_Holder_putsInto 200 = .ok (.getfield 31, 3) := by decide +kernel
theorem d_Holder_putsInto_203 : decode b_Holder_putsInto 203 = .ok (.iload 4, 2) := by decide +kernel
theorem d_Holder_putsInto_205 : decode b_Holder_putsInto 205 = .ok (.iaload, 1) := by decide +kernel
theorem d_Holder_putsInto_206 : decode b_Holder_putsInto 206 = .ok (.invokevirtual 70, 3) := by decide +kernel
theorem d_Holder_putsInto_209 : decode b_Holder_putsInto 209 = .ok (.ireturn, 1) := by decide +kernel
theorem d_Holder_shareArguments_0 : decode b_Holder_shareArguments 0 = .ok (.aload_n 0, 1) := by decide +kernel
theorem d_Holder_shareArguments_1 : decode b_Holder_shareArguments 1 = .ok (.getfield 19, 3) := by decide +kernel
theorem d_Holder_shareArguments_4 : decode b_Holder_shareArguments 4 = .ok (.iload_n 1, 1) := by decide +kernel
theorem d_Holder_shareArguments_5 : decode b_Holder_shareArguments 5 = .ok (.invokevirtual 57, 3) := by decide +kernel
theorem d_Holder_shareArguments_8 : decode b_Holder_shareArguments 8 = .ok (.aload_n 0, 1) := by decide +kernel
theorem d_Holder_shareArguments_9 : decode b_Holder_shareArguments 9 = .ok (.getfield 19, 3) := by decide +kernel
theorem d_Holder_shareArguments_12 : decode b_Holder_shareArguments 12 = .ok (.iload_n 2, 1) := by decide +kernel
theorem d_Holder_shareArguments_13 : decode b_Holder_shareArguments 13 = .ok (.invokevirtual 57, 3) := by decide +kernel
theorem d_Holder_shareArguments_16 : decode b_Holder_shareArguments 16 = .ok (.if_icmp .eq 5, 3) := by decide +kernel
theorem d_Holder_shareArguments_19 : decode b_Holder_shareArguments 19 = .ok (.iconst 1, 1) := by decide +kernel
theorem d_Holder_shareArguments_20 : decode b_Holder_shareArguments 20 = .ok (.ireturn, 1) := by decide +kernel
theorem d_Holder_shareArguments_21 : decode b_Holder_shareArguments 21 = .ok (.aload_n 0, 1) := by decide +kernel
theorem d_Holder_shareArguments_22 : decode b_Holder_shareArguments 22 = .ok (.getfield 19, 3) := by decide +kernel
theorem d_Holder_shareArguments_25 : decode b_Holder_shareArguments 25 = .ok (.iload_n 1, 1) := by decide +kernel
theorem d_Holder_shareArguments_26 : decode b_Holder_shareArguments 26 = .ok (.invokevirtual 64, 3) := by decide +kernel
theorem d_Holder_shareArguments_29 : decode b_Holder_shareArguments 29 = .ok (.iconst 1, 1) := by decide +kernel
theorem d_Holder_shareArguments_30 : decode b_Holder_shareArguments 30 = .ok (.if_icmp .ne 15, 3) := by decide +kernel
theorem d_Holder_shareArguments_33 : decode b_Holder_shareArguments 33 = .ok (.aload_n 0, 1) := by decide +kernel
theorem d_Holder_shareArguments_34 : decode b_Holder_shareArguments 34 = .ok (.getfield 19, 3) := by decide +kernel
theorem d_Holder_shareArguments_37 : decode b_Holder_shareArguments 37 = .ok (.iload_n 2, 1) := by decide +kernel
theorem d_Holder_shareArguments_38 : decode b_Holder_shareArguments 38 = .ok (.invokevirtual 64, 3) := by decide +kernel
theorem d_Holder_shareArguments_41 : decode b_Holder_shareArguments 41 = .ok (.iconst 1, 1) := by decide +kernel
theorem d_Holder_shareArguments_42 : decode b_Holder_shareArguments 42 = .ok (.if_icmp .eq 5, 3) := by decide +kernel
theorem d_Holder_shareArguments_45 : decode b_Holder_shareArguments 45 = .ok (.iconst 1, 1) := by decide +kernel
theorem d_Holder_shareArguments_46 : decode b_Holder_shareArguments 46 = .ok (.ireturn, 1) := by decide +kernel
theorem d_Holder_shareArguments_47 : decode b_Holder_shareArguments 47 = .ok (.iconst 1, 1) := by decide +kernel
theorem d_Holder_shareArguments_48 : decode b_Holder_shareArguments 48 = .ok (.istore_n 3, 1) := by decide +kernel
theorem d_Holder_shareArguments_49 : decode b_Holder_shareArguments 49 = .ok (.iconst 0, 1) := by decide +kernel
theorem d_Holder_shareArguments_50 : decode b_Holder_shareArguments 50 = .ok (.istore 4, 2) := by decide +kernel
theorem d_Holder_shareArguments_52 : decode b_Holder_shareArguments 52 = .ok (.iload 4, 2) := by decide +kernel
theorem d_Holder_shareArguments_54 : decode b_Holder_shareArguments 54 = .ok (.aload_n 0, 1) := by decide +kernel
theorem d_Holder_shareArguments_55 : decode b_Holder_shareArguments 55 = .ok (.getfield 9, 3) := by decide +kernel
theorem d_Holder_shareArguments_58 : decode b_Holder_shareArguments 58 = .ok (.getfield 95, 3) := by decide +kernel
theorem d_Holder_shareArguments_61 : decode b_Holder_shareArguments 61 = .ok (.if_icmp .ge 228, 3) := by decide +kernel
theorem d_Holder_shareArguments_64 : decode b_Holder_shareArguments 64 = .ok (.iload_n 3, 1) := by decide +kernel
theorem d_Holder_shareArguments_65 : decode b_Holder_shareArguments 65 = .ok (.iconst 1, 1) := by decide +kernel
theorem d_Holder_shareArguments_66 : decode b_Holder_shareArguments 66 = .ok (.if_icmp .ne 223, 3) := by decide +kernel
theorem d_Holder_shareArguments_69 : decode b_Holder_shareArguments 69 = .ok (.aload_n 0, 1) := by decide +kernel
theorem d_Holder_shareArguments_70 : decode b_Holder_shareArguments 70 = .ok (.getfield 9, 3) := by decide +kernel
theorem d_Holder_shareArguments_73 : decode b_Holder_shareArguments 73 = .ok (.iload 4, 2) := by decide +kernel
theorem d_Holder_shareArguments_75 : decode b_Holder_shareArguments 75 = .ok (.invokevirtual 98, 3) := by decide +kernel
theorem d_Holder_shareArguments_78 : decode b_Holder_shareArguments 78 = .ok (.ifCond .ne 6, 3) := by decide +kernel
theorem d_Holder_shareArguments_81 : decode b_Holder_shareArguments 81 = .ok (.goto 202, 3) := by decide +kernel
theorem d_Holder_shareArguments_84 : decode b_Holder_shareArguments 84 = .ok (.aload_n 0, 1) := by decide +kernel
theorem d_Holder_shareArguments_85 : decode b_Holder_shareArguments 85 = .ok (.getfield 27, 3) := by decide +kernel
theorem d_Holder_shareArguments_88 : decode b_Holder_shareArguments 88 = .ok (.aload_n 0, 1) := by decide +kernel
theorem d_Holder_shareArguments_89 : decode b_Holder_shareArguments 89 = .ok (.getfield 19, 3) := by decide +kernel
theorem d_Holder_shareArguments_92 : decode b_Holder_shareArguments 92 = .ok (.iload_n 1, 1) := by decide +kernel
theorem d_Holder_shareArguments_93 : decode b_Holder_shareArguments 93 = .ok (.invokevirtual 67, 3) := by decide +kernel
theorem d_Holder_shareArguments_96 : decode b_Holder_shareArguments 96 = .ok (.iload 4, 2) := by decide +kernel
theorem d_Holder_shareArguments_98 : decode b_Holder_shareArguments 98 = .ok (.invokevirtual 101, 3) := by decide +kernel
theorem d_Holder_shareArguments_101 : decode b_Holder_shareArguments 101 = .ok (.istore 5, 2) := by decide +kernel
theorem d_Holder_shareArguments_103 : decode b_Holder_shareArguments 103 = .ok (.iload 5, 2) := by decide +kernel
theorem d_Holder_shareArguments_105 : decode b_Holder_shareArguments 105 = .ok (.bipush (-3), 2) := by decide +kernel
theorem d_Holder_shareArguments_107 : decode b_Holder_shareArguments 107 = .ok (.if_icmp .ne 6, 3) := by decide +kernel
theorem d_Holder_shareArguments_110 : decode b_Holder_shareArguments 110 = .ok (.bipush (-3), 2) := by decide +kernel
theorem d_Holder_shareArguments_112 : decode b_Holder_shareArguments 112 = .ok (.ireturn, 1) := by decide +kernel
theorem d_Holder_shareArguments_113 : decode b_Holder_shareArguments 113 = .ok (.aload_n 0, 1) := by decide +kernel
theorem d_Holder_shareArguments_114 : decode b_Holder_shareArguments 114 = .ok (.getfield 15, 3) := by decide +kernel
theorem d_Holder_shareArguments_117 : decode b_Holder_shareArguments 117 = .ok (.iload 5, 2) := by decide +kernel
theorem d_Holder_shareArguments_119 : decode b_Holder_shareArguments 119 = .ok (.invokevirtual 104, 3) := by decide +kernel
theorem d_Holder_shareArguments_122 : decode b_Holder_shareArguments 122 = .ok (.iconst 1, 1) := by decide +kernel
theorem d_Holder_shareArguments_123 : decode b_Holder_shareArguments 123 = .ok (.if_icmp .eq 6, 3) := by decide +kernel
theorem d_Holder_shareArguments_126 : decode b_Holder_shareArguments 126 = .ok (.goto 157, 3) := by decide +kernel
theorem d_Holder_shareArguments_129 : decode b_Holder_shareArguments 129 = .ok (.aload_n 0, 1) := by decide +kernel
theorem d_Holder_shareArguments_130 : decode b_Holder_shareArguments 130 = .ok (.getfield 27, 3) := by decide +kernel
theorem d_Holder_shareArguments_133 : decode b_Holder_shareArguments 133 = .ok (.aload_n 0, 1) := by decide +kernel
theorem d_Holder_shareArguments_134 : decode b_Holder_shareArguments 134 = .ok (.getfield 19, 3) := by decide +kernel
theorem d_Holder_shareArguments_137 : decode b_Holder_shareArguments 137 = .ok (.iload_n 2, 1) := by decide +kernel
theorem d_Holder_shareArguments_138 : decode b_Holder_shareArguments 138 = .ok (.invokevirtual 67, 3) := by decide +kernel
theorem d_Holder_shareArguments_141 : decode b_Holder_shareArguments 141 = .ok (.iload 4, 2) := by decide +kernel
theorem d_Holder_shareArguments_143 : decode b_Holder_shareArguments 143 = .ok (.invokevirtual 101, 3) := by decide +kernel
theorem d_Holder_shareArguments_146 : decode b_Holder_shareArguments 146 = .ok (.istore 6, 2) := by decide +kernel
theorem d_Holder_shareArguments_148 : decode b_Holder_shareArguments 148 = .ok (.iload 6, 2) := by decide +kernel
theorem d_Holder_shareArguments_150 : decode b_Holder_shareArguments 150 = .ok (.bipush (-3), 2) := by decide +kernel
theorem d_Holder_shareArguments_152 : decode b_Holder_shareArguments 152 = .ok (.if_icmp .ne 6, 3) := by decide +kernel
theorem d_Holder_shareArguments_155 : decode b_Holder_shareArguments 155 = .ok (.bipush (-3), 2) := by decide +kernel
theorem d_Holder_shareArguments_157 : decode b_Holder_shareArguments 157 = .ok (.ireturn, 1) := by decide +kernel
theorem d_Holder_shareArguments_158 : decode b_Holder_shareArguments 158 = .ok (.aload_n 0, 1) := by decide +kernel
theorem d_Holder_shareArguments_159 : decode b_Holder_shareArguments 159 = .ok (.getfield 15, 3) := by decide +kernel
theorem d_Holder_shareArguments_162 : decode b_Holder_shareArguments 162 = .ok (.iload 6, 2) := by decide +kernel
theorem d_Holder_shareArguments_164 : decode b_Holder_shareArguments 164 = .ok (.invokevirtual 104, 3) := by decide +kernel
theorem d_Holder_shareArguments_167 : decode b_Holder_shareArguments 167 = .ok (.iconst 1, 1) := by decide +kernel
theorem d_Holder_shareArguments_168 : decode b_Holder_shareArguments 168 = .ok (.if_icmp .eq 6, 3) := by decide +kernel
theorem d_Holder_shareArguments_171 : decode b_Holder_shareArguments 171 = .ok (.goto 112, 3) := by decide +kernel
theorem d_Holder_shareArguments_174 : decode b_Holder_shareArguments 174 = .ok (.iconst 0, 1) := by decide +kernel
theorem d_Holder_shareArguments_175 : decode b_Holder_shareArguments 175 = .ok (.istore 7, 2) := by decide +kernel
theorem d_Holder_shareArguments_177 : decode b_Holder_shareArguments 177 = .ok (.iload 7, 2) := by decide +kernel
theorem d_Holder_shareArguments_179 : decode b_Holder_shareArguments 179 = .ok (.aload_n 0, 1) := by decide +kernel
theorem d_Holder_shareArguments_180 : decode b_Holder_shareArguments 180 = .ok (.getfield 9, 3) := by decide +kernel
theorem d_Holder_shareArguments_183 : decode b_Holder_shareArguments 183 = .ok (.iload 4, 2) := by decide +kernel
theorem d_Holder_shareArguments_185 : decode b_Holder_shareArguments 185 = .ok (.invokevirtual 98, 3) := by decide +kernel
theorem d_Holder_shareArguments_188 : decode b_Holder_shareArguments 188 = .ok (.if_icmp .ge 95, 3) := by decide +kernel
theorem d_Holder_shareArguments_191 : decode b_Holder_shareArguments 191 = .ok (.iload_n 3, 1) := by decide +kernel
theorem d_Holder_shareArguments_192 : decode b_Holder_shareArguments 192 = .ok (.iconst 1, 1) := by decide +kernel
theorem d_Holder_shareArguments_193 : decode b_Holder_shareArguments 193 = .ok (.if_icmp .ne 90, 3) := by decide +kernel
theorem d_Holder_shareArguments_196 : decode b_Holder_shareArguments 196 = .ok (.aload_n 0, 1) := by decide +kernel
theorem d_Holder_shareArguments_197 : decode b_Holder_shareArguments 197 = .ok (.getfield 15, 3) := by decide +kernel
theorem d_Holder_shareArguments_200 : decode b_Holder_shareArguments 200 = .ok (.iload 5, 2) := by decide +kernel
theorem d_Holder_shareArguments_202 : decode b_Holder_shareArguments 202 = .ok (.iload 7, 2) := by decide +kernel
theorem d_Holder_shareArguments_204 : decode b_Holder_shareArguments 204 = .ok (.invokevirtual 107, 3) := by decide +kernel
theorem d_Holder_shareArguments_207 : decode b_Holder_shareArguments 207 = .ok (.istore 8, 2) := by decide +kernel
theorem d_Holder_shareArguments_209 : decode b_Holder_shareArguments 209 = .ok (.aload_n 0, 1) := by decide +kernel
theorem d_Holder_shareArguments_210 : decode b_Holder_shareArguments 210 = .ok (.getfield 15, 3) := by decide +kernel
theorem d_Holder_shareArguments_213 : decode b_Holder_shareArguments 213 = .ok (.iload 6, 2) := by decide +kernel
theorem d_Holder_shareArguments_215 : decode b_Holder_shareArguments 215 = .ok (.iload 7, 2) := by decide +kernel
theorem d_Holder_shareArguments_217 : decode b_Holder_shareArguments 217 = .ok (.invokevirtual 107, 3) := by decide +kernel
theorem d_Holder_shareArguments_220 : decode b_Holder_shareArguments 220 = .ok (.istore 9, 2) := by decide +kernel
theorem d_Holder_shareArguments_222 : decode b_Holder_shareArguments 222 = .ok (.aload_n 0, 1) := by decide +kernel
theorem d_Holder_shareArguments_223 : decode b_Holder_shareArguments 223 = .ok (.getfield 15, 3) := by decide +kernel
theorem d_Holder_shareArguments_226 : decode b_Holder_shareArguments 226 = .ok (.iload 8, 2) := by decide +kernel
theorem d_Holder_shareArguments_228 : decode b_Holder_shareArguments 228 = .ok (.invokevirtual 104, 3) := by decide +kernel
theorem d_Holder_shareArguments_231 : decode b_Holder_shareArguments 231 = .ok (.iconst 2, 1) := by decide +kernel
theorem d_Holder_shareArguments_232 : decode b_Holder_shareArguments 232 = .ok (.if_icmp .eq 45, 3) := by decide +kernel
theorem d_Holder_shareArguments_235 : decode b_Holder_shareArguments 235 = .ok (.aload_n 0, 1) := by decide +kernel
theorem d_Holder_shareArguments_236 : decode b_Holder_shareArguments 236 = .ok (.getfield 15, 3) := by decide +kernel
theorem d_Holder_shareArguments_239 : decode b_Holder_shareArguments 239 = .ok (.iload 9, 2) := by decide +kernel
theorem d_Holder_shareArguments_241 : decode b_Holder_shareArguments 241 = .ok (.invokevirtual 104, 3) := by decide +kernel
theorem d_Holder_shareArguments_244 : decode b_Holder_shareArguments 244 = .ok (.iconst 2, 1) := by decide +kernel
theorem d_Holder_shareArguments_245 : decode b_Holder_shareArguments 245 = .ok (.if_icmp .ne 6, 3) := by decide +kernel
theorem d_Holder_shareArguments_248 : decode b_Holder_shareArguments 248 = .ok (.goto 29, 3) := by decide +kernel
theorem d_Holder_shareArguments_251 : decode b_Holder_shareArguments 251 = .ok (.aload_n 0, 1) := by decide +kernel
theorem d_Holder_shareArguments_252 : decode b_Holder_shareArguments 252 = .ok (.getfield 27, 3) := by decide +kernel
theorem d_Holder_shareArguments_255 : decode b_Holder_shareArguments 255 = .ok (.iconst 3, 1) := by decide +kernel
theorem d_Holder_shareArguments_256 : decode b_Holder_shareArguments 256 = .ok (.iload 8, 2) := by decide +kernel
theorem d_Holder_shareArguments_258 : decode b_Holder_shareArguments 258 = .ok (.iload 9, 2) := by decide +kernel
theorem d_Holder_shareArguments_260 : decode b_Holder_shareArguments 260 = .ok (.invokevirtual 70, 3) := by decide +kernel
theorem d_Holder_shareArguments_263 : decode b_Holder_shareArguments 263 = .ok (.istore_n 3, 1) := by decide +kernel
theorem d_Holder_shareArguments_264 : decode b_Holder_shareArguments 264 = .ok (.iload_n 3, 1) := by decide +kernel
theorem d_Holder_shareArguments_265 : decode b_Holder_shareArguments 265 = .ok (.iconst 1, 1) := by decide +kernel
theorem d_Holder_shareArguments_266 : decode b_Holder_shareArguments 266 = .ok (.if_icmp .ne 11, 3) := by decide +kernel
theorem d_Holder_shareArguments_269 : decode b_Holder_shareArguments 269 = .ok (.aload_n 0, 1) := by decide +kernel
theorem d_Holder_shareArguments_270 : decode b_Holder_shareArguments 270 = .ok (.getfield 27, 3) := by decide +kernel
theorem d_Holder_shareArguments_273 : decode b_Holder_shareArguments 273 = .ok (.invokevirtual 35, 3) := by decide +kernel
theorem d_Holder_shareArguments_276 : decode b_Holder_shareArguments 276 = .ok (.istore_n 3, 1) := by decide +kernel
theorem d_Holder_shareArguments_277 : decode b_Holder_shareArguments 277 = .ok (.iinc 7 1, 3) := by decide +kernel
theorem d_Holder_shareArguments_280 : decode b_Holder_shareArguments 280 = .ok (.goto (-103), 3) := by decide +kernel
theorem d_Holder_shareArguments_283 : decode b_Holder_shareArguments 283 = .ok (.iinc 4 1, 3) := by decide +kernel
theorem d_Holder_shareArguments_286 : decode b_Holder_shareArguments 286 = .ok (.goto (-234), 3) := by decide +kernel
theorem d_Holder_shareArguments_289 : decode b_Holder_shareArguments 289 = .ok (.iload_n 3, 1) := by decide +kernel
theorem d_Holder_shareArguments_290 : decode b_Holder_shareArguments 290 = .ok (.ireturn, 1) := by decide +kernel
theorem d_Reducer_init_0 : decode b_Reducer_init 0 = .ok (.aload_n 0, 1) := by decide +kernel
theorem d_Reducer_init_1 : decode b_Reducer_init 1 = .ok (.invokespecial 3, 3) := by decide +kernel
theorem d_Reducer_init_4 : decode b_Reducer_init 4 = .ok (.aload_n 0, 1) := by decide +kernel
theorem d_Reducer_init_5 : decode b_Reducer_init 5 = .ok (.new 9, 3) := by decide +kernel
theorem d_Reducer_init_8 : decode b_Reducer_init 8 = .ok (.dup, 1) := by decide +kernel
theorem d_Reducer_init_9 : decode b_Reducer_init 9 = .ok (.invokespecial 11, 3) := by decide +kernel
theorem d_Reducer_init_12 : decode b_Reducer_init 12 = .ok (.putfield 12, 3) := by decide +kernel
theorem d_Reducer_init_15 : decode b_Reducer_init 15 = .ok (.aload_n 0, 1) := by decide +kernel
theorem d_Reducer_init_16 : decode b_Reducer_init 16 = .ok (.aload_n 1, 1) := by decide +kernel
theorem d_Reducer_init_17 : decode b_Reducer_init 17 = .ok (.putfield 18, 3) := by decide +kernel
theorem d_Reducer_init_20 : decode b_Reducer_init 20 = .ok (.aload_n 0, 1) := by decide +kernel
theorem d_Reducer_init_21 : decode b_Reducer_init 21 = .ok (.aload_n 2, 1) := by decide +kernel
theorem d_Reducer_init_22 : decode b_Reducer_init 22 = .ok (.putfield 22, 3) := by decide +kernel
theorem d_Reducer_init_25 : decode b_Reducer_init 25 = .ok (.aload_n 0, 1) := by decide +kernel
theorem d_Reducer_init_26 : decode b_Reducer_init 26 = .ok (.aload_n 3, 1) := by decide +kernel
theorem d_Reducer_init_27 : decode b_Reducer_init 27 = .ok (.putfield 26, 3) := by decide +kernel
theorem d_Reducer_init_30 : decode b_Reducer_init 30 = .ok (.aload_n 0, 1) := by decide +kernel
theorem d_Reducer_init_31 : decode b_Reducer_init 31 = .ok (.aload 4, 2) := by decide +kernel
theorem d_Reducer_init_33 : decode b_Reducer_init 33 = .ok (.putfield 30, 3) := by decide +kernel
theorem d_Reducer_init_36 : decode b_Reducer_init 36 = .ok (.return_, 1) := by decide +kernel
theorem d_Reducer_begin_0 : decode b_Reducer_begin 0 = .ok (.aload_n 0, 1) := by decide +kernel
theorem d_Reducer_begin_1 : decode b_Reducer_begin 1 = .ok (.getfield 12, 3) := by decide +kernel
theorem d_Reducer_begin_4 : decode b_Reducer_begin 4 = .ok (.iconst 0, 1) := by decide +kernel
theorem d_Reducer_begin_5 : decode b_Reducer_begin 5 = .ok (.putfield 34, 3) := by decide +kernel
theorem d_Reducer_begin_8 : decode b_Reducer_begin 8 = .ok (.aload_n 0, 1) := by decide +kernel
theorem d_Reducer_begin_9 : decode b_Reducer_begin 9 = .ok (.iconst 0, 1) := by decide +kernel
theorem d_Reducer_begin_10 : decode b_Reducer_begin 10 = .ok (.putfield 38, 3) := by decide +kernel
theorem d_Reducer_begin_13 : decode b_Reducer_begin 13 = .ok (.aload_n 0, 1) := by decide +kernel
theorem d_Reducer_begin_14 : decode b_Reducer_begin 14 = .ok (.iload_n 1, 1) := by decide +kernel
theorem d_Reducer_begin_15 : decode b_Reducer_begin 15 = .ok (.putfield 41, 3) := by decide +kernel
theorem d_Reducer_begin_18 : decode b_Reducer_begin 18 = .ok (.aload_n 0, 1) := by decide +kernel
theorem d_Reducer_begin_19 : decode b_Reducer_begin 19 = .ok (.iconst 0, 1) := by decide +kernel
theorem d_Reducer_begin_20 : decode b_Reducer_begin 20 = .ok (.putfield 44, 3) := by decide +kernel
theorem d_Reducer_begin_23 : decode b_Reducer_begin 23 = .ok (.return_, 1) := by decide +kernel
theorem d_Reducer_ask_0 : decode b_Reducer_ask 0 = .ok (.iload_n 2, 1) := by decide +kernel
theorem d_Reducer_ask_1 : decode b_Reducer_ask 1 = .ok (.ifCond .lt 7, 3) := by decide +kernel
theorem d_Reducer_ask_4 : decode b_Reducer_ask 4 = .ok (.iload_n 3, 1) := by decide +kernel
theorem d_Reducer_ask_5 : decode b_Reducer_ask 5 = .ok (.ifCond .ge 6, 3) := by decide +kernel
theorem d_Reducer_ask_8 : decode b_Reducer_ask 8 = .ok (.bipush (-3), 2) := by decide +kernel
theorem d_Reducer_ask_10 : decode b_Reducer_ask 10 = .ok (.ireturn, 1) := by decide +kernel
theorem d_Reducer_ask_11 : decode b_Reducer_ask 11 = .ok (.aload_n 0, 1) := by decide +kernel
theorem d_Reducer_ask_12 : decode b_Reducer_ask 12 = .ok (.getfield 12, 3) := by decide +kernel
theorem d_Reducer_ask_15 : decode b_Reducer_ask 15 = .ok (.iload_n 1, 1) := by decide +kernel
theorem d_Reducer_ask_16 : decode b_Reducer_ask 16 = .ok (.iload_n 2, 1) := by decide +kernel
theorem d_Reducer_ask_17 : decode b_Reducer_ask 17 = .ok (.iload_n 3, 1) := by decide +kernel
theorem d_Reducer_ask_18 : decode b_Reducer_ask 18 = .ok (.iconst 1, 1) := by decide +kernel
theorem d_Reducer_ask_19 : decode b_Reducer_ask 19 = .ok (.invokevirtual 48, 3) := by decide +kernel
theorem d_Reducer_ask_22 : decode b_Reducer_ask 22 = .ok (.ifCond .eq 7, 3) := by decide +kernel
theorem d_Reducer_ask_25 : decode b_Reducer_ask 25 = .ok (.iconst 1, 1) := by decide +kernel
theorem d_Reducer_ask_26 : decode b_Reducer_ask 26 = .ok (.goto 5, 3) := by decide +kernel
theorem d_Reducer_ask_29 : decode b_Reducer_ask 29 = .ok (.bipush (-3), 2) := by decide +kernel
theorem d_Reducer_ask_31 : decode b_Reducer_ask 31 = .ok (.ireturn, 1) := by decide +kernel
end
section
theorem d_Reducer_less_0 : decode b_Reducer_less 0 = .ok (.iconst 1, 1) := by decide +kernel
theorem d_Reducer_less_1 : decode b_Reducer_less 1 = .ok (.istore_n 1, 1) := by decide +kernel
theorem d_Reducer_less_2 : decode b_Reducer_less 2 = .ok (.iconst 0, 1) := by decide +kernel
theorem d_Reducer_less_3 : decode b_Reducer_less 3 = .ok (.istore_n 2, 1) := by decide +kernel
theorem d_Reducer_less_4 : decode b_Reducer_less 4 = .ok (.iload_n 2, 1) := by decide +kernel
theorem d_Reducer_less_5 : decode b_Reducer_less 5 = .ok (.sipush 20000, 3) := by decide +kernel
theorem d_Reducer_less_8 : decode b_Reducer_less 8 = .ok (.if_icmp .gt 191, 3) := by decide +kernel
theorem d_Reducer_less_11 : decode b_Reducer_less 11 = .ok (.iload_n 1, 1) := by decide +kernel
theorem d_Reducer_less_12 : decode b_Reducer_less 12 = .ok (.iconst 1, 1) := by decide +kernel
theorem d_Reducer_less_13 : decode b_Reducer_less 13 = .ok (.if_icmp .ne 186, 3) := by decide +kernel
theorem d_Reducer_less_16 : decode b_Reducer_less 16 = .ok (.aload_n 0, 1) := by decide +kernel
theorem d_Reducer_less_17 : decode b_Reducer_less 17 = .ok (.getfield 12, 3) := by decide +kernel
theorem d_Reducer_less_20 : decode b_Reducer_less 20 = .ok (.invokevirtual 52, 3) := by decide +kernel
theorem d_Reducer_less_23 : decode b_Reducer_less 23 = .ok (.ifCond .eq 176, 3) := by decide +kernel
theorem d_Reducer_less_26 : decode b_Reducer_less 26 = .ok (.aload_n 0, 1) := by decide +kernel
theorem d_Reducer_less_27 : decode b_Reducer_less 27 = .ok (.getfield 12, 3) := by decide +kernel
theorem d_Reducer_less_30 : decode b_Reducer_less 30 = .ok (.getfield 56, 3) := by decide +kernel
theorem d_Reducer_less_33 : decode b_Reducer_less 33 = .ok (.bipush 60, 2) := by decide +kernel
theorem d_Reducer_less_35 : decode b_Reducer_less 35 = .ok (.if_icmp .gt 13, 3) := by decide +kernel
theorem d_Reducer_less_38 : decode b_Reducer_less 38 = .ok (.aload_n 0, 1) := by decide +kernel
theorem d_Reducer_less_39 : decode b_Reducer_less 39 = .ok (.getfield 38, 3) := by decide +kernel
theorem d_Reducer_less_42 : decode b_Reducer_less 42 = .ok (.sipush 20000, 3) := by decide +kernel
theorem d_Reducer_less_45 : decode b_Reducer_less 45 = .ok (.if_icmp .lt 9, 3) := by decide +kernel
theorem d_Reducer_less_48 : decode b_Reducer_less 48 = .ok (.bipush (-3), 2) := by decide +kernel
theorem d_Reducer_less_50 : decode b_Reducer_less 50 = .ok (.istore_n 1, 1) := by decide +kernel
theorem d_Reducer_less_51 : decode b_Reducer_less 51 = .ok (.goto 142, 3) := by decide +kernel
theorem d_Reducer_less_54 : decode b_Reducer_less 54 = .ok (.aload_n 0, 1) := by decide +kernel
theorem d_Reducer_less_55 : decode b_Reducer_less 55 = .ok (.dup, 1) := by decide +kernel
theorem d_Reducer_less_56 : decode b_Reducer_less 56 = .ok (.getfield 38, 3) := by decide +kernel
theorem d_Reducer_less_59 : decode b_Reducer_less 59 = .ok (.iconst 1, 1) := by decide +kernel
theorem d_Reducer_less_60 : decode b_Reducer_less 60 = .ok (.iadd, 1) := by decide +kernel
theorem d_Reducer_less_61 : decode b_Reducer_less 61 = .ok (.putfield 38, 3) := by decide +kernel
theorem d_Reducer_less_64 : decode b_Reducer_less 64 = .ok (.aload_n 0, 1) := by decide +kernel
theorem d_Reducer_less_65 : decode b_Reducer_less 65 = .ok (.dup, 1) := by decide +kernel
theorem d_Reducer_less_66 : decode b_Reducer_less 66 = .ok (.getfield 59, 3) := by decide +kernel
theorem d_Reducer_less_69 : decode b_Reducer_less 69 = .ok (.iconst 1, 1) := by decide +kernel
theorem d_Reducer_less_70 : decode b_Reducer_less 70 = .ok (.iadd, 1) := by decide +kernel
theorem d_Reducer_less_71 : decode b_Reducer_less 71 = .ok (.putfield 59, 3) := by decide +kernel
theorem d_Reducer_less_74 : decode b_Reducer_less 74 = .ok (.aload_n 0, 1) := by decide +kernel
theorem d_Reducer_less_75 : decode b_Reducer_less 75 = .ok (.getfield 12, 3) := by decide +kernel
theorem d_Reducer_less_78 : decode b_Reducer_less 78 = .ok (.getfield 62, 3) := by decide +kernel
theorem d_Reducer_less_81 : decode b_Reducer_less 81 = .ok (.tableswitch 93 0 2 #[27, 49, 71], 27) := by decide +kernel
theorem d_Reducer_less_108 : decode b_Reducer_less 108 = .ok (.aload_n 0, 1) := by decide +kernel
theorem d_Reducer_less_109 : decode b_Reducer_less 109 = .ok (.aload_n 0, 1) := by decide +kernel
theorem d_Reducer_less_110 : decode b_Reducer_less 110 = .ok (.getfield 12, 3) := by decide +kernel
theorem d_Reducer_less_113 : decode b_Reducer_less 113 = .ok (.getfield 65, 3) := by decide +kernel
theorem d_Reducer_less_116 : decode b_Reducer_less 116 = .ok (.aload_n 0, 1) := by decide +kernel
theorem d_Reducer_less_117 : decode b_Reducer_less 117 = .ok (.getfield 12, 3) := by decide +kernel
theorem d_Reducer_less_120 : decode b_Reducer_less 120 = .ok (.getfield 68, 3) := by decide +kernel
theorem d_Reducer_less_123 : decode b_Reducer_less 123 = .ok (.invokevirtual 71, 3) := by decide +kernel
theorem d_Reducer_less_126 : decode b_Reducer_less 126 = .ok (.istore_n 1, 1) := by decide +kernel
theorem d_Reducer_less_127 : decode b_Reducer_less 127 = .ok (.goto 66, 3) := by decide +kernel
theorem d_Reducer_less_130 : decode b_Reducer_less 130 = .ok (.aload_n 0, 1) := by decide +kernel
theorem d_Reducer_less_131 : decode b_Reducer_less 131 = .ok (.aload_n 0, 1) := by decide +kernel
theorem d_Reducer_less_132 : decode b_Reducer_less 132 = .ok (.getfield 12, 3) := by decide +kernel
theorem d_Reducer_less_135 : decode b_Reducer_less 135 = .ok (.getfield 65, 3) := by decide +kernel
theorem d_Reducer_less_138 : decode b_Reducer_less 138 = .ok (.aload_n 0, 1) := by decide +kernel
theorem d_Reducer_less_139 : decode b_Reducer_less 139 = .ok (.getfield 12, 3) := by decide +kernel
theorem d_Reducer_less_142 : decode b_Reducer_less 142 = .ok (.getfield 68, 3) := by decide +kernel
theorem d_Reducer_less_145 : decode b_Reducer_less 145 = .ok (.invokevirtual 75, 3) := by decide +kernel
theorem d_Reducer_less_148 : decode b_Reducer_less 148 = .ok (.istore_n 1, 1) := by decide +kernel
theorem d_Reducer_less_149 : decode b_Reducer_less 149 = .ok (.goto 44, 3) := by decide +kernel
theorem d_Reducer_less_152 : decode b_Reducer_less 152 = .ok (.aload_n 0, 1) := by decide +kernel
theorem d_Reducer_less_153 : decode b_Reducer_less 153 = .ok (.aload_n 0, 1) := by decide +kernel
theorem d_Reducer_less_154 : decode b_Reducer_less 154 = .ok (.getfield 12, 3) := by decide +kernel
theorem d_Reducer_less_157 : decode b_Reducer_less 157 = .ok (.getfield 65, 3) := by decide +kernel
theorem d_Reducer_less_160 : decode b_Reducer_less 160 = .ok (.aload_n 0, 1) := by decide +kernel
theorem d_Reducer_less_161 : decode b_Reducer_less 161 = .ok (.getfield 12, 3) := by decide +kernel
theorem d_Reducer_less_164 : decode b_Reducer_less 164 = .ok (.getfield 68, 3) := by decide +kernel
theorem d_Reducer_less_167 : decode b_Reducer_less 167 = .ok (.invokevirtual 78, 3) := by decide +kernel
theorem d_Reducer_less_170 : decode b_Reducer_less 170 = .ok (.istore_n 1, 1) := by decide +kernel
theorem d_Reducer_less_171 : decode b_Reducer_less 171 = .ok (.goto 22, 3) := by decide +kernel
theorem d_Reducer_less_174 : decode b_Reducer_less 174 = .ok (.aload_n 0, 1) := by decide +kernel
theorem d_Reducer_less_175 : decode b_Reducer_less 175 = .ok (.aload_n 0, 1) := by decide +kernel
theorem d_Reducer_less_176 : decode b_Reducer_less 176 = .ok (.getfield 12, 3) := by decide +kernel
theorem d_Reducer_less_179 : decode b_Reducer_less 179 = .ok (.getfield 65, 3) := by decide +kernel
theorem d_Reducer_less_182 : decode b_Reducer_less 182 = .ok (.aload_n 0, 1) := by decide +kernel
theorem d_Reducer_less_183 : decode b_Reducer_less 183 = .ok (.getfield 12, 3) := by decide +kernel
theorem d_Reducer_less_186 : decode b_Reducer_less 186 = .ok (.getfield 68, 3) := by decide +kernel
theorem d_Reducer_less_189 : decode b_Reducer_less 189 = .ok (.invokevirtual 81, 3) := by decide +kernel
theorem d_Reducer_less_192 : decode b_Reducer_less 192 = .ok (.istore_n 1, 1) := by decide +kernel
theorem d_Reducer_less_193 : decode b_Reducer_less 193 = .ok (.iinc 2 1, 3) := by decide +kernel
theorem d_Reducer_less_196 : decode b_Reducer_less 196 = .ok (.goto (-192), 3) := by decide +kernel
theorem d_Reducer_less_199 : decode b_Reducer_less 199 = .ok (.aload_n 0, 1) := by decide +kernel
theorem d_Reducer_less_200 : decode b_Reducer_less 200 = .ok (.getfield 12, 3) := by decide +kernel
theorem d_Reducer_less_203 : decode b_Reducer_less 203 = .ok (.iconst 0, 1) := by decide +kernel
theorem d_Reducer_less_204 : decode b_Reducer_less 204 = .ok (.putfield 34, 3) := by decide +kernel
theorem d_Reducer_less_207 : decode b_Reducer_less 207 = .ok (.iload_n 1, 1) := by decide +kernel
theorem d_Reducer_less_208 : decode b_Reducer_less 208 = .ok (.ireturn, 1) := by decide +kernel
theorem d_Reducer_within_0 : decode b_Reducer_within 0 = .ok (.iload_n 2, 1) := by decide +kernel
theorem d_Reducer_within_1 : decode b_Reducer_within 1 = .ok (.ifCond .lt 7, 3) := by decide +kernel
theorem d_Reducer_within_4 : decode b_Reducer_within 4 = .ok (.iload_n 3, 1) := by decide +kernel
theorem d_Reducer_within_5 : decode b_Reducer_within 5 = .ok (.ifCond .ge 6, 3) := by decide +kernel
theorem d_Reducer_within_8 : decode b_Reducer_within 8 = .ok (.bipush (-3), 2) := by decide +kernel
theorem d_Reducer_within_10 : decode b_Reducer_within 10 = .ok (.ireturn, 1) := by decide +kernel
theorem d_Reducer_within_11 : decode b_Reducer_within 11 = .ok (.aload_n 0, 1) := by decide +kernel
theorem d_Reducer_within_12 : decode b_Reducer_within 12 = .ok (.getfield 12, 3) := by decide +kernel
theorem d_Reducer_within_15 : decode b_Reducer_within 15 = .ok (.iload_n 1, 1) := by decide +kernel
theorem d_Reducer_within_16 : decode b_Reducer_within 16 = .ok (.iload_n 2, 1) := by decide +kernel
theorem d_Reducer_within_17 : decode b_Reducer_within 17 = .ok (.iload_n 3, 1) := by decide +kernel
theorem d_Reducer_within_18 : decode b_Reducer_within 18 = .ok (.aload_n 0, 1) := by decide +kernel
theorem d_Reducer_within_19 : decode b_Reducer_within 19 = .ok (.getfield 12, 3) := by decide +kernel
theorem d_Reducer_within_22 : decode b_Reducer_within 22 = .ok (.getfield 56, 3) := by decide +kernel
theorem d_Reducer_within_25 : decode b_Reducer_within 25 = .ok (.iconst 1, 1) := by decide +kernel
theorem d_Reducer_within_26 : decode b_Reducer_within 26 = .ok (.iadd, 1) := by decide +kernel
theorem d_Reducer_within_27 : decode b_Reducer_within 27 = .ok (.invokevirtual 48, 3) := by decide +kernel
theorem d_Reducer_within_30 : decode b_Reducer_within 30 = .ok (.ifCond .eq 7, 3) := by decide +kernel
theorem d_Reducer_within_33 : decode b_Reducer_within 33 = .ok (.iconst 1, 1) := by decide +kernel
theorem d_Reducer_within_34 : decode b_Reducer_within 34 = .ok (.goto 5, 3) := by decide +kernel
theorem d_Reducer_within_37 : decode b_Reducer_within 37 = .ok (.bipush (-3), 2) := by decide +kernel
theorem d_Reducer_within_39 : decode b_Reducer_within 39 = .ok (.ireturn, 1) := by decide +kernel
theorem d_Reducer_withinArguments_0 : decode b_Reducer_withinArguments 0 = .ok (.iconst 1, 1) := by decide +kernel
theorem d_Reducer_withinArguments_1 : decode b_Reducer_withinArguments 1 = .ok (.istore 4, 2) := by decide +kernel
theorem d_Reducer_withinArguments_3 : decode b_Reducer_withinArguments 3 = .ok (.aload_n 0, 1) := by decide +kernel
theorem d_Reducer_withinArguments_4 : decode b_Reducer_withinArguments 4 = .ok (.getfield 18, 3) := by decide +kernel
theorem d_Reducer_withinArguments_7 : decode b_Reducer_withinArguments 7 = .ok (.aload_n 0, 1) := by decide +kernel
theorem d_Reducer_withinArguments_8 : decode b_Reducer_withinArguments 8 = .ok (.getfield 22, 3) := by decide +kernel
theorem d_Reducer_withinArguments_11 : decode b_Reducer_withinArguments 11 = .ok (.iload_n 3, 1) := by decide +kernel
theorem d_Reducer_withinArguments_12 : decode b_Reducer_withinArguments 12 = .ok (.invokevirtual 84, 3) := by decide +kernel
theorem d_Reducer_withinArguments_15 : decode b_Reducer_withinArguments 15 = .ok (.invokevirtual 90, 3) := by decide +kernel
theorem d_Reducer_withinArguments_18 : decode b_Reducer_withinArguments 18 = .ok (.iconst 1, 1) := by decide +kernel
theorem d_Reducer_withinArguments_19 : decode b_Reducer_withinArguments 19 = .ok (.isub, 1) := by decide +kernel
theorem d_Reducer_withinArguments_20 : decode b_Reducer_withinArguments 20 = .ok (.istore 5, 2) := by decide +kernel
theorem d_Reducer_withinArguments_22 : decode b_Reducer_withinArguments 22 = .ok (.iload 5, 2) := by decide +kernel
theorem d_Reducer_withinArguments_24 : decode b_Reducer_withinArguments 24 = .ok (.ifCond .lt 42, 3) := by decide +kernel
theorem d_Reducer_withinArguments_27 : decode b_Reducer_withinArguments 27 = .ok (.iload 4, 2) := by decide +kernel
theorem d_Reducer_withinArguments_29 : decode b_Reducer_withinArguments 29 = .ok (.iconst 1, 1) := by decide +kernel
theorem d_Reducer_withinArguments_30 : decode b_Reducer_withinArguments 30 = .ok (.if_icmp .ne 36, 3) := by decide +kernel
theorem d_Reducer_withinArguments_33 : decode b_Reducer_withinArguments 33 = .ok (.aload_n 0, 1) := by decide +kernel
theorem d_Reducer_withinArguments_34 : decode b_Reducer_withinArguments 34 = .ok (.iload_n 1, 1) := by decide +kernel
theorem d_Reducer_withinArguments_35 : decode b_Reducer_withinArguments 35 = .ok (.aload_n 0, 1) := by decide +kernel
theorem d_Reducer_withinArguments_36 : decode b_Reducer_withinArguments 36 = .ok (.getfield 22, 3) := by decide +kernel
theorem d_Reducer_withinArguments_39 : decode b_Reducer_withinArguments 39 = .ok (.iload_n 2, 1) := by decide +kernel
theorem d_Reducer_withinArguments_40 : decode b_Reducer_withinArguments 40 = .ok (.iload 5, 2) := by decide +kernel
theorem d_Reducer_withinArguments_42 : decode b_Reducer_withinArguments 42 = .ok (.invokevirtual 95, 3) := by decide +kernel
theorem d_Reducer_withinArguments_45 : decode b_Reducer_withinArguments 45 = .ok (.aload_n 0, 1) := by decide +kernel
theorem d_Reducer_withinArguments_46 : decode b_Reducer_withinArguments 46 = .ok (.getfield 22, 3) := by decide +kernel
theorem d_Reducer_withinArguments_49 : decode b_Reducer_withinArguments 49 = .ok (.iload_n 3, 1) := by decide +kernel
theorem d_Reducer_withinArguments_50 : decode b_Reducer_withinArguments 50 = .ok (.iload 5, 2) := by decide +kernel
theorem d_Reducer_withinArguments_52 : decode b_Reducer_withinArguments 52 = .ok (.invokevirtual 95, 3) := by decide +kernel
theorem d_Reducer_withinArguments_55 : decode b_Reducer_withinArguments 55 = .ok (.invokevirtual 98, 3) := by decide +kernel
theorem d_Reducer_withinArguments_58 : decode b_Reducer_withinArguments 58 = .ok (.istore 4, 2) := by decide +kernel
theorem d_Reducer_withinArguments_60 : decode b_Reducer_withinArguments 60 = .ok (.iinc 5 (-1), 3) := by decide +kernel
theorem d_Reducer_withinArguments_63 : decode b_Reducer_withinArguments 63 = .ok (.goto (-41), 3) := by decide +kernel
theorem d_Reducer_withinArguments_66 : decode b_Reducer_withinArguments 66 = .ok (.iload 4, 2) := by decide +kernel
theorem d_Reducer_withinArguments_68 : decode b_Reducer_withinArguments 68 = .ok (.ireturn, 1) := by decide +kernel
theorem d_Reducer_lessCompatible_0 : decode b_Reducer_lessCompatible 0 = .ok (.aload_n 0, 1) := by decide +kernel
theorem d_Reducer_lessCompatible_1 : decode b_Reducer_lessCompatible 1 = .ok (.getfield 22, 3) := by decide +kernel
theorem d_Reducer_lessCompatible_4 : decode b_Reducer_lessCompatible 4 = .ok (.iload_n 1, 1) := by decide +kernel
theorem d_Reducer_lessCompatible_5 : decode b_Reducer_lessCompatible 5 = .ok (.invokevirtual 102, 3) := by decide +kernel
theorem d_Reducer_lessCompatible_8 : decode b_Reducer_lessCompatible 8 = .ok (.iconst 5, 1) := by decide +kernel
theorem d_Reducer_lessCompatible_9 : decode b_Reducer_lessCompatible 9 = .ok (.if_icmp .ne 7, 3) := by decide +kernel
theorem d_Reducer_lessCompatible_12 : decode b_Reducer_lessCompatible 12 = .ok (.iconst 1, 1) := by decide +kernel
theorem d_Reducer_lessCompatible_13 : decode b_Reducer_lessCompatible 13 = .ok (.goto 4, 3) := by decide +kernel
theorem d_Reducer_lessCompatible_16 : decode b_Reducer_lessCompatible 16 = .ok (.iconst 0, 1) := by decide +kernel
theorem d_Reducer_lessCompatible_17 : decode b_Reducer_lessCompatible 17 = .ok (.istore_n 3, 1) := by decide +kernel
theorem d_Reducer_lessCompatible_18 : decode b_Reducer_lessCompatible 18 = .ok (.aload_n 0, 1) := by decide +kernel
theorem d_Reducer_lessCompatible_19 : decode b_Reducer_lessCompatible 19 = .ok (.getfield 22, 3) := by decide +kernel
theorem d_Reducer_lessCompatible_22 : decode b_Reducer_lessCompatible 22 = .ok (.iload_n 2, 1) := by decide +kernel
theorem d_Reducer_lessCompatible_23 : decode b_Reducer_lessCompatible 23 = .ok (.invokevirtual 102, 3) := by decide +kernel
theorem d_Reducer_lessCompatible_26 : decode b_Reducer_lessCompatible 26 = .ok (.iconst 5, 1) := by decide +kernel
theorem d_Reducer_lessCompatible_27 : decode b_Reducer_lessCompatible 27 = .ok (.if_icmp .ne 7, 3) := by decide +kernel
theorem d_Reducer_lessCompatible_30 : decode b_Reducer_lessCompatible 30 = .ok (.iconst 1, 1) := by decide +kernel
theorem d_Reducer_lessCompatible_31 : decode b_Reducer_lessCompatible 31 = .ok (.goto 4, 3) := by decide +kernel
theorem d_Reducer_lessCompatible_34 : decode b_Reducer_lessCompatible 34 = .ok (.iconst 0, 1) := by decide +kernel
theorem d_Reducer_lessCompatible_35 : decode b_Reducer_lessCompatible 35 = .ok (.istore 4, 2) := by decide +kernel
theorem d_Reducer_lessCompatible_37 : decode b_Reducer_lessCompatible 37 = .ok (.aload_n 0, 1) := by decide +kernel
theorem d_Reducer_lessCompatible_38 : decode b_Reducer_lessCompatible 38 = .ok (.getfield 22, 3) := by decide +kernel
theorem d_Reducer_lessCompatible_41 : decode b_Reducer_lessCompatible 41 = .ok (.iload_n 1, 1) := by decide +kernel
theorem d_Reducer_lessCompatible_42 : decode b_Reducer_lessCompatible 42 = .ok (.invokevirtual 105, 3) := by decide +kernel
theorem d_Reducer_lessCompatible_45 : decode b_Reducer_lessCompatible 45 = .ok (.ifCond .eq 77, 3) := by decide +kernel
theorem d_Reducer_lessCompatible_48 : decode b_Reducer_lessCompatible 48 = .ok (.aload_n 0, 1) := by decide +kernel
theorem d_Reducer_lessCompatible_49 : decode b_Reducer_lessCompatible 49 = .ok (.getfield 22, 3) := by decide +kernel
theorem d_Reducer_lessCompatible_52 : decode b_Reducer_lessCompatible 52 = .ok (.iload_n 2, 1) := by decide +kernel
theorem d_Reducer_lessCompatible_53 : decode b_Reducer_lessCompatible 53 = .ok (.invokevirtual 105, 3) := by decide +kernel
theorem d_Reducer_lessCompatible_56 : decode b_Reducer_lessCompatible 56 = .ok (.ifCond .eq 66, 3) := by decide +kernel
theorem d_Reducer_lessCompatible_59 : decode b_Reducer_lessCompatible 59 = .ok (.iload_n 3, 1) := by decide +kernel
theorem d_Reducer_lessCompatible_60 : decode b_Reducer_lessCompatible 60 = .ok (.ifCond .eq 31, 3) := by decide +kernel
theorem d_Reducer_lessCompatible_63 : decode b_Reducer_lessCompatible 63 = .ok (.iload 4, 2) := by decide +kernel
theorem d_Reducer_lessCompatible_65 : decode b_Reducer_lessCompatible 65 = .ok (.ifCond .eq 26, 3) := by decide +kernel
theorem d_Reducer_lessCompatible_68 : decode b_Reducer_lessCompatible 68 = .ok (.aload_n 0, 1) := by decide +kernel
theorem d_Reducer_lessCompatible_69 : decode b_Reducer_lessCompatible 69 = .ok (.getfield 22, 3) := by decide +kernel
theorem d_Reducer_lessCompatible_72 : decode b_Reducer_lessCompatible 72 = .ok (.iload_n 1, 1) := by decide +kernel
theorem d_Reducer_lessCompatible_73 : decode b_Reducer_lessCompatible 73 = .ok (.invokevirtual 109, 3) := by decide +kernel
theorem d_Reducer_lessCompatible_76 : decode b_Reducer_lessCompatible 76 = .ok (.aload_n 0, 1) := by decide +kernel
theorem d_Reducer_lessCompatible_77 : decode b_Reducer_lessCompatible 77 = .ok (.getfield 22, 3) := by decide +kernel
theorem d_Reducer_lessCompatible_80 : decode b_Reducer_lessCompatible 80 = .ok (.iload_n 2, 1) := by decide +kernel
theorem d_Reducer_lessCompatible_81 : decode b_Reducer_lessCompatible 81 = .ok (.invokevirtual 109, 3) := by decide +kernel
theorem d_Reducer_lessCompatible_84 : decode b_Reducer_lessCompatible 84 = .ok (.invokestatic 112, 3) := by decide +kernel
theorem d_Reducer_lessCompatible_87 : decode b_Reducer_lessCompatible 87 = .ok (.invokestatic 116, 3) := by decide +kernel
theorem d_Reducer_lessCompatible_90 : decode b_Reducer_lessCompatible 90 = .ok (.ireturn, 1) := by decide +kernel
theorem d_Reducer_lessCompatible_91 : decode b_Reducer_lessCompatible 91 = .ok (.iload_n 3, 1) := by decide +kernel
theorem d_Reducer_lessCompatible_92 : decode b_Reducer_lessCompatible 92 = .ok (.ifCond .eq 15, 3) := by decide +kernel
theorem d_Reducer_lessCompatible_95 : decode b_Reducer_lessCompatible 95 = .ok (.aload_n 0, 1) := by decide +kernel
theorem d_Reducer_lessCompatible_96 : decode b_Reducer_lessCompatible 96 = .ok (.iconst 1, 1) := by decide +kernel
theorem d_Reducer_lessCompatible_97 : decode b_Reducer_lessCompatible 97 = .ok (.aload_n 0, 1) := by decide +kernel
theorem d_Reducer_lessCompatible_98 : decode b_Reducer_lessCompatible 98 = .ok (.iload_n 1, 1) := by decide +kernel
theorem d_Reducer_lessCompatible_99 : decode b_Reducer_lessCompatible 99 = .ok (.invokevirtual 120, 3) := by decide +kernel
theorem d_Reducer_lessCompatible_102 : decode b_Reducer_lessCompatible 102 = .ok (.iload_n 2, 1) := by decide +kernel
theorem d_Reducer_lessCompatible_103 : decode b_Reducer_lessCompatible 103 = .ok (.invokevirtual 98, 3) := by decide +kernel
theorem d_Reducer_lessCompatible_106 : decode b_Reducer_lessCompatible 106 = .ok (.ireturn, 1) := by decide +kernel
theorem d_Reducer_lessCompatible_107 : decode b_Reducer_lessCompatible 107 = .ok (.iload 4, 2) := by decide +kernel
theorem d_Reducer_lessCompatible_109 : decode b_Reducer_lessCompatible 109 = .ok (.ifCond .eq 46, 3) := by decide +kernel
theorem d_Reducer_lessCompatible_112 : decode b_Reducer_lessCompatible 112 = .ok (.aload_n 0, 1) := by decide +kernel
theorem d_Reducer_lessCompatible_113 : decode b_Reducer_lessCompatible 113 = .ok (.iload_n 1, 1) := by decide +kernel
theorem d_Reducer_lessCompatible_114 : decode b_Reducer_lessCompatible 114 = .ok (.iload_n 2, 1) := by decide +kernel
theorem d_Reducer_lessCompatible_115 : decode b_Reducer_lessCompatible 115 = .ok (.invokevirtual 123, 3) := by decide +kernel
theorem d_Reducer_lessCompatible_118 : decode b_Reducer_lessCompatible 118 = .ok (.invokestatic 116, 3) := by decide +kernel
theorem d_Reducer_lessCompatible_121 : decode b_Reducer_lessCompatible 121 = .ok (.ireturn, 1) := by decide +kernel
theorem d_Reducer_lessCompatible_122 : decode b_Reducer_lessCompatible 122 = .ok (.iload_n 3, 1) := by decide +kernel
theorem d_Reducer_lessCompatible_123 : decode b_Reducer_lessCompatible 123 = .ok (.ifCond .eq 15, 3) := by decide +kernel
theorem d_Reducer_lessCompatible_126 : decode b_Reducer_lessCompatible 126 = .ok (.aload_n 0, 1) := by decide +kernel
theorem d_Reducer_lessCompatible_127 : decode b_Reducer_lessCompatible 127 = .ok (.iconst 0, 1) := by decide +kernel
theorem d_Reducer_lessCompatible_128 : decode b_Reducer_lessCompatible 128 = .ok (.aload_n 0, 1) := by decide +kernel
theorem d_Reducer_lessCompatible_129 : decode b_Reducer_lessCompatible 129 = .ok (.iload_n 1, 1) := by decide +kernel
theorem d_Reducer_lessCompatible_130 : decode b_Reducer_lessCompatible 130 = .ok (.invokevirtual 120, 3) := by decide +kernel
theorem d_Reducer_lessCompatible_133 : decode b_Reducer_lessCompatible 133 = .ok (.iload_n 2, 1) := by decide +kernel
theorem d_Reducer_lessCompatible_134 : decode b_Reducer_lessCompatible 134 = .ok (.invokevirtual 98, 3) := by decide +kernel
theorem d_Reducer_lessCompatible_137 : decode b_Reducer_lessCompatible 137 = .ok (.ireturn, 1) := by decide +kernel
theorem d_Reducer_lessCompatible_138 : decode b_Reducer_lessCompatible 138 = .ok (.iload 4, 2) := by decide +kernel
theorem d_Reducer_lessCompatible_140 : decode b_Reducer_lessCompatible 140 = .ok (.ifCond .eq 15, 3) := by decide +kernel
theorem d_Reducer_lessCompatible_143 : decode b_Reducer_lessCompatible 143 = .ok (.aload_n 0, 1) := by decide +kernel
theorem d_Reducer_lessCompatible_144 : decode b_Reducer_lessCompatible 144 = .ok (.iconst 3, 1) := by decide +kernel
theorem d_Reducer_lessCompatible_145 : decode b_Reducer_lessCompatible 145 = .ok (.iload_n 1, 1) := by decide +kernel
theorem d_Reducer_lessCompatible_146 : decode b_Reducer_lessCompatible 146 = .ok (.aload_n 0, 1) := by decide +kernel
theorem d_Reducer_lessCompatible_147 : decode b_Reducer_lessCompatible 147 = .ok (.iload_n 2, 1) := by decide +kernel
theorem d_Reducer_lessCompatible_148 : decode b_Reducer_lessCompatible 148 = .ok (.invokevirtual 120, 3) := by decide +kernel
theorem d_Reducer_lessCompatible_151 : decode b_Reducer_lessCompatible 151 = .ok (.invokevirtual 98, 3) := by decide +kernel
theorem d_Reducer_lessCompatible_154 : decode b_Reducer_lessCompatible 154 = .ok (.ireturn, 1) := by decide +kernel
theorem d_Reducer_lessCompatible_155 : decode b_Reducer_lessCompatible 155 = .ok (.aload_n 0, 1) := by decide +kernel
theorem d_Reducer_lessCompatible_156 : decode b_Reducer_lessCompatible 156 = .ok (.getfield 22, 3) := by decide +kernel
theorem d_Reducer_lessCompatible_159 : decode b_Reducer_lessCompatible 159 = .ok (.iload_n 2, 1) := by decide +kernel
theorem d_Reducer_lessCompatible_160 : decode b_Reducer_lessCompatible 160 = .ok (.invokevirtual 102, 3) := by decide +kernel
theorem d_Reducer_lessCompatible_163 : decode b_Reducer_lessCompatible 163 = .ok (.iconst 1, 1) := by decide +kernel
theorem d_Reducer_lessCompatible_164 : decode b_Reducer_lessCompatible 164 = .ok (.if_icmp .ne 47, 3) := by decide +kernel
theorem d_Reducer_lessCompatible_167 : decode b_Reducer_lessCompatible 167 = .ok (.aload_n 0, 1) := by decide +kernel
theorem d_Reducer_lessCompatible_168 : decode b_Reducer_lessCompatible 168 = .ok (.iload_n 1, 1) := by decide +kernel
theorem d_Reducer_lessCompatible_169 : decode b_Reducer_lessCompatible 169 = .ok (.aload_n 0, 1) := by decide +kernel
theorem d_Reducer_lessCompatible_170 : decode b_Reducer_lessCompatible 170 = .ok (.getfield 22, 3) := by decide +kernel
theorem d_Reducer_lessCompatible_173 : decode b_Reducer_lessCompatible 173 = .ok (.iload_n 2, 1) := by decide +kernel
theorem d_Reducer_lessCompatible_174 : decode b_Reducer_lessCompatible 174 = .ok (.invokevirtual 109, 3) := by decide +kernel
theorem d_Reducer_lessCompatible_177 : decode b_Reducer_lessCompatible 177 = .ok (.invokevirtual 126, 3) := by decide +kernel
theorem d_Reducer_lessCompatible_180 : decode b_Reducer_lessCompatible 180 = .ok (.istore 5, 2) := by decide +kernel
theorem d_Reducer_lessCompatible_182 : decode b_Reducer_lessCompatible 182 = .ok (.iload 5, 2) := by decide +kernel
theorem d_Reducer_lessCompatible_184 : decode b_Reducer_lessCompatible 184 = .ok (.bipush (-3), 2) := by decide +kernel
theorem d_Reducer_lessCompatible_186 : decode b_Reducer_lessCompatible 186 = .ok (.if_icmp .ne 6, 3) := by decide +kernel
theorem d_Reducer_lessCompatible_189 : decode b_Reducer_lessCompatible 189 = .ok (.bipush (-3), 2) := by decide +kernel
theorem d_Reducer_lessCompatible_191 : decode b_Reducer_lessCompatible 191 = .ok (.ireturn, 1) := by decide +kernel
theorem d_Reducer_lessCompatible_192 : decode b_Reducer_lessCompatible 192 = .ok (.aload_n 0, 1) := by decide +kernel
theorem d_Reducer_lessCompatible_193 : decode b_Reducer_lessCompatible 193 = .ok (.getfield 22, 3) := by decide +kernel
theorem d_Reducer_lessCompatible_196 : decode b_Reducer_lessCompatible 196 = .ok (.iload 5, 2) := by decide +kernel
theorem d_Reducer_lessCompatible_198 : decode b_Reducer_lessCompatible 198 = .ok (.invokevirtual 102, 3) := by decide +kernel
theorem d_Reducer_lessCompatible_201 : decode b_Reducer_lessCompatible 201 = .ok (.ifCond .ne 10, 3) := by decide +kernel
theorem d_Reducer_lessCompatible_204 : decode b_Reducer_lessCompatible 204 = .ok (.aload_n 0, 1) := by decide +kernel
theorem d_Reducer_lessCompatible_205 : decode b_Reducer_lessCompatible 205 = .ok (.iconst 1, 1) := by decide +kernel
theorem d_Reducer_lessCompatible_206 : decode b_Reducer_lessCompatible 206 = .ok (.putfield 44, 3) := by decide +kernel
theorem d_Reducer_lessCompatible_209 : decode b_Reducer_lessCompatible 209 = .ok (.iconst 1, 1) := by decide +kernel
theorem d_Reducer_lessCompatible_210 : decode b_Reducer_lessCompatible 210 = .ok (.ireturn, 1) := by decide +kernel
theorem d_Reducer_lessCompatible_211 : decode b_Reducer_lessCompatible 211 = .ok (.aload_n 0, 1) := by decide +kernel
theorem d_Reducer_lessCompatible_212 : decode b_Reducer_lessCompatible 212 = .ok (.iconst 1, 1) := by decide +kernel
theorem d_Reducer_lessCompatible_213 : decode b_Reducer_lessCompatible 213 = .ok (.iload_n 1, 1) := by decide +kernel
theorem d_Reducer_lessCompatible_214 : decode b_Reducer_lessCompatible 214 = .ok (.iload_n 2, 1) := by decide +kernel
theorem d_Reducer_lessCompatible_215 : decode b_Reducer_lessCompatible 215 = .ok (.invokevirtual 98, 3) := by decide +kernel
theorem d_Reducer_lessCompatible_218 : decode b_Reducer_lessCompatible 218 = .ok (.ireturn, 1) := by decide +kernel
theorem d_Reducer_lessSub_0 : decode b_Reducer_lessSub 0 = .ok (.iload_n 1, 1) := by decide +kernel
theorem d_Reducer_lessSub_1 : decode b_Reducer_lessSub 1 = .ok (.iload_n 2, 1) := by decide +kernel
theorem d_Reducer_lessSub_2 : decode b_Reducer_lessSub 2 = .ok (.if_icmp .ne 5, 3) := by decide +kernel
theorem d_Reducer_lessSub_5 : decode b_Reducer_lessSub 5 = .ok (.iconst 1, 1) := by decide +kernel
theorem d_Reducer_lessSub_6 : decode b_Reducer_lessSub 6 = .ok (.ireturn, 1) := by decide +kernel
theorem d_Reducer_lessSub_7 : decode b_Reducer_lessSub 7 = .ok (.aload_n 0, 1) := by decide +kernel
theorem d_Reducer_lessSub_8 : decode b_Reducer_lessSub 8 = .ok (.getfield 22, 3) := by decide +kernel
theorem d_Reducer_lessSub_11 : decode b_Reducer_lessSub 11 = .ok (.iload_n 1, 1) := by decide +kernel
theorem d_Reducer_lessSub_12 : decode b_Reducer_lessSub 12 = .ok (.invokevirtual 102, 3) := by decide +kernel
theorem d_Reducer_lessSub_15 : decode b_Reducer_lessSub 15 = .ok (.istore_n 3, 1) := by decide +kernel
theorem d_Reducer_lessSub_16 : decode b_Reducer_lessSub 16 = .ok (.aload_n 0, 1) := by decide +kernel
theorem d_Reducer_lessSub_17 : decode b_Reducer_lessSub 17 = .ok (.getfield 22, 3) := by decide +kernel
theorem d_Reducer_lessSub_20 : decode b_Reducer_lessSub 20 = .ok (.iload_n 2, 1) := by decide +kernel
theorem d_Reducer_lessSub_21 : decode b_Reducer_lessSub 21 = .ok (.invokevirtual 102, 3) := by decide +kernel
theorem d_Reducer_lessSub_24 : decode b_Reducer_lessSub 24 = .ok (.istore 4, 2) := by decide +kernel
theorem d_Reducer_lessSub_26 : decode b_Reducer_lessSub 26 = .ok (.iload_n 3, 1) := by decide +kernel
theorem d_Reducer_lessSub_27 : decode b_Reducer_lessSub 27 = .ok (.bipush 6, 2) := by decide +kernel
theorem d_Reducer_lessSub_29 : decode b_Reducer_lessSub 29 = .ok (.if_icmp .ne 18, 3) := by decide +kernel
theorem d_Reducer_lessSub_32 : decode b_Reducer_lessSub 32 = .ok (.iload 4, 2) := by decide +kernel
theorem d_Reducer_lessSub_34 : decode b_Reducer_lessSub 34 = .ok (.iconst 5, 1) := by decide +kernel
theorem d_Reducer_lessSub_35 : decode b_Reducer_lessSub 35 = .ok (.if_icmp .eq 7, 3) := by decide +kernel
theorem d_Reducer_lessSub_38 : decode b_Reducer_lessSub 38 = .ok (.iconst 1, 1) := by decide +kernel
theorem d_Reducer_lessSub_39 : decode b_Reducer_lessSub 39 = .ok (.goto 4, 3) := by decide +kernel
theorem d_Reducer_lessSub_42 : decode b_Reducer_lessSub 42 = .ok (.iconst 0, 1) := by decide +kernel
theorem d_Reducer_lessSub_43 : decode b_Reducer_lessSub 43 = .ok (.invokestatic 116, 3) := by decide +kernel
theorem d_Reducer_lessSub_46 : decode b_Reducer_lessSub 46 = .ok (.ireturn, 1) := by decide +kernel
theorem d_Reducer_lessSub_47 : decode b_Reducer_lessSub 47 = .ok (.iload 4, 2) := by decide +kernel
theorem d_Reducer_lessSub_49 : decode b_Reducer_lessSub 49 = .ok (.bipush 6, 2) := by decide +kernel
theorem d_Reducer_lessSub_51 : decode b_Reducer_lessSub 51 = .ok (.if_icmp .eq 14, 3) := by decide +kernel
theorem d_Reducer_lessSub_54 : decode b_Reducer_lessSub 54 = .ok (.iload_n 3, 1) := by decide +kernel
theorem d_Reducer_lessSub_55 : decode b_Reducer_lessSub 55 = .ok (.iconst 5, 1) := by decide +kernel
theorem d_Reducer_lessSub_56 : decode b_Reducer_lessSub 56 = .ok (.if_icmp .eq 9, 3) := by decide +kernel
theorem d_Reducer_lessSub_59 : decode b_Reducer_lessSub 59 = .ok (.iload 4, 2) := by decide +kernel
theorem d_Reducer_lessSub_61 : decode b_Reducer_lessSub 61 = .ok (.iconst 5, 1) := by decide +kernel
theorem d_Reducer_lessSub_62 : decode b_Reducer_lessSub 62 = .ok (.if_icmp .ne 5, 3) := by decide +kernel
theorem d_Reducer_lessSub_65 : decode b_Reducer_lessSub 65 = .ok (.iconst 0, 1) := by decide +kernel
theorem d_Reducer_lessSub_66 : decode b_Reducer_lessSub 66 = .ok (.ireturn, 1) := by decide +kernel
theorem d_Reducer_lessSub_67 : decode b_Reducer_lessSub 67 = .ok (.iload_n 3, 1) := by decide +kernel
theorem d_Reducer_lessSub_68 : decode b_Reducer_lessSub 68 = .ok (.bipush 7, 2) := by decide +kernel
theorem d_Reducer_lessSub_70 : decode b_Reducer_lessSub 70 = .ok (.if_icmp .eq 10, 3) := by decide +kernel
theorem d_Reducer_lessSub_73 : decode b_Reducer_lessSub 73 = .ok (.iload 4, 2) := by decide +kernel
theorem d_Reducer_lessSub_75 : decode b_Reducer_lessSub 75 = .ok (.bipush 7, 2) := by decide +kernel
theorem d_Reducer_lessSub_77 : decode b_Reducer_lessSub 77 = .ok (.if_icmp .ne 12, 3) := by decide +kernel
theorem d_Reducer_lessSub_80 : decode b_Reducer_lessSub 80 = .ok (.aload_n 0, 1) := by decide +kernel
theorem d_Reducer_lessSub_81 : decode b_Reducer_lessSub 81 = .ok (.iconst 1, 1) := by decide +kernel
theorem d_Reducer_lessSub_82 : decode b_Reducer_lessSub 82 = .ok (.iconst 2, 1) := by decide +kernel
theorem d_Reducer_lessSub_83 : decode b_Reducer_lessSub 83 = .ok (.iload_n 1, 1) := by decide +kernel
theorem d_Reducer_lessSub_84 : decode b_Reducer_lessSub 84 = .ok (.iload_n 2, 1) := by decide +kernel
theorem d_Reducer_lessSub_85 : decode b_Reducer_lessSub 85 = .ok (.invokevirtual 129, 3) := by decide +kernel
theorem d_Reducer_lessSub_88 : decode b_Reducer_lessSub 88 = .ok (.ireturn, 1) := by decide +kernel
theorem d_Reducer_lessSub_89 : decode b_Reducer_lessSub 89 = .ok (.iload 4, 2) := by decide +kernel
theorem d_Reducer_lessSub_91 : decode b_Reducer_lessSub 91 = .ok (.ifCond .ne 57, 3) := by decide +kernel
theorem d_Reducer_lessSub_94 : decode b_Reducer_lessSub 94 = .ok (.aload_n 0, 1) := by decide +kernel
theorem d_Reducer_lessSub_95 : decode b_Reducer_lessSub 95 = .ok (.getfield 22, 3) := by decide +kernel
theorem d_Reducer_lessSub_98 : decode b_Reducer_lessSub 98 = .ok (.iload_n 2, 1) := by decide +kernel
theorem d_Reducer_lessSub_99 : decode b_Reducer_lessSub 99 = .ok (.invokevirtual 109, 3) := by decide +kernel
theorem d_Reducer_lessSub_102 : decode b_Reducer_lessSub 102 = .ok (.ifCond .ne 5, 3) := by decide +kernel
theorem d_Reducer_lessSub_105 : decode b_Reducer_lessSub 105 = .ok (.iconst 1, 1) := by decide +kernel
theorem d_Reducer_lessSub_106 : decode b_Reducer_lessSub 106 = .ok (.ireturn, 1) := by decide +kernel
theorem d_Reducer_lessSub_107 : decode b_Reducer_lessSub 107 = .ok (.aload_n 0, 1) := by decide +kernel
theorem d_Reducer_lessSub_108 : decode b_Reducer_lessSub 108 = .ok (.iload_n 1, 1) := by decide +kernel
theorem d_Reducer_lessSub_109 : decode b_Reducer_lessSub 109 = .ok (.aload_n 0, 1) := by decide +kernel
theorem d_Reducer_lessSub_110 : decode b_Reducer_lessSub 110 = .ok (.getfield 22, 3) := by decide +kernel
theorem d_Reducer_lessSub_113 : decode b_Reducer_lessSub 113 = .ok (.iload_n 2, 1) := by decide +kernel
theorem d_Reducer_lessSub_114 : decode b_Reducer_lessSub 114 = .ok (.invokevirtual 109, 3) := by decide +kernel
theorem d_Reducer_lessSub_117 : decode b_Reducer_lessSub 117 = .ok (.invokevirtual 126, 3) := by decide +kernel
theorem d_Reducer_lessSub_120 : decode b_Reducer_lessSub 120 = .ok (.istore 5, 2) := by decide +kernel
theorem d_Reducer_lessSub_122 : decode b_Reducer_lessSub 122 = .ok (.iload 5, 2) := by decide +kernel
theorem d_Reducer_lessSub_124 : decode b_Reducer_lessSub 124 = .ok (.bipush (-3), 2) := by decide +kernel
theorem d_Reducer_lessSub_126 : decode b_Reducer_lessSub 126 = .ok (.if_icmp .ne 8, 3) := by decide +kernel
theorem d_Reducer_lessSub_129 : decode b_Reducer_lessSub 129 = .ok (.bipush (-3), 2) := by decide +kernel
theorem d_Reducer_lessSub_131 : decode b_Reducer_lessSub 131 = .ok (.goto 16, 3) := by decide +kernel
theorem d_Reducer_lessSub_134 : decode b_Reducer_lessSub 134 = .ok (.iload 5, 2) := by decide +kernel
theorem d_Reducer_lessSub_136 : decode b_Reducer_lessSub 136 = .ok (.ifCond .lt 7, 3) := by decide +kernel
theorem d_Reducer_lessSub_139 : decode b_Reducer_lessSub 139 = .ok (.iconst 1, 1) := by decide +kernel
theorem d_Reducer_lessSub_140 : decode b_Reducer_lessSub 140 = .ok (.goto 4, 3) := by decide +kernel
theorem d_Reducer_lessSub_143 : decode b_Reducer_lessSub 143 = .ok (.iconst 0, 1) := by decide +kernel
theorem d_Reducer_lessSub_144 : decode b_Reducer_lessSub 144 = .ok (.invokestatic 116, 3) := by decide +kernel
theorem d_Reducer_lessSub_147 : decode b_Reducer_lessSub 147 = .ok (.ireturn, 1) := by decide +kernel
theorem d_Reducer_lessSub_148 : decode b_Reducer_lessSub 148 = .ok (.iload 4, 2) := by decide +kernel
theorem d_Reducer_lessSub_150 : decode b_Reducer_lessSub 150 = .ok (.iconst 1, 1) := by decide +kernel
theorem d_Reducer_lessSub_151 : decode b_Reducer_lessSub 151 = .ok (.if_icmp .ne 54, 3) := by decide +kernel
theorem d_Reducer_lessSub_154 : decode b_Reducer_lessSub 154 = .ok (.aload_n 0, 1) := by decide +kernel
theorem d_Reducer_lessSub_155 : decode b_Reducer_lessSub 155 = .ok (.iload_n 1, 1) := by decide +kernel
theorem d_Reducer_lessSub_156 : decode b_Reducer_lessSub 156 = .ok (.aload_n 0, 1) := by decide +kernel
theorem d_Reducer_lessSub_157 : decode b_Reducer_lessSub 157 = .ok (.getfield 22, 3) := by decide +kernel
theorem d_Reducer_lessSub_160 : decode b_Reducer_lessSub 160 = .ok (.iload_n 2, 1) := by decide +kernel
theorem d_Reducer_lessSub_161 : decode b_Reducer_lessSub 161 = .ok (.invokevirtual 109, 3) := by decide +kernel
theorem d_Reducer_lessSub_164 : decode b_Reducer_lessSub 164 = .ok (.invokevirtual 126, 3) := by decide +kernel
theorem d_Reducer_lessSub_167 : decode b_Reducer_lessSub 167 = .ok (.istore 5, 2) := by decide +kernel
theorem d_Reducer_lessSub_169 : decode b_Reducer_lessSub 169 = .ok (.iload 5, 2) := by decide +kernel
theorem d_Reducer_lessSub_171 : decode b_Reducer_lessSub 171 = .ok (.bipush (-3), 2) := by decide +kernel
theorem d_Reducer_lessSub_173 : decode b_Reducer_lessSub 173 = .ok (.if_icmp .ne 6, 3) := by decide +kernel
theorem d_Reducer_lessSub_176 : decode b_Reducer_lessSub 176 = .ok (.bipush (-3), 2) := by decide +kernel
theorem d_Reducer_lessSub_178 : decode b_Reducer_lessSub 178 = .ok (.ireturn, 1) := by decide +kernel
theorem d_Reducer_lessSub_179 : decode b_Reducer_lessSub 179 = .ok (.aload_n 0, 1) := by decide +kernel
theorem d_Reducer_lessSub_180 : decode b_Reducer_lessSub 180 = .ok (.getfield 22, 3) := by decide +kernel
theorem d_Reducer_lessSub_183 : decode b_Reducer_lessSub 183 = .ok (.iload 5, 2) := by decide +kernel
theorem d_Reducer_lessSub_185 : decode b_Reducer_lessSub 185 = .ok (.invokevirtual 102, 3) := by decide +kernel
theorem d_Reducer_lessSub_188 : decode b_Reducer_lessSub 188 = .ok (.iconst 1, 1) := by decide +kernel
theorem d_Reducer_lessSub_189 : decode b_Reducer_lessSub 189 = .ok (.if_icmp .ne 14, 3) := by decide +kernel
theorem d_Reducer_lessSub_192 : decode b_Reducer_lessSub 192 = .ok (.aload_n 0, 1) := by decide +kernel
theorem d_Reducer_lessSub_193 : decode b_Reducer_lessSub 193 = .ok (.iconst 2, 1) := by decide +kernel
theorem d_Reducer_lessSub_194 : decode b_Reducer_lessSub 194 = .ok (.iload 5, 2) := by decide +kernel
theorem d_Reducer_lessSub_196 : decode b_Reducer_lessSub 196 = .ok (.iload_n 2, 1) := by decide +kernel
theorem d_Reducer_lessSub_197 : decode b_Reducer_lessSub 197 = .ok (.invokevirtual 133, 3) := by decide +kernel
theorem d_Reducer_lessSub_200 : decode b_Reducer_lessSub 200 = .ok (.goto 4, 3) := by decide +kernel
theorem d_Reducer_lessSub_203 : decode b_Reducer_lessSub 203 = .ok (.iconst 0, 1) := by decide +kernel
theorem d_Reducer_lessSub_204 : decode b_Reducer_lessSub 204 = .ok (.ireturn, 1) := by decide +kernel
theorem d_Reducer_lessSub_205 : decode b_Reducer_lessSub 205 = .ok (.iload 4, 2) := by decide +kernel
theorem d_Reducer_lessSub_207 : decode b_Reducer_lessSub 207 = .ok (.iconst 4, 1) := by decide +kernel
theorem d_Reducer_lessSub_208 : decode b_Reducer_lessSub 208 = .ok (.if_icmp .ne 80, 3) := by decide +kernel
theorem d_Reducer_lessSub_211 : decode b_Reducer_lessSub 211 = .ok (.iload_n 3, 1) := by decide +kernel
theorem d_Reducer_lessSub_212 : decode b_Reducer_lessSub 212 = .ok (.iconst 4, 1) := by decide +kernel
theorem d_Reducer_lessSub_213 : decode b_Reducer_lessSub 213 = .ok (.if_icmp .ne 75, 3) := by decide +kernel
theorem d_Reducer_lessSub_216 : decode b_Reducer_lessSub 216 = .ok (.aload_n 0, 1) := by decide +kernel
theorem d_Reducer_lessSub_217 : decode b_Reducer_lessSub 217 = .ok (.getfield 22, 3) := by decide +kernel
theorem d_Reducer_lessSub_220 : decode b_Reducer_lessSub 220 = .ok (.iload_n 1, 1) := by decide +kernel
theorem d_Reducer_lessSub_221 : decode b_Reducer_lessSub 221 = .ok (.invokevirtual 109, 3) := by decide +kernel
theorem d_Reducer_lessSub_224 : decode b_Reducer_lessSub 224 = .ok (.istore 5, 2) := by decide +kernel
theorem d_Reducer_lessSub_226 : decode b_Reducer_lessSub 226 = .ok (.aload_n 0, 1) := by decide +kernel
theorem d_Reducer_lessSub_227 : decode b_Reducer_lessSub 227 = .ok (.getfield 22, 3) := by decide +kernel
theorem d_Reducer_lessSub_230 : decode b_Reducer_lessSub 230 = .ok (.iload_n 2, 1) := by decide +kernel
theorem d_Reducer_lessSub_231 : decode b_Reducer_lessSub 231 = .ok (.invokevirtual 109, 3) := by decide +kernel
theorem d_Reducer_lessSub_234 : decode b_Reducer_lessSub 234 = .ok (.istore 6, 2) := by decide +kernel
theorem d_Reducer_lessSub_236 : decode b_Reducer_lessSub 236 = .ok (.aload_n 0, 1) := by decide +kernel
theorem d_Reducer_lessSub_237 : decode b_Reducer_lessSub 237 = .ok (.getfield 22, 3) := by decide +kernel
theorem d_Reducer_lessSub_240 : decode b_Reducer_lessSub 240 = .ok (.iload 5, 2) := by decide +kernel
theorem d_Reducer_lessSub_242 : decode b_Reducer_lessSub 242 = .ok (.invokevirtual 102, 3) := by decide +kernel
theorem d_Reducer_lessSub_245 : decode b_Reducer_lessSub 245 = .ok (.iconst 5, 1) := by decide +kernel
theorem d_Reducer_lessSub_246 : decode b_Reducer_lessSub 246 = .ok (.if_icmp .eq 16, 3) := by decide +kernel
theorem d_Reducer_lessSub_249 : decode b_Reducer_lessSub 249 = .ok (.aload_n 0, 1) := by decide +kernel
theorem d_Reducer_lessSub_250 : decode b_Reducer_lessSub 250 = .ok (.getfield 22, 3) := by decide +kernel
theorem d_Reducer_lessSub_253 : decode b_Reducer_lessSub 253 = .ok (.iload 6, 2) := by decide +kernel
theorem d_Reducer_lessSub_255 : decode b_Reducer_lessSub 255 = .ok (.invokevirtual 102, 3) := by decide +kernel
theorem d_Reducer_lessSub_258 : decode b_Reducer_lessSub 258 = .ok (.iconst 5, 1) := by decide +kernel
theorem d_Reducer_lessSub_259 : decode b_Reducer_lessSub 259 = .ok (.if_icmp .ne 19, 3) := by decide +kernel
theorem d_Reducer_lessSub_262 : decode b_Reducer_lessSub 262 = .ok (.iload 5, 2) := by decide +kernel
theorem d_Reducer_lessSub_264 : decode b_Reducer_lessSub 264 = .ok (.iload 6, 2) := by decide +kernel
theorem d_Reducer_lessSub_266 : decode b_Reducer_lessSub 266 = .ok (.if_icmp .ne 7, 3) := by decide +kernel
theorem d_Reducer_lessSub_269 : decode b_Reducer_lessSub 269 = .ok (.iconst 1, 1) := by decide +kernel
theorem d_Reducer_lessSub_270 : decode b_Reducer_lessSub 270 = .ok (.goto 4, 3) := by decide +kernel
theorem d_Reducer_lessSub_273 : decode b_Reducer_lessSub 273 = .ok (.iconst 0, 1) := by decide +kernel
theorem d_Reducer_lessSub_274 : decode b_Reducer_lessSub 274 = .ok (.invokestatic 116, 3) := by decide +kernel
theorem d_Reducer_lessSub_277 : decode b_Reducer_lessSub 277 = .ok (.ireturn, 1) := by decide +kernel
theorem d_Reducer_lessSub_278 : decode b_Reducer_lessSub 278 = .ok (.aload_n 0, 1) := by decide +kernel
theorem d_Reducer_lessSub_279 : decode b_Reducer_lessSub 279 = .ok (.iconst 1, 1) := by decide +kernel
theorem d_Reducer_lessSub_280 : decode b_Reducer_lessSub 280 = .ok (.iload 5, 2) := by decide +kernel
theorem d_Reducer_lessSub_282 : decode b_Reducer_lessSub 282 = .ok (.iload 6, 2) := by decide +kernel
theorem d_Reducer_lessSub_284 : decode b_Reducer_lessSub 284 = .ok (.invokevirtual 98, 3) := by decide +kernel
theorem d_Reducer_lessSub_287 : decode b_Reducer_lessSub 287 = .ok (.ireturn, 1) := by decide +kernel
theorem d_Reducer_lessSub_288 : decode b_Reducer_lessSub 288 = .ok (.aload_n 0, 1) := by decide +kernel
theorem d_Reducer_lessSub_289 : decode b_Reducer_lessSub 289 = .ok (.getfield 22, 3) := by decide +kernel
theorem d_Reducer_lessSub_292 : decode b_Reducer_lessSub 292 = .ok (.iload_n 2, 1) := by decide +kernel
theorem d_Reducer_lessSub_293 : decode b_Reducer_lessSub 293 = .ok (.iconst 2, 1) := by decide +kernel
theorem d_Reducer_lessSub_294 : decode b_Reducer_lessSub 294 = .ok (.invokevirtual 136, 3) := by decide +kernel
theorem d_Reducer_lessSub_297 : decode b_Reducer_lessSub 297 = .ok (.istore 5, 2) := by decide +kernel
theorem d_Reducer_lessSub_299 : decode b_Reducer_lessSub 299 = .ok (.iload 5, 2) := by decide +kernel
theorem d_Reducer_lessSub_301 : decode b_Reducer_lessSub 301 = .ok (.ifCond .lt 14, 3) := by decide +kernel
theorem d_Reducer_lessSub_304 : decode b_Reducer_lessSub 304 = .ok (.aload_n 0, 1) := by decide +kernel
theorem d_Reducer_lessSub_305 : decode b_Reducer_lessSub 305 = .ok (.iconst 1, 1) := by decide +kernel
theorem d_Reducer_lessSub_306 : decode b_Reducer_lessSub 306 = .ok (.iload_n 1, 1) := by decide +kernel
theorem d_Reducer_lessSub_307 : decode b_Reducer_lessSub 307 = .ok (.iload 5, 2) := by decide +kernel
theorem d_Reducer_lessSub_309 : decode b_Reducer_lessSub 309 = .ok (.invokevirtual 98, 3) := by decide +kernel
theorem d_Reducer_lessSub_312 : decode b_Reducer_lessSub 312 = .ok (.goto 4, 3) := by decide +kernel
theorem d_Reducer_lessSub_315 : decode b_Reducer_lessSub 315 = .ok (.iconst 0, 1) := by decide +kernel
theorem d_Reducer_lessSub_316 : decode b_Reducer_lessSub 316 = .ok (.ireturn, 1) := by decide +kernel
theorem d_Reducer_lessContained_0 : decode b_Reducer_lessContained 0 = .ok (.aload_n 0, 1) := by decide +kernel
theorem d_Reducer_lessContained_1 : decode b_Reducer_lessContained 1 = .ok (.getfield 22, 3) := by decide +kernel
theorem d_Reducer_lessContained_4 : decode b_Reducer_lessContained 4 = .ok (.iload_n 1, 1) := by decide +kernel
theorem d_Reducer_lessContained_5 : decode b_Reducer_lessContained 5 = .ok (.invokevirtual 102, 3) := by decide +kernel
theorem d_Reducer_lessContained_8 : decode b_Reducer_lessContained 8 = .ok (.iconst 2, 1) := by decide +kernel
theorem d_Reducer_lessContained_9 : decode b_Reducer_lessContained 9 = .ok (.if_icmp .ne 7, 3) := by decide +kernel
theorem d_Reducer_lessContained_12 : decode b_Reducer_lessContained 12 = .ok (.iconst 1, 1) := by decide +kernel
theorem d_Reducer_lessContained_13 : decode b_Reducer_lessContained 13 = .ok (.goto 4, 3) := by decide +kernel
theorem d_Reducer_lessContained_16 : decode b_Reducer_lessContained 16 = .ok (.iconst 0, 1) := by decide +kernel
theorem d_Reducer_lessContained_17 : decode b_Reducer_lessContained 17 = .ok (.istore_n 3, 1) := by decide +kernel
theorem d_Reducer_lessContained_18 : decode b_Reducer_lessContained 18 = .ok (.aload_n 0, 1) := by decide +kernel
theorem d_Reducer_lessContained_19 : decode b_Reducer_lessContained 19 = .ok (.getfield 22, 3) := by decide +kernel
theorem d_Reducer_lessContained_22 : decode b_Reducer_lessContained 22 = .ok (.iload_n 2, 1) := by decide +kernel
theorem d_Reducer_lessContained_23 : decode b_Reducer_lessContained 23 = .ok (.invokevirtual 102, 3) := by decide +kernel
theorem d_Reducer_lessContained_26 : decode b_Reducer_lessContained 26 = .ok (.iconst 2, 1) := by decide +kernel
theorem d_Reducer_lessContained_27 : decode b_Reducer_lessContained 27 = .ok (.if_icmp .eq 19, 3) := by decide +kernel
theorem d_Reducer_lessContained_30 : decode b_Reducer_lessContained 30 = .ok (.iload_n 3, 1) := by decide +kernel
theorem d_Reducer_lessContained_31 : decode b_Reducer_lessContained 31 = .ok (.ifCond .eq 7, 3) := by decide +kernel
theorem d_Reducer_lessContained_34 : decode b_Reducer_lessContained 34 = .ok (.iconst 0, 1) := by decide +kernel
theorem d_Reducer_lessContained_35 : decode b_Reducer_lessContained 35 = .ok (.goto 10, 3) := by decide +kernel
theorem d_Reducer_lessContained_38 : decode b_Reducer_lessContained 38 = .ok (.aload_n 0, 1) := by decide +kernel
theorem d_Reducer_lessContained_39 : decode b_Reducer_lessContained 39 = .ok (.iconst 3, 1) := by decide +kernel
theorem d_Reducer_lessContained_40 : decode b_Reducer_lessContained 40 = .ok (.iload_n 1, 1) := by decide +kernel
theorem d_Reducer_lessContained_41 : decode b_Reducer_lessContained 41 = .ok (.iload_n 2, 1) := by decide +kernel
theorem d_Reducer_lessContained_42 : decode b_Reducer_lessContained 42 = .ok (.invokevirtual 98, 3) := by decide +kernel
theorem d_Reducer_lessContained_45 : decode b_Reducer_lessContained 45 = .ok (.ireturn, 1) := by decide +kernel
theorem d_Reducer_lessContained_46 : decode b_Reducer_lessContained 46 = .ok (.aload_n 0, 1) := by decide +kernel
theorem d_Reducer_lessContained_47 : decode b_Reducer_lessContained 47 = .ok (.getfield 22, 3) := by decide +kernel
theorem d_Reducer_lessContained_50 : decode b_Reducer_lessContained 50 = .ok (.iload_n 2, 1) := by decide +kernel
theorem d_Reducer_lessContained_51 : decode b_Reducer_lessContained 51 = .ok (.invokevirtual 109, 3) := by decide +kernel
theorem d_Reducer_lessContained_54 : decode b_Reducer_lessContained 54 = .ok (.istore 4, 2) := by decide +kernel
theorem d_Reducer_lessContained_56 : decode b_Reducer_lessContained 56 = .ok (.aload_n 0, 1) := by decide +kernel
theorem d_Reducer_lessContained_57 : decode b_Reducer_lessContained 57 = .ok (.getfield 22, 3) := by decide +kernel
theorem d_Reducer_lessContained_60 : decode b_Reducer_lessContained 60 = .ok (.iload_n 2, 1) := by decide +kernel
theorem d_Reducer_lessContained_61 : decode b_Reducer_lessContained 61 = .ok (.invokevirtual 139, 3) := by decide +kernel
theorem d_Reducer_lessContained_64 : decode b_Reducer_lessContained 64 = .ok (.istore 5, 2) := by decide +kernel
theorem d_Reducer_lessContained_66 : decode b_Reducer_lessContained 66 = .ok (.iload 4, 2) := by decide +kernel
theorem d_Reducer_lessContained_68 : decode b_Reducer_lessContained 68 = .ok (.ifCond .ne 5, 3) := by decide +kernel
theorem d_Reducer_lessContained_71 : decode b_Reducer_lessContained 71 = .ok (.iconst 1, 1) := by decide +kernel
theorem d_Reducer_lessContained_72 : decode b_Reducer_lessContained 72 = .ok (.ireturn, 1) := by decide +kernel
theorem d_Reducer_lessContained_73 : decode b_Reducer_lessContained 73 = .ok (.iload_n 3, 1) := by decide +kernel
theorem d_Reducer_lessContained_74 : decode b_Reducer_lessContained 74 = .ok (.ifCond .eq 14, 3) := by decide +kernel
theorem d_Reducer_lessContained_77 : decode b_Reducer_lessContained 77 = .ok (.aload_n 0, 1) := by decide +kernel
theorem d_Reducer_lessContained_78 : decode b_Reducer_lessContained 78 = .ok (.getfield 22, 3) := by decide +kernel
theorem d_Reducer_lessContained_81 : decode b_Reducer_lessContained 81 = .ok (.iload_n 1, 1) := by decide +kernel
theorem d_Reducer_lessContained_82 : decode b_Reducer_lessContained 82 = .ok (.invokevirtual 109, 3) := by decide +kernel
theorem d_Reducer_lessContained_85 : decode b_Reducer_lessContained 85 = .ok (.goto 4, 3) := by decide +kernel
theorem d_Reducer_lessContained_88 : decode b_Reducer_lessContained 88 = .ok (.iconst (-1), 1) := by decide +kernel
theorem d_Reducer_lessContained_89 : decode b_Reducer_lessContained 89 = .ok (.istore 6, 2) := by decide +kernel
theorem d_Reducer_lessContained_91 : decode b_Reducer_lessContained 91 = .ok (.iload 4, 2) := by decide +kernel
theorem d_Reducer_lessContained_93 : decode b_Reducer_lessContained 93 = .ok (.iconst 1, 1) := by decide +kernel
theorem d_Reducer_lessContained_94 : decode b_Reducer_lessContained 94 = .ok (.if_icmp .ne 66, 3) := by decide +kernel
theorem d_Reducer_lessContained_97 : decode b_Reducer_lessContained 97 = .ok (.iload_n 3, 1) := by decide +kernel
theorem d_Reducer_lessContained_98 : decode b_Reducer_lessContained 98 = .ok (.ifCond .ne 12, 3) := by decide +kernel
theorem d_Reducer_lessContained_101 : decode b_Reducer_lessContained 101 = .ok (.aload_n 0, 1) := by decide +kernel
theorem d_Reducer_lessContained_102 : decode b_Reducer_lessContained 102 = .ok (.iconst 1, 1) := by decide +kernel
theorem d_Reducer_lessContained_103 : decode b_Reducer_lessContained 103 = .ok (.iload_n 1, 1) := by decide +kernel
theorem d_Reducer_lessContained_104 : decode b_Reducer_lessContained 104 = .ok (.iload 5, 2) := by decide +kernel
theorem d_Reducer_lessContained_106 : decode b_Reducer_lessContained 106 = .ok (.invokevirtual 98, 3) := by decide +kernel
theorem d_Reducer_lessContained_109 : decode b_Reducer_lessContained 109 = .ok (.ireturn, 1) := by decide +kernel
theorem d_Reducer_lessContained_110 : decode b_Reducer_lessContained 110 = .ok (.iload 6, 2) := by decide +kernel
theorem d_Reducer_lessContained_112 : decode b_Reducer_lessContained 112 = .ok (.iconst 1, 1) := by decide +kernel
theorem d_Reducer_lessContained_113 : decode b_Reducer_lessContained 113 = .ok (.if_icmp .ne 19, 3) := by decide +kernel
theorem d_Reducer_lessContained_116 : decode b_Reducer_lessContained 116 = .ok (.aload_n 0, 1) := by decide +kernel
theorem d_Reducer_lessContained_117 : decode b_Reducer_lessContained 117 = .ok (.iconst 1, 1) := by decide +kernel
theorem d_Reducer_lessContained_118 : decode b_Reducer_lessContained 118 = .ok (.aload_n 0, 1) := by decide +kernel
theorem d_Reducer_lessContained_119 : decode b_Reducer_lessContained 119 = .ok (.getfield 22, 3) := by decide +kernel
theorem d_Reducer_lessContained_122 : decode b_Reducer_lessContained 122 = .ok (.iload_n 1, 1) := by decide +kernel
theorem d_Reducer_lessContained_123 : decode b_Reducer_lessContained 123 = .ok (.invokevirtual 139, 3) := by decide +kernel
theorem d_Reducer_lessContained_126 : decode b_Reducer_lessContained 126 = .ok (.iload 5, 2) := by decide +kernel
theorem d_Reducer_lessContained_128 : decode b_Reducer_lessContained 128 = .ok (.invokevirtual 98, 3) := by decide +kernel
theorem d_Reducer_lessContained_131 : decode b_Reducer_lessContained 131 = .ok (.ireturn, 1) := by decide +kernel
theorem d_Reducer_lessContained_132 : decode b_Reducer_lessContained 132 = .ok (.aload_n 0, 1) := by decide +kernel
theorem d_Reducer_lessContained_133 : decode b_Reducer_lessContained 133 = .ok (.iload 6, 2) := by decide +kernel
theorem d_Reducer_lessContained_135 : decode b_Reducer_lessContained 135 = .ok (.ifCond .ne 7, 3) := by decide +kernel
theorem d_Reducer_lessContained_138 : decode b_Reducer_lessContained 138 = .ok (.iconst 1, 1) := by decide +kernel
theorem d_Reducer_lessContained_139 : decode b_Reducer_lessContained 139 = .ok (.goto 4, 3) := by decide +kernel
theorem d_Reducer_lessContained_142 : decode b_Reducer_lessContained 142 = .ok (.iconst 3, 1) := by decide +kernel
theorem d_Reducer_lessContained_143 : decode b_Reducer_lessContained 143 = .ok (.aload_n 0, 1) := by decide +kernel
theorem d_Reducer_lessContained_144 : decode b_Reducer_lessContained 144 = .ok (.getfield 22, 3) := by decide +kernel
theorem d_Reducer_lessContained_147 : decode b_Reducer_lessContained 147 = .ok (.iconst 0, 1) := by decide +kernel
theorem d_Reducer_lessContained_148 : decode b_Reducer_lessContained 148 = .ok (.iconst 0, 1) := by decide +kernel
theorem d_Reducer_lessContained_149 : decode b_Reducer_lessContained 149 = .ok (.iconst (-1), 1) := by decide +kernel
theorem d_Reducer_lessContained_150 : decode b_Reducer_lessContained 150 = .ok (.iconst (-1), 1) := by decide +kernel
theorem d_Reducer_lessContained_151 : decode b_Reducer_lessContained 151 = .ok (.invokevirtual 142, 3) := by decide +kernel
theorem d_Reducer_lessContained_154 : decode b_Reducer_lessContained 154 = .ok (.iload 5, 2) := by decide +kernel
theorem d_Reducer_lessContained_156 : decode b_Reducer_lessContained 156 = .ok (.invokevirtual 98, 3) := by decide +kernel
theorem d_Reducer_lessContained_159 : decode b_Reducer_lessContained 159 = .ok (.ireturn, 1) := by decide +kernel
theorem d_Reducer_lessContained_160 : decode b_Reducer_lessContained 160 = .ok (.iload_n 3, 1) := by decide +kernel
theorem d_Reducer_lessContained_161 : decode b_Reducer_lessContained 161 = .ok (.ifCond .ne 12, 3) := by decide +kernel
theorem d_Reducer_lessContained_164 : decode b_Reducer_lessContained 164 = .ok (.aload_n 0, 1) := by decide +kernel
theorem d_Reducer_lessContained_165 : decode b_Reducer_lessContained 165 = .ok (.iconst 1, 1) := by decide +kernel
theorem d_Reducer_lessContained_166 : decode b_Reducer_lessContained 166 = .ok (.iload 5, 2) := by decide +kernel
theorem d_Reducer_lessContained_168 : decode b_Reducer_lessContained 168 = .ok (.iload_n 1, 1) := by decide +kernel
theorem d_Reducer_lessContained_169 : decode b_Reducer_lessContained 169 = .ok (.invokevirtual 98, 3) := by decide +kernel
theorem d_Reducer_lessContained_172 : decode b_Reducer_lessContained 172 = .ok (.ireturn, 1) := by decide +kernel
theorem d_Reducer_lessContained_173 : decode b_Reducer_lessContained 173 = .ok (.iload 6, 2) := by decide +kernel
theorem d_Reducer_lessContained_175 : decode b_Reducer_lessContained 175 = .ok (.iconst 2, 1) := by decide +kernel
theorem d_Reducer_lessContained_176 : decode b_Reducer_lessContained 176 = .ok (.if_icmp .ne 21, 3) := by decide +kernel
theorem d_Reducer_lessContained_179 : decode b_Reducer_lessContained 179 = .ok (.aload_n 0, 1) := by decide +kernel
theorem d_Reducer_lessContained_180 : decode b_Reducer_lessContained 180 = .ok (.iconst 1, 1) := by decide +kernel
theorem d_Reducer_lessContained_181 : decode b_Reducer_lessContained 181 = .ok (.iload 5, 2) := by decide +kernel
theorem d_Reducer_lessContained_183 : decode b_Reducer_lessContained 183 = .ok (.aload_n 0, 1) := by decide +kernel
theorem d_Reducer_lessContained_184 : decode b_Reducer_lessContained 184 = .ok (.getfield 22, 3) := by decide +kernel
theorem d_Reducer_lessContained_187 : decode b_Reducer_lessContained 187 = .ok (.iload_n 1, 1) := by decide +kernel
theorem d_Reducer_lessContained_188 : decode b_Reducer_lessContained 188 = .ok (.invokevirtual 139, 3) := by decide +kernel
theorem d_Reducer_lessContained_191 : decode b_Reducer_lessContained 191 = .ok (.invokevirtual 98, 3) := by decide +kernel
theorem d_Reducer_lessContained_194 : decode b_Reducer_lessContained 194 = .ok (.goto 4, 3) := by decide +kernel
theorem d_Reducer_lessContained_197 : decode b_Reducer_lessContained 197 = .ok (.iconst 0, 1) := by decide +kernel
theorem d_Reducer_lessContained_198 : decode b_Reducer_lessContained 198 = .ok (.ireturn, 1) := by decide +kernel
theorem d_Reducer_lessEqual_0 : decode b_Reducer_lessEqual 0 = .ok (.iload_n 1, 1) := by decide +kernel
theorem d_Reducer_lessEqual_1 : decode b_Reducer_lessEqual 1 = .ok (.iload_n 2, 1) := by decide +kernel
theorem d_Reducer_lessEqual_2 : decode b_Reducer_lessEqual 2 = .ok (.if_icmp .ne 5, 3) := by decide +kernel
theorem d_Reducer_lessEqual_5 : decode b_Reducer_lessEqual 5 = .ok (.iconst 1, 1) := by decide +kernel
theorem d_Reducer_lessEqual_6 : decode b_Reducer_lessEqual 6 = .ok (.ireturn, 1) := by decide +kernel
theorem d_Reducer_lessEqual_7 : decode b_Reducer_lessEqual 7 = .ok (.aload_n 0, 1) := by decide +kernel
theorem d_Reducer_lessEqual_8 : decode b_Reducer_lessEqual 8 = .ok (.getfield 22, 3) := by decide +kernel
theorem d_Reducer_lessEqual_11 : decode b_Reducer_lessEqual 11 = .ok (.iload_n 1, 1) := by decide +kernel
theorem d_Reducer_lessEqual_12 : decode b_Reducer_lessEqual 12 = .ok (.invokevirtual 105, 3) := by decide +kernel
theorem d_Reducer_lessEqual_15 : decode b_Reducer_lessEqual 15 = .ok (.ifCond .eq 16, 3) := by decide +kernel
theorem d_Reducer_lessEqual_18 : decode b_Reducer_lessEqual 18 = .ok (.aload_n 0, 1) := by decide +kernel
theorem d_Reducer_lessEqual_19 : decode b_Reducer_lessEqual 19 = .ok (.getfield 22, 3) := by decide +kernel
theorem d_Reducer_lessEqual_22 : decode b_Reducer_lessEqual 22 = .ok (.iload_n 2, 1) := by decide +kernel
theorem d_Reducer_lessEqual_23 : decode b_Reducer_lessEqual 23 = .ok (.invokevirtual 105, 3) := by decide +kernel
theorem d_Reducer_lessEqual_26 : decode b_Reducer_lessEqual 26 = .ok (.ifCond .eq 5, 3) := by decide +kernel
theorem d_Reducer_lessEqual_29 : decode b_Reducer_lessEqual 29 = .ok (.iconst 0, 1) := by decide +kernel
theorem d_Reducer_lessEqual_30 : decode b_Reducer_lessEqual 30 = .ok (.ireturn, 1) := by decide +kernel
theorem d_Reducer_lessEqual_31 : decode b_Reducer_lessEqual 31 = .ok (.aload_n 0, 1) := by decide +kernel
theorem d_Reducer_lessEqual_32 : decode b_Reducer_lessEqual 32 = .ok (.getfield 22, 3) := by decide +kernel
theorem d_Reducer_lessEqual_35 : decode b_Reducer_lessEqual 35 = .ok (.iload_n 1, 1) := by decide +kernel
theorem d_Reducer_lessEqual_36 : decode b_Reducer_lessEqual 36 = .ok (.invokevirtual 102, 3) := by decide +kernel
theorem d_Reducer_lessEqual_39 : decode b_Reducer_lessEqual 39 = .ok (.istore_n 3, 1) := by decide +kernel
theorem d_Reducer_lessEqual_40 : decode b_Reducer_lessEqual 40 = .ok (.aload_n 0, 1) := by decide +kernel
theorem d_Reducer_lessEqual_41 : decode b_Reducer_lessEqual 41 = .ok (.getfield 22, 3) := by decide +kernel
theorem d_Reducer_lessEqual_44 : decode b_Reducer_lessEqual 44 = .ok (.iload_n 2, 1) := by decide +kernel
theorem d_Reducer_lessEqual_45 : decode b_Reducer_lessEqual 45 = .ok (.invokevirtual 102, 3) := by decide +kernel
theorem d_Reducer_lessEqual_48 : decode b_Reducer_lessEqual 48 = .ok (.istore 4, 2) := by decide +kernel
theorem d_Reducer_lessEqual_50 : decode b_Reducer_lessEqual 50 = .ok (.iload_n 3, 1) := by decide +kernel
theorem d_Reducer_lessEqual_51 : decode b_Reducer_lessEqual 51 = .ok (.bipush 6, 2) := by decide +kernel
theorem d_Reducer_lessEqual_53 : decode b_Reducer_lessEqual 53 = .ok (.if_icmp .eq 21, 3) := by decide +kernel
theorem d_Reducer_lessEqual_56 : decode b_Reducer_lessEqual 56 = .ok (.iload_n 3, 1) := by decide +kernel
theorem d_Reducer_lessEqual_57 : decode b_Reducer_lessEqual 57 = .ok (.iconst 5, 1) := by decide +kernel
theorem d_Reducer_lessEqual_58 : decode b_Reducer_lessEqual 58 = .ok (.if_icmp .eq 16, 3) := by decide +kernel
theorem d_Reducer_lessEqual_61 : decode b_Reducer_lessEqual 61 = .ok (.iload 4, 2) := by decide +kernel
theorem d_Reducer_lessEqual_63 : decode b_Reducer_lessEqual 63 = .ok (.bipush 6, 2) := by decide +kernel
theorem d_Reducer_lessEqual_65 : decode b_Reducer_lessEqual 65 = .ok (.if_icmp .eq 9, 3) := by decide +kernel
theorem d_Reducer_lessEqual_68 : decode b_Reducer_lessEqual 68 = .ok (.iload 4, 2) := by decide +kernel
theorem d_Reducer_lessEqual_70 : decode b_Reducer_lessEqual 70 = .ok (.iconst 5, 1) := by decide +kernel
theorem d_Reducer_lessEqual_71 : decode b_Reducer_lessEqual 71 = .ok (.if_icmp .ne 5, 3) := by decide +kernel
theorem d_Reducer_lessEqual_74 : decode b_Reducer_lessEqual 74 = .ok (.iconst 0, 1) := by decide +kernel
theorem d_Reducer_lessEqual_75 : decode b_Reducer_lessEqual 75 = .ok (.ireturn, 1) := by decide +kernel
theorem d_Reducer_lessEqual_76 : decode b_Reducer_lessEqual 76 = .ok (.iload_n 3, 1) := by decide +kernel
theorem d_Reducer_lessEqual_77 : decode b_Reducer_lessEqual 77 = .ok (.bipush 7, 2) := by decide +kernel
theorem d_Reducer_lessEqual_79 : decode b_Reducer_lessEqual 79 = .ok (.if_icmp .eq 10, 3) := by decide +kernel
theorem d_Reducer_lessEqual_82 : decode b_Reducer_lessEqual 82 = .ok (.iload 4, 2) := by decide +kernel
theorem d_Reducer_lessEqual_84 : decode b_Reducer_lessEqual 84 = .ok (.bipush 7, 2) := by decide +kernel
theorem d_Reducer_lessEqual_86 : decode b_Reducer_lessEqual 86 = .ok (.if_icmp .ne 12, 3) := by decide +kernel
theorem d_Reducer_lessEqual_89 : decode b_Reducer_lessEqual 89 = .ok (.aload_n 0, 1) := by decide +kernel
theorem d_Reducer_lessEqual_90 : decode b_Reducer_lessEqual 90 = .ok (.iconst 0, 1) := by decide +kernel
theorem d_Reducer_lessEqual_91 : decode b_Reducer_lessEqual 91 = .ok (.iconst 0, 1) := by decide +kernel
theorem d_Reducer_lessEqual_92 : decode b_Reducer_lessEqual 92 = .ok (.iload_n 1, 1) := by decide +kernel
theorem d_Reducer_lessEqual_93 : decode b_Reducer_lessEqual 93 = .ok (.iload_n 2, 1) := by decide +kernel
theorem d_Reducer_lessEqual_94 : decode b_Reducer_lessEqual 94 = .ok (.invokevirtual 129, 3) := by decide +kernel
theorem d_Reducer_lessEqual_97 : decode b_Reducer_lessEqual 97 = .ok (.ireturn, 1) := by decide +kernel
theorem d_Reducer_lessEqual_98 : decode b_Reducer_lessEqual 98 = .ok (.iload_n 3, 1) := by decide +kernel
theorem d_Reducer_lessEqual_99 : decode b_Reducer_lessEqual 99 = .ok (.iload 4, 2) := by decide +kernel
theorem d_Reducer_lessEqual_101 : decode b_Reducer_lessEqual 101 = .ok (.if_icmp .eq 5, 3) := by decide +kernel
theorem d_Reducer_lessEqual_104 : decode b_Reducer_lessEqual 104 = .ok (.iconst 0, 1) := by decide +kernel
theorem d_Reducer_lessEqual_105 : decode b_Reducer_lessEqual 105 = .ok (.ireturn, 1) := by decide +kernel
theorem d_Reducer_lessEqual_106 : decode b_Reducer_lessEqual 106 = .ok (.aload_n 0, 1) := by decide +kernel
theorem d_Reducer_lessEqual_107 : decode b_Reducer_lessEqual 107 = .ok (.getfield 22, 3) := by decide +kernel
theorem d_Reducer_lessEqual_110 : decode b_Reducer_lessEqual 110 = .ok (.iload_n 1, 1) := by decide +kernel
theorem d_Reducer_lessEqual_111 : decode b_Reducer_lessEqual 111 = .ok (.invokevirtual 109, 3) := by decide +kernel
theorem d_Reducer_lessEqual_114 : decode b_Reducer_lessEqual 114 = .ok (.istore 5, 2) := by decide +kernel
theorem d_Reducer_lessEqual_116 : decode b_Reducer_lessEqual 116 = .ok (.aload_n 0, 1) := by decide +kernel
theorem d_Reducer_lessEqual_117 : decode b_Reducer_lessEqual 117 = .ok (.getfield 22, 3) := by decide +kernel
theorem d_Reducer_lessEqual_120 : decode b_Reducer_lessEqual 120 = .ok (.iload_n 2, 1) := by decide +kernel
theorem d_Reducer_lessEqual_121 : decode b_Reducer_lessEqual 121 = .ok (.invokevirtual 109, 3) := by decide +kernel
theorem d_Reducer_lessEqual_124 : decode b_Reducer_lessEqual 124 = .ok (.istore 6, 2) := by decide +kernel
theorem d_Reducer_lessEqual_126 : decode b_Reducer_lessEqual 126 = .ok (.iload_n 3, 1) := by decide +kernel
theorem d_Reducer_lessEqual_127 : decode b_Reducer_lessEqual 127 = .ok (.iconst 1, 1) := by decide +kernel
theorem d_Reducer_lessEqual_128 : decode b_Reducer_lessEqual 128 = .ok (.if_icmp .ne 22, 3) := by decide +kernel
theorem d_Reducer_lessEqual_131 : decode b_Reducer_lessEqual 131 = .ok (.iload 5, 2) := by decide +kernel
theorem d_Reducer_lessEqual_133 : decode b_Reducer_lessEqual 133 = .ok (.iload 6, 2) := by decide +kernel
theorem d_Reducer_lessEqual_135 : decode b_Reducer_lessEqual 135 = .ok (.if_icmp .ne 13, 3) := by decide +kernel
theorem d_Reducer_lessEqual_138 : decode b_Reducer_lessEqual 138 = .ok (.aload_n 0, 1) := by decide +kernel
theorem d_Reducer_lessEqual_139 : decode b_Reducer_lessEqual 139 = .ok (.iconst 3, 1) := by decide +kernel
theorem d_Reducer_lessEqual_140 : decode b_Reducer_lessEqual 140 = .ok (.iload_n 1, 1) := by decide +kernel
theorem d_Reducer_lessEqual_141 : decode b_Reducer_lessEqual 141 = .ok (.iload_n 2, 1) := by decide +kernel
theorem d_Reducer_lessEqual_142 : decode b_Reducer_lessEqual 142 = .ok (.invokevirtual 133, 3) := by decide +kernel
theorem d_Reducer_lessEqual_145 : decode b_Reducer_lessEqual 145 = .ok (.goto 4, 3) := by decide +kernel
theorem d_Reducer_lessEqual_148 : decode b_Reducer_lessEqual 148 = .ok (.iconst 0, 1) := by decide +kernel
theorem d_Reducer_lessEqual_149 : decode b_Reducer_lessEqual 149 = .ok (.ireturn, 1) := by decide +kernel
theorem d_Reducer_lessEqual_150 : decode b_Reducer_lessEqual 150 = .ok (.iload_n 3, 1) := by decide +kernel
theorem d_Reducer_lessEqual_151 : decode b_Reducer_lessEqual 151 = .ok (.iconst 4, 1) := by decide +kernel
theorem d_Reducer_lessEqual_152 : decode b_Reducer_lessEqual 152 = .ok (.if_icmp .ne 13, 3) := by decide +kernel
theorem d_Reducer_lessEqual_155 : decode b_Reducer_lessEqual 155 = .ok (.aload_n 0, 1) := by decide +kernel
theorem d_Reducer_lessEqual_156 : decode b_Reducer_lessEqual 156 = .ok (.iconst 3, 1) := by decide +kernel
theorem d_Reducer_lessEqual_157 : decode b_Reducer_lessEqual 157 = .ok (.iload 5, 2) := by decide +kernel
theorem d_Reducer_lessEqual_159 : decode b_Reducer_lessEqual 159 = .ok (.iload 6, 2) := by decide +kernel
theorem d_Reducer_lessEqual_161 : decode b_Reducer_lessEqual 161 = .ok (.invokevirtual 98, 3) := by decide +kernel
theorem d_Reducer_lessEqual_164 : decode b_Reducer_lessEqual 164 = .ok (.ireturn, 1) := by decide +kernel
theorem d_Reducer_lessEqual_165 : decode b_Reducer_lessEqual 165 = .ok (.aload_n 0, 1) := by decide +kernel
theorem d_Reducer_lessEqual_166 : decode b_Reducer_lessEqual 166 = .ok (.getfield 22, 3) := by decide +kernel
theorem d_Reducer_lessEqual_169 : decode b_Reducer_lessEqual 169 = .ok (.iload_n 1, 1) := by decide +kernel
theorem d_Reducer_lessEqual_170 : decode b_Reducer_lessEqual 170 = .ok (.invokevirtual 139, 3) := by decide +kernel
theorem d_Reducer_lessEqual_173 : decode b_Reducer_lessEqual 173 = .ok (.istore 7, 2) := by decide +kernel
theorem d_Reducer_lessEqual_175 : decode b_Reducer_lessEqual 175 = .ok (.aload_n 0, 1) := by decide +kernel
theorem d_Reducer_lessEqual_176 : decode b_Reducer_lessEqual 176 = .ok (.getfield 22, 3) := by decide +kernel
theorem d_Reducer_lessEqual_179 : decode b_Reducer_lessEqual 179 = .ok (.iload_n 2, 1) := by decide +kernel
theorem d_Reducer_lessEqual_180 : decode b_Reducer_lessEqual 180 = .ok (.invokevirtual 139, 3) := by decide +kernel
theorem d_Reducer_lessEqual_183 : decode b_Reducer_lessEqual 183 = .ok (.istore 8, 2) := by decide +kernel
theorem d_Reducer_lessEqual_185 : decode b_Reducer_lessEqual 185 = .ok (.iload_n 3, 1) := by decide +kernel
theorem d_Reducer_lessEqual_186 : decode b_Reducer_lessEqual 186 = .ok (.bipush 8, 2) := by decide +kernel
theorem d_Reducer_lessEqual_188 : decode b_Reducer_lessEqual 188 = .ok (.if_icmp .ne 24, 3) := by decide +kernel
theorem d_Reducer_lessEqual_191 : decode b_Reducer_lessEqual 191 = .ok (.iload 7, 2) := by decide +kernel
theorem d_Reducer_lessEqual_193 : decode b_Reducer_lessEqual 193 = .ok (.iload 8, 2) := by decide +kernel
theorem d_Reducer_lessEqual_195 : decode b_Reducer_lessEqual 195 = .ok (.if_icmp .ne 15, 3) := by decide +kernel
theorem d_Reducer_lessEqual_198 : decode b_Reducer_lessEqual 198 = .ok (.aload_n 0, 1) := by decide +kernel
theorem d_Reducer_lessEqual_199 : decode b_Reducer_lessEqual 199 = .ok (.iconst 3, 1) := by decide +kernel
theorem d_Reducer_lessEqual_200 : decode b_Reducer_lessEqual 200 = .ok (.iload 5, 2) := by decide +kernel
theorem d_Reducer_lessEqual_202 : decode b_Reducer_lessEqual 202 = .ok (.iload 6, 2) := by decide +kernel
theorem d_Reducer_lessEqual_204 : decode b_Reducer_lessEqual 204 = .ok (.invokevirtual 98, 3) := by decide +kernel
theorem d_Reducer_lessEqual_207 : decode b_Reducer_lessEqual 207 = .ok (.goto 4, 3) := by decide +kernel
theorem d_Reducer_lessEqual_210 : decode b_Reducer_lessEqual 210 = .ok (.iconst 0, 1) := by decide +kernel
theorem d_Reducer_lessEqual_211 : decode b_Reducer_lessEqual 211 = .ok (.ireturn, 1) := by decide +kernel
theorem d_Reducer_lessEqual_212 : decode b_Reducer_lessEqual 212 = .ok (.iload_n 3, 1) := by decide +kernel
theorem d_Reducer_lessEqual_213 : decode b_Reducer_lessEqual 213 = .ok (.iconst 2, 1) := by decide +kernel
theorem d_Reducer_lessEqual_214 : decode b_Reducer_lessEqual 214 = .ok (.if_icmp .ne 22, 3) := by decide +kernel
theorem d_Reducer_lessEqual_217 : decode b_Reducer_lessEqual 217 = .ok (.iload 5, 2) := by decide +kernel
theorem d_Reducer_lessEqual_219 : decode b_Reducer_lessEqual 219 = .ok (.iload 6, 2) := by decide +kernel
theorem d_Reducer_lessEqual_221 : decode b_Reducer_lessEqual 221 = .ok (.if_icmp .ne 15, 3) := by decide +kernel
theorem d_Reducer_lessEqual_224 : decode b_Reducer_lessEqual 224 = .ok (.aload_n 0, 1) := by decide +kernel
theorem d_Reducer_lessEqual_225 : decode b_Reducer_lessEqual 225 = .ok (.iconst 3, 1) := by decide +kernel
theorem d_Reducer_lessEqual_226 : decode b_Reducer_lessEqual 226 = .ok (.iload 7, 2) := by decide +kernel
theorem d_Reducer_lessEqual_228 : decode b_Reducer_lessEqual 228 = .ok (.iload 8, 2) := by decide +kernel
theorem d_Reducer_lessEqual_230 : decode b_Reducer_lessEqual 230 = .ok (.invokevirtual 98, 3) := by decide +kernel
theorem d_Reducer_lessEqual_233 : decode b_Reducer_lessEqual 233 = .ok (.goto 4, 3) := by decide +kernel
theorem d_Reducer_lessEqual_236 : decode b_Reducer_lessEqual 236 = .ok (.iconst 0, 1) := by decide +kernel
theorem d_Reducer_lessEqual_237 : decode b_Reducer_lessEqual 237 = .ok (.ireturn, 1) := by decide +kernel
end
section
theorem d_Reducer_bind_0 : decode b_Reducer_bind 0 = .ok (.iconst 1, 1) := by decide +kernel
theorem d_Reducer_bind_1 : decode b_Reducer_bind 1 = .ok (.istore 5, 2) := by decide +kernel
theorem d_Reducer_bind_3 : decode b_Reducer_bind 3 = .ok (.aload_n 0, 1) := by decide +kernel
theorem d_Reducer_bind_4 : decode b_Reducer_bind 4 = .ok (.getfield 22, 3) := by decide +kernel
theorem d_Reducer_bind_7 : decode b_Reducer_bind 7 = .ok (.iload_n 3, 1) := by decide +kernel
theorem d_Reducer_bind_8 : decode b_Reducer_bind 8 = .ok (.invokevirtual 102, 3) := by decide +kernel
theorem d_Reducer_bind_11 : decode b_Reducer_bind 11 = .ok (.bipush 7, 2) := by decide +kernel
theorem d_Reducer_bind_13 : decode b_Reducer_bind 13 = .ok (.if_icmp .ne 27, 3) := by decide +kernel
theorem d_Reducer_bind_16 : decode b_Reducer_bind 16 = .ok (.aload_n 0, 1) := by decide +kernel
theorem d_Reducer_bind_17 : decode b_Reducer_bind 17 = .ok (.getfield 26, 3) := by decide +kernel
theorem d_Reducer_bind_20 : decode b_Reducer_bind 20 = .ok (.iload_n 1, 1) := by decide +kernel
theorem d_Reducer_bind_21 : decode b_Reducer_bind 21 = .ok (.aload_n 0, 1) := by decide +kernel
theorem d_Reducer_bind_22 : decode b_Reducer_bind 22 = .ok (.getfield 22, 3) := by decide +kernel
theorem d_Reducer_bind_25 : decode b_Reducer_bind 25 = .ok (.iload_n 3, 1) := by decide +kernel
theorem d_Reducer_bind_26 : decode b_Reducer_bind 26 = .ok (.invokevirtual 109, 3) := by decide +kernel
theorem d_Reducer_bind_29 : decode b_Reducer_bind 29 = .ok (.iload 4, 2) := by decide +kernel
theorem d_Reducer_bind_31 : decode b_Reducer_bind 31 = .ok (.aload_n 0, 1) := by decide +kernel
theorem d_Reducer_bind_32 : decode b_Reducer_bind 32 = .ok (.getfield 41, 3) := by decide +kernel
theorem d_Reducer_bind_35 : decode b_Reducer_bind 35 = .ok (.invokevirtual 145, 3) := by decide +kernel
theorem d_Reducer_bind_38 : decode b_Reducer_bind 38 = .ok (.istore 5, 2) := by decide +kernel
theorem d_Reducer_bind_40 : decode b_Reducer_bind 40 = .ok (.iload 5, 2) := by decide +kernel
theorem d_Reducer_bind_42 : decode b_Reducer_bind 42 = .ok (.iconst 1, 1) := by decide +kernel
theorem d_Reducer_bind_43 : decode b_Reducer_bind 43 = .ok (.if_icmp .ne 41, 3) := by decide +kernel
theorem d_Reducer_bind_46 : decode b_Reducer_bind 46 = .ok (.aload_n 0, 1) := by decide +kernel
theorem d_Reducer_bind_47 : decode b_Reducer_bind 47 = .ok (.getfield 22, 3) := by decide +kernel
theorem d_Reducer_bind_50 : decode b_Reducer_bind 50 = .ok (.iload 4, 2) := by decide +kernel
theorem d_Reducer_bind_52 : decode b_Reducer_bind 52 = .ok (.invokevirtual 102, 3) := by decide +kernel
theorem d_Reducer_bind_55 : decode b_Reducer_bind 55 = .ok (.bipush 7, 2) := by decide +kernel
theorem d_Reducer_bind_57 : decode b_Reducer_bind 57 = .ok (.if_icmp .ne 27, 3) := by decide +kernel
theorem d_Reducer_bind_60 : decode b_Reducer_bind 60 = .ok (.aload_n 0, 1) := by decide +kernel
theorem d_Reducer_bind_61 : decode b_Reducer_bind 61 = .ok (.getfield 26, 3) := by decide +kernel
theorem d_Reducer_bind_64 : decode b_Reducer_bind 64 = .ok (.iload_n 2, 1) := by decide +kernel
theorem d_Reducer_bind_65 : decode b_Reducer_bind 65 = .ok (.aload_n 0, 1) := by decide +kernel
theorem d_Reducer_bind_66 : decode b_Reducer_bind 66 = .ok (.getfield 22, 3) := by decide +kernel
theorem d_Reducer_bind_69 : decode b_Reducer_bind 69 = .ok (.iload 4, 2) := by decide +kernel
theorem d_Reducer_bind_71 : decode b_Reducer_bind 71 = .ok (.invokevirtual 109, 3) := by decide +kernel
theorem d_Reducer_bind_74 : decode b_Reducer_bind 74 = .ok (.iload_n 3, 1) := by decide +kernel
theorem d_Reducer_bind_75 : decode b_Reducer_bind 75 = .ok (.aload_n 0, 1) := by decide +kernel
theorem d_Reducer_bind_76 : decode b_Reducer_bind 76 = .ok (.getfield 41, 3) := by decide +kernel
theorem d_Reducer_bind_79 : decode b_Reducer_bind 79 = .ok (.invokevirtual 145, 3) := by decide +kernel
theorem d_Reducer_bind_82 : decode b_Reducer_bind 82 = .ok (.istore 5, 2) := by decide +kernel
theorem d_Reducer_bind_84 : decode b_Reducer_bind 84 = .ok (.iload 5, 2) := by decide +kernel
theorem d_Reducer_bind_86 : decode b_Reducer_bind 86 = .ok (.ireturn, 1) := by decide +kernel
theorem d_Reducer_truth_0 : decode b_Reducer_truth 0 = .ok (.iload_n 0, 1) := by decide +kernel
theorem d_Reducer_truth_1 : decode b_Reducer_truth 1 = .ok (.ifCond .eq 7, 3) := by decide +kernel
theorem d_Reducer_truth_4 : decode b_Reducer_truth 4 = .ok (.iconst 1, 1) := by decide +kernel
theorem d_Reducer_truth_5 : decode b_Reducer_truth 5 = .ok (.goto 4, 3) := by decide +kernel
theorem d_Reducer_truth_8 : decode b_Reducer_truth 8 = .ok (.iconst 0, 1) := by decide +kernel
theorem d_Reducer_truth_9 : decode b_Reducer_truth 9 = .ok (.ireturn, 1) := by decide +kernel
theorem d_Reducer_boxOf_0 : decode b_Reducer_boxOf 0 = .ok (.aload_n 0, 1) := by decide +kernel
theorem d_Reducer_boxOf_1 : decode b_Reducer_boxOf 1 = .ok (.getfield 22, 3) := by decide +kernel
theorem d_Reducer_boxOf_4 : decode b_Reducer_boxOf 4 = .ok (.iconst 0, 1) := by decide +kernel
theorem d_Reducer_boxOf_5 : decode b_Reducer_boxOf 5 = .ok (.aload_n 0, 1) := by decide +kernel
theorem d_Reducer_boxOf_6 : decode b_Reducer_boxOf 6 = .ok (.getfield 22, 3) := by decide +kernel
theorem d_Reducer_boxOf_9 : decode b_Reducer_boxOf 9 = .ok (.iload_n 1, 1) := by decide +kernel
theorem d_Reducer_boxOf_10 : decode b_Reducer_boxOf 10 = .ok (.invokevirtual 109, 3) := by decide +kernel
theorem d_Reducer_boxOf_13 : decode b_Reducer_boxOf 13 = .ok (.iconst 1, 1) := by decide +kernel
theorem d_Reducer_boxOf_14 : decode b_Reducer_boxOf 14 = .ok (.iadd, 1) := by decide +kernel
theorem d_Reducer_boxOf_15 : decode b_Reducer_boxOf 15 = .ok (.iconst (-1), 1) := by decide +kernel
theorem d_Reducer_boxOf_16 : decode b_Reducer_boxOf 16 = .ok (.iconst (-1), 1) := by decide +kernel
theorem d_Reducer_boxOf_17 : decode b_Reducer_boxOf 17 = .ok (.invokevirtual 142, 3) := by decide +kernel
theorem d_Reducer_boxOf_20 : decode b_Reducer_boxOf 20 = .ok (.ireturn, 1) := by decide +kernel
theorem d_Reducer_widens_0 : decode b_Reducer_widens 0 = .ok (.iload_n 0, 1) := by decide +kernel
theorem d_Reducer_widens_1 : decode b_Reducer_widens 1 = .ok (.iload_n 1, 1) := by decide +kernel
theorem d_Reducer_widens_2 : decode b_Reducer_widens 2 = .ok (.if_icmp .eq 17, 3) := by decide +kernel
theorem d_Reducer_widens_5 : decode b_Reducer_widens 5 = .ok (.iload_n 0, 1) := by decide +kernel
theorem d_Reducer_widens_6 : decode b_Reducer_widens 6 = .ok (.ifCond .eq 17, 3) := by decide +kernel
theorem d_Reducer_widens_9 : decode b_Reducer_widens 9 = .ok (.iload_n 1, 1) := by decide +kernel
theorem d_Reducer_widens_10 : decode b_Reducer_widens 10 = .ok (.iload_n 0, 1) := by decide +kernel
theorem d_Reducer_widens_11 : decode b_Reducer_widens 11 = .ok (.if_icmp .le 12, 3) := by decide +kernel
theorem d_Reducer_widens_14 : decode b_Reducer_widens 14 = .ok (.iload_n 1, 1) := by decide +kernel
theorem d_Reducer_widens_15 : decode b_Reducer_widens 15 = .ok (.iconst 3, 1) := by decide +kernel
theorem d_Reducer_widens_16 : decode b_Reducer_widens 16 = .ok (.if_icmp .eq 7, 3) := by decide +kernel
theorem d_Reducer_widens_19 : decode b_Reducer_widens 19 = .ok (.iconst 1, 1) := by decide +kernel
theorem d_Reducer_widens_20 : decode b_Reducer_widens 20 = .ok (.goto 4, 3) := by decide +kernel
theorem d_Reducer_widens_23 : decode b_Reducer_widens 23 = .ok (.iconst 0, 1) := by decide +kernel
theorem d_Reducer_widens_24 : decode b_Reducer_widens 24 = .ok (.ireturn, 1) := by decide +kernel
theorem d_Reducer_unboxes_0 : decode b_Reducer_unboxes 0 = .ok (.aload_n 0, 1) := by decide +kernel
theorem d_Reducer_unboxes_1 : decode b_Reducer_unboxes 1 = .ok (.getfield 22, 3) := by decide +kernel
theorem d_Reducer_unboxes_4 : decode b_Reducer_unboxes 4 = .ok (.iload_n 1, 1) := by decide +kernel
theorem d_Reducer_unboxes_5 : decode b_Reducer_unboxes 5 = .ok (.invokevirtual 109, 3) := by decide +kernel
theorem d_Reducer_unboxes_8 : decode b_Reducer_unboxes 8 = .ok (.istore_n 3, 1) := by decide +kernel
theorem d_Reducer_unboxes_9 : decode b_Reducer_unboxes 9 = .ok (.aload_n 0, 1) := by decide +kernel
theorem d_Reducer_unboxes_10 : decode b_Reducer_unboxes 10 = .ok (.getfield 22, 3) := by decide +kernel
theorem d_Reducer_unboxes_13 : decode b_Reducer_unboxes 13 = .ok (.iload_n 1, 1) := by decide +kernel
theorem d_Reducer_unboxes_14 : decode b_Reducer_unboxes 14 = .ok (.invokevirtual 102, 3) := by decide +kernel
theorem d_Reducer_unboxes_17 : decode b_Reducer_unboxes 17 = .ok (.ifCond .ne 14, 3) := by decide +kernel
theorem d_Reducer_unboxes_20 : decode b_Reducer_unboxes 20 = .ok (.iload_n 3, 1) := by decide +kernel
theorem d_Reducer_unboxes_21 : decode b_Reducer_unboxes 21 = .ok (.iconst 1, 1) := by decide +kernel
theorem d_Reducer_unboxes_22 : decode b_Reducer_unboxes 22 = .ok (.if_icmp .lt 9, 3) := by decide +kernel
theorem d_Reducer_unboxes_25 : decode b_Reducer_unboxes 25 = .ok (.iload_n 3, 1) := by decide +kernel
theorem d_Reducer_unboxes_26 : decode b_Reducer_unboxes 26 = .ok (.bipush 9, 2) := by decide +kernel
theorem d_Reducer_unboxes_28 : decode b_Reducer_unboxes 28 = .ok (.if_icmp .lt 5, 3) := by decide +kernel
theorem d_Reducer_unboxes_31 : decode b_Reducer_unboxes 31 = .ok (.iconst 0, 1) := by decide +kernel
theorem d_Reducer_unboxes_32 : decode b_Reducer_unboxes 32 = .ok (.ireturn, 1) := by decide +kernel
theorem d_Reducer_unboxes_33 : decode b_Reducer_unboxes 33 = .ok (.iload_n 3, 1) := by decide +kernel
theorem d_Reducer_unboxes_34 : decode b_Reducer_unboxes 34 = .ok (.iconst 1, 1) := by decide +kernel
theorem d_Reducer_unboxes_35 : decode b_Reducer_unboxes 35 = .ok (.isub, 1) := by decide +kernel
theorem d_Reducer_unboxes_36 : decode b_Reducer_unboxes 36 = .ok (.aload_n 0, 1) := by decide +kernel
theorem d_Reducer_unboxes_37 : decode b_Reducer_unboxes 37 = .ok (.getfield 22, 3) := by decide +kernel
theorem d_Reducer_unboxes_40 : decode b_Reducer_unboxes 40 = .ok (.iload_n 2, 1) := by decide +kernel
theorem d_Reducer_unboxes_41 : decode b_Reducer_unboxes 41 = .ok (.invokevirtual 109, 3) := by decide +kernel
theorem d_Reducer_unboxes_44 : decode b_Reducer_unboxes 44 = .ok (.invokestatic 112, 3) := by decide +kernel
theorem d_Reducer_unboxes_47 : decode b_Reducer_unboxes 47 = .ok (.ireturn, 1) := by decide +kernel
theorem d_Reducer_aboveOf_0 : decode b_Reducer_aboveOf 0 = .ok (.iload_n 1, 1) := by decide +kernel
theorem d_Reducer_aboveOf_1 : decode b_Reducer_aboveOf 1 = .ok (.istore_n 3, 1) := by decide +kernel
theorem d_Reducer_aboveOf_2 : decode b_Reducer_aboveOf 2 = .ok (.iconst 0, 1) := by decide +kernel
theorem d_Reducer_aboveOf_3 : decode b_Reducer_aboveOf 3 = .ok (.istore 4, 2) := by decide +kernel
theorem d_Reducer_aboveOf_5 : decode b_Reducer_aboveOf 5 = .ok (.iload 4, 2) := by decide +kernel
theorem d_Reducer_aboveOf_7 : decode b_Reducer_aboveOf 7 = .ok (.bipush 20, 2) := by decide +kernel
theorem d_Reducer_aboveOf_9 : decode b_Reducer_aboveOf 9 = .ok (.if_icmp .ge 32, 3) := by decide +kernel
theorem d_Reducer_aboveOf_12 : decode b_Reducer_aboveOf 12 = .ok (.aload_n 0, 1) := by decide +kernel
theorem d_Reducer_aboveOf_13 : decode b_Reducer_aboveOf 13 = .ok (.getfield 22, 3) := by decide +kernel
theorem d_Reducer_aboveOf_16 : decode b_Reducer_aboveOf 16 = .ok (.iload_n 3, 1) := by decide +kernel
theorem d_Reducer_aboveOf_17 : decode b_Reducer_aboveOf 17 = .ok (.invokevirtual 102, 3) := by decide +kernel
theorem d_Reducer_aboveOf_20 : decode b_Reducer_aboveOf 20 = .ok (.bipush 8, 2) := by decide +kernel
theorem d_Reducer_aboveOf_22 : decode b_Reducer_aboveOf 22 = .ok (.if_icmp .ne 19, 3) := by decide +kernel
theorem d_Reducer_aboveOf_25 : decode b_Reducer_aboveOf 25 = .ok (.aload_n 0, 1) := by decide +kernel
theorem d_Reducer_aboveOf_26 : decode b_Reducer_aboveOf 26 = .ok (.getfield 22, 3) := by decide +kernel
theorem d_Reducer_aboveOf_29 : decode b_Reducer_aboveOf 29 = .ok (.iload_n 3, 1) := by decide +kernel
theorem d_Reducer_aboveOf_30 : decode b_Reducer_aboveOf 30 = .ok (.iconst 1, 1) := by decide +kernel
theorem d_Reducer_aboveOf_31 : decode b_Reducer_aboveOf 31 = .ok (.invokevirtual 136, 3) := by decide +kernel
theorem d_Reducer_aboveOf_34 : decode b_Reducer_aboveOf 34 = .ok (.istore_n 3, 1) := by decide +kernel
theorem d_Reducer_aboveOf_35 : decode b_Reducer_aboveOf 35 = .ok (.iinc 4 1, 3) := by decide +kernel
theorem d_Reducer_aboveOf_38 : decode b_Reducer_aboveOf 38 = .ok (.goto (-33), 3) := by decide +kernel
theorem d_Reducer_aboveOf_41 : decode b_Reducer_aboveOf 41 = .ok (.iconst 0, 1) := by decide +kernel
theorem d_Reducer_aboveOf_42 : decode b_Reducer_aboveOf 42 = .ok (.istore 4, 2) := by decide +kernel
theorem d_Reducer_aboveOf_44 : decode b_Reducer_aboveOf 44 = .ok (.iload 4, 2) := by decide +kernel
theorem d_Reducer_aboveOf_46 : decode b_Reducer_aboveOf 46 = .ok (.bipush 40, 2) := by decide +kernel
theorem d_Reducer_aboveOf_48 : decode b_Reducer_aboveOf 48 = .ok (.if_icmp .ge 136, 3) := by decide +kernel
theorem d_Reducer_aboveOf_51 : decode b_Reducer_aboveOf 51 = .ok (.aload_n 0, 1) := by decide +kernel
theorem d_Reducer_aboveOf_52 : decode b_Reducer_aboveOf 52 = .ok (.getfield 18, 3) := by decide +kernel
theorem d_Reducer_aboveOf_55 : decode b_Reducer_aboveOf 55 = .ok (.aload_n 0, 1) := by decide +kernel
theorem d_Reducer_aboveOf_56 : decode b_Reducer_aboveOf 56 = .ok (.getfield 22, 3) := by decide +kernel
theorem d_Reducer_aboveOf_59 : decode b_Reducer_aboveOf 59 = .ok (.iload_n 3, 1) := by decide +kernel
theorem d_Reducer_aboveOf_60 : decode b_Reducer_aboveOf 60 = .ok (.invokevirtual 84, 3) := by decide +kernel
theorem d_Reducer_aboveOf_63 : decode b_Reducer_aboveOf 63 = .ok (.iload_n 2, 1) := by decide +kernel
theorem d_Reducer_aboveOf_64 : decode b_Reducer_aboveOf 64 = .ok (.invokevirtual 149, 3) := by decide +kernel
theorem d_Reducer_aboveOf_67 : decode b_Reducer_aboveOf 67 = .ok (.ifCond .eq 117, 3) := by decide +kernel
theorem d_Reducer_aboveOf_70 : decode b_Reducer_aboveOf 70 = .ok (.aload_n 0, 1) := by decide +kernel
theorem d_Reducer_aboveOf_71 : decode b_Reducer_aboveOf 71 = .ok (.getfield 22, 3) := by decide +kernel
theorem d_Reducer_aboveOf_74 : decode b_Reducer_aboveOf 74 = .ok (.iload_n 3, 1) := by decide +kernel
theorem d_Reducer_aboveOf_75 : decode b_Reducer_aboveOf 75 = .ok (.invokevirtual 84, 3) := by decide +kernel
theorem d_Reducer_aboveOf_78 : decode b_Reducer_aboveOf 78 = .ok (.istore 5, 2) := by decide +kernel
theorem d_Reducer_aboveOf_80 : decode b_Reducer_aboveOf 80 = .ok (.iload 5, 2) := by decide +kernel
theorem d_Reducer_aboveOf_82 : decode b_Reducer_aboveOf 82 = .ok (.iload_n 2, 1) := by decide +kernel
theorem d_Reducer_aboveOf_83 : decode b_Reducer_aboveOf 83 = .ok (.if_icmp .ne 5, 3) := by decide +kernel
theorem d_Reducer_aboveOf_86 : decode b_Reducer_aboveOf 86 = .ok (.iload_n 3, 1) := by decide +kernel
theorem d_Reducer_aboveOf_87 : decode b_Reducer_aboveOf 87 = .ok (.ireturn, 1) := by decide +kernel
theorem d_Reducer_aboveOf_88 : decode b_Reducer_aboveOf 88 = .ok (.aload_n 0, 1) := by decide +kernel
theorem d_Reducer_aboveOf_89 : decode b_Reducer_aboveOf 89 = .ok (.getfield 18, 3) := by decide +kernel
theorem d_Reducer_aboveOf_92 : decode b_Reducer_aboveOf 92 = .ok (.iload 5, 2) := by decide +kernel
theorem d_Reducer_aboveOf_94 : decode b_Reducer_aboveOf 94 = .ok (.iload_n 2, 1) := by decide +kernel
theorem d_Reducer_aboveOf_95 : decode b_Reducer_aboveOf 95 = .ok (.invokevirtual 152, 3) := by decide +kernel
theorem d_Reducer_aboveOf_98 : decode b_Reducer_aboveOf 98 = .ok (.istore 6, 2) := by decide +kernel
theorem d_Reducer_aboveOf_100 : decode b_Reducer_aboveOf 100 = .ok (.aload_n 0, 1) := by decide +kernel
theorem d_Reducer_aboveOf_101 : decode b_Reducer_aboveOf 101 = .ok (.getfield 22, 3) := by decide +kernel
theorem d_Reducer_aboveOf_104 : decode b_Reducer_aboveOf 104 = .ok (.iload_n 3, 1) := by decide +kernel
theorem d_Reducer_aboveOf_105 : decode b_Reducer_aboveOf 105 = .ok (.invokevirtual 102, 3) := by decide +kernel
theorem d_Reducer_aboveOf_108 : decode b_Reducer_aboveOf 108 = .ok (.iconst 1, 1) := by decide +kernel
theorem d_Reducer_aboveOf_109 : decode b_Reducer_aboveOf 109 = .ok (.if_icmp .ne 24, 3) := by decide +kernel
theorem d_Reducer_aboveOf_112 : decode b_Reducer_aboveOf 112 = .ok (.aload_n 0, 1) := by decide +kernel
theorem d_Reducer_aboveOf_113 : decode b_Reducer_aboveOf 113 = .ok (.getfield 30, 3) := by decide +kernel
theorem d_Reducer_aboveOf_116 : decode b_Reducer_aboveOf 116 = .ok (.iload_n 3, 1) := by decide +kernel
theorem d_Reducer_aboveOf_117 : decode b_Reducer_aboveOf 117 = .ok (.invokevirtual 155, 3) := by decide +kernel
theorem d_Reducer_aboveOf_120 : decode b_Reducer_aboveOf 120 = .ok (.aload_n 0, 1) := by decide +kernel
theorem d_Reducer_aboveOf_121 : decode b_Reducer_aboveOf 121 = .ok (.getfield 30, 3) := by decide +kernel
theorem d_Reducer_aboveOf_124 : decode b_Reducer_aboveOf 124 = .ok (.iload 6, 2) := by decide +kernel
theorem d_Reducer_aboveOf_126 : decode b_Reducer_aboveOf 126 = .ok (.invokevirtual 161, 3) := by decide +kernel
theorem d_Reducer_aboveOf_129 : decode b_Reducer_aboveOf 129 = .ok (.istore_n 3, 1) := by decide +kernel
theorem d_Reducer_aboveOf_130 : decode b_Reducer_aboveOf 130 = .ok (.goto 41, 3) := by decide +kernel
theorem d_Reducer_aboveOf_133 : decode b_Reducer_aboveOf 133 = .ok (.aload_n 0, 1) := by decide +kernel
theorem d_Reducer_aboveOf_134 : decode b_Reducer_aboveOf 134 = .ok (.getfield 18, 3) := by decide +kernel
theorem d_Reducer_aboveOf_137 : decode b_Reducer_aboveOf 137 = .ok (.iload 5, 2) := by decide +kernel
theorem d_Reducer_aboveOf_139 : decode b_Reducer_aboveOf 139 = .ok (.invokevirtual 90, 3) := by decide +kernel
theorem d_Reducer_aboveOf_142 : decode b_Reducer_aboveOf 142 = .ok (.ifCond .le 26, 3) := by decide +kernel
theorem d_Reducer_aboveOf_145 : decode b_Reducer_aboveOf 145 = .ok (.aload_n 0, 1) := by decide +kernel
theorem d_Reducer_aboveOf_146 : decode b_Reducer_aboveOf 146 = .ok (.getfield 22, 3) := by decide +kernel
theorem d_Reducer_aboveOf_149 : decode b_Reducer_aboveOf 149 = .ok (.iconst 0, 1) := by decide +kernel
theorem d_Reducer_aboveOf_150 : decode b_Reducer_aboveOf 150 = .ok (.aload_n 0, 1) := by decide +kernel
theorem d_Reducer_aboveOf_151 : decode b_Reducer_aboveOf 151 = .ok (.getfield 22, 3) := by decide +kernel
theorem d_Reducer_aboveOf_154 : decode b_Reducer_aboveOf 154 = .ok (.iload 6, 2) := by decide +kernel
theorem d_Reducer_aboveOf_156 : decode b_Reducer_aboveOf 156 = .ok (.invokevirtual 109, 3) := by decide +kernel
theorem d_Reducer_aboveOf_159 : decode b_Reducer_aboveOf 159 = .ok (.iconst (-1), 1) := by decide +kernel
theorem d_Reducer_aboveOf_160 : decode b_Reducer_aboveOf 160 = .ok (.iconst (-1), 1) := by decide +kernel
theorem d_Reducer_aboveOf_161 : decode b_Reducer_aboveOf 161 = .ok (.invokevirtual 142, 3) := by decide +kernel
theorem d_Reducer_aboveOf_164 : decode b_Reducer_aboveOf 164 = .ok (.istore_n 3, 1) := by decide +kernel
theorem d_Reducer_aboveOf_165 : decode b_Reducer_aboveOf 165 = .ok (.goto 6, 3) := by decide +kernel
theorem d_Reducer_aboveOf_168 : decode b_Reducer_aboveOf 168 = .ok (.iload 6, 2) := by decide +kernel
theorem d_Reducer_aboveOf_170 : decode b_Reducer_aboveOf 170 = .ok (.istore_n 3, 1) := by decide +kernel
theorem d_Reducer_aboveOf_171 : decode b_Reducer_aboveOf 171 = .ok (.iload_n 3, 1) := by decide +kernel
theorem d_Reducer_aboveOf_172 : decode b_Reducer_aboveOf 172 = .ok (.ifCond .ge 6, 3) := by decide +kernel
theorem d_Reducer_aboveOf_175 : decode b_Reducer_aboveOf 175 = .ok (.bipush (-3), 2) := by decide +kernel
theorem d_Reducer_aboveOf_177 : decode b_Reducer_aboveOf 177 = .ok (.ireturn, 1) := by decide +kernel
theorem d_Reducer_aboveOf_178 : decode b_Reducer_aboveOf 178 = .ok (.iinc 4 1, 3) := by decide +kernel
theorem d_Reducer_aboveOf_181 : decode b_Reducer_aboveOf 181 = .ok (.goto (-137), 3) := by decide +kernel
theorem d_Reducer_aboveOf_184 : decode b_Reducer_aboveOf 184 = .ok (.iload_n 2, 1) := by decide +kernel
theorem d_Reducer_aboveOf_185 : decode b_Reducer_aboveOf 185 = .ok (.ifCond .ne 26, 3) := by decide +kernel
theorem d_Reducer_aboveOf_188 : decode b_Reducer_aboveOf 188 = .ok (.aload_n 0, 1) := by decide +kernel
theorem d_Reducer_aboveOf_189 : decode b_Reducer_aboveOf 189 = .ok (.getfield 22, 3) := by decide +kernel
theorem d_Reducer_aboveOf_192 : decode b_Reducer_aboveOf 192 = .ok (.iload_n 1, 1) := by decide +kernel
theorem d_Reducer_aboveOf_193 : decode b_Reducer_aboveOf 193 = .ok (.invokevirtual 164, 3) := by decide +kernel
theorem d_Reducer_aboveOf_196 : decode b_Reducer_aboveOf 196 = .ok (.ifCond .eq 15, 3) := by decide +kernel
theorem d_Reducer_aboveOf_199 : decode b_Reducer_aboveOf 199 = .ok (.aload_n 0, 1) := by decide +kernel
theorem d_Reducer_aboveOf_200 : decode b_Reducer_aboveOf 200 = .ok (.getfield 22, 3) := by decide +kernel
theorem d_Reducer_aboveOf_203 : decode b_Reducer_aboveOf 203 = .ok (.iload_n 1, 1) := by decide +kernel
theorem d_Reducer_aboveOf_204 : decode b_Reducer_aboveOf 204 = .ok (.invokevirtual 102, 3) := by decide +kernel
theorem d_Reducer_aboveOf_207 : decode b_Reducer_aboveOf 207 = .ok (.iconst 5, 1) := by decide +kernel
theorem d_Reducer_aboveOf_208 : decode b_Reducer_aboveOf 208 = .ok (.if_icmp .ne 5, 3) := by decide +kernel
theorem d_Reducer_aboveOf_211 : decode b_Reducer_aboveOf 211 = .ok (.iconst (-1), 1) := by decide +kernel
theorem d_Reducer_aboveOf_212 : decode b_Reducer_aboveOf 212 = .ok (.ireturn, 1) := by decide +kernel
theorem d_Reducer_aboveOf_213 : decode b_Reducer_aboveOf 213 = .ok (.aload_n 0, 1) := by decide +kernel
theorem d_Reducer_aboveOf_214 : decode b_Reducer_aboveOf 214 = .ok (.getfield 22, 3) := by decide +kernel
theorem d_Reducer_aboveOf_217 : decode b_Reducer_aboveOf 217 = .ok (.iconst 0, 1) := by decide +kernel
theorem d_Reducer_aboveOf_218 : decode b_Reducer_aboveOf 218 = .ok (.iconst 0, 1) := by decide +kernel
theorem d_Reducer_aboveOf_219 : decode b_Reducer_aboveOf 219 = .ok (.iconst (-1), 1) := by decide +kernel
theorem d_Reducer_aboveOf_220 : decode b_Reducer_aboveOf 220 = .ok (.iconst (-1), 1) := by decide +kernel
theorem d_Reducer_aboveOf_221 : decode b_Reducer_aboveOf 221 = .ok (.invokevirtual 142, 3) := by decide +kernel
theorem d_Reducer_aboveOf_224 : decode b_Reducer_aboveOf 224 = .ok (.ireturn, 1) := by decide +kernel
theorem d_Resolver_init_0 : decode b_Resolver_init 0 = .ok (.aload_n 0, 1) := by decide +kernel
theorem d_Resolver_init_1 : decode b_Resolver_init 1 = .ok (.invokespecial 3, 3) := by decide +kernel
theorem d_Resolver_init_4 : decode b_Resolver_init 4 = .ok (.aload_n 0, 1) := by decide +kernel
theorem d_Resolver_init_5 : decode b_Resolver_init 5 = .ok (.sipush 200, 3) := by decide +kernel
theorem d_Resolver_init_8 : decode b_Resolver_init 8 = .ok (.newarray .int, 2) := by decide +kernel
theorem d_Resolver_init_10 : decode b_Resolver_init 10 = .ok (.putfield 9, 3) := by decide +kernel
theorem d_Resolver_init_13 : decode b_Resolver_init 13 = .ok (.aload_n 0, 1) := by decide +kernel
theorem d_Resolver_init_14 : decode b_Resolver_init 14 = .ok (.bipush 12, 2) := by decide +kernel
theorem d_Resolver_init_16 : decode b_Resolver_init 16 = .ok (.newarray .int, 2) := by decide +kernel
theorem d_Resolver_init_18 : decode b_Resolver_init 18 = .ok (.putfield 15, 3) := by decide +kernel
theorem d_Resolver_init_21 : decode b_Resolver_init 21 = .ok (.aload_n 0, 1) := by decide +kernel
theorem d_Resolver_init_22 : decode b_Resolver_init 22 = .ok (.bipush 12, 2) := by decide +kernel
theorem d_Resolver_init_24 : decode b_Resolver_init 24 = .ok (.newarray .int, 2) := by decide +kernel
theorem d_Resolver_init_26 : decode b_Resolver_init 26 = .ok (.putfield 18, 3) := by decide +kernel
theorem d_Resolver_init_29 : decode b_Resolver_init 29 = .ok (.aload_n 0, 1) := by decide +kernel
theorem d_Resolver_init_30 : decode b_Resolver_init 30 = .ok (.aload_n 1, 1) := by decide +kernel
theorem d_Resolver_init_31 : decode b_Resolver_init 31 = .ok (.putfield 21, 3) := by decide +kernel
theorem d_Resolver_init_34 : decode b_Resolver_init 34 = .ok (.aload_n 0, 1) := by decide +kernel
theorem d_Resolver_init_35 : decode b_Resolver_init 35 = .ok (.aload_n 2, 1) := by decide +kernel
theorem d_Resolver_init_36 : decode b_Resolver_init 36 = .ok (.putfield 25, 3) := by decide +kernel
theorem d_Resolver_init_39 : decode b_Resolver_init 39 = .ok (.aload_n 0, 1) := by decide +kernel
theorem d_Resolver_init_40 : decode b_Resolver_init 40 = .ok (.aload_n 3, 1) := by decide +kernel
theorem d_Resolver_init_41 : decode b_Resolver_init 41 = .ok (.putfield 29, 3) := by decide +kernel
theorem d_Resolver_init_44 : decode b_Resolver_init 44 = .ok (.aload_n 0, 1) := by decide +kernel
theorem d_Resolver_init_45 : decode b_Resolver_init 45 = .ok (.aload 4, 2) := by decide +kernel
theorem d_Resolver_init_47 : decode b_Resolver_init 47 = .ok (.putfield 33, 3) := by decide +kernel
theorem d_Resolver_init_50 : decode b_Resolver_init 50 = .ok (.return_, 1) := by decide +kernel
theorem d_Resolver_choiceOf_0 : decode b_Resolver_choiceOf 0 = .ok (.iload_n 1, 1) := by decide +kernel
theorem d_Resolver_choiceOf_1 : decode b_Resolver_choiceOf 1 = .ok (.ifCond .lt 18, 3) := by decide +kernel
theorem d_Resolver_choiceOf_4 : decode b_Resolver_choiceOf 4 = .ok (.iload_n 1, 1) := by decide +kernel
theorem d_Resolver_choiceOf_5 : decode b_Resolver_choiceOf 5 = .ok (.bipush 12, 2) := by decide +kernel
theorem d_Resolver_choiceOf_7 : decode b_Resolver_choiceOf 7 = .ok (.if_icmp .ge 12, 3) := by decide +kernel
theorem d_Resolver_choiceOf_10 : decode b_Resolver_choiceOf 10 = .ok (.aload_n 0, 1) := by decide +kernel
theorem d_Resolver_choiceOf_11 : decode b_Resolver_choiceOf 11 = .ok (.getfield 18, 3) := by decide +kernel
theorem d_Resolver_choiceOf_14 : decode b_Resolver_choiceOf 14 = .ok (.iload_n 1, 1) := by decide +kernel
theorem d_Resolver_choiceOf_15 : decode b_Resolver_choiceOf 15 = .ok (.iaload, 1) := by decide +kernel
theorem d_Resolver_choiceOf_16 : decode b_Resolver_choiceOf 16 = .ok (.goto 4, 3) := by decide +kernel
theorem d_Resolver_choiceOf_19 : decode b_Resolver_choiceOf 19 = .ok (.iconst (-1), 1) := by decide +kernel
theorem d_Resolver_choiceOf_20 : decode b_Resolver_choiceOf 20 = .ok (.ireturn, 1) := by decide +kernel
theorem d_Resolver_nextGroup_0 : decode b_Resolver_nextGroup 0 = .ok (.iconst 0, 1) := by decide +kernel
theorem d_Resolver_nextGroup_1 : decode b_Resolver_nextGroup 1 = .ok (.istore_n 2, 1) := by decide +kernel
theorem d_Resolver_nextGroup_2 : decode b_Resolver_nextGroup 2 = .ok (.iconst 0, 1) := by decide +kernel
theorem d_Resolver_nextGroup_3 : decode b_Resolver_nextGroup 3 = .ok (.istore_n 3, 1) := by decide +kernel
theorem d_Resolver_nextGroup_4 : decode b_Resolver_nextGroup 4 = .ok (.iload_n 3, 1) := by decide +kernel
theorem d_Resolver_nextGroup_5 : decode b_Resolver_nextGroup 5 = .ok (.iload_n 1, 1) := by decide +kernel
theorem d_Resolver_nextGroup_6 : decode b_Resolver_nextGroup 6 = .ok (.if_icmp .ge 30, 3) := by decide +kernel
theorem d_Resolver_nextGroup_9 : decode b_Resolver_nextGroup 9 = .ok (.aload_n 0, 1) := by decide +kernel
theorem d_Resolver_nextGroup_10 : decode b_Resolver_nextGroup 10 = .ok (.getfield 29, 3) := by decide +kernel
theorem d_Resolver_nextGroup_13 : decode b_Resolver_nextGroup 13 = .ok (.iload_n 3, 1) := by decide +kernel
theorem d_Resolver_nextGroup_14 : decode b_Resolver_nextGroup 14 = .ok (.aload_n 0, 1) := by decide +kernel
theorem d_Resolver_nextGroup_15 : decode b_Resolver_nextGroup 15 = .ok (.getfield 25, 3) := by decide +kernel
theorem d_Resolver_nextGroup_18 : decode b_Resolver_nextGroup 18 = .ok (.invokevirtual 37, 3) := by decide +kernel
theorem d_Resolver_nextGroup_21 : decode b_Resolver_nextGroup 21 = .ok (.ifCond .ge 9, 3) := by decide +kernel
theorem d_Resolver_nextGroup_24 : decode b_Resolver_nextGroup 24 = .ok (.iload_n 2, 1) := by decide +kernel
theorem d_Resolver_nextGroup_25 : decode b_Resolver_nextGroup 25 = .ok (.iconst 1, 1) := by decide +kernel
theorem d_Resolver_nextGroup_26 : decode b_Resolver_nextGroup 26 = .ok (.iload_n 3, 1) := by decide +kernel
theorem d_Resolver_nextGroup_27 : decode b_Resolver_nextGroup 27 = .ok (.ishl, 1) := by decide +kernel
theorem d_Resolver_nextGroup_28 : decode b_Resolver_nextGroup 28 = .ok (.ior, 1) := by decide +kernel
theorem d_Resolver_nextGroup_29 : decode b_Resolver_nextGroup 29 = .ok (.istore_n 2, 1) := by decide +kernel
theorem d_Resolver_nextGroup_30 : decode b_Resolver_nextGroup 30 = .ok (.iinc 3 1, 3) := by decide +kernel
theorem d_Resolver_nextGroup_33 : decode b_Resolver_nextGroup 33 = .ok (.goto (-29), 3) := by decide +kernel
theorem d_Resolver_nextGroup_36 : decode b_Resolver_nextGroup 36 = .ok (.aload_n 0, 1) := by decide +kernel
theorem d_Resolver_nextGroup_37 : decode b_Resolver_nextGroup 37 = .ok (.iload_n 2, 1) := by decide +kernel
theorem d_Resolver_nextGroup_38 : decode b_Resolver_nextGroup 38 = .ok (.invokevirtual 43, 3) := by decide +kernel
theorem d_Resolver_nextGroup_41 : decode b_Resolver_nextGroup 41 = .ok (.iconst 0, 1) := by decide +kernel
theorem d_Resolver_nextGroup_42 : decode b_Resolver_nextGroup 42 = .ok (.istore_n 3, 1) := by decide +kernel
theorem d_Resolver_nextGroup_43 : decode b_Resolver_nextGroup 43 = .ok (.iconst 0, 1) := by decide +kernel
theorem d_Resolver_nextGroup_44 : decode b_Resolver_nextGroup 44 = .ok (.istore 4, 2) := by decide +kernel
theorem d_Resolver_nextGroup_46 : decode b_Resolver_nextGroup 46 = .ok (.iload 4, 2) := by decide +kernel
theorem d_Resolver_nextGroup_48 : decode b_Resolver_nextGroup 48 = .ok (.iload_n 1, 1) := by decide +kernel
theorem d_Resolver_nextGroup_49 : decode b_Resolver_nextGroup 49 = .ok (.if_icmp .ge 48, 3) := by decide +kernel
theorem d_Resolver_nextGroup_52 : decode b_Resolver_nextGroup 52 = .ok (.iload_n 2, 1) := by decide +kernel
theorem d_Resolver_nextGroup_53 : decode b_Resolver_nextGroup 53 = .ok (.iload 4, 2) := by decide +kernel
theorem d_Resolver_nextGroup_55 : decode b_Resolver_nextGroup 55 = .ok (.ishr, 1) := by decide +kernel
theorem d_Resolver_nextGroup_56 : decode b_Resolver_nextGroup 56 = .ok (.iconst 1, 1) := by decide +kernel
theorem d_Resolver_nextGroup_57 : decode b_Resolver_nextGroup 57 = .ok (.iand, 1) := by decide +kernel
theorem d_Resolver_nextGroup_58 : decode b_Resolver_nextGroup 58 = .ok (.ifCond .ne 6, 3) := by decide +kernel
theorem d_Resolver_nextGroup_61 : decode b_Resolver_nextGroup 61 = .ok (.goto 30, 3) := by decide +kernel
theorem d_Resolver_nextGroup_64 : decode b_Resolver_nextGroup 64 = .ok (.aload_n 0, 1) := by decide +kernel
theorem d_Resolver_nextGroup_65 : decode b_Resolver_nextGroup 65 = .ok (.iload 4, 2) := by decide +kernel
theorem d_Resolver_nextGroup_67 : decode b_Resolver_nextGroup 67 = .ok (.invokevirtual 47, 3) := by decide +kernel
theorem d_Resolver_nextGroup_70 : decode b_Resolver_nextGroup 70 = .ok (.istore 5, 2) := by decide +kernel
theorem d_Resolver_nextGroup_72 : decode b_Resolver_nextGroup 72 = .ok (.iload_n 3, 1) := by decide +kernel
theorem d_Resolver_nextGroup_73 : decode b_Resolver_nextGroup 73 = .ok (.ifCond .eq 15, 3) := by decide +kernel
theorem d_Resolver_nextGroup_76 : decode b_Resolver_nextGroup 76 = .ok (.iload 5, 2) := by decide +kernel
theorem d_Resolver_nextGroup_78 : decode b_Resolver_nextGroup 78 = .ok (.invokestatic 51, 3) := by decide +kernel
theorem d_Resolver_nextGroup_81 : decode b_Resolver_nextGroup 81 = .ok (.iload_n 3, 1) := by decide +kernel
theorem d_Resolver_nextGroup_82 : decode b_Resolver_nextGroup 82 = .ok (.invokestatic 51, 3) := by decide +kernel
theorem d_Resolver_nextGroup_85 : decode b_Resolver_nextGroup 85 = .ok (.if_icmp .ge 6, 3) := by decide +kernel
theorem d_Resolver_nextGroup_88 : decode b_Resolver_nextGroup 88 = .ok (.iload 5, 2) := by decide +kernel
theorem d_Resolver_nextGroup_90 : decode b_Resolver_nextGroup 90 = .ok (.istore_n 3, 1) := by decide +kernel
theorem d_Resolver_nextGroup_91 : decode b_Resolver_nextGroup 91 = .ok (.iinc 4 1, 3) := by decide +kernel
theorem d_Resolver_nextGroup_94 : decode b_Resolver_nextGroup 94 = .ok (.goto (-48), 3) := by decide +kernel
theorem d_Resolver_nextGroup_97 : decode b_Resolver_nextGroup 97 = .ok (.iload_n 3, 1) := by decide +kernel
theorem d_Resolver_nextGroup_98 : decode b_Resolver_nextGroup 98 = .ok (.ireturn, 1) := by decide +kernel
theorem d_Resolver_link_0 : decode b_Resolver_link 0 = .ok (.aload_n 0, 1) := by decide +kernel
theorem d_Resolver_link_1 : decode b_Resolver_link 1 = .ok (.getfield 15, 3) := by decide +kernel
theorem d_Resolver_link_4 : decode b_Resolver_link 4 = .ok (.iconst 0, 1) := by decide +kernel
theorem d_Resolver_link_5 : decode b_Resolver_link 5 = .ok (.invokestatic 56, 3) := by decide +kernel
theorem d_Resolver_link_8 : decode b_Resolver_link 8 = .ok (.iconst 0, 1) := by decide +kernel
theorem d_Resolver_link_9 : decode b_Resolver_link 9 = .ok (.istore_n 2, 1) := by decide +kernel
theorem d_Resolver_link_10 : decode b_Resolver_link 10 = .ok (.iload_n 2, 1) := by decide +kernel
theorem d_Resolver_link_11 : decode b_Resolver_link 11 = .ok (.aload_n 0, 1) := by decide +kernel
theorem d_Resolver_link_12 : decode b_Resolver_link 12 = .ok (.getfield 29, 3) := by decide +kernel
theorem d_Resolver_link_15 : decode b_Resolver_link 15 = .ok (.getfield 62, 3) := by decide +kernel
theorem d_Resolver_link_18 : decode b_Resolver_link 18 = .ok (.if_icmp .ge 108, 3) := by decide +kernel
theorem d_Resolver_link_21 : decode b_Resolver_link 21 = .ok (.aload_n 0, 1) := by decide +kernel
theorem d_Resolver_link_22 : decode b_Resolver_link 22 = .ok (.getfield 29, 3) := by decide +kernel
theorem d_Resolver_link_25 : decode b_Resolver_link 25 = .ok (.iload_n 2, 1) := by decide +kernel
theorem d_Resolver_link_26 : decode b_Resolver_link 26 = .ok (.invokevirtual 66, 3) := by decide +kernel
theorem d_Resolver_link_29 : decode b_Resolver_link 29 = .ok (.istore_n 3, 1) := by decide +kernel
theorem d_Resolver_link_30 : decode b_Resolver_link 30 = .ok (.iload_n 3, 1) := by decide +kernel
theorem d_Resolver_link_31 : decode b_Resolver_link 31 = .ok (.ifCond .lt 89, 3) := by decide +kernel
theorem d_Resolver_link_34 : decode b_Resolver_link 34 = .ok (.iload_n 3, 1) := by decide +kernel
theorem d_Resolver_link_35 : decode b_Resolver_link 35 = .ok (.bipush 12, 2) := by decide +kernel
theorem d_Resolver_link_37 : decode b_Resolver_link 37 = .ok (.if_icmp .ge 83, 3) := by decide +kernel
theorem d_Resolver_link_40 : decode b_Resolver_link 40 = .ok (.iload_n 1, 1) := by decide +kernel
theorem d_Resolver_link_41 : decode b_Resolver_link 41 = .ok (.iload_n 3, 1) := by decide +kernel
theorem d_Resolver_link_42 : decode b_Resolver_link 42 = .ok (.ishr, 1) := by decide +kernel
theorem d_Resolver_link_43 : decode b_Resolver_link 43 = .ok (.iconst 1, 1) := by decide +kernel
theorem d_Resolver_link_44 : decode b_Resolver_link 44 = .ok (.iand, 1) := by decide +kernel
theorem d_Resolver_link_45 : decode b_Resolver_link 45 = .ok (.ifCond .ne 6, 3) := by decide +kernel
theorem d_Resolver_link_48 : decode b_Resolver_link 48 = .ok (.goto 72, 3) := by decide +kernel
theorem d_Resolver_link_51 : decode b_Resolver_link 51 = .ok (.aload_n 0, 1) := by decide +kernel
theorem d_Resolver_link_52 : decode b_Resolver_link 52 = .ok (.getfield 25, 3) := by decide +kernel
theorem d_Resolver_link_55 : decode b_Resolver_link 55 = .ok (.aload_n 0, 1) := by decide +kernel
theorem d_Resolver_link_56 : decode b_Resolver_link 56 = .ok (.getfield 29, 3) := by decide +kernel
theorem d_Resolver_link_59 : decode b_Resolver_link 59 = .ok (.iload_n 2, 1) := by decide +kernel
theorem d_Resolver_link_60 : decode b_Resolver_link 60 = .ok (.invokevirtual 69, 3) := by decide +kernel
theorem d_Resolver_link_63 : decode b_Resolver_link 63 = .ok (.invokevirtual 72, 3) := by decide +kernel
theorem d_Resolver_link_66 : decode b_Resolver_link 66 = .ok (.iload_n 1, 1) := by decide +kernel
theorem d_Resolver_link_67 : decode b_Resolver_link 67 = .ok (.iand, 1) := by decide +kernel
theorem d_Resolver_link_68 : decode b_Resolver_link 68 = .ok (.istore 4, 2) := by decide +kernel
theorem d_Resolver_link_70 : decode b_Resolver_link 70 = .ok (.aload_n 0, 1) := by decide +kernel
theorem d_Resolver_link_71 : decode b_Resolver_link 71 = .ok (.getfield 15, 3) := by decide +kernel
theorem d_Resolver_link_74 : decode b_Resolver_link 74 = .ok (.iload_n 3, 1) := by decide +kernel
theorem d_Resolver_link_75 : decode b_Resolver_link 75 = .ok (.dup2, 1) := by decide +kernel
theorem d_Resolver_link_76 : decode b_Resolver_link 76 = .ok (.iaload, 1) := by decide +kernel
theorem d_Resolver_link_77 : decode b_Resolver_link 77 = .ok (.iload 4, 2) := by decide +kernel
theorem d_Resolver_link_79 : decode b_Resolver_link 79 = .ok (.ior, 1) := by decide +kernel
theorem d_Resolver_link_80 : decode b_Resolver_link 80 = .ok (.iastore, 1) := by decide +kernel
theorem d_Resolver_link_81 : decode b_Resolver_link 81 = .ok (.iconst 0, 1) := by decide +kernel
theorem d_Resolver_link_82 : decode b_Resolver_link 82 = .ok (.istore 5, 2) := by decide +kernel
theorem d_Resolver_link_84 : decode b_Resolver_link 84 = .ok (.iload 5, 2) := by decide +kernel
theorem d_Resolver_link_86 : decode b_Resolver_link 86 = .ok (.bipush 12, 2) := by decide +kernel
theorem d_Resolver_link_88 : decode b_Resolver_link 88 = .ok (.if_icmp .ge 32, 3) := by decide +kernel
theorem d_Resolver_link_91 : decode b_Resolver_link 91 = .ok (.iload 4, 2) := by decide +kernel
theorem d_Resolver_link_93 : decode b_Resolver_link 93 = .ok (.iload 5, 2) := by decide +kernel
theorem d_Resolver_link_95 : decode b_Resolver_link 95 = .ok (.ishr, 1) := by decide +kernel
theorem d_Resolver_link_96 : decode b_Resolver_link 96 = .ok (.iconst 1, 1) := by decide +kernel
theorem d_Resolver_link_97 : decode b_Resolver_link 97 = .ok (.iand, 1) := by decide +kernel
theorem d_Resolver_link_98 : decode b_Resolver_link 98 = .ok (.ifCond .eq 16, 3) := by decide +kernel
theorem d_Resolver_link_101 : decode b_Resolver_link 101 = .ok (.aload_n 0, 1) := by decide +kernel
theorem d_Resolver_link_102 : decode b_Resolver_link 102 = .ok (.getfield 15, 3) := by decide +kernel
theorem d_Resolver_link_105 : decode b_Resolver_link 105 = .ok (.iload 5, 2) := by decide +kernel
theorem d_Resolver_link_107 : decode b_Resolver_link 107 = .ok (.dup2, 1) := by decide +kernel
theorem d_Resolver_link_108 : decode b_Resolver_link 108 = .ok (.iaload, 1) := by decide +kernel
theorem d_Resolver_link_109 : decode b_Resolver_link 109 = .ok (.iconst 1, 1) := by decide +kernel
theorem d_Resolver_link_110 : decode b_Resolver_link 110 = .ok (.iload_n 3, 1) := by decide +kernel
theorem d_Resolver_link_111 : decode b_Resolver_link 111 = .ok (.ishl, 1) := by decide +kernel
theorem d_Resolver_link_112 : decode b_Resolver_link 112 = .ok (.ior, 1) := by decide +kernel
theorem d_Resolver_link_113 : decode b_Resolver_link 113 = .ok (.iastore, 1) := by decide +kernel
theorem d_Resolver_link_114 : decode b_Resolver_link 114 = .ok (.iinc 5 1, 3) := by decide +kernel
theorem d_Resolver_link_117 : decode b_Resolver_link 117 = .ok (.goto (-33), 3) := by decide +kernel
theorem d_Resolver_link_120 : decode b_Resolver_link 120 = .ok (.iinc 2 1, 3) := by decide +kernel
theorem d_Resolver_link_123 : decode b_Resolver_link 123 = .ok (.goto (-113), 3) := by decide +kernel
theorem d_Resolver_link_126 : decode b_Resolver_link 126 = .ok (.return_, 1) := by decide +kernel
theorem d_Resolver_groupOf_0 : decode b_Resolver_groupOf 0 = .ok (.iconst 1, 1) := by decide +kernel
theorem d_Resolver_groupOf_1 : decode b_Resolver_groupOf 1 = .ok (.iload_n 1, 1) := by decide +kernel
theorem d_Resolver_groupOf_2 : decode b_Resolver_groupOf 2 = .ok (.ishl, 1) := by decide +kernel
theorem d_Resolver_groupOf_3 : decode b_Resolver_groupOf 3 = .ok (.istore_n 2, 1) := by decide +kernel
theorem d_Resolver_groupOf_4 : decode b_Resolver_groupOf 4 = .ok (.iconst 0, 1) := by decide +kernel
theorem d_Resolver_groupOf_5 : decode b_Resolver_groupOf 5 = .ok (.istore_n 3, 1) := by decide +kernel
theorem d_Resolver_groupOf_6 : decode b_Resolver_groupOf 6 = .ok (.iload_n 3, 1) := by decide +kernel
theorem d_Resolver_groupOf_7 : decode b_Resolver_groupOf 7 = .ok (.bipush 12, 2) := by decide +kernel
theorem d_Resolver_groupOf_9 : decode b_Resolver_groupOf 9 = .ok (.if_icmp .ge 44, 3) := by decide +kernel
theorem d_Resolver_groupOf_12 : decode b_Resolver_groupOf 12 = .ok (.iconst 0, 1) := by decide +kernel
theorem d_Resolver_groupOf_13 : decode b_Resolver_groupOf 13 = .ok (.istore 4, 2) := by decide +kernel
theorem d_Resolver_groupOf_15 : decode b_Resolver_groupOf 15 = .ok (.iload 4, 2) := by decide +kernel
theorem d_Resolver_groupOf_17 : decode b_Resolver_groupOf 17 = .ok (.bipush 12, 2) := by decide +kernel
theorem d_Resolver_groupOf_19 : decode b_Resolver_groupOf 19 = .ok (.if_icmp .ge 28, 3) := by decide +kernel
theorem d_Resolver_groupOf_22 : decode b_Resolver_groupOf 22 = .ok (.iload_n 2, 1) := by decide +kernel
theorem d_Resolver_groupOf_23 : decode b_Resolver_groupOf 23 = .ok (.iload 4, 2) := by decide +kernel
theorem d_Resolver_groupOf_25 : decode b_Resolver_groupOf 25 = .ok (.ishr, 1) := by decide +kernel
theorem d_Resolver_groupOf_26 : decode b_Resolver_groupOf 26 = .ok (.iconst 1, 1) := by decide +kernel
theorem d_Resolver_groupOf_27 : decode b_Resolver_groupOf 27 = .ok (.iand, 1) := by decide +kernel
theorem d_Resolver_groupOf_28 : decode b_Resolver_groupOf 28 = .ok (.ifCond .eq 13, 3) := by decide +kernel
theorem d_Resolver_groupOf_31 : decode b_Resolver_groupOf 31 = .ok (.iload_n 2, 1) := by decide +kernel
theorem d_Resolver_groupOf_32 : decode b_Resolver_groupOf 32 = .ok (.aload_n 0, 1) := by decide +kernel
theorem d_Resolver_groupOf_33 : decode b_Resolver_groupOf 33 = .ok (.getfield 15, 3) := by decide +kernel
theorem d_Resolver_groupOf_36 : decode b_Resolver_groupOf 36 = .ok (.iload 4, 2) := by decide +kernel
theorem d_Resolver_groupOf_38 : decode b_Resolver_groupOf 38 = .ok (.iaload, 1) := by decide +kernel
theorem d_Resolver_groupOf_39 : decode b_Resolver_groupOf 39 = .ok (.ior, 1) := by decide +kernel
theorem d_Resolver_groupOf_40 : decode b_Resolver_groupOf 40 = .ok (.istore_n 2, 1) := by decide +kernel
theorem d_Resolver_groupOf_41 : decode b_Resolver_groupOf 41 = .ok (.iinc 4 1, 3) := by decide +kernel
theorem d_Resolver_groupOf_44 : decode b_Resolver_groupOf 44 = .ok (.goto (-29), 3) := by decide +kernel
theorem d_Resolver_groupOf_47 : decode b_Resolver_groupOf 47 = .ok (.iinc 3 1, 3) := by decide +kernel
theorem d_Resolver_groupOf_50 : decode b_Resolver_groupOf 50 = .ok (.goto (-44), 3) := by decide +kernel
theorem d_Resolver_groupOf_53 : decode b_Resolver_groupOf 53 = .ok (.iload_n 2, 1) := by decide +kernel
theorem d_Resolver_groupOf_54 : decode b_Resolver_groupOf 54 = .ok (.ireturn, 1) := by decide +kernel
theorem d_Resolver_choose_0 : decode b_Resolver_choose 0 = .ok (.iload_n 1, 1) := by decide +kernel
theorem d_Resolver_choose_1 : decode b_Resolver_choose 1 = .ok (.ifCond .lt 9, 3) := by decide +kernel
theorem d_Resolver_choose_4 : decode b_Resolver_choose 4 = .ok (.iload_n 1, 1) := by decide +kernel
theorem d_Resolver_choose_5 : decode b_Resolver_choose 5 = .ok (.bipush 12, 2) := by decide +kernel
theorem d_Resolver_choose_7 : decode b_Resolver_choose 7 = .ok (.if_icmp .lt 5, 3) := by decide +kernel
theorem d_Resolver_choose_10 : decode b_Resolver_choose 10 = .ok (.iconst 0, 1) := by decide +kernel
theorem d_Resolver_choose_11 : decode b_Resolver_choose 11 = .ok (.ireturn, 1) := by decide +kernel
theorem d_Resolver_choose_12 : decode b_Resolver_choose 12 = .ok (.aload_n 0, 1) := by decide +kernel
theorem d_Resolver_choose_13 : decode b_Resolver_choose 13 = .ok (.iconst 2, 1) := by decide +kernel
theorem d_Resolver_choose_14 : decode b_Resolver_choose 14 = .ok (.iload_n 1, 1) := by decide +kernel
theorem d_Resolver_choose_15 : decode b_Resolver_choose 15 = .ok (.invokevirtual 77, 3) := by decide +kernel
theorem d_Resolver_choose_18 : decode b_Resolver_choose 18 = .ok (.aload_n 0, 1) := by decide +kernel
theorem d_Resolver_choose_19 : decode b_Resolver_choose 19 = .ok (.getfield 81, 3) := by decide +kernel
theorem d_Resolver_choose_22 : decode b_Resolver_choose 22 = .ok (.ifCond .le 22, 3) := by decide +kernel
theorem d_Resolver_choose_25 : decode b_Resolver_choose 25 = .ok (.aload_n 0, 1) := by decide +kernel
theorem d_Resolver_choose_26 : decode b_Resolver_choose 26 = .ok (.iconst 2, 1) := by decide +kernel
theorem d_Resolver_choose_27 : decode b_Resolver_choose 27 = .ok (.invokevirtual 84, 3) := by decide +kernel
theorem d_Resolver_choose_30 : decode b_Resolver_choose 30 = .ok (.istore_n 2, 1) := by decide +kernel
theorem d_Resolver_choose_31 : decode b_Resolver_choose 31 = .ok (.iload_n 2, 1) := by decide +kernel
theorem d_Resolver_choose_32 : decode b_Resolver_choose 32 = .ok (.iconst (-1), 1) := by decide +kernel
theorem d_Resolver_choose_33 : decode b_Resolver_choose 33 = .ok (.if_icmp .ne 44, 3) := by decide +kernel
theorem d_Resolver_choose_36 : decode b_Resolver_choose 36 = .ok (.aload_n 0, 1) := by decide +kernel
theorem d_Resolver_choose_37 : decode b_Resolver_choose 37 = .ok (.invokevirtual 87, 3) := by decide +kernel
theorem d_Resolver_choose_40 : decode b_Resolver_choose 40 = .ok (.istore_n 2, 1) := by decide +kernel
theorem d_Resolver_choose_41 : decode b_Resolver_choose 41 = .ok (.goto 36, 3) := by decide +kernel
theorem d_Resolver_choose_44 : decode b_Resolver_choose 44 = .ok (.aload_n 0, 1) := by decide +kernel
theorem d_Resolver_choose_45 : decode b_Resolver_choose 45 = .ok (.iconst 1, 1) := by decide +kernel
theorem d_Resolver_choose_46 : decode b_Resolver_choose 46 = .ok (.iload_n 1, 1) := by decide +kernel
theorem d_Resolver_choose_47 : decode b_Resolver_choose 47 = .ok (.invokevirtual 77, 3) := by decide +kernel
theorem d_Resolver_choose_50 : decode b_Resolver_choose 50 = .ok (.aload_n 0, 1) := by decide +kernel
theorem d_Resolver_choose_51 : decode b_Resolver_choose 51 = .ok (.getfield 81, 3) := by decide +kernel
theorem d_Resolver_choose_54 : decode b_Resolver_choose 54 = .ok (.ifCond .le 11, 3) := by decide +kernel
theorem d_Resolver_choose_57 : decode b_Resolver_choose 57 = .ok (.aload_n 0, 1) := by decide +kernel
theorem d_Resolver_choose_58 : decode b_Resolver_choose 58 = .ok (.iconst 1, 1) := by decide +kernel
theorem d_Resolver_choose_59 : decode b_Resolver_choose 59 = .ok (.invokevirtual 84, 3) := by decide +kernel
theorem d_Resolver_choose_62 : decode b_Resolver_choose 62 = .ok (.goto 14, 3) := by decide +kernel
theorem d_Resolver_choose_65 : decode b_Resolver_choose 65 = .ok (.aload_n 0, 1) := by decide +kernel
theorem d_Resolver_choose_66 : decode b_Resolver_choose 66 = .ok (.getfield 25, 3) := by decide +kernel
theorem d_Resolver_choose_69 : decode b_Resolver_choose 69 = .ok (.iconst 0, 1) := by decide +kernel
theorem d_Resolver_choose_70 : decode b_Resolver_choose 70 = .ok (.iconst 0, 1) := by decide +kernel
theorem d_Resolver_choose_71 : decode b_Resolver_choose 71 = .ok (.iconst (-1), 1) := by decide +kernel
theorem d_Resolver_choose_72 : decode b_Resolver_choose 72 = .ok (.iconst (-1), 1) := by decide +kernel
theorem d_Resolver_choose_73 : decode b_Resolver_choose 73 = .ok (.invokevirtual 91, 3) := by decide +kernel
theorem d_Resolver_choose_76 : decode b_Resolver_choose 76 = .ok (.istore_n 2, 1) := by decide +kernel
theorem d_Resolver_choose_77 : decode b_Resolver_choose 77 = .ok (.aload_n 0, 1) := by decide +kernel
theorem d_Resolver_choose_78 : decode b_Resolver_choose 78 = .ok (.getfield 18, 3) := by decide +kernel
theorem d_Resolver_choose_81 : decode b_Resolver_choose 81 = .ok (.iload_n 1, 1) := by decide +kernel
theorem d_Resolver_choose_82 : decode b_Resolver_choose 82 = .ok (.iload_n 2, 1) := by decide +kernel
theorem d_Resolver_choose_83 : decode b_Resolver_choose 83 = .ok (.iastore, 1) := by decide +kernel
theorem d_Resolver_choose_84 : decode b_Resolver_choose 84 = .ok (.iload_n 2, 1) := by decide +kernel
theorem d_Resolver_choose_85 : decode b_Resolver_choose 85 = .ok (.ifCond .lt 5, 3) := by decide +kernel
theorem d_Resolver_choose_88 : decode b_Resolver_choose 88 = .ok (.iconst 1, 1) := by decide +kernel
theorem d_Resolver_choose_89 : decode b_Resolver_choose 89 = .ok (.ireturn, 1) := by decide +kernel
theorem d_Resolver_choose_90 : decode b_Resolver_choose 90 = .ok (.iload_n 2, 1) := by decide +kernel
theorem d_Resolver_choose_91 : decode b_Resolver_choose 91 = .ok (.bipush (-3), 2) := by decide +kernel
theorem d_Resolver_choose_93 : decode b_Resolver_choose 93 = .ok (.if_icmp .ne 8, 3) := by decide +kernel
theorem d_Resolver_choose_96 : decode b_Resolver_choose 96 = .ok (.bipush (-3), 2) := by decide +kernel
theorem d_Resolver_choose_98 : decode b_Resolver_choose 98 = .ok (.goto 4, 3) := by decide +kernel
theorem d_Resolver_choose_101 : decode b_Resolver_choose 101 = .ok (.iconst 0, 1) := by decide +kernel
theorem d_Resolver_choose_102 : decode b_Resolver_choose 102 = .ok (.ireturn, 1) := by decide +kernel
theorem d_Resolver_gather_0 : decode b_Resolver_gather 0 = .ok (.aload_n 0, 1) := by decide +kernel
theorem d_Resolver_gather_1 : decode b_Resolver_gather 1 = .ok (.iconst 0, 1) := by decide +kernel
theorem d_Resolver_gather_2 : decode b_Resolver_gather 2 = .ok (.putfield 81, 3) := by decide +kernel
theorem d_Resolver_gather_5 : decode b_Resolver_gather 5 = .ok (.iconst 0, 1) := by decide +kernel
theorem d_Resolver_gather_6 : decode b_Resolver_gather 6 = .ok (.istore_n 3, 1) := by decide +kernel
theorem d_Resolver_gather_7 : decode b_Resolver_gather 7 = .ok (.iload_n 3, 1) := by decide +kernel
theorem d_Resolver_gather_8 : decode b_Resolver_gather 8 = .ok (.aload_n 0, 1) := by decide +kernel
theorem d_Resolver_gather_9 : decode b_Resolver_gather 9 = .ok (.getfield 29, 3) := by decide +kernel
theorem d_Resolver_gather_12 : decode b_Resolver_gather 12 = .ok (.getfield 62, 3) := by decide +kernel
theorem d_Resolver_gather_15 : decode b_Resolver_gather 15 = .ok (.if_icmp .ge 94, 3) := by decide +kernel
theorem d_Resolver_gather_18 : decode b_Resolver_gather 18 = .ok (.aload_n 0, 1) := by decide +kernel
theorem d_Resolver_gather_19 : decode b_Resolver_gather 19 = .ok (.getfield 81, 3) := by decide +kernel
theorem d_Resolver_gather_22 : decode b_Resolver_gather 22 = .ok (.sipush 200, 3) := by decide +kernel
theorem d_Resolver_gather_25 : decode b_Resolver_gather 25 = .ok (.if_icmp .ge 84, 3) := by decide +kernel
theorem d_Resolver_gather_28 : decode b_Resolver_gather 28 = .ok (.aload_n 0, 1) := by decide +kernel
theorem d_Resolver_gather_29 : decode b_Resolver_gather 29 = .ok (.getfield 29, 3) := by decide +kernel
theorem d_Resolver_gather_32 : decode b_Resolver_gather 32 = .ok (.iload_n 3, 1) := by decide +kernel
theorem d_Resolver_gather_33 : decode b_Resolver_gather 33 = .ok (.invokevirtual 95, 3) := by decide +kernel
theorem d_Resolver_gather_36 : decode b_Resolver_gather 36 = .ok (.iload_n 1, 1) := by decide +kernel
theorem d_Resolver_gather_37 : decode b_Resolver_gather 37 = .ok (.if_icmp .ne 66, 3) := by decide +kernel
theorem d_Resolver_gather_40 : decode b_Resolver_gather 40 = .ok (.aload_n 0, 1) := by decide +kernel
theorem d_Resolver_gather_41 : decode b_Resolver_gather 41 = .ok (.getfield 29, 3) := by decide +kernel
theorem d_Resolver_gather_44 : decode b_Resolver_gather 44 = .ok (.iload_n 3, 1) := by decide +kernel
theorem d_Resolver_gather_45 : decode b_Resolver_gather 45 = .ok (.invokevirtual 66, 3) := by decide +kernel
theorem d_Resolver_gather_48 : decode b_Resolver_gather 48 = .ok (.iload_n 2, 1) := by decide +kernel
theorem d_Resolver_gather_49 : decode b_Resolver_gather 49 = .ok (.if_icmp .eq 6, 3) := by decide +kernel
theorem d_Resolver_gather_52 : decode b_Resolver_gather 52 = .ok (.goto 51, 3) := by decide +kernel
theorem d_Resolver_gather_55 : decode b_Resolver_gather 55 = .ok (.aload_n 0, 1) := by decide +kernel
theorem d_Resolver_gather_56 : decode b_Resolver_gather 56 = .ok (.getfield 25, 3) := by decide +kernel
theorem d_Resolver_gather_59 : decode b_Resolver_gather 59 = .ok (.aload_n 0, 1) := by decide +kernel
theorem d_Resolver_gather_60 : decode b_Resolver_gather 60 = .ok (.getfield 29, 3) := by decide +kernel
theorem d_Resolver_gather_63 : decode b_Resolver_gather 63 = .ok (.iload_n 3, 1) := by decide +kernel
theorem d_Resolver_gather_64 : decode b_Resolver_gather 64 = .ok (.invokevirtual 69, 3) := by decide +kernel
theorem d_Resolver_gather_67 : decode b_Resolver_gather 67 = .ok (.invokevirtual 98, 3) := by decide +kernel
theorem d_Resolver_gather_70 : decode b_Resolver_gather 70 = .ok (.ifCond .ne 6, 3) := by decide +kernel
theorem d_Resolver_gather_73 : decode b_Resolver_gather 73 = .ok (.goto 30, 3) := by decide +kernel
theorem d_Resolver_gather_76 : decode b_Resolver_gather 76 = .ok (.aload_n 0, 1) := by decide +kernel
theorem d_Resolver_gather_77 : decode b_Resolver_gather 77 = .ok (.getfield 9, 3) := by decide +kernel
theorem d_Resolver_gather_80 : decode b_Resolver_gather 80 = .ok (.aload_n 0, 1) := by decide +kernel
theorem d_Resolver_gather_81 : decode b_Resolver_gather 81 = .ok (.getfield 81, 3) := by decide +kernel
theorem d_Resolver_gather_84 : decode b_Resolver_gather 84 = .ok (.aload_n 0, 1) := by decide +kernel
theorem d_Resolver_gather_85 : decode b_Resolver_gather 85 = .ok (.getfield 29, 3) := by decide +kernel
theorem d_Resolver_gather_88 : decode b_Resolver_gather 88 = .ok (.iload_n 3, 1) := by decide +kernel
theorem d_Resolver_gather_89 : decode b_Resolver_gather 89 = .ok (.invokevirtual 69, 3) := by decide +kernel
theorem d_Resolver_gather_92 : decode b_Resolver_gather 92 = .ok (.iastore, 1) := by decide +kernel
theorem d_Resolver_gather_93 : decode b_Resolver_gather 93 = .ok (.aload_n 0, 1) := by decide +kernel
theorem d_Resolver_gather_94 : decode b_Resolver_gather 94 = .ok (.dup, 1) := by decide +kernel
theorem d_Resolver_gather_95 : decode b_Resolver_gather 95 = .ok (.getfield 81, 3) := by decide +kernel
theorem d_Resolver_gather_98 : decode b_Resolver_gather 98 = .ok (.iconst 1, 1) := by decide +kernel
theorem d_Resolver_gather_99 : decode b_Resolver_gather 99 = .ok (.iadd, 1) := by decide +kernel
theorem d_Resolver_gather_100 : decode b_Resolver_gather 100 = .ok (.putfield 81, 3) := by decide +kernel
theorem d_Resolver_gather_103 : decode b_Resolver_gather 103 = .ok (.iinc 3 1, 3) := by decide +kernel
theorem d_Resolver_gather_106 : decode b_Resolver_gather 106 = .ok (.goto (-99), 3) := by decide +kernel
theorem d_Resolver_gather_109 : decode b_Resolver_gather 109 = .ok (.return_, 1) := by decide +kernel
theorem d_Resolver_outermost_0 : decode b_Resolver_outermost 0 = .ok (.iconst 0, 1) := by decide +kernel
theorem d_Resolver_outermost_1 : decode b_Resolver_outermost 1 = .ok (.istore_n 2, 1) := by decide +kernel
theorem d_Resolver_outermost_2 : decode b_Resolver_outermost 2 = .ok (.iload_n 2, 1) := by decide +kernel
theorem d_Resolver_outermost_3 : decode b_Resolver_outermost 3 = .ok (.aload_n 0, 1) := by decide +kernel
theorem d_Resolver_outermost_4 : decode b_Resolver_outermost 4 = .ok (.getfield 81, 3) := by decide +kernel
theorem d_Resolver_outermost_7 : decode b_Resolver_outermost 7 = .ok (.if_icmp .ge 128, 3) := by decide +kernel
theorem d_Resolver_outermost_10 : decode b_Resolver_outermost 10 = .ok (.iconst 1, 1) := by decide +kernel
theorem d_Resolver_outermost_11 : decode b_Resolver_outermost 11 = .ok (.istore_n 3, 1) := by decide +kernel
theorem d_Resolver_outermost_12 : decode b_Resolver_outermost 12 = .ok (.iconst 0, 1) := by decide +kernel
theorem d_Resolver_outermost_13 : decode b_Resolver_outermost 13 = .ok (.istore 4, 2) := by decide +kernel
theorem d_Resolver_outermost_15 : decode b_Resolver_outermost 15 = .ok (.iload 4, 2) := by decide +kernel
theorem d_Resolver_outermost_17 : decode b_Resolver_outermost 17 = .ok (.aload_n 0, 1) := by decide +kernel
theorem d_Resolver_outermost_18 : decode b_Resolver_outermost 18 = .ok (.getfield 81, 3) := by decide +kernel
theorem d_Resolver_outermost_21 : decode b_Resolver_outermost 21 = .ok (.if_icmp .ge 87, 3) := by decide +kernel
theorem d_Resolver_outermost_24 : decode b_Resolver_outermost 24 = .ok (.iload_n 3, 1) := by decide +kernel
theorem d_Resolver_outermost_25 : decode b_Resolver_outermost 25 = .ok (.iconst 1, 1) := by decide +kernel
theorem d_Resolver_outermost_26 : decode b_Resolver_outermost 26 = .ok (.if_icmp .ne 82, 3) := by decide +kernel
theorem d_Resolver_outermost_29 : decode b_Resolver_outermost 29 = .ok (.iload 4, 2) := by decide +kernel
theorem d_Resolver_outermost_31 : decode b_Resolver_outermost 31 = .ok (.iload_n 2, 1) := by decide +kernel
theorem d_Resolver_outermost_32 : decode b_Resolver_outermost 32 = .ok (.if_icmp .ne 6, 3) := by decide +kernel
theorem d_Resolver_outermost_35 : decode b_Resolver_outermost 35 = .ok (.goto 67, 3) := by decide +kernel
theorem d_Resolver_outermost_38 : decode b_Resolver_outermost 38 = .ok (.iload_n 1, 1) := by decide +kernel
theorem d_Resolver_outermost_39 : decode b_Resolver_outermost 39 = .ok (.iconst 2, 1) := by decide +kernel
theorem d_Resolver_outermost_40 : decode b_Resolver_outermost 40 = .ok (.if_icmp .ne 27, 3) := by decide +kernel
theorem d_Resolver_outermost_43 : decode b_Resolver_outermost 43 = .ok (.aload_n 0, 1) := by decide +kernel
theorem d_Resolver_outermost_44 : decode b_Resolver_outermost 44 = .ok (.getfield 33, 3) := by decide +kernel
theorem d_Resolver_outermost_47 : decode b_Resolver_outermost 47 = .ok (.iconst 1, 1) := by decide +kernel
theorem d_Resolver_outermost_48 : decode b_Resolver_outermost 48 = .ok (.aload_n 0, 1) := by decide +kernel
theorem d_Resolver_outermost_49 : decode b_Resolver_outermost 49 = .ok (.getfield 9, 3) := by decide +kernel
theorem d_Resolver_outermost_52 : decode b_Resolver_outermost 52 = .ok (.iload 4, 2) := by decide +kernel
theorem d_Resolver_outermost_54 : decode b_Resolver_outermost 54 = .ok (.iaload, 1) := by decide +kernel
theorem d_Resolver_outermost_55 : decode b_Resolver_outermost 55 = .ok (.aload_n 0, 1) := by decide +kernel
theorem d_Resolver_outermost_56 : decode b_Resolver_outermost 56 = .ok (.getfield 9, 3) := by decide +kernel
theorem d_Resolver_outermost_59 : decode b_Resolver_outermost 59 = .ok (.iload_n 2, 1) := by decide +kernel
theorem d_Resolver_outermost_60 : decode b_Resolver_outermost 60 = .ok (.iaload, 1) := by decide +kernel
theorem d_Resolver_outermost_61 : decode b_Resolver_outermost 61 = .ok (.invokevirtual 102, 3) := by decide +kernel
theorem d_Resolver_outermost_64 : decode b_Resolver_outermost 64 = .ok (.goto 24, 3) := by decide +kernel
theorem d_Resolver_outermost_67 : decode b_Resolver_outermost 67 = .ok (.aload_n 0, 1) := by decide +kernel
theorem d_Resolver_outermost_68 : decode b_Resolver_outermost 68 = .ok (.getfield 33, 3) := by decide +kernel
theorem d_Resolver_outermost_71 : decode b_Resolver_outermost 71 = .ok (.iconst 1, 1) := by decide +kernel
theorem d_Resolver_outermost_72 : decode b_Resolver_outermost 72 = .ok (.aload_n 0, 1) := by decide +kernel
theorem d_Resolver_outermost_73 : decode b_Resolver_outermost 73 = .ok (.getfield 9, 3) := by decide +kernel
theorem d_Resolver_outermost_76 : decode b_Resolver_outermost 76 = .ok (.iload_n 2, 1) := by decide +kernel
theorem d_Resolver_outermost_77 : decode b_Resolver_outermost 77 = .ok (.iaload, 1) := by decide +kernel
theorem d_Resolver_outermost_78 : decode b_Resolver_outermost 78 = .ok (.aload_n 0, 1) := by decide +kernel
theorem d_Resolver_outermost_79 : decode b_Resolver_outermost 79 = .ok (.getfield 9, 3) := by decide +kernel
theorem d_Resolver_outermost_82 : decode b_Resolver_outermost 82 = .ok (.iload 4, 2) := by decide +kernel
theorem d_Resolver_outermost_84 : decode b_Resolver_outermost 84 = .ok (.iaload, 1) := by decide +kernel
theorem d_Resolver_outermost_85 : decode b_Resolver_outermost 85 = .ok (.invokevirtual 102, 3) := by decide +kernel
theorem d_Resolver_outermost_88 : decode b_Resolver_outermost 88 = .ok (.istore_n 3, 1) := by decide +kernel
theorem d_Resolver_outermost_89 : decode b_Resolver_outermost 89 = .ok (.iload_n 3, 1) := by decide +kernel
theorem d_Resolver_outermost_90 : decode b_Resolver_outermost 90 = .ok (.iconst 1, 1) := by decide +kernel
theorem d_Resolver_outermost_91 : decode b_Resolver_outermost 91 = .ok (.if_icmp .ne 11, 3) := by decide +kernel
theorem d_Resolver_outermost_94 : decode b_Resolver_outermost 94 = .ok (.aload_n 0, 1) := by decide +kernel
theorem d_Resolver_outermost_95 : decode b_Resolver_outermost 95 = .ok (.getfield 33, 3) := by decide +kernel
theorem d_Resolver_outermost_98 : decode b_Resolver_outermost 98 = .ok (.invokevirtual 108, 3) := by decide +kernel
theorem d_Resolver_outermost_101 : decode b_Resolver_outermost 101 = .ok (.istore_n 3, 1) := by decide +kernel
theorem d_Resolver_outermost_102 : decode b_Resolver_outermost 102 = .ok (.iinc 4 1, 3) := by decide +kernel
theorem d_Resolver_outermost_105 : decode b_Resolver_outermost 105 = .ok (.goto (-90), 3) := by decide +kernel
theorem d_Resolver_outermost_108 : decode b_Resolver_outermost 108 = .ok (.iload_n 3, 1) := by decide +kernel
theorem d_Resolver_outermost_109 : decode b_Resolver_outermost 109 = .ok (.bipush (-3), 2) := by decide +kernel
theorem d_Resolver_outermost_111 : decode b_Resolver_outermost 111 = .ok (.if_icmp .ne 6, 3) := by decide +kernel
theorem d_Resolver_outermost_114 : decode b_Resolver_outermost 114 = .ok (.bipush (-3), 2) := by decide +kernel
theorem d_Resolver_outermost_116 : decode b_Resolver_outermost 116 = .ok (.ireturn, 1) := by decide +kernel
theorem d_Resolver_outermost_117 : decode b_Resolver_outermost 117 = .ok (.iload_n 3, 1) := by decide +kernel
theorem d_Resolver_outermost_118 : decode b_Resolver_outermost 118 = .ok (.iconst 1, 1) := by decide +kernel
theorem d_Resolver_outermost_119 : decode b_Resolver_outermost 119 = .ok (.if_icmp .ne 10, 3) := by decide +kernel
theorem d_Resolver_outermost_122 : decode b_Resolver_outermost 122 = .ok (.aload_n 0, 1) := by decide +kernel
theorem d_Resolver_outermost_123 : decode b_Resolver_outermost 123 = .ok (.getfield 9, 3) := by decide +kernel
theorem d_Resolver_outermost_126 : decode b_Resolver_outermost 126 = .ok (.iload_n 2, 1) := by decide +kernel
theorem d_Resolver_outermost_127 : decode b_Resolver_outermost 127 = .ok (.iaload, 1) := by decide +kernel
theorem d_Resolver_outermost_128 : decode b_Resolver_outermost 128 = .ok (.ireturn, 1) := by decide +kernel
theorem d_Resolver_outermost_129 : decode b_Resolver_outermost 129 = .ok (.iinc 2 1, 3) := by decide +kernel
theorem d_Resolver_outermost_132 : decode b_Resolver_outermost 132 = .ok (.goto (-130), 3) := by decide +kernel
theorem d_Resolver_outermost_135 : decode b_Resolver_outermost 135 = .ok (.iconst (-1), 1) := by decide +kernel
theorem d_Resolver_outermost_136 : decode b_Resolver_outermost 136 = .ok (.ireturn, 1) := by decide +kernel
theorem d_Resolver_joinOfClasses_0 : decode b_Resolver_joinOfClasses 0 = .ok (.lconst 0, 1) := by decide +kernel
theorem d_Resolver_joinOfClasses_1 : decode b_Resolver_joinOfClasses 1 = .ok (.lstore_n 1, 1) := by decide +kernel
theorem d_Resolver_joinOfClasses_2 : decode b_Resolver_joinOfClasses 2 = .ok (.iconst 0, 1) := by decide +kernel
theorem d_Resolver_joinOfClasses_3 : decode b_Resolver_joinOfClasses 3 = .ok (.istore_n 3, 1) := by decide +kernel
theorem d_Resolver_joinOfClasses_4 : decode b_Resolver_joinOfClasses 4 = .ok (.iload_n 3, 1) := by decide +kernel
theorem d_Resolver_joinOfClasses_5 : decode b_Resolver_joinOfClasses 5 = .ok (.aload_n 0, 1) := by decide +kernel
theorem d_Resolver_joinOfClasses_6 : decode b_Resolver_joinOfClasses 6 = .ok (.getfield 21, 3) := by decide +kernel
theorem d_Resolver_joinOfClasses_9 : decode b_Resolver_joinOfClasses 9 = .ok (.getfield 111, 3) := by decide +kernel
theorem d_Resolver_joinOfClasses_12 : decode b_Resolver_joinOfClasses 12 = .ok (.if_icmp .ge 38, 3) := by decide +kernel
theorem d_Resolver_joinOfClasses_15 : decode b_Resolver_joinOfClasses 15 = .ok (.aload_n 0, 1) := by decide +kernel
theorem d_Resolver_joinOfClasses_16 : decode b_Resolver_joinOfClasses 16 = .ok (.iload_n 3, 1) := by decide +kernel
theorem d_Resolver_joinOfClasses_17 : decode b_Resolver_joinOfClasses 17 = .ok (.invokevirtual 114, 3) := by decide +kernel
theorem d_Resolver_joinOfClasses_20 : decode b_Resolver_joinOfClasses 20 = .ok (.istore 4, 2) := by decide +kernel
theorem d_Resolver_joinOfClasses_22 : decode b_Resolver_joinOfClasses 22 = .ok (.iload 4, 2) := by decide +kernel
theorem d_Resolver_joinOfClasses_24 : decode b_Resolver_joinOfClasses 24 = .ok (.bipush (-3), 2) := by decide +kernel
theorem d_Resolver_joinOfClasses_26 : decode b_Resolver_joinOfClasses 26 = .ok (.if_icmp .ne 6, 3) := by decide +kernel
theorem d_Resolver_joinOfClasses_29 : decode b_Resolver_joinOfClasses 29 = .ok (.bipush (-3), 2) := by decide +kernel
theorem d_Resolver_joinOfClasses_31 : decode b_Resolver_joinOfClasses 31 = .ok (.ireturn, 1) := by decide +kernel
theorem d_Resolver_joinOfClasses_32 : decode b_Resolver_joinOfClasses 32 = .ok (.iload 4, 2) := by decide +kernel
theorem d_Resolver_joinOfClasses_34 : decode b_Resolver_joinOfClasses 34 = .ok (.iconst 1, 1) := by decide +kernel
theorem d_Resolver_joinOfClasses_35 : decode b_Resolver_joinOfClasses 35 = .ok (.if_icmp .ne 9, 3) := by decide +kernel
theorem d_Resolver_joinOfClasses_38 : decode b_Resolver_joinOfClasses 38 = .ok (.lload_n 1, 1) := by decide +kernel
theorem d_Resolver_joinOfClasses_39 : decode b_Resolver_joinOfClasses 39 = .ok (.lconst 1, 1) := by decide +kernel
theorem d_Resolver_joinOfClasses_40 : decode b_Resolver_joinOfClasses 40 = .ok (.iload_n 3, 1) := by decide +kernel
theorem d_Resolver_joinOfClasses_41 : decode b_Resolver_joinOfClasses 41 = .ok (.lshl, 1) := by decide +kernel
theorem d_Resolver_joinOfClasses_42 : decode b_Resolver_joinOfClasses 42 = .ok (.lor, 1) := by decide +kernel
theorem d_Resolver_joinOfClasses_43 : decode b_Resolver_joinOfClasses 43 = .ok (.lstore_n 1, 1) := by decide +kernel
theorem d_Resolver_joinOfClasses_44 : decode b_Resolver_joinOfClasses 44 = .ok (.iinc 3 1, 3) := by decide +kernel
theorem d_Resolver_joinOfClasses_47 : decode b_Resolver_joinOfClasses 47 = .ok (.goto (-43), 3) := by decide +kernel
theorem d_Resolver_joinOfClasses_50 : decode b_Resolver_joinOfClasses 50 = .ok (.iconst 0, 1) := by decide +kernel
theorem d_Resolver_joinOfClasses_51 : decode b_Resolver_joinOfClasses 51 = .ok (.istore_n 3, 1) := by decide +kernel
theorem d_Resolver_joinOfClasses_52 : decode b_Resolver_joinOfClasses 52 = .ok (.iload_n 3, 1) := by decide +kernel
theorem d_Resolver_joinOfClasses_53 : decode b_Resolver_joinOfClasses 53 = .ok (.aload_n 0, 1) := by decide +kernel
theorem d_Resolver_joinOfClasses_54 : decode b_Resolver_joinOfClasses 54 = .ok (.getfield 21, 3) := by decide +kernel
theorem d_Resolver_joinOfClasses_57 : decode b_Resolver_joinOfClasses 57 = .ok (.getfield 111, 3) := by decide +kernel
theorem d_Resolver_joinOfClasses_60 : decode b_Resolver_joinOfClasses 60 = .ok (.if_icmp .ge 51, 3) := by decide +kernel
theorem d_Resolver_joinOfClasses_63 : decode b_Resolver_joinOfClasses 63 = .ok (.lload_n 1, 1) := by decide +kernel
theorem d_Resolver_joinOfClasses_64 : decode b_Resolver_joinOfClasses 64 = .ok (.iload_n 3, 1) := by decide +kernel
theorem d_Resolver_joinOfClasses_65 : decode b_Resolver_joinOfClasses 65 = .ok (.lshr, 1) := by decide +kernel
theorem d_Resolver_joinOfClasses_66 : decode b_Resolver_joinOfClasses 66 = .ok (.lconst 1, 1) := by decide +kernel
theorem d_Resolver_joinOfClasses_67 : decode b_Resolver_joinOfClasses 67 = .ok (.land, 1) := by decide +kernel
theorem d_Resolver_joinOfClasses_68 : decode b_Resolver_joinOfClasses 68 = .ok (.lconst 0, 1) := by decide +kernel
theorem d_Resolver_joinOfClasses_69 : decode b_Resolver_joinOfClasses 69 = .ok (.lcmp, 1) := by decide +kernel
theorem d_Resolver_joinOfClasses_70 : decode b_Resolver_joinOfClasses 70 = .ok (.ifCond .ne 6, 3) := by decide +kernel
theorem d_Resolver_joinOfClasses_73 : decode b_Resolver_joinOfClasses 73 = .ok (.goto 32, 3) := by decide +kernel
theorem d_Resolver_joinOfClasses_76 : decode b_Resolver_joinOfClasses 76 = .ok (.aload_n 0, 1) := by decide +kernel
theorem d_Resolver_joinOfClasses_77 : decode b_Resolver_joinOfClasses 77 = .ok (.iload_n 3, 1) := by decide +kernel
theorem d_Resolver_joinOfClasses_78 : decode b_Resolver_joinOfClasses 78 = .ok (.lload_n 1, 1) := by decide +kernel
theorem d_Resolver_joinOfClasses_79 : decode b_Resolver_joinOfClasses 79 = .ok (.invokevirtual 117, 3) := by decide +kernel
theorem d_Resolver_joinOfClasses_82 : decode b_Resolver_joinOfClasses 82 = .ok (.istore 4, 2) := by decide +kernel
theorem d_Resolver_joinOfClasses_84 : decode b_Resolver_joinOfClasses 84 = .ok (.iload 4, 2) := by decide +kernel
theorem d_Resolver_joinOfClasses_86 : decode b_Resolver_joinOfClasses 86 = .ok (.bipush (-3), 2) := by decide +kernel
theorem d_Resolver_joinOfClasses_88 : decode b_Resolver_joinOfClasses 88 = .ok (.if_icmp .ne 6, 3) := by decide +kernel
theorem d_Resolver_joinOfClasses_91 : decode b_Resolver_joinOfClasses 91 = .ok (.bipush (-3), 2) := by decide +kernel
theorem d_Resolver_joinOfClasses_93 : decode b_Resolver_joinOfClasses 93 = .ok (.ireturn, 1) := by decide +kernel
theorem d_Resolver_joinOfClasses_94 : decode b_Resolver_joinOfClasses 94 = .ok (.iload 4, 2) := by decide +kernel
theorem d_Resolver_joinOfClasses_96 : decode b_Resolver_joinOfClasses 96 = .ok (.ifCond .ne 9, 3) := by decide +kernel
theorem d_Resolver_joinOfClasses_99 : decode b_Resolver_joinOfClasses 99 = .ok (.aload_n 0, 1) := by decide +kernel
theorem d_Resolver_joinOfClasses_100 : decode b_Resolver_joinOfClasses 100 = .ok (.iload_n 3, 1) := by decide +kernel
theorem d_Resolver_joinOfClasses_101 : decode b_Resolver_joinOfClasses 101 = .ok (.invokevirtual 121, 3) := by decide +kernel
theorem d_Resolver_joinOfClasses_104 : decode b_Resolver_joinOfClasses 104 = .ok (.ireturn, 1) := by decide +kernel
theorem d_Resolver_joinOfClasses_105 : decode b_Resolver_joinOfClasses 105 = .ok (.iinc 3 1, 3) := by decide +kernel
theorem d_Resolver_joinOfClasses_108 : decode b_Resolver_joinOfClasses 108 = .ok (.goto (-56), 3) := by decide +kernel
theorem d_Resolver_joinOfClasses_111 : decode b_Resolver_joinOfClasses 111 = .ok (.iconst (-1), 1) := by decide +kernel
theorem d_Resolver_joinOfClasses_112 : decode b_Resolver_joinOfClasses 112 = .ok (.ireturn, 1) := by decide +kernel
end
section
theorem d_Resolver_isAboveAll_0 : decode b_Resolver_isAboveAll 0 = .ok (.iconst 0, 1) := by decide +kernel
theorem d_Resolver_isAboveAll_1 : decode b_Resolver_isAboveAll 1 = .ok (.istore_n 2, 1) := by decide +kernel
theorem d_Resolver_isAboveAll_2 : decode b_Resolver_isAboveAll 2 = .ok (.iload_n 2, 1) := by decide +kernel
theorem d_Resolver_isAboveAll_3 : decode b_Resolver_isAboveAll 3 = .ok (.aload_n 0, 1) := by decide +kernel
theorem d_Resolver_isAboveAll_4 : decode b_Resolver_isAboveAll 4 = .ok (.getfield 81, 3) := by decide +kernel
theorem d_Resolver_isAboveAll_7 : decode b_Resolver_isAboveAll 7 = .ok (.if_icmp .ge 39, 3) := by decide +kernel
theorem d_Resolver_isAboveAll_10 : decode b_Resolver_isAboveAll 10 = .ok (.aload_n 0, 1) := by decide +kernel
theorem d_Resolver_isAboveAll_11 : decode b_Resolver_isAboveAll 11 = .ok (.getfield 33, 3) := by decide +kernel
theorem d_Resolver_isAboveAll_14 : decode b_Resolver_isAboveAll 14 = .ok (.aload_n 0, 1) := by decide +kernel
theorem d_Resolver_isAboveAll_15 : decode b_Resolver_isAboveAll 15 = .ok (.getfield 9, 3) := by decide +kernel
theorem d_Resolver_isAboveAll_18 : decode b_Resolver_isAboveAll 18 = .ok (.iload_n 2, 1) := by decide +kernel
theorem d_Resolver_isAboveAll_19 : decode b_Resolver_isAboveAll 19 = .ok (.iaload, 1) := by decide +kernel
theorem d_Resolver_isAboveAll_20 : decode b_Resolver_isAboveAll 20 = .ok (.iload_n 1, 1) := by decide +kernel
theorem d_Resolver_isAboveAll_21 : decode b_Resolver_isAboveAll 21 = .ok (.invokevirtual 124, 3) := by decide +kernel
theorem d_Resolver_isAboveAll_24 : decode b_Resolver_isAboveAll 24 = .ok (.istore_n 3, 1) := by decide +kernel
theorem d_Resolver_isAboveAll_25 : decode b_Resolver_isAboveAll 25 = .ok (.iload_n 3, 1) := by decide +kernel
theorem d_Resolver_isAboveAll_26 : decode b_Resolver_isAboveAll 26 = .ok (.bipush (-3), 2) := by decide +kernel
theorem d_Resolver_isAboveAll_28 : decode b_Resolver_isAboveAll 28 = .ok (.if_icmp .ne 6, 3) := by decide +kernel
theorem d_Resolver_isAboveAll_31 : decode b_Resolver_isAboveAll 31 = .ok (.bipush (-3), 2) := by decide +kernel
theorem d_Resolver_isAboveAll_33 : decode b_Resolver_isAboveAll 33 = .ok (.ireturn, 1) := by decide +kernel
theorem d_Resolver_isAboveAll_34 : decode b_Resolver_isAboveAll 34 = .ok (.iload_n 3, 1) := by decide +kernel
theorem d_Resolver_isAboveAll_35 : decode b_Resolver_isAboveAll 35 = .ok (.ifCond .ge 5, 3) := by decide +kernel
theorem d_Resolver_isAboveAll_38 : decode b_Resolver_isAboveAll 38 = .ok (.iconst 0, 1) := by decide +kernel
theorem d_Resolver_isAboveAll_39 : decode b_Resolver_isAboveAll 39 = .ok (.ireturn, 1) := by decide +kernel
theorem d_Resolver_isAboveAll_40 : decode b_Resolver_isAboveAll 40 = .ok (.iinc 2 1, 3) := by decide +kernel
theorem d_Resolver_isAboveAll_43 : decode b_Resolver_isAboveAll 43 = .ok (.goto (-41), 3) := by decide +kernel
theorem d_Resolver_isAboveAll_46 : decode b_Resolver_isAboveAll 46 = .ok (.iconst 1, 1) := by decide +kernel
theorem d_Resolver_isAboveAll_47 : decode b_Resolver_isAboveAll 47 = .ok (.ireturn, 1) := by decide +kernel
theorem d_Resolver_isAboveAnother_0 : decode b_Resolver_isAboveAnother 0 = .ok (.iconst 0, 1) := by decide +kernel
theorem d_Resolver_isAboveAnother_1 : decode b_Resolver_isAboveAnother 1 = .ok (.istore 4, 2) := by decide +kernel
theorem d_Resolver_isAboveAnother_3 : decode b_Resolver_isAboveAnother 3 = .ok (.iload 4, 2) := by decide +kernel
theorem d_Resolver_isAboveAnother_5 : decode b_Resolver_isAboveAnother 5 = .ok (.aload_n 0, 1) := by decide +kernel
theorem d_Resolver_isAboveAnother_6 : decode b_Resolver_isAboveAnother 6 = .ok (.getfield 21, 3) := by decide +kernel
theorem d_Resolver_isAboveAnother_9 : decode b_Resolver_isAboveAnother 9 = .ok (.getfield 111, 3) := by decide +kernel
theorem d_Resolver_isAboveAnother_12 : decode b_Resolver_isAboveAnother 12 = .ok (.if_icmp .ge 82, 3) := by decide +kernel
theorem d_Resolver_isAboveAnother_15 : decode b_Resolver_isAboveAnother 15 = .ok (.iload 4, 2) := by decide +kernel
theorem d_Resolver_isAboveAnother_17 : decode b_Resolver_isAboveAnother 17 = .ok (.iload_n 1, 1) := by decide +kernel
theorem d_Resolver_isAboveAnother_18 : decode b_Resolver_isAboveAnother 18 = .ok (.if_icmp .eq 70, 3) := by decide +kernel
theorem d_Resolver_isAboveAnother_21 : decode b_Resolver_isAboveAnother 21 = .ok (.lload_n 2, 1) := by decide +kernel
theorem d_Resolver_isAboveAnother_22 : decode b_Resolver_isAboveAnother 22 = .ok (.iload 4, 2) := by decide +kernel
theorem d_Resolver_isAboveAnother_24 : decode b_Resolver_isAboveAnother 24 = .ok (.lshr, 1) := by decide +kernel
theorem d_Resolver_isAboveAnother_25 : decode b_Resolver_isAboveAnother 25 = .ok (.lconst 1, 1) := by decide +kernel
theorem d_Resolver_isAboveAnother_26 : decode b_Resolver_isAboveAnother 26 = .ok (.land, 1) := by decide +kernel
theorem d_Resolver_isAboveAnother_27 : decode b_Resolver_isAboveAnother 27 = .ok (.lconst 0, 1) := by decide +kernel
theorem d_Resolver_isAboveAnother_28 : decode b_Resolver_isAboveAnother 28 = .ok (.lcmp, 1) := by decide +kernel
theorem d_Resolver_isAboveAnother_29 : decode b_Resolver_isAboveAnother 29 = .ok (.ifCond .ne 6, 3) := by decide +kernel
theorem d_Resolver_isAboveAnother_32 : decode b_Resolver_isAboveAnother 32 = .ok (.goto 56, 3) := by decide +kernel
theorem d_Resolver_isAboveAnother_35 : decode b_Resolver_isAboveAnother 35 = .ok (.aload_n 0, 1) := by decide +kernel
theorem d_Resolver_isAboveAnother_36 : decode b_Resolver_isAboveAnother 36 = .ok (.getfield 25, 3) := by decide +kernel
theorem d_Resolver_isAboveAnother_39 : decode b_Resolver_isAboveAnother 39 = .ok (.iconst 0, 1) := by decide +kernel
theorem d_Resolver_isAboveAnother_40 : decode b_Resolver_isAboveAnother 40 = .ok (.iload 4, 2) := by decide +kernel
theorem d_Resolver_isAboveAnother_42 : decode b_Resolver_isAboveAnother 42 = .ok (.iconst (-1), 1) := by decide +kernel
theorem d_Resolver_isAboveAnother_43 : decode b_Resolver_isAboveAnother 43 = .ok (.iconst (-1), 1) := by decide +kernel
theorem d_Resolver_isAboveAnother_44 : decode b_Resolver_isAboveAnother 44 = .ok (.invokevirtual 91, 3) := by decide +kernel
theorem d_Resolver_isAboveAnother_47 : decode b_Resolver_isAboveAnother 47 = .ok (.istore 5, 2) := by decide +kernel
theorem d_Resolver_isAboveAnother_49 : decode b_Resolver_isAboveAnother 49 = .ok (.iload 5, 2) := by decide +kernel
theorem d_Resolver_isAboveAnother_51 : decode b_Resolver_isAboveAnother 51 = .ok (.ifCond .ge 8, 3) := by decide +kernel
theorem d_Resolver_isAboveAnother_54 : decode b_Resolver_isAboveAnother 54 = .ok (.bipush (-3), 2) := by decide +kernel
theorem d_Resolver_isAboveAnother_56 : decode b_Resolver_isAboveAnother 56 = .ok (.goto 13, 3) := by decide +kernel
theorem d_Resolver_isAboveAnother_59 : decode b_Resolver_isAboveAnother 59 = .ok (.aload_n 0, 1) := by decide +kernel
theorem d_Resolver_isAboveAnother_60 : decode b_Resolver_isAboveAnother 60 = .ok (.getfield 33, 3) := by decide +kernel
theorem d_Resolver_isAboveAnother_63 : decode b_Resolver_isAboveAnother 63 = .ok (.iload 5, 2) := by decide +kernel
theorem d_Resolver_isAboveAnother_65 : decode b_Resolver_isAboveAnother 65 = .ok (.iload_n 1, 1) := by decide +kernel
theorem d_Resolver_isAboveAnother_66 : decode b_Resolver_isAboveAnother 66 = .ok (.invokevirtual 124, 3) := by decide +kernel
theorem d_Resolver_isAboveAnother_69 : decode b_Resolver_isAboveAnother 69 = .ok (.istore 6, 2) := by decide +kernel
theorem d_Resolver_isAboveAnother_71 : decode b_Resolver_isAboveAnother 71 = .ok (.iload 6, 2) := by decide +kernel
theorem d_Resolver_isAboveAnother_73 : decode b_Resolver_isAboveAnother 73 = .ok (.bipush (-3), 2) := by decide +kernel
theorem d_Resolver_isAboveAnother_75 : decode b_Resolver_isAboveAnother 75 = .ok (.if_icmp .ne 6, 3) := by decide +kernel
theorem d_Resolver_isAboveAnother_78 : decode b_Resolver_isAboveAnother 78 = .ok (.bipush (-3), 2) := by decide +kernel
theorem d_Resolver_isAboveAnother_80 : decode b_Resolver_isAboveAnother 80 = .ok (.ireturn, 1) := by decide +kernel
theorem d_Resolver_isAboveAnother_81 : decode b_Resolver_isAboveAnother 81 = .ok (.iload 6, 2) := by decide +kernel
theorem d_Resolver_isAboveAnother_83 : decode b_Resolver_isAboveAnother 83 = .ok (.ifCond .lt 5, 3) := by decide +kernel
theorem d_Resolver_isAboveAnother_86 : decode b_Resolver_isAboveAnother 86 = .ok (.iconst 1, 1) := by decide +kernel
theorem d_Resolver_isAboveAnother_87 : decode b_Resolver_isAboveAnother 87 = .ok (.ireturn, 1) := by decide +kernel
theorem d_Resolver_isAboveAnother_88 : decode b_Resolver_isAboveAnother 88 = .ok (.iinc 4 1, 3) := by decide +kernel
theorem d_Resolver_isAboveAnother_91 : decode b_Resolver_isAboveAnother 91 = .ok (.goto (-88), 3) := by decide +kernel
theorem d_Resolver_isAboveAnother_94 : decode b_Resolver_isAboveAnother 94 = .ok (.iconst 0, 1) := by decide +kernel
theorem d_Resolver_isAboveAnother_95 : decode b_Resolver_isAboveAnother 95 = .ok (.ireturn, 1) := by decide +kernel
theorem d_Resolver_joinAs_0 : decode b_Resolver_joinAs 0 = .ok (.iconst 0, 1) := by decide +kernel
theorem d_Resolver_joinAs_1 : decode b_Resolver_joinAs 1 = .ok (.istore_n 2, 1) := by decide +kernel
theorem d_Resolver_joinAs_2 : decode b_Resolver_joinAs 2 = .ok (.iload_n 2, 1) := by decide +kernel
theorem d_Resolver_joinAs_3 : decode b_Resolver_joinAs 3 = .ok (.aload_n 0, 1) := by decide +kernel
theorem d_Resolver_joinAs_4 : decode b_Resolver_joinAs 4 = .ok (.getfield 81, 3) := by decide +kernel
theorem d_Resolver_joinAs_7 : decode b_Resolver_joinAs 7 = .ok (.if_icmp .ge 57, 3) := by decide +kernel
theorem d_Resolver_joinAs_10 : decode b_Resolver_joinAs 10 = .ok (.aload_n 0, 1) := by decide +kernel
theorem d_Resolver_joinAs_11 : decode b_Resolver_joinAs 11 = .ok (.getfield 33, 3) := by decide +kernel
theorem d_Resolver_joinAs_14 : decode b_Resolver_joinAs 14 = .ok (.aload_n 0, 1) := by decide +kernel
theorem d_Resolver_joinAs_15 : decode b_Resolver_joinAs 15 = .ok (.getfield 9, 3) := by decide +kernel
theorem d_Resolver_joinAs_18 : decode b_Resolver_joinAs 18 = .ok (.iload_n 2, 1) := by decide +kernel
theorem d_Resolver_joinAs_19 : decode b_Resolver_joinAs 19 = .ok (.iaload, 1) := by decide +kernel
theorem d_Resolver_joinAs_20 : decode b_Resolver_joinAs 20 = .ok (.iload_n 1, 1) := by decide +kernel
theorem d_Resolver_joinAs_21 : decode b_Resolver_joinAs 21 = .ok (.invokevirtual 124, 3) := by decide +kernel
theorem d_Resolver_joinAs_24 : decode b_Resolver_joinAs 24 = .ok (.istore_n 3, 1) := by decide +kernel
theorem d_Resolver_joinAs_25 : decode b_Resolver_joinAs 25 = .ok (.iload_n 3, 1) := by decide +kernel
theorem d_Resolver_joinAs_26 : decode b_Resolver_joinAs 26 = .ok (.bipush (-3), 2) := by decide +kernel
theorem d_Resolver_joinAs_28 : decode b_Resolver_joinAs 28 = .ok (.if_icmp .ne 6, 3) := by decide +kernel
theorem d_Resolver_joinAs_31 : decode b_Resolver_joinAs 31 = .ok (.bipush (-3), 2) := by decide +kernel
theorem d_Resolver_joinAs_33 : decode b_Resolver_joinAs 33 = .ok (.ireturn, 1) := by decide +kernel
theorem d_Resolver_joinAs_34 : decode b_Resolver_joinAs 34 = .ok (.aload_n 0, 1) := by decide +kernel
theorem d_Resolver_joinAs_35 : decode b_Resolver_joinAs 35 = .ok (.getfield 25, 3) := by decide +kernel
theorem d_Resolver_joinAs_38 : decode b_Resolver_joinAs 38 = .ok (.iload_n 3, 1) := by decide +kernel
theorem d_Resolver_joinAs_39 : decode b_Resolver_joinAs 39 = .ok (.invokevirtual 128, 3) := by decide +kernel
theorem d_Resolver_joinAs_42 : decode b_Resolver_joinAs 42 = .ok (.iconst 1, 1) := by decide +kernel
theorem d_Resolver_joinAs_43 : decode b_Resolver_joinAs 43 = .ok (.if_icmp .eq 15, 3) := by decide +kernel
theorem d_Resolver_joinAs_46 : decode b_Resolver_joinAs 46 = .ok (.aload_n 0, 1) := by decide +kernel
theorem d_Resolver_joinAs_47 : decode b_Resolver_joinAs 47 = .ok (.getfield 25, 3) := by decide +kernel
theorem d_Resolver_joinAs_50 : decode b_Resolver_joinAs 50 = .ok (.iconst 0, 1) := by decide +kernel
theorem d_Resolver_joinAs_51 : decode b_Resolver_joinAs 51 = .ok (.iload_n 1, 1) := by decide +kernel
theorem d_Resolver_joinAs_52 : decode b_Resolver_joinAs 52 = .ok (.iconst (-1), 1) := by decide +kernel
theorem d_Resolver_joinAs_53 : decode b_Resolver_joinAs 53 = .ok (.iconst (-1), 1) := by decide +kernel
theorem d_Resolver_joinAs_54 : decode b_Resolver_joinAs 54 = .ok (.invokevirtual 91, 3) := by decide +kernel
theorem d_Resolver_joinAs_57 : decode b_Resolver_joinAs 57 = .ok (.ireturn, 1) := by decide +kernel
theorem d_Resolver_joinAs_58 : decode b_Resolver_joinAs 58 = .ok (.iinc 2 1, 3) := by decide +kernel
theorem d_Resolver_joinAs_61 : decode b_Resolver_joinAs 61 = .ok (.goto (-59), 3) := by decide +kernel
theorem d_Resolver_joinAs_64 : decode b_Resolver_joinAs 64 = .ok (.aload_n 0, 1) := by decide +kernel
theorem d_Resolver_joinAs_65 : decode b_Resolver_joinAs 65 = .ok (.iload_n 1, 1) := by decide +kernel
theorem d_Resolver_joinAs_66 : decode b_Resolver_joinAs 66 = .ok (.iconst 0, 1) := by decide +kernel
theorem d_Resolver_joinAs_67 : decode b_Resolver_joinAs 67 = .ok (.invokevirtual 131, 3) := by decide +kernel
theorem d_Resolver_joinAs_70 : decode b_Resolver_joinAs 70 = .ok (.istore_n 2, 1) := by decide +kernel
theorem d_Resolver_joinAs_71 : decode b_Resolver_joinAs 71 = .ok (.aload_n 0, 1) := by decide +kernel
theorem d_Resolver_joinAs_72 : decode b_Resolver_joinAs 72 = .ok (.getfield 21, 3) := by decide +kernel
theorem d_Resolver_joinAs_75 : decode b_Resolver_joinAs 75 = .ok (.iload_n 1, 1) := by decide +kernel
theorem d_Resolver_joinAs_76 : decode b_Resolver_joinAs 76 = .ok (.invokevirtual 134, 3) := by decide +kernel
theorem d_Resolver_joinAs_79 : decode b_Resolver_joinAs 79 = .ok (.iconst 1, 1) := by decide +kernel
theorem d_Resolver_joinAs_80 : decode b_Resolver_joinAs 80 = .ok (.if_icmp .le 12, 3) := by decide +kernel
theorem d_Resolver_joinAs_83 : decode b_Resolver_joinAs 83 = .ok (.aload_n 0, 1) := by decide +kernel
theorem d_Resolver_joinAs_84 : decode b_Resolver_joinAs 84 = .ok (.iload_n 1, 1) := by decide +kernel
theorem d_Resolver_joinAs_85 : decode b_Resolver_joinAs 85 = .ok (.iconst 1, 1) := by decide +kernel
theorem d_Resolver_joinAs_86 : decode b_Resolver_joinAs 86 = .ok (.invokevirtual 131, 3) := by decide +kernel
theorem d_Resolver_joinAs_89 : decode b_Resolver_joinAs 89 = .ok (.goto 4, 3) := by decide +kernel
theorem d_Resolver_joinAs_92 : decode b_Resolver_joinAs 92 = .ok (.iconst (-1), 1) := by decide +kernel
theorem d_Resolver_joinAs_93 : decode b_Resolver_joinAs 93 = .ok (.istore_n 3, 1) := by decide +kernel
theorem d_Resolver_joinAs_94 : decode b_Resolver_joinAs 94 = .ok (.iload_n 2, 1) := by decide +kernel
theorem d_Resolver_joinAs_95 : decode b_Resolver_joinAs 95 = .ok (.bipush (-3), 2) := by decide +kernel
theorem d_Resolver_joinAs_97 : decode b_Resolver_joinAs 97 = .ok (.if_icmp .eq 9, 3) := by decide +kernel
theorem d_Resolver_joinAs_100 : decode b_Resolver_joinAs 100 = .ok (.iload_n 3, 1) := by decide +kernel
theorem d_Resolver_joinAs_101 : decode b_Resolver_joinAs 101 = .ok (.bipush (-3), 2) := by decide +kernel
theorem d_Resolver_joinAs_103 : decode b_Resolver_joinAs 103 = .ok (.if_icmp .ne 8, 3) := by decide +kernel
theorem d_Resolver_joinAs_106 : decode b_Resolver_joinAs 106 = .ok (.bipush (-3), 2) := by decide +kernel
theorem d_Resolver_joinAs_108 : decode b_Resolver_joinAs 108 = .ok (.goto 14, 3) := by decide +kernel
theorem d_Resolver_joinAs_111 : decode b_Resolver_joinAs 111 = .ok (.aload_n 0, 1) := by decide +kernel
theorem d_Resolver_joinAs_112 : decode b_Resolver_joinAs 112 = .ok (.getfield 25, 3) := by decide +kernel
theorem d_Resolver_joinAs_115 : decode b_Resolver_joinAs 115 = .ok (.iconst 1, 1) := by decide +kernel
theorem d_Resolver_joinAs_116 : decode b_Resolver_joinAs 116 = .ok (.iload_n 1, 1) := by decide +kernel
theorem d_Resolver_joinAs_117 : decode b_Resolver_joinAs 117 = .ok (.iload_n 2, 1) := by decide +kernel
theorem d_Resolver_joinAs_118 : decode b_Resolver_joinAs 118 = .ok (.iload_n 3, 1) := by decide +kernel
theorem d_Resolver_joinAs_119 : decode b_Resolver_joinAs 119 = .ok (.invokevirtual 91, 3) := by decide +kernel
theorem d_Resolver_joinAs_122 : decode b_Resolver_joinAs 122 = .ok (.ireturn, 1) := by decide +kernel
theorem d_Resolver_sharedArgument_0 : decode b_Resolver_sharedArgument 0 = .ok (.iconst (-1), 1) := by decide +kernel
theorem d_Resolver_sharedArgument_1 : decode b_Resolver_sharedArgument 1 = .ok (.istore_n 3, 1) := by decide +kernel
theorem d_Resolver_sharedArgument_2 : decode b_Resolver_sharedArgument 2 = .ok (.iconst 0, 1) := by decide +kernel
theorem d_Resolver_sharedArgument_3 : decode b_Resolver_sharedArgument 3 = .ok (.istore 4, 2) := by decide +kernel
theorem d_Resolver_sharedArgument_5 : decode b_Resolver_sharedArgument 5 = .ok (.iload 4, 2) := by decide +kernel
theorem d_Resolver_sharedArgument_7 : decode b_Resolver_sharedArgument 7 = .ok (.aload_n 0, 1) := by decide +kernel
theorem d_Resolver_sharedArgument_8 : decode b_Resolver_sharedArgument 8 = .ok (.getfield 81, 3) := by decide +kernel
theorem d_Resolver_sharedArgument_11 : decode b_Resolver_sharedArgument 11 = .ok (.if_icmp .ge 60, 3) := by decide +kernel
theorem d_Resolver_sharedArgument_14 : decode b_Resolver_sharedArgument 14 = .ok (.aload_n 0, 1) := by decide +kernel
theorem d_Resolver_sharedArgument_15 : decode b_Resolver_sharedArgument 15 = .ok (.getfield 25, 3) := by decide +kernel
theorem d_Resolver_sharedArgument_18 : decode b_Resolver_sharedArgument 18 = .ok (.aload_n 0, 1) := by decide +kernel
theorem d_Resolver_sharedArgument_19 : decode b_Resolver_sharedArgument 19 = .ok (.getfield 33, 3) := by decide +kernel
theorem d_Resolver_sharedArgument_22 : decode b_Resolver_sharedArgument 22 = .ok (.aload_n 0, 1) := by decide +kernel
theorem d_Resolver_sharedArgument_23 : decode b_Resolver_sharedArgument 23 = .ok (.getfield 9, 3) := by decide +kernel
theorem d_Resolver_sharedArgument_26 : decode b_Resolver_sharedArgument 26 = .ok (.iload 4, 2) := by decide +kernel
theorem d_Resolver_sharedArgument_28 : decode b_Resolver_sharedArgument 28 = .ok (.iaload, 1) := by decide +kernel
theorem d_Resolver_sharedArgument_29 : decode b_Resolver_sharedArgument 29 = .ok (.iload_n 1, 1) := by decide +kernel
theorem d_Resolver_sharedArgument_30 : decode b_Resolver_sharedArgument 30 = .ok (.invokevirtual 124, 3) := by decide +kernel
theorem d_Resolver_sharedArgument_33 : decode b_Resolver_sharedArgument 33 = .ok (.iload_n 2, 1) := by decide +kernel
theorem d_Resolver_sharedArgument_34 : decode b_Resolver_sharedArgument 34 = .ok (.invokevirtual 137, 3) := by decide +kernel
theorem d_Resolver_sharedArgument_37 : decode b_Resolver_sharedArgument 37 = .ok (.istore 5, 2) := by decide +kernel
theorem d_Resolver_sharedArgument_39 : decode b_Resolver_sharedArgument 39 = .ok (.iload 4, 2) := by decide +kernel
theorem d_Resolver_sharedArgument_41 : decode b_Resolver_sharedArgument 41 = .ok (.ifCond .le 21, 3) := by decide +kernel
theorem d_Resolver_sharedArgument_44 : decode b_Resolver_sharedArgument 44 = .ok (.iload 5, 2) := by decide +kernel
theorem d_Resolver_sharedArgument_46 : decode b_Resolver_sharedArgument 46 = .ok (.iload_n 3, 1) := by decide +kernel
theorem d_Resolver_sharedArgument_47 : decode b_Resolver_sharedArgument 47 = .ok (.if_icmp .eq 15, 3) := by decide +kernel
theorem d_Resolver_sharedArgument_50 : decode b_Resolver_sharedArgument 50 = .ok (.aload_n 0, 1) := by decide +kernel
theorem d_Resolver_sharedArgument_51 : decode b_Resolver_sharedArgument 51 = .ok (.getfield 25, 3) := by decide +kernel
theorem d_Resolver_sharedArgument_54 : decode b_Resolver_sharedArgument 54 = .ok (.iconst 2, 1) := by decide +kernel
theorem d_Resolver_sharedArgument_55 : decode b_Resolver_sharedArgument 55 = .ok (.iconst 0, 1) := by decide +kernel
theorem d_Resolver_sharedArgument_56 : decode b_Resolver_sharedArgument 56 = .ok (.iconst (-1), 1) := by decide +kernel
theorem d_Resolver_sharedArgument_57 : decode b_Resolver_sharedArgument 57 = .ok (.iconst (-1), 1) := by decide +kernel
theorem d_Resolver_sharedArgument_58 : decode b_Resolver_sharedArgument 58 = .ok (.invokevirtual 91, 3) := by decide +kernel
theorem d_Resolver_sharedArgument_61 : decode b_Resolver_sharedArgument 61 = .ok (.ireturn, 1) := by decide +kernel
theorem d_Resolver_sharedArgument_62 : decode b_Resolver_sharedArgument 62 = .ok (.iload 5, 2) := by decide +kernel
theorem d_Resolver_sharedArgument_64 : decode b_Resolver_sharedArgument 64 = .ok (.istore_n 3, 1) := by decide +kernel
theorem d_Resolver_sharedArgument_65 : decode b_Resolver_sharedArgument 65 = .ok (.iinc 4 1, 3) := by decide +kernel
theorem d_Resolver_sharedArgument_68 : decode b_Resolver_sharedArgument 68 = .ok (.goto (-63), 3) := by decide +kernel
theorem d_Resolver_sharedArgument_71 : decode b_Resolver_sharedArgument 71 = .ok (.iload_n 3, 1) := by decide +kernel
theorem d_Resolver_sharedArgument_72 : decode b_Resolver_sharedArgument 72 = .ok (.ireturn, 1) := by decide +kernel
theorem d_Told_init_0 : decode b_Told_init 0 = .ok (.aload_n 0, 1) := by decide +kernel
theorem d_Told_init_1 : decode b_Told_init 1 = .ok (.invokespecial 3, 3) := by decide +kernel
theorem d_Told_init_4 : decode b_Told_init 4 = .ok (.aload_n 0, 1) := by decide +kernel
theorem d_Told_init_5 : decode b_Told_init 5 = .ok (.bipush 60, 2) := by decide +kernel
theorem d_Told_init_7 : decode b_Told_init 7 = .ok (.newarray .int, 2) := by decide +kernel
theorem d_Told_init_9 : decode b_Told_init 9 = .ok (.putfield 9, 3) := by decide +kernel
theorem d_Told_init_12 : decode b_Told_init 12 = .ok (.aload_n 0, 1) := by decide +kernel
theorem d_Told_init_13 : decode b_Told_init 13 = .ok (.bipush 60, 2) := by decide +kernel
theorem d_Told_init_15 : decode b_Told_init 15 = .ok (.newarray .int, 2) := by decide +kernel
theorem d_Told_init_17 : decode b_Told_init 17 = .ok (.putfield 15, 3) := by decide +kernel
theorem d_Told_init_20 : decode b_Told_init 20 = .ok (.aload_n 0, 1) := by decide +kernel
theorem d_Told_init_21 : decode b_Told_init 21 = .ok (.bipush 60, 2) := by decide +kernel
theorem d_Told_init_23 : decode b_Told_init 23 = .ok (.newarray .int, 2) := by decide +kernel
theorem d_Told_init_25 : decode b_Told_init 25 = .ok (.putfield 18, 3) := by decide +kernel
theorem d_Told_init_28 : decode b_Told_init 28 = .ok (.aload_n 0, 1) := by decide +kernel
theorem d_Told_init_29 : decode b_Told_init 29 = .ok (.bipush 60, 2) := by decide +kernel
theorem d_Told_init_31 : decode b_Told_init 31 = .ok (.newarray .boolean, 2) := by decide +kernel
theorem d_Told_init_33 : decode b_Told_init 33 = .ok (.putfield 21, 3) := by decide +kernel
theorem d_Told_init_36 : decode b_Told_init 36 = .ok (.return_, 1) := by decide +kernel
theorem d_Told_has_0 : decode b_Told_has 0 = .ok (.iload_n 1, 1) := by decide +kernel
theorem d_Told_has_1 : decode b_Told_has 1 = .ok (.ifCond .lt 15, 3) := by decide +kernel
theorem d_Told_has_4 : decode b_Told_has 4 = .ok (.iload_n 1, 1) := by decide +kernel
theorem d_Told_has_5 : decode b_Told_has 5 = .ok (.aload_n 0, 1) := by decide +kernel
theorem d_Told_has_6 : decode b_Told_has 6 = .ok (.getfield 25, 3) := by decide +kernel
theorem d_Told_has_9 : decode b_Told_has 9 = .ok (.if_icmp .ge 7, 3) := by decide +kernel
theorem d_Told_has_12 : decode b_Told_has 12 = .ok (.iconst 1, 1) := by decide +kernel
theorem d_Told_has_13 : decode b_Told_has 13 = .ok (.goto 4, 3) := by decide +kernel
theorem d_Told_has_16 : decode b_Told_has 16 = .ok (.iconst 0, 1) := by decide +kernel
theorem d_Told_has_17 : decode b_Told_has 17 = .ok (.ireturn, 1) := by decide +kernel
theorem d_Told_hasRoom_0 : decode b_Told_hasRoom 0 = .ok (.aload_n 0, 1) := by decide +kernel
theorem d_Told_hasRoom_1 : decode b_Told_hasRoom 1 = .ok (.getfield 25, 3) := by decide +kernel
theorem d_Told_hasRoom_4 : decode b_Told_hasRoom 4 = .ok (.ifCond .lt 16, 3) := by decide +kernel
theorem d_Told_hasRoom_7 : decode b_Told_hasRoom 7 = .ok (.aload_n 0, 1) := by decide +kernel
theorem d_Told_hasRoom_8 : decode b_Told_hasRoom 8 = .ok (.getfield 25, 3) := by decide +kernel
theorem d_Told_hasRoom_11 : decode b_Told_hasRoom 11 = .ok (.bipush 60, 2) := by decide +kernel
theorem d_Told_hasRoom_13 : decode b_Told_hasRoom 13 = .ok (.if_icmp .ge 7, 3) := by decide +kernel
theorem d_Told_hasRoom_16 : decode b_Told_hasRoom 16 = .ok (.iconst 1, 1) := by decide +kernel
theorem d_Told_hasRoom_17 : decode b_Told_hasRoom 17 = .ok (.goto 4, 3) := by decide +kernel
theorem d_Told_hasRoom_20 : decode b_Told_hasRoom 20 = .ok (.iconst 0, 1) := by decide +kernel
theorem d_Told_hasRoom_21 : decode b_Told_hasRoom 21 = .ok (.ireturn, 1) := by decide +kernel
theorem d_Told_add_0 : decode b_Told_add 0 = .ok (.aload_n 0, 1) := by decide +kernel
theorem d_Told_add_1 : decode b_Told_add 1 = .ok (.invokevirtual 29, 3) := by decide +kernel
theorem d_Told_add_4 : decode b_Told_add 4 = .ok (.ifCond .ne 5, 3) := by decide +kernel
theorem d_Told_add_7 : decode b_Told_add 7 = .ok (.iconst (-1), 1) := by decide +kernel
theorem d_Told_add_8 : decode b_Told_add 8 = .ok (.ireturn, 1) := by decide +kernel
theorem d_Told_add_9 : decode b_Told_add 9 = .ok (.aload_n 0, 1) := by decide +kernel
theorem d_Told_add_10 : decode b_Told_add 10 = .ok (.getfield 9, 3) := by decide +kernel
theorem d_Told_add_13 : decode b_Told_add 13 = .ok (.aload_n 0, 1) := by decide +kernel
theorem d_Told_add_14 : decode b_Told_add 14 = .ok (.getfield 25, 3) := by decide +kernel
theorem d_Told_add_17 : decode b_Told_add 17 = .ok (.iload_n 1, 1) := by decide +kernel
theorem d_Told_add_18 : decode b_Told_add 18 = .ok (.iastore, 1) := by decide +kernel
theorem d_Told_add_19 : decode b_Told_add 19 = .ok (.aload_n 0, 1) := by decide +kernel
theorem d_Told_add_20 : decode b_Told_add 20 = .ok (.getfield 15, 3) := by decide +kernel
theorem d_Told_add_23 : decode b_Told_add 23 = .ok (.aload_n 0, 1) := by decide +kernel
theorem d_Told_add_24 : decode b_Told_add 24 = .ok (.getfield 25, 3) := by decide +kernel
theorem d_Told_add_27 : decode b_Told_add 27 = .ok (.iload_n 2, 1) := by decide +kernel
theorem d_Told_add_28 : decode b_Told_add 28 = .ok (.iastore, 1) := by decide +kernel
theorem d_Told_add_29 : decode b_Told_add 29 = .ok (.aload_n 0, 1) := by decide +kernel
theorem d_Told_add_30 : decode b_Told_add 30 = .ok (.getfield 18, 3) := by decide +kernel
theorem d_Told_add_33 : decode b_Told_add 33 = .ok (.aload_n 0, 1) := by decide +kernel
theorem d_Told_add_34 : decode b_Told_add 34 = .ok (.getfield 25, 3) := by decide +kernel
theorem d_Told_add_37 : decode b_Told_add 37 = .ok (.iload_n 3, 1) := by decide +kernel
theorem d_Told_add_38 : decode b_Told_add 38 = .ok (.iastore, 1) := by decide +kernel
theorem d_Told_add_39 : decode b_Told_add 39 = .ok (.aload_n 0, 1) := by decide +kernel
theorem d_Told_add_40 : decode b_Told_add 40 = .ok (.getfield 21, 3) := by decide +kernel
theorem d_Told_add_43 : decode b_Told_add 43 = .ok (.aload_n 0, 1) := by decide +kernel
theorem d_Told_add_44 : decode b_Told_add 44 = .ok (.getfield 25, 3) := by decide +kernel
theorem d_Told_add_47 : decode b_Told_add 47 = .ok (.iconst 0, 1) := by decide +kernel
theorem d_Told_add_48 : decode b_Told_add 48 = .ok (.bastore, 1) := by decide +kernel
theorem d_Told_add_49 : decode b_Told_add 49 = .ok (.aload_n 0, 1) := by decide +kernel
theorem d_Told_add_50 : decode b_Told_add 50 = .ok (.dup, 1) := by decide +kernel
theorem d_Told_add_51 : decode b_Told_add 51 = .ok (.getfield 25, 3) := by decide +kernel
theorem d_Told_add_54 : decode b_Told_add 54 = .ok (.iconst 1, 1) := by decide +kernel
theorem d_Told_add_55 : decode b_Told_add 55 = .ok (.iadd, 1) := by decide +kernel
theorem d_Told_add_56 : decode b_Told_add 56 = .ok (.putfield 25, 3) := by decide +kernel
theorem d_Told_add_59 : decode b_Told_add 59 = .ok (.aload_n 0, 1) := by decide +kernel
theorem d_Told_add_60 : decode b_Told_add 60 = .ok (.getfield 25, 3) := by decide +kernel
theorem d_Told_add_63 : decode b_Told_add 63 = .ok (.iconst 1, 1) := by decide +kernel
theorem d_Told_add_64 : decode b_Told_add 64 = .ok (.isub, 1) := by decide +kernel
theorem d_Told_add_65 : decode b_Told_add 65 = .ok (.ireturn, 1) := by decide +kernel
theorem d_Told_sortOf_0 : decode b_Told_sortOf 0 = .ok (.aload_n 0, 1) := by decide +kernel
theorem d_Told_sortOf_1 : decode b_Told_sortOf 1 = .ok (.iload_n 1, 1) := by decide +kernel
theorem d_Told_sortOf_2 : decode b_Told_sortOf 2 = .ok (.invokevirtual 33, 3) := by decide +kernel
theorem d_Told_sortOf_5 : decode b_Told_sortOf 5 = .ok (.ifCond .eq 12, 3) := by decide +kernel
theorem d_Told_sortOf_8 : decode b_Told_sortOf 8 = .ok (.aload_n 0, 1) := by decide +kernel
theorem d_Told_sortOf_9 : decode b_Told_sortOf 9 = .ok (.getfield 9, 3) := by decide +kernel
theorem d_Told_sortOf_12 : decode b_Told_sortOf 12 = .ok (.iload_n 1, 1) := by decide +kernel
theorem d_Told_sortOf_13 : decode b_Told_sortOf 13 = .ok (.iaload, 1) := by decide +kernel
theorem d_Told_sortOf_14 : decode b_Told_sortOf 14 = .ok (.goto 4, 3) := by decide +kernel
theorem d_Told_sortOf_17 : decode b_Told_sortOf 17 = .ok (.iconst (-1), 1) := by decide +kernel
theorem d_Told_sortOf_18 : decode b_Told_sortOf 18 = .ok (.ireturn, 1) := by decide +kernel
theorem d_Told_leftOf_0 : decode b_Told_leftOf 0 = .ok (.aload_n 0, 1) := by decide +kernel
theorem d_Told_leftOf_1 : decode b_Told_leftOf 1 = .ok (.iload_n 1, 1) := by decide +kernel
theorem d_Told_leftOf_2 : decode b_Told_leftOf 2 = .ok (.invokevirtual 33, 3) := by decide +kernel
theorem d_Told_leftOf_5 : decode b_Told_leftOf 5 = .ok (.ifCond .eq 12, 3) := by decide +kernel
theorem d_Told_leftOf_8 : decode b_Told_leftOf 8 = .ok (.aload_n 0, 1) := by decide +kernel
theorem d_Told_leftOf_9 : decode b_Told_leftOf 9 = .ok (.getfield 15, 3) := by decide +kernel
theorem d_Told_leftOf_12 : decode b_Told_leftOf 12 = .ok (.iload_n 1, 1) := by decide +kernel
theorem d_Told_leftOf_13 : decode b_Told_leftOf 13 = .ok (.iaload, 1) := by decide +kernel
theorem d_Told_leftOf_14 : decode b_Told_leftOf 14 = .ok (.goto 4, 3) := by decide +kernel
theorem d_Told_leftOf_17 : decode b_Told_leftOf 17 = .ok (.iconst (-1), 1) := by decide +kernel
theorem d_Told_leftOf_18 : decode b_Told_leftOf 18 = .ok (.ireturn, 1) := by decide +kernel
theorem d_Told_rightOf_0 : decode b_Told_rightOf 0 = .ok (.aload_n 0, 1) := by decide +kernel
theorem d_Told_rightOf_1 : decode b_Told_rightOf 1 = .ok (.iload_n 1, 1) := by decide +kernel
theorem d_Told_rightOf_2 : decode b_Told_rightOf 2 = .ok (.invokevirtual 33, 3) := by decide +kernel
theorem d_Told_rightOf_5 : decode b_Told_rightOf 5 = .ok (.ifCond .eq 12, 3) := by decide +kernel
theorem d_Told_rightOf_8 : decode b_Told_rightOf 8 = .ok (.aload_n 0, 1) := by decide +kernel
theorem d_Told_rightOf_9 : decode b_Told_rightOf 9 = .ok (.getfield 18, 3) := by decide +kernel
theorem d_Told_rightOf_12 : decode b_Told_rightOf 12 = .ok (.iload_n 1, 1) := by decide +kernel
theorem d_Told_rightOf_13 : decode b_Told_rightOf 13 = .ok (.iaload, 1) := by decide +kernel
theorem d_Told_rightOf_14 : decode b_Told_rightOf 14 = .ok (.goto 4, 3) := by decide +kernel
theorem d_Told_rightOf_17 : decode b_Told_rightOf 17 = .ok (.iconst (-1), 1) := by decide +kernel
theorem d_Told_rightOf_18 : decode b_Told_rightOf 18 = .ok (.ireturn, 1) := by decide +kernel
theorem d_Told_markUnchecked_0 : decode b_Told_markUnchecked 0 = .ok (.aload_n 0, 1) := by decide +kernel
theorem d_Told_markUnchecked_1 : decode b_Told_markUnchecked 1 = .ok (.iload_n 1, 1) := by decide +kernel
theorem d_Told_markUnchecked_2 : decode b_Told_markUnchecked 2 = .ok (.invokevirtual 33, 3) := by decide +kernel
theorem d_Told_markUnchecked_5 : decode b_Told_markUnchecked 5 = .ok (.ifCond .eq 10, 3) := by decide +kernel
theorem d_Told_markUnchecked_8 : decode b_Told_markUnchecked 8 = .ok (.aload_n 0, 1) := by decide +kernel
theorem d_Told_markUnchecked_9 : decode b_Told_markUnchecked 9 = .ok (.getfield 21, 3) := by decide +kernel
theorem d_Told_markUnchecked_12 : decode b_Told_markUnchecked 12 = .ok (.iload_n 1, 1) := by decide +kernel
theorem d_Told_markUnchecked_13 : decode b_Told_markUnchecked 13 = .ok (.iconst 1, 1) := by decide +kernel
theorem d_Told_markUnchecked_14 : decode b_Told_markUnchecked 14 = .ok (.bastore, 1) := by decide +kernel
theorem d_Told_markUnchecked_15 : decode b_Told_markUnchecked 15 = .ok (.return_, 1) := by decide +kernel
theorem d_Told_isUnchecked_0 : decode b_Told_isUnchecked 0 = .ok (.aload_n 0, 1) := by decide +kernel
theorem d_Told_isUnchecked_1 : decode b_Told_isUnchecked 1 = .ok (.iload_n 1, 1) := by decide +kernel
theorem d_Told_isUnchecked_2 : decode b_Told_isUnchecked 2 = .ok (.invokevirtual 33, 3) := by decide +kernel
theorem d_Told_isUnchecked_5 : decode b_Told_isUnchecked 5 = .ok (.ifCond .eq 16, 3) := by decide +kernel
theorem d_Told_isUnchecked_8 : decode b_Told_isUnchecked 8 = .ok (.aload_n 0, 1) := by decide +kernel
theorem d_Told_isUnchecked_9 : decode b_Told_isUnchecked 9 = .ok (.getfield 21, 3) := by decide +kernel
theorem d_Told_isUnchecked_12 : decode b_Told_isUnchecked 12 = .ok (.iload_n 1, 1) := by decide +kernel
theorem d_Told_isUnchecked_13 : decode b_Told_isUnchecked 13 = .ok (.baload, 1) := by decide +kernel
theorem d_Told_isUnchecked_14 : decode b_Told_isUnchecked 14 = .ok (.ifCond .eq 7, 3) := by decide +kernel
theorem d_Told_isUnchecked_17 : decode b_Told_isUnchecked 17 = .ok (.iconst 1, 1) := by decide +kernel
theorem d_Told_isUnchecked_18 : decode b_Told_isUnchecked 18 = .ok (.goto 4, 3) := by decide +kernel
theorem d_Told_isUnchecked_21 : decode b_Told_isUnchecked 21 = .ok (.iconst 0, 1) := by decide +kernel
theorem d_Told_isUnchecked_22 : decode b_Told_isUnchecked 22 = .ok (.ireturn, 1) := by decide +kernel
theorem d_Types_init_0 : decode b_Types_init 0 = .ok (.aload_n 0, 1) := by decide +kernel
theorem d_Types_init_1 : decode b_Types_init 1 = .ok (.invokespecial 3, 3) := by decide +kernel
theorem d_Types_init_4 : decode b_Types_init 4 = .ok (.aload_n 0, 1) := by decide +kernel
theorem d_Types_init_5 : decode b_Types_init 5 = .ok (.sipush 500, 3) := by decide +kernel
theorem d_Types_init_8 : decode b_Types_init 8 = .ok (.newarray .int, 2) := by decide +kernel
theorem d_Types_init_10 : decode b_Types_init 10 = .ok (.putfield 9, 3) := by decide +kernel
theorem d_Types_init_13 : decode b_Types_init 13 = .ok (.aload_n 0, 1) := by decide +kernel
theorem d_Types_init_14 : decode b_Types_init 14 = .ok (.sipush 500, 3) := by decide +kernel
theorem d_Types_init_17 : decode b_Types_init 17 = .ok (.newarray .int, 2) := by decide +kernel
theorem d_Types_init_19 : decode b_Types_init 19 = .ok (.putfield 15, 3) := by decide +kernel
theorem d_Types_init_22 : decode b_Types_init 22 = .ok (.aload_n 0, 1) := by decide +kernel
theorem d_Types_init_23 : decode b_Types_init 23 = .ok (.sipush 500, 3) := by decide +kernel
theorem d_Types_init_26 : decode b_Types_init 26 = .ok (.newarray .int, 2) := by decide +kernel
theorem d_Types_init_28 : decode b_Types_init 28 = .ok (.putfield 18, 3) := by decide +kernel
theorem d_Types_init_31 : decode b_Types_init 31 = .ok (.aload_n 0, 1) := by decide +kernel
theorem d_Types_init_32 : decode b_Types_init 32 = .ok (.sipush 500, 3) := by decide +kernel
theorem d_Types_init_35 : decode b_Types_init 35 = .ok (.newarray .int, 2) := by decide +kernel
theorem d_Types_init_37 : decode b_Types_init 37 = .ok (.putfield 21, 3) := by decide +kernel
theorem d_Types_init_40 : decode b_Types_init 40 = .ok (.aload_n 0, 1) := by decide +kernel
theorem d_Types_init_41 : decode b_Types_init 41 = .ok (.sipush 500, 3) := by decide +kernel
theorem d_Types_init_44 : decode b_Types_init 44 = .ok (.newarray .int, 2) := by decide +kernel
theorem d_Types_init_46 : decode b_Types_init 46 = .ok (.putfield 24, 3) := by decide +kernel
theorem d_Types_init_49 : decode b_Types_init 49 = .ok (.aload_n 0, 1) := by decide +kernel
theorem d_Types_init_50 : decode b_Types_init 50 = .ok (.sipush 500, 3) := by decide +kernel
theorem d_Types_init_53 : decode b_Types_init 53 = .ok (.newarray .int, 2) := by decide +kernel
theorem d_Types_init_55 : decode b_Types_init 55 = .ok (.putfield 27, 3) := by decide +kernel
theorem d_Types_init_58 : decode b_Types_init 58 = .ok (.aload_n 0, 1) := by decide +kernel
theorem d_Types_init_59 : decode b_Types_init 59 = .ok (.sipush 500, 3) := by decide +kernel
theorem d_Types_init_62 : decode b_Types_init 62 = .ok (.newarray .long, 2) := by decide +kernel
theorem d_Types_init_64 : decode b_Types_init 64 = .ok (.putfield 30, 3) := by decide +kernel
theorem d_Types_init_67 : decode b_Types_init 67 = .ok (.aload_n 0, 1) := by decide +kernel
theorem d_Types_init_68 : decode b_Types_init 68 = .ok (.sipush 500, 3) := by decide +kernel
theorem d_Types_init_71 : decode b_Types_init 71 = .ok (.newarray .long, 2) := by decide +kernel
theorem d_Types_init_73 : decode b_Types_init 73 = .ok (.putfield 34, 3) := by decide +kernel
theorem d_Types_init_76 : decode b_Types_init 76 = .ok (.aload_n 0, 1) := by decide +kernel
theorem d_Types_init_77 : decode b_Types_init 77 = .ok (.sipush 128, 3) := by decide +kernel
theorem d_Types_init_80 : decode b_Types_init 80 = .ok (.newarray .int, 2) := by decide +kernel
theorem d_Types_init_82 : decode b_Types_init 82 = .ok (.putfield 37, 3) := by decide +kernel
theorem d_Types_init_85 : decode b_Types_init 85 = .ok (.aload_n 0, 1) := by decide +kernel
theorem d_Types_init_86 : decode b_Types_init 86 = .ok (.sipush 500, 3) := by decide +kernel
theorem d_Types_init_89 : decode b_Types_init 89 = .ok (.newarray .int, 2) := by decide +kernel
theorem d_Types_init_91 : decode b_Types_init 91 = .ok (.putfield 40, 3) := by decide +kernel
theorem d_Types_init_94 : decode b_Types_init 94 = .ok (.aload_n 0, 1) := by decide +kernel
theorem d_Types_init_95 : decode b_Types_init 95 = .ok (.getfield 37, 3) := by decide +kernel
theorem d_Types_init_98 : decode b_Types_init 98 = .ok (.iconst (-1), 1) := by decide +kernel
theorem d_Types_init_99 : decode b_Types_init 99 = .ok (.invokestatic 43, 3) := by decide +kernel
theorem d_Types_init_102 : decode b_Types_init 102 = .ok (.return_, 1) := by decide +kernel
theorem d_Types_has_0 : decode b_Types_has 0 = .ok (.iload_n 1, 1) := by decide +kernel
theorem d_Types_has_1 : decode b_Types_has 1 = .ok (.ifCond .lt 15, 3) := by decide +kernel
theorem d_Types_has_4 : decode b_Types_has 4 = .ok (.iload_n 1, 1) := by decide +kernel
theorem d_Types_has_5 : decode b_Types_has 5 = .ok (.aload_n 0, 1) := by decide +kernel
theorem d_Types_has_6 : decode b_Types_has 6 = .ok (.getfield 49, 3) := by decide +kernel
theorem d_Types_has_9 : decode b_Types_has 9 = .ok (.if_icmp .ge 7, 3) := by decide +kernel
theorem d_Types_has_12 : decode b_Types_has 12 = .ok (.iconst 1, 1) := by decide +kernel
theorem d_Types_has_13 : decode b_Types_has 13 = .ok (.goto 4, 3) := by decide +kernel
theorem d_Types_has_16 : decode b_Types_has 16 = .ok (.iconst 0, 1) := by decide +kernel
theorem d_Types_has_17 : decode b_Types_has 17 = .ok (.ireturn, 1) := by decide +kernel
theorem d_Types_kindOf_0 : decode b_Types_kindOf 0 = .ok (.iload_n 1, 1) := by decide +kernel
theorem d_Types_kindOf_1 : decode b_Types_kindOf 1 = .ok (.ifCond .lt 20, 3) := by decide +kernel
theorem d_Types_kindOf_4 : decode b_Types_kindOf 4 = .ok (.iload_n 1, 1) := by decide +kernel
theorem d_Types_kindOf_5 : decode b_Types_kindOf 5 = .ok (.aload_n 0, 1) := by decide +kernel
theorem d_Types_kindOf_6 : decode b_Types_kindOf 6 = .ok (.getfield 49, 3) := by decide +kernel
theorem d_Types_kindOf_9 : decode b_Types_kindOf 9 = .ok (.if_icmp .ge 12, 3) := by decide +kernel
theorem d_Types_kindOf_12 : decode b_Types_kindOf 12 = .ok (.aload_n 0, 1) := by decide +kernel
theorem d_Types_kindOf_13 : decode b_Types_kindOf 13 = .ok (.getfield 9, 3) := by decide +kernel
theorem d_Types_kindOf_16 : decode b_Types_kindOf 16 = .ok (.iload_n 1, 1) := by decide +kernel
theorem d_Types_kindOf_17 : decode b_Types_kindOf 17 = .ok (.iaload, 1) := by decide +kernel
theorem d_Types_kindOf_18 : decode b_Types_kindOf 18 = .ok (.goto 4, 3) := by decide +kernel
theorem d_Types_kindOf_21 : decode b_Types_kindOf 21 = .ok (.iconst (-1), 1) := by decide +kernel
theorem d_Types_kindOf_22 : decode b_Types_kindOf 22 = .ok (.ireturn, 1) := by decide +kernel
theorem d_Types_firstOf_0 : decode b_Types_firstOf 0 = .ok (.iload_n 1, 1) := by decide +kernel
theorem d_Types_firstOf_1 : decode b_Types_firstOf 1 = .ok (.ifCond .lt 20, 3) := by decide +kernel
theorem d_Types_firstOf_4 : decode b_Types_firstOf 4 = .ok (.iload_n 1, 1) := by decide +kernel
theorem d_Types_firstOf_5 : decode b_Types_firstOf 5 = .ok (.aload_n 0, 1) := by decide +kernel
theorem d_Types_firstOf_6 : decode b_Types_firstOf 6 = .ok (.getfield 49, 3) := by decide +kernel
theorem d_Types_firstOf_9 : decode b_Types_firstOf 9 = .ok (.if_icmp .ge 12, 3) := by decide +kernel
theorem d_Types_firstOf_12 : decode b_Types_firstOf 12 = .ok (.aload_n 0, 1) := by decide +kernel
theorem d_Types_firstOf_13 : decode b_Types_firstOf 13 = .ok (.getfield 15, 3) := by decide +kernel
theorem d_Types_firstOf_16 : decode b_Types_firstOf 16 = .ok (.iload_n 1, 1) := by decide +kernel
theorem d_Types_firstOf_17 : decode b_Types_firstOf 17 = .ok (.iaload, 1) := by decide +kernel
theorem d_Types_firstOf_18 : decode b_Types_firstOf 18 = .ok (.goto 4, 3) := by decide +kernel
theorem d_Types_firstOf_21 : decode b_Types_firstOf 21 = .ok (.iconst (-1), 1) := by decide +kernel
theorem d_Types_firstOf_22 : decode b_Types_firstOf 22 = .ok (.ireturn, 1) := by decide +kernel
theorem d_Types_secondOf_0 : decode b_Types_secondOf 0 = .ok (.iload_n 1, 1) := by decide +kernel
theorem d_Types_secondOf_1 : decode b_Types_secondOf 1 = .ok (.ifCond .lt 20, 3) := by decide +kernel
theorem d_Types_secondOf_4 : decode b_Types_secondOf 4 = .ok (.iload_n 1, 1) := by decide +kernel
theorem d_Types_secondOf_5 : decode b_Types_secondOf 5 = .ok (.aload_n 0, 1) := by decide +kernel
theorem d_Types_secondOf_6 : decode b_Types_secondOf 6 = .ok (.getfield 49, 3) := by decide +kernel
theorem d_Types_secondOf_9 : decode b_Types_secondOf 9 = .ok (.if_icmp .ge 12, 3) := by decide +kernel
theorem d_Types_secondOf_12 : decode b_Types_secondOf 12 = .ok (.aload_n 0, 1) := by decide +kernel
theorem d_Types_secondOf_13 : decode b_Types_secondOf 13 = .ok (.getfield 18, 3) := by decide +kernel
theorem d_Types_secondOf_16 : decode b_Types_secondOf 16 = .ok (.iload_n 1, 1) := by decide +kernel
theorem d_Types_secondOf_17 : decode b_Types_secondOf 17 = .ok (.iaload, 1) := by decide +kernel
theorem d_Types_secondOf_18 : decode b_Types_secondOf 18 = .ok (.goto 4, 3) := by decide +kernel
theorem d_Types_secondOf_21 : decode b_Types_secondOf 21 = .ok (.iconst (-1), 1) := by decide +kernel
theorem d_Types_secondOf_22 : decode b_Types_secondOf 22 = .ok (.ireturn, 1) := by decide +kernel
theorem d_Types_thirdOf_0 : decode b_Types_thirdOf 0 = .ok (.iload_n 1, 1) := by decide +kernel
theorem d_Types_thirdOf_1 : decode b_Types_thirdOf 1 = .ok (.ifCond .lt 20, 3) := by decide +kernel
theorem d_Types_thirdOf_4 : decode b_Types_thirdOf 4 = .ok (.iload_n 1, 1) := by decide +kernel
theorem d_Types_thirdOf_5 : decode b_Types_thirdOf 5 = .ok (.aload_n 0, 1) := by decide +kernel
theorem d_Types_thirdOf_6 : decode b_Types_thirdOf 6 = .ok (.getfield 49, 3) := by decide +kernel
theorem d_Types_thirdOf_9 : decode b_Types_thirdOf 9 = .ok (.if_icmp .ge 12, 3) := by decide +kernel
theorem d_Types_thirdOf_12 : decode b_Types_thirdOf 12 = .ok (.aload_n 0, 1) := by decide +kernel
theorem d_Types_thirdOf_13 : decode b_Types_thirdOf 13 = .ok (.getfield 21, 3) := by decide +kernel
theorem d_Types_thirdOf_16 : decode b_Types_thirdOf 16 = .ok (.iload_n 1, 1) := by decide +kernel
theorem d_Types_thirdOf_17 : decode b_Types_thirdOf 17 = .ok (.iaload, 1) := by decide +kernel
theorem d_Types_thirdOf_18 : decode b_Types_thirdOf 18 = .ok (.goto 4, 3) := by decide +kernel
theorem d_Types_thirdOf_21 : decode b_Types_thirdOf 21 = .ok (.iconst (-1), 1) := by decide +kernel
theorem d_Types_thirdOf_22 : decode b_Types_thirdOf 22 = .ok (.ireturn, 1) := by decide +kernel
theorem d_Types_depthOf_0 : decode b_Types_depthOf 0 = .ok (.iload_n 1, 1) := by decide +kernel
theorem d_Types_depthOf_1 : decode b_Types_depthOf 1 = .ok (.ifCond .lt 20, 3) := by decide +kernel
theorem d_Types_depthOf_4 : decode b_Types_depthOf 4 = .ok (.iload_n 1, 1) := by decide +kernel
theorem d_Types_depthOf_5 : decode b_Types_depthOf 5 = .ok (.aload_n 0, 1) := by decide +kernel
theorem d_Types_depthOf_6 : decode b_Types_depthOf 6 = .ok (.getfield 49, 3) := by decide +kernel
theorem d_Types_depthOf_9 : decode b_Types_depthOf 9 = .ok (.if_icmp .ge 12, 3) := by decide +kernel
theorem d_Types_depthOf_12 : decode b_Types_depthOf 12 = .ok (.aload_n 0, 1) := by decide +kernel
theorem d_Types_depthOf_13 : decode b_Types_depthOf 13 = .ok (.getfield 24, 3) := by decide +kernel
theorem d_Types_depthOf_16 : decode b_Types_depthOf 16 = .ok (.iload_n 1, 1) := by decide +kernel
theorem d_Types_depthOf_17 : decode b_Types_depthOf 17 = .ok (.iaload, 1) := by decide +kernel
theorem d_Types_depthOf_18 : decode b_Types_depthOf 18 = .ok (.goto 4, 3) := by decide +kernel
theorem d_Types_depthOf_21 : decode b_Types_depthOf 21 = .ok (.iconst (-1), 1) := by decide +kernel
theorem d_Types_depthOf_22 : decode b_Types_depthOf 22 = .ok (.ireturn, 1) := by decide +kernel
theorem d_Types_variablesIn_0 : decode b_Types_variablesIn 0 = .ok (.iload_n 1, 1) := by decide +kernel
theorem d_Types_variablesIn_1 : decode b_Types_variablesIn 1 = .ok (.ifCond .lt 20, 3) := by decide +kernel
theorem d_Types_variablesIn_4 : decode b_Types_variablesIn 4 = .ok (.iload_n 1, 1) := by decide +kernel
theorem d_Types_variablesIn_5 : decode b_Types_variablesIn 5 = .ok (.aload_n 0, 1) := by decide +kernel
theorem d_Types_variablesIn_6 : decode b_Types_variablesIn 6 = .ok (.getfield 49, 3) := by decide +kernel
theorem d_Types_variablesIn_9 : decode b_Types_variablesIn 9 = .ok (.if_icmp .ge 12, 3) := by decide +kernel
theorem d_Types_variablesIn_12 : decode b_Types_variablesIn 12 = .ok (.aload_n 0, 1) := by decide +kernel
theorem d_Types_variablesIn_13 : decode b_Types_variablesIn 13 = .ok (.getfield 27, 3) := by decide +kernel
theorem d_Types_variablesIn_16 : decode b_Types_variablesIn 16 = .ok (.iload_n 1, 1) := by decide +kernel
theorem d_Types_variablesIn_17 : decode b_Types_variablesIn 17 = .ok (.iaload, 1) := by decide +kernel
theorem d_Types_variablesIn_18 : decode b_Types_variablesIn 18 = .ok (.goto 4, 3) := by decide +kernel
theorem d_Types_variablesIn_21 : decode b_Types_variablesIn 21 = .ok (.iconst 0, 1) := by decide +kernel
theorem d_Types_variablesIn_22 : decode b_Types_variablesIn 22 = .ok (.ireturn, 1) := by decide +kernel
theorem d_Types_isProper_0 : decode b_Types_isProper 0 = .ok (.iload_n 1, 1) := by decide +kernel
theorem d_Types_isProper_1 : decode b_Types_isProper 1 = .ok (.ifCond .lt 24, 3) := by decide +kernel
theorem d_Types_isProper_4 : decode b_Types_isProper 4 = .ok (.iload_n 1, 1) := by decide +kernel
theorem d_Types_isProper_5 : decode b_Types_isProper 5 = .ok (.aload_n 0, 1) := by decide +kernel
theorem d_Types_isProper_6 : decode b_Types_isProper 6 = .ok (.getfield 49, 3) := by decide +kernel
theorem d_Types_isProper_9 : decode b_Types_isProper 9 = .ok (.if_icmp .ge 16, 3) := by decide +kernel
theorem d_Types_isProper_12 : decode b_Types_isProper 12 = .ok (.aload_n 0, 1) := by decide +kernel
theorem d_Types_isProper_13 : decode b_Types_isProper 13 = .ok (.getfield 27, 3) := by decide +kernel
theorem d_Types_isProper_16 : decode b_Types_isProper 16 = .ok (.iload_n 1, 1) := by decide +kernel
theorem d_Types_isProper_17 : decode b_Types_isProper 17 = .ok (.iaload, 1) := by decide +kernel
theorem d_Types_isProper_18 : decode b_Types_isProper 18 = .ok (.ifCond .ne 7, 3) := by decide +kernel
theorem d_Types_isProper_21 : decode b_Types_isProper 21 = .ok (.iconst 1, 1) := by decide +kernel
theorem d_Types_isProper_22 : decode b_Types_isProper 22 = .ok (.goto 4, 3) := by decide +kernel
theorem d_Types_isProper_25 : decode b_Types_isProper 25 = .ok (.iconst 0, 1) := by decide +kernel
theorem d_Types_isProper_26 : decode b_Types_isProper 26 = .ok (.ireturn, 1) := by decide +kernel
theorem d_Types_ownersIn_0 : decode b_Types_ownersIn 0 = .ok (.iload_n 1, 1) := by decide +kernel
theorem d_Types_ownersIn_1 : decode b_Types_ownersIn 1 = .ok (.ifCond .lt 11, 3) := by decide +kernel
theorem d_Types_ownersIn_4 : decode b_Types_ownersIn 4 = .ok (.iload_n 1, 1) := by decide +kernel
theorem d_Types_ownersIn_5 : decode b_Types_ownersIn 5 = .ok (.aload_n 0, 1) := by decide +kernel
theorem d_Types_ownersIn_6 : decode b_Types_ownersIn 6 = .ok (.getfield 49, 3) := by decide +kernel
theorem d_Types_ownersIn_9 : decode b_Types_ownersIn 9 = .ok (.if_icmp .lt 5, 3) := by decide +kernel
theorem d_Types_ownersIn_12 : decode b_Types_ownersIn 12 = .ok (.lconst 0, 1) := by decide +kernel
theorem d_Types_ownersIn_13 : decode b_Types_ownersIn 13 = .ok (.lreturn, 1) := by decide +kernel
theorem d_Types_ownersIn_14 : decode b_Types_ownersIn 14 = .ok (.iload_n 2, 1) := by decide +kernel
theorem d_Types_ownersIn_15 : decode b_Types_ownersIn 15 = .ok (.ifCond .ge 12, 3) := by decide +kernel
theorem d_Types_ownersIn_18 : decode b_Types_ownersIn 18 = .ok (.aload_n 0, 1) := by decide +kernel
theorem d_Types_ownersIn_19 : decode b_Types_ownersIn 19 = .ok (.getfield 30, 3) := by decide +kernel
theorem d_Types_ownersIn_22 : decode b_Types_ownersIn 22 = .ok (.iload_n 1, 1) := by decide +kernel
theorem d_Types_ownersIn_23 : decode b_Types_ownersIn 23 = .ok (.laload, 1) := by decide +kernel
theorem d_Types_ownersIn_24 : decode b_Types_ownersIn 24 = .ok (.goto 17, 3) := by decide +kernel
theorem d_Types_ownersIn_27 : decode b_Types_ownersIn 27 = .ok (.aload_n 0, 1) := by decide +kernel
theorem d_Types_ownersIn_28 : decode b_Types_ownersIn 28 = .ok (.getfield 30, 3) := by decide +kernel
theorem d_Types_ownersIn_31 : decode b_Types_ownersIn 31 = .ok (.iload_n 1, 1) := by decide +kernel
theorem d_Types_ownersIn_32 : decode b_Types_ownersIn 32 = .ok (.laload, 1) := by decide +kernel
theorem d_Types_ownersIn_33 : decode b_Types_ownersIn 33 = .ok (.lconst 1, 1) := by decide +kernel
theorem d_Types_ownersIn_34 : decode b_Types_ownersIn 34 = .ok (.iload_n 2, 1) := by decide +kernel
theorem d_Types_ownersIn_35 : decode b_Types_ownersIn 35 = .ok (.lshl, 1) := by decide +kernel
theorem d_Types_ownersIn_36 : decode b_Types_ownersIn 36 = .ok (.ldc2_w 53, 3) := by decide +kernel
theorem d_Types_ownersIn_39 : decode b_Types_ownersIn 39 = .ok (.lxor, 1) := by decide +kernel
theorem d_Types_ownersIn_40 : decode b_Types_ownersIn 40 = .ok (.land, 1) := by decide +kernel
theorem d_Types_ownersIn_41 : decode b_Types_ownersIn 41 = .ok (.lreturn, 1) := by decide +kernel
theorem d_Types_isOfClassesBefore_0 : decode b_Types_isOfClassesBefore 0 = .ok (.iload_n 1, 1) := by decide +kernel
theorem d_Types_isOfClassesBefore_1 : decode b_Types_isOfClassesBefore 1 = .ok (.ifCond .lt 38, 3) := by decide +kernel
theorem d_Types_isOfClassesBefore_4 : decode b_Types_isOfClassesBefore 4 = .ok (.iload_n 1, 1) := by decide +kernel
theorem d_Types_isOfClassesBefore_5 : decode b_Types_isOfClassesBefore 5 = .ok (.aload_n 0, 1) := by decide +kernel
theorem d_Types_isOfClassesBefore_6 : decode b_Types_isOfClassesBefore 6 = .ok (.getfield 49, 3) := by decide +kernel
theorem d_Types_isOfClassesBefore_9 : decode b_Types_isOfClassesBefore 9 = .ok (.if_icmp .ge 30, 3) := by decide +kernel
theorem d_Types_isOfClassesBefore_12 : decode b_Types_isOfClassesBefore 12 = .ok (.iload_n 2, 1) := by decide +kernel
theorem d_Types_isOfClassesBefore_13 : decode b_Types_isOfClassesBefore 13 = .ok (.ifCond .lt 26, 3) := by decide +kernel
theorem d_Types_isOfClassesBefore_16 : decode b_Types_isOfClassesBefore 16 = .ok (.iload_n 2, 1) := by decide +kernel
theorem d_Types_isOfClassesBefore_17 : decode b_Types_isOfClassesBefore 17 = .ok (.bipush 40, 2) := by decide +kernel
theorem d_Types_isOfClassesBefore_19 : decode b_Types_isOfClassesBefore 19 = .ok (.if_icmp .ge 20, 3) := by decide +kernel
theorem d_Types_isOfClassesBefore_22 : decode b_Types_isOfClassesBefore 22 = .ok (.aload_n 0, 1) := by decide +kernel
theorem d_Types_isOfClassesBefore_23 : decode b_Types_isOfClassesBefore 23 = .ok (.getfield 34, 3) := by decide +kernel
theorem d_Types_isOfClassesBefore_26 : decode b_Types_isOfClassesBefore 26 = .ok (.iload_n 1, 1) := by decide +kernel
theorem d_Types_isOfClassesBefore_27 : decode b_Types_isOfClassesBefore 27 = .ok (.laload, 1) := by decide +kernel
theorem d_Types_isOfClassesBefore_28 : decode b_Types_isOfClassesBefore 28 = .ok (.iload_n 2, 1) := by decide +kernel
theorem d_Types_isOfClassesBefore_29 : decode b_Types_isOfClassesBefore 29 = .ok (.lshr, 1) := by decide +kernel
theorem d_Types_isOfClassesBefore_30 : decode b_Types_isOfClassesBefore 30 = .ok (.lconst 0, 1) := by decide +kernel
theorem d_Types_isOfClassesBefore_31 : decode b_Types_isOfClassesBefore 31 = .ok (.lcmp, 1) := by decide +kernel
theorem d_Types_isOfClassesBefore_32 : decode b_Types_isOfClassesBefore 32 = .ok (.ifCond .ne 7, 3) := by decide +kernel
theorem d_Types_isOfClassesBefore_35 : decode b_Types_isOfClassesBefore 35 = .ok (.iconst 1, 1) := by decide +kernel
theorem d_Types_isOfClassesBefore_36 : decode b_Types_isOfClassesBefore 36 = .ok (.goto 4, 3) := by decide +kernel
theorem d_Types_isOfClassesBefore_39 : decode b_Types_isOfClassesBefore 39 = .ok (.iconst 0, 1) := by decide +kernel
theorem d_Types_isOfClassesBefore_40 : decode b_Types_isOfClassesBefore 40 = .ok (.ireturn, 1) := by decide +kernel
theorem d_Types_argumentOf_0 : decode b_Types_argumentOf 0 = .ok (.iload_n 1, 1) := by decide +kernel
theorem d_Types_argumentOf_1 : decode b_Types_argumentOf 1 = .ok (.ifCond .lt 11, 3) := by decide +kernel
theorem d_Types_argumentOf_4 : decode b_Types_argumentOf 4 = .ok (.iload_n 1, 1) := by decide +kernel
theorem d_Types_argumentOf_5 : decode b_Types_argumentOf 5 = .ok (.aload_n 0, 1) := by decide +kernel
theorem d_Types_argumentOf_6 : decode b_Types_argumentOf 6 = .ok (.getfield 49, 3) := by decide +kernel
theorem d_Types_argumentOf_9 : decode b_Types_argumentOf 9 = .ok (.if_icmp .lt 5, 3) := by decide +kernel
theorem d_Types_argumentOf_12 : decode b_Types_argumentOf 12 = .ok (.iconst (-1), 1) := by decide +kernel
theorem d_Types_argumentOf_13 : decode b_Types_argumentOf 13 = .ok (.ireturn, 1) := by decide +kernel
theorem d_Types_argumentOf_14 : decode b_Types_argumentOf 14 = .ok (.iload_n 2, 1) := by decide +kernel
theorem d_Types_argumentOf_15 : decode b_Types_argumentOf 15 = .ok (.ifCond .ne 12, 3) := by decide +kernel
theorem d_Types_argumentOf_18 : decode b_Types_argumentOf 18 = .ok (.aload_n 0, 1) := by decide +kernel
theorem d_Types_argumentOf_19 : decode b_Types_argumentOf 19 = .ok (.getfield 18, 3) := by decide +kernel
theorem d_Types_argumentOf_22 : decode b_Types_argumentOf 22 = .ok (.iload_n 1, 1) := by decide +kernel
theorem d_Types_argumentOf_23 : decode b_Types_argumentOf 23 = .ok (.iaload, 1) := by decide +kernel
theorem d_Types_argumentOf_24 : decode b_Types_argumentOf 24 = .ok (.goto 9, 3) := by decide +kernel
theorem d_Types_argumentOf_27 : decode b_Types_argumentOf 27 = .ok (.aload_n 0, 1) := by decide +kernel
theorem d_Types_argumentOf_28 : decode b_Types_argumentOf 28 = .ok (.getfield 21, 3) := by decide +kernel
theorem d_Types_argumentOf_31 : decode b_Types_argumentOf 31 = .ok (.iload_n 1, 1) := by decide +kernel
theorem d_Types_argumentOf_32 : decode b_Types_argumentOf 32 = .ok (.iaload, 1) := by decide +kernel
theorem d_Types_argumentOf_33 : decode b_Types_argumentOf 33 = .ok (.ireturn, 1) := by decide +kernel
theorem d_Types_classOf_0 : decode b_Types_classOf 0 = .ok (.iload_n 1, 1) := by decide +kernel
theorem d_Types_classOf_1 : decode b_Types_classOf 1 = .ok (.ifCond .lt 11, 3) := by decide +kernel
theorem d_Types_classOf_4 : decode b_Types_classOf 4 = .ok (.iload_n 1, 1) := by decide +kernel
theorem d_Types_classOf_5 : decode b_Types_classOf 5 = .ok (.aload_n 0, 1) := by decide +kernel
theorem d_Types_classOf_6 : decode b_Types_classOf 6 = .ok (.getfield 49, 3) := by decide +kernel
theorem d_Types_classOf_9 : decode b_Types_classOf 9 = .ok (.if_icmp .lt 5, 3) := by decide +kernel
theorem d_Types_classOf_12 : decode b_Types_classOf 12 = .ok (.iconst (-1), 1) := by decide +kernel
theorem d_Types_classOf_13 : decode b_Types_classOf 13 = .ok (.ireturn, 1) := by decide +kernel
theorem d_Types_classOf_14 : decode b_Types_classOf 14 = .ok (.aload_n 0, 1) := by decide +kernel
theorem d_Types_classOf_15 : decode b_Types_classOf 15 = .ok (.getfield 9, 3) := by decide +kernel
theorem d_Types_classOf_18 : decode b_Types_classOf 18 = .ok (.iload_n 1, 1) := by decide +kernel
theorem d_Types_classOf_19 : decode b_Types_classOf 19 = .ok (.iaload, 1) := by decide +kernel
theorem d_Types_classOf_20 : decode b_Types_classOf 20 = .ok (.ifCond .eq 13, 3) := by decide +kernel
theorem d_Types_classOf_23 : decode b_Types_classOf 23 = .ok (.aload_n 0, 1) := by decide +kernel
theorem d_Types_classOf_24 : decode b_Types_classOf 24 = .ok (.getfield 9, 3) := by decide +kernel
theorem d_Types_classOf_27 : decode b_Types_classOf 27 = .ok (.iload_n 1, 1) := by decide +kernel
theorem d_Types_classOf_28 : decode b_Types_classOf 28 = .ok (.iaload, 1) := by decide +kernel
theorem d_Types_classOf_29 : decode b_Types_classOf 29 = .ok (.iconst 1, 1) := by decide +kernel
theorem d_Types_classOf_30 : decode b_Types_classOf 30 = .ok (.if_icmp .ne 12, 3) := by decide +kernel
theorem d_Types_classOf_33 : decode b_Types_classOf 33 = .ok (.aload_n 0, 1) := by decide +kernel
theorem d_Types_classOf_34 : decode b_Types_classOf 34 = .ok (.getfield 15, 3) := by decide +kernel
theorem d_Types_classOf_37 : decode b_Types_classOf 37 = .ok (.iload_n 1, 1) := by decide +kernel
theorem d_Types_classOf_38 : decode b_Types_classOf 38 = .ok (.iaload, 1) := by decide +kernel
theorem d_Types_classOf_39 : decode b_Types_classOf 39 = .ok (.goto 4, 3) := by decide +kernel
theorem d_Types_classOf_42 : decode b_Types_classOf 42 = .ok (.iconst (-1), 1) := by decide +kernel
theorem d_Types_classOf_43 : decode b_Types_classOf 43 = .ok (.ireturn, 1) := by decide +kernel
theorem d_Types_captureBound_0 : decode b_Types_captureBound 0 = .ok (.iload_n 1, 1) := by decide +kernel
theorem d_Types_captureBound_1 : decode b_Types_captureBound 1 = .ok (.ifCond .lt 22, 3) := by decide +kernel
theorem d_Types_captureBound_4 : decode b_Types_captureBound 4 = .ok (.iload_n 1, 1) := by decide +kernel
theorem d_Types_captureBound_5 : decode b_Types_captureBound 5 = .ok (.aload_n 0, 1) := by decide +kernel
theorem d_Types_captureBound_6 : decode b_Types_captureBound 6 = .ok (.getfield 49, 3) := by decide +kernel
theorem d_Types_captureBound_9 : decode b_Types_captureBound 9 = .ok (.if_icmp .ge 14, 3) := by decide +kernel
theorem d_Types_captureBound_12 : decode b_Types_captureBound 12 = .ok (.aload_n 0, 1) := by decide +kernel
theorem d_Types_captureBound_13 : decode b_Types_captureBound 13 = .ok (.getfield 9, 3) := by decide +kernel
theorem d_Types_captureBound_16 : decode b_Types_captureBound 16 = .ok (.iload_n 1, 1) := by decide +kernel
theorem d_Types_captureBound_17 : decode b_Types_captureBound 17 = .ok (.iaload, 1) := by decide +kernel
theorem d_Types_captureBound_18 : decode b_Types_captureBound 18 = .ok (.bipush 8, 2) := by decide +kernel
theorem d_Types_captureBound_20 : decode b_Types_captureBound 20 = .ok (.if_icmp .eq 5, 3) := by decide +kernel
theorem d_Types_captureBound_23 : decode b_Types_captureBound 23 = .ok (.iconst (-1), 1) := by decide +kernel
theorem d_Types_captureBound_24 : decode b_Types_captureBound 24 = .ok (.ireturn, 1) := by decide +kernel
theorem d_Types_captureBound_25 : decode b_Types_captureBound 25 = .ok (.aload_n 0, 1) := by decide +kernel
theorem d_Types_captureBound_26 : decode b_Types_captureBound 26 = .ok (.aload_n 0, 1) := by decide +kernel
theorem d_Types_captureBound_27 : decode b_Types_captureBound 27 = .ok (.getfield 15, 3) := by decide +kernel
theorem d_Types_captureBound_30 : decode b_Types_captureBound 30 = .ok (.iload_n 1, 1) := by decide +kernel
theorem d_Types_captureBound_31 : decode b_Types_captureBound 31 = .ok (.iaload, 1) := by decide +kernel
theorem d_Types_captureBound_32 : decode b_Types_captureBound 32 = .ok (.aload_n 0, 1) := by decide +kernel
theorem d_Types_captureBound_33 : decode b_Types_captureBound 33 = .ok (.getfield 18, 3) := by decide +kernel
theorem d_Types_captureBound_36 : decode b_Types_captureBound 36 = .ok (.iload_n 1, 1) := by decide +kernel
theorem d_Types_captureBound_37 : decode b_Types_captureBound 37 = .ok (.iaload, 1) := by decide +kernel
theorem d_Types_captureBound_38 : decode b_Types_captureBound 38 = .ok (.invokevirtual 55, 3) := by decide +kernel
theorem d_Types_captureBound_41 : decode b_Types_captureBound 41 = .ok (.istore_n 3, 1) := by decide +kernel
theorem d_Types_captureBound_42 : decode b_Types_captureBound 42 = .ok (.aload_n 0, 1) := by decide +kernel
theorem d_Types_captureBound_43 : decode b_Types_captureBound 43 = .ok (.iload_n 3, 1) := by decide +kernel
theorem d_Types_captureBound_44 : decode b_Types_captureBound 44 = .ok (.invokevirtual 59, 3) := by decide +kernel
theorem d_Types_captureBound_47 : decode b_Types_captureBound 47 = .ok (.iload_n 2, 1) := by decide +kernel
theorem d_Types_captureBound_48 : decode b_Types_captureBound 48 = .ok (.if_icmp .ne 11, 3) := by decide +kernel
theorem d_Types_captureBound_51 : decode b_Types_captureBound 51 = .ok (.aload_n 0, 1) := by decide +kernel
theorem d_Types_captureBound_52 : decode b_Types_captureBound 52 = .ok (.iload_n 3, 1) := by decide +kernel
theorem d_Types_captureBound_53 : decode b_Types_captureBound 53 = .ok (.invokevirtual 63, 3) := by decide +kernel
theorem d_Types_captureBound_56 : decode b_Types_captureBound 56 = .ok (.goto 4, 3) := by decide +kernel
theorem d_Types_captureBound_59 : decode b_Types_captureBound 59 = .ok (.iconst (-1), 1) := by decide +kernel
theorem d_Types_captureBound_60 : decode b_Types_captureBound 60 = .ok (.ireturn, 1) := by decide +kernel
end
section
theorem d_Types_make_0 : decode b_Types_make 0 = .ok (.iload_n 1, 1) := by decide +kernel
theorem d_Types_make_1 : decode b_Types_make 1 = .ok (.bipush 31, 2) := by decide +kernel
theorem d_Types_make_3 : decode b_Types_make 3 = .ok (.imul, 1) := by decide +kernel
theorem d_Types_make_4 : decode b_Types_make 4 = .ok (.iload_n 2, 1) := by decide +kernel
theorem d_Types_make_5 : decode b_Types_make 5 = .ok (.iadd, 1) := by decide +kernel
theorem d_Types_make_6 : decode b_Types_make 6 = .ok (.bipush 31, 2) := by decide +kernel
theorem d_Types_make_8 : decode b_Types_make 8 = .ok (.imul, 1) := by decide +kernel
theorem d_Types_make_9 : decode b_Types_make 9 = .ok (.iload_n 3, 1) := by decide +kernel
theorem d_Types_make_10 : decode b_Types_make 10 = .ok (.iadd, 1) := by decide +kernel
theorem d_Types_make_11 : decode b_Types_make 11 = .ok (.bipush 31, 2) := by decide +kernel
theorem d_Types_make_13 : decode b_Types_make 13 = .ok (.imul, 1) := by decide +kernel
theorem d_Types_make_14 : decode b_Types_make 14 = .ok (.iload 4, 2) := by decide +kernel
theorem d_Types_make_16 : decode b_Types_make 16 = .ok (.iadd, 1) := by decide +kernel
theorem d_Types_make_17 : decode b_Types_make 17 = .ok (.bipush 127, 2) := by decide +kernel
theorem d_Types_make_19 : decode b_Types_make 19 = .ok (.iand, 1) := by decide +kernel
theorem d_Types_make_20 : decode b_Types_make 20 = .ok (.istore 5, 2) := by decide +kernel
theorem d_Types_make_22 : decode b_Types_make 22 = .ok (.aload_n 0, 1) := by decide +kernel
theorem d_Types_make_23 : decode b_Types_make 23 = .ok (.getfield 37, 3) := by decide +kernel
theorem d_Types_make_26 : decode b_Types_make 26 = .ok (.iload 5, 2) := by decide +kernel
theorem d_Types_make_28 : decode b_Types_make 28 = .ok (.iaload, 1) := by decide +kernel
theorem d_Types_make_29 : decode b_Types_make 29 = .ok (.istore 6, 2) := by decide +kernel
theorem d_Types_make_31 : decode b_Types_make 31 = .ok (.iconst 0, 1) := by decide +kernel
theorem d_Types_make_32 : decode b_Types_make 32 = .ok (.istore 7, 2) := by decide +kernel
theorem d_Types_make_34 : decode b_Types_make 34 = .ok (.iload 7, 2) := by decide +kernel
theorem d_Types_make_36 : decode b_Types_make 36 = .ok (.sipush 500, 3) := by decide +kernel
theorem d_Types_make_39 : decode b_Types_make 39 = .ok (.if_icmp .ge 80, 3) := by decide +kernel
theorem d_Types_make_42 : decode b_Types_make 42 = .ok (.iload 6, 2) := by decide +kernel
theorem d_Types_make_44 : decode b_Types_make 44 = .ok (.ifCond .lt 75, 3) := by decide +kernel
theorem d_Types_make_47 : decode b_Types_make 47 = .ok (.iload 6, 2) := by decide +kernel
theorem d_Types_make_49 : decode b_Types_make 49 = .ok (.aload_n 0, 1) := by decide +kernel
theorem d_Types_make_50 : decode b_Types_make 50 = .ok (.getfield 49, 3) := by decide +kernel
theorem d_Types_make_53 : decode b_Types_make 53 = .ok (.if_icmp .ge 66, 3) := by decide +kernel
theorem d_Types_make_56 : decode b_Types_make 56 = .ok (.aload_n 0, 1) := by decide +kernel
theorem d_Types_make_57 : decode b_Types_make 57 = .ok (.getfield 9, 3) := by decide +kernel
theorem d_Types_make_60 : decode b_Types_make 60 = .ok (.iload 6, 2) := by decide +kernel
theorem d_Types_make_62 : decode b_Types_make 62 = .ok (.iaload, 1) := by decide +kernel
theorem d_Types_make_63 : decode b_Types_make 63 = .ok (.iload_n 1, 1) := by decide +kernel
theorem d_Types_make_64 : decode b_Types_make 64 = .ok (.if_icmp .ne 40, 3) := by decide +kernel
theorem d_Types_make_67 : decode b_Types_make 67 = .ok (.aload_n 0, 1) := by decide +kernel
theorem d_Types_make_68 : decode b_Types_make 68 = .ok (.getfield 15, 3) := by decide +kernel
theorem d_Types_make_71 : decode b_Types_make 71 = .ok (.iload 6, 2) := by decide +kernel
theorem d_Types_make_73 : decode b_Types_make 73 = .ok (.iaload, 1) := by decide +kernel
theorem d_Types_make_74 : decode b_Types_make 74 = .ok (.iload_n 2, 1) := by decide +kernel
theorem d_Types_make_75 : decode b_Types_make 75 = .ok (.if_icmp .ne 29, 3) := by decide +kernel
theorem d_Types_make_78 : decode b_Types_make 78 = .ok (.aload_n 0, 1) := by decide +kernel
theorem d_Types_make_79 : decode b_Types_make 79 = .ok (.getfield 18, 3) := by decide +kernel
theorem d_Types_make_82 : decode b_Types_make 82 = .ok (.iload 6, 2) := by decide +kernel
theorem d_Types_make_84 : decode b_Types_make 84 = .ok (.iaload, 1) := by decide +kernel
theorem d_Types_make_85 : decode b_Types_make 85 = .ok (.iload_n 3, 1) := by decide +kernel
theorem d_Types_make_86 : decode b_Types_make 86 = .ok (.if_icmp .ne 18, 3) := by decide +kernel
theorem d_Types_make_89 : decode b_Types_make 89 = .ok (.aload_n 0, 1) := by decide +kernel
theorem d_Types_make_90 : decode b_Types_make 90 = .ok (.getfield 21, 3) := by decide +kernel
theorem d_Types_make_93 : decode b_Types_make 93 = .ok (.iload 6, 2) := by decide +kernel
theorem d_Types_make_95 : decode b_Types_make 95 = .ok (.iaload, 1) := by decide +kernel
theorem d_Types_make_96 : decode b_Types_make 96 = .ok (.iload 4, 2) := by decide +kernel
theorem d_Types_make_98 : decode b_Types_make 98 = .ok (.if_icmp .ne 6, 3) := by decide +kernel
theorem d_Types_make_101 : decode b_Types_make 101 = .ok (.iload 6, 2) := by decide +kernel
theorem d_Types_make_103 : decode b_Types_make 103 = .ok (.ireturn, 1) := by decide +kernel
theorem d_Types_make_104 : decode b_Types_make 104 = .ok (.aload_n 0, 1) := by decide +kernel
theorem d_Types_make_105 : decode b_Types_make 105 = .ok (.getfield 40, 3) := by decide +kernel
theorem d_Types_make_108 : decode b_Types_make 108 = .ok (.iload 6, 2) := by decide +kernel
theorem d_Types_make_110 : decode b_Types_make 110 = .ok (.iaload, 1) := by decide +kernel
theorem d_Types_make_111 : decode b_Types_make 111 = .ok (.istore 6, 2) := by decide +kernel
theorem d_Types_make_113 : decode b_Types_make 113 = .ok (.iinc 7 1, 3) := by decide +kernel
theorem d_Types_make_116 : decode b_Types_make 116 = .ok (.goto (-82), 3) := by decide +kernel
theorem d_Types_make_119 : decode b_Types_make 119 = .ok (.iconst 1, 1) := by decide +kernel
theorem d_Types_make_120 : decode b_Types_make 120 = .ok (.istore 7, 2) := by decide +kernel
theorem d_Types_make_122 : decode b_Types_make 122 = .ok (.iload_n 1, 1) := by decide +kernel
theorem d_Types_make_123 : decode b_Types_make 123 = .ok (.bipush 7, 2) := by decide +kernel
theorem d_Types_make_125 : decode b_Types_make 125 = .ok (.if_icmp .ne 9, 3) := by decide +kernel
theorem d_Types_make_128 : decode b_Types_make 128 = .ok (.iconst 1, 1) := by decide +kernel
theorem d_Types_make_129 : decode b_Types_make 129 = .ok (.iload_n 2, 1) := by decide +kernel
theorem d_Types_make_130 : decode b_Types_make 130 = .ok (.ishl, 1) := by decide +kernel
theorem d_Types_make_131 : decode b_Types_make 131 = .ok (.goto 4, 3) := by decide +kernel
theorem d_Types_make_134 : decode b_Types_make 134 = .ok (.iconst 0, 1) := by decide +kernel
theorem d_Types_make_135 : decode b_Types_make 135 = .ok (.istore 8, 2) := by decide +kernel
theorem d_Types_make_137 : decode b_Types_make 137 = .ok (.iload_n 1, 1) := by decide +kernel
theorem d_Types_make_138 : decode b_Types_make 138 = .ok (.iconst 3, 1) := by decide +kernel
theorem d_Types_make_139 : decode b_Types_make 139 = .ok (.if_icmp .ne 9, 3) := by decide +kernel
theorem d_Types_make_142 : decode b_Types_make 142 = .ok (.lconst 1, 1) := by decide +kernel
theorem d_Types_make_143 : decode b_Types_make 143 = .ok (.iload_n 2, 1) := by decide +kernel
theorem d_Types_make_144 : decode b_Types_make 144 = .ok (.lshl, 1) := by decide +kernel
theorem d_Types_make_145 : decode b_Types_make 145 = .ok (.goto 4, 3) := by decide +kernel
theorem d_Types_make_148 : decode b_Types_make 148 = .ok (.lconst 0, 1) := by decide +kernel
theorem d_Types_make_149 : decode b_Types_make 149 = .ok (.lstore 9, 2) := by decide +kernel
theorem d_Types_make_151 : decode b_Types_make 151 = .ok (.iload_n 1, 1) := by decide +kernel
theorem d_Types_make_152 : decode b_Types_make 152 = .ok (.ifCond .eq 8, 3) := by decide +kernel
theorem d_Types_make_155 : decode b_Types_make 155 = .ok (.iload_n 1, 1) := by decide +kernel
theorem d_Types_make_156 : decode b_Types_make 156 = .ok (.iconst 1, 1) := by decide +kernel
theorem d_Types_make_157 : decode b_Types_make 157 = .ok (.if_icmp .ne 9, 3) := by decide +kernel
theorem d_Types_make_160 : decode b_Types_make 160 = .ok (.lconst 1, 1) := by decide +kernel
theorem d_Types_make_161 : decode b_Types_make 161 = .ok (.iload_n 2, 1) := by decide +kernel
theorem d_Types_make_162 : decode b_Types_make 162 = .ok (.lshl, 1) := by decide +kernel
theorem d_Types_make_163 : decode b_Types_make 163 = .ok (.goto 4, 3) := by decide +kernel
theorem d_Types_make_166 : decode b_Types_make 166 = .ok (.lconst 0, 1) := by decide +kernel
theorem d_Types_make_167 : decode b_Types_make 167 = .ok (.lstore 11, 2) := by decide +kernel
theorem d_Types_make_169 : decode b_Types_make 169 = .ok (.iconst 0, 1) := by decide +kernel
theorem d_Types_make_170 : decode b_Types_make 170 = .ok (.istore 13, 2) := by decide +kernel
theorem d_Types_make_172 : decode b_Types_make 172 = .ok (.iload 13, 2) := by decide +kernel
theorem d_Types_make_174 : decode b_Types_make 174 = .ok (.iconst 3, 1) := by decide +kernel
theorem d_Types_make_175 : decode b_Types_make 175 = .ok (.if_icmp .ge 141, 3) := by decide +kernel
theorem d_Types_make_178 : decode b_Types_make 178 = .ok (.iconst (-1), 1) := by decide +kernel
theorem d_Types_make_179 : decode b_Types_make 179 = .ok (.istore 14, 2) := by decide +kernel
theorem d_Types_make_181 : decode b_Types_make 181 = .ok (.iload 13, 2) := by decide +kernel
theorem d_Types_make_183 : decode b_Types_make 183 = .ok (.ifCond .ne 17, 3) := by decide +kernel
theorem d_Types_make_186 : decode b_Types_make 186 = .ok (.iload_n 1, 1) := by decide +kernel
theorem d_Types_make_187 : decode b_Types_make 187 = .ok (.iconst 4, 1) := by decide +kernel
theorem d_Types_make_188 : decode b_Types_make 188 = .ok (.if_icmp .eq 9, 3) := by decide +kernel
theorem d_Types_make_191 : decode b_Types_make 191 = .ok (.iload_n 1, 1) := by decide +kernel
theorem d_Types_make_192 : decode b_Types_make 192 = .ok (.bipush 8, 2) := by decide +kernel
theorem d_Types_make_194 : decode b_Types_make 194 = .ok (.if_icmp .ne 6, 3) := by decide +kernel
theorem d_Types_make_197 : decode b_Types_make 197 = .ok (.iload_n 2, 1) := by decide +kernel
theorem d_Types_make_198 : decode b_Types_make 198 = .ok (.istore 14, 2) := by decide +kernel
theorem d_Types_make_200 : decode b_Types_make 200 = .ok (.iload 13, 2) := by decide +kernel
theorem d_Types_make_202 : decode b_Types_make 202 = .ok (.iconst 1, 1) := by decide +kernel
theorem d_Types_make_203 : decode b_Types_make 203 = .ok (.if_icmp .ne 16, 3) := by decide +kernel
theorem d_Types_make_206 : decode b_Types_make 206 = .ok (.iload_n 1, 1) := by decide +kernel
theorem d_Types_make_207 : decode b_Types_make 207 = .ok (.iconst 1, 1) := by decide +kernel
theorem d_Types_make_208 : decode b_Types_make 208 = .ok (.if_icmp .eq 8, 3) := by decide +kernel
theorem d_Types_make_211 : decode b_Types_make 211 = .ok (.iload_n 1, 1) := by decide +kernel
theorem d_Types_make_212 : decode b_Types_make 212 = .ok (.iconst 2, 1) := by decide +kernel
theorem d_Types_make_213 : decode b_Types_make 213 = .ok (.if_icmp .ne 6, 3) := by decide +kernel
theorem d_Types_make_216 : decode b_Types_make 216 = .ok (.iload_n 3, 1) := by decide +kernel
theorem d_Types_make_217 : decode b_Types_make 217 = .ok (.istore 14, 2) := by decide +kernel
theorem d_Types_make_219 : decode b_Types_make 219 = .ok (.iload 13, 2) := by decide +kernel
theorem d_Types_make_221 : decode b_Types_make 221 = .ok (.iconst 2, 1) := by decide +kernel
theorem d_Types_make_222 : decode b_Types_make 222 = .ok (.if_icmp .ne 12, 3) := by decide +kernel
theorem d_Types_make_225 : decode b_Types_make 225 = .ok (.iload_n 1, 1) := by decide +kernel
theorem d_Types_make_226 : decode b_Types_make 226 = .ok (.iconst 1, 1) := by decide +kernel
theorem d_Types_make_227 : decode b_Types_make 227 = .ok (.if_icmp .ne 7, 3) := by decide +kernel
theorem d_Types_make_230 : decode b_Types_make 230 = .ok (.iload 4, 2) := by decide +kernel
theorem d_Types_make_232 : decode b_Types_make 232 = .ok (.istore 14, 2) := by decide +kernel
theorem d_Types_make_234 : decode b_Types_make 234 = .ok (.iload 14, 2) := by decide +kernel
theorem d_Types_make_236 : decode b_Types_make 236 = .ok (.ifCond .lt 74, 3) := by decide +kernel
theorem d_Types_make_239 : decode b_Types_make 239 = .ok (.iload 14, 2) := by decide +kernel
theorem d_Types_make_241 : decode b_Types_make 241 = .ok (.aload_n 0, 1) := by decide +kernel
theorem d_Types_make_242 : decode b_Types_make 242 = .ok (.getfield 49, 3) := by decide +kernel
theorem d_Types_make_245 : decode b_Types_make 245 = .ok (.if_icmp .lt 6, 3) := by decide +kernel
theorem d_Types_make_248 : decode b_Types_make 248 = .ok (.goto 62, 3) := by decide +kernel
theorem d_Types_make_251 : decode b_Types_make 251 = .ok (.iload 7, 2) := by decide +kernel
theorem d_Types_make_253 : decode b_Types_make 253 = .ok (.aload_n 0, 1) := by decide +kernel
theorem d_Types_make_254 : decode b_Types_make 254 = .ok (.getfield 24, 3) := by decide +kernel
theorem d_Types_make_257 : decode b_Types_make 257 = .ok (.iload 14, 2) := by decide +kernel
theorem d_Types_make_259 : decode b_Types_make 259 = .ok (.iaload, 1) := by decide +kernel
theorem d_Types_make_260 : decode b_Types_make 260 = .ok (.if_icmp .gt 14, 3) := by decide +kernel
theorem d_Types_make_263 : decode b_Types_make 263 = .ok (.aload_n 0, 1) := by decide +kernel
theorem d_Types_make_264 : decode b_Types_make 264 = .ok (.getfield 24, 3) := by decide +kernel
theorem d_Types_make_267 : decode b_Types_make 267 = .ok (.iload 14, 2) := by decide +kernel
theorem d_Types_make_269 : decode b_Types_make 269 = .ok (.iaload, 1) := by decide +kernel
theorem d_Types_make_270 : decode b_Types_make 270 = .ok (.iconst 1, 1) := by decide +kernel
theorem d_Types_make_271 : decode b_Types_make 271 = .ok (.iadd, 1) := by decide +kernel
theorem d_Types_make_272 : decode b_Types_make 272 = .ok (.istore 7, 2) := by decide +kernel
theorem d_Types_make_274 : decode b_Types_make 274 = .ok (.iload 8, 2) := by decide +kernel
theorem d_Types_make_276 : decode b_Types_make 276 = .ok (.aload_n 0, 1) := by decide +kernel
theorem d_Types_make_277 : decode b_Types_make 277 = .ok (.getfield 27, 3) := by decide +kernel
theorem d_Types_make_280 : decode b_Types_make 280 = .ok (.iload 14, 2) := by decide +kernel
theorem d_Types_make_282 : decode b_Types_make 282 = .ok (.iaload, 1) := by decide +kernel
theorem d_Types_make_283 : decode b_Types_make 283 = .ok (.ior, 1) := by decide +kernel
theorem d_Types_make_284 : decode b_Types_make 284 = .ok (.istore 8, 2) := by decide +kernel
theorem d_Types_make_286 : decode b_Types_make 286 = .ok (.lload 9, 2) := by decide +kernel
theorem d_Types_make_288 : decode b_Types_make 288 = .ok (.aload_n 0, 1) := by decide +kernel
theorem d_Types_make_289 : decode b_Types_make 289 = .ok (.getfield 30, 3) := by decide +kernel
theorem d_Types_make_292 : decode b_Types_make 292 = .ok (.iload 14, 2) := by decide +kernel
theorem d_Types_make_294 : decode b_Types_make 294 = .ok (.laload, 1) := by decide +kernel
theorem d_Types_make_295 : decode b_Types_make 295 = .ok (.lor, 1) := by decide +kernel
theorem d_Types_make_296 : decode b_Types_make 296 = .ok (.lstore 9, 2) := by decide +kernel
theorem d_Types_make_298 : decode b_Types_make 298 = .ok (.lload 11, 2) := by decide +kernel
theorem d_Types_make_300 : decode b_Types_make 300 = .ok (.aload_n 0, 1) := by decide +kernel
theorem d_Types_make_301 : decode b_Types_make 301 = .ok (.getfield 34, 3) := by decide +kernel
theorem d_Types_make_304 : decode b_Types_make 304 = .ok (.iload 14, 2) := by decide +kernel
theorem d_Types_make_306 : decode b_Types_make 306 = .ok (.laload, 1) := by decide +kernel
theorem d_Types_make_307 : decode b_Types_make 307 = .ok (.lor, 1) := by decide +kernel
theorem d_Types_make_308 : decode b_Types_make 308 = .ok (.lstore 11, 2) := by decide +kernel
theorem d_Types_make_310 : decode b_Types_make 310 = .ok (.iinc 13 1, 3) := by decide +kernel
theorem d_Types_make_313 : decode b_Types_make 313 = .ok (.goto (-141), 3) := by decide +kernel
theorem d_Types_make_316 : decode b_Types_make 316 = .ok (.iload 7, 2) := by decide +kernel
theorem d_Types_make_318 : decode b_Types_make 318 = .ok (.bipush 20, 2) := by decide +kernel
theorem d_Types_make_320 : decode b_Types_make 320 = .ok (.if_icmp .gt 20, 3) := by decide +kernel
theorem d_Types_make_323 : decode b_Types_make 323 = .ok (.aload_n 0, 1) := by decide +kernel
theorem d_Types_make_324 : decode b_Types_make 324 = .ok (.getfield 49, 3) := by decide +kernel
theorem d_Types_make_327 : decode b_Types_make 327 = .ok (.ifCond .lt 13, 3) := by decide +kernel
theorem d_Types_make_330 : decode b_Types_make 330 = .ok (.aload_n 0, 1) := by decide +kernel
theorem d_Types_make_331 : decode b_Types_make 331 = .ok (.getfield 49, 3) := by decide +kernel
theorem d_Types_make_334 : decode b_Types_make 334 = .ok (.sipush 500, 3) := by decide +kernel
theorem d_Types_make_337 : decode b_Types_make 337 = .ok (.if_icmp .lt 6, 3) := by decide +kernel
theorem d_Types_make_340 : decode b_Types_make 340 = .ok (.bipush (-3), 2) := by decide +kernel
theorem d_Types_make_342 : decode b_Types_make 342 = .ok (.ireturn, 1) := by decide +kernel
theorem d_Types_make_343 : decode b_Types_make 343 = .ok (.aload_n 0, 1) := by decide +kernel
theorem d_Types_make_344 : decode b_Types_make 344 = .ok (.getfield 49, 3) := by decide +kernel
theorem d_Types_make_347 : decode b_Types_make 347 = .ok (.istore 6, 2) := by decide +kernel
theorem d_Types_make_349 : decode b_Types_make 349 = .ok (.aload_n 0, 1) := by decide +kernel
theorem d_Types_make_350 : decode b_Types_make 350 = .ok (.getfield 9, 3) := by decide +kernel
theorem d_Types_make_353 : decode b_Types_make 353 = .ok (.iload 6, 2) := by decide +kernel
theorem d_Types_make_355 : decode b_Types_make 355 = .ok (.iload_n 1, 1) := by decide +kernel
theorem d_Types_make_356 : decode b_Types_make 356 = .ok (.iastore, 1) := by decide +kernel
theorem d_Types_make_357 : decode b_Types_make 357 = .ok (.aload_n 0, 1) := by decide +kernel
theorem d_Types_make_358 : decode b_Types_make 358 = .ok (.getfield 15, 3) := by decide +kernel
theorem d_Types_make_361 : decode b_Types_make 361 = .ok (.iload 6, 2) := by decide +kernel
theorem d_Types_make_363 : decode b_Types_make 363 = .ok (.iload_n 2, 1) := by decide +kernel
theorem d_Types_make_364 : decode b_Types_make 364 = .ok (.iastore, 1) := by decide +kernel
theorem d_Types_make_365 : decode b_Types_make 365 = .ok (.aload_n 0, 1) := by decide +kernel
theorem d_Types_make_366 : decode b_Types_make 366 = .ok (.getfield 18, 3) := by decide +kernel
theorem d_Types_make_369 : decode b_Types_make 369 = .ok (.iload 6, 2) := by decide +kernel
theorem d_Types_make_371 : decode b_Types_make 371 = .ok (.iload_n 3, 1) := by decide +kernel
theorem d_Types_make_372 : decode b_Types_make 372 = .ok (.iastore, 1) := by decide +kernel
theorem d_Types_make_373 : decode b_Types_make 373 = .ok (.aload_n 0, 1) := by decide +kernel
theorem d_Types_make_374 : decode b_Types_make 374 = .ok (.getfield 21, 3) := by decide +kernel
theorem d_Types_make_377 : decode b_Types_make 377 = .ok (.iload 6, 2) := by decide +kernel
theorem d_Types_make_379 : decode b_Types_make 379 = .ok (.iload 4, 2) := by decide +kernel
theorem d_Types_make_381 : decode b_Types_make 381 = .ok (.iastore, 1) := by decide +kernel
theorem d_Types_make_382 : decode b_Types_make 382 = .ok (.aload_n 0, 1) := by decide +kernel
theorem d_Types_make_383 : decode b_Types_make 383 = .ok (.getfield 24, 3) := by decide +kernel
theorem d_Types_make_386 : decode b_Types_make 386 = .ok (.iload 6, 2) := by decide +kernel
theorem d_Types_make_388 : decode b_Types_make 388 = .ok (.iload 7, 2) := by decide +kernel
theorem d_Types_make_390 : decode b_Types_make 390 = .ok (.iastore, 1) := by decide +kernel
theorem d_Types_make_391 : decode b_Types_make 391 = .ok (.aload_n 0, 1) := by decide +kernel
theorem d_Types_make_392 : decode b_Types_make 392 = .ok (.getfield 27, 3) := by decide +kernel
theorem d_Types_make_395 : decode b_Types_make 395 = .ok (.iload 6, 2) := by decide +kernel
theorem d_Types_make_397 : decode b_Types_make 397 = .ok (.iload 8, 2) := by decide +kernel
theorem d_Types_make_399 : decode b_Types_make 399 = .ok (.iastore, 1) := by decide +kernel
theorem d_Types_make_400 : decode b_Types_make 400 = .ok (.aload_n 0, 1) := by decide +kernel
theorem d_Types_make_401 : decode b_Types_make 401 = .ok (.getfield 30, 3) := by decide +kernel
theorem d_Types_make_404 : decode b_Types_make 404 = .ok (.iload 6, 2) := by decide +kernel
theorem d_Types_make_406 : decode b_Types_make 406 = .ok (.lload 9, 2) := by decide +kernel
theorem d_Types_make_408 : decode b_Types_make 408 = .ok (.lastore, 1) := by decide +kernel
theorem d_Types_make_409 : decode b_Types_make 409 = .ok (.aload_n 0, 1) := by decide +kernel
theorem d_Types_make_410 : decode b_Types_make 410 = .ok (.getfield 34, 3) := by decide +kernel
theorem d_Types_make_413 : decode b_Types_make 413 = .ok (.iload 6, 2) := by decide +kernel
theorem d_Types_make_415 : decode b_Types_make 415 = .ok (.lload 11, 2) := by decide +kernel
theorem d_Types_make_417 : decode b_Types_make 417 = .ok (.lastore, 1) := by decide +kernel
theorem d_Types_make_418 : decode b_Types_make 418 = .ok (.aload_n 0, 1) := by decide +kernel
theorem d_Types_make_419 : decode b_Types_make 419 = .ok (.getfield 40, 3) := by decide +kernel
theorem d_Types_make_422 : decode b_Types_make 422 = .ok (.iload 6, 2) := by decide +kernel
theorem d_Types_make_424 : decode b_Types_make 424 = .ok (.aload_n 0, 1) := by decide +kernel
theorem d_Types_make_425 : decode b_Types_make 425 = .ok (.getfield 37, 3) := by decide +kernel
theorem d_Types_make_428 : decode b_Types_make 428 = .ok (.iload 5, 2) := by decide +kernel
theorem d_Types_make_430 : decode b_Types_make 430 = .ok (.iaload, 1) := by decide +kernel
theorem d_Types_make_431 : decode b_Types_make 431 = .ok (.iastore, 1) := by decide +kernel
theorem d_Types_make_432 : decode b_Types_make 432 = .ok (.aload_n 0, 1) := by decide +kernel
theorem d_Types_make_433 : decode b_Types_make 433 = .ok (.getfield 37, 3) := by decide +kernel
theorem d_Types_make_436 : decode b_Types_make 436 = .ok (.iload 5, 2) := by decide +kernel
theorem d_Types_make_438 : decode b_Types_make 438 = .ok (.iload 6, 2) := by decide +kernel
theorem d_Types_make_440 : decode b_Types_make 440 = .ok (.iastore, 1) := by decide +kernel
theorem d_Types_make_441 : decode b_Types_make 441 = .ok (.aload_n 0, 1) := by decide +kernel
theorem d_Types_make_442 : decode b_Types_make 442 = .ok (.dup, 1) := by decide +kernel
theorem d_Types_make_443 : decode b_Types_make 443 = .ok (.getfield 49, 3) := by decide +kernel
theorem d_Types_make_446 : decode b_Types_make 446 = .ok (.iconst 1, 1) := by decide +kernel
theorem d_Types_make_447 : decode b_Types_make 447 = .ok (.iadd, 1) := by decide +kernel
theorem d_Types_make_448 : decode b_Types_make 448 = .ok (.putfield 49, 3) := by decide +kernel
theorem d_Types_make_451 : decode b_Types_make 451 = .ok (.iload 6, 2) := by decide +kernel
theorem d_Types_make_453 : decode b_Types_make 453 = .ok (.ireturn, 1) := by decide +kernel
theorem d_Work_init_0 : decode b_Work_init 0 = .ok (.aload_n 0, 1) := by decide +kernel
theorem d_Work_init_1 : decode b_Work_init 1 = .ok (.invokespecial 3, 3) := by decide +kernel
theorem d_Work_init_4 : decode b_Work_init 4 = .ok (.aload_n 0, 1) := by decide +kernel
theorem d_Work_init_5 : decode b_Work_init 5 = .ok (.bipush 120, 2) := by decide +kernel
theorem d_Work_init_7 : decode b_Work_init 7 = .ok (.newarray .int, 2) := by decide +kernel
theorem d_Work_init_9 : decode b_Work_init 9 = .ok (.putfield 11, 3) := by decide +kernel
theorem d_Work_init_12 : decode b_Work_init 12 = .ok (.aload_n 0, 1) := by decide +kernel
theorem d_Work_init_13 : decode b_Work_init 13 = .ok (.bipush 120, 2) := by decide +kernel
theorem d_Work_init_15 : decode b_Work_init 15 = .ok (.newarray .int, 2) := by decide +kernel
theorem d_Work_init_17 : decode b_Work_init 17 = .ok (.putfield 15, 3) := by decide +kernel
theorem d_Work_init_20 : decode b_Work_init 20 = .ok (.aload_n 0, 1) := by decide +kernel
theorem d_Work_init_21 : decode b_Work_init 21 = .ok (.bipush 120, 2) := by decide +kernel
theorem d_Work_init_23 : decode b_Work_init 23 = .ok (.newarray .int, 2) := by decide +kernel
theorem d_Work_init_25 : decode b_Work_init 25 = .ok (.putfield 18, 3) := by decide +kernel
theorem d_Work_init_28 : decode b_Work_init 28 = .ok (.aload_n 0, 1) := by decide +kernel
theorem d_Work_init_29 : decode b_Work_init 29 = .ok (.bipush 120, 2) := by decide +kernel
theorem d_Work_init_31 : decode b_Work_init 31 = .ok (.newarray .int, 2) := by decide +kernel
theorem d_Work_init_33 : decode b_Work_init 33 = .ok (.putfield 21, 3) := by decide +kernel
theorem d_Work_init_36 : decode b_Work_init 36 = .ok (.return_, 1) := by decide +kernel
theorem d_Work_add_0 : decode b_Work_add 0 = .ok (.aload_n 0, 1) := by decide +kernel
theorem d_Work_add_1 : decode b_Work_add 1 = .ok (.getfield 24, 3) := by decide +kernel
theorem d_Work_add_4 : decode b_Work_add 4 = .ok (.ifCond .lt 12, 3) := by decide +kernel
theorem d_Work_add_7 : decode b_Work_add 7 = .ok (.aload_n 0, 1) := by decide +kernel
theorem d_Work_add_8 : decode b_Work_add 8 = .ok (.getfield 24, 3) := by decide +kernel
theorem d_Work_add_11 : decode b_Work_add 11 = .ok (.bipush 120, 2) := by decide +kernel
theorem d_Work_add_13 : decode b_Work_add 13 = .ok (.if_icmp .lt 5, 3) := by decide +kernel
theorem d_Work_add_16 : decode b_Work_add 16 = .ok (.iconst 0, 1) := by decide +kernel
theorem d_Work_add_17 : decode b_Work_add 17 = .ok (.ireturn, 1) := by decide +kernel
theorem d_Work_add_18 : decode b_Work_add 18 = .ok (.aload_n 0, 1) := by decide +kernel
theorem d_Work_add_19 : decode b_Work_add 19 = .ok (.getfield 11, 3) := by decide +kernel
theorem d_Work_add_22 : decode b_Work_add 22 = .ok (.aload_n 0, 1) := by decide +kernel
theorem d_Work_add_23 : decode b_Work_add 23 = .ok (.getfield 24, 3) := by decide +kernel
theorem d_Work_add_26 : decode b_Work_add 26 = .ok (.iload_n 1, 1) := by decide +kernel
theorem d_Work_add_27 : decode b_Work_add 27 = .ok (.iastore, 1) := by decide +kernel
theorem d_Work_add_28 : decode b_Work_add 28 = .ok (.aload_n 0, 1) := by decide +kernel
theorem d_Work_add_29 : decode b_Work_add 29 = .ok (.getfield 15, 3) := by decide +kernel
theorem d_Work_add_32 : decode b_Work_add 32 = .ok (.aload_n 0, 1) := by decide +kernel
theorem d_Work_add_33 : decode b_Work_add 33 = .ok (.getfield 24, 3) := by decide +kernel
theorem d_Work_add_36 : decode b_Work_add 36 = .ok (.iload_n 2, 1) := by decide +kernel
theorem d_Work_add_37 : decode b_Work_add 37 = .ok (.iastore, 1) := by decide +kernel
theorem d_Work_add_38 : decode b_Work_add 38 = .ok (.aload_n 0, 1) := by decide +kernel
theorem d_Work_add_39 : decode b_Work_add 39 = .ok (.getfield 18, 3) := by decide +kernel
theorem d_Work_add_42 : decode b_Work_add 42 = .ok (.aload_n 0, 1) := by decide +kernel
theorem d_Work_add_43 : decode b_Work_add 43 = .ok (.getfield 24, 3) := by decide +kernel
theorem d_Work_add_46 : decode b_Work_add 46 = .ok (.iload_n 3, 1) := by decide +kernel
theorem d_Work_add_47 : decode b_Work_add 47 = .ok (.iastore, 1) := by decide +kernel
theorem d_Work_add_48 : decode b_Work_add 48 = .ok (.aload_n 0, 1) := by decide +kernel
theorem d_Work_add_49 : decode b_Work_add 49 = .ok (.getfield 21, 3) := by decide +kernel
theorem d_Work_add_52 : decode b_Work_add 52 = .ok (.aload_n 0, 1) := by decide +kernel
theorem d_Work_add_53 : decode b_Work_add 53 = .ok (.getfield 24, 3) := by decide +kernel
theorem d_Work_add_56 : decode b_Work_add 56 = .ok (.iload 4, 2) := by decide +kernel
theorem d_Work_add_58 : decode b_Work_add 58 = .ok (.iastore, 1) := by decide +kernel
theorem d_Work_add_59 : decode b_Work_add 59 = .ok (.aload_n 0, 1) := by decide +kernel
theorem d_Work_add_60 : decode b_Work_add 60 = .ok (.dup, 1) := by decide +kernel
theorem d_Work_add_61 : decode b_Work_add 61 = .ok (.getfield 24, 3) := by decide +kernel
theorem d_Work_add_64 : decode b_Work_add 64 = .ok (.iconst 1, 1) := by decide +kernel
theorem d_Work_add_65 : decode b_Work_add 65 = .ok (.iadd, 1) := by decide +kernel
theorem d_Work_add_66 : decode b_Work_add 66 = .ok (.putfield 24, 3) := by decide +kernel
theorem d_Work_add_69 : decode b_Work_add 69 = .ok (.iconst 1, 1) := by decide +kernel
theorem d_Work_add_70 : decode b_Work_add 70 = .ok (.ireturn, 1) := by decide +kernel
theorem d_Work_take_0 : decode b_Work_take 0 = .ok (.aload_n 0, 1) := by decide +kernel
theorem d_Work_take_1 : decode b_Work_take 1 = .ok (.getfield 24, 3) := by decide +kernel
theorem d_Work_take_4 : decode b_Work_take 4 = .ok (.iconst 1, 1) := by decide +kernel
theorem d_Work_take_5 : decode b_Work_take 5 = .ok (.if_icmp .lt 12, 3) := by decide +kernel
theorem d_Work_take_8 : decode b_Work_take 8 = .ok (.aload_n 0, 1) := by decide +kernel
theorem d_Work_take_9 : decode b_Work_take 9 = .ok (.getfield 24, 3) := by decide +kernel
theorem d_Work_take_12 : decode b_Work_take 12 = .ok (.bipush 120, 2) := by decide +kernel
theorem d_Work_take_14 : decode b_Work_take 14 = .ok (.if_icmp .le 5, 3) := by decide +kernel
theorem d_Work_take_17 : decode b_Work_take 17 = .ok (.iconst 0, 1) := by decide +kernel
theorem d_Work_take_18 : decode b_Work_take 18 = .ok (.ireturn, 1) := by decide +kernel
theorem d_Work_take_19 : decode b_Work_take 19 = .ok (.aload_n 0, 1) := by decide +kernel
theorem d_Work_take_20 : decode b_Work_take 20 = .ok (.dup, 1) := by decide +kernel
theorem d_Work_take_21 : decode b_Work_take 21 = .ok (.getfield 24, 3) := by decide +kernel
theorem d_Work_take_24 : decode b_Work_take 24 = .ok (.iconst 1, 1) := by decide +kernel
theorem d_Work_take_25 : decode b_Work_take 25 = .ok (.isub, 1) := by decide +kernel
theorem d_Work_take_26 : decode b_Work_take 26 = .ok (.putfield 24, 3) := by decide +kernel
theorem d_Work_take_29 : decode b_Work_take 29 = .ok (.aload_n 0, 1) := by decide +kernel
theorem d_Work_take_30 : decode b_Work_take 30 = .ok (.aload_n 0, 1) := by decide +kernel
theorem d_Work_take_31 : decode b_Work_take 31 = .ok (.getfield 11, 3) := by decide +kernel
theorem d_Work_take_34 : decode b_Work_take 34 = .ok (.aload_n 0, 1) := by decide +kernel
theorem d_Work_take_35 : decode b_Work_take 35 = .ok (.getfield 24, 3) := by decide +kernel
theorem d_Work_take_38 : decode b_Work_take 38 = .ok (.iaload, 1) := by decide +kernel
theorem d_Work_take_39 : decode b_Work_take 39 = .ok (.putfield 28, 3) := by decide +kernel
theorem d_Work_take_42 : decode b_Work_take 42 = .ok (.aload_n 0, 1) := by decide +kernel
theorem d_Work_take_43 : decode b_Work_take 43 = .ok (.aload_n 0, 1) := by decide +kernel
theorem d_Work_take_44 : decode b_Work_take 44 = .ok (.getfield 15, 3) := by decide +kernel
theorem d_Work_take_47 : decode b_Work_take 47 = .ok (.aload_n 0, 1) := by decide +kernel
theorem d_Work_take_48 : decode b_Work_take 48 = .ok (.getfield 24, 3) := by decide +kernel
theorem d_Work_take_51 : decode b_Work_take 51 = .ok (.iaload, 1) := by decide +kernel
theorem d_Work_take_52 : decode b_Work_take 52 = .ok (.putfield 31, 3) := by decide +kernel
theorem d_Work_take_55 : decode b_Work_take 55 = .ok (.aload_n 0, 1) := by decide +kernel
theorem d_Work_take_56 : decode b_Work_take 56 = .ok (.aload_n 0, 1) := by decide +kernel
theorem d_Work_take_57 : decode b_Work_take 57 = .ok (.getfield 18, 3) := by decide +kernel
theorem d_Work_take_60 : decode b_Work_take 60 = .ok (.aload_n 0, 1) := by decide +kernel
theorem d_Work_take_61 : decode b_Work_take 61 = .ok (.getfield 24, 3) := by decide +kernel
theorem d_Work_take_64 : decode b_Work_take 64 = .ok (.iaload, 1) := by decide +kernel
theorem d_Work_take_65 : decode b_Work_take 65 = .ok (.putfield 34, 3) := by decide +kernel
theorem d_Work_take_68 : decode b_Work_take 68 = .ok (.aload_n 0, 1) := by decide +kernel
theorem d_Work_take_69 : decode b_Work_take 69 = .ok (.aload_n 0, 1) := by decide +kernel
theorem d_Work_take_70 : decode b_Work_take 70 = .ok (.getfield 21, 3) := by decide +kernel
theorem d_Work_take_73 : decode b_Work_take 73 = .ok (.aload_n 0, 1) := by decide +kernel
theorem d_Work_take_74 : decode b_Work_take 74 = .ok (.getfield 24, 3) := by decide +kernel
theorem d_Work_take_77 : decode b_Work_take 77 = .ok (.iaload, 1) := by decide +kernel
theorem d_Work_take_78 : decode b_Work_take 78 = .ok (.putfield 37, 3) := by decide +kernel
theorem d_Work_take_81 : decode b_Work_take 81 = .ok (.iconst 1, 1) := by decide +kernel
theorem d_Work_take_82 : decode b_Work_take 82 = .ok (.ireturn, 1) := by decide +kernel
theorem d_I_init_0 : decode b_I_init 0 = .ok (.aload_n 0, 1) := by decide +kernel
theorem d_I_init_1 : decode b_I_init 1 = .ok (.invokespecial 1, 3) := by decide +kernel
theorem d_I_init_4 : decode b_I_init 4 = .ok (.aload_n 0, 1) := by decide +kernel
theorem d_I_init_5 : decode b_I_init 5 = .ok (.new 7, 3) := by decide +kernel
theorem d_I_init_8 : decode b_I_init 8 = .ok (.dup, 1) := by decide +kernel
theorem d_I_init_9 : decode b_I_init 9 = .ok (.invokespecial 9, 3) := by decide +kernel
theorem d_I_init_12 : decode b_I_init 12 = .ok (.putfield 10, 3) := by decide +kernel
theorem d_I_init_15 : decode b_I_init 15 = .ok (.aload_n 0, 1) := by decide +kernel
theorem d_I_init_16 : decode b_I_init 16 = .ok (.new 16, 3) := by decide +kernel
theorem d_I_init_19 : decode b_I_init 19 = .ok (.dup, 1) := by decide +kernel
theorem d_I_init_20 : decode b_I_init 20 = .ok (.invokespecial 18, 3) := by decide +kernel
theorem d_I_init_23 : decode b_I_init 23 = .ok (.putfield 19, 3) := by decide +kernel
theorem d_I_init_26 : decode b_I_init 26 = .ok (.aload_n 0, 1) := by decide +kernel
theorem d_I_init_27 : decode b_I_init 27 = .ok (.new 23, 3) := by decide +kernel
theorem d_I_init_30 : decode b_I_init 30 = .ok (.dup, 1) := by decide +kernel
theorem d_I_init_31 : decode b_I_init 31 = .ok (.invokespecial 25, 3) := by decide +kernel
theorem d_I_init_34 : decode b_I_init 34 = .ok (.putfield 26, 3) := by decide +kernel
theorem d_I_init_37 : decode b_I_init 37 = .ok (.aload_n 0, 1) := by decide +kernel
theorem d_I_init_38 : decode b_I_init 38 = .ok (.bipush 12, 2) := by decide +kernel
theorem d_I_init_40 : decode b_I_init 40 = .ok (.newarray .int, 2) := by decide +kernel
theorem d_I_init_42 : decode b_I_init 42 = .ok (.putfield 30, 3) := by decide +kernel
theorem d_I_init_45 : decode b_I_init 45 = .ok (.new 34, 3) := by decide +kernel
theorem d_I_init_48 : decode b_I_init 48 = .ok (.dup, 1) := by decide +kernel
theorem d_I_init_49 : decode b_I_init 49 = .ok (.aload_n 0, 1) := by decide +kernel
theorem d_I_init_50 : decode b_I_init 50 = .ok (.getfield 19, 3) := by decide +kernel
theorem d_I_init_53 : decode b_I_init 53 = .ok (.invokespecial 36, 3) := by decide +kernel
theorem d_I_init_56 : decode b_I_init 56 = .ok (.astore_n 1, 1) := by decide +kernel
theorem d_I_init_57 : decode b_I_init 57 = .ok (.aload_n 0, 1) := by decide +kernel
theorem d_I_init_58 : decode b_I_init 58 = .ok (.new 39, 3) := by decide +kernel
theorem d_I_init_61 : decode b_I_init 61 = .ok (.dup, 1) := by decide +kernel
theorem d_I_init_62 : decode b_I_init 62 = .ok (.aload_n 0, 1) := by decide +kernel
theorem d_I_init_63 : decode b_I_init 63 = .ok (.getfield 10, 3) := by decide +kernel
theorem d_I_init_66 : decode b_I_init 66 = .ok (.aload_n 0, 1) := by decide +kernel
theorem d_I_init_67 : decode b_I_init 67 = .ok (.getfield 19, 3) := by decide +kernel
theorem d_I_init_70 : decode b_I_init 70 = .ok (.aload_n 0, 1) := by decide +kernel
theorem d_I_init_71 : decode b_I_init 71 = .ok (.getfield 26, 3) := by decide +kernel
theorem d_I_init_74 : decode b_I_init 74 = .ok (.aload_n 1, 1) := by decide +kernel
theorem d_I_init_75 : decode b_I_init 75 = .ok (.invokespecial 41, 3) := by decide +kernel
theorem d_I_init_78 : decode b_I_init 78 = .ok (.putfield 44, 3) := by decide +kernel
theorem d_I_init_81 : decode b_I_init 81 = .ok (.aload_n 0, 1) := by decide +kernel
theorem d_I_init_82 : decode b_I_init 82 = .ok (.new 48, 3) := by decide +kernel
theorem d_I_init_85 : decode b_I_init 85 = .ok (.dup, 1) := by decide +kernel
theorem d_I_init_86 : decode b_I_init 86 = .ok (.aload_n 0, 1) := by decide +kernel
theorem d_I_init_87 : decode b_I_init 87 = .ok (.getfield 10, 3) := by decide +kernel
theorem d_I_init_90 : decode b_I_init 90 = .ok (.aload_n 0, 1) := by decide +kernel
theorem d_I_init_91 : decode b_I_init 91 = .ok (.getfield 19, 3) := by decide +kernel
theorem d_I_init_94 : decode b_I_init 94 = .ok (.aload_n 0, 1) := by decide +kernel
theorem d_I_init_95 : decode b_I_init 95 = .ok (.getfield 26, 3) := by decide +kernel
theorem d_I_init_98 : decode b_I_init 98 = .ok (.aload_n 1, 1) := by decide +kernel
theorem d_I_init_99 : decode b_I_init 99 = .ok (.aload_n 0, 1) := by decide +kernel
theorem d_I_init_100 : decode b_I_init 100 = .ok (.getfield 44, 3) := by decide +kernel
theorem d_I_init_103 : decode b_I_init 103 = .ok (.aload_n 0, 1) := by decide +kernel
theorem d_I_init_104 : decode b_I_init 104 = .ok (.getfield 30, 3) := by decide +kernel
theorem d_I_init_107 : decode b_I_init 107 = .ok (.invokespecial 50, 3) := by decide +kernel
theorem d_I_init_110 : decode b_I_init 110 = .ok (.putfield 53, 3) := by decide +kernel
theorem d_I_init_113 : decode b_I_init 113 = .ok (.aload_n 0, 1) := by decide +kernel
theorem d_I_init_114 : decode b_I_init 114 = .ok (.new 57, 3) := by decide +kernel
theorem d_I_init_117 : decode b_I_init 117 = .ok (.dup, 1) := by decide +kernel
theorem d_I_init_118 : decode b_I_init 118 = .ok (.aload_n 0, 1) := by decide +kernel
theorem d_I_init_119 : decode b_I_init 119 = .ok (.getfield 10, 3) := by decide +kernel
theorem d_I_init_122 : decode b_I_init 122 = .ok (.aload_n 0, 1) := by decide +kernel
theorem d_I_init_123 : decode b_I_init 123 = .ok (.getfield 19, 3) := by decide +kernel
theorem d_I_init_126 : decode b_I_init 126 = .ok (.aload_n 0, 1) := by decide +kernel
theorem d_I_init_127 : decode b_I_init 127 = .ok (.getfield 26, 3) := by decide +kernel
theorem d_I_init_130 : decode b_I_init 130 = .ok (.aload_n 0, 1) := by decide +kernel
theorem d_I_init_131 : decode b_I_init 131 = .ok (.getfield 44, 3) := by decide +kernel
theorem d_I_init_134 : decode b_I_init 134 = .ok (.invokespecial 59, 3) := by decide +kernel
theorem d_I_init_137 : decode b_I_init 137 = .ok (.putfield 62, 3) := by decide +kernel
theorem d_I_init_140 : decode b_I_init 140 = .ok (.aload_n 0, 1) := by decide +kernel
theorem d_I_init_141 : decode b_I_init 141 = .ok (.new 66, 3) := by decide +kernel
theorem d_I_init_144 : decode b_I_init 144 = .ok (.dup, 1) := by decide +kernel
theorem d_I_init_145 : decode b_I_init 145 = .ok (.invokespecial 68, 3) := by decide +kernel
theorem d_I_init_148 : decode b_I_init 148 = .ok (.putfield 69, 3) := by decide +kernel
theorem d_I_init_151 : decode b_I_init 151 = .ok (.aload_n 0, 1) := by decide +kernel
theorem d_I_init_152 : decode b_I_init 152 = .ok (.iconst (-1), 1) := by decide +kernel
theorem d_I_init_153 : decode b_I_init 153 = .ok (.putfield 73, 3) := by decide +kernel
theorem d_I_init_156 : decode b_I_init 156 = .ok (.return_, 1) := by decide +kernel
theorem d_I_declare_0 : decode b_I_declare 0 = .ok (.iload_n 1, 1) := by decide +kernel
theorem d_I_declare_1 : decode b_I_declare 1 = .ok (.ifCond .lt 8, 3) := by decide +kernel
theorem d_I_declare_4 : decode b_I_declare 4 = .ok (.iload_n 1, 1) := by decide +kernel
theorem d_I_declare_5 : decode b_I_declare 5 = .ok (.iconst 2, 1) := by decide +kernel
theorem d_I_declare_6 : decode b_I_declare 6 = .ok (.if_icmp .le 6, 3) := by decide +kernel
theorem d_I_declare_9 : decode b_I_declare 9 = .ok (.bipush (-2), 2) := by decide +kernel
theorem d_I_declare_11 : decode b_I_declare 11 = .ok (.ireturn, 1) := by decide +kernel
theorem d_I_declare_12 : decode b_I_declare 12 = .ok (.aload_n 0, 1) := by decide +kernel
theorem d_I_declare_13 : decode b_I_declare 13 = .ok (.getfield 10, 3) := by decide +kernel
theorem d_I_declare_16 : decode b_I_declare 16 = .ok (.iload_n 1, 1) := by decide +kernel
theorem d_I_declare_17 : decode b_I_declare 17 = .ok (.invokevirtual 77, 3) := by decide +kernel
theorem d_I_declare_20 : decode b_I_declare 20 = .ok (.ireturn, 1) := by decide +kernel
theorem d_I_parent_0 : decode b_I_parent 0 = .ok (.iload_n 1, 1) := by decide +kernel
theorem d_I_parent_1 : decode b_I_parent 1 = .ok (.bipush 9, 2) := by decide +kernel
theorem d_I_parent_3 : decode b_I_parent 3 = .ok (.if_icmp .lt 23, 3) := by decide +kernel
theorem d_I_parent_6 : decode b_I_parent 6 = .ok (.aload_n 0, 1) := by decide +kernel
theorem d_I_parent_7 : decode b_I_parent 7 = .ok (.getfield 10, 3) := by decide +kernel
theorem d_I_parent_10 : decode b_I_parent 10 = .ok (.iload_n 1, 1) := by decide +kernel
theorem d_I_parent_11 : decode b_I_parent 11 = .ok (.invokevirtual 81, 3) := by decide +kernel
theorem d_I_parent_14 : decode b_I_parent 14 = .ok (.ifCond .eq 12, 3) := by decide +kernel
theorem d_I_parent_17 : decode b_I_parent 17 = .ok (.aload_n 0, 1) := by decide +kernel
theorem d_I_parent_18 : decode b_I_parent 18 = .ok (.iload_n 1, 1) := by decide +kernel
theorem d_I_parent_19 : decode b_I_parent 19 = .ok (.iload_n 2, 1) := by decide +kernel
theorem d_I_parent_20 : decode b_I_parent 20 = .ok (.invokevirtual 85, 3) := by decide +kernel
theorem d_I_parent_23 : decode b_I_parent 23 = .ok (.ifCond .ne 6, 3) := by decide +kernel
theorem d_I_parent_26 : decode b_I_parent 26 = .ok (.bipush (-2), 2) := by decide +kernel
theorem d_I_parent_28 : decode b_I_parent 28 = .ok (.ireturn, 1) := by decide +kernel
theorem d_I_parent_29 : decode b_I_parent 29 = .ok (.aload_n 0, 1) := by decide +kernel
theorem d_I_parent_30 : decode b_I_parent 30 = .ok (.getfield 10, 3) := by decide +kernel
theorem d_I_parent_33 : decode b_I_parent 33 = .ok (.iload_n 1, 1) := by decide +kernel
theorem d_I_parent_34 : decode b_I_parent 34 = .ok (.iload_n 2, 1) := by decide +kernel
theorem d_I_parent_35 : decode b_I_parent 35 = .ok (.aload_n 0, 1) := by decide +kernel
theorem d_I_parent_36 : decode b_I_parent 36 = .ok (.getfield 19, 3) := by decide +kernel
theorem d_I_parent_39 : decode b_I_parent 39 = .ok (.iload_n 2, 1) := by decide +kernel
theorem d_I_parent_40 : decode b_I_parent 40 = .ok (.invokevirtual 89, 3) := by decide +kernel
theorem d_I_parent_43 : decode b_I_parent 43 = .ok (.invokevirtual 92, 3) := by decide +kernel
theorem d_I_parent_46 : decode b_I_parent 46 = .ok (.ireturn, 1) := by decide +kernel
theorem d_I_plain_0 : decode b_I_plain 0 = .ok (.aload_n 0, 1) := by decide +kernel
theorem d_I_plain_1 : decode b_I_plain 1 = .ok (.getfield 10, 3) := by decide +kernel
theorem d_I_plain_4 : decode b_I_plain 4 = .ok (.iload_n 1, 1) := by decide +kernel
theorem d_I_plain_5 : decode b_I_plain 5 = .ok (.invokevirtual 81, 3) := by decide +kernel
theorem d_I_plain_8 : decode b_I_plain 8 = .ok (.ifCond .ne 6, 3) := by decide +kernel
theorem d_I_plain_11 : decode b_I_plain 11 = .ok (.bipush (-2), 2) := by decide +kernel
theorem d_I_plain_13 : decode b_I_plain 13 = .ok (.ireturn, 1) := by decide +kernel
theorem d_I_plain_14 : decode b_I_plain 14 = .ok (.aload_n 0, 1) := by decide +kernel
theorem d_I_plain_15 : decode b_I_plain 15 = .ok (.getfield 19, 3) := by decide +kernel
theorem d_I_plain_18 : decode b_I_plain 18 = .ok (.iconst 0, 1) := by decide +kernel
theorem d_I_plain_19 : decode b_I_plain 19 = .ok (.iload_n 1, 1) := by decide +kernel
theorem d_I_plain_20 : decode b_I_plain 20 = .ok (.iconst (-1), 1) := by decide +kernel
theorem d_I_plain_21 : decode b_I_plain 21 = .ok (.iconst (-1), 1) := by decide +kernel
theorem d_I_plain_22 : decode b_I_plain 22 = .ok (.invokevirtual 96, 3) := by decide +kernel
theorem d_I_plain_25 : decode b_I_plain 25 = .ok (.ireturn, 1) := by decide +kernel
theorem d_I_of_0 : decode b_I_of 0 = .ok (.aload_n 0, 1) := by decide +kernel
theorem d_I_of_1 : decode b_I_of 1 = .ok (.getfield 10, 3) := by decide +kernel
theorem d_I_of_4 : decode b_I_of 4 = .ok (.iload_n 1, 1) := by decide +kernel
theorem d_I_of_5 : decode b_I_of 5 = .ok (.invokevirtual 100, 3) := by decide +kernel
theorem d_I_of_8 : decode b_I_of 8 = .ok (.istore 4, 2) := by decide +kernel
theorem d_I_of_10 : decode b_I_of 10 = .ok (.iload 4, 2) := by decide +kernel
theorem d_I_of_12 : decode b_I_of 12 = .ok (.iconst 1, 1) := by decide +kernel
theorem d_I_of_13 : decode b_I_of 13 = .ok (.if_icmp .lt 11, 3) := by decide +kernel
theorem d_I_of_16 : decode b_I_of 16 = .ok (.aload_n 0, 1) := by decide +kernel
theorem d_I_of_17 : decode b_I_of 17 = .ok (.iload_n 2, 1) := by decide +kernel
theorem d_I_of_18 : decode b_I_of 18 = .ok (.invokevirtual 103, 3) := by decide +kernel
theorem d_I_of_21 : decode b_I_of 21 = .ok (.ifCond .ne 6, 3) := by decide +kernel
theorem d_I_of_24 : decode b_I_of 24 = .ok (.bipush (-2), 2) := by decide +kernel
theorem d_I_of_26 : decode b_I_of 26 = .ok (.ireturn, 1) := by decide +kernel
theorem d_I_of_27 : decode b_I_of 27 = .ok (.iload 4, 2) := by decide +kernel
theorem d_I_of_29 : decode b_I_of 29 = .ok (.iconst 1, 1) := by decide +kernel
theorem d_I_of_30 : decode b_I_of 30 = .ok (.if_icmp .ne 15, 3) := by decide +kernel
theorem d_I_of_33 : decode b_I_of 33 = .ok (.aload_n 0, 1) := by decide +kernel
theorem d_I_of_34 : decode b_I_of 34 = .ok (.getfield 19, 3) := by decide +kernel
theorem d_I_of_37 : decode b_I_of 37 = .ok (.iconst 1, 1) := by decide +kernel
theorem d_I_of_38 : decode b_I_of 38 = .ok (.iload_n 1, 1) := by decide +kernel
theorem d_I_of_39 : decode b_I_of 39 = .ok (.iload_n 2, 1) := by decide +kernel
theorem d_I_of_40 : decode b_I_of 40 = .ok (.iconst (-1), 1) := by decide +kernel
theorem d_I_of_41 : decode b_I_of 41 = .ok (.invokevirtual 96, 3) := by decide +kernel
theorem d_I_of_44 : decode b_I_of 44 = .ok (.ireturn, 1) := by decide +kernel
theorem d_I_of_45 : decode b_I_of 45 = .ok (.aload_n 0, 1) := by decide +kernel
theorem d_I_of_46 : decode b_I_of 46 = .ok (.iload_n 3, 1) := by decide +kernel
theorem d_I_of_47 : decode b_I_of 47 = .ok (.invokevirtual 103, 3) := by decide +kernel
theorem d_I_of_50 : decode b_I_of 50 = .ok (.ifCond .ne 6, 3) := by decide +kernel
theorem d_I_of_53 : decode b_I_of 53 = .ok (.bipush (-2), 2) := by decide +kernel
theorem d_I_of_55 : decode b_I_of 55 = .ok (.ireturn, 1) := by decide +kernel
theorem d_I_of_56 : decode b_I_of 56 = .ok (.aload_n 0, 1) := by decide +kernel
theorem d_I_of_57 : decode b_I_of 57 = .ok (.getfield 19, 3) := by decide +kernel
theorem d_I_of_60 : decode b_I_of 60 = .ok (.iconst 1, 1) := by decide +kernel
theorem d_I_of_61 : decode b_I_of 61 = .ok (.iload_n 1, 1) := by decide +kernel
theorem d_I_of_62 : decode b_I_of 62 = .ok (.iload_n 2, 1) := by decide +kernel
theorem d_I_of_63 : decode b_I_of 63 = .ok (.iload_n 3, 1) := by decide +kernel
theorem d_I_of_64 : decode b_I_of 64 = .ok (.invokevirtual 96, 3) := by decide +kernel
theorem d_I_of_67 : decode b_I_of 67 = .ok (.ireturn, 1) := by decide +kernel
theorem d_I_wild_0 : decode b_I_wild 0 = .ok (.iload_n 1, 1) := by decide +kernel
theorem d_I_wild_1 : decode b_I_wild 1 = .ok (.ifCond .lt 8, 3) := by decide +kernel
theorem d_I_wild_4 : decode b_I_wild 4 = .ok (.iload_n 1, 1) := by decide +kernel
theorem d_I_wild_5 : decode b_I_wild 5 = .ok (.iconst 2, 1) := by decide +kernel
theorem d_I_wild_6 : decode b_I_wild 6 = .ok (.if_icmp .le 6, 3) := by decide +kernel
theorem d_I_wild_9 : decode b_I_wild 9 = .ok (.bipush (-2), 2) := by decide +kernel
theorem d_I_wild_11 : decode b_I_wild 11 = .ok (.ireturn, 1) := by decide +kernel
theorem d_I_wild_12 : decode b_I_wild 12 = .ok (.iload_n 1, 1) := by decide +kernel
theorem d_I_wild_13 : decode b_I_wild 13 = .ok (.ifCond .ne 15, 3) := by decide +kernel
theorem d_I_wild_16 : decode b_I_wild 16 = .ok (.aload_n 0, 1) := by decide +kernel
theorem d_I_wild_17 : decode b_I_wild 17 = .ok (.getfield 19, 3) := by decide +kernel
theorem d_I_wild_20 : decode b_I_wild 20 = .ok (.iconst 2, 1) := by decide +kernel
theorem d_I_wild_21 : decode b_I_wild 21 = .ok (.iconst 0, 1) := by decide +kernel
theorem d_I_wild_22 : decode b_I_wild 22 = .ok (.iconst (-1), 1) := by decide +kernel
theorem d_I_wild_23 : decode b_I_wild 23 = .ok (.iconst (-1), 1) := by decide +kernel
theorem d_I_wild_24 : decode b_I_wild 24 = .ok (.invokevirtual 96, 3) := by decide +kernel
theorem d_I_wild_27 : decode b_I_wild 27 = .ok (.ireturn, 1) := by decide +kernel
theorem d_I_wild_28 : decode b_I_wild 28 = .ok (.aload_n 0, 1) := by decide +kernel
theorem d_I_wild_29 : decode b_I_wild 29 = .ok (.iload_n 2, 1) := by decide +kernel
theorem d_I_wild_30 : decode b_I_wild 30 = .ok (.invokevirtual 103, 3) := by decide +kernel
theorem d_I_wild_33 : decode b_I_wild 33 = .ok (.ifCond .eq 15, 3) := by decide +kernel
theorem d_I_wild_36 : decode b_I_wild 36 = .ok (.aload_n 0, 1) := by decide +kernel
theorem d_I_wild_37 : decode b_I_wild 37 = .ok (.getfield 19, 3) := by decide +kernel
theorem d_I_wild_40 : decode b_I_wild 40 = .ok (.iload_n 2, 1) := by decide +kernel
theorem d_I_wild_41 : decode b_I_wild 41 = .ok (.invokevirtual 106, 3) := by decide +kernel
theorem d_I_wild_44 : decode b_I_wild 44 = .ok (.iconst 2, 1) := by decide +kernel
theorem d_I_wild_45 : decode b_I_wild 45 = .ok (.if_icmp .ne 6, 3) := by decide +kernel
theorem d_I_wild_48 : decode b_I_wild 48 = .ok (.bipush (-2), 2) := by decide +kernel
theorem d_I_wild_50 : decode b_I_wild 50 = .ok (.ireturn, 1) := by decide +kernel
theorem d_I_wild_51 : decode b_I_wild 51 = .ok (.aload_n 0, 1) := by decide +kernel
theorem d_I_wild_52 : decode b_I_wild 52 = .ok (.getfield 19, 3) := by decide +kernel
theorem d_I_wild_55 : decode b_I_wild 55 = .ok (.iconst 2, 1) := by decide +kernel
theorem d_I_wild_56 : decode b_I_wild 56 = .ok (.iload_n 1, 1) := by decide +kernel
theorem d_I_wild_57 : decode b_I_wild 57 = .ok (.iload_n 2, 1) := by decide +kernel
theorem d_I_wild_58 : decode b_I_wild 58 = .ok (.iconst (-1), 1) := by decide +kernel
theorem d_I_wild_59 : decode b_I_wild 59 = .ok (.invokevirtual 96, 3) := by decide +kernel
theorem d_I_wild_62 : decode b_I_wild 62 = .ok (.ireturn, 1) := by decide +kernel
theorem d_I_parameter_0 : decode b_I_parameter 0 = .ok (.iload_n 2, 1) := by decide +kernel
theorem d_I_parameter_1 : decode b_I_parameter 1 = .ok (.ifCond .lt 15, 3) := by decide +kernel
theorem d_I_parameter_4 : decode b_I_parameter 4 = .ok (.iload_n 2, 1) := by decide +kernel
theorem d_I_parameter_5 : decode b_I_parameter 5 = .ok (.aload_n 0, 1) := by decide +kernel
theorem d_I_parameter_6 : decode b_I_parameter 6 = .ok (.getfield 10, 3) := by decide +kernel
theorem d_I_parameter_9 : decode b_I_parameter 9 = .ok (.iload_n 1, 1) := by decide +kernel
theorem d_I_parameter_10 : decode b_I_parameter 10 = .ok (.invokevirtual 100, 3) := by decide +kernel
theorem d_I_parameter_13 : decode b_I_parameter 13 = .ok (.if_icmp .lt 6, 3) := by decide +kernel
theorem d_I_parameter_16 : decode b_I_parameter 16 = .ok (.bipush (-2), 2) := by decide +kernel
theorem d_I_parameter_18 : decode b_I_parameter 18 = .ok (.ireturn, 1) := by decide +kernel
theorem d_I_parameter_19 : decode b_I_parameter 19 = .ok (.aload_n 0, 1) := by decide +kernel
theorem d_I_parameter_20 : decode b_I_parameter 20 = .ok (.getfield 19, 3) := by decide +kernel
theorem d_I_parameter_23 : decode b_I_parameter 23 = .ok (.iconst 3, 1) := by decide +kernel
theorem d_I_parameter_24 : decode b_I_parameter 24 = .ok (.iload_n 1, 1) := by decide +kernel
theorem d_I_parameter_25 : decode b_I_parameter 25 = .ok (.iload_n 2, 1) := by decide +kernel
theorem d_I_parameter_26 : decode b_I_parameter 26 = .ok (.iconst (-1), 1) := by decide +kernel
theorem d_I_parameter_27 : decode b_I_parameter 27 = .ok (.invokevirtual 96, 3) := by decide +kernel
theorem d_I_parameter_30 : decode b_I_parameter 30 = .ok (.ireturn, 1) := by decide +kernel
theorem d_I_array_0 : decode b_I_array 0 = .ok (.aload_n 0, 1) := by decide +kernel
theorem d_I_array_1 : decode b_I_array 1 = .ok (.getfield 19, 3) := by decide +kernel
theorem d_I_array_4 : decode b_I_array 4 = .ok (.iload_n 1, 1) := by decide +kernel
theorem d_I_array_5 : decode b_I_array 5 = .ok (.invokevirtual 109, 3) := by decide +kernel
theorem d_I_array_8 : decode b_I_array 8 = .ok (.ifCond .ne 6, 3) := by decide +kernel
theorem d_I_array_11 : decode b_I_array 11 = .ok (.bipush (-2), 2) := by decide +kernel
theorem d_I_array_13 : decode b_I_array 13 = .ok (.ireturn, 1) := by decide +kernel
theorem d_I_array_14 : decode b_I_array 14 = .ok (.aload_n 0, 1) := by decide +kernel
theorem d_I_array_15 : decode b_I_array 15 = .ok (.getfield 19, 3) := by decide +kernel
theorem d_I_array_18 : decode b_I_array 18 = .ok (.iload_n 1, 1) := by decide +kernel
theorem d_I_array_19 : decode b_I_array 19 = .ok (.invokevirtual 106, 3) := by decide +kernel
theorem d_I_array_22 : decode b_I_array 22 = .ok (.istore_n 2, 1) := by decide +kernel
theorem d_I_array_23 : decode b_I_array 23 = .ok (.iload_n 2, 1) := by decide +kernel
theorem d_I_array_24 : decode b_I_array 24 = .ok (.iconst 2, 1) := by decide +kernel
theorem d_I_array_25 : decode b_I_array 25 = .ok (.if_icmp .eq 9, 3) := by decide +kernel
theorem d_I_array_28 : decode b_I_array 28 = .ok (.iload_n 2, 1) := by decide +kernel
theorem d_I_array_29 : decode b_I_array 29 = .ok (.bipush 6, 2) := by decide +kernel
theorem d_I_array_31 : decode b_I_array 31 = .ok (.if_icmp .ne 6, 3) := by decide +kernel
theorem d_I_array_34 : decode b_I_array 34 = .ok (.bipush (-2), 2) := by decide +kernel
theorem d_I_array_36 : decode b_I_array 36 = .ok (.ireturn, 1) := by decide +kernel
theorem d_I_array_37 : decode b_I_array 37 = .ok (.aload_n 0, 1) := by decide +kernel
theorem d_I_array_38 : decode b_I_array 38 = .ok (.getfield 19, 3) := by decide +kernel
theorem d_I_array_41 : decode b_I_array 41 = .ok (.iconst 4, 1) := by decide +kernel
theorem d_I_array_42 : decode b_I_array 42 = .ok (.iload_n 1, 1) := by decide +kernel
theorem d_I_array_43 : decode b_I_array 43 = .ok (.iconst (-1), 1) := by decide +kernel
theorem d_I_array_44 : decode b_I_array 44 = .ok (.iconst (-1), 1) := by decide +kernel
theorem d_I_array_45 : decode b_I_array 45 = .ok (.invokevirtual 96, 3) := by decide +kernel
theorem d_I_array_48 : decode b_I_array 48 = .ok (.ireturn, 1) := by decide +kernel
theorem d_I_primitive_0 : decode b_I_primitive 0 = .ok (.iload_n 1, 1) := by decide +kernel
theorem d_I_primitive_1 : decode b_I_primitive 1 = .ok (.ifCond .lt 9, 3) := by decide +kernel
theorem d_I_primitive_4 : decode b_I_primitive 4 = .ok (.iload_n 1, 1) := by decide +kernel
theorem d_I_primitive_5 : decode b_I_primitive 5 = .ok (.bipush 8, 2) := by decide +kernel
theorem d_I_primitive_7 : decode b_I_primitive 7 = .ok (.if_icmp .lt 6, 3) := by decide +kernel
theorem d_I_primitive_10 : decode b_I_primitive 10 = .ok (.bipush (-2), 2) := by decide +kernel
theorem d_I_primitive_12 : decode b_I_primitive 12 = .ok (.ireturn, 1) := by decide +kernel
theorem d_I_primitive_13 : decode b_I_primitive 13 = .ok (.aload_n 0, 1) := by decide +kernel
theorem d_I_primitive_14 : decode b_I_primitive 14 = .ok (.getfield 19, 3) := by decide +kernel
theorem d_I_primitive_17 : decode b_I_primitive 17 = .ok (.iconst 5, 1) := by decide +kernel
theorem d_I_primitive_18 : decode b_I_primitive 18 = .ok (.iload_n 1, 1) := by decide +kernel
theorem d_I_primitive_19 : decode b_I_primitive 19 = .ok (.iconst (-1), 1) := by decide +kernel
theorem d_I_primitive_20 : decode b_I_primitive 20 = .ok (.iconst (-1), 1) := by decide +kernel
theorem d_I_primitive_21 : decode b_I_primitive 21 = .ok (.invokevirtual 96, 3) := by decide +kernel
theorem d_I_primitive_24 : decode b_I_primitive 24 = .ok (.ireturn, 1) := by decide +kernel
theorem d_I_nothing_0 : decode b_I_nothing 0 = .ok (.aload_n 0, 1) := by decide +kernel
theorem d_I_nothing_1 : decode b_I_nothing 1 = .ok (.getfield 19, 3) := by decide +kernel
theorem d_I_nothing_4 : decode b_I_nothing 4 = .ok (.bipush 6, 2) := by decide +kernel
theorem d_I_nothing_6 : decode b_I_nothing 6 = .ok (.iconst 0, 1) := by decide +kernel
theorem d_I_nothing_7 : decode b_I_nothing 7 = .ok (.iconst (-1), 1) := by decide +kernel
theorem d_I_nothing_8 : decode b_I_nothing 8 = .ok (.iconst (-1), 1) := by decide +kernel
theorem d_I_nothing_9 : decode b_I_nothing 9 = .ok (.invokevirtual 96, 3) := by decide +kernel
theorem d_I_nothing_12 : decode b_I_nothing 12 = .ok (.ireturn, 1) := by decide +kernel
theorem d_I_variable_0 : decode b_I_variable 0 = .ok (.aload_n 0, 1) := by decide +kernel
theorem d_I_variable_1 : decode b_I_variable 1 = .ok (.getfield 110, 3) := by decide +kernel
theorem d_I_variable_4 : decode b_I_variable 4 = .ok (.ifCond .lt 12, 3) := by decide +kernel
theorem d_I_variable_7 : decode b_I_variable 7 = .ok (.aload_n 0, 1) := by decide +kernel
theorem d_I_variable_8 : decode b_I_variable 8 = .ok (.getfield 110, 3) := by decide +kernel
theorem d_I_variable_11 : decode b_I_variable 11 = .ok (.bipush 12, 2) := by decide +kernel
theorem d_I_variable_13 : decode b_I_variable 13 = .ok (.if_icmp .lt 6, 3) := by decide +kernel
theorem d_I_variable_16 : decode b_I_variable 16 = .ok (.bipush (-3), 2) := by decide +kernel
theorem d_I_variable_18 : decode b_I_variable 18 = .ok (.ireturn, 1) := by decide +kernel
theorem d_I_variable_19 : decode b_I_variable 19 = .ok (.aload_n 0, 1) := by decide +kernel
theorem d_I_variable_20 : decode b_I_variable 20 = .ok (.getfield 19, 3) := by decide +kernel
theorem d_I_variable_23 : decode b_I_variable 23 = .ok (.bipush 7, 2) := by decide +kernel
theorem d_I_variable_25 : decode b_I_variable 25 = .ok (.aload_n 0, 1) := by decide +kernel
theorem d_I_variable_26 : decode b_I_variable 26 = .ok (.getfield 110, 3) := by decide +kernel
theorem d_I_variable_29 : decode b_I_variable 29 = .ok (.iconst (-1), 1) := by decide +kernel
theorem d_I_variable_30 : decode b_I_variable 30 = .ok (.iconst (-1), 1) := by decide +kernel
theorem d_I_variable_31 : decode b_I_variable 31 = .ok (.invokevirtual 96, 3) := by decide +kernel
theorem d_I_variable_34 : decode b_I_variable 34 = .ok (.istore_n 1, 1) := by decide +kernel
theorem d_I_variable_35 : decode b_I_variable 35 = .ok (.iload_n 1, 1) := by decide +kernel
theorem d_I_variable_36 : decode b_I_variable 36 = .ok (.ifCond .ge 6, 3) := by decide +kernel
theorem d_I_variable_39 : decode b_I_variable 39 = .ok (.bipush (-3), 2) := by decide +kernel
theorem d_I_variable_41 : decode b_I_variable 41 = .ok (.ireturn, 1) := by decide +kernel
theorem d_I_variable_42 : decode b_I_variable 42 = .ok (.aload_n 0, 1) := by decide +kernel
theorem d_I_variable_43 : decode b_I_variable 43 = .ok (.getfield 30, 3) := by decide +kernel
theorem d_I_variable_46 : decode b_I_variable 46 = .ok (.aload_n 0, 1) := by decide +kernel
theorem d_I_variable_47 : decode b_I_variable 47 = .ok (.getfield 110, 3) := by decide +kernel
theorem d_I_variable_50 : decode b_I_variable 50 = .ok (.iload_n 1, 1) := by decide +kernel
theorem d_I_variable_51 : decode b_I_variable 51 = .ok (.iastore, 1) := by decide +kernel
theorem d_I_variable_52 : decode b_I_variable 52 = .ok (.aload_n 0, 1) := by decide +kernel
theorem d_I_variable_53 : decode b_I_variable 53 = .ok (.dup, 1) := by decide +kernel
theorem d_I_variable_54 : decode b_I_variable 54 = .ok (.getfield 110, 3) := by decide +kernel
theorem d_I_variable_57 : decode b_I_variable 57 = .ok (.iconst 1, 1) := by decide +kernel
theorem d_I_variable_58 : decode b_I_variable 58 = .ok (.iadd, 1) := by decide +kernel
theorem d_I_variable_59 : decode b_I_variable 59 = .ok (.putfield 110, 3) := by decide +kernel
theorem d_I_variable_62 : decode b_I_variable 62 = .ok (.iload_n 1, 1) := by decide +kernel
theorem d_I_variable_63 : decode b_I_variable 63 = .ok (.ireturn, 1) := by decide +kernel
end
section
theorem d_I_formula_0 : decode b_I_formula 0 = .ok (.iload_n 1, 1) := by decide +kernel
theorem d_I_formula_1 : decode b_I_formula 1 = .ok (.ifCond .lt 8, 3) := by decide +kernel
theorem d_I_formula_4 : decode b_I_formula 4 = .ok (.iload_n 1, 1) := by decide +kernel
theorem d_I_formula_5 : decode b_I_formula 5 = .ok (.iconst 3, 1) := by decide +kernel
theorem d_I_formula_6 : decode b_I_formula 6 = .ok (.if_icmp .le 6, 3) := by decide +kernel
theorem d_I_formula_9 : decode b_I_formula 9 = .ok (.bipush (-2), 2) := by decide +kernel
theorem d_I_formula_11 : decode b_I_formula 11 = .ok (.ireturn, 1) := by decide +kernel
theorem d_I_formula_12 : decode b_I_formula 12 = .ok (.aload_n 0, 1) := by decide +kernel
theorem d_I_formula_13 : decode b_I_formula 13 = .ok (.iload_n 1, 1) := by decide +kernel
theorem d_I_formula_14 : decode b_I_formula 14 = .ok (.iload_n 2, 1) := by decide +kernel
theorem d_I_formula_15 : decode b_I_formula 15 = .ok (.invokevirtual 113, 3) := by decide +kernel
theorem d_I_formula_18 : decode b_I_formula 18 = .ok (.ifCond .eq 12, 3) := by decide +kernel
theorem d_I_formula_21 : decode b_I_formula 21 = .ok (.aload_n 0, 1) := by decide +kernel
theorem d_I_formula_22 : decode b_I_formula 22 = .ok (.iload_n 1, 1) := by decide +kernel
theorem d_I_formula_23 : decode b_I_formula 23 = .ok (.iload_n 3, 1) := by decide +kernel
theorem d_I_formula_24 : decode b_I_formula 24 = .ok (.invokevirtual 113, 3) := by decide +kernel
theorem d_I_formula_27 : decode b_I_formula 27 = .ok (.ifCond .ne 6, 3) := by decide +kernel
theorem d_I_formula_30 : decode b_I_formula 30 = .ok (.bipush (-2), 2) := by decide +kernel
theorem d_I_formula_32 : decode b_I_formula 32 = .ok (.ireturn, 1) := by decide +kernel
theorem d_I_formula_33 : decode b_I_formula 33 = .ok (.aload_n 0, 1) := by decide +kernel
theorem d_I_formula_34 : decode b_I_formula 34 = .ok (.getfield 116, 3) := by decide +kernel
theorem d_I_formula_37 : decode b_I_formula 37 = .ok (.ifCond .ne 13, 3) := by decide +kernel
theorem d_I_formula_40 : decode b_I_formula 40 = .ok (.aload_n 0, 1) := by decide +kernel
theorem d_I_formula_41 : decode b_I_formula 41 = .ok (.getfield 69, 3) := by decide +kernel
theorem d_I_formula_44 : decode b_I_formula 44 = .ok (.invokevirtual 119, 3) := by decide +kernel
theorem d_I_formula_47 : decode b_I_formula 47 = .ok (.ifCond .ne 5, 3) := by decide +kernel
theorem d_I_formula_50 : decode b_I_formula 50 = .ok (.iconst (-1), 1) := by decide +kernel
theorem d_I_formula_51 : decode b_I_formula 51 = .ok (.ireturn, 1) := by decide +kernel
theorem d_I_formula_52 : decode b_I_formula 52 = .ok (.aload_n 0, 1) := by decide +kernel
theorem d_I_formula_53 : decode b_I_formula 53 = .ok (.getfield 69, 3) := by decide +kernel
theorem d_I_formula_56 : decode b_I_formula 56 = .ok (.iload_n 1, 1) := by decide +kernel
theorem d_I_formula_57 : decode b_I_formula 57 = .ok (.iload_n 2, 1) := by decide +kernel
theorem d_I_formula_58 : decode b_I_formula 58 = .ok (.iload_n 3, 1) := by decide +kernel
theorem d_I_formula_59 : decode b_I_formula 59 = .ok (.invokevirtual 123, 3) := by decide +kernel
theorem d_I_formula_62 : decode b_I_formula 62 = .ok (.istore 4, 2) := by decide +kernel
theorem d_I_formula_64 : decode b_I_formula 64 = .ok (.aload_n 0, 1) := by decide +kernel
theorem d_I_formula_65 : decode b_I_formula 65 = .ok (.getfield 44, 3) := by decide +kernel
theorem d_I_formula_68 : decode b_I_formula 68 = .ok (.iload 4, 2) := by decide +kernel
theorem d_I_formula_70 : decode b_I_formula 70 = .ok (.invokevirtual 125, 3) := by decide +kernel
theorem d_I_formula_73 : decode b_I_formula 73 = .ok (.aload_n 0, 1) := by decide +kernel
theorem d_I_formula_74 : decode b_I_formula 74 = .ok (.getfield 44, 3) := by decide +kernel
theorem d_I_formula_77 : decode b_I_formula 77 = .ok (.iload_n 1, 1) := by decide +kernel
theorem d_I_formula_78 : decode b_I_formula 78 = .ok (.iload_n 2, 1) := by decide +kernel
theorem d_I_formula_79 : decode b_I_formula 79 = .ok (.iload_n 3, 1) := by decide +kernel
theorem d_I_formula_80 : decode b_I_formula 80 = .ok (.invokevirtual 129, 3) := by decide +kernel
theorem d_I_formula_83 : decode b_I_formula 83 = .ok (.istore 5, 2) := by decide +kernel
theorem d_I_formula_85 : decode b_I_formula 85 = .ok (.iload 5, 2) := by decide +kernel
theorem d_I_formula_87 : decode b_I_formula 87 = .ok (.iconst 1, 1) := by decide +kernel
theorem d_I_formula_88 : decode b_I_formula 88 = .ok (.if_icmp .ne 12, 3) := by decide +kernel
theorem d_I_formula_91 : decode b_I_formula 91 = .ok (.aload_n 0, 1) := by decide +kernel
theorem d_I_formula_92 : decode b_I_formula 92 = .ok (.getfield 53, 3) := by decide +kernel
theorem d_I_formula_95 : decode b_I_formula 95 = .ok (.invokevirtual 132, 3) := by decide +kernel
theorem d_I_formula_98 : decode b_I_formula 98 = .ok (.istore 5, 2) := by decide +kernel
theorem d_I_formula_100 : decode b_I_formula 100 = .ok (.aload_n 0, 1) := by decide +kernel
theorem d_I_formula_101 : decode b_I_formula 101 = .ok (.getfield 44, 3) := by decide +kernel
theorem d_I_formula_104 : decode b_I_formula 104 = .ok (.getfield 136, 3) := by decide +kernel
theorem d_I_formula_107 : decode b_I_formula 107 = .ok (.ifCond .eq 12, 3) := by decide +kernel
theorem d_I_formula_110 : decode b_I_formula 110 = .ok (.aload_n 0, 1) := by decide +kernel
theorem d_I_formula_111 : decode b_I_formula 111 = .ok (.getfield 69, 3) := by decide +kernel
theorem d_I_formula_114 : decode b_I_formula 114 = .ok (.iload 4, 2) := by decide +kernel
theorem d_I_formula_116 : decode b_I_formula 116 = .ok (.invokevirtual 140, 3) := by decide +kernel
theorem d_I_formula_119 : decode b_I_formula 119 = .ok (.aload_n 0, 1) := by decide +kernel
theorem d_I_formula_120 : decode b_I_formula 120 = .ok (.iload 5, 2) := by decide +kernel
theorem d_I_formula_122 : decode b_I_formula 122 = .ok (.iload 4, 2) := by decide +kernel
theorem d_I_formula_124 : decode b_I_formula 124 = .ok (.invokevirtual 143, 3) := by decide +kernel
theorem d_I_formula_127 : decode b_I_formula 127 = .ok (.iload 4, 2) := by decide +kernel
theorem d_I_formula_129 : decode b_I_formula 129 = .ok (.ireturn, 1) := by decide +kernel
theorem d_I_resolve_0 : decode b_I_resolve 0 = .ok (.aload_n 0, 1) := by decide +kernel
theorem d_I_resolve_1 : decode b_I_resolve 1 = .ok (.getfield 116, 3) := by decide +kernel
theorem d_I_resolve_4 : decode b_I_resolve 4 = .ok (.ifCond .eq 5, 3) := by decide +kernel
theorem d_I_resolve_7 : decode b_I_resolve 7 = .ok (.iconst (-1), 1) := by decide +kernel
theorem d_I_resolve_8 : decode b_I_resolve 8 = .ok (.ireturn, 1) := by decide +kernel
theorem d_I_resolve_9 : decode b_I_resolve 9 = .ok (.aload_n 0, 1) := by decide +kernel
theorem d_I_resolve_10 : decode b_I_resolve 10 = .ok (.getfield 44, 3) := by decide +kernel
theorem d_I_resolve_13 : decode b_I_resolve 13 = .ok (.iconst (-1), 1) := by decide +kernel
theorem d_I_resolve_14 : decode b_I_resolve 14 = .ok (.invokevirtual 125, 3) := by decide +kernel
theorem d_I_resolve_17 : decode b_I_resolve 17 = .ok (.iconst 0, 1) := by decide +kernel
theorem d_I_resolve_18 : decode b_I_resolve 18 = .ok (.istore_n 1, 1) := by decide +kernel
theorem d_I_resolve_19 : decode b_I_resolve 19 = .ok (.iload_n 1, 1) := by decide +kernel
theorem d_I_resolve_20 : decode b_I_resolve 20 = .ok (.bipush 12, 2) := by decide +kernel
theorem d_I_resolve_22 : decode b_I_resolve 22 = .ok (.if_icmp .gt 167, 3) := by decide +kernel
theorem d_I_resolve_25 : decode b_I_resolve 25 = .ok (.aload_n 0, 1) := by decide +kernel
theorem d_I_resolve_26 : decode b_I_resolve 26 = .ok (.getfield 116, 3) := by decide +kernel
theorem d_I_resolve_29 : decode b_I_resolve 29 = .ok (.ifCond .ne 160, 3) := by decide +kernel
theorem d_I_resolve_32 : decode b_I_resolve 32 = .ok (.aload_n 0, 1) := by decide +kernel
theorem d_I_resolve_33 : decode b_I_resolve 33 = .ok (.getfield 62, 3) := by decide +kernel
theorem d_I_resolve_36 : decode b_I_resolve 36 = .ok (.aload_n 0, 1) := by decide +kernel
theorem d_I_resolve_37 : decode b_I_resolve 37 = .ok (.getfield 110, 3) := by decide +kernel
theorem d_I_resolve_40 : decode b_I_resolve 40 = .ok (.invokevirtual 147, 3) := by decide +kernel
theorem d_I_resolve_43 : decode b_I_resolve 43 = .ok (.istore_n 2, 1) := by decide +kernel
theorem d_I_resolve_44 : decode b_I_resolve 44 = .ok (.iload_n 2, 1) := by decide +kernel
theorem d_I_resolve_45 : decode b_I_resolve 45 = .ok (.ifCond .ne 8, 3) := by decide +kernel
theorem d_I_resolve_48 : decode b_I_resolve 48 = .ok (.aload_n 0, 1) := by decide +kernel
theorem d_I_resolve_49 : decode b_I_resolve 49 = .ok (.getfield 110, 3) := by decide +kernel
theorem d_I_resolve_52 : decode b_I_resolve 52 = .ok (.ireturn, 1) := by decide +kernel
theorem d_I_resolve_53 : decode b_I_resolve 53 = .ok (.iconst 1, 1) := by decide +kernel
theorem d_I_resolve_54 : decode b_I_resolve 54 = .ok (.istore_n 3, 1) := by decide +kernel
theorem d_I_resolve_55 : decode b_I_resolve 55 = .ok (.iconst 0, 1) := by decide +kernel
theorem d_I_resolve_56 : decode b_I_resolve 56 = .ok (.istore 4, 2) := by decide +kernel
theorem d_I_resolve_58 : decode b_I_resolve 58 = .ok (.iload 4, 2) := by decide +kernel
theorem d_I_resolve_60 : decode b_I_resolve 60 = .ok (.aload_n 0, 1) := by decide +kernel
theorem d_I_resolve_61 : decode b_I_resolve 61 = .ok (.getfield 110, 3) := by decide +kernel
theorem d_I_resolve_64 : decode b_I_resolve 64 = .ok (.if_icmp .ge 33, 3) := by decide +kernel
theorem d_I_resolve_67 : decode b_I_resolve 67 = .ok (.iload_n 3, 1) := by decide +kernel
theorem d_I_resolve_68 : decode b_I_resolve 68 = .ok (.iconst 1, 1) := by decide +kernel
theorem d_I_resolve_69 : decode b_I_resolve 69 = .ok (.if_icmp .ne 28, 3) := by decide +kernel
theorem d_I_resolve_72 : decode b_I_resolve 72 = .ok (.iload_n 2, 1) := by decide +kernel
theorem d_I_resolve_73 : decode b_I_resolve 73 = .ok (.iload 4, 2) := by decide +kernel
theorem d_I_resolve_75 : decode b_I_resolve 75 = .ok (.ishr, 1) := by decide +kernel
theorem d_I_resolve_76 : decode b_I_resolve 76 = .ok (.iconst 1, 1) := by decide +kernel
theorem d_I_resolve_77 : decode b_I_resolve 77 = .ok (.iand, 1) := by decide +kernel
theorem d_I_resolve_78 : decode b_I_resolve 78 = .ok (.ifCond .eq 13, 3) := by decide +kernel
theorem d_I_resolve_81 : decode b_I_resolve 81 = .ok (.aload_n 0, 1) := by decide +kernel
theorem d_I_resolve_82 : decode b_I_resolve 82 = .ok (.getfield 62, 3) := by decide +kernel
theorem d_I_resolve_85 : decode b_I_resolve 85 = .ok (.iload 4, 2) := by decide +kernel
theorem d_I_resolve_87 : decode b_I_resolve 87 = .ok (.invokevirtual 150, 3) := by decide +kernel
theorem d_I_resolve_90 : decode b_I_resolve 90 = .ok (.istore_n 3, 1) := by decide +kernel
theorem d_I_resolve_91 : decode b_I_resolve 91 = .ok (.iinc 4 1, 3) := by decide +kernel
theorem d_I_resolve_94 : decode b_I_resolve 94 = .ok (.goto (-36), 3) := by decide +kernel
theorem d_I_resolve_97 : decode b_I_resolve 97 = .ok (.iconst 0, 1) := by decide +kernel
theorem d_I_resolve_98 : decode b_I_resolve 98 = .ok (.istore 4, 2) := by decide +kernel
theorem d_I_resolve_100 : decode b_I_resolve 100 = .ok (.iload 4, 2) := by decide +kernel
theorem d_I_resolve_102 : decode b_I_resolve 102 = .ok (.aload_n 0, 1) := by decide +kernel
theorem d_I_resolve_103 : decode b_I_resolve 103 = .ok (.getfield 110, 3) := by decide +kernel
theorem d_I_resolve_106 : decode b_I_resolve 106 = .ok (.if_icmp .ge 71, 3) := by decide +kernel
theorem d_I_resolve_109 : decode b_I_resolve 109 = .ok (.iload 4, 2) := by decide +kernel
theorem d_I_resolve_111 : decode b_I_resolve 111 = .ok (.bipush 12, 2) := by decide +kernel
theorem d_I_resolve_113 : decode b_I_resolve 113 = .ok (.if_icmp .ge 64, 3) := by decide +kernel
theorem d_I_resolve_116 : decode b_I_resolve 116 = .ok (.iload_n 3, 1) := by decide +kernel
theorem d_I_resolve_117 : decode b_I_resolve 117 = .ok (.iconst 1, 1) := by decide +kernel
theorem d_I_resolve_118 : decode b_I_resolve 118 = .ok (.if_icmp .ne 59, 3) := by decide +kernel
theorem d_I_resolve_121 : decode b_I_resolve 121 = .ok (.iload_n 2, 1) := by decide +kernel
theorem d_I_resolve_122 : decode b_I_resolve 122 = .ok (.iload 4, 2) := by decide +kernel
theorem d_I_resolve_124 : decode b_I_resolve 124 = .ok (.ishr, 1) := by decide +kernel
theorem d_I_resolve_125 : decode b_I_resolve 125 = .ok (.iconst 1, 1) := by decide +kernel
theorem d_I_resolve_126 : decode b_I_resolve 126 = .ok (.iand, 1) := by decide +kernel
theorem d_I_resolve_127 : decode b_I_resolve 127 = .ok (.ifCond .ne 6, 3) := by decide +kernel
theorem d_I_resolve_130 : decode b_I_resolve 130 = .ok (.goto 41, 3) := by decide +kernel
theorem d_I_resolve_133 : decode b_I_resolve 133 = .ok (.aload_n 0, 1) := by decide +kernel
theorem d_I_resolve_134 : decode b_I_resolve 134 = .ok (.getfield 44, 3) := by decide +kernel
theorem d_I_resolve_137 : decode b_I_resolve 137 = .ok (.iconst 3, 1) := by decide +kernel
theorem d_I_resolve_138 : decode b_I_resolve 138 = .ok (.aload_n 0, 1) := by decide +kernel
theorem d_I_resolve_139 : decode b_I_resolve 139 = .ok (.getfield 30, 3) := by decide +kernel
theorem d_I_resolve_142 : decode b_I_resolve 142 = .ok (.iload 4, 2) := by decide +kernel
theorem d_I_resolve_144 : decode b_I_resolve 144 = .ok (.iaload, 1) := by decide +kernel
theorem d_I_resolve_145 : decode b_I_resolve 145 = .ok (.aload_n 0, 1) := by decide +kernel
theorem d_I_resolve_146 : decode b_I_resolve 146 = .ok (.getfield 62, 3) := by decide +kernel
theorem d_I_resolve_149 : decode b_I_resolve 149 = .ok (.iload 4, 2) := by decide +kernel
theorem d_I_resolve_151 : decode b_I_resolve 151 = .ok (.invokevirtual 153, 3) := by decide +kernel
theorem d_I_resolve_154 : decode b_I_resolve 154 = .ok (.invokevirtual 129, 3) := by decide +kernel
theorem d_I_resolve_157 : decode b_I_resolve 157 = .ok (.istore_n 3, 1) := by decide +kernel
theorem d_I_resolve_158 : decode b_I_resolve 158 = .ok (.iload_n 3, 1) := by decide +kernel
theorem d_I_resolve_159 : decode b_I_resolve 159 = .ok (.iconst 1, 1) := by decide +kernel
theorem d_I_resolve_160 : decode b_I_resolve 160 = .ok (.if_icmp .ne 11, 3) := by decide +kernel
theorem d_I_resolve_163 : decode b_I_resolve 163 = .ok (.aload_n 0, 1) := by decide +kernel
theorem d_I_resolve_164 : decode b_I_resolve 164 = .ok (.getfield 53, 3) := by decide +kernel
theorem d_I_resolve_167 : decode b_I_resolve 167 = .ok (.invokevirtual 132, 3) := by decide +kernel
theorem d_I_resolve_170 : decode b_I_resolve 170 = .ok (.istore_n 3, 1) := by decide +kernel
theorem d_I_resolve_171 : decode b_I_resolve 171 = .ok (.iinc 4 1, 3) := by decide +kernel
theorem d_I_resolve_174 : decode b_I_resolve 174 = .ok (.goto (-74), 3) := by decide +kernel
theorem d_I_resolve_177 : decode b_I_resolve 177 = .ok (.aload_n 0, 1) := by decide +kernel
theorem d_I_resolve_178 : decode b_I_resolve 178 = .ok (.iload_n 3, 1) := by decide +kernel
theorem d_I_resolve_179 : decode b_I_resolve 179 = .ok (.iconst (-1), 1) := by decide +kernel
theorem d_I_resolve_180 : decode b_I_resolve 180 = .ok (.invokevirtual 143, 3) := by decide +kernel
theorem d_I_resolve_183 : decode b_I_resolve 183 = .ok (.iinc 1 1, 3) := by decide +kernel
theorem d_I_resolve_186 : decode b_I_resolve 186 = .ok (.goto (-167), 3) := by decide +kernel
theorem d_I_resolve_189 : decode b_I_resolve 189 = .ok (.iconst (-1), 1) := by decide +kernel
theorem d_I_resolve_190 : decode b_I_resolve 190 = .ok (.ireturn, 1) := by decide +kernel
theorem d_I_clear_0 : decode b_I_clear 0 = .ok (.aload_n 0, 1) := by decide +kernel
theorem d_I_clear_1 : decode b_I_clear 1 = .ok (.getfield 69, 3) := by decide +kernel
theorem d_I_clear_4 : decode b_I_clear 4 = .ok (.getfield 156, 3) := by decide +kernel
theorem d_I_clear_7 : decode b_I_clear 7 = .ok (.istore_n 1, 1) := by decide +kernel
theorem d_I_clear_8 : decode b_I_clear 8 = .ok (.aload_n 0, 1) := by decide +kernel
theorem d_I_clear_9 : decode b_I_clear 9 = .ok (.iconst 0, 1) := by decide +kernel
theorem d_I_clear_10 : decode b_I_clear 10 = .ok (.putfield 110, 3) := by decide +kernel
theorem d_I_clear_13 : decode b_I_clear 13 = .ok (.aload_n 0, 1) := by decide +kernel
theorem d_I_clear_14 : decode b_I_clear 14 = .ok (.getfield 69, 3) := by decide +kernel
theorem d_I_clear_17 : decode b_I_clear 17 = .ok (.iconst 0, 1) := by decide +kernel
theorem d_I_clear_18 : decode b_I_clear 18 = .ok (.putfield 156, 3) := by decide +kernel
theorem d_I_clear_21 : decode b_I_clear 21 = .ok (.aload_n 0, 1) := by decide +kernel
theorem d_I_clear_22 : decode b_I_clear 22 = .ok (.getfield 26, 3) := by decide +kernel
theorem d_I_clear_25 : decode b_I_clear 25 = .ok (.iconst 0, 1) := by decide +kernel
theorem d_I_clear_26 : decode b_I_clear 26 = .ok (.putfield 159, 3) := by decide +kernel
theorem d_I_clear_29 : decode b_I_clear 29 = .ok (.aload_n 0, 1) := by decide +kernel
theorem d_I_clear_30 : decode b_I_clear 30 = .ok (.getfield 53, 3) := by decide +kernel
theorem d_I_clear_33 : decode b_I_clear 33 = .ok (.iconst 0, 1) := by decide +kernel
theorem d_I_clear_34 : decode b_I_clear 34 = .ok (.putfield 160, 3) := by decide +kernel
theorem d_I_clear_37 : decode b_I_clear 37 = .ok (.aload_n 0, 1) := by decide +kernel
theorem d_I_clear_38 : decode b_I_clear 38 = .ok (.getfield 44, 3) := by decide +kernel
theorem d_I_clear_41 : decode b_I_clear 41 = .ok (.iconst 0, 1) := by decide +kernel
theorem d_I_clear_42 : decode b_I_clear 42 = .ok (.putfield 163, 3) := by decide +kernel
theorem d_I_clear_45 : decode b_I_clear 45 = .ok (.aload_n 0, 1) := by decide +kernel
theorem d_I_clear_46 : decode b_I_clear 46 = .ok (.iconst 0, 1) := by decide +kernel
theorem d_I_clear_47 : decode b_I_clear 47 = .ok (.putfield 116, 3) := by decide +kernel
theorem d_I_clear_50 : decode b_I_clear 50 = .ok (.aload_n 0, 1) := by decide +kernel
theorem d_I_clear_51 : decode b_I_clear 51 = .ok (.iconst (-1), 1) := by decide +kernel
theorem d_I_clear_52 : decode b_I_clear 52 = .ok (.putfield 73, 3) := by decide +kernel
theorem d_I_clear_55 : decode b_I_clear 55 = .ok (.iload_n 1, 1) := by decide +kernel
theorem d_I_clear_56 : decode b_I_clear 56 = .ok (.ireturn, 1) := by decide +kernel
theorem d_I_count_0 : decode b_I_count 0 = .ok (.iload_n 1, 1) := by decide +kernel
theorem d_I_count_1 : decode b_I_count 1 = .ok (.tableswitch 102 0 7 #[47, 55, 63, 68, 76, 84, 89, 97], 47) := by decide +kernel
theorem d_I_count_48 : decode b_I_count 48 = .ok (.aload_n 0, 1) := by decide +kernel
theorem d_I_count_49 : decode b_I_count 49 = .ok (.getfield 10, 3) := by decide +kernel
theorem d_I_count_52 : decode b_I_count 52 = .ok (.getfield 166, 3) := by decide +kernel
theorem d_I_count_55 : decode b_I_count 55 = .ok (.ireturn, 1) := by decide +kernel
theorem d_I_count_56 : decode b_I_count 56 = .ok (.aload_n 0, 1) := by decide +kernel
theorem d_I_count_57 : decode b_I_count 57 = .ok (.getfield 19, 3) := by decide +kernel
theorem d_I_count_60 : decode b_I_count 60 = .ok (.getfield 167, 3) := by decide +kernel
theorem d_I_count_63 : decode b_I_count 63 = .ok (.ireturn, 1) := by decide +kernel
theorem d_I_count_64 : decode b_I_count 64 = .ok (.aload_n 0, 1) := by decide +kernel
theorem d_I_count_65 : decode b_I_count 65 = .ok (.getfield 110, 3) := by decide +kernel
theorem d_I_count_68 : decode b_I_count 68 = .ok (.ireturn, 1) := by decide +kernel
theorem d_I_count_69 : decode b_I_count 69 = .ok (.aload_n 0, 1) := by decide +kernel
theorem d_I_count_70 : decode b_I_count 70 = .ok (.getfield 69, 3) := by decide +kernel
theorem d_I_count_73 : decode b_I_count 73 = .ok (.getfield 156, 3) := by decide +kernel
theorem d_I_count_76 : decode b_I_count 76 = .ok (.ireturn, 1) := by decide +kernel
theorem d_I_count_77 : decode b_I_count 77 = .ok (.aload_n 0, 1) := by decide +kernel
theorem d_I_count_78 : decode b_I_count 78 = .ok (.getfield 26, 3) := by decide +kernel
theorem d_I_count_81 : decode b_I_count 81 = .ok (.getfield 159, 3) := by decide +kernel
theorem d_I_count_84 : decode b_I_count 84 = .ok (.ireturn, 1) := by decide +kernel
theorem d_I_count_85 : decode b_I_count 85 = .ok (.aload_n 0, 1) := by decide +kernel
theorem d_I_count_86 : decode b_I_count 86 = .ok (.getfield 116, 3) := by decide +kernel
theorem d_I_count_89 : decode b_I_count 89 = .ok (.ireturn, 1) := by decide +kernel
theorem d_I_count_90 : decode b_I_count 90 = .ok (.aload_n 0, 1) := by decide +kernel
theorem d_I_count_91 : decode b_I_count 91 = .ok (.getfield 44, 3) := by decide +kernel
theorem d_I_count_94 : decode b_I_count 94 = .ok (.getfield 163, 3) := by decide +kernel
theorem d_I_count_97 : decode b_I_count 97 = .ok (.ireturn, 1) := by decide +kernel
theorem d_I_count_98 : decode b_I_count 98 = .ok (.aload_n 0, 1) := by decide +kernel
theorem d_I_count_99 : decode b_I_count 99 = .ok (.getfield 73, 3) := by decide +kernel
theorem d_I_count_102 : decode b_I_count 102 = .ok (.ireturn, 1) := by decide +kernel
theorem d_I_count_103 : decode b_I_count 103 = .ok (.bipush (-2), 2) := by decide +kernel
theorem d_I_count_105 : decode b_I_count 105 = .ok (.ireturn, 1) := by decide +kernel
theorem d_I_type_0 : decode b_I_type 0 = .ok (.aload_n 0, 1) := by decide +kernel
theorem d_I_type_1 : decode b_I_type 1 = .ok (.getfield 19, 3) := by decide +kernel
theorem d_I_type_4 : decode b_I_type 4 = .ok (.iload_n 1, 1) := by decide +kernel
theorem d_I_type_5 : decode b_I_type 5 = .ok (.invokevirtual 109, 3) := by decide +kernel
theorem d_I_type_8 : decode b_I_type 8 = .ok (.ifCond .ne 6, 3) := by decide +kernel
theorem d_I_type_11 : decode b_I_type 11 = .ok (.bipush (-2), 2) := by decide +kernel
theorem d_I_type_13 : decode b_I_type 13 = .ok (.ireturn, 1) := by decide +kernel
theorem d_I_type_14 : decode b_I_type 14 = .ok (.iload_n 2, 1) := by decide +kernel
theorem d_I_type_15 : decode b_I_type 15 = .ok (.tableswitch 99 0 5 #[37, 46, 55, 64, 73, 82], 37) := by decide +kernel
theorem d_I_type_52 : decode b_I_type 52 = .ok (.aload_n 0, 1) := by decide +kernel
theorem d_I_type_53 : decode b_I_type 53 = .ok (.getfield 19, 3) := by decide +kernel
theorem d_I_type_56 : decode b_I_type 56 = .ok (.iload_n 1, 1) := by decide +kernel
theorem d_I_type_57 : decode b_I_type 57 = .ok (.invokevirtual 106, 3) := by decide +kernel
theorem d_I_type_60 : decode b_I_type 60 = .ok (.ireturn, 1) := by decide +kernel
theorem d_I_type_61 : decode b_I_type 61 = .ok (.aload_n 0, 1) := by decide +kernel
theorem d_I_type_62 : decode b_I_type 62 = .ok (.getfield 19, 3) := by decide +kernel
theorem d_I_type_65 : decode b_I_type 65 = .ok (.iload_n 1, 1) := by decide +kernel
theorem d_I_type_66 : decode b_I_type 66 = .ok (.invokevirtual 89, 3) := by decide +kernel
theorem d_I_type_69 : decode b_I_type 69 = .ok (.ireturn, 1) := by decide +kernel
theorem d_I_type_70 : decode b_I_type 70 = .ok (.aload_n 0, 1) := by decide +kernel
theorem d_I_type_71 : decode b_I_type 71 = .ok (.getfield 19, 3) := by decide +kernel
theorem d_I_type_74 : decode b_I_type 74 = .ok (.iload_n 1, 1) := by decide +kernel
theorem d_I_type_75 : decode b_I_type 75 = .ok (.invokevirtual 168, 3) := by decide +kernel
theorem d_I_type_78 : decode b_I_type 78 = .ok (.ireturn, 1) := by decide +kernel
theorem d_I_type_79 : decode b_I_type 79 = .ok (.aload_n 0, 1) := by decide +kernel
theorem d_I_type_80 : decode b_I_type 80 = .ok (.getfield 19, 3) := by decide +kernel
theorem d_I_type_83 : decode b_I_type 83 = .ok (.iload_n 1, 1) := by decide +kernel
theorem d_I_type_84 : decode b_I_type 84 = .ok (.invokevirtual 171, 3) := by decide +kernel
theorem d_I_type_87 : decode b_I_type 87 = .ok (.ireturn, 1) := by decide +kernel
theorem d_I_type_88 : decode b_I_type 88 = .ok (.aload_n 0, 1) := by decide +kernel
theorem d_I_type_89 : decode b_I_type 89 = .ok (.getfield 19, 3) := by decide +kernel
theorem d_I_type_92 : decode b_I_type 92 = .ok (.iload_n 1, 1) := by decide +kernel
theorem d_I_type_93 : decode b_I_type 93 = .ok (.invokevirtual 174, 3) := by decide +kernel
theorem d_I_type_96 : decode b_I_type 96 = .ok (.ireturn, 1) := by decide +kernel
theorem d_I_type_97 : decode b_I_type 97 = .ok (.aload_n 0, 1) := by decide +kernel
theorem d_I_type_98 : decode b_I_type 98 = .ok (.getfield 19, 3) := by decide +kernel
theorem d_I_type_101 : decode b_I_type 101 = .ok (.iload_n 1, 1) := by decide +kernel
theorem d_I_type_102 : decode b_I_type 102 = .ok (.invokevirtual 177, 3) := by decide +kernel
theorem d_I_type_105 : decode b_I_type 105 = .ok (.ifCond .eq 7, 3) := by decide +kernel
theorem d_I_type_108 : decode b_I_type 108 = .ok (.iconst 1, 1) := by decide +kernel
theorem d_I_type_109 : decode b_I_type 109 = .ok (.goto 4, 3) := by decide +kernel
theorem d_I_type_112 : decode b_I_type 112 = .ok (.iconst 0, 1) := by decide +kernel
theorem d_I_type_113 : decode b_I_type 113 = .ok (.ireturn, 1) := by decide +kernel
theorem d_I_type_114 : decode b_I_type 114 = .ok (.bipush (-2), 2) := by decide +kernel
theorem d_I_type_116 : decode b_I_type 116 = .ok (.ireturn, 1) := by decide +kernel
theorem d_I_bound_0 : decode b_I_bound 0 = .ok (.aload_n 0, 1) := by decide +kernel
theorem d_I_bound_1 : decode b_I_bound 1 = .ok (.getfield 26, 3) := by decide +kernel
theorem d_I_bound_4 : decode b_I_bound 4 = .ok (.iload_n 1, 1) := by decide +kernel
theorem d_I_bound_5 : decode b_I_bound 5 = .ok (.invokevirtual 180, 3) := by decide +kernel
theorem d_I_bound_8 : decode b_I_bound 8 = .ok (.ifCond .ne 6, 3) := by decide +kernel
theorem d_I_bound_11 : decode b_I_bound 11 = .ok (.bipush (-2), 2) := by decide +kernel
theorem d_I_bound_13 : decode b_I_bound 13 = .ok (.ireturn, 1) := by decide +kernel
theorem d_I_bound_14 : decode b_I_bound 14 = .ok (.iload_n 2, 1) := by decide +kernel
theorem d_I_bound_15 : decode b_I_bound 15 = .ok (.tableswitch 65 0 3 #[29, 38, 47, 56], 29) := by decide +kernel
theorem d_I_bound_44 : decode b_I_bound 44 = .ok (.aload_n 0, 1) := by decide +kernel
theorem d_I_bound_45 : decode b_I_bound 45 = .ok (.getfield 26, 3) := by decide +kernel
theorem d_I_bound_48 : decode b_I_bound 48 = .ok (.iload_n 1, 1) := by decide +kernel
theorem d_I_bound_49 : decode b_I_bound 49 = .ok (.invokevirtual 181, 3) := by decide +kernel
theorem d_I_bound_52 : decode b_I_bound 52 = .ok (.ireturn, 1) := by decide +kernel
theorem d_I_bound_53 : decode b_I_bound 53 = .ok (.aload_n 0, 1) := by decide +kernel
theorem d_I_bound_54 : decode b_I_bound 54 = .ok (.getfield 26, 3) := by decide +kernel
theorem d_I_bound_57 : decode b_I_bound 57 = .ok (.iload_n 1, 1) := by decide +kernel
theorem d_I_bound_58 : decode b_I_bound 58 = .ok (.invokevirtual 184, 3) := by decide +kernel
theorem d_I_bound_61 : decode b_I_bound 61 = .ok (.ireturn, 1) := by decide +kernel
theorem d_I_bound_62 : decode b_I_bound 62 = .ok (.aload_n 0, 1) := by decide +kernel
theorem d_I_bound_63 : decode b_I_bound 63 = .ok (.getfield 26, 3) := by decide +kernel
theorem d_I_bound_66 : decode b_I_bound 66 = .ok (.iload_n 1, 1) := by decide +kernel
theorem d_I_bound_67 : decode b_I_bound 67 = .ok (.invokevirtual 187, 3) := by decide +kernel
theorem d_I_bound_70 : decode b_I_bound 70 = .ok (.ireturn, 1) := by decide +kernel
theorem d_I_bound_71 : decode b_I_bound 71 = .ok (.aload_n 0, 1) := by decide +kernel
theorem d_I_bound_72 : decode b_I_bound 72 = .ok (.getfield 26, 3) := by decide +kernel
theorem d_I_bound_75 : decode b_I_bound 75 = .ok (.iload_n 1, 1) := by decide +kernel
theorem d_I_bound_76 : decode b_I_bound 76 = .ok (.invokevirtual 190, 3) := by decide +kernel
theorem d_I_bound_79 : decode b_I_bound 79 = .ok (.ireturn, 1) := by decide +kernel
theorem d_I_bound_80 : decode b_I_bound 80 = .ok (.bipush (-2), 2) := by decide +kernel
theorem d_I_bound_82 : decode b_I_bound 82 = .ok (.ireturn, 1) := by decide +kernel
theorem d_I_instance_0 : decode b_I_instance 0 = .ok (.iload_n 1, 1) := by decide +kernel
theorem d_I_instance_1 : decode b_I_instance 1 = .ok (.ifCond .lt 11, 3) := by decide +kernel
theorem d_I_instance_4 : decode b_I_instance 4 = .ok (.iload_n 1, 1) := by decide +kernel
theorem d_I_instance_5 : decode b_I_instance 5 = .ok (.aload_n 0, 1) := by decide +kernel
theorem d_I_instance_6 : decode b_I_instance 6 = .ok (.getfield 110, 3) := by decide +kernel
theorem d_I_instance_9 : decode b_I_instance 9 = .ok (.if_icmp .lt 6, 3) := by decide +kernel
theorem d_I_instance_12 : decode b_I_instance 12 = .ok (.bipush (-2), 2) := by decide +kernel
theorem d_I_instance_14 : decode b_I_instance 14 = .ok (.ireturn, 1) := by decide +kernel
theorem d_I_instance_15 : decode b_I_instance 15 = .ok (.aload_n 0, 1) := by decide +kernel
theorem d_I_instance_16 : decode b_I_instance 16 = .ok (.getfield 26, 3) := by decide +kernel
theorem d_I_instance_19 : decode b_I_instance 19 = .ok (.iload_n 1, 1) := by decide +kernel
theorem d_I_instance_20 : decode b_I_instance 20 = .ok (.aload_n 0, 1) := by decide +kernel
theorem d_I_instance_21 : decode b_I_instance 21 = .ok (.getfield 19, 3) := by decide +kernel
theorem d_I_instance_24 : decode b_I_instance 24 = .ok (.invokevirtual 193, 3) := by decide +kernel
theorem d_I_instance_27 : decode b_I_instance 27 = .ok (.ireturn, 1) := by decide +kernel
theorem d_I_above_0 : decode b_I_above 0 = .ok (.aload_n 0, 1) := by decide +kernel
theorem d_I_above_1 : decode b_I_above 1 = .ok (.getfield 19, 3) := by decide +kernel
theorem d_I_above_4 : decode b_I_above 4 = .ok (.iload_n 1, 1) := by decide +kernel
theorem d_I_above_5 : decode b_I_above 5 = .ok (.invokevirtual 109, 3) := by decide +kernel
theorem d_I_above_8 : decode b_I_above 8 = .ok (.ifCond .eq 26, 3) := by decide +kernel
theorem d_I_above_11 : decode b_I_above 11 = .ok (.aload_n 0, 1) := by decide +kernel
theorem d_I_above_12 : decode b_I_above 12 = .ok (.getfield 19, 3) := by decide +kernel
theorem d_I_above_15 : decode b_I_above 15 = .ok (.iload_n 1, 1) := by decide +kernel
theorem d_I_above_16 : decode b_I_above 16 = .ok (.invokevirtual 106, 3) := by decide +kernel
theorem d_I_above_19 : decode b_I_above 19 = .ok (.iconst 2, 1) := by decide +kernel
theorem d_I_above_20 : decode b_I_above 20 = .ok (.if_icmp .eq 14, 3) := by decide +kernel
theorem d_I_above_23 : decode b_I_above 23 = .ok (.aload_n 0, 1) := by decide +kernel
theorem d_I_above_24 : decode b_I_above 24 = .ok (.getfield 10, 3) := by decide +kernel
theorem d_I_above_27 : decode b_I_above 27 = .ok (.iload_n 2, 1) := by decide +kernel
theorem d_I_above_28 : decode b_I_above 28 = .ok (.invokevirtual 81, 3) := by decide +kernel
theorem d_I_above_31 : decode b_I_above 31 = .ok (.ifCond .ne 6, 3) := by decide +kernel
theorem d_I_above_34 : decode b_I_above 34 = .ok (.bipush (-2), 2) := by decide +kernel
theorem d_I_above_36 : decode b_I_above 36 = .ok (.ireturn, 1) := by decide +kernel
theorem d_I_above_37 : decode b_I_above 37 = .ok (.aload_n 0, 1) := by decide +kernel
theorem d_I_above_38 : decode b_I_above 38 = .ok (.getfield 44, 3) := by decide +kernel
theorem d_I_above_41 : decode b_I_above 41 = .ok (.iload_n 1, 1) := by decide +kernel
theorem d_I_above_42 : decode b_I_above 42 = .ok (.iload_n 2, 1) := by decide +kernel
theorem d_I_above_43 : decode b_I_above 43 = .ok (.invokevirtual 197, 3) := by decide +kernel
theorem d_I_above_46 : decode b_I_above 46 = .ok (.ireturn, 1) := by decide +kernel
theorem d_I_unchecked_0 : decode b_I_unchecked 0 = .ok (.aload_n 0, 1) := by decide +kernel
theorem d_I_unchecked_1 : decode b_I_unchecked 1 = .ok (.getfield 69, 3) := by decide +kernel
theorem d_I_unchecked_4 : decode b_I_unchecked 4 = .ok (.iload_n 1, 1) := by decide +kernel
theorem d_I_unchecked_5 : decode b_I_unchecked 5 = .ok (.invokevirtual 201, 3) := by decide +kernel
theorem d_I_unchecked_8 : decode b_I_unchecked 8 = .ok (.ifCond .ne 6, 3) := by decide +kernel
theorem d_I_unchecked_11 : decode b_I_unchecked 11 = .ok (.bipush (-2), 2) := by decide +kernel
theorem d_I_unchecked_13 : decode b_I_unchecked 13 = .ok (.ireturn, 1) := by decide +kernel
theorem d_I_unchecked_14 : decode b_I_unchecked 14 = .ok (.aload_n 0, 1) := by decide +kernel
theorem d_I_unchecked_15 : decode b_I_unchecked 15 = .ok (.getfield 69, 3) := by decide +kernel
theorem d_I_unchecked_18 : decode b_I_unchecked 18 = .ok (.iload_n 1, 1) := by decide +kernel
theorem d_I_unchecked_19 : decode b_I_unchecked 19 = .ok (.invokevirtual 202, 3) := by decide +kernel
theorem d_I_unchecked_22 : decode b_I_unchecked 22 = .ok (.ifCond .eq 7, 3) := by decide +kernel
theorem d_I_unchecked_25 : decode b_I_unchecked 25 = .ok (.iconst 1, 1) := by decide +kernel
theorem d_I_unchecked_26 : decode b_I_unchecked 26 = .ok (.goto 4, 3) := by decide +kernel
theorem d_I_unchecked_29 : decode b_I_unchecked 29 = .ok (.iconst 0, 1) := by decide +kernel
theorem d_I_unchecked_30 : decode b_I_unchecked 30 = .ok (.ireturn, 1) := by decide +kernel
theorem d_I_judge_0 : decode b_I_judge 0 = .ok (.aload_n 0, 1) := by decide +kernel
theorem d_I_judge_1 : decode b_I_judge 1 = .ok (.getfield 69, 3) := by decide +kernel
theorem d_I_judge_4 : decode b_I_judge 4 = .ok (.iload_n 1, 1) := by decide +kernel
theorem d_I_judge_5 : decode b_I_judge 5 = .ok (.invokevirtual 201, 3) := by decide +kernel
theorem d_I_judge_8 : decode b_I_judge 8 = .ok (.ifCond .ne 6, 3) := by decide +kernel
theorem d_I_judge_11 : decode b_I_judge 11 = .ok (.bipush (-2), 2) := by decide +kernel
theorem d_I_judge_13 : decode b_I_judge 13 = .ok (.ireturn, 1) := by decide +kernel
theorem d_I_judge_14 : decode b_I_judge 14 = .ok (.aload_n 0, 1) := by decide +kernel
theorem d_I_judge_15 : decode b_I_judge 15 = .ok (.getfield 44, 3) := by decide +kernel
theorem d_I_judge_18 : decode b_I_judge 18 = .ok (.getfield 205, 3) := by decide +kernel
theorem d_I_judge_21 : decode b_I_judge 21 = .ok (.astore_n 2, 1) := by decide +kernel
theorem d_I_judge_22 : decode b_I_judge 22 = .ok (.aload_n 2, 1) := by decide +kernel
theorem d_I_judge_23 : decode b_I_judge 23 = .ok (.invokevirtual 209, 3) := by decide +kernel
theorem d_I_judge_26 : decode b_I_judge 26 = .ok (.iconst 0, 1) := by decide +kernel
theorem d_I_judge_27 : decode b_I_judge 27 = .ok (.istore_n 3, 1) := by decide +kernel
theorem d_I_judge_28 : decode b_I_judge 28 = .ok (.iload_n 3, 1) := by decide +kernel
theorem d_I_judge_29 : decode b_I_judge 29 = .ok (.aload_n 0, 1) := by decide +kernel
theorem d_I_judge_30 : decode b_I_judge 30 = .ok (.getfield 110, 3) := by decide +kernel
theorem d_I_judge_33 : decode b_I_judge 33 = .ok (.if_icmp .ge 35, 3) := by decide +kernel
theorem d_I_judge_36 : decode b_I_judge 36 = .ok (.aload_n 0, 1) := by decide +kernel
theorem d_I_judge_37 : decode b_I_judge 37 = .ok (.getfield 26, 3) := by decide +kernel
theorem d_I_judge_40 : decode b_I_judge 40 = .ok (.iload_n 3, 1) := by decide +kernel
theorem d_I_judge_41 : decode b_I_judge 41 = .ok (.aload_n 0, 1) := by decide +kernel
theorem d_I_judge_42 : decode b_I_judge 42 = .ok (.getfield 19, 3) := by decide +kernel
theorem d_I_judge_45 : decode b_I_judge 45 = .ok (.invokevirtual 193, 3) := by decide +kernel
theorem d_I_judge_48 : decode b_I_judge 48 = .ok (.istore 4, 2) := by decide +kernel
theorem d_I_judge_50 : decode b_I_judge 50 = .ok (.iload 4, 2) := by decide +kernel
theorem d_I_judge_52 : decode b_I_judge 52 = .ok (.ifCond .lt 10, 3) := by decide +kernel
theorem d_I_judge_55 : decode b_I_judge 55 = .ok (.aload_n 2, 1) := by decide +kernel
theorem d_I_judge_56 : decode b_I_judge 56 = .ok (.iload_n 3, 1) := by decide +kernel
theorem d_I_judge_57 : decode b_I_judge 57 = .ok (.iload 4, 2) := by decide +kernel
theorem d_I_judge_59 : decode b_I_judge 59 = .ok (.invokevirtual 212, 3) := by decide +kernel
theorem d_I_judge_62 : decode b_I_judge 62 = .ok (.iinc 3 1, 3) := by decide +kernel
theorem d_I_judge_65 : decode b_I_judge 65 = .ok (.goto (-37), 3) := by decide +kernel
theorem d_I_judge_68 : decode b_I_judge 68 = .ok (.aload_n 2, 1) := by decide +kernel
theorem d_I_judge_69 : decode b_I_judge 69 = .ok (.aload_n 0, 1) := by decide +kernel
theorem d_I_judge_70 : decode b_I_judge 70 = .ok (.getfield 69, 3) := by decide +kernel
theorem d_I_judge_73 : decode b_I_judge 73 = .ok (.iload_n 1, 1) := by decide +kernel
theorem d_I_judge_74 : decode b_I_judge 74 = .ok (.invokevirtual 215, 3) := by decide +kernel
theorem d_I_judge_77 : decode b_I_judge 77 = .ok (.invokevirtual 218, 3) := by decide +kernel
theorem d_I_judge_80 : decode b_I_judge 80 = .ok (.istore_n 3, 1) := by decide +kernel
theorem d_I_judge_81 : decode b_I_judge 81 = .ok (.iload_n 3, 1) := by decide +kernel
theorem d_I_judge_82 : decode b_I_judge 82 = .ok (.ifCond .ge 8, 3) := by decide +kernel
theorem d_I_judge_85 : decode b_I_judge 85 = .ok (.bipush (-3), 2) := by decide +kernel
theorem d_I_judge_87 : decode b_I_judge 87 = .ok (.goto 15, 3) := by decide +kernel
theorem d_I_judge_90 : decode b_I_judge 90 = .ok (.aload_n 2, 1) := by decide +kernel
theorem d_I_judge_91 : decode b_I_judge 91 = .ok (.aload_n 0, 1) := by decide +kernel
theorem d_I_judge_92 : decode b_I_judge 92 = .ok (.getfield 69, 3) := by decide +kernel
theorem d_I_judge_95 : decode b_I_judge 95 = .ok (.iload_n 1, 1) := by decide +kernel
theorem d_I_judge_96 : decode b_I_judge 96 = .ok (.invokevirtual 221, 3) := by decide +kernel
theorem d_I_judge_99 : decode b_I_judge 99 = .ok (.invokevirtual 218, 3) := by decide +kernel
theorem d_I_judge_102 : decode b_I_judge 102 = .ok (.istore 4, 2) := by decide +kernel
theorem d_I_judge_104 : decode b_I_judge 104 = .ok (.iload_n 3, 1) := by decide +kernel
theorem d_I_judge_105 : decode b_I_judge 105 = .ok (.ifCond .lt 8, 3) := by decide +kernel
theorem d_I_judge_108 : decode b_I_judge 108 = .ok (.iload 4, 2) := by decide +kernel
theorem d_I_judge_110 : decode b_I_judge 110 = .ok (.ifCond .ge 6, 3) := by decide +kernel
theorem d_I_judge_113 : decode b_I_judge 113 = .ok (.bipush (-3), 2) := by decide +kernel
theorem d_I_judge_115 : decode b_I_judge 115 = .ok (.ireturn, 1) := by decide +kernel
theorem d_I_judge_116 : decode b_I_judge 116 = .ok (.aload_n 0, 1) := by decide +kernel
theorem d_I_judge_117 : decode b_I_judge 117 = .ok (.getfield 19, 3) := by decide +kernel
theorem d_I_judge_120 : decode b_I_judge 120 = .ok (.iload_n 3, 1) := by decide +kernel
theorem d_I_judge_121 : decode b_I_judge 121 = .ok (.invokevirtual 177, 3) := by decide +kernel
theorem d_I_judge_124 : decode b_I_judge 124 = .ok (.ifCond .eq 15, 3) := by decide +kernel
theorem d_I_judge_127 : decode b_I_judge 127 = .ok (.aload_n 0, 1) := by decide +kernel
theorem d_I_judge_128 : decode b_I_judge 128 = .ok (.getfield 19, 3) := by decide +kernel
theorem d_I_judge_131 : decode b_I_judge 131 = .ok (.iload 4, 2) := by decide +kernel
theorem d_I_judge_133 : decode b_I_judge 133 = .ok (.invokevirtual 177, 3) := by decide +kernel
theorem d_I_judge_136 : decode b_I_judge 136 = .ok (.ifCond .ne 5, 3) := by decide +kernel
theorem d_I_judge_139 : decode b_I_judge 139 = .ok (.iconst 0, 1) := by decide +kernel
theorem d_I_judge_140 : decode b_I_judge 140 = .ok (.ireturn, 1) := by decide +kernel
theorem d_I_judge_141 : decode b_I_judge 141 = .ok (.aload_n 0, 1) := by decide +kernel
theorem d_I_judge_142 : decode b_I_judge 142 = .ok (.getfield 44, 3) := by decide +kernel
theorem d_I_judge_145 : decode b_I_judge 145 = .ok (.getfield 163, 3) := by decide +kernel
theorem d_I_judge_148 : decode b_I_judge 148 = .ok (.istore 5, 2) := by decide +kernel
theorem d_I_judge_150 : decode b_I_judge 150 = .ok (.aload_n 0, 1) := by decide +kernel
theorem d_I_judge_151 : decode b_I_judge 151 = .ok (.getfield 44, 3) := by decide +kernel
theorem d_I_judge_154 : decode b_I_judge 154 = .ok (.iconst (-1), 1) := by decide +kernel
theorem d_I_judge_155 : decode b_I_judge 155 = .ok (.invokevirtual 125, 3) := by decide +kernel
theorem d_I_judge_158 : decode b_I_judge 158 = .ok (.aload_n 0, 1) := by decide +kernel
theorem d_I_judge_159 : decode b_I_judge 159 = .ok (.getfield 44, 3) := by decide +kernel
theorem d_I_judge_162 : decode b_I_judge 162 = .ok (.aload_n 0, 1) := by decide +kernel
theorem d_I_judge_163 : decode b_I_judge 163 = .ok (.getfield 69, 3) := by decide +kernel
theorem d_I_judge_166 : decode b_I_judge 166 = .ok (.iload_n 1, 1) := by decide +kernel
theorem d_I_judge_167 : decode b_I_judge 167 = .ok (.invokevirtual 224, 3) := by decide +kernel
theorem d_I_judge_170 : decode b_I_judge 170 = .ok (.iload_n 3, 1) := by decide +kernel
theorem d_I_judge_171 : decode b_I_judge 171 = .ok (.iload 4, 2) := by decide +kernel
theorem d_I_judge_173 : decode b_I_judge 173 = .ok (.invokevirtual 129, 3) := by decide +kernel
theorem d_I_judge_176 : decode b_I_judge 176 = .ok (.istore 6, 2) := by decide +kernel
theorem d_I_judge_178 : decode b_I_judge 178 = .ok (.iload 6, 2) := by decide +kernel
theorem d_I_judge_180 : decode b_I_judge 180 = .ok (.iconst 1, 1) := by decide +kernel
theorem d_I_judge_181 : decode b_I_judge 181 = .ok (.if_icmp .ne 12, 3) := by decide +kernel
theorem d_I_judge_184 : decode b_I_judge 184 = .ok (.aload_n 0, 1) := by decide +kernel
theorem d_I_judge_185 : decode b_I_judge 185 = .ok (.getfield 44, 3) := by decide +kernel
theorem d_I_judge_188 : decode b_I_judge 188 = .ok (.invokevirtual 225, 3) := by decide +kernel
theorem d_I_judge_191 : decode b_I_judge 191 = .ok (.istore 6, 2) := by decide +kernel
theorem d_I_judge_193 : decode b_I_judge 193 = .ok (.aload_n 0, 1) := by decide +kernel
theorem d_I_judge_194 : decode b_I_judge 194 = .ok (.getfield 44, 3) := by decide +kernel
theorem d_I_judge_197 : decode b_I_judge 197 = .ok (.iload 5, 2) := by decide +kernel
theorem d_I_judge_199 : decode b_I_judge 199 = .ok (.putfield 163, 3) := by decide +kernel
theorem d_I_judge_202 : decode b_I_judge 202 = .ok (.iload 6, 2) := by decide +kernel
theorem d_I_judge_204 : decode b_I_judge 204 = .ok (.iconst 1, 1) := by decide +kernel
theorem d_I_judge_205 : decode b_I_judge 205 = .ok (.if_icmp .ne 15, 3) := by decide +kernel
theorem d_I_judge_208 : decode b_I_judge 208 = .ok (.aload_n 0, 1) := by decide +kernel
theorem d_I_judge_209 : decode b_I_judge 209 = .ok (.getfield 44, 3) := by decide +kernel
theorem d_I_judge_212 : decode b_I_judge 212 = .ok (.getfield 136, 3) := by decide +kernel
theorem d_I_judge_215 : decode b_I_judge 215 = .ok (.ifCond .eq 5, 3) := by decide +kernel
theorem d_I_judge_218 : decode b_I_judge 218 = .ok (.iconst 2, 1) := by decide +kernel
theorem d_I_judge_219 : decode b_I_judge 219 = .ok (.ireturn, 1) := by decide +kernel
theorem d_I_judge_220 : decode b_I_judge 220 = .ok (.iload 6, 2) := by decide +kernel
theorem d_I_judge_222 : decode b_I_judge 222 = .ok (.ireturn, 1) := by decide +kernel
theorem d_I_canBeArgument_0 : decode b_I_canBeArgument 0 = .ok (.aload_n 0, 1) := by decide +kernel
theorem d_I_canBeArgument_1 : decode b_I_canBeArgument 1 = .ok (.getfield 19, 3) := by decide +kernel
theorem d_I_canBeArgument_4 : decode b_I_canBeArgument 4 = .ok (.iload_n 1, 1) := by decide +kernel
theorem d_I_canBeArgument_5 : decode b_I_canBeArgument 5 = .ok (.invokevirtual 106, 3) := by decide +kernel
theorem d_I_canBeArgument_8 : decode b_I_canBeArgument 8 = .ok (.istore_n 2, 1) := by decide +kernel
theorem d_I_canBeArgument_9 : decode b_I_canBeArgument 9 = .ok (.aload_n 0, 1) := by decide +kernel
theorem d_I_canBeArgument_10 : decode b_I_canBeArgument 10 = .ok (.getfield 19, 3) := by decide +kernel
theorem d_I_canBeArgument_13 : decode b_I_canBeArgument 13 = .ok (.iload_n 1, 1) := by decide +kernel
theorem d_I_canBeArgument_14 : decode b_I_canBeArgument 14 = .ok (.invokevirtual 109, 3) := by decide +kernel
theorem d_I_canBeArgument_17 : decode b_I_canBeArgument 17 = .ok (.ifCond .eq 18, 3) := by decide +kernel
theorem d_I_canBeArgument_20 : decode b_I_canBeArgument 20 = .ok (.iload_n 2, 1) := by decide +kernel
theorem d_I_canBeArgument_21 : decode b_I_canBeArgument 21 = .ok (.iconst 5, 1) := by decide +kernel
theorem d_I_canBeArgument_22 : decode b_I_canBeArgument 22 = .ok (.if_icmp .eq 13, 3) := by decide +kernel
theorem d_I_canBeArgument_25 : decode b_I_canBeArgument 25 = .ok (.iload_n 2, 1) := by decide +kernel
theorem d_I_canBeArgument_26 : decode b_I_canBeArgument 26 = .ok (.bipush 6, 2) := by decide +kernel
theorem d_I_canBeArgument_28 : decode b_I_canBeArgument 28 = .ok (.if_icmp .eq 7, 3) := by decide +kernel
theorem d_I_canBeArgument_31 : decode b_I_canBeArgument 31 = .ok (.iconst 1, 1) := by decide +kernel
theorem d_I_canBeArgument_32 : decode b_I_canBeArgument 32 = .ok (.goto 4, 3) := by decide +kernel
theorem d_I_canBeArgument_35 : decode b_I_canBeArgument 35 = .ok (.iconst 0, 1) := by decide +kernel
theorem d_I_canBeArgument_36 : decode b_I_canBeArgument 36 = .ok (.ireturn, 1) := by decide +kernel
theorem d_I_canBeTold_0 : decode b_I_canBeTold 0 = .ok (.aload_n 0, 1) := by decide +kernel
theorem d_I_canBeTold_1 : decode b_I_canBeTold 1 = .ok (.getfield 19, 3) := by decide +kernel
theorem d_I_canBeTold_4 : decode b_I_canBeTold 4 = .ok (.iload_n 2, 1) := by decide +kernel
theorem d_I_canBeTold_5 : decode b_I_canBeTold 5 = .ok (.invokevirtual 109, 3) := by decide +kernel
theorem d_I_canBeTold_8 : decode b_I_canBeTold 8 = .ok (.ifCond .ne 5, 3) := by decide +kernel
theorem d_I_canBeTold_11 : decode b_I_canBeTold 11 = .ok (.iconst 0, 1) := by decide +kernel
theorem d_I_canBeTold_12 : decode b_I_canBeTold 12 = .ok (.ireturn, 1) := by decide +kernel
theorem d_I_canBeTold_13 : decode b_I_canBeTold 13 = .ok (.aload_n 0, 1) := by decide +kernel
theorem d_I_canBeTold_14 : decode b_I_canBeTold 14 = .ok (.getfield 19, 3) := by decide +kernel
theorem d_I_canBeTold_17 : decode b_I_canBeTold 17 = .ok (.iload_n 2, 1) := by decide +kernel
theorem d_I_canBeTold_18 : decode b_I_canBeTold 18 = .ok (.invokevirtual 106, 3) := by decide +kernel
theorem d_I_canBeTold_21 : decode b_I_canBeTold 21 = .ok (.iconst 2, 1) := by decide +kernel
theorem d_I_canBeTold_22 : decode b_I_canBeTold 22 = .ok (.if_icmp .ne 10, 3) := by decide +kernel
theorem d_I_canBeTold_25 : decode b_I_canBeTold 25 = .ok (.iload_n 1, 1) := by decide +kernel
theorem d_I_canBeTold_26 : decode b_I_canBeTold 26 = .ok (.iconst 2, 1) := by decide +kernel
theorem d_I_canBeTold_27 : decode b_I_canBeTold 27 = .ok (.if_icmp .eq 5, 3) := by decide +kernel
theorem d_I_canBeTold_30 : decode b_I_canBeTold 30 = .ok (.iconst 0, 1) := by decide +kernel
theorem d_I_canBeTold_31 : decode b_I_canBeTold 31 = .ok (.ireturn, 1) := by decide +kernel
theorem d_I_canBeTold_32 : decode b_I_canBeTold 32 = .ok (.aload_n 0, 1) := by decide +kernel
theorem d_I_canBeTold_33 : decode b_I_canBeTold 33 = .ok (.getfield 19, 3) := by decide +kernel
theorem d_I_canBeTold_36 : decode b_I_canBeTold 36 = .ok (.iload_n 2, 1) := by decide +kernel
theorem d_I_canBeTold_37 : decode b_I_canBeTold 37 = .ok (.invokevirtual 228, 3) := by decide +kernel
theorem d_I_canBeTold_40 : decode b_I_canBeTold 40 = .ok (.aload_n 0, 1) := by decide +kernel
theorem d_I_canBeTold_41 : decode b_I_canBeTold 41 = .ok (.getfield 110, 3) := by decide +kernel
theorem d_I_canBeTold_44 : decode b_I_canBeTold 44 = .ok (.ishr, 1) := by decide +kernel
theorem d_I_canBeTold_45 : decode b_I_canBeTold 45 = .ok (.ifCond .ne 7, 3) := by decide +kernel
theorem d_I_canBeTold_48 : decode b_I_canBeTold 48 = .ok (.iconst 1, 1) := by decide +kernel
theorem d_I_canBeTold_49 : decode b_I_canBeTold 49 = .ok (.goto 4, 3) := by decide +kernel
theorem d_I_canBeTold_52 : decode b_I_canBeTold 52 = .ok (.iconst 0, 1) := by decide +kernel
theorem d_I_canBeTold_53 : decode b_I_canBeTold 53 = .ok (.ireturn, 1) := by decide +kernel
theorem d_I_canBeParent_0 : decode b_I_canBeParent 0 = .ok (.aload_n 0, 1) := by decide +kernel
theorem d_I_canBeParent_1 : decode b_I_canBeParent 1 = .ok (.getfield 19, 3) := by decide +kernel
theorem d_I_canBeParent_4 : decode b_I_canBeParent 4 = .ok (.iload_n 2, 1) := by decide +kernel
theorem d_I_canBeParent_5 : decode b_I_canBeParent 5 = .ok (.invokevirtual 106, 3) := by decide +kernel
theorem d_I_canBeParent_8 : decode b_I_canBeParent 8 = .ok (.istore_n 3, 1) := by decide +kernel
theorem d_I_canBeParent_9 : decode b_I_canBeParent 9 = .ok (.iload_n 3, 1) := by decide +kernel
theorem d_I_canBeParent_10 : decode b_I_canBeParent 10 = .ok (.ifCond .eq 10, 3) := by decide +kernel
theorem d_I_canBeParent_13 : decode b_I_canBeParent 13 = .ok (.iload_n 3, 1) := by decide +kernel
theorem d_I_canBeParent_14 : decode b_I_canBeParent 14 = .ok (.iconst 1, 1) := by decide +kernel
theorem d_I_canBeParent_15 : decode b_I_canBeParent 15 = .ok (.if_icmp .eq 5, 3) := by decide +kernel
theorem d_I_canBeParent_18 : decode b_I_canBeParent 18 = .ok (.iconst 0, 1) := by decide +kernel
theorem d_I_canBeParent_19 : decode b_I_canBeParent 19 = .ok (.ireturn, 1) := by decide +kernel
theorem d_I_canBeParent_20 : decode b_I_canBeParent 20 = .ok (.aload_n 0, 1) := by decide +kernel
theorem d_I_canBeParent_21 : decode b_I_canBeParent 21 = .ok (.getfield 19, 3) := by decide +kernel
theorem d_I_canBeParent_24 : decode b_I_canBeParent 24 = .ok (.iload_n 2, 1) := by decide +kernel
theorem d_I_canBeParent_25 : decode b_I_canBeParent 25 = .ok (.invokevirtual 89, 3) := by decide +kernel
theorem d_I_canBeParent_28 : decode b_I_canBeParent 28 = .ok (.istore 4, 2) := by decide +kernel
theorem d_I_canBeParent_30 : decode b_I_canBeParent 30 = .ok (.iload 4, 2) := by decide +kernel
theorem d_I_canBeParent_32 : decode b_I_canBeParent 32 = .ok (.ifCond .eq 15, 3) := by decide +kernel
theorem d_I_canBeParent_35 : decode b_I_canBeParent 35 = .ok (.aload_n 0, 1) := by decide +kernel
theorem d_I_canBeParent_36 : decode b_I_canBeParent 36 = .ok (.getfield 19, 3) := by decide +kernel
theorem d_I_canBeParent_39 : decode b_I_canBeParent 39 = .ok (.iload_n 2, 1) := by decide +kernel
theorem d_I_canBeParent_40 : decode b_I_canBeParent 40 = .ok (.iload_n 1, 1) := by decide +kernel
theorem d_I_canBeParent_41 : decode b_I_canBeParent 41 = .ok (.invokevirtual 231, 3) := by decide +kernel
theorem d_I_canBeParent_44 : decode b_I_canBeParent 44 = .ok (.ifCond .ne 5, 3) := by decide +kernel
theorem d_I_canBeParent_47 : decode b_I_canBeParent 47 = .ok (.iconst 0, 1) := by decide +kernel
theorem d_I_canBeParent_48 : decode b_I_canBeParent 48 = .ok (.ireturn, 1) := by decide +kernel
theorem d_I_canBeParent_49 : decode b_I_canBeParent 49 = .ok (.iload_n 3, 1) := by decide +kernel
theorem d_I_canBeParent_50 : decode b_I_canBeParent 50 = .ok (.ifCond .ne 17, 3) := by decide +kernel
theorem d_I_canBeParent_53 : decode b_I_canBeParent 53 = .ok (.aload_n 0, 1) := by decide +kernel
theorem d_I_canBeParent_54 : decode b_I_canBeParent 54 = .ok (.getfield 10, 3) := by decide +kernel
theorem d_I_canBeParent_57 : decode b_I_canBeParent 57 = .ok (.iload 4, 2) := by decide +kernel
theorem d_I_canBeParent_59 : decode b_I_canBeParent 59 = .ok (.invokevirtual 100, 3) := by decide +kernel
theorem d_I_canBeParent_62 : decode b_I_canBeParent 62 = .ok (.ifCond .le 5, 3) := by decide +kernel
theorem d_I_canBeParent_65 : decode b_I_canBeParent 65 = .ok (.iconst 0, 1) := by decide +kernel
theorem d_I_canBeParent_66 : decode b_I_canBeParent 66 = .ok (.ireturn, 1) := by decide +kernel
theorem d_I_canBeParent_67 : decode b_I_canBeParent 67 = .ok (.aload_n 0, 1) := by decide +kernel
theorem d_I_canBeParent_68 : decode b_I_canBeParent 68 = .ok (.getfield 19, 3) := by decide +kernel
theorem d_I_canBeParent_71 : decode b_I_canBeParent 71 = .ok (.aload_n 0, 1) := by decide +kernel
theorem d_I_canBeParent_72 : decode b_I_canBeParent 72 = .ok (.getfield 19, 3) := by decide +kernel
theorem d_I_canBeParent_75 : decode b_I_canBeParent 75 = .ok (.iload_n 2, 1) := by decide +kernel
theorem d_I_canBeParent_76 : decode b_I_canBeParent 76 = .ok (.invokevirtual 168, 3) := by decide +kernel
theorem d_I_canBeParent_79 : decode b_I_canBeParent 79 = .ok (.invokevirtual 106, 3) := by decide +kernel
theorem d_I_canBeParent_82 : decode b_I_canBeParent 82 = .ok (.iconst 2, 1) := by decide +kernel
theorem d_I_canBeParent_83 : decode b_I_canBeParent 83 = .ok (.if_icmp .ne 5, 3) := by decide +kernel
theorem d_I_canBeParent_86 : decode b_I_canBeParent 86 = .ok (.iconst 0, 1) := by decide +kernel
theorem d_I_canBeParent_87 : decode b_I_canBeParent 87 = .ok (.ireturn, 1) := by decide +kernel
theorem d_I_canBeParent_88 : decode b_I_canBeParent 88 = .ok (.aload_n 0, 1) := by decide +kernel
theorem d_I_canBeParent_89 : decode b_I_canBeParent 89 = .ok (.getfield 19, 3) := by decide +kernel
theorem d_I_canBeParent_92 : decode b_I_canBeParent 92 = .ok (.aload_n 0, 1) := by decide +kernel
theorem d_I_canBeParent_93 : decode b_I_canBeParent 93 = .ok (.getfield 19, 3) := by decide +kernel
theorem d_I_canBeParent_96 : decode b_I_canBeParent 96 = .ok (.iload_n 2, 1) := by decide +kernel
theorem d_I_canBeParent_97 : decode b_I_canBeParent 97 = .ok (.invokevirtual 171, 3) := by decide +kernel
theorem d_I_canBeParent_100 : decode b_I_canBeParent 100 = .ok (.invokevirtual 106, 3) := by decide +kernel
theorem d_I_canBeParent_103 : decode b_I_canBeParent 103 = .ok (.iconst 2, 1) := by decide +kernel
theorem d_I_canBeParent_104 : decode b_I_canBeParent 104 = .ok (.if_icmp .ne 5, 3) := by decide +kernel
theorem d_I_canBeParent_107 : decode b_I_canBeParent 107 = .ok (.iconst 0, 1) := by decide +kernel
theorem d_I_canBeParent_108 : decode b_I_canBeParent 108 = .ok (.ireturn, 1) := by decide +kernel
theorem d_I_canBeParent_109 : decode b_I_canBeParent 109 = .ok (.aload_n 0, 1) := by decide +kernel
theorem d_I_canBeParent_110 : decode b_I_canBeParent 110 = .ok (.getfield 19, 3) := by decide +kernel
theorem d_I_canBeParent_113 : decode b_I_canBeParent 113 = .ok (.iload_n 2, 1) := by decide +kernel
theorem d_I_canBeParent_114 : decode b_I_canBeParent 114 = .ok (.invokevirtual 177, 3) := by decide +kernel
theorem d_I_canBeParent_117 : decode b_I_canBeParent 117 = .ok (.ifCond .eq 21, 3) := by decide +kernel
theorem d_I_canBeParent_120 : decode b_I_canBeParent 120 = .ok (.aload_n 0, 1) := by decide +kernel
theorem d_I_canBeParent_121 : decode b_I_canBeParent 121 = .ok (.getfield 19, 3) := by decide +kernel
theorem d_I_canBeParent_124 : decode b_I_canBeParent 124 = .ok (.iload_n 2, 1) := by decide +kernel
theorem d_I_canBeParent_125 : decode b_I_canBeParent 125 = .ok (.iload_n 1, 1) := by decide +kernel
theorem d_I_canBeParent_126 : decode b_I_canBeParent 126 = .ok (.invokevirtual 234, 3) := by decide +kernel
theorem d_I_canBeParent_129 : decode b_I_canBeParent 129 = .ok (.lconst 0, 1) := by decide +kernel
theorem d_I_canBeParent_130 : decode b_I_canBeParent 130 = .ok (.lcmp, 1) := by decide +kernel
theorem d_I_canBeParent_131 : decode b_I_canBeParent 131 = .ok (.ifCond .ne 7, 3) := by decide +kernel
theorem d_I_canBeParent_134 : decode b_I_canBeParent 134 = .ok (.iconst 1, 1) := by decide +kernel
theorem d_I_canBeParent_135 : decode b_I_canBeParent 135 = .ok (.goto 4, 3) := by decide +kernel
theorem d_I_canBeParent_138 : decode b_I_canBeParent 138 = .ok (.iconst 0, 1) := by decide +kernel
theorem d_I_canBeParent_139 : decode b_I_canBeParent 139 = .ok (.ireturn, 1) := by decide +kernel
theorem d_I_takeState_0 : decode b_I_takeState 0 = .ok (.iload_n 1, 1) := by decide +kernel
theorem d_I_takeState_1 : decode b_I_takeState 1 = .ok (.iconst 1, 1) := by decide +kernel
theorem d_I_takeState_2 : decode b_I_takeState 2 = .ok (.if_icmp .ne 4, 3) := by decide +kernel
theorem d_I_takeState_5 : decode b_I_takeState 5 = .ok (.return_, 1) := by decide +kernel
theorem d_I_takeState_6 : decode b_I_takeState 6 = .ok (.aload_n 0, 1) := by decide +kernel
theorem d_I_takeState_7 : decode b_I_takeState 7 = .ok (.iload_n 1, 1) := by decide +kernel
theorem d_I_takeState_8 : decode b_I_takeState 8 = .ok (.ifCond .ne 7, 3) := by decide +kernel
theorem d_I_takeState_11 : decode b_I_takeState 11 = .ok (.iconst 1, 1) := by decide +kernel
theorem d_I_takeState_12 : decode b_I_takeState 12 = .ok (.goto 4, 3) := by decide +kernel
theorem d_I_takeState_15 : decode b_I_takeState 15 = .ok (.iconst 2, 1) := by decide +kernel
theorem d_I_takeState_16 : decode b_I_takeState 16 = .ok (.putfield 116, 3) := by decide +kernel
theorem d_I_takeState_19 : decode b_I_takeState 19 = .ok (.aload_n 0, 1) := by decide +kernel
theorem d_I_takeState_20 : decode b_I_takeState 20 = .ok (.iload_n 2, 1) := by decide +kernel
theorem d_I_takeState_21 : decode b_I_takeState 21 = .ok (.putfield 73, 3) := by decide +kernel
theorem d_I_takeState_24 : decode b_I_takeState 24 = .ok (.return_, 1) := by decide +kernel
theorem d_Integer_bitCount_0 : decode b_Integer_bitCount 0 = .ok (.iload_n 0, 1) := by decide +kernel
theorem d_Integer_bitCount_1 : decode b_Integer_bitCount 1 = .ok (.iload_n 0, 1) := by decide +kernel
theorem d_Integer_bitCount_2 : decode b_Integer_bitCount 2 = .ok (.iconst 1, 1) := by decide +kernel
theorem d_Integer_bitCount_3 : decode b_Integer_bitCount 3 = .ok (.iushr, 1) := by decide +kernel
theorem d_Integer_bitCount_4 : decode b_Integer_bitCount 4 = .ok (.ldc_w 265, 3) := by decide +kernel
theorem d_Integer_bitCount_7 : decode b_Integer_bitCount 7 = .ok (.iand, 1) := by decide +kernel
theorem d_Integer_bitCount_8 : decode b_Integer_bitCount 8 = .ok (.isub, 1) := by decide +kernel
theorem d_Integer_bitCount_9 : decode b_Integer_bitCount 9 = .ok (.istore_n 0, 1) := by decide +kernel
theorem d_Integer_bitCount_10 : decode b_Integer_bitCount 10 = .ok (.iload_n 0, 1) := by decide +kernel
theorem d_Integer_bitCount_11 : decode b_Integer_bitCount 11 = .ok (.ldc_w 266, 3) := by decide +kernel
theorem d_Integer_bitCount_14 : decode b_Integer_bitCount 14 = .ok (.iand, 1) := by decide +kernel
theorem d_Integer_bitCount_15 : decode b_Integer_bitCount 15 = .ok (.iload_n 0, 1) := by decide +kernel
theorem d_Integer_bitCount_16 : decode b_Integer_bitCount 16 = .ok (.iconst 2, 1) := by decide +kernel
theorem d_Integer_bitCount_17 : decode b_Integer_bitCount 17 = .ok (.iushr, 1) := by decide +kernel
theorem d_Integer_bitCount_18 : decode b_Integer_bitCount 18 = .ok (.ldc_w 266, 3) := by decide +kernel
theorem d_Integer_bitCount_21 : decode b_Integer_bitCount 21 = .ok (.iand, 1) := by decide +kernel
theorem d_Integer_bitCount_22 : decode b_Integer_bitCount 22 = .ok (.iadd, 1) := by decide +kernel
theorem d_Integer_bitCount_23 : decode b_Integer_bitCount 23 = .ok (.istore_n 0, 1) := by decide +kernel
theorem d_Integer_bitCount_24 : decode b_Integer_bitCount 24 = .ok (.iload_n 0, 1) := by decide +kernel
theorem d_Integer_bitCount_25 : decode b_Integer_bitCount 25 = .ok (.iload_n 0, 1) := by decide +kernel
theorem d_Integer_bitCount_26 : decode b_Integer_bitCount 26 = .ok (.iconst 4, 1) := by decide +kernel
theorem d_Integer_bitCount_27 : decode b_Integer_bitCount 27 = .ok (.iushr, 1) := by decide +kernel
theorem d_Integer_bitCount_28 : decode b_Integer_bitCount 28 = .ok (.iadd, 1) := by decide +kernel
theorem d_Integer_bitCount_29 : decode b_Integer_bitCount 29 = .ok (.ldc_w 267, 3) := by decide +kernel
theorem d_Integer_bitCount_32 : decode b_Integer_bitCount 32 = .ok (.iand, 1) := by decide +kernel
theorem d_Integer_bitCount_33 : decode b_Integer_bitCount 33 = .ok (.istore_n 0, 1) := by decide +kernel
theorem d_Integer_bitCount_34 : decode b_Integer_bitCount 34 = .ok (.iload_n 0, 1) := by decide +kernel
theorem d_Integer_bitCount_35 : decode b_Integer_bitCount 35 = .ok (.iload_n 0, 1) := by decide +kernel
theorem d_Integer_bitCount_36 : decode b_Integer_bitCount 36 = .ok (.bipush 8, 2) := by decide +kernel
theorem d_Integer_bitCount_38 : decode b_Integer_bitCount 38 = .ok (.iushr, 1) := by decide +kernel
theorem d_Integer_bitCount_39 : decode b_Integer_bitCount 39 = .ok (.iadd, 1) := by decide +kernel
theorem d_Integer_bitCount_40 : decode b_Integer_bitCount 40 = .ok (.istore_n 0, 1) := by decide +kernel
theorem d_Integer_bitCount_41 : decode b_Integer_bitCount 41 = .ok (.iload_n 0, 1) := by decide +kernel
theorem d_Integer_bitCount_42 : decode b_Integer_bitCount 42 = .ok (.iload_n 0, 1) := by decide +kernel
theorem d_Integer_bitCount_43 : decode b_Integer_bitCount 43 = .ok (.bipush 16, 2) := by decide +kernel
theorem d_Integer_bitCount_45 : decode b_Integer_bitCount 45 = .ok (.iushr, 1) := by decide +kernel
theorem d_Integer_bitCount_46 : decode b_Integer_bitCount 46 = .ok (.iadd, 1) := by decide +kernel
theorem d_Integer_bitCount_47 : decode b_Integer_bitCount 47 = .ok (.istore_n 0, 1) := by decide +kernel
theorem d_Integer_bitCount_48 : decode b_Integer_bitCount 48 = .ok (.iload_n 0, 1) := by decide +kernel
theorem d_Integer_bitCount_49 : decode b_Integer_bitCount 49 = .ok (.bipush 63, 2) := by decide +kernel
theorem d_Integer_bitCount_51 : decode b_Integer_bitCount 51 = .ok (.iand, 1) := by decide +kernel
theorem d_Integer_bitCount_52 : decode b_Integer_bitCount 52 = .ok (.ireturn, 1) := by decide +kernel
theorem d_Arrays_fill_0 : decode b_Arrays_fill 0 = .ok (.iconst 0, 1) := by decide +kernel
theorem d_Arrays_fill_1 : decode b_Arrays_fill 1 = .ok (.istore_n 2, 1) := by decide +kernel
theorem d_Arrays_fill_2 : decode b_Arrays_fill 2 = .ok (.aload_n 0, 1) := by decide +kernel
theorem d_Arrays_fill_3 : decode b_Arrays_fill 3 = .ok (.arraylength, 1) := by decide +kernel
theorem d_Arrays_fill_4 : decode b_Arrays_fill 4 = .ok (.istore_n 3, 1) := by decide +kernel
theorem d_Arrays_fill_5 : decode b_Arrays_fill 5 = .ok (.iload_n 2, 1) := by decide +kernel
theorem d_Arrays_fill_6 : decode b_Arrays_fill 6 = .ok (.iload_n 3, 1) := by decide +kernel
theorem d_Arrays_fill_7 : decode b_Arrays_fill 7 = .ok (.if_icmp .ge 13, 3) := by decide +kernel
theorem d_Arrays_fill_10 : decode b_Arrays_fill 10 = .ok (.aload_n 0, 1) := by decide +kernel
theorem d_Arrays_fill_11 : decode b_Arrays_fill 11 = .ok (.iload_n 2, 1) := by decide +kernel
theorem d_Arrays_fill_12 : decode b_Arrays_fill 12 = .ok (.iload_n 1, 1) := by decide +kernel
theorem d_Arrays_fill_13 : decode b_Arrays_fill 13 = .ok (.iastore, 1) := by decide +kernel
theorem d_Arrays_fill_14 : decode b_Arrays_fill 14 = .ok (.iinc 2 1, 3) := by decide +kernel
theorem d_Arrays_fill_17 : decode b_Arrays_fill 17 = .ok (.goto (-12), 3) := by decide +kernel
theorem d_Arrays_fill_20 : decode b_Arrays_fill 20 = .ok (.return_, 1) := by decide +kernel
end
section
section JN
variable {St ρ : Type} {K : jx_E} {D : va_G} {cl : List vw_C} {tys : List (ClassId × FieldType)} {A : Nat → Prop} {nL : Nat} {cc : ByteArray} {own : String} {Ts : List Cond} {rm : Room} {rt : Option FieldType} {w : St → va_W} {Q : ρ → St → State → Prop} {cs sl : Nat} {pc : Nat} {lv : List (Nat × Value)} {st : List Value} {σ : St} {F F1 F2 : Option (ρ × St)}
theorem J_iushr (h : jx_ok K D cl tys A nL cc own Ts rm rt) {x y : Int32} (hd : decode cc pc = .ok (.iushr, 1)) (k : J K D cl A nL w Q cs sl (pc + 1) lv (.int ((x.toUInt32 >>> (y.toUInt32 &&& Int32.toUInt32 31)).toInt32) :: st) σ F) : J K D cl A nL w Q cs sl pc lv (.int y :: .int x :: st) σ F :=
  fun r σ' e H locs ls hP hD hS hl => lv_iushr h.1 h.2.1 hd rfl (k r σ' e H locs ls hP hD hS hl)
theorem J_ldcw (h : jx_ok K D cl tys A nL cc own Ts rm rt) {index : Nat} {v : Int32} (hd : decode cc pc = .ok (.ldc_w index, 3)) (hw : Cond.constant own index v ∈ Ts) (k : J K D cl A nL w Q cs sl (pc + 3) lv (.int v :: st) σ F) : J K D cl A nL w Q cs sl pc lv st σ F :=
  fun r σ' e H locs ls hP hD hS hl => lv_ldcw h.1 h.2.1 h.2.2.2.1 (h.2.2.2.2.1 _ hw) hd (k r σ' e H locs ls hP hD hS hl)
end JN
section JO
variable {St ρ : Type} {K : jx_E} {D : va_G} {cl : List vw_C} {tys : List (ClassId × FieldType)} {A : Nat → Prop} {nL : Nat} {cc : ByteArray} {own : String} {Ts : List Cond} {rm : Room} {rt : Option FieldType} {w : St → va_W} {Q : ρ → St → State → Prop} {cs sl : Nat} {pc : Nat} {lv : List (Nat × Value)} {st : List Value} {σ : St}
theorem jx_metIL {l : Launch} {y : MethodName} {ws ws' : List Cond} {vs : List Value} {F : Option (Int32 × St)} {r : Int32} {σ' : St} (hy : plainName y.cls = true) (hw : ws = Cond.code y cc nL rt :: ws') (hlen : (lg_sl vs).length ≤ nL) (body : ∀ (K : jx_E) (A : Nat → Prop), jl K = l → jx_ok K D cl tys A nL cc y.cls ws rm rt → J K D cl A nL w (jx_Qi K D cl tys w A) 0 0 0 (lv_args 0 vs) [] σ F) (hF : F = some (r, σ')) : MetI l y ws rm D cl tys w vs σ r σ' := by
  intro sz
  refine Met.ofW (cc := cc) (maxL := nL) (ret := rt) hy hw ?_
  intro p e s m args below meth c s₁ B hml hv
  have hok := jx_start (ws' := ws') B hml hv
  obtain ⟨rfl, hsz, hP, hK, hD0⟩ := hv
  rw [lg_entry_eq]
  exact body _ _ rfl hok r σ' hF s.heap [] _ hP hD0.self va_S.rf (lv_entry vs hlen)
end JO
end
section
/-! the world of side X: its state, its cells, the words -/
theorem q_1_106 : Cond.fieldLink "InferReduce$Bounds" 24 "InferReduce$Bounds" "size" "I" ∈ tblG := tb_1 106 rfl rfl
theorem q_1_102 : Cond.fieldLink "InferReduce$Bounds" 9 "InferReduce$Bounds" "sort" "[I" ∈ tblG := tb_1 102 rfl rfl
theorem q_1_103 : Cond.fieldLink "InferReduce$Bounds" 15 "InferReduce$Bounds" "variable" "[I" ∈ tblG := tb_1 103 rfl rfl
theorem q_1_104 : Cond.fieldLink "InferReduce$Bounds" 18 "InferReduce$Bounds" "type" "[I" ∈ tblG := tb_1 104 rfl rfl
theorem q_1_105 : Cond.fieldLink "InferReduce$Bounds" 21 "InferReduce$Bounds" "origin" "[I" ∈ tblG := tb_1 105 rfl rfl
theorem q_1_71 : Cond.fieldLink "InferReduce$Types" 49 "InferReduce$Types" "size" "I" ∈ tblG := tb_1 71 rfl rfl
theorem q_1_66 : Cond.fieldLink "InferReduce$Types" 27 "InferReduce$Types" "variables" "[I" ∈ tblG := tb_1 66 rfl rfl
theorem q_3_175 : Cond.methodLink "InferReduce$Bounds" 28 y_Types_isProper ∈ tblG := tb_3 175 rfl rfl
theorem q_2_151 : Cond.code y_Types_isProper b_Types_isProper 2 (some .boolean) ∈ tblG := tb_2 151 rfl rfl
theorem q_1_3 : Cond.initialized "InferReduce$Types" ∈ tblG := tb_1 3 rfl rfl
theorem q_2_149 : Cond.instanceMethod y_Types_isProper ∈ tblG := tb_2 149 rfl rfl
theorem q_2_150 : Cond.selects "InferReduce$Types" y_Types_isProper y_Types_isProper ∈ tblG := tb_2 150 rfl rfl
theorem q_1_33 : Cond.fieldLink "InferReduce$Classes" 28 "InferReduce$Classes" "size" "I" ∈ tblG := tb_1 33 rfl rfl
theorem q_1_28 : Cond.fieldLink "InferReduce$Classes" 9 "InferReduce$Classes" "parameters" "[I" ∈ tblG := tb_1 28 rfl rfl
theorem q_1_32 : Cond.fieldLink "InferReduce$Classes" 24 "InferReduce$Classes" "reach" "[J" ∈ tblG := tb_1 32 rfl rfl
theorem q_2_139 : Cond.methodLink "InferReduce$Classes" 32 y_Classes_has ∈ tblG := tb_2 139 rfl rfl
theorem q_2_118 : Cond.code y_Classes_has b_Classes_has 2 (some .boolean) ∈ tblG := tb_2 118 rfl rfl
theorem q_1_2 : Cond.initialized "InferReduce$Classes" ∈ tblG := tb_1 2 rfl rfl
theorem q_2_116 : Cond.instanceMethod y_Classes_has ∈ tblG := tb_2 116 rfl rfl
theorem q_2_117 : Cond.selects "InferReduce$Classes" y_Classes_has y_Classes_has ∈ tblG := tb_2 117 rfl rfl
theorem q_1_29 : Cond.fieldLink "InferReduce$Classes" 15 "InferReduce$Classes" "parentCount" "[I" ∈ tblG := tb_1 29 rfl rfl
theorem q_1_31 : Cond.fieldLink "InferReduce$Classes" 21 "InferReduce$Classes" "parentClass" "[I" ∈ tblG := tb_1 31 rfl rfl
theorem q_1_30 : Cond.fieldLink "InferReduce$Classes" 18 "InferReduce$Classes" "parentType" "[I" ∈ tblG := tb_1 30 rfl rfl
theorem q_2_161 : Cond.methodLink "InferReduce$Classes" 36 y_Classes_renewReach ∈ tblG := tb_2 161 rfl rfl
theorem q_2_164 : Cond.code y_Classes_renewReach b_Classes_renewReach 6 none ∈ tblG := tb_2 164 rfl rfl
theorem q_2_163 : Cond.instanceMethod y_Classes_renewReach ∈ tblG := tb_2 163 rfl rfl
theorem q_s_1 : Cond.selects "InferReduce$Classes" y_Classes_renewReach y_Classes_renewReach ∈ tblG := tb_s 1 rfl rfl
theorem q_1_131 : Cond.fieldLink "InferReduce$Exchange" 29 "InferReduce$Exchange" "stamp" "I" ∈ tblG := tb_1 131 rfl rfl
theorem q_1_132 : Cond.fieldLink "InferReduce$Exchange" 32 "InferReduce$Exchange" "variables" "I" ∈ tblG := tb_1 132 rfl rfl
theorem q_1_133 : Cond.fieldLink "InferReduce$Exchange" 25 "InferReduce$Exchange" "owner" "I" ∈ tblG := tb_1 133 rfl rfl
theorem q_1_128 : Cond.fieldLink "InferReduce$Exchange" 9 "InferReduce$Exchange" "instead" "[I" ∈ tblG := tb_1 128 rfl rfl
theorem q_1_67 : Cond.fieldLink "InferReduce$Types" 30 "InferReduce$Types" "owners" "[J" ∈ tblG := tb_1 67 rfl rfl
theorem q_2_156 : Cond.constantLong "InferReduce$Types" 53 (-1 : Int64) ∈ tblG := tb_2 156 rfl rfl
theorem q_1_61 : Cond.fieldLink "InferReduce$Types" 9 "InferReduce$Types" "kind" "[I" ∈ tblG := tb_1 61 rfl rfl
theorem q_1_62 : Cond.fieldLink "InferReduce$Types" 15 "InferReduce$Types" "first" "[I" ∈ tblG := tb_1 62 rfl rfl
theorem q_1_63 : Cond.fieldLink "InferReduce$Types" 18 "InferReduce$Types" "second" "[I" ∈ tblG := tb_1 63 rfl rfl
theorem q_1_64 : Cond.fieldLink "InferReduce$Types" 21 "InferReduce$Types" "third" "[I" ∈ tblG := tb_1 64 rfl rfl
theorem q_1_69 : Cond.fieldLink "InferReduce$Types" 37 "InferReduce$Types" "chainFirst" "[I" ∈ tblG := tb_1 69 rfl rfl
theorem q_1_70 : Cond.fieldLink "InferReduce$Types" 40 "InferReduce$Types" "chainNext" "[I" ∈ tblG := tb_1 70 rfl rfl
theorem q_1_65 : Cond.fieldLink "InferReduce$Types" 24 "InferReduce$Types" "depth" "[I" ∈ tblG := tb_1 65 rfl rfl
theorem q_1_68 : Cond.fieldLink "InferReduce$Types" 34 "InferReduce$Types" "named" "[J" ∈ tblG := tb_1 68 rfl rfl
theorem q_1_127 : Cond.fieldLink "InferReduce$Exchange" 21 "InferReduce$Exchange" "types" "LInferReduce$Types;" ∈ tblG := tb_1 127 rfl rfl
theorem q_3_75 : Cond.methodLink "InferReduce$Exchange" 41 y_Types_ownersIn ∈ tblG := tb_3 75 rfl rfl
theorem q_2_155 : Cond.code y_Types_ownersIn b_Types_ownersIn 3 (some .long) ∈ tblG := tb_2 155 rfl rfl
theorem q_2_153 : Cond.instanceMethod y_Types_ownersIn ∈ tblG := tb_2 153 rfl rfl
theorem q_2_154 : Cond.selects "InferReduce$Types" y_Types_ownersIn y_Types_ownersIn ∈ tblG := tb_2 154 rfl rfl
theorem q_1_130 : Cond.fieldLink "InferReduce$Exchange" 18 "InferReduce$Exchange" "doneAt" "[I" ∈ tblG := tb_1 130 rfl rfl
theorem q_1_129 : Cond.fieldLink "InferReduce$Exchange" 15 "InferReduce$Exchange" "done" "[I" ∈ tblG := tb_1 129 rfl rfl
theorem q_3_76 : Cond.methodLink "InferReduce$Exchange" 45 y_Types_kindOf ∈ tblG := tb_3 76 rfl rfl
theorem q_2_126 : Cond.code y_Types_kindOf b_Types_kindOf 2 (some .int) ∈ tblG := tb_2 126 rfl rfl
theorem q_2_124 : Cond.instanceMethod y_Types_kindOf ∈ tblG := tb_2 124 rfl rfl
theorem q_2_125 : Cond.selects "InferReduce$Types" y_Types_kindOf y_Types_kindOf ∈ tblG := tb_2 125 rfl rfl
theorem q_3_77 : Cond.methodLink "InferReduce$Exchange" 48 y_Types_firstOf ∈ tblG := tb_3 77 rfl rfl
theorem q_2_130 : Cond.code y_Types_firstOf b_Types_firstOf 2 (some .int) ∈ tblG := tb_2 130 rfl rfl
theorem q_2_128 : Cond.instanceMethod y_Types_firstOf ∈ tblG := tb_2 128 rfl rfl
theorem q_2_129 : Cond.selects "InferReduce$Types" y_Types_firstOf y_Types_firstOf ∈ tblG := tb_2 129 rfl rfl
theorem q_3_78 : Cond.methodLink "InferReduce$Exchange" 51 y_Types_secondOf ∈ tblG := tb_3 78 rfl rfl
theorem q_2_143 : Cond.code y_Types_secondOf b_Types_secondOf 2 (some .int) ∈ tblG := tb_2 143 rfl rfl
theorem q_2_141 : Cond.instanceMethod y_Types_secondOf ∈ tblG := tb_2 141 rfl rfl
theorem q_2_142 : Cond.selects "InferReduce$Types" y_Types_secondOf y_Types_secondOf ∈ tblG := tb_2 142 rfl rfl
theorem q_3_79 : Cond.methodLink "InferReduce$Exchange" 54 y_Types_thirdOf ∈ tblG := tb_3 79 rfl rfl
theorem q_2_147 : Cond.code y_Types_thirdOf b_Types_thirdOf 2 (some .int) ∈ tblG := tb_2 147 rfl rfl
theorem q_2_145 : Cond.instanceMethod y_Types_thirdOf ∈ tblG := tb_2 145 rfl rfl
theorem q_2_146 : Cond.selects "InferReduce$Types" y_Types_thirdOf y_Types_thirdOf ∈ tblG := tb_2 146 rfl rfl
theorem q_3_80 : Cond.methodLink "InferReduce$Exchange" 57 y_Types_argumentOf ∈ tblG := tb_3 80 rfl rfl
theorem q_3_51 : Cond.code y_Types_argumentOf b_Types_argumentOf 3 (some .int) ∈ tblG := tb_3 51 rfl rfl
theorem q_3_49 : Cond.instanceMethod y_Types_argumentOf ∈ tblG := tb_3 49 rfl rfl
theorem q_3_50 : Cond.selects "InferReduce$Types" y_Types_argumentOf y_Types_argumentOf ∈ tblG := tb_3 50 rfl rfl
theorem q_3_81 : Cond.methodLink "InferReduce$Exchange" 61 y_Types_make ∈ tblG := tb_3 81 rfl rfl
theorem q_2_172 : Cond.code y_Types_make b_Types_make 15 (some .int) ∈ tblG := tb_2 172 rfl rfl
theorem q_2_170 : Cond.instanceMethod y_Types_make ∈ tblG := tb_2 170 rfl rfl
theorem q_2_171 : Cond.selects "InferReduce$Types" y_Types_make y_Types_make ∈ tblG := tb_2 171 rfl rfl
theorem q_3_82 : Cond.methodLink "InferReduce$Exchange" 65 y_Exchange_put ∈ tblG := tb_3 82 rfl rfl
theorem q_3_73 : Cond.code y_Exchange_put b_Exchange_put 10 (some .int) ∈ tblG := tb_3 73 rfl rfl
theorem q_1_6 : Cond.initialized "InferReduce$Exchange" ∈ tblG := tb_1 6 rfl rfl
theorem q_3_71 : Cond.instanceMethod y_Exchange_put ∈ tblG := tb_3 71 rfl rfl
theorem q_3_72 : Cond.selects "InferReduce$Exchange" y_Exchange_put y_Exchange_put ∈ tblG := tb_3 72 rfl rfl
theorem q_3_74 : Cond.methodLink "InferReduce$Exchange" 35 y_Types_variablesIn ∈ tblG := tb_3 74 rfl rfl
theorem q_2_220 : Cond.code y_Types_variablesIn b_Types_variablesIn 2 (some .int) ∈ tblG := tb_2 220 rfl rfl
theorem q_2_218 : Cond.instanceMethod y_Types_variablesIn ∈ tblG := tb_2 218 rfl rfl
theorem q_2_219 : Cond.selects "InferReduce$Types" y_Types_variablesIn y_Types_variablesIn ∈ tblG := tb_2 219 rfl rfl
theorem q_1_165 : Cond.fieldLink "InferReduce$Work" 24 "InferReduce$Work" "size" "I" ∈ tblG := tb_1 165 rfl rfl
theorem q_1_161 : Cond.fieldLink "InferReduce$Work" 11 "InferReduce$Work" "sorts" "[I" ∈ tblG := tb_1 161 rfl rfl
theorem q_1_167 : Cond.fieldLink "InferReduce$Work" 28 "InferReduce$Work" "sort" "I" ∈ tblG := tb_1 167 rfl rfl
theorem q_1_162 : Cond.fieldLink "InferReduce$Work" 15 "InferReduce$Work" "lefts" "[I" ∈ tblG := tb_1 162 rfl rfl
theorem q_1_169 : Cond.fieldLink "InferReduce$Work" 31 "InferReduce$Work" "left" "I" ∈ tblG := tb_1 169 rfl rfl
theorem q_1_163 : Cond.fieldLink "InferReduce$Work" 18 "InferReduce$Work" "rights" "[I" ∈ tblG := tb_1 163 rfl rfl
theorem q_1_171 : Cond.fieldLink "InferReduce$Work" 34 "InferReduce$Work" "right" "I" ∈ tblG := tb_1 171 rfl rfl
theorem q_1_164 : Cond.fieldLink "InferReduce$Work" 21 "InferReduce$Work" "levels" "[I" ∈ tblG := tb_1 164 rfl rfl
theorem q_1_173 : Cond.fieldLink "InferReduce$Work" 37 "InferReduce$Work" "level" "I" ∈ tblG := tb_1 173 rfl rfl
theorem q_1_195 : Cond.fieldLink "InferReduce$Reducer" 22 "InferReduce$Reducer" "types" "LInferReduce$Types;" ∈ tblG := tb_1 195 rfl rfl
theorem q_3_20 : Cond.methodLink "InferReduce$Reducer" 109 y_Types_firstOf ∈ tblG := tb_3 20 rfl rfl
theorem q_3_31 : Cond.methodLink "InferReduce$Reducer" 142 y_Types_make ∈ tblG := tb_3 31 rfl rfl
theorem q_1_199 : Cond.fieldLink "InferReduce$Reducer" 12 "InferReduce$Reducer" "work" "LInferReduce$Work;" ∈ tblG := tb_1 199 rfl rfl
theorem q_1_174 : Cond.fieldLink "InferReduce$Reducer" 56 "InferReduce$Work" "level" "I" ∈ tblG := tb_1 174 rfl rfl
theorem q_2_238 : Cond.methodLink "InferReduce$Reducer" 48 y_Work_add ∈ tblG := tb_2 238 rfl rfl
theorem q_3_1 : Cond.code y_Work_add b_Work_add 5 (some .boolean) ∈ tblG := tb_3 1 rfl rfl
theorem q_1_8 : Cond.initialized "InferReduce$Work" ∈ tblG := tb_1 8 rfl rfl
theorem q_2_239 : Cond.instanceMethod y_Work_add ∈ tblG := tb_2 239 rfl rfl
theorem q_3_0 : Cond.selects "InferReduce$Work" y_Work_add y_Work_add ∈ tblG := tb_3 0 rfl rfl
theorem q_3_18 : Cond.methodLink "InferReduce$Reducer" 102 y_Types_kindOf ∈ tblG := tb_3 18 rfl rfl
theorem q_3_21 : Cond.methodLink "InferReduce$Reducer" 112 y_Reducer_widens ∈ tblG := tb_3 21 rfl rfl
theorem q_3_23 : Cond.code y_Reducer_widens b_Reducer_widens 2 (some .boolean) ∈ tblG := tb_3 23 rfl rfl
theorem q_1_7 : Cond.initialized "InferReduce$Reducer" ∈ tblG := tb_1 7 rfl rfl
theorem q_3_22 : Cond.static y_Reducer_widens ∈ tblG := tb_3 22 rfl rfl
theorem q_3_48 : Cond.methodLink "InferReduce$Types" 55 y_Types_argumentOf ∈ tblG := tb_3 48 rfl rfl
theorem q_3_52 : Cond.methodLink "InferReduce$Types" 59 y_Types_firstOf ∈ tblG := tb_3 52 rfl rfl
theorem q_3_53 : Cond.methodLink "InferReduce$Types" 63 y_Types_secondOf ∈ tblG := tb_3 53 rfl rfl
theorem q_3_44 : Cond.methodLink "InferReduce$Reducer" 136 y_Types_captureBound ∈ tblG := tb_3 44 rfl rfl
theorem q_3_47 : Cond.code y_Types_captureBound b_Types_captureBound 4 (some .int) ∈ tblG := tb_3 47 rfl rfl
theorem q_3_45 : Cond.instanceMethod y_Types_captureBound ∈ tblG := tb_3 45 rfl rfl
theorem q_3_46 : Cond.selects "InferReduce$Types" y_Types_captureBound y_Types_captureBound ∈ tblG := tb_3 46 rfl rfl
theorem q_1_194 : Cond.fieldLink "InferReduce$Reducer" 18 "InferReduce$Reducer" "classes" "LInferReduce$Classes;" ∈ tblG := tb_1 194 rfl rfl
theorem q_3_54 : Cond.methodLink "InferReduce$Reducer" 84 y_Types_classOf ∈ tblG := tb_3 54 rfl rfl
theorem q_3_57 : Cond.code y_Types_classOf b_Types_classOf 2 (some .int) ∈ tblG := tb_3 57 rfl rfl
theorem q_3_55 : Cond.instanceMethod y_Types_classOf ∈ tblG := tb_3 55 rfl rfl
theorem q_3_56 : Cond.selects "InferReduce$Types" y_Types_classOf y_Types_classOf ∈ tblG := tb_3 56 rfl rfl
theorem q_3_58 : Cond.methodLink "InferReduce$Reducer" 149 y_Classes_reaches ∈ tblG := tb_3 58 rfl rfl
theorem q_3_61 : Cond.code y_Classes_reaches b_Classes_reaches 3 (some .boolean) ∈ tblG := tb_3 61 rfl rfl
theorem q_3_59 : Cond.instanceMethod y_Classes_reaches ∈ tblG := tb_3 59 rfl rfl
theorem q_3_60 : Cond.selects "InferReduce$Classes" y_Classes_reaches y_Classes_reaches ∈ tblG := tb_3 60 rfl rfl
theorem q_3_62 : Cond.methodLink "InferReduce$Reducer" 152 y_Classes_parentTowards ∈ tblG := tb_3 62 rfl rfl
theorem q_3_65 : Cond.code y_Classes_parentTowards b_Classes_parentTowards 5 (some .int) ∈ tblG := tb_3 65 rfl rfl
theorem q_3_63 : Cond.instanceMethod y_Classes_parentTowards ∈ tblG := tb_3 63 rfl rfl
theorem q_3_64 : Cond.selects "InferReduce$Classes" y_Classes_parentTowards y_Classes_parentTowards ∈ tblG := tb_3 64 rfl rfl
theorem q_1_197 : Cond.fieldLink "InferReduce$Reducer" 30 "InferReduce$Reducer" "exchange" "LInferReduce$Exchange;" ∈ tblG := tb_1 197 rfl rfl
theorem q_3_66 : Cond.methodLink "InferReduce$Reducer" 155 y_Exchange_forArguments ∈ tblG := tb_3 66 rfl rfl
theorem q_3_69 : Cond.code y_Exchange_forArguments b_Exchange_forArguments 2 none ∈ tblG := tb_3 69 rfl rfl
theorem q_3_67 : Cond.instanceMethod y_Exchange_forArguments ∈ tblG := tb_3 67 rfl rfl
theorem q_3_68 : Cond.selects "InferReduce$Exchange" y_Exchange_forArguments y_Exchange_forArguments ∈ tblG := tb_3 68 rfl rfl
theorem q_3_70 : Cond.methodLink "InferReduce$Reducer" 161 y_Exchange_put ∈ tblG := tb_3 70 rfl rfl
theorem q_3_83 : Cond.methodLink "InferReduce$Reducer" 90 y_Classes_parametersOf ∈ tblG := tb_3 83 rfl rfl
theorem q_2_138 : Cond.code y_Classes_parametersOf b_Classes_parametersOf 2 (some .int) ∈ tblG := tb_2 138 rfl rfl
theorem q_2_136 : Cond.instanceMethod y_Classes_parametersOf ∈ tblG := tb_2 136 rfl rfl
theorem q_2_137 : Cond.selects "InferReduce$Classes" y_Classes_parametersOf y_Classes_parametersOf ∈ tblG := tb_2 137 rfl rfl
theorem q_3_84 : Cond.methodLink "InferReduce$Reducer" 164 y_Types_has ∈ tblG := tb_3 84 rfl rfl
theorem q_2_184 : Cond.code y_Types_has b_Types_has 2 (some .boolean) ∈ tblG := tb_2 184 rfl rfl
theorem q_2_182 : Cond.instanceMethod y_Types_has ∈ tblG := tb_2 182 rfl rfl
theorem q_2_183 : Cond.selects "InferReduce$Types" y_Types_has y_Types_has ∈ tblG := tb_2 183 rfl rfl
theorem q_3_19 : Cond.methodLink "InferReduce$Reducer" 105 y_Types_isProper ∈ tblG := tb_3 19 rfl rfl
theorem q_3_40 : Cond.methodLink "InferReduce$Reducer" 126 y_Reducer_aboveOf ∈ tblG := tb_3 40 rfl rfl
theorem q_3_43 : Cond.code y_Reducer_aboveOf b_Reducer_aboveOf 7 (some .int) ∈ tblG := tb_3 43 rfl rfl
theorem q_3_41 : Cond.instanceMethod y_Reducer_aboveOf ∈ tblG := tb_3 41 rfl rfl
theorem q_3_42 : Cond.selects "InferReduce$Reducer" y_Reducer_aboveOf y_Reducer_aboveOf ∈ tblG := tb_3 42 rfl rfl
theorem q_1_204 : Cond.fieldLink "InferReduce$Reducer" 44 "InferReduce$Reducer" "sawUnchecked" "Z" ∈ tblG := tb_1 204 rfl rfl
theorem q_3_32 : Cond.methodLink "InferReduce$Reducer" 98 y_Reducer_within ∈ tblG := tb_3 32 rfl rfl
theorem q_3_35 : Cond.code y_Reducer_within b_Reducer_within 4 (some .int) ∈ tblG := tb_3 35 rfl rfl
theorem q_3_34 : Cond.instanceMethod y_Reducer_within ∈ tblG := tb_3 34 rfl rfl
theorem q_s_6 : Cond.selects "InferReduce$Reducer" y_Reducer_within y_Reducer_within ∈ tblG := tb_s 6 rfl rfl
theorem q_3_27 : Cond.methodLink "InferReduce$Reducer" 120 y_Reducer_boxOf ∈ tblG := tb_3 27 rfl rfl
theorem q_3_30 : Cond.code y_Reducer_boxOf b_Reducer_boxOf 2 (some .int) ∈ tblG := tb_3 30 rfl rfl
theorem q_3_29 : Cond.instanceMethod y_Reducer_boxOf ∈ tblG := tb_3 29 rfl rfl
theorem q_s_5 : Cond.selects "InferReduce$Reducer" y_Reducer_boxOf y_Reducer_boxOf ∈ tblG := tb_s 5 rfl rfl
theorem q_3_36 : Cond.methodLink "InferReduce$Reducer" 123 y_Reducer_unboxes ∈ tblG := tb_3 36 rfl rfl
theorem q_3_39 : Cond.code y_Reducer_unboxes b_Reducer_unboxes 4 (some .boolean) ∈ tblG := tb_3 39 rfl rfl
theorem q_3_38 : Cond.instanceMethod y_Reducer_unboxes ∈ tblG := tb_3 38 rfl rfl
theorem q_s_7 : Cond.selects "InferReduce$Reducer" y_Reducer_unboxes y_Reducer_unboxes ∈ tblG := tb_s 7 rfl rfl
theorem q_3_24 : Cond.methodLink "InferReduce$Reducer" 116 y_Reducer_truth ∈ tblG := tb_3 24 rfl rfl
theorem q_3_26 : Cond.code y_Reducer_truth b_Reducer_truth 1 (some .int) ∈ tblG := tb_3 26 rfl rfl
theorem q_3_25 : Cond.static y_Reducer_truth ∈ tblG := tb_3 25 rfl rfl
theorem q_1_196 : Cond.fieldLink "InferReduce$Reducer" 26 "InferReduce$Reducer" "bounds" "LInferReduce$Bounds;" ∈ tblG := tb_1 196 rfl rfl
theorem q_1_203 : Cond.fieldLink "InferReduce$Reducer" 41 "InferReduce$Reducer" "origin" "I" ∈ tblG := tb_1 203 rfl rfl
theorem q_3_93 : Cond.methodLink "InferReduce$Reducer" 145 y_Bounds_add ∈ tblG := tb_3 93 rfl rfl
theorem q_3_96 : Cond.code y_Bounds_add b_Bounds_add 6 (some .int) ∈ tblG := tb_3 96 rfl rfl
theorem q_1_5 : Cond.initialized "InferReduce$Bounds" ∈ tblG := tb_1 5 rfl rfl
theorem q_3_94 : Cond.instanceMethod y_Bounds_add ∈ tblG := tb_3 94 rfl rfl
theorem q_3_95 : Cond.selects "InferReduce$Bounds" y_Bounds_add y_Bounds_add ∈ tblG := tb_3 95 rfl rfl
theorem q_3_101 : Cond.methodLink "InferReduce$Reducer" 95 y_Types_argumentOf ∈ tblG := tb_3 101 rfl rfl
theorem q_3_89 : Cond.methodLink "InferReduce$Reducer" 129 y_Reducer_bind ∈ tblG := tb_3 89 rfl rfl
theorem q_3_92 : Cond.code y_Reducer_bind b_Reducer_bind 6 (some .int) ∈ tblG := tb_3 92 rfl rfl
theorem q_3_91 : Cond.instanceMethod y_Reducer_bind ∈ tblG := tb_3 91 rfl rfl
theorem q_s_9 : Cond.selects "InferReduce$Reducer" y_Reducer_bind y_Reducer_bind ∈ tblG := tb_s 9 rfl rfl
theorem q_3_97 : Cond.methodLink "InferReduce$Reducer" 133 y_Reducer_withinArguments ∈ tblG := tb_3 97 rfl rfl
theorem q_3_100 : Cond.code y_Reducer_withinArguments b_Reducer_withinArguments 6 (some .int) ∈ tblG := tb_3 100 rfl rfl
theorem q_3_99 : Cond.instanceMethod y_Reducer_withinArguments ∈ tblG := tb_3 99 rfl rfl
theorem q_s_10 : Cond.selects "InferReduce$Reducer" y_Reducer_withinArguments y_Reducer_withinArguments ∈ tblG := tb_s 10 rfl rfl
theorem q_3_106 : Cond.methodLink "InferReduce$Reducer" 139 y_Types_secondOf ∈ tblG := tb_3 106 rfl rfl
theorem q_1_166 : Cond.fieldLink "InferReduce$Reducer" 34 "InferReduce$Work" "size" "I" ∈ tblG := tb_1 166 rfl rfl
theorem q_3_10 : Cond.methodLink "InferReduce$Reducer" 52 y_Work_take ∈ tblG := tb_3 10 rfl rfl
theorem q_3_13 : Cond.code y_Work_take b_Work_take 1 (some .boolean) ∈ tblG := tb_3 13 rfl rfl
theorem q_3_11 : Cond.instanceMethod y_Work_take ∈ tblG := tb_3 11 rfl rfl
theorem q_3_12 : Cond.selects "InferReduce$Work" y_Work_take y_Work_take ∈ tblG := tb_3 12 rfl rfl
theorem q_1_202 : Cond.fieldLink "InferReduce$Reducer" 38 "InferReduce$Reducer" "madeInCall" "I" ∈ tblG := tb_1 202 rfl rfl
theorem q_1_200 : Cond.fieldLink "InferReduce$Reducer" 59 "InferReduce$Reducer" "made" "I" ∈ tblG := tb_1 200 rfl rfl
theorem q_1_168 : Cond.fieldLink "InferReduce$Reducer" 62 "InferReduce$Work" "sort" "I" ∈ tblG := tb_1 168 rfl rfl
theorem q_1_170 : Cond.fieldLink "InferReduce$Reducer" 65 "InferReduce$Work" "left" "I" ∈ tblG := tb_1 170 rfl rfl
theorem q_1_172 : Cond.fieldLink "InferReduce$Reducer" 68 "InferReduce$Work" "right" "I" ∈ tblG := tb_1 172 rfl rfl
theorem q_3_14 : Cond.methodLink "InferReduce$Reducer" 71 y_Reducer_lessCompatible ∈ tblG := tb_3 14 rfl rfl
theorem q_3_17 : Cond.code y_Reducer_lessCompatible b_Reducer_lessCompatible 6 (some .int) ∈ tblG := tb_3 17 rfl rfl
theorem q_3_16 : Cond.instanceMethod y_Reducer_lessCompatible ∈ tblG := tb_3 16 rfl rfl
theorem q_s_4 : Cond.selects "InferReduce$Reducer" y_Reducer_lessCompatible y_Reducer_lessCompatible ∈ tblG := tb_s 4 rfl rfl
theorem q_3_85 : Cond.methodLink "InferReduce$Reducer" 75 y_Reducer_lessSub ∈ tblG := tb_3 85 rfl rfl
theorem q_3_88 : Cond.code y_Reducer_lessSub b_Reducer_lessSub 7 (some .int) ∈ tblG := tb_3 88 rfl rfl
theorem q_3_87 : Cond.instanceMethod y_Reducer_lessSub ∈ tblG := tb_3 87 rfl rfl
theorem q_s_8 : Cond.selects "InferReduce$Reducer" y_Reducer_lessSub y_Reducer_lessSub ∈ tblG := tb_s 8 rfl rfl
theorem q_3_102 : Cond.methodLink "InferReduce$Reducer" 78 y_Reducer_lessContained ∈ tblG := tb_3 102 rfl rfl
theorem q_3_105 : Cond.code y_Reducer_lessContained b_Reducer_lessContained 7 (some .int) ∈ tblG := tb_3 105 rfl rfl
theorem q_3_104 : Cond.instanceMethod y_Reducer_lessContained ∈ tblG := tb_3 104 rfl rfl
theorem q_s_11 : Cond.selects "InferReduce$Reducer" y_Reducer_lessContained y_Reducer_lessContained ∈ tblG := tb_s 11 rfl rfl
theorem q_3_107 : Cond.methodLink "InferReduce$Reducer" 81 y_Reducer_lessEqual ∈ tblG := tb_3 107 rfl rfl
theorem q_3_110 : Cond.code y_Reducer_lessEqual b_Reducer_lessEqual 9 (some .int) ∈ tblG := tb_3 110 rfl rfl
theorem q_3_109 : Cond.instanceMethod y_Reducer_lessEqual ∈ tblG := tb_3 109 rfl rfl
theorem q_s_12 : Cond.selects "InferReduce$Reducer" y_Reducer_lessEqual y_Reducer_lessEqual ∈ tblG := tb_s 12 rfl rfl
theorem q_1_233 : Cond.fieldLink "InferReduce$Holder" 19 "InferReduce$Holder" "bounds" "LInferReduce$Bounds;" ∈ tblG := tb_1 233 rfl rfl
theorem q_3_115 : Cond.methodLink "InferReduce$Holder" 57 y_Bounds_variableOf ∈ tblG := tb_3 115 rfl rfl
theorem q_3_118 : Cond.code y_Bounds_variableOf b_Bounds_variableOf 2 (some .int) ∈ tblG := tb_3 118 rfl rfl
theorem q_3_116 : Cond.instanceMethod y_Bounds_variableOf ∈ tblG := tb_3 116 rfl rfl
theorem q_3_117 : Cond.selects "InferReduce$Bounds" y_Bounds_variableOf y_Bounds_variableOf ∈ tblG := tb_3 117 rfl rfl
theorem q_3_123 : Cond.methodLink "InferReduce$Holder" 67 y_Bounds_typeOf ∈ tblG := tb_3 123 rfl rfl
theorem q_3_126 : Cond.code y_Bounds_typeOf b_Bounds_typeOf 2 (some .int) ∈ tblG := tb_3 126 rfl rfl
theorem q_3_124 : Cond.instanceMethod y_Bounds_typeOf ∈ tblG := tb_3 124 rfl rfl
theorem q_3_125 : Cond.selects "InferReduce$Bounds" y_Bounds_typeOf y_Bounds_typeOf ∈ tblG := tb_3 125 rfl rfl
theorem q_3_127 : Cond.methodLink "InferReduce$Holder" 64 y_Bounds_sortOf ∈ tblG := tb_3 127 rfl rfl
theorem q_3_130 : Cond.code y_Bounds_sortOf b_Bounds_sortOf 2 (some .int) ∈ tblG := tb_3 130 rfl rfl
theorem q_3_128 : Cond.instanceMethod y_Bounds_sortOf ∈ tblG := tb_3 128 rfl rfl
theorem q_3_129 : Cond.selects "InferReduce$Bounds" y_Bounds_sortOf y_Bounds_sortOf ∈ tblG := tb_3 129 rfl rfl
theorem q_1_232 : Cond.fieldLink "InferReduce$Holder" 15 "InferReduce$Holder" "types" "LInferReduce$Types;" ∈ tblG := tb_1 232 rfl rfl
theorem q_3_131 : Cond.methodLink "InferReduce$Holder" 74 y_Types_isProper ∈ tblG := tb_3 131 rfl rfl
theorem q_3_132 : Cond.methodLink "InferReduce$Holder" 80 y_Types_variablesIn ∈ tblG := tb_3 132 rfl rfl
theorem q_1_234 : Cond.fieldLink "InferReduce$Holder" 23 "InferReduce$Holder" "exchange" "LInferReduce$Exchange;" ∈ tblG := tb_1 234 rfl rfl
theorem q_3_133 : Cond.methodLink "InferReduce$Holder" 83 y_Exchange_forVariables ∈ tblG := tb_3 133 rfl rfl
theorem q_3_136 : Cond.code y_Exchange_forVariables b_Exchange_forVariables 1 none ∈ tblG := tb_3 136 rfl rfl
theorem q_3_134 : Cond.instanceMethod y_Exchange_forVariables ∈ tblG := tb_3 134 rfl rfl
theorem q_3_135 : Cond.selects "InferReduce$Exchange" y_Exchange_forVariables y_Exchange_forVariables ∈ tblG := tb_3 135 rfl rfl
theorem q_3_137 : Cond.methodLink "InferReduce$Holder" 88 y_Exchange_setInstead ∈ tblG := tb_3 137 rfl rfl
theorem q_3_140 : Cond.code y_Exchange_setInstead b_Exchange_setInstead 3 none ∈ tblG := tb_3 140 rfl rfl
theorem q_3_138 : Cond.instanceMethod y_Exchange_setInstead ∈ tblG := tb_3 138 rfl rfl
theorem q_3_139 : Cond.selects "InferReduce$Exchange" y_Exchange_setInstead y_Exchange_setInstead ∈ tblG := tb_3 139 rfl rfl
theorem q_3_141 : Cond.methodLink "InferReduce$Holder" 92 y_Exchange_put ∈ tblG := tb_3 141 rfl rfl
theorem q_1_235 : Cond.fieldLink "InferReduce$Holder" 27 "InferReduce$Holder" "reducer" "LInferReduce$Reducer;" ∈ tblG := tb_1 235 rfl rfl
theorem q_1_236 : Cond.fieldLink "InferReduce$Holder" 31 "InferReduce$Holder" "variableTypes" "[I" ∈ tblG := tb_1 236 rfl rfl
theorem q_3_142 : Cond.methodLink "InferReduce$Holder" 70 y_Reducer_ask ∈ tblG := tb_3 142 rfl rfl
theorem q_2_237 : Cond.code y_Reducer_ask b_Reducer_ask 4 (some .int) ∈ tblG := tb_2 237 rfl rfl
theorem q_2_235 : Cond.instanceMethod y_Reducer_ask ∈ tblG := tb_2 235 rfl rfl
theorem q_2_236 : Cond.selects "InferReduce$Reducer" y_Reducer_ask y_Reducer_ask ∈ tblG := tb_2 236 rfl rfl
theorem q_3_119 : Cond.methodLink "InferReduce$Holder" 61 y_Holder_putsInto ∈ tblG := tb_3 119 rfl rfl
theorem q_3_122 : Cond.code y_Holder_putsInto b_Holder_putsInto 8 (some .int) ∈ tblG := tb_3 122 rfl rfl
theorem q_1_9 : Cond.initialized "InferReduce$Holder" ∈ tblG := tb_1 9 rfl rfl
theorem q_3_121 : Cond.instanceMethod y_Holder_putsInto ∈ tblG := tb_3 121 rfl rfl
theorem q_s_14 : Cond.selects "InferReduce$Holder" y_Holder_putsInto y_Holder_putsInto ∈ tblG := tb_s 14 rfl rfl
theorem q_1_231 : Cond.fieldLink "InferReduce$Holder" 9 "InferReduce$Holder" "classes" "LInferReduce$Classes;" ∈ tblG := tb_1 231 rfl rfl
theorem q_1_34 : Cond.fieldLink "InferReduce$Holder" 95 "InferReduce$Classes" "size" "I" ∈ tblG := tb_1 34 rfl rfl
theorem q_3_147 : Cond.methodLink "InferReduce$Holder" 98 y_Classes_parametersOf ∈ tblG := tb_3 147 rfl rfl
theorem q_3_148 : Cond.methodLink "InferReduce$Holder" 101 y_Reducer_aboveOf ∈ tblG := tb_3 148 rfl rfl
theorem q_3_149 : Cond.methodLink "InferReduce$Holder" 104 y_Types_kindOf ∈ tblG := tb_3 149 rfl rfl
theorem q_3_150 : Cond.methodLink "InferReduce$Holder" 107 y_Types_argumentOf ∈ tblG := tb_3 150 rfl rfl
theorem q_3_6 : Cond.methodLink "InferReduce$Holder" 35 y_Reducer_less ∈ tblG := tb_3 6 rfl rfl
theorem q_3_9 : Cond.code y_Reducer_less b_Reducer_less 3 (some .int) ∈ tblG := tb_3 9 rfl rfl
theorem q_3_7 : Cond.instanceMethod y_Reducer_less ∈ tblG := tb_3 7 rfl rfl
theorem q_3_8 : Cond.selects "InferReduce$Reducer" y_Reducer_less y_Reducer_less ∈ tblG := tb_3 8 rfl rfl
theorem q_1_237 : Cond.fieldLink "InferReduce$Holder" 41 "InferReduce$Holder" "held" "I" ∈ tblG := tb_1 237 rfl rfl
theorem q_1_107 : Cond.fieldLink "InferReduce$Holder" 45 "InferReduce$Bounds" "size" "I" ∈ tblG := tb_1 107 rfl rfl
theorem q_3_111 : Cond.methodLink "InferReduce$Holder" 50 y_Holder_comes ∈ tblG := tb_3 111 rfl rfl
theorem q_3_114 : Cond.code y_Holder_comes b_Holder_comes 7 (some .int) ∈ tblG := tb_3 114 rfl rfl
theorem q_3_113 : Cond.instanceMethod y_Holder_comes ∈ tblG := tb_3 113 rfl rfl
theorem q_s_13 : Cond.selects "InferReduce$Holder" y_Holder_comes y_Holder_comes ∈ tblG := tb_s 13 rfl rfl
theorem q_3_143 : Cond.methodLink "InferReduce$Holder" 54 y_Holder_shareArguments ∈ tblG := tb_3 143 rfl rfl
theorem q_3_146 : Cond.code y_Holder_shareArguments b_Holder_shareArguments 10 (some .int) ∈ tblG := tb_3 146 rfl rfl
theorem q_3_145 : Cond.instanceMethod y_Holder_shareArguments ∈ tblG := tb_3 145 rfl rfl
theorem q_s_15 : Cond.selects "InferReduce$Holder" y_Holder_shareArguments y_Holder_shareArguments ∈ tblG := tb_s 15 rfl rfl
theorem q_2_27 : Cond.fieldLink "InferReduce$Resolver" 18 "InferReduce$Resolver" "choices" "[I" ∈ tblG := tb_2 27 rfl rfl
theorem q_2_26 : Cond.fieldLink "InferReduce$Resolver" 15 "InferReduce$Resolver" "links" "[I" ∈ tblG := tb_2 26 rfl rfl
theorem q_3_180 : Cond.methodLink "InferReduce$Resolver" 56 y_Arrays_fill ∈ tblG := tb_3 180 rfl rfl
theorem q_1_60 : Cond.code y_Arrays_fill b_Arrays_fill 4 none ∈ tblG := tb_1 60 rfl rfl
theorem q_1_4 : Cond.initialized "java/util/Arrays" ∈ tblG := tb_1 4 rfl rfl
theorem q_1_59 : Cond.static y_Arrays_fill ∈ tblG := tb_1 59 rfl rfl
theorem q_2_22 : Cond.fieldLink "InferReduce$Resolver" 29 "InferReduce$Resolver" "bounds" "LInferReduce$Bounds;" ∈ tblG := tb_2 22 rfl rfl
theorem q_1_108 : Cond.fieldLink "InferReduce$Resolver" 62 "InferReduce$Bounds" "size" "I" ∈ tblG := tb_1 108 rfl rfl
theorem q_3_181 : Cond.methodLink "InferReduce$Resolver" 66 y_Bounds_variableOf ∈ tblG := tb_3 181 rfl rfl
theorem q_2_21 : Cond.fieldLink "InferReduce$Resolver" 25 "InferReduce$Resolver" "types" "LInferReduce$Types;" ∈ tblG := tb_2 21 rfl rfl
theorem q_3_182 : Cond.methodLink "InferReduce$Resolver" 69 y_Bounds_typeOf ∈ tblG := tb_3 182 rfl rfl
theorem q_3_183 : Cond.methodLink "InferReduce$Resolver" 72 y_Types_variablesIn ∈ tblG := tb_3 183 rfl rfl
theorem q_3_191 : Cond.constant "java/lang/Integer" 265 (1431655765 : Int32) ∈ tblG := tb_3 191 rfl rfl
theorem q_3_192 : Cond.constant "java/lang/Integer" 266 (858993459 : Int32) ∈ tblG := tb_3 192 rfl rfl
theorem q_3_193 : Cond.constant "java/lang/Integer" 267 (252645135 : Int32) ∈ tblG := tb_3 193 rfl rfl
theorem q_3_171 : Cond.methodLink "InferReduce$Resolver" 37 y_Bounds_settledAs ∈ tblG := tb_3 171 rfl rfl
theorem q_3_174 : Cond.code y_Bounds_settledAs b_Bounds_settledAs 4 (some .int) ∈ tblG := tb_3 174 rfl rfl
theorem q_3_172 : Cond.instanceMethod y_Bounds_settledAs ∈ tblG := tb_3 172 rfl rfl
theorem q_3_173 : Cond.selects "InferReduce$Bounds" y_Bounds_settledAs y_Bounds_settledAs ∈ tblG := tb_3 173 rfl rfl
theorem q_3_176 : Cond.methodLink "InferReduce$Resolver" 43 y_Resolver_link ∈ tblG := tb_3 176 rfl rfl
theorem q_3_179 : Cond.code y_Resolver_link b_Resolver_link 6 none ∈ tblG := tb_3 179 rfl rfl
theorem q_1_10 : Cond.initialized "InferReduce$Resolver" ∈ tblG := tb_1 10 rfl rfl
theorem q_3_178 : Cond.instanceMethod y_Resolver_link ∈ tblG := tb_3 178 rfl rfl
theorem q_s_17 : Cond.selects "InferReduce$Resolver" y_Resolver_link y_Resolver_link ∈ tblG := tb_s 17 rfl rfl
theorem q_3_184 : Cond.methodLink "InferReduce$Resolver" 47 y_Resolver_groupOf ∈ tblG := tb_3 184 rfl rfl
theorem q_3_187 : Cond.code y_Resolver_groupOf b_Resolver_groupOf 5 (some .int) ∈ tblG := tb_3 187 rfl rfl
theorem q_3_186 : Cond.instanceMethod y_Resolver_groupOf ∈ tblG := tb_3 186 rfl rfl
theorem q_s_18 : Cond.selects "InferReduce$Resolver" y_Resolver_groupOf y_Resolver_groupOf ∈ tblG := tb_s 18 rfl rfl
theorem q_3_188 : Cond.methodLink "InferReduce$Resolver" 51 y_Integer_bitCount ∈ tblG := tb_3 188 rfl rfl
theorem q_3_190 : Cond.code y_Integer_bitCount b_Integer_bitCount 1 (some .int) ∈ tblG := tb_3 190 rfl rfl
theorem q_1_13 : Cond.initialized "java/lang/Integer" ∈ tblG := tb_1 13 rfl rfl
theorem q_3_189 : Cond.static y_Integer_bitCount ∈ tblG := tb_3 189 rfl rfl
theorem q_2_25 : Cond.fieldLink "InferReduce$Resolver" 81 "InferReduce$Resolver" "nearSize" "I" ∈ tblG := tb_2 25 rfl rfl
theorem q_3_202 : Cond.methodLink "InferReduce$Resolver" 95 y_Bounds_sortOf ∈ tblG := tb_3 202 rfl rfl
theorem q_3_203 : Cond.methodLink "InferReduce$Resolver" 98 y_Types_isProper ∈ tblG := tb_3 203 rfl rfl
theorem q_2_24 : Cond.fieldLink "InferReduce$Resolver" 9 "InferReduce$Resolver" "near" "[I" ∈ tblG := tb_2 24 rfl rfl
theorem q_2_23 : Cond.fieldLink "InferReduce$Resolver" 33 "InferReduce$Resolver" "reducer" "LInferReduce$Reducer;" ∈ tblG := tb_2 23 rfl rfl
theorem q_3_208 : Cond.methodLink "InferReduce$Resolver" 102 y_Reducer_ask ∈ tblG := tb_3 208 rfl rfl
theorem q_3_209 : Cond.methodLink "InferReduce$Resolver" 108 y_Reducer_less ∈ tblG := tb_3 209 rfl rfl
theorem q_3_218 : Cond.methodLink "InferReduce$Resolver" 124 y_Reducer_aboveOf ∈ tblG := tb_3 218 rfl rfl
theorem q_2_20 : Cond.fieldLink "InferReduce$Resolver" 21 "InferReduce$Resolver" "classes" "LInferReduce$Classes;" ∈ tblG := tb_2 20 rfl rfl
theorem q_1_35 : Cond.fieldLink "InferReduce$Resolver" 111 "InferReduce$Classes" "size" "I" ∈ tblG := tb_1 35 rfl rfl
theorem q_3_223 : Cond.methodLink "InferReduce$Resolver" 91 y_Types_make ∈ tblG := tb_3 223 rfl rfl
theorem q_3_233 : Cond.methodLink "InferReduce$Resolver" 137 y_Types_argumentOf ∈ tblG := tb_3 233 rfl rfl
theorem q_3_228 : Cond.methodLink "InferReduce$Resolver" 128 y_Types_kindOf ∈ tblG := tb_3 228 rfl rfl
theorem q_3_229 : Cond.methodLink "InferReduce$Resolver" 131 y_Resolver_sharedArgument ∈ tblG := tb_3 229 rfl rfl
theorem q_3_232 : Cond.code y_Resolver_sharedArgument b_Resolver_sharedArgument 6 (some .int) ∈ tblG := tb_3 232 rfl rfl
theorem q_3_231 : Cond.instanceMethod y_Resolver_sharedArgument ∈ tblG := tb_3 231 rfl rfl
theorem q_s_25 : Cond.selects "InferReduce$Resolver" y_Resolver_sharedArgument y_Resolver_sharedArgument ∈ tblG := tb_s 25 rfl rfl
theorem q_3_234 : Cond.methodLink "InferReduce$Resolver" 134 y_Classes_parametersOf ∈ tblG := tb_3 234 rfl rfl
theorem q_3_214 : Cond.methodLink "InferReduce$Resolver" 114 y_Resolver_isAboveAll ∈ tblG := tb_3 214 rfl rfl
theorem q_3_217 : Cond.code y_Resolver_isAboveAll b_Resolver_isAboveAll 4 (some .int) ∈ tblG := tb_3 217 rfl rfl
theorem q_3_216 : Cond.instanceMethod y_Resolver_isAboveAll ∈ tblG := tb_3 216 rfl rfl
theorem q_s_22 : Cond.selects "InferReduce$Resolver" y_Resolver_isAboveAll y_Resolver_isAboveAll ∈ tblG := tb_s 22 rfl rfl
theorem q_3_219 : Cond.methodLink "InferReduce$Resolver" 117 y_Resolver_isAboveAnother ∈ tblG := tb_3 219 rfl rfl
theorem q_3_222 : Cond.code y_Resolver_isAboveAnother b_Resolver_isAboveAnother 7 (some .int) ∈ tblG := tb_3 222 rfl rfl
theorem q_3_221 : Cond.instanceMethod y_Resolver_isAboveAnother ∈ tblG := tb_3 221 rfl rfl
theorem q_s_23 : Cond.selects "InferReduce$Resolver" y_Resolver_isAboveAnother y_Resolver_isAboveAnother ∈ tblG := tb_s 23 rfl rfl
theorem q_3_224 : Cond.methodLink "InferReduce$Resolver" 121 y_Resolver_joinAs ∈ tblG := tb_3 224 rfl rfl
theorem q_3_227 : Cond.code y_Resolver_joinAs b_Resolver_joinAs 4 (some .int) ∈ tblG := tb_3 227 rfl rfl
theorem q_3_226 : Cond.instanceMethod y_Resolver_joinAs ∈ tblG := tb_3 226 rfl rfl
theorem q_s_24 : Cond.selects "InferReduce$Resolver" y_Resolver_joinAs y_Resolver_joinAs ∈ tblG := tb_s 24 rfl rfl
theorem q_3_198 : Cond.methodLink "InferReduce$Resolver" 77 y_Resolver_gather ∈ tblG := tb_3 198 rfl rfl
theorem q_3_201 : Cond.code y_Resolver_gather b_Resolver_gather 4 none ∈ tblG := tb_3 201 rfl rfl
theorem q_3_200 : Cond.instanceMethod y_Resolver_gather ∈ tblG := tb_3 200 rfl rfl
theorem q_s_19 : Cond.selects "InferReduce$Resolver" y_Resolver_gather y_Resolver_gather ∈ tblG := tb_s 19 rfl rfl
theorem q_3_204 : Cond.methodLink "InferReduce$Resolver" 84 y_Resolver_outermost ∈ tblG := tb_3 204 rfl rfl
theorem q_3_207 : Cond.code y_Resolver_outermost b_Resolver_outermost 5 (some .int) ∈ tblG := tb_3 207 rfl rfl
theorem q_3_206 : Cond.instanceMethod y_Resolver_outermost ∈ tblG := tb_3 206 rfl rfl
theorem q_s_20 : Cond.selects "InferReduce$Resolver" y_Resolver_outermost y_Resolver_outermost ∈ tblG := tb_s 20 rfl rfl
theorem q_3_210 : Cond.methodLink "InferReduce$Resolver" 87 y_Resolver_joinOfClasses ∈ tblG := tb_3 210 rfl rfl
theorem q_3_213 : Cond.code y_Resolver_joinOfClasses b_Resolver_joinOfClasses 5 (some .int) ∈ tblG := tb_3 213 rfl rfl
theorem q_3_212 : Cond.instanceMethod y_Resolver_joinOfClasses ∈ tblG := tb_3 212 rfl rfl
theorem q_s_21 : Cond.selects "InferReduce$Resolver" y_Resolver_joinOfClasses y_Resolver_joinOfClasses ∈ tblG := tb_s 21 rfl rfl
theorem q_2_55 : Cond.fieldLink "InferReduce$Told" 25 "InferReduce$Told" "size" "I" ∈ tblG := tb_2 55 rfl rfl
theorem q_2_229 : Cond.methodLink "InferReduce$Told" 29 y_Told_hasRoom ∈ tblG := tb_2 229 rfl rfl
theorem q_2_224 : Cond.code y_Told_hasRoom b_Told_hasRoom 1 (some .boolean) ∈ tblG := tb_2 224 rfl rfl
theorem q_1_11 : Cond.initialized "InferReduce$Told" ∈ tblG := tb_1 11 rfl rfl
theorem q_2_222 : Cond.instanceMethod y_Told_hasRoom ∈ tblG := tb_2 222 rfl rfl
theorem q_2_223 : Cond.selects "InferReduce$Told" y_Told_hasRoom y_Told_hasRoom ∈ tblG := tb_2 223 rfl rfl
theorem q_2_51 : Cond.fieldLink "InferReduce$Told" 9 "InferReduce$Told" "sort" "[I" ∈ tblG := tb_2 51 rfl rfl
theorem q_2_52 : Cond.fieldLink "InferReduce$Told" 15 "InferReduce$Told" "left" "[I" ∈ tblG := tb_2 52 rfl rfl
theorem q_2_53 : Cond.fieldLink "InferReduce$Told" 18 "InferReduce$Told" "right" "[I" ∈ tblG := tb_2 53 rfl rfl
theorem q_2_54 : Cond.fieldLink "InferReduce$Told" 21 "InferReduce$Told" "loose" "[Z" ∈ tblG := tb_2 54 rfl rfl
theorem q_3_155 : Cond.methodLink "InferReduce$Told" 33 y_Told_has ∈ tblG := tb_3 155 rfl rfl
theorem q_3_158 : Cond.code y_Told_has b_Told_has 2 (some .boolean) ∈ tblG := tb_3 158 rfl rfl
theorem q_3_156 : Cond.instanceMethod y_Told_has ∈ tblG := tb_3 156 rfl rfl
theorem q_3_157 : Cond.selects "InferReduce$Told" y_Told_has y_Told_has ∈ tblG := tb_3 157 rfl rfl
theorem q_2_69 : Cond.fieldLink "InferReduce" 10 "InferReduce" "classes" "LInferReduce$Classes;" ∈ tblG := tb_2 69 rfl rfl
theorem q_2_107 : Cond.methodLink "InferReduce" 77 y_Classes_add ∈ tblG := tb_2 107 rfl rfl
theorem q_2_110 : Cond.code y_Classes_add b_Classes_add 2 (some .int) ∈ tblG := tb_2 110 rfl rfl
theorem q_2_108 : Cond.instanceMethod y_Classes_add ∈ tblG := tb_2 108 rfl rfl
theorem q_2_109 : Cond.selects "InferReduce$Classes" y_Classes_add y_Classes_add ∈ tblG := tb_2 109 rfl rfl
theorem q_2_70 : Cond.fieldLink "InferReduce" 19 "InferReduce" "types" "LInferReduce$Types;" ∈ tblG := tb_2 70 rfl rfl
theorem q_2_123 : Cond.methodLink "InferReduce" 106 y_Types_kindOf ∈ tblG := tb_2 123 rfl rfl
theorem q_2_127 : Cond.methodLink "InferReduce" 89 y_Types_firstOf ∈ tblG := tb_2 127 rfl rfl
theorem q_2_131 : Cond.methodLink "InferReduce" 231 y_Types_isOfClassesBefore ∈ tblG := tb_2 131 rfl rfl
theorem q_2_134 : Cond.code y_Types_isOfClassesBefore b_Types_isOfClassesBefore 3 (some .boolean) ∈ tblG := tb_2 134 rfl rfl
theorem q_2_132 : Cond.instanceMethod y_Types_isOfClassesBefore ∈ tblG := tb_2 132 rfl rfl
theorem q_2_133 : Cond.selects "InferReduce$Types" y_Types_isOfClassesBefore y_Types_isOfClassesBefore ∈ tblG := tb_2 133 rfl rfl
theorem q_2_135 : Cond.methodLink "InferReduce" 100 y_Classes_parametersOf ∈ tblG := tb_2 135 rfl rfl
theorem q_2_140 : Cond.methodLink "InferReduce" 168 y_Types_secondOf ∈ tblG := tb_2 140 rfl rfl
theorem q_2_144 : Cond.methodLink "InferReduce" 171 y_Types_thirdOf ∈ tblG := tb_2 144 rfl rfl
theorem q_2_148 : Cond.methodLink "InferReduce" 177 y_Types_isProper ∈ tblG := tb_2 148 rfl rfl
theorem q_2_152 : Cond.methodLink "InferReduce" 234 y_Types_ownersIn ∈ tblG := tb_2 152 rfl rfl
theorem q_2_115 : Cond.methodLink "InferReduce" 81 y_Classes_has ∈ tblG := tb_2 115 rfl rfl
theorem q_2_119 : Cond.methodLink "InferReduce" 85 y_I_canBeParent ∈ tblG := tb_2 119 rfl rfl
theorem q_2_122 : Cond.code y_I_canBeParent b_I_canBeParent 5 (some .boolean) ∈ tblG := tb_2 122 rfl rfl
theorem q_1_1 : Cond.initialized "InferReduce" ∈ tblG := tb_1 1 rfl rfl
theorem q_2_121 : Cond.instanceMethod y_I_canBeParent ∈ tblG := tb_2 121 rfl rfl
theorem q_s_0 : Cond.selects "InferReduce" y_I_canBeParent y_I_canBeParent ∈ tblG := tb_s 0 rfl rfl
theorem q_2_157 : Cond.methodLink "InferReduce" 92 y_Classes_addParent ∈ tblG := tb_2 157 rfl rfl
theorem q_2_160 : Cond.code y_Classes_addParent b_Classes_addParent 5 (some .int) ∈ tblG := tb_2 160 rfl rfl
theorem q_2_158 : Cond.instanceMethod y_Classes_addParent ∈ tblG := tb_2 158 rfl rfl
theorem q_2_159 : Cond.selects "InferReduce$Classes" y_Classes_addParent y_Classes_addParent ∈ tblG := tb_2 159 rfl rfl
theorem q_2_169 : Cond.methodLink "InferReduce" 96 y_Types_make ∈ tblG := tb_2 169 rfl rfl
theorem q_2_181 : Cond.methodLink "InferReduce" 109 y_Types_has ∈ tblG := tb_2 181 rfl rfl
theorem q_2_177 : Cond.methodLink "InferReduce" 103 y_I_canBeArgument ∈ tblG := tb_2 177 rfl rfl
theorem q_2_180 : Cond.code y_I_canBeArgument b_I_canBeArgument 3 (some .boolean) ∈ tblG := tb_2 180 rfl rfl
theorem q_2_179 : Cond.instanceMethod y_I_canBeArgument ∈ tblG := tb_2 179 rfl rfl
theorem q_s_2 : Cond.selects "InferReduce" y_I_canBeArgument y_I_canBeArgument ∈ tblG := tb_s 2 rfl rfl
theorem q_2_77 : Cond.fieldLink "InferReduce" 110 "InferReduce" "variables" "I" ∈ tblG := tb_2 77 rfl rfl
theorem q_2_76 : Cond.fieldLink "InferReduce" 30 "InferReduce" "variableTypes" "[I" ∈ tblG := tb_2 76 rfl rfl
theorem q_2_217 : Cond.methodLink "InferReduce" 228 y_Types_variablesIn ∈ tblG := tb_2 217 rfl rfl
theorem q_2_78 : Cond.fieldLink "InferReduce" 116 "InferReduce" "state" "I" ∈ tblG := tb_2 78 rfl rfl
theorem q_2_79 : Cond.fieldLink "InferReduce" 73 "InferReduce" "stateAt" "I" ∈ tblG := tb_2 79 rfl rfl
theorem q_2_213 : Cond.methodLink "InferReduce" 113 y_I_canBeTold ∈ tblG := tb_2 213 rfl rfl
theorem q_2_216 : Cond.code y_I_canBeTold b_I_canBeTold 3 (some .boolean) ∈ tblG := tb_2 216 rfl rfl
theorem q_2_215 : Cond.instanceMethod y_I_canBeTold ∈ tblG := tb_2 215 rfl rfl
theorem q_s_3 : Cond.selects "InferReduce" y_I_canBeTold y_I_canBeTold ∈ tblG := tb_s 3 rfl rfl
theorem q_2_75 : Cond.fieldLink "InferReduce" 69 "InferReduce" "told" "LInferReduce$Told;" ∈ tblG := tb_2 75 rfl rfl
theorem q_2_221 : Cond.methodLink "InferReduce" 119 y_Told_hasRoom ∈ tblG := tb_2 221 rfl rfl
theorem q_2_225 : Cond.methodLink "InferReduce" 123 y_Told_add ∈ tblG := tb_2 225 rfl rfl
theorem q_2_228 : Cond.code y_Told_add b_Told_add 4 (some .int) ∈ tblG := tb_2 228 rfl rfl
theorem q_2_226 : Cond.instanceMethod y_Told_add ∈ tblG := tb_2 226 rfl rfl
theorem q_2_227 : Cond.selects "InferReduce$Told" y_Told_add y_Told_add ∈ tblG := tb_2 227 rfl rfl
theorem q_2_72 : Cond.fieldLink "InferReduce" 44 "InferReduce" "reducer" "LInferReduce$Reducer;" ∈ tblG := tb_2 72 rfl rfl
theorem q_2_230 : Cond.methodLink "InferReduce" 125 y_Reducer_begin ∈ tblG := tb_2 230 rfl rfl
theorem q_2_233 : Cond.code y_Reducer_begin b_Reducer_begin 2 none ∈ tblG := tb_2 233 rfl rfl
theorem q_2_231 : Cond.instanceMethod y_Reducer_begin ∈ tblG := tb_2 231 rfl rfl
theorem q_2_232 : Cond.selects "InferReduce$Reducer" y_Reducer_begin y_Reducer_begin ∈ tblG := tb_2 232 rfl rfl
theorem q_2_234 : Cond.methodLink "InferReduce" 129 y_Reducer_ask ∈ tblG := tb_2 234 rfl rfl
theorem q_2_73 : Cond.fieldLink "InferReduce" 53 "InferReduce" "holder" "LInferReduce$Holder;" ∈ tblG := tb_2 73 rfl rfl
theorem q_3_2 : Cond.methodLink "InferReduce" 132 y_Holder_holdAll ∈ tblG := tb_3 2 rfl rfl
theorem q_3_5 : Cond.code y_Holder_holdAll b_Holder_holdAll 3 (some .int) ∈ tblG := tb_3 5 rfl rfl
theorem q_3_3 : Cond.instanceMethod y_Holder_holdAll ∈ tblG := tb_3 3 rfl rfl
theorem q_3_4 : Cond.selects "InferReduce$Holder" y_Holder_holdAll y_Holder_holdAll ∈ tblG := tb_3 4 rfl rfl
theorem q_1_205 : Cond.fieldLink "InferReduce" 136 "InferReduce$Reducer" "sawUnchecked" "Z" ∈ tblG := tb_1 205 rfl rfl
theorem q_3_159 : Cond.methodLink "InferReduce" 143 y_I_takeState ∈ tblG := tb_3 159 rfl rfl
theorem q_3_162 : Cond.code y_I_takeState b_I_takeState 3 none ∈ tblG := tb_3 162 rfl rfl
theorem q_3_161 : Cond.instanceMethod y_I_takeState ∈ tblG := tb_3 161 rfl rfl
theorem q_s_16 : Cond.selects "InferReduce" y_I_takeState y_I_takeState ∈ tblG := tb_s 16 rfl rfl
theorem q_3_151 : Cond.methodLink "InferReduce" 140 y_Told_markUnchecked ∈ tblG := tb_3 151 rfl rfl
theorem q_3_154 : Cond.code y_Told_markUnchecked b_Told_markUnchecked 2 none ∈ tblG := tb_3 154 rfl rfl
theorem q_3_152 : Cond.instanceMethod y_Told_markUnchecked ∈ tblG := tb_3 152 rfl rfl
theorem q_3_153 : Cond.selects "InferReduce$Told" y_Told_markUnchecked y_Told_markUnchecked ∈ tblG := tb_3 153 rfl rfl
theorem q_2_74 : Cond.fieldLink "InferReduce" 62 "InferReduce" "resolver" "LInferReduce$Resolver;" ∈ tblG := tb_2 74 rfl rfl
theorem q_3_167 : Cond.methodLink "InferReduce" 147 y_Resolver_nextGroup ∈ tblG := tb_3 167 rfl rfl
theorem q_3_170 : Cond.code y_Resolver_nextGroup b_Resolver_nextGroup 6 (some .int) ∈ tblG := tb_3 170 rfl rfl
theorem q_3_168 : Cond.instanceMethod y_Resolver_nextGroup ∈ tblG := tb_3 168 rfl rfl
theorem q_3_169 : Cond.selects "InferReduce$Resolver" y_Resolver_nextGroup y_Resolver_nextGroup ∈ tblG := tb_3 169 rfl rfl
theorem q_3_194 : Cond.methodLink "InferReduce" 150 y_Resolver_choose ∈ tblG := tb_3 194 rfl rfl
theorem q_3_197 : Cond.code y_Resolver_choose b_Resolver_choose 3 (some .int) ∈ tblG := tb_3 197 rfl rfl
theorem q_3_195 : Cond.instanceMethod y_Resolver_choose ∈ tblG := tb_3 195 rfl rfl
theorem q_3_196 : Cond.selects "InferReduce$Resolver" y_Resolver_choose y_Resolver_choose ∈ tblG := tb_3 196 rfl rfl
theorem q_3_235 : Cond.methodLink "InferReduce" 153 y_Resolver_choiceOf ∈ tblG := tb_3 235 rfl rfl
theorem q_3_238 : Cond.code y_Resolver_choiceOf b_Resolver_choiceOf 2 (some .int) ∈ tblG := tb_3 238 rfl rfl
theorem q_3_236 : Cond.instanceMethod y_Resolver_choiceOf ∈ tblG := tb_3 236 rfl rfl
theorem q_3_237 : Cond.selects "InferReduce$Resolver" y_Resolver_choiceOf y_Resolver_choiceOf ∈ tblG := tb_3 237 rfl rfl
theorem q_2_56 : Cond.fieldLink "InferReduce" 156 "InferReduce$Told" "size" "I" ∈ tblG := tb_2 56 rfl rfl
theorem q_2_71 : Cond.fieldLink "InferReduce" 26 "InferReduce" "bounds" "LInferReduce$Bounds;" ∈ tblG := tb_2 71 rfl rfl
theorem q_1_109 : Cond.fieldLink "InferReduce" 159 "InferReduce$Bounds" "size" "I" ∈ tblG := tb_1 109 rfl rfl
theorem q_1_238 : Cond.fieldLink "InferReduce" 160 "InferReduce$Holder" "held" "I" ∈ tblG := tb_1 238 rfl rfl
theorem q_1_201 : Cond.fieldLink "InferReduce" 163 "InferReduce$Reducer" "made" "I" ∈ tblG := tb_1 201 rfl rfl
theorem q_1_36 : Cond.fieldLink "InferReduce" 166 "InferReduce$Classes" "size" "I" ∈ tblG := tb_1 36 rfl rfl
theorem q_1_72 : Cond.fieldLink "InferReduce" 167 "InferReduce$Types" "size" "I" ∈ tblG := tb_1 72 rfl rfl
theorem q_4_11 : Cond.methodLink "InferReduce" 174 y_Types_depthOf ∈ tblG := tb_4 11 rfl rfl
theorem q_4_14 : Cond.code y_Types_depthOf b_Types_depthOf 2 (some .int) ∈ tblG := tb_4 14 rfl rfl
theorem q_4_12 : Cond.instanceMethod y_Types_depthOf ∈ tblG := tb_4 12 rfl rfl
theorem q_4_13 : Cond.selects "InferReduce$Types" y_Types_depthOf y_Types_depthOf ∈ tblG := tb_4 13 rfl rfl
theorem q_4_19 : Cond.methodLink "InferReduce" 180 y_Bounds_has ∈ tblG := tb_4 19 rfl rfl
theorem q_4_22 : Cond.code y_Bounds_has b_Bounds_has 2 (some .boolean) ∈ tblG := tb_4 22 rfl rfl
theorem q_4_20 : Cond.instanceMethod y_Bounds_has ∈ tblG := tb_4 20 rfl rfl
theorem q_4_21 : Cond.selects "InferReduce$Bounds" y_Bounds_has y_Bounds_has ∈ tblG := tb_4 21 rfl rfl
theorem q_4_23 : Cond.methodLink "InferReduce" 181 y_Bounds_sortOf ∈ tblG := tb_4 23 rfl rfl
theorem q_4_24 : Cond.methodLink "InferReduce" 184 y_Bounds_variableOf ∈ tblG := tb_4 24 rfl rfl
theorem q_4_25 : Cond.methodLink "InferReduce" 187 y_Bounds_typeOf ∈ tblG := tb_4 25 rfl rfl
theorem q_4_26 : Cond.methodLink "InferReduce" 190 y_Bounds_originOf ∈ tblG := tb_4 26 rfl rfl
theorem q_4_29 : Cond.code y_Bounds_originOf b_Bounds_originOf 2 (some .int) ∈ tblG := tb_4 29 rfl rfl
theorem q_4_27 : Cond.instanceMethod y_Bounds_originOf ∈ tblG := tb_4 27 rfl rfl
theorem q_4_28 : Cond.selects "InferReduce$Bounds" y_Bounds_originOf y_Bounds_originOf ∈ tblG := tb_4 28 rfl rfl
theorem q_4_34 : Cond.methodLink "InferReduce" 193 y_Bounds_settledAs ∈ tblG := tb_4 34 rfl rfl
theorem q_4_39 : Cond.methodLink "InferReduce" 197 y_Reducer_aboveOf ∈ tblG := tb_4 39 rfl rfl
theorem q_4_44 : Cond.methodLink "InferReduce" 201 y_Told_has ∈ tblG := tb_4 44 rfl rfl
theorem q_4_45 : Cond.methodLink "InferReduce" 202 y_Told_isUnchecked ∈ tblG := tb_4 45 rfl rfl
theorem q_4_48 : Cond.code y_Told_isUnchecked b_Told_isUnchecked 2 (some .boolean) ∈ tblG := tb_4 48 rfl rfl
theorem q_4_46 : Cond.instanceMethod y_Told_isUnchecked ∈ tblG := tb_4 46 rfl rfl
theorem q_4_47 : Cond.selects "InferReduce$Told" y_Told_isUnchecked y_Told_isUnchecked ∈ tblG := tb_4 47 rfl rfl
theorem q_1_198 : Cond.fieldLink "InferReduce" 205 "InferReduce$Reducer" "exchange" "LInferReduce$Exchange;" ∈ tblG := tb_1 198 rfl rfl
theorem q_4_53 : Cond.methodLink "InferReduce" 209 y_Exchange_forVariables ∈ tblG := tb_4 53 rfl rfl
theorem q_4_54 : Cond.methodLink "InferReduce" 212 y_Exchange_setInstead ∈ tblG := tb_4 54 rfl rfl
theorem q_4_55 : Cond.methodLink "InferReduce" 215 y_Told_leftOf ∈ tblG := tb_4 55 rfl rfl
theorem q_4_58 : Cond.code y_Told_leftOf b_Told_leftOf 2 (some .int) ∈ tblG := tb_4 58 rfl rfl
theorem q_4_56 : Cond.instanceMethod y_Told_leftOf ∈ tblG := tb_4 56 rfl rfl
theorem q_4_57 : Cond.selects "InferReduce$Told" y_Told_leftOf y_Told_leftOf ∈ tblG := tb_4 57 rfl rfl
theorem q_4_59 : Cond.methodLink "InferReduce" 218 y_Exchange_put ∈ tblG := tb_4 59 rfl rfl
theorem q_4_60 : Cond.methodLink "InferReduce" 221 y_Told_rightOf ∈ tblG := tb_4 60 rfl rfl
theorem q_4_63 : Cond.code y_Told_rightOf b_Told_rightOf 2 (some .int) ∈ tblG := tb_4 63 rfl rfl
theorem q_4_61 : Cond.instanceMethod y_Told_rightOf ∈ tblG := tb_4 61 rfl rfl
theorem q_4_62 : Cond.selects "InferReduce$Told" y_Told_rightOf y_Told_rightOf ∈ tblG := tb_4 62 rfl rfl
theorem q_4_64 : Cond.methodLink "InferReduce" 224 y_Told_sortOf ∈ tblG := tb_4 64 rfl rfl
theorem q_4_67 : Cond.code y_Told_sortOf b_Told_sortOf 2 (some .int) ∈ tblG := tb_4 67 rfl rfl
theorem q_4_65 : Cond.instanceMethod y_Told_sortOf ∈ tblG := tb_4 65 rfl rfl
theorem q_4_66 : Cond.selects "InferReduce$Told" y_Told_sortOf y_Told_sortOf ∈ tblG := tb_4 66 rfl rfl
theorem q_4_68 : Cond.methodLink "InferReduce" 225 y_Reducer_less ∈ tblG := tb_4 68 rfl rfl
abbrev SX : Type := (Nat → Int32) × (Nat → Nat → Int32) × (Nat → Nat → Int64)
abbrev gX_I_variables (σ : SX) : Int32 := σ.1 0
abbrev sX_I_variables (σ : SX) (v : Int32) : SX := (upd σ.1 0 v, σ.2)
abbrev gX_I_state (σ : SX) : Int32 := σ.1 1
abbrev sX_I_state (σ : SX) (v : Int32) : SX := (upd σ.1 1 v, σ.2)
abbrev gX_I_stateAt (σ : SX) : Int32 := σ.1 2
abbrev sX_I_stateAt (σ : SX) (v : Int32) : SX := (upd σ.1 2 v, σ.2)
abbrev gX_Classes_size (σ : SX) : Int32 := σ.1 3
abbrev sX_Classes_size (σ : SX) (v : Int32) : SX := (upd σ.1 3 v, σ.2)
abbrev gX_Types_size (σ : SX) : Int32 := σ.1 4
abbrev sX_Types_size (σ : SX) (v : Int32) : SX := (upd σ.1 4 v, σ.2)
abbrev gX_Bounds_size (σ : SX) : Int32 := σ.1 5
abbrev sX_Bounds_size (σ : SX) (v : Int32) : SX := (upd σ.1 5 v, σ.2)
abbrev gX_Exchange_stamp (σ : SX) : Int32 := σ.1 6
abbrev sX_Exchange_stamp (σ : SX) (v : Int32) : SX := (upd σ.1 6 v, σ.2)
abbrev gX_Exchange_variables (σ : SX) : Int32 := σ.1 7
abbrev sX_Exchange_variables (σ : SX) (v : Int32) : SX := (upd σ.1 7 v, σ.2)
abbrev gX_Exchange_owner (σ : SX) : Int32 := σ.1 8
abbrev sX_Exchange_owner (σ : SX) (v : Int32) : SX := (upd σ.1 8 v, σ.2)
abbrev gX_Reducer_made (σ : SX) : Int32 := σ.1 9
abbrev sX_Reducer_made (σ : SX) (v : Int32) : SX := (upd σ.1 9 v, σ.2)
abbrev gX_Reducer_madeInCall (σ : SX) : Int32 := σ.1 10
abbrev sX_Reducer_madeInCall (σ : SX) (v : Int32) : SX := (upd σ.1 10 v, σ.2)
abbrev gX_Reducer_origin (σ : SX) : Int32 := σ.1 11
abbrev sX_Reducer_origin (σ : SX) (v : Int32) : SX := (upd σ.1 11 v, σ.2)
abbrev gX_Reducer_sawUnchecked (σ : SX) : Int32 := σ.1 12
abbrev sX_Reducer_sawUnchecked (σ : SX) (v : Int32) : SX := (upd σ.1 12 v, σ.2)
abbrev gX_Work_size (σ : SX) : Int32 := σ.1 13
abbrev sX_Work_size (σ : SX) (v : Int32) : SX := (upd σ.1 13 v, σ.2)
abbrev gX_Work_sort (σ : SX) : Int32 := σ.1 14
abbrev sX_Work_sort (σ : SX) (v : Int32) : SX := (upd σ.1 14 v, σ.2)
abbrev gX_Work_left (σ : SX) : Int32 := σ.1 15
abbrev sX_Work_left (σ : SX) (v : Int32) : SX := (upd σ.1 15 v, σ.2)
abbrev gX_Work_right (σ : SX) : Int32 := σ.1 16
abbrev sX_Work_right (σ : SX) (v : Int32) : SX := (upd σ.1 16 v, σ.2)
abbrev gX_Work_level (σ : SX) : Int32 := σ.1 17
abbrev sX_Work_level (σ : SX) (v : Int32) : SX := (upd σ.1 17 v, σ.2)
abbrev gX_Holder_held (σ : SX) : Int32 := σ.1 18
abbrev sX_Holder_held (σ : SX) (v : Int32) : SX := (upd σ.1 18 v, σ.2)
abbrev gX_Resolver_nearSize (σ : SX) : Int32 := σ.1 19
abbrev sX_Resolver_nearSize (σ : SX) (v : Int32) : SX := (upd σ.1 19 v, σ.2)
abbrev gX_Told_size (σ : SX) : Int32 := σ.1 20
abbrev sX_Told_size (σ : SX) (v : Int32) : SX := (upd σ.1 20 v, σ.2)
abbrev aX_Classes_parameters (σ : SX) : Nat → Int32 := σ.2.1 0
abbrev tX_Classes_parameters (σ : SX) (f : Nat → Int32) : SX := (σ.1, va_up σ.2.1 0 f, σ.2.2)
abbrev aX_Classes_parentCount (σ : SX) : Nat → Int32 := σ.2.1 1
abbrev tX_Classes_parentCount (σ : SX) (f : Nat → Int32) : SX := (σ.1, va_up σ.2.1 1 f, σ.2.2)
abbrev aX_Classes_parentType (σ : SX) : Nat → Int32 := σ.2.1 2
abbrev tX_Classes_parentType (σ : SX) (f : Nat → Int32) : SX := (σ.1, va_up σ.2.1 2 f, σ.2.2)
abbrev aX_Classes_parentClass (σ : SX) : Nat → Int32 := σ.2.1 3
abbrev tX_Classes_parentClass (σ : SX) (f : Nat → Int32) : SX := (σ.1, va_up σ.2.1 3 f, σ.2.2)
abbrev aX_Types_kind (σ : SX) : Nat → Int32 := σ.2.1 4
abbrev tX_Types_kind (σ : SX) (f : Nat → Int32) : SX := (σ.1, va_up σ.2.1 4 f, σ.2.2)
abbrev aX_Types_first (σ : SX) : Nat → Int32 := σ.2.1 5
abbrev tX_Types_first (σ : SX) (f : Nat → Int32) : SX := (σ.1, va_up σ.2.1 5 f, σ.2.2)
abbrev aX_Types_second (σ : SX) : Nat → Int32 := σ.2.1 6
abbrev tX_Types_second (σ : SX) (f : Nat → Int32) : SX := (σ.1, va_up σ.2.1 6 f, σ.2.2)
abbrev aX_Types_third (σ : SX) : Nat → Int32 := σ.2.1 7
abbrev tX_Types_third (σ : SX) (f : Nat → Int32) : SX := (σ.1, va_up σ.2.1 7 f, σ.2.2)
abbrev aX_Types_depth (σ : SX) : Nat → Int32 := σ.2.1 8
abbrev tX_Types_depth (σ : SX) (f : Nat → Int32) : SX := (σ.1, va_up σ.2.1 8 f, σ.2.2)
abbrev aX_Types_variables (σ : SX) : Nat → Int32 := σ.2.1 9
abbrev tX_Types_variables (σ : SX) (f : Nat → Int32) : SX := (σ.1, va_up σ.2.1 9 f, σ.2.2)
abbrev aX_Types_chainFirst (σ : SX) : Nat → Int32 := σ.2.1 10
abbrev tX_Types_chainFirst (σ : SX) (f : Nat → Int32) : SX := (σ.1, va_up σ.2.1 10 f, σ.2.2)
abbrev aX_Types_chainNext (σ : SX) : Nat → Int32 := σ.2.1 11
abbrev tX_Types_chainNext (σ : SX) (f : Nat → Int32) : SX := (σ.1, va_up σ.2.1 11 f, σ.2.2)
abbrev aX_Bounds_sort (σ : SX) : Nat → Int32 := σ.2.1 12
abbrev tX_Bounds_sort (σ : SX) (f : Nat → Int32) : SX := (σ.1, va_up σ.2.1 12 f, σ.2.2)
abbrev aX_Bounds_variable (σ : SX) : Nat → Int32 := σ.2.1 13
abbrev tX_Bounds_variable (σ : SX) (f : Nat → Int32) : SX := (σ.1, va_up σ.2.1 13 f, σ.2.2)
abbrev aX_Bounds_type (σ : SX) : Nat → Int32 := σ.2.1 14
abbrev tX_Bounds_type (σ : SX) (f : Nat → Int32) : SX := (σ.1, va_up σ.2.1 14 f, σ.2.2)
abbrev aX_Bounds_origin (σ : SX) : Nat → Int32 := σ.2.1 15
abbrev tX_Bounds_origin (σ : SX) (f : Nat → Int32) : SX := (σ.1, va_up σ.2.1 15 f, σ.2.2)
abbrev aX_I_variableTypes (σ : SX) : Nat → Int32 := σ.2.1 16
abbrev tX_I_variableTypes (σ : SX) (f : Nat → Int32) : SX := (σ.1, va_up σ.2.1 16 f, σ.2.2)
abbrev aX_Exchange_instead (σ : SX) : Nat → Int32 := σ.2.1 17
abbrev tX_Exchange_instead (σ : SX) (f : Nat → Int32) : SX := (σ.1, va_up σ.2.1 17 f, σ.2.2)
abbrev aX_Exchange_done (σ : SX) : Nat → Int32 := σ.2.1 18
abbrev tX_Exchange_done (σ : SX) (f : Nat → Int32) : SX := (σ.1, va_up σ.2.1 18 f, σ.2.2)
abbrev aX_Exchange_doneAt (σ : SX) : Nat → Int32 := σ.2.1 19
abbrev tX_Exchange_doneAt (σ : SX) (f : Nat → Int32) : SX := (σ.1, va_up σ.2.1 19 f, σ.2.2)
abbrev aX_Work_sorts (σ : SX) : Nat → Int32 := σ.2.1 20
abbrev tX_Work_sorts (σ : SX) (f : Nat → Int32) : SX := (σ.1, va_up σ.2.1 20 f, σ.2.2)
abbrev aX_Work_lefts (σ : SX) : Nat → Int32 := σ.2.1 21
abbrev tX_Work_lefts (σ : SX) (f : Nat → Int32) : SX := (σ.1, va_up σ.2.1 21 f, σ.2.2)
abbrev aX_Work_rights (σ : SX) : Nat → Int32 := σ.2.1 22
abbrev tX_Work_rights (σ : SX) (f : Nat → Int32) : SX := (σ.1, va_up σ.2.1 22 f, σ.2.2)
abbrev aX_Work_levels (σ : SX) : Nat → Int32 := σ.2.1 23
abbrev tX_Work_levels (σ : SX) (f : Nat → Int32) : SX := (σ.1, va_up σ.2.1 23 f, σ.2.2)
abbrev aX_Resolver_near (σ : SX) : Nat → Int32 := σ.2.1 24
abbrev tX_Resolver_near (σ : SX) (f : Nat → Int32) : SX := (σ.1, va_up σ.2.1 24 f, σ.2.2)
abbrev aX_Resolver_links (σ : SX) : Nat → Int32 := σ.2.1 25
abbrev tX_Resolver_links (σ : SX) (f : Nat → Int32) : SX := (σ.1, va_up σ.2.1 25 f, σ.2.2)
abbrev aX_Resolver_choices (σ : SX) : Nat → Int32 := σ.2.1 26
abbrev tX_Resolver_choices (σ : SX) (f : Nat → Int32) : SX := (σ.1, va_up σ.2.1 26 f, σ.2.2)
abbrev aX_Told_sort (σ : SX) : Nat → Int32 := σ.2.1 27
abbrev tX_Told_sort (σ : SX) (f : Nat → Int32) : SX := (σ.1, va_up σ.2.1 27 f, σ.2.2)
abbrev aX_Told_left (σ : SX) : Nat → Int32 := σ.2.1 28
abbrev tX_Told_left (σ : SX) (f : Nat → Int32) : SX := (σ.1, va_up σ.2.1 28 f, σ.2.2)
abbrev aX_Told_right (σ : SX) : Nat → Int32 := σ.2.1 29
abbrev tX_Told_right (σ : SX) (f : Nat → Int32) : SX := (σ.1, va_up σ.2.1 29 f, σ.2.2)
abbrev aX_Told_loose (σ : SX) : Nat → Int32 := σ.2.1 30
abbrev tX_Told_loose (σ : SX) (f : Nat → Int32) : SX := (σ.1, va_up σ.2.1 30 f, σ.2.2)
abbrev aX_Classes_reach (σ : SX) : Nat → Int64 := σ.2.2 0
abbrev tX_Classes_reach (σ : SX) (f : Nat → Int64) : SX := (σ.1, σ.2.1, va_up σ.2.2 0 f)
abbrev aX_Types_owners (σ : SX) : Nat → Int64 := σ.2.2 1
abbrev tX_Types_owners (σ : SX) (f : Nat → Int64) : SX := (σ.1, σ.2.1, va_up σ.2.2 1 f)
abbrev aX_Types_named (σ : SX) : Nat → Int64 := σ.2.2 2
abbrev tX_Types_named (σ : SX) (f : Nat → Int64) : SX := (σ.1, σ.2.1, va_up σ.2.2 2 f)
def wX (ad : Nat → Nat) (cA : Nat → ClassId) (σ : SX) : va_W := [(ad 0, .inr (9, [.ref (ad 1), .ref (ad 7), .ref (ad 18), .ref (ad 28), .ref (ad 34), .ref (ad 35), .ref (ad 39), .ref (ad 23), .int (σ.1 0), .int (σ.1 1), .int (σ.1 2)])),
  (ad 1, .inr (1, [.ref (ad 2), .ref (ad 3), .ref (ad 4), .ref (ad 5), .ref (ad 6), .int (σ.1 3)])),
  (ad 2, .inl (cA 0, 40, .inl (σ.2.1 0))),
  (ad 3, .inl (cA 1, 40, .inl (σ.2.1 1))),
  (ad 4, .inl (cA 2, 120, .inl (σ.2.1 2))),
  (ad 5, .inl (cA 3, 120, .inl (σ.2.1 3))),
  (ad 6, .inl (cA 4, 40, .inr (.inl (σ.2.2 0)))),
  (ad 7, .inr (7, [.ref (ad 8), .ref (ad 9), .ref (ad 10), .ref (ad 11), .ref (ad 12), .ref (ad 13), .ref (ad 14), .ref (ad 15), .ref (ad 16), .ref (ad 17), .int (σ.1 4)])),
  (ad 8, .inl (cA 5, 500, .inl (σ.2.1 4))),
  (ad 9, .inl (cA 6, 500, .inl (σ.2.1 5))),
  (ad 10, .inl (cA 7, 500, .inl (σ.2.1 6))),
  (ad 11, .inl (cA 8, 500, .inl (σ.2.1 7))),
  (ad 12, .inl (cA 9, 500, .inl (σ.2.1 8))),
  (ad 13, .inl (cA 10, 500, .inl (σ.2.1 9))),
  (ad 14, .inl (cA 11, 500, .inr (.inl (σ.2.2 1)))),
  (ad 15, .inl (cA 12, 500, .inr (.inl (σ.2.2 2)))),
  (ad 16, .inl (cA 13, 128, .inl (σ.2.1 10))),
  (ad 17, .inl (cA 14, 500, .inl (σ.2.1 11))),
  (ad 18, .inr (0, [.ref (ad 19), .ref (ad 20), .ref (ad 21), .ref (ad 22), .int (σ.1 5)])),
  (ad 19, .inl (cA 15, 200, .inl (σ.2.1 12))),
  (ad 20, .inl (cA 16, 200, .inl (σ.2.1 13))),
  (ad 21, .inl (cA 17, 200, .inl (σ.2.1 14))),
  (ad 22, .inl (cA 18, 200, .inl (σ.2.1 15))),
  (ad 23, .inl (cA 19, 12, .inl (σ.2.1 16))),
  (ad 24, .inr (2, [.ref (ad 7), .ref (ad 25), .ref (ad 26), .ref (ad 27), .int (σ.1 6), .int (σ.1 7), .int (σ.1 8)])),
  (ad 25, .inl (cA 20, 12, .inl (σ.2.1 17))),
  (ad 26, .inl (cA 21, 500, .inl (σ.2.1 18))),
  (ad 27, .inl (cA 22, 500, .inl (σ.2.1 19))),
  (ad 28, .inr (4, [.ref (ad 1), .ref (ad 7), .ref (ad 18), .ref (ad 24), .ref (ad 29), .int (σ.1 9), .int (σ.1 10), .int (σ.1 11), .int (σ.1 12)])),
  (ad 29, .inr (8, [.ref (ad 30), .ref (ad 31), .ref (ad 32), .ref (ad 33), .int (σ.1 13), .int (σ.1 14), .int (σ.1 15), .int (σ.1 16), .int (σ.1 17)])),
  (ad 30, .inl (cA 23, 120, .inl (σ.2.1 20))),
  (ad 31, .inl (cA 24, 120, .inl (σ.2.1 21))),
  (ad 32, .inl (cA 25, 120, .inl (σ.2.1 22))),
  (ad 33, .inl (cA 26, 120, .inl (σ.2.1 23))),
  (ad 34, .inr (3, [.ref (ad 1), .ref (ad 7), .ref (ad 18), .ref (ad 24), .ref (ad 28), .ref (ad 23), .int (σ.1 18)])),
  (ad 35, .inr (5, [.ref (ad 1), .ref (ad 7), .ref (ad 18), .ref (ad 28), .ref (ad 36), .int (σ.1 19), .ref (ad 37), .ref (ad 38)])),
  (ad 36, .inl (cA 27, 200, .inl (σ.2.1 24))),
  (ad 37, .inl (cA 28, 12, .inl (σ.2.1 25))),
  (ad 38, .inl (cA 29, 12, .inl (σ.2.1 26))),
  (ad 39, .inr (6, [.ref (ad 40), .ref (ad 41), .ref (ad 42), .ref (ad 43), .int (σ.1 20)])),
  (ad 40, .inl (cA 30, 60, .inl (σ.2.1 27))),
  (ad 41, .inl (cA 31, 60, .inl (σ.2.1 28))),
  (ad 42, .inl (cA 32, 60, .inl (σ.2.1 29))),
  (ad 43, .inl (cA 33, 60, .inl (σ.2.1 30)))]
def tysX (cA : Nat → ClassId) : List (ClassId × FieldType) := [(cA 0, .int), (cA 1, .int), (cA 2, .int), (cA 3, .int), (cA 4, .long), (cA 5, .int), (cA 6, .int), (cA 7, .int), (cA 8, .int), (cA 9, .int), (cA 10, .int), (cA 11, .long), (cA 12, .long), (cA 13, .int), (cA 14, .int), (cA 15, .int), (cA 16, .int), (cA 17, .int), (cA 18, .int), (cA 19, .int), (cA 20, .int), (cA 21, .int), (cA 22, .int), (cA 23, .int), (cA 24, .int), (cA 25, .int), (cA 26, .int), (cA 27, .int), (cA 28, .int), (cA 29, .int), (cA 30, .int), (cA 31, .int), (cA 32, .int), (cA 33, .boolean)]
abbrev clX : List vw_C := clA
theorem wX_0 (ad : Nat → Nat) (cA : Nat → ClassId) (σ : SX) : (wX ad cA σ)[0]? = some (ad 0, .inr (9, [.ref (ad 1), .ref (ad 7), .ref (ad 18), .ref (ad 28), .ref (ad 34), .ref (ad 35), .ref (ad 39), .ref (ad 23), .int (σ.1 0), .int (σ.1 1), .int (σ.1 2)])) := rfl
theorem pX_0_8 (ad : Nat → Nat) (cA : Nat → ClassId) (σ : SX) (v : Int32) : (wX ad cA σ).set 0 (ad 0, .inr (9, ([.ref (ad 1), .ref (ad 7), .ref (ad 18), .ref (ad 28), .ref (ad 34), .ref (ad 35), .ref (ad 39), .ref (ad 23), .int (σ.1 0), .int (σ.1 1), .int (σ.1 2)] : List Value).set 8 (.int v))) = wX ad cA (sX_I_variables σ v) := rfl
theorem pX_0_9 (ad : Nat → Nat) (cA : Nat → ClassId) (σ : SX) (v : Int32) : (wX ad cA σ).set 0 (ad 0, .inr (9, ([.ref (ad 1), .ref (ad 7), .ref (ad 18), .ref (ad 28), .ref (ad 34), .ref (ad 35), .ref (ad 39), .ref (ad 23), .int (σ.1 0), .int (σ.1 1), .int (σ.1 2)] : List Value).set 9 (.int v))) = wX ad cA (sX_I_state σ v) := rfl
theorem pX_0_10 (ad : Nat → Nat) (cA : Nat → ClassId) (σ : SX) (v : Int32) : (wX ad cA σ).set 0 (ad 0, .inr (9, ([.ref (ad 1), .ref (ad 7), .ref (ad 18), .ref (ad 28), .ref (ad 34), .ref (ad 35), .ref (ad 39), .ref (ad 23), .int (σ.1 0), .int (σ.1 1), .int (σ.1 2)] : List Value).set 10 (.int v))) = wX ad cA (sX_I_stateAt σ v) := rfl
theorem wX_1 (ad : Nat → Nat) (cA : Nat → ClassId) (σ : SX) : (wX ad cA σ)[1]? = some (ad 1, .inr (1, [.ref (ad 2), .ref (ad 3), .ref (ad 4), .ref (ad 5), .ref (ad 6), .int (σ.1 3)])) := rfl
theorem pX_1_5 (ad : Nat → Nat) (cA : Nat → ClassId) (σ : SX) (v : Int32) : (wX ad cA σ).set 1 (ad 1, .inr (1, ([.ref (ad 2), .ref (ad 3), .ref (ad 4), .ref (ad 5), .ref (ad 6), .int (σ.1 3)] : List Value).set 5 (.int v))) = wX ad cA (sX_Classes_size σ v) := rfl
theorem wX_2 (ad : Nat → Nat) (cA : Nat → ClassId) (σ : SX) : (wX ad cA σ)[2]? = some (ad 2, .inl (cA 0, 40, .inl (σ.2.1 0))) := rfl
theorem uX_2 (ad : Nat → Nat) (cA : Nat → ClassId) (σ : SX) (f : Nat → Int32) : (wX ad cA σ).set 2 (ad 2, .inl (cA 0, 40, .inl f)) = wX ad cA (tX_Classes_parameters σ f) := rfl
theorem wX_3 (ad : Nat → Nat) (cA : Nat → ClassId) (σ : SX) : (wX ad cA σ)[3]? = some (ad 3, .inl (cA 1, 40, .inl (σ.2.1 1))) := rfl
theorem uX_3 (ad : Nat → Nat) (cA : Nat → ClassId) (σ : SX) (f : Nat → Int32) : (wX ad cA σ).set 3 (ad 3, .inl (cA 1, 40, .inl f)) = wX ad cA (tX_Classes_parentCount σ f) := rfl
theorem wX_4 (ad : Nat → Nat) (cA : Nat → ClassId) (σ : SX) : (wX ad cA σ)[4]? = some (ad 4, .inl (cA 2, 120, .inl (σ.2.1 2))) := rfl
theorem uX_4 (ad : Nat → Nat) (cA : Nat → ClassId) (σ : SX) (f : Nat → Int32) : (wX ad cA σ).set 4 (ad 4, .inl (cA 2, 120, .inl f)) = wX ad cA (tX_Classes_parentType σ f) := rfl
theorem wX_5 (ad : Nat → Nat) (cA : Nat → ClassId) (σ : SX) : (wX ad cA σ)[5]? = some (ad 5, .inl (cA 3, 120, .inl (σ.2.1 3))) := rfl
theorem uX_5 (ad : Nat → Nat) (cA : Nat → ClassId) (σ : SX) (f : Nat → Int32) : (wX ad cA σ).set 5 (ad 5, .inl (cA 3, 120, .inl f)) = wX ad cA (tX_Classes_parentClass σ f) := rfl
theorem wX_6 (ad : Nat → Nat) (cA : Nat → ClassId) (σ : SX) : (wX ad cA σ)[6]? = some (ad 6, .inl (cA 4, 40, .inr (.inl (σ.2.2 0)))) := rfl
theorem uX_6 (ad : Nat → Nat) (cA : Nat → ClassId) (σ : SX) (f : Nat → Int64) : (wX ad cA σ).set 6 (ad 6, .inl (cA 4, 40, .inr (.inl f))) = wX ad cA (tX_Classes_reach σ f) := rfl
theorem wX_7 (ad : Nat → Nat) (cA : Nat → ClassId) (σ : SX) : (wX ad cA σ)[7]? = some (ad 7, .inr (7, [.ref (ad 8), .ref (ad 9), .ref (ad 10), .ref (ad 11), .ref (ad 12), .ref (ad 13), .ref (ad 14), .ref (ad 15), .ref (ad 16), .ref (ad 17), .int (σ.1 4)])) := rfl
theorem pX_7_10 (ad : Nat → Nat) (cA : Nat → ClassId) (σ : SX) (v : Int32) : (wX ad cA σ).set 7 (ad 7, .inr (7, ([.ref (ad 8), .ref (ad 9), .ref (ad 10), .ref (ad 11), .ref (ad 12), .ref (ad 13), .ref (ad 14), .ref (ad 15), .ref (ad 16), .ref (ad 17), .int (σ.1 4)] : List Value).set 10 (.int v))) = wX ad cA (sX_Types_size σ v) := rfl
theorem wX_8 (ad : Nat → Nat) (cA : Nat → ClassId) (σ : SX) : (wX ad cA σ)[8]? = some (ad 8, .inl (cA 5, 500, .inl (σ.2.1 4))) := rfl
theorem uX_8 (ad : Nat → Nat) (cA : Nat → ClassId) (σ : SX) (f : Nat → Int32) : (wX ad cA σ).set 8 (ad 8, .inl (cA 5, 500, .inl f)) = wX ad cA (tX_Types_kind σ f) := rfl
theorem wX_9 (ad : Nat → Nat) (cA : Nat → ClassId) (σ : SX) : (wX ad cA σ)[9]? = some (ad 9, .inl (cA 6, 500, .inl (σ.2.1 5))) := rfl
theorem uX_9 (ad : Nat → Nat) (cA : Nat → ClassId) (σ : SX) (f : Nat → Int32) : (wX ad cA σ).set 9 (ad 9, .inl (cA 6, 500, .inl f)) = wX ad cA (tX_Types_first σ f) := rfl
theorem wX_10 (ad : Nat → Nat) (cA : Nat → ClassId) (σ : SX) : (wX ad cA σ)[10]? = some (ad 10, .inl (cA 7, 500, .inl (σ.2.1 6))) := rfl
theorem uX_10 (ad : Nat → Nat) (cA : Nat → ClassId) (σ : SX) (f : Nat → Int32) : (wX ad cA σ).set 10 (ad 10, .inl (cA 7, 500, .inl f)) = wX ad cA (tX_Types_second σ f) := rfl
theorem wX_11 (ad : Nat → Nat) (cA : Nat → ClassId) (σ : SX) : (wX ad cA σ)[11]? = some (ad 11, .inl (cA 8, 500, .inl (σ.2.1 7))) := rfl
theorem uX_11 (ad : Nat → Nat) (cA : Nat → ClassId) (σ : SX) (f : Nat → Int32) : (wX ad cA σ).set 11 (ad 11, .inl (cA 8, 500, .inl f)) = wX ad cA (tX_Types_third σ f) := rfl
theorem wX_12 (ad : Nat → Nat) (cA : Nat → ClassId) (σ : SX) : (wX ad cA σ)[12]? = some (ad 12, .inl (cA 9, 500, .inl (σ.2.1 8))) := rfl
theorem uX_12 (ad : Nat → Nat) (cA : Nat → ClassId) (σ : SX) (f : Nat → Int32) : (wX ad cA σ).set 12 (ad 12, .inl (cA 9, 500, .inl f)) = wX ad cA (tX_Types_depth σ f) := rfl
theorem wX_13 (ad : Nat → Nat) (cA : Nat → ClassId) (σ : SX) : (wX ad cA σ)[13]? = some (ad 13, .inl (cA 10, 500, .inl (σ.2.1 9))) := rfl
theorem uX_13 (ad : Nat → Nat) (cA : Nat → ClassId) (σ : SX) (f : Nat → Int32) : (wX ad cA σ).set 13 (ad 13, .inl (cA 10, 500, .inl f)) = wX ad cA (tX_Types_variables σ f) := rfl
theorem wX_14 (ad : Nat → Nat) (cA : Nat → ClassId) (σ : SX) : (wX ad cA σ)[14]? = some (ad 14, .inl (cA 11, 500, .inr (.inl (σ.2.2 1)))) := rfl
theorem uX_14 (ad : Nat → Nat) (cA : Nat → ClassId) (σ : SX) (f : Nat → Int64) : (wX ad cA σ).set 14 (ad 14, .inl (cA 11, 500, .inr (.inl f))) = wX ad cA (tX_Types_owners σ f) := rfl
theorem wX_15 (ad : Nat → Nat) (cA : Nat → ClassId) (σ : SX) : (wX ad cA σ)[15]? = some (ad 15, .inl (cA 12, 500, .inr (.inl (σ.2.2 2)))) := rfl
theorem uX_15 (ad : Nat → Nat) (cA : Nat → ClassId) (σ : SX) (f : Nat → Int64) : (wX ad cA σ).set 15 (ad 15, .inl (cA 12, 500, .inr (.inl f))) = wX ad cA (tX_Types_named σ f) := rfl
theorem wX_16 (ad : Nat → Nat) (cA : Nat → ClassId) (σ : SX) : (wX ad cA σ)[16]? = some (ad 16, .inl (cA 13, 128, .inl (σ.2.1 10))) := rfl
theorem uX_16 (ad : Nat → Nat) (cA : Nat → ClassId) (σ : SX) (f : Nat → Int32) : (wX ad cA σ).set 16 (ad 16, .inl (cA 13, 128, .inl f)) = wX ad cA (tX_Types_chainFirst σ f) := rfl
theorem wX_17 (ad : Nat → Nat) (cA : Nat → ClassId) (σ : SX) : (wX ad cA σ)[17]? = some (ad 17, .inl (cA 14, 500, .inl (σ.2.1 11))) := rfl
theorem uX_17 (ad : Nat → Nat) (cA : Nat → ClassId) (σ : SX) (f : Nat → Int32) : (wX ad cA σ).set 17 (ad 17, .inl (cA 14, 500, .inl f)) = wX ad cA (tX_Types_chainNext σ f) := rfl
theorem wX_18 (ad : Nat → Nat) (cA : Nat → ClassId) (σ : SX) : (wX ad cA σ)[18]? = some (ad 18, .inr (0, [.ref (ad 19), .ref (ad 20), .ref (ad 21), .ref (ad 22), .int (σ.1 5)])) := rfl
theorem pX_18_4 (ad : Nat → Nat) (cA : Nat → ClassId) (σ : SX) (v : Int32) : (wX ad cA σ).set 18 (ad 18, .inr (0, ([.ref (ad 19), .ref (ad 20), .ref (ad 21), .ref (ad 22), .int (σ.1 5)] : List Value).set 4 (.int v))) = wX ad cA (sX_Bounds_size σ v) := rfl
theorem wX_19 (ad : Nat → Nat) (cA : Nat → ClassId) (σ : SX) : (wX ad cA σ)[19]? = some (ad 19, .inl (cA 15, 200, .inl (σ.2.1 12))) := rfl
theorem uX_19 (ad : Nat → Nat) (cA : Nat → ClassId) (σ : SX) (f : Nat → Int32) : (wX ad cA σ).set 19 (ad 19, .inl (cA 15, 200, .inl f)) = wX ad cA (tX_Bounds_sort σ f) := rfl
theorem wX_20 (ad : Nat → Nat) (cA : Nat → ClassId) (σ : SX) : (wX ad cA σ)[20]? = some (ad 20, .inl (cA 16, 200, .inl (σ.2.1 13))) := rfl
theorem uX_20 (ad : Nat → Nat) (cA : Nat → ClassId) (σ : SX) (f : Nat → Int32) : (wX ad cA σ).set 20 (ad 20, .inl (cA 16, 200, .inl f)) = wX ad cA (tX_Bounds_variable σ f) := rfl
theorem wX_21 (ad : Nat → Nat) (cA : Nat → ClassId) (σ : SX) : (wX ad cA σ)[21]? = some (ad 21, .inl (cA 17, 200, .inl (σ.2.1 14))) := rfl
theorem uX_21 (ad : Nat → Nat) (cA : Nat → ClassId) (σ : SX) (f : Nat → Int32) : (wX ad cA σ).set 21 (ad 21, .inl (cA 17, 200, .inl f)) = wX ad cA (tX_Bounds_type σ f) := rfl
theorem wX_22 (ad : Nat → Nat) (cA : Nat → ClassId) (σ : SX) : (wX ad cA σ)[22]? = some (ad 22, .inl (cA 18, 200, .inl (σ.2.1 15))) := rfl
theorem uX_22 (ad : Nat → Nat) (cA : Nat → ClassId) (σ : SX) (f : Nat → Int32) : (wX ad cA σ).set 22 (ad 22, .inl (cA 18, 200, .inl f)) = wX ad cA (tX_Bounds_origin σ f) := rfl
theorem wX_23 (ad : Nat → Nat) (cA : Nat → ClassId) (σ : SX) : (wX ad cA σ)[23]? = some (ad 23, .inl (cA 19, 12, .inl (σ.2.1 16))) := rfl
theorem uX_23 (ad : Nat → Nat) (cA : Nat → ClassId) (σ : SX) (f : Nat → Int32) : (wX ad cA σ).set 23 (ad 23, .inl (cA 19, 12, .inl f)) = wX ad cA (tX_I_variableTypes σ f) := rfl
theorem wX_24 (ad : Nat → Nat) (cA : Nat → ClassId) (σ : SX) : (wX ad cA σ)[24]? = some (ad 24, .inr (2, [.ref (ad 7), .ref (ad 25), .ref (ad 26), .ref (ad 27), .int (σ.1 6), .int (σ.1 7), .int (σ.1 8)])) := rfl
theorem pX_24_4 (ad : Nat → Nat) (cA : Nat → ClassId) (σ : SX) (v : Int32) : (wX ad cA σ).set 24 (ad 24, .inr (2, ([.ref (ad 7), .ref (ad 25), .ref (ad 26), .ref (ad 27), .int (σ.1 6), .int (σ.1 7), .int (σ.1 8)] : List Value).set 4 (.int v))) = wX ad cA (sX_Exchange_stamp σ v) := rfl
theorem pX_24_5 (ad : Nat → Nat) (cA : Nat → ClassId) (σ : SX) (v : Int32) : (wX ad cA σ).set 24 (ad 24, .inr (2, ([.ref (ad 7), .ref (ad 25), .ref (ad 26), .ref (ad 27), .int (σ.1 6), .int (σ.1 7), .int (σ.1 8)] : List Value).set 5 (.int v))) = wX ad cA (sX_Exchange_variables σ v) := rfl
theorem pX_24_6 (ad : Nat → Nat) (cA : Nat → ClassId) (σ : SX) (v : Int32) : (wX ad cA σ).set 24 (ad 24, .inr (2, ([.ref (ad 7), .ref (ad 25), .ref (ad 26), .ref (ad 27), .int (σ.1 6), .int (σ.1 7), .int (σ.1 8)] : List Value).set 6 (.int v))) = wX ad cA (sX_Exchange_owner σ v) := rfl
theorem wX_25 (ad : Nat → Nat) (cA : Nat → ClassId) (σ : SX) : (wX ad cA σ)[25]? = some (ad 25, .inl (cA 20, 12, .inl (σ.2.1 17))) := rfl
theorem uX_25 (ad : Nat → Nat) (cA : Nat → ClassId) (σ : SX) (f : Nat → Int32) : (wX ad cA σ).set 25 (ad 25, .inl (cA 20, 12, .inl f)) = wX ad cA (tX_Exchange_instead σ f) := rfl
theorem wX_26 (ad : Nat → Nat) (cA : Nat → ClassId) (σ : SX) : (wX ad cA σ)[26]? = some (ad 26, .inl (cA 21, 500, .inl (σ.2.1 18))) := rfl
theorem uX_26 (ad : Nat → Nat) (cA : Nat → ClassId) (σ : SX) (f : Nat → Int32) : (wX ad cA σ).set 26 (ad 26, .inl (cA 21, 500, .inl f)) = wX ad cA (tX_Exchange_done σ f) := rfl
theorem wX_27 (ad : Nat → Nat) (cA : Nat → ClassId) (σ : SX) : (wX ad cA σ)[27]? = some (ad 27, .inl (cA 22, 500, .inl (σ.2.1 19))) := rfl
theorem uX_27 (ad : Nat → Nat) (cA : Nat → ClassId) (σ : SX) (f : Nat → Int32) : (wX ad cA σ).set 27 (ad 27, .inl (cA 22, 500, .inl f)) = wX ad cA (tX_Exchange_doneAt σ f) := rfl
theorem wX_28 (ad : Nat → Nat) (cA : Nat → ClassId) (σ : SX) : (wX ad cA σ)[28]? = some (ad 28, .inr (4, [.ref (ad 1), .ref (ad 7), .ref (ad 18), .ref (ad 24), .ref (ad 29), .int (σ.1 9), .int (σ.1 10), .int (σ.1 11), .int (σ.1 12)])) := rfl
theorem pX_28_5 (ad : Nat → Nat) (cA : Nat → ClassId) (σ : SX) (v : Int32) : (wX ad cA σ).set 28 (ad 28, .inr (4, ([.ref (ad 1), .ref (ad 7), .ref (ad 18), .ref (ad 24), .ref (ad 29), .int (σ.1 9), .int (σ.1 10), .int (σ.1 11), .int (σ.1 12)] : List Value).set 5 (.int v))) = wX ad cA (sX_Reducer_made σ v) := rfl
theorem pX_28_6 (ad : Nat → Nat) (cA : Nat → ClassId) (σ : SX) (v : Int32) : (wX ad cA σ).set 28 (ad 28, .inr (4, ([.ref (ad 1), .ref (ad 7), .ref (ad 18), .ref (ad 24), .ref (ad 29), .int (σ.1 9), .int (σ.1 10), .int (σ.1 11), .int (σ.1 12)] : List Value).set 6 (.int v))) = wX ad cA (sX_Reducer_madeInCall σ v) := rfl
theorem pX_28_7 (ad : Nat → Nat) (cA : Nat → ClassId) (σ : SX) (v : Int32) : (wX ad cA σ).set 28 (ad 28, .inr (4, ([.ref (ad 1), .ref (ad 7), .ref (ad 18), .ref (ad 24), .ref (ad 29), .int (σ.1 9), .int (σ.1 10), .int (σ.1 11), .int (σ.1 12)] : List Value).set 7 (.int v))) = wX ad cA (sX_Reducer_origin σ v) := rfl
theorem pX_28_8 (ad : Nat → Nat) (cA : Nat → ClassId) (σ : SX) (v : Int32) : (wX ad cA σ).set 28 (ad 28, .inr (4, ([.ref (ad 1), .ref (ad 7), .ref (ad 18), .ref (ad 24), .ref (ad 29), .int (σ.1 9), .int (σ.1 10), .int (σ.1 11), .int (σ.1 12)] : List Value).set 8 (.int v))) = wX ad cA (sX_Reducer_sawUnchecked σ v) := rfl
theorem wX_29 (ad : Nat → Nat) (cA : Nat → ClassId) (σ : SX) : (wX ad cA σ)[29]? = some (ad 29, .inr (8, [.ref (ad 30), .ref (ad 31), .ref (ad 32), .ref (ad 33), .int (σ.1 13), .int (σ.1 14), .int (σ.1 15), .int (σ.1 16), .int (σ.1 17)])) := rfl
theorem pX_29_4 (ad : Nat → Nat) (cA : Nat → ClassId) (σ : SX) (v : Int32) : (wX ad cA σ).set 29 (ad 29, .inr (8, ([.ref (ad 30), .ref (ad 31), .ref (ad 32), .ref (ad 33), .int (σ.1 13), .int (σ.1 14), .int (σ.1 15), .int (σ.1 16), .int (σ.1 17)] : List Value).set 4 (.int v))) = wX ad cA (sX_Work_size σ v) := rfl
theorem pX_29_5 (ad : Nat → Nat) (cA : Nat → ClassId) (σ : SX) (v : Int32) : (wX ad cA σ).set 29 (ad 29, .inr (8, ([.ref (ad 30), .ref (ad 31), .ref (ad 32), .ref (ad 33), .int (σ.1 13), .int (σ.1 14), .int (σ.1 15), .int (σ.1 16), .int (σ.1 17)] : List Value).set 5 (.int v))) = wX ad cA (sX_Work_sort σ v) := rfl
theorem pX_29_6 (ad : Nat → Nat) (cA : Nat → ClassId) (σ : SX) (v : Int32) : (wX ad cA σ).set 29 (ad 29, .inr (8, ([.ref (ad 30), .ref (ad 31), .ref (ad 32), .ref (ad 33), .int (σ.1 13), .int (σ.1 14), .int (σ.1 15), .int (σ.1 16), .int (σ.1 17)] : List Value).set 6 (.int v))) = wX ad cA (sX_Work_left σ v) := rfl
theorem pX_29_7 (ad : Nat → Nat) (cA : Nat → ClassId) (σ : SX) (v : Int32) : (wX ad cA σ).set 29 (ad 29, .inr (8, ([.ref (ad 30), .ref (ad 31), .ref (ad 32), .ref (ad 33), .int (σ.1 13), .int (σ.1 14), .int (σ.1 15), .int (σ.1 16), .int (σ.1 17)] : List Value).set 7 (.int v))) = wX ad cA (sX_Work_right σ v) := rfl
theorem pX_29_8 (ad : Nat → Nat) (cA : Nat → ClassId) (σ : SX) (v : Int32) : (wX ad cA σ).set 29 (ad 29, .inr (8, ([.ref (ad 30), .ref (ad 31), .ref (ad 32), .ref (ad 33), .int (σ.1 13), .int (σ.1 14), .int (σ.1 15), .int (σ.1 16), .int (σ.1 17)] : List Value).set 8 (.int v))) = wX ad cA (sX_Work_level σ v) := rfl
theorem wX_30 (ad : Nat → Nat) (cA : Nat → ClassId) (σ : SX) : (wX ad cA σ)[30]? = some (ad 30, .inl (cA 23, 120, .inl (σ.2.1 20))) := rfl
theorem uX_30 (ad : Nat → Nat) (cA : Nat → ClassId) (σ : SX) (f : Nat → Int32) : (wX ad cA σ).set 30 (ad 30, .inl (cA 23, 120, .inl f)) = wX ad cA (tX_Work_sorts σ f) := rfl
theorem wX_31 (ad : Nat → Nat) (cA : Nat → ClassId) (σ : SX) : (wX ad cA σ)[31]? = some (ad 31, .inl (cA 24, 120, .inl (σ.2.1 21))) := rfl
theorem uX_31 (ad : Nat → Nat) (cA : Nat → ClassId) (σ : SX) (f : Nat → Int32) : (wX ad cA σ).set 31 (ad 31, .inl (cA 24, 120, .inl f)) = wX ad cA (tX_Work_lefts σ f) := rfl
theorem wX_32 (ad : Nat → Nat) (cA : Nat → ClassId) (σ : SX) : (wX ad cA σ)[32]? = some (ad 32, .inl (cA 25, 120, .inl (σ.2.1 22))) := rfl
theorem uX_32 (ad : Nat → Nat) (cA : Nat → ClassId) (σ : SX) (f : Nat → Int32) : (wX ad cA σ).set 32 (ad 32, .inl (cA 25, 120, .inl f)) = wX ad cA (tX_Work_rights σ f) := rfl
theorem wX_33 (ad : Nat → Nat) (cA : Nat → ClassId) (σ : SX) : (wX ad cA σ)[33]? = some (ad 33, .inl (cA 26, 120, .inl (σ.2.1 23))) := rfl
theorem uX_33 (ad : Nat → Nat) (cA : Nat → ClassId) (σ : SX) (f : Nat → Int32) : (wX ad cA σ).set 33 (ad 33, .inl (cA 26, 120, .inl f)) = wX ad cA (tX_Work_levels σ f) := rfl
theorem wX_34 (ad : Nat → Nat) (cA : Nat → ClassId) (σ : SX) : (wX ad cA σ)[34]? = some (ad 34, .inr (3, [.ref (ad 1), .ref (ad 7), .ref (ad 18), .ref (ad 24), .ref (ad 28), .ref (ad 23), .int (σ.1 18)])) := rfl
theorem pX_34_6 (ad : Nat → Nat) (cA : Nat → ClassId) (σ : SX) (v : Int32) : (wX ad cA σ).set 34 (ad 34, .inr (3, ([.ref (ad 1), .ref (ad 7), .ref (ad 18), .ref (ad 24), .ref (ad 28), .ref (ad 23), .int (σ.1 18)] : List Value).set 6 (.int v))) = wX ad cA (sX_Holder_held σ v) := rfl
theorem wX_35 (ad : Nat → Nat) (cA : Nat → ClassId) (σ : SX) : (wX ad cA σ)[35]? = some (ad 35, .inr (5, [.ref (ad 1), .ref (ad 7), .ref (ad 18), .ref (ad 28), .ref (ad 36), .int (σ.1 19), .ref (ad 37), .ref (ad 38)])) := rfl
theorem pX_35_5 (ad : Nat → Nat) (cA : Nat → ClassId) (σ : SX) (v : Int32) : (wX ad cA σ).set 35 (ad 35, .inr (5, ([.ref (ad 1), .ref (ad 7), .ref (ad 18), .ref (ad 28), .ref (ad 36), .int (σ.1 19), .ref (ad 37), .ref (ad 38)] : List Value).set 5 (.int v))) = wX ad cA (sX_Resolver_nearSize σ v) := rfl
theorem wX_36 (ad : Nat → Nat) (cA : Nat → ClassId) (σ : SX) : (wX ad cA σ)[36]? = some (ad 36, .inl (cA 27, 200, .inl (σ.2.1 24))) := rfl
theorem uX_36 (ad : Nat → Nat) (cA : Nat → ClassId) (σ : SX) (f : Nat → Int32) : (wX ad cA σ).set 36 (ad 36, .inl (cA 27, 200, .inl f)) = wX ad cA (tX_Resolver_near σ f) := rfl
theorem wX_37 (ad : Nat → Nat) (cA : Nat → ClassId) (σ : SX) : (wX ad cA σ)[37]? = some (ad 37, .inl (cA 28, 12, .inl (σ.2.1 25))) := rfl
theorem uX_37 (ad : Nat → Nat) (cA : Nat → ClassId) (σ : SX) (f : Nat → Int32) : (wX ad cA σ).set 37 (ad 37, .inl (cA 28, 12, .inl f)) = wX ad cA (tX_Resolver_links σ f) := rfl
theorem wX_38 (ad : Nat → Nat) (cA : Nat → ClassId) (σ : SX) : (wX ad cA σ)[38]? = some (ad 38, .inl (cA 29, 12, .inl (σ.2.1 26))) := rfl
theorem uX_38 (ad : Nat → Nat) (cA : Nat → ClassId) (σ : SX) (f : Nat → Int32) : (wX ad cA σ).set 38 (ad 38, .inl (cA 29, 12, .inl f)) = wX ad cA (tX_Resolver_choices σ f) := rfl
theorem wX_39 (ad : Nat → Nat) (cA : Nat → ClassId) (σ : SX) : (wX ad cA σ)[39]? = some (ad 39, .inr (6, [.ref (ad 40), .ref (ad 41), .ref (ad 42), .ref (ad 43), .int (σ.1 20)])) := rfl
theorem pX_39_4 (ad : Nat → Nat) (cA : Nat → ClassId) (σ : SX) (v : Int32) : (wX ad cA σ).set 39 (ad 39, .inr (6, ([.ref (ad 40), .ref (ad 41), .ref (ad 42), .ref (ad 43), .int (σ.1 20)] : List Value).set 4 (.int v))) = wX ad cA (sX_Told_size σ v) := rfl
theorem wX_40 (ad : Nat → Nat) (cA : Nat → ClassId) (σ : SX) : (wX ad cA σ)[40]? = some (ad 40, .inl (cA 30, 60, .inl (σ.2.1 27))) := rfl
theorem uX_40 (ad : Nat → Nat) (cA : Nat → ClassId) (σ : SX) (f : Nat → Int32) : (wX ad cA σ).set 40 (ad 40, .inl (cA 30, 60, .inl f)) = wX ad cA (tX_Told_sort σ f) := rfl
theorem wX_41 (ad : Nat → Nat) (cA : Nat → ClassId) (σ : SX) : (wX ad cA σ)[41]? = some (ad 41, .inl (cA 31, 60, .inl (σ.2.1 28))) := rfl
theorem uX_41 (ad : Nat → Nat) (cA : Nat → ClassId) (σ : SX) (f : Nat → Int32) : (wX ad cA σ).set 41 (ad 41, .inl (cA 31, 60, .inl f)) = wX ad cA (tX_Told_left σ f) := rfl
theorem wX_42 (ad : Nat → Nat) (cA : Nat → ClassId) (σ : SX) : (wX ad cA σ)[42]? = some (ad 42, .inl (cA 32, 60, .inl (σ.2.1 29))) := rfl
theorem uX_42 (ad : Nat → Nat) (cA : Nat → ClassId) (σ : SX) (f : Nat → Int32) : (wX ad cA σ).set 42 (ad 42, .inl (cA 32, 60, .inl f)) = wX ad cA (tX_Told_right σ f) := rfl
theorem wX_43 (ad : Nat → Nat) (cA : Nat → ClassId) (σ : SX) : (wX ad cA σ)[43]? = some (ad 43, .inl (cA 33, 60, .inl (σ.2.1 30))) := rfl
theorem uX_43 (ad : Nat → Nat) (cA : Nat → ClassId) (σ : SX) (f : Nat → Int32) : (wX ad cA σ).set 43 (ad 43, .inl (cA 33, 60, .inl f)) = wX ad cA (tX_Told_loose σ f) := rfl
end
section
def rX_Bounds_has : Room := { frames := 0, cells := 0, slots := 0, locals := 0 }
theorem rm_ok_X_Bounds_has : rX_Bounds_has.cells = 0 ∧ rX_Bounds_has.slots = 0 := ⟨rfl, rfl⟩
def X_Bounds_has (x1 : Int32) (σ : SX) : Option (Int32 × SX) := (if x1 < 0 then (some (0, σ)) else (if (gX_Bounds_size σ) ≤ x1 then (some (0, σ)) else (some (1, σ))))
set_option maxRecDepth 100000 in
set_option maxHeartbeats 4000000 in
theorem J_X_Bounds_has (K : jx_E) (D : va_G) (A : Nat → Prop) (ad : Nat → Nat) (cA : Nat → ClassId) (h : jx_ok K D clX (tysX cA) A 2 b_Bounds_has y_Bounds_has.cls ((Cond.code y_Bounds_has b_Bounds_has 2 (some .boolean)) :: tblG) rX_Bounds_has (some .boolean)) : ∀ (x1 : Int32) (σ : SX), J K D clX A 2 (wX ad cA) (jx_Qi K D clX (tysX cA) (wX ad cA) A) 0 0 0 [(0, .ref (ad 18)), (1, .int x1)] [] σ (X_Bounds_has x1 σ) := by
  intro x1 σ
  rw [X_Bounds_has]
  refine J_iload_n (q := 1) h d_Bounds_has_0 rfl rfl ?_
  refine J_if_lt (tgt := 16) h d_Bounds_has_1 (by decide) ?_ ?_
  · refine J_iconst (v := 0) h d_Bounds_has_16 (by decide) ?_
    exact J_zret h rfl (by decide) d_Bounds_has_17
  · refine J_iload_n (q := 1) h d_Bounds_has_4 rfl rfl ?_
    refine J_aload_n (q := 0) h d_Bounds_has_5 rfl rfl ?_
    refine J_getf h 18 (wX_18 ad cA σ) (tb_ups in_Bounds) rfl 4 (by decide) (tb_up q_1_106) rfl d_Bounds_has_6 ?_
    refine J_icmp_ge (tgt := 16) h d_Bounds_has_9 (by decide) ?_ ?_
    · refine J_iconst (v := 0) h d_Bounds_has_16 (by decide) ?_
      exact J_zret h rfl (by decide) d_Bounds_has_17
    · refine J_iconst (v := 1) h d_Bounds_has_12 (by decide) ?_
      refine J_goto (tgt := 17) h d_Bounds_has_13 (by decide) ?_
      exact J_zret h rfl (by decide) d_Bounds_has_17
set_option maxRecDepth 100000 in
theorem cX_Bounds_has (l : Launch) (D : va_G) (ad : Nat → Nat) (cA : Nat → ClassId) (x1 : Int32) (σ : SX) (r : Int32) (σ' : SX) (hf : X_Bounds_has x1 σ = some (r, σ')) : MetI l y_Bounds_has ((Cond.code y_Bounds_has b_Bounds_has 2 (some .boolean)) :: tblG) rX_Bounds_has D clX (tysX cA) (wX ad cA) [.ref (ad 18), .int x1] σ r σ' :=
  jx_metI (by decide) rfl (Nat.le_of_ble_eq_true rfl) (fun K A h => J_X_Bounds_has K D A ad cA h x1 σ) hf
def rX_Bounds_sortOf : Room := { frames := 0, cells := 0, slots := 0, locals := 0 }
theorem rm_ok_X_Bounds_sortOf : rX_Bounds_sortOf.cells = 0 ∧ rX_Bounds_sortOf.slots = 0 := ⟨rfl, rfl⟩
def X_Bounds_sortOf (x1 : Int32) (σ : SX) : Option (Int32 × SX) := (if x1 < 0 then (some ((-1), σ)) else (if (gX_Bounds_size σ) ≤ x1 then (some ((-1), σ)) else (if ck x1 200 = true then (some ((aX_Bounds_sort σ x1.toNatClampNeg), σ)) else none)))
set_option maxRecDepth 100000 in
set_option maxHeartbeats 4000000 in
theorem J_X_Bounds_sortOf (K : jx_E) (D : va_G) (A : Nat → Prop) (ad : Nat → Nat) (cA : Nat → ClassId) (h : jx_ok K D clX (tysX cA) A 2 b_Bounds_sortOf y_Bounds_sortOf.cls ((Cond.code y_Bounds_sortOf b_Bounds_sortOf 2 (some .int)) :: tblG) rX_Bounds_sortOf (some .int)) : ∀ (x1 : Int32) (σ : SX), J K D clX A 2 (wX ad cA) (jx_Qi K D clX (tysX cA) (wX ad cA) A) 0 0 0 [(0, .ref (ad 18)), (1, .int x1)] [] σ (X_Bounds_sortOf x1 σ) := by
  intro x1 σ
  rw [X_Bounds_sortOf]
  refine J_iload_n (q := 1) h d_Bounds_sortOf_0 rfl rfl ?_
  refine J_if_lt (tgt := 21) h d_Bounds_sortOf_1 (by decide) ?_ ?_
  · refine J_iconst (v := (-1)) h d_Bounds_sortOf_21 (by decide) ?_
    exact J_iret h rfl d_Bounds_sortOf_22
  · refine J_iload_n (q := 1) h d_Bounds_sortOf_4 rfl rfl ?_
    refine J_aload_n (q := 0) h d_Bounds_sortOf_5 rfl rfl ?_
    refine J_getf h 18 (wX_18 ad cA σ) (tb_ups in_Bounds) rfl 4 (by decide) (tb_up q_1_106) rfl d_Bounds_sortOf_6 ?_
    refine J_icmp_ge (tgt := 21) h d_Bounds_sortOf_9 (by decide) ?_ ?_
    · refine J_iconst (v := (-1)) h d_Bounds_sortOf_21 (by decide) ?_
      exact J_iret h rfl d_Bounds_sortOf_22
    · refine J_aload_n (q := 0) h d_Bounds_sortOf_12 rfl rfl ?_
      refine J_getf h 18 (wX_18 ad cA σ) (tb_ups in_Bounds) rfl 0 (by decide) (tb_up q_1_102) rfl d_Bounds_sortOf_13 ?_
      refine J_iload_n (q := 1) h d_Bounds_sortOf_16 rfl rfl ?_
      refine J_iald h 19 15 (wX_19 ad cA σ) rfl d_Bounds_sortOf_17 ?_
      refine J_goto (tgt := 22) h d_Bounds_sortOf_18 (by decide) ?_
      exact J_iret h rfl d_Bounds_sortOf_22
set_option maxRecDepth 100000 in
theorem cX_Bounds_sortOf (l : Launch) (D : va_G) (ad : Nat → Nat) (cA : Nat → ClassId) (x1 : Int32) (σ : SX) (r : Int32) (σ' : SX) (hf : X_Bounds_sortOf x1 σ = some (r, σ')) : MetI l y_Bounds_sortOf ((Cond.code y_Bounds_sortOf b_Bounds_sortOf 2 (some .int)) :: tblG) rX_Bounds_sortOf D clX (tysX cA) (wX ad cA) [.ref (ad 18), .int x1] σ r σ' :=
  jx_metI (by decide) rfl (Nat.le_of_ble_eq_true rfl) (fun K A h => J_X_Bounds_sortOf K D A ad cA h x1 σ) hf
def rX_Bounds_variableOf : Room := { frames := 0, cells := 0, slots := 0, locals := 0 }
theorem rm_ok_X_Bounds_variableOf : rX_Bounds_variableOf.cells = 0 ∧ rX_Bounds_variableOf.slots = 0 := ⟨rfl, rfl⟩
def X_Bounds_variableOf (x1 : Int32) (σ : SX) : Option (Int32 × SX) := (if x1 < 0 then (some ((-1), σ)) else (if (gX_Bounds_size σ) ≤ x1 then (some ((-1), σ)) else (if ck x1 200 = true then (some ((aX_Bounds_variable σ x1.toNatClampNeg), σ)) else none)))
set_option maxRecDepth 100000 in
set_option maxHeartbeats 4000000 in
theorem J_X_Bounds_variableOf (K : jx_E) (D : va_G) (A : Nat → Prop) (ad : Nat → Nat) (cA : Nat → ClassId) (h : jx_ok K D clX (tysX cA) A 2 b_Bounds_variableOf y_Bounds_variableOf.cls ((Cond.code y_Bounds_variableOf b_Bounds_variableOf 2 (some .int)) :: tblG) rX_Bounds_variableOf (some .int)) : ∀ (x1 : Int32) (σ : SX), J K D clX A 2 (wX ad cA) (jx_Qi K D clX (tysX cA) (wX ad cA) A) 0 0 0 [(0, .ref (ad 18)), (1, .int x1)] [] σ (X_Bounds_variableOf x1 σ) := by
  intro x1 σ
  rw [X_Bounds_variableOf]
  refine J_iload_n (q := 1) h d_Bounds_variableOf_0 rfl rfl ?_
  refine J_if_lt (tgt := 21) h d_Bounds_variableOf_1 (by decide) ?_ ?_
  · refine J_iconst (v := (-1)) h d_Bounds_variableOf_21 (by decide) ?_
    exact J_iret h rfl d_Bounds_variableOf_22
  · refine J_iload_n (q := 1) h d_Bounds_variableOf_4 rfl rfl ?_
    refine J_aload_n (q := 0) h d_Bounds_variableOf_5 rfl rfl ?_
    refine J_getf h 18 (wX_18 ad cA σ) (tb_ups in_Bounds) rfl 4 (by decide) (tb_up q_1_106) rfl d_Bounds_variableOf_6 ?_
    refine J_icmp_ge (tgt := 21) h d_Bounds_variableOf_9 (by decide) ?_ ?_
    · refine J_iconst (v := (-1)) h d_Bounds_variableOf_21 (by decide) ?_
      exact J_iret h rfl d_Bounds_variableOf_22
    · refine J_aload_n (q := 0) h d_Bounds_variableOf_12 rfl rfl ?_
      refine J_getf h 18 (wX_18 ad cA σ) (tb_ups in_Bounds) rfl 1 (by decide) (tb_up q_1_103) rfl d_Bounds_variableOf_13 ?_
      refine J_iload_n (q := 1) h d_Bounds_variableOf_16 rfl rfl ?_
      refine J_iald h 20 16 (wX_20 ad cA σ) rfl d_Bounds_variableOf_17 ?_
      refine J_goto (tgt := 22) h d_Bounds_variableOf_18 (by decide) ?_
      exact J_iret h rfl d_Bounds_variableOf_22
set_option maxRecDepth 100000 in
theorem cX_Bounds_variableOf (l : Launch) (D : va_G) (ad : Nat → Nat) (cA : Nat → ClassId) (x1 : Int32) (σ : SX) (r : Int32) (σ' : SX) (hf : X_Bounds_variableOf x1 σ = some (r, σ')) : MetI l y_Bounds_variableOf ((Cond.code y_Bounds_variableOf b_Bounds_variableOf 2 (some .int)) :: tblG) rX_Bounds_variableOf D clX (tysX cA) (wX ad cA) [.ref (ad 18), .int x1] σ r σ' :=
  jx_metI (by decide) rfl (Nat.le_of_ble_eq_true rfl) (fun K A h => J_X_Bounds_variableOf K D A ad cA h x1 σ) hf
def rX_Bounds_typeOf : Room := { frames := 0, cells := 0, slots := 0, locals := 0 }
theorem rm_ok_X_Bounds_typeOf : rX_Bounds_typeOf.cells = 0 ∧ rX_Bounds_typeOf.slots = 0 := ⟨rfl, rfl⟩
def X_Bounds_typeOf (x1 : Int32) (σ : SX) : Option (Int32 × SX) := (if x1 < 0 then (some ((-1), σ)) else (if (gX_Bounds_size σ) ≤ x1 then (some ((-1), σ)) else (if ck x1 200 = true then (some ((aX_Bounds_type σ x1.toNatClampNeg), σ)) else none)))
set_option maxRecDepth 100000 in
set_option maxHeartbeats 4000000 in
theorem J_X_Bounds_typeOf (K : jx_E) (D : va_G) (A : Nat → Prop) (ad : Nat → Nat) (cA : Nat → ClassId) (h : jx_ok K D clX (tysX cA) A 2 b_Bounds_typeOf y_Bounds_typeOf.cls ((Cond.code y_Bounds_typeOf b_Bounds_typeOf 2 (some .int)) :: tblG) rX_Bounds_typeOf (some .int)) : ∀ (x1 : Int32) (σ : SX), J K D clX A 2 (wX ad cA) (jx_Qi K D clX (tysX cA) (wX ad cA) A) 0 0 0 [(0, .ref (ad 18)), (1, .int x1)] [] σ (X_Bounds_typeOf x1 σ) := by
  intro x1 σ
  rw [X_Bounds_typeOf]
  refine J_iload_n (q := 1) h d_Bounds_typeOf_0 rfl rfl ?_
  refine J_if_lt (tgt := 21) h d_Bounds_typeOf_1 (by decide) ?_ ?_
  · refine J_iconst (v := (-1)) h d_Bounds_typeOf_21 (by decide) ?_
    exact J_iret h rfl d_Bounds_typeOf_22
  · refine J_iload_n (q := 1) h d_Bounds_typeOf_4 rfl rfl ?_
    refine J_aload_n (q := 0) h d_Bounds_typeOf_5 rfl rfl ?_
    refine J_getf h 18 (wX_18 ad cA σ) (tb_ups in_Bounds) rfl 4 (by decide) (tb_up q_1_106) rfl d_Bounds_typeOf_6 ?_
    refine J_icmp_ge (tgt := 21) h d_Bounds_typeOf_9 (by decide) ?_ ?_
    · refine J_iconst (v := (-1)) h d_Bounds_typeOf_21 (by decide) ?_
      exact J_iret h rfl d_Bounds_typeOf_22
    · refine J_aload_n (q := 0) h d_Bounds_typeOf_12 rfl rfl ?_
      refine J_getf h 18 (wX_18 ad cA σ) (tb_ups in_Bounds) rfl 2 (by decide) (tb_up q_1_104) rfl d_Bounds_typeOf_13 ?_
      refine J_iload_n (q := 1) h d_Bounds_typeOf_16 rfl rfl ?_
      refine J_iald h 21 17 (wX_21 ad cA σ) rfl d_Bounds_typeOf_17 ?_
      refine J_goto (tgt := 22) h d_Bounds_typeOf_18 (by decide) ?_
      exact J_iret h rfl d_Bounds_typeOf_22
set_option maxRecDepth 100000 in
theorem cX_Bounds_typeOf (l : Launch) (D : va_G) (ad : Nat → Nat) (cA : Nat → ClassId) (x1 : Int32) (σ : SX) (r : Int32) (σ' : SX) (hf : X_Bounds_typeOf x1 σ = some (r, σ')) : MetI l y_Bounds_typeOf ((Cond.code y_Bounds_typeOf b_Bounds_typeOf 2 (some .int)) :: tblG) rX_Bounds_typeOf D clX (tysX cA) (wX ad cA) [.ref (ad 18), .int x1] σ r σ' :=
  jx_metI (by decide) rfl (Nat.le_of_ble_eq_true rfl) (fun K A h => J_X_Bounds_typeOf K D A ad cA h x1 σ) hf
def rX_Bounds_originOf : Room := { frames := 0, cells := 0, slots := 0, locals := 0 }
theorem rm_ok_X_Bounds_originOf : rX_Bounds_originOf.cells = 0 ∧ rX_Bounds_originOf.slots = 0 := ⟨rfl, rfl⟩
def X_Bounds_originOf (x1 : Int32) (σ : SX) : Option (Int32 × SX) := (if x1 < 0 then (some ((-1), σ)) else (if (gX_Bounds_size σ) ≤ x1 then (some ((-1), σ)) else (if ck x1 200 = true then (some ((aX_Bounds_origin σ x1.toNatClampNeg), σ)) else none)))
set_option maxRecDepth 100000 in
set_option maxHeartbeats 4000000 in
theorem J_X_Bounds_originOf (K : jx_E) (D : va_G) (A : Nat → Prop) (ad : Nat → Nat) (cA : Nat → ClassId) (h : jx_ok K D clX (tysX cA) A 2 b_Bounds_originOf y_Bounds_originOf.cls ((Cond.code y_Bounds_originOf b_Bounds_originOf 2 (some .int)) :: tblG) rX_Bounds_originOf (some .int)) : ∀ (x1 : Int32) (σ : SX), J K D clX A 2 (wX ad cA) (jx_Qi K D clX (tysX cA) (wX ad cA) A) 0 0 0 [(0, .ref (ad 18)), (1, .int x1)] [] σ (X_Bounds_originOf x1 σ) := by
  intro x1 σ
  rw [X_Bounds_originOf]
  refine J_iload_n (q := 1) h d_Bounds_originOf_0 rfl rfl ?_
  refine J_if_lt (tgt := 21) h d_Bounds_originOf_1 (by decide) ?_ ?_
  · refine J_iconst (v := (-1)) h d_Bounds_originOf_21 (by decide) ?_
    exact J_iret h rfl d_Bounds_originOf_22
  · refine J_iload_n (q := 1) h d_Bounds_originOf_4 rfl rfl ?_
    refine J_aload_n (q := 0) h d_Bounds_originOf_5 rfl rfl ?_
    refine J_getf h 18 (wX_18 ad cA σ) (tb_ups in_Bounds) rfl 4 (by decide) (tb_up q_1_106) rfl d_Bounds_originOf_6 ?_
    refine J_icmp_ge (tgt := 21) h d_Bounds_originOf_9 (by decide) ?_ ?_
    · refine J_iconst (v := (-1)) h d_Bounds_originOf_21 (by decide) ?_
      exact J_iret h rfl d_Bounds_originOf_22
    · refine J_aload_n (q := 0) h d_Bounds_originOf_12 rfl rfl ?_
      refine J_getf h 18 (wX_18 ad cA σ) (tb_ups in_Bounds) rfl 3 (by decide) (tb_up q_1_105) rfl d_Bounds_originOf_13 ?_
      refine J_iload_n (q := 1) h d_Bounds_originOf_16 rfl rfl ?_
      refine J_iald h 22 18 (wX_22 ad cA σ) rfl d_Bounds_originOf_17 ?_
      refine J_goto (tgt := 22) h d_Bounds_originOf_18 (by decide) ?_
      exact J_iret h rfl d_Bounds_originOf_22
set_option maxRecDepth 100000 in
theorem cX_Bounds_originOf (l : Launch) (D : va_G) (ad : Nat → Nat) (cA : Nat → ClassId) (x1 : Int32) (σ : SX) (r : Int32) (σ' : SX) (hf : X_Bounds_originOf x1 σ = some (r, σ')) : MetI l y_Bounds_originOf ((Cond.code y_Bounds_originOf b_Bounds_originOf 2 (some .int)) :: tblG) rX_Bounds_originOf D clX (tysX cA) (wX ad cA) [.ref (ad 18), .int x1] σ r σ' :=
  jx_metI (by decide) rfl (Nat.le_of_ble_eq_true rfl) (fun K A h => J_X_Bounds_originOf K D A ad cA h x1 σ) hf
def rX_Bounds_add : Room := { frames := 0, cells := 0, slots := 0, locals := 0 }
theorem rm_ok_X_Bounds_add : rX_Bounds_add.cells = 0 ∧ rX_Bounds_add.slots = 0 := ⟨rfl, rfl⟩
def X_Bounds_add_b47 (N : Nat) (k3 : Int32 → Int32 → Int32 → Int32 → Int32 → SX → Option (Int32 × SX)) (v1 : Int32) (v2 : Int32) (v3 : Int32) (v4 : Int32) (v5 : Int32) (σ : SX) : Option (Int32 × SX) := (nm (v5 + 1) (fun (y1 : Int32) => (k3 v1 v2 v3 v4 y1 σ)))
set_option maxRecDepth 100000 in
set_option maxHeartbeats 4000000 in
theorem J_X_Bounds_add_b47 (K : jx_E) (D : va_G) (A : Nat → Prop) (ad : Nat → Nat) (cA : Nat → ClassId) (N : Nat) (h : jx_ok K D clX (tysX cA) A 6 b_Bounds_add y_Bounds_add.cls ((Cond.code y_Bounds_add b_Bounds_add 6 (some .int)) :: tblG) rX_Bounds_add (some .int)) (k3 : Int32 → Int32 → Int32 → Int32 → Int32 → SX → Option (Int32 × SX)) (hk3 : ∀ (v1 : Int32) (v2 : Int32) (v3 : Int32) (v4 : Int32) (v5 : Int32) (σ : SX), J K D clX A 6 (wX ad cA) (jx_Qi K D clX (tysX cA) (wX ad cA) A) 0 0 3 [(0, .ref (ad 18)), (1, .int v1), (2, .int v2), (3, .int v3), (4, .int v4), (5, .int v5)] [] σ (k3 v1 v2 v3 v4 v5 σ)) : ∀ (v1 : Int32) (v2 : Int32) (v3 : Int32) (v4 : Int32) (v5 : Int32) (σ : SX), J K D clX A 6 (wX ad cA) (jx_Qi K D clX (tysX cA) (wX ad cA) A) 0 0 47 [(0, .ref (ad 18)), (1, .int v1), (2, .int v2), (3, .int v3), (4, .int v4), (5, .int v5)] [] σ (X_Bounds_add_b47 N k3 v1 v2 v3 v4 v5 σ) := by
  intro v1 v2 v3 v4 v5 σ
  rw [X_Bounds_add_b47]
  refine J_iinc (q := 5) (c := 1) (lv' := fun y1 => [(5, .int y1), (0, .ref (ad 18)), (1, .int v1), (2, .int v2), (3, .int v3), (4, .int v4)]) h d_Bounds_add_47 rfl (by decide) (by decide) (fun _ => rfl) (fun y1 => ?_)
  refine J_goto (tgt := 3) h d_Bounds_add_50 (by decide) ?_
  refine J_sub [1, 2, 3, 4, 5, 0] rfl ?_
  exact hk3 v1 v2 v3 v4 y1 σ
def X_Bounds_add_L3 (N : Nat) (k53 : Int32 → Int32 → Int32 → Int32 → SX → Option (Int32 × SX)) : Nat → Int32 → Int32 → Int32 → Int32 → Int32 → SX → Option (Int32 × SX)
  | 0, _, _, _, _, _, _ => none
  | n + 1, v1, v2, v3, v4, v5, σ => (if (gX_Bounds_size σ) ≤ v5 then (k53 v1 v2 v3 v4 σ) else (if ck v5 200 = true then (if (aX_Bounds_sort σ v5.toNatClampNeg) = v1 then (if ck v5 200 = true then (if (aX_Bounds_variable σ v5.toNatClampNeg) = v2 then (if ck v5 200 = true then (if (aX_Bounds_type σ v5.toNatClampNeg) = v3 then (some (1, σ)) else (X_Bounds_add_b47 N (X_Bounds_add_L3 N k53 n) v1 v2 v3 v4 v5 σ)) else none) else (X_Bounds_add_b47 N (X_Bounds_add_L3 N k53 n) v1 v2 v3 v4 v5 σ)) else none) else (X_Bounds_add_b47 N (X_Bounds_add_L3 N k53 n) v1 v2 v3 v4 v5 σ)) else none))
set_option maxRecDepth 100000 in
set_option maxHeartbeats 4000000 in
theorem J_X_Bounds_add_L3 (K : jx_E) (D : va_G) (A : Nat → Prop) (ad : Nat → Nat) (cA : Nat → ClassId) (N : Nat) (h : jx_ok K D clX (tysX cA) A 6 b_Bounds_add y_Bounds_add.cls ((Cond.code y_Bounds_add b_Bounds_add 6 (some .int)) :: tblG) rX_Bounds_add (some .int)) (k53 : Int32 → Int32 → Int32 → Int32 → SX → Option (Int32 × SX)) (hk53 : ∀ (v1 : Int32) (v2 : Int32) (v3 : Int32) (v4 : Int32) (σ : SX), J K D clX A 6 (wX ad cA) (jx_Qi K D clX (tysX cA) (wX ad cA) A) 0 0 53 [(0, .ref (ad 18)), (1, .int v1), (2, .int v2), (3, .int v3), (4, .int v4)] [] σ (k53 v1 v2 v3 v4 σ)) : ∀ (n : Nat) (v1 : Int32) (v2 : Int32) (v3 : Int32) (v4 : Int32) (v5 : Int32) (σ : SX), J K D clX A 6 (wX ad cA) (jx_Qi K D clX (tysX cA) (wX ad cA) A) 0 0 3 [(0, .ref (ad 18)), (1, .int v1), (2, .int v2), (3, .int v3), (4, .int v4), (5, .int v5)] [] σ (X_Bounds_add_L3 N k53 n v1 v2 v3 v4 v5 σ) := by
  intro n
  induction n with
  | zero => intro v1 v2 v3 v4 v5 σ; exact J_none
  | succ n ih =>
    intro v1 v2 v3 v4 v5 σ
    rw [X_Bounds_add_L3]
    refine J_iload (q := 5) h d_Bounds_add_3 rfl ?_
    refine J_aload_n (q := 0) h d_Bounds_add_5 rfl rfl ?_
    refine J_getf h 18 (wX_18 ad cA σ) (tb_ups in_Bounds) rfl 4 (by decide) (tb_up q_1_106) rfl d_Bounds_add_6 ?_
    refine J_icmp_ge (tgt := 53) h d_Bounds_add_9 (by decide) ?_ ?_
    · refine J_sub [0, 1, 2, 3, 4] rfl ?_
      exact hk53 v1 v2 v3 v4 σ
    · refine J_aload_n (q := 0) h d_Bounds_add_12 rfl rfl ?_
      refine J_getf h 18 (wX_18 ad cA σ) (tb_ups in_Bounds) rfl 0 (by decide) (tb_up q_1_102) rfl d_Bounds_add_13 ?_
      refine J_iload (q := 5) h d_Bounds_add_16 rfl ?_
      refine J_iald h 19 15 (wX_19 ad cA σ) rfl d_Bounds_add_18 ?_
      refine J_iload_n (q := 1) h d_Bounds_add_19 rfl rfl ?_
      refine J_icmp_ne (tgt := 47) h d_Bounds_add_20 (by decide) ?_ ?_
      · refine J_aload_n (q := 0) h d_Bounds_add_23 rfl rfl ?_
        refine J_getf h 18 (wX_18 ad cA σ) (tb_ups in_Bounds) rfl 1 (by decide) (tb_up q_1_103) rfl d_Bounds_add_24 ?_
        refine J_iload (q := 5) h d_Bounds_add_27 rfl ?_
        refine J_iald h 20 16 (wX_20 ad cA σ) rfl d_Bounds_add_29 ?_
        refine J_iload_n (q := 2) h d_Bounds_add_30 rfl rfl ?_
        refine J_icmp_ne (tgt := 47) h d_Bounds_add_31 (by decide) ?_ ?_
        · refine J_aload_n (q := 0) h d_Bounds_add_34 rfl rfl ?_
          refine J_getf h 18 (wX_18 ad cA σ) (tb_ups in_Bounds) rfl 2 (by decide) (tb_up q_1_104) rfl d_Bounds_add_35 ?_
          refine J_iload (q := 5) h d_Bounds_add_38 rfl ?_
          refine J_iald h 21 17 (wX_21 ad cA σ) rfl d_Bounds_add_40 ?_
          refine J_iload_n (q := 3) h d_Bounds_add_41 rfl rfl ?_
          refine J_icmp_ne (tgt := 47) h d_Bounds_add_42 (by decide) ?_ ?_
          · refine J_iconst (v := 1) h d_Bounds_add_45 (by decide) ?_
            exact J_iret h rfl d_Bounds_add_46
          · exact J_X_Bounds_add_b47 K D A ad cA N h (X_Bounds_add_L3 N k53 n) ih v1 v2 v3 v4 v5 σ
        · exact J_X_Bounds_add_b47 K D A ad cA N h (X_Bounds_add_L3 N k53 n) ih v1 v2 v3 v4 v5 σ
      · exact J_X_Bounds_add_b47 K D A ad cA N h (X_Bounds_add_L3 N k53 n) ih v1 v2 v3 v4 v5 σ
def X_Bounds_add_b53 (N : Nat) (v1 : Int32) (v2 : Int32) (v3 : Int32) (v4 : Int32) (σ : SX) : Option (Int32 × SX) := (if (gX_Bounds_size σ) < 0 then (some ((-3), σ)) else (if (gX_Bounds_size σ) < 200 then (if ck (gX_Bounds_size σ) 200 = true then (nm (tX_Bounds_sort σ (upd (aX_Bounds_sort σ) (gX_Bounds_size σ).toNatClampNeg v1)) (fun (σ2 : SX) => (if ck (gX_Bounds_size σ2) 200 = true then (nm (tX_Bounds_variable σ2 (upd (aX_Bounds_variable σ2) (gX_Bounds_size σ2).toNatClampNeg v2)) (fun (σ3 : SX) => (if ck (gX_Bounds_size σ3) 200 = true then (nm (tX_Bounds_type σ3 (upd (aX_Bounds_type σ3) (gX_Bounds_size σ3).toNatClampNeg v3)) (fun (σ4 : SX) => (if ck (gX_Bounds_size σ4) 200 = true then (nm (tX_Bounds_origin σ4 (upd (aX_Bounds_origin σ4) (gX_Bounds_size σ4).toNatClampNeg v4)) (fun (σ5 : SX) => (nm (sX_Bounds_size σ5 ((gX_Bounds_size σ5) + 1)) (fun (σ6 : SX) => (some (1, σ6)))))) else none))) else none))) else none))) else none) else (some ((-3), σ))))
set_option maxRecDepth 100000 in
set_option maxHeartbeats 4000000 in
theorem J_X_Bounds_add_b53 (K : jx_E) (D : va_G) (A : Nat → Prop) (ad : Nat → Nat) (cA : Nat → ClassId) (N : Nat) (h : jx_ok K D clX (tysX cA) A 6 b_Bounds_add y_Bounds_add.cls ((Cond.code y_Bounds_add b_Bounds_add 6 (some .int)) :: tblG) rX_Bounds_add (some .int)) : ∀ (v1 : Int32) (v2 : Int32) (v3 : Int32) (v4 : Int32) (σ : SX), J K D clX A 6 (wX ad cA) (jx_Qi K D clX (tysX cA) (wX ad cA) A) 0 0 53 [(0, .ref (ad 18)), (1, .int v1), (2, .int v2), (3, .int v3), (4, .int v4)] [] σ (X_Bounds_add_b53 N v1 v2 v3 v4 σ) := by
  intro v1 v2 v3 v4 σ
  rw [X_Bounds_add_b53]
  refine J_aload_n (q := 0) h d_Bounds_add_53 rfl rfl ?_
  refine J_getf h 18 (wX_18 ad cA σ) (tb_ups in_Bounds) rfl 4 (by decide) (tb_up q_1_106) rfl d_Bounds_add_54 ?_
  refine J_if_lt (tgt := 70) h d_Bounds_add_57 (by decide) ?_ ?_
  · refine J_bipush (v := (-3)) h d_Bounds_add_70 (by decide) ?_
    exact J_iret h rfl d_Bounds_add_72
  · refine J_aload_n (q := 0) h d_Bounds_add_60 rfl rfl ?_
    refine J_getf h 18 (wX_18 ad cA σ) (tb_ups in_Bounds) rfl 4 (by decide) (tb_up q_1_106) rfl d_Bounds_add_61 ?_
    refine J_sipush (v := 200) h d_Bounds_add_64 (by decide) ?_
    refine J_icmp_lt (tgt := 73) h d_Bounds_add_67 (by decide) ?_ ?_
    · refine J_aload_n (q := 0) h d_Bounds_add_73 rfl rfl ?_
      refine J_getf h 18 (wX_18 ad cA σ) (tb_ups in_Bounds) rfl 0 (by decide) (tb_up q_1_102) rfl d_Bounds_add_74 ?_
      refine J_aload_n (q := 0) h d_Bounds_add_77 rfl rfl ?_
      refine J_getf h 18 (wX_18 ad cA σ) (tb_ups in_Bounds) rfl 4 (by decide) (tb_up q_1_106) rfl d_Bounds_add_78 ?_
      refine J_iload_n (q := 1) h d_Bounds_add_81 rfl rfl ?_
      refine J_iast h 19 15 (wX_19 ad cA σ) rfl (uX_19 ad cA σ _) d_Bounds_add_82 (fun σ2 => ?_)
      refine J_aload_n (q := 0) h d_Bounds_add_83 rfl rfl ?_
      refine J_getf h 18 (wX_18 ad cA σ2) (tb_ups in_Bounds) rfl 1 (by decide) (tb_up q_1_103) rfl d_Bounds_add_84 ?_
      refine J_aload_n (q := 0) h d_Bounds_add_87 rfl rfl ?_
      refine J_getf h 18 (wX_18 ad cA σ2) (tb_ups in_Bounds) rfl 4 (by decide) (tb_up q_1_106) rfl d_Bounds_add_88 ?_
      refine J_iload_n (q := 2) h d_Bounds_add_91 rfl rfl ?_
      refine J_iast h 20 16 (wX_20 ad cA σ2) rfl (uX_20 ad cA σ2 _) d_Bounds_add_92 (fun σ3 => ?_)
      refine J_aload_n (q := 0) h d_Bounds_add_93 rfl rfl ?_
      refine J_getf h 18 (wX_18 ad cA σ3) (tb_ups in_Bounds) rfl 2 (by decide) (tb_up q_1_104) rfl d_Bounds_add_94 ?_
      refine J_aload_n (q := 0) h d_Bounds_add_97 rfl rfl ?_
      refine J_getf h 18 (wX_18 ad cA σ3) (tb_ups in_Bounds) rfl 4 (by decide) (tb_up q_1_106) rfl d_Bounds_add_98 ?_
      refine J_iload_n (q := 3) h d_Bounds_add_101 rfl rfl ?_
      refine J_iast h 21 17 (wX_21 ad cA σ3) rfl (uX_21 ad cA σ3 _) d_Bounds_add_102 (fun σ4 => ?_)
      refine J_aload_n (q := 0) h d_Bounds_add_103 rfl rfl ?_
      refine J_getf h 18 (wX_18 ad cA σ4) (tb_ups in_Bounds) rfl 3 (by decide) (tb_up q_1_105) rfl d_Bounds_add_104 ?_
      refine J_aload_n (q := 0) h d_Bounds_add_107 rfl rfl ?_
      refine J_getf h 18 (wX_18 ad cA σ4) (tb_ups in_Bounds) rfl 4 (by decide) (tb_up q_1_106) rfl d_Bounds_add_108 ?_
      refine J_iload (q := 4) h d_Bounds_add_111 rfl ?_
      refine J_iast h 22 18 (wX_22 ad cA σ4) rfl (uX_22 ad cA σ4 _) d_Bounds_add_113 (fun σ5 => ?_)
      refine J_aload_n (q := 0) h d_Bounds_add_114 rfl rfl ?_
      refine J_dup h d_Bounds_add_115 rfl ?_
      refine J_getf h 18 (wX_18 ad cA σ5) (tb_ups in_Bounds) rfl 4 (by decide) (tb_up q_1_106) rfl d_Bounds_add_116 ?_
      refine J_iconst (v := 1) h d_Bounds_add_119 (by decide) ?_
      refine J_iadd h d_Bounds_add_120 ?_
      refine J_putf h 18 (wX_18 ad cA σ5) (tb_ups in_Bounds) rfl ft_Bounds ft_Bounds_ok nm_Bounds 4 (by decide) (tb_up q_1_106) rfl rfl rfl (Nat.le_of_ble_eq_true rfl) (pX_18_4 ad cA σ5 ((gX_Bounds_size σ5) + 1)) d_Bounds_add_121 (fun σ6 => ?_)
      refine J_iconst (v := 1) h d_Bounds_add_124 (by decide) ?_
      exact J_iret h rfl d_Bounds_add_125
    · refine J_bipush (v := (-3)) h d_Bounds_add_70 (by decide) ?_
      exact J_iret h rfl d_Bounds_add_72
def X_Bounds_add (N : Nat) (x1 : Int32) (x2 : Int32) (x3 : Int32) (x4 : Int32) (σ : SX) : Option (Int32 × SX) := (X_Bounds_add_L3 N (X_Bounds_add_b53 N) N x1 x2 x3 x4 0 σ)
set_option maxRecDepth 100000 in
set_option maxHeartbeats 4000000 in
theorem J_X_Bounds_add (K : jx_E) (D : va_G) (A : Nat → Prop) (ad : Nat → Nat) (cA : Nat → ClassId) (N : Nat) (h : jx_ok K D clX (tysX cA) A 6 b_Bounds_add y_Bounds_add.cls ((Cond.code y_Bounds_add b_Bounds_add 6 (some .int)) :: tblG) rX_Bounds_add (some .int)) : ∀ (x1 : Int32) (x2 : Int32) (x3 : Int32) (x4 : Int32) (σ : SX), J K D clX A 6 (wX ad cA) (jx_Qi K D clX (tysX cA) (wX ad cA) A) 0 0 0 [(0, .ref (ad 18)), (1, .int x1), (2, .int x2), (3, .int x3), (4, .int x4)] [] σ (X_Bounds_add N x1 x2 x3 x4 σ) := by
  intro x1 x2 x3 x4 σ
  rw [X_Bounds_add]
  refine J_iconst (v := 0) h d_Bounds_add_0 (by decide) ?_
  refine J_istore (lv' := [(5, .int 0), (0, .ref (ad 18)), (1, .int x1), (2, .int x2), (3, .int x3), (4, .int x4)]) h d_Bounds_add_1 (by decide) rfl ?_
  refine J_sub [1, 2, 3, 4, 5, 0] rfl ?_
  exact J_X_Bounds_add_L3 K D A ad cA N h (X_Bounds_add_b53 N) (J_X_Bounds_add_b53 K D A ad cA N h) N x1 x2 x3 x4 0 σ
set_option maxRecDepth 100000 in
theorem cX_Bounds_add (l : Launch) (D : va_G) (ad : Nat → Nat) (cA : Nat → ClassId) (N : Nat) (x1 : Int32) (x2 : Int32) (x3 : Int32) (x4 : Int32) (σ : SX) (r : Int32) (σ' : SX) (hf : X_Bounds_add N x1 x2 x3 x4 σ = some (r, σ')) : MetI l y_Bounds_add ((Cond.code y_Bounds_add b_Bounds_add 6 (some .int)) :: tblG) rX_Bounds_add D clX (tysX cA) (wX ad cA) [.ref (ad 18), .int x1, .int x2, .int x3, .int x4] σ r σ' :=
  jx_metI (by decide) rfl (Nat.le_of_ble_eq_true rfl) (fun K A h => J_X_Bounds_add K D A ad cA N h x1 x2 x3 x4 σ) hf
def rX_Types_isProper : Room := { frames := 0, cells := 0, slots := 0, locals := 0 }
theorem rm_ok_X_Types_isProper : rX_Types_isProper.cells = 0 ∧ rX_Types_isProper.slots = 0 := ⟨rfl, rfl⟩
def X_Types_isProper (x1 : Int32) (σ : SX) : Option (Int32 × SX) := (if x1 < 0 then (some (0, σ)) else (if (gX_Types_size σ) ≤ x1 then (some (0, σ)) else (if ck x1 500 = true then (if (aX_Types_variables σ x1.toNatClampNeg) = 0 then (some (1, σ)) else (some (0, σ))) else none)))
set_option maxRecDepth 100000 in
set_option maxHeartbeats 4000000 in
theorem J_X_Types_isProper (K : jx_E) (D : va_G) (A : Nat → Prop) (ad : Nat → Nat) (cA : Nat → ClassId) (h : jx_ok K D clX (tysX cA) A 2 b_Types_isProper y_Types_isProper.cls ((Cond.code y_Types_isProper b_Types_isProper 2 (some .boolean)) :: tblG) rX_Types_isProper (some .boolean)) : ∀ (x1 : Int32) (σ : SX), J K D clX A 2 (wX ad cA) (jx_Qi K D clX (tysX cA) (wX ad cA) A) 0 0 0 [(0, .ref (ad 7)), (1, .int x1)] [] σ (X_Types_isProper x1 σ) := by
  intro x1 σ
  rw [X_Types_isProper]
  refine J_iload_n (q := 1) h d_Types_isProper_0 rfl rfl ?_
  refine J_if_lt (tgt := 25) h d_Types_isProper_1 (by decide) ?_ ?_
  · refine J_iconst (v := 0) h d_Types_isProper_25 (by decide) ?_
    exact J_zret h rfl (by decide) d_Types_isProper_26
  · refine J_iload_n (q := 1) h d_Types_isProper_4 rfl rfl ?_
    refine J_aload_n (q := 0) h d_Types_isProper_5 rfl rfl ?_
    refine J_getf h 7 (wX_7 ad cA σ) (tb_ups in_Types) rfl 10 (by decide) (tb_up q_1_71) rfl d_Types_isProper_6 ?_
    refine J_icmp_ge (tgt := 25) h d_Types_isProper_9 (by decide) ?_ ?_
    · refine J_iconst (v := 0) h d_Types_isProper_25 (by decide) ?_
      exact J_zret h rfl (by decide) d_Types_isProper_26
    · refine J_aload_n (q := 0) h d_Types_isProper_12 rfl rfl ?_
      refine J_getf h 7 (wX_7 ad cA σ) (tb_ups in_Types) rfl 5 (by decide) (tb_up q_1_66) rfl d_Types_isProper_13 ?_
      refine J_iload_n (q := 1) h d_Types_isProper_16 rfl rfl ?_
      refine J_iald h 13 10 (wX_13 ad cA σ) rfl d_Types_isProper_17 ?_
      refine J_if_ne (tgt := 25) h d_Types_isProper_18 (by decide) ?_ ?_
      · refine J_iconst (v := 1) h d_Types_isProper_21 (by decide) ?_
        refine J_goto (tgt := 26) h d_Types_isProper_22 (by decide) ?_
        exact J_zret h rfl (by decide) d_Types_isProper_26
      · refine J_iconst (v := 0) h d_Types_isProper_25 (by decide) ?_
        exact J_zret h rfl (by decide) d_Types_isProper_26
set_option maxRecDepth 100000 in
theorem cX_Types_isProper (l : Launch) (D : va_G) (ad : Nat → Nat) (cA : Nat → ClassId) (x1 : Int32) (σ : SX) (r : Int32) (σ' : SX) (hf : X_Types_isProper x1 σ = some (r, σ')) : MetI l y_Types_isProper ((Cond.code y_Types_isProper b_Types_isProper 2 (some .boolean)) :: tblG) rX_Types_isProper D clX (tysX cA) (wX ad cA) [.ref (ad 7), .int x1] σ r σ' :=
  jx_metI (by decide) rfl (Nat.le_of_ble_eq_true rfl) (fun K A h => J_X_Types_isProper K D A ad cA h x1 σ) hf
def rX_Bounds_settledAs : Room := { frames := 1, cells := 0, slots := 0, locals := 21 }
theorem rm_ok_X_Bounds_settledAs : rX_Bounds_settledAs.cells = 0 ∧ rX_Bounds_settledAs.slots = 0 := ⟨rfl, rfl⟩
def X_Bounds_settledAs_b49 (N : Nat) (k2 : Int32 → Int32 → SX → Option (Int32 × SX)) (v1 : Int32) (v3 : Int32) (σ : SX) : Option (Int32 × SX) := (nm (v3 + 1) (fun (y3 : Int32) => (k2 v1 y3 σ)))
set_option maxRecDepth 100000 in
set_option maxHeartbeats 4000000 in
theorem J_X_Bounds_settledAs_b49 (K : jx_E) (D : va_G) (A : Nat → Prop) (ad : Nat → Nat) (cA : Nat → ClassId) (N : Nat) (h : jx_ok K D clX (tysX cA) A 4 b_Bounds_settledAs y_Bounds_settledAs.cls ((Cond.code y_Bounds_settledAs b_Bounds_settledAs 4 (some .int)) :: tblG) rX_Bounds_settledAs (some .int)) (k2 : Int32 → Int32 → SX → Option (Int32 × SX)) (hk2 : ∀ (v1 : Int32) (v3 : Int32) (σ : SX), J K D clX A 4 (wX ad cA) (jx_Qi K D clX (tysX cA) (wX ad cA) A) 0 0 2 [(0, .ref (ad 18)), (1, .int v1), (2, .ref (ad 7)), (3, .int v3)] [] σ (k2 v1 v3 σ)) : ∀ (v1 : Int32) (v3 : Int32) (σ : SX), J K D clX A 4 (wX ad cA) (jx_Qi K D clX (tysX cA) (wX ad cA) A) 0 0 49 [(0, .ref (ad 18)), (1, .int v1), (2, .ref (ad 7)), (3, .int v3)] [] σ (X_Bounds_settledAs_b49 N k2 v1 v3 σ) := by
  intro v1 v3 σ
  rw [X_Bounds_settledAs_b49]
  refine J_iinc (q := 3) (c := 1) (lv' := fun y3 => [(3, .int y3), (0, .ref (ad 18)), (1, .int v1), (2, .ref (ad 7))]) h d_Bounds_settledAs_49 rfl (by decide) (by decide) (fun _ => rfl) (fun y3 => ?_)
  refine J_goto (tgt := 2) h d_Bounds_settledAs_52 (by decide) ?_
  refine J_sub [1, 2, 3, 0] rfl ?_
  exact hk2 v1 y3 σ
def X_Bounds_settledAs_L2 (N : Nat) : Nat → Int32 → Int32 → SX → Option (Int32 × SX)
  | 0, _, _, _ => none
  | n + 1, v1, v3, σ => (if (gX_Bounds_size σ) ≤ v3 then (some ((-1), σ)) else (if ck v3 200 = true then (if (aX_Bounds_sort σ v3.toNatClampNeg) = 0 then (if ck v3 200 = true then (if (aX_Bounds_variable σ v3.toNatClampNeg) = v1 then (if ck v3 200 = true then (bd (X_Types_isProper (aX_Bounds_type σ v3.toNatClampNeg) σ) (fun (r1 : Int32) (σ2 : SX) => (if r1 = 0 then (X_Bounds_settledAs_b49 N (X_Bounds_settledAs_L2 N  n) v1 v3 σ2) else (if ck v3 200 = true then (some ((aX_Bounds_type σ2 v3.toNatClampNeg), σ2)) else none)))) else none) else (X_Bounds_settledAs_b49 N (X_Bounds_settledAs_L2 N  n) v1 v3 σ)) else none) else (X_Bounds_settledAs_b49 N (X_Bounds_settledAs_L2 N  n) v1 v3 σ)) else none))
set_option maxRecDepth 100000 in
set_option maxHeartbeats 4000000 in
theorem J_X_Bounds_settledAs_L2 (K : jx_E) (D : va_G) (A : Nat → Prop) (ad : Nat → Nat) (cA : Nat → ClassId) (N : Nat) (h : jx_ok K D clX (tysX cA) A 4 b_Bounds_settledAs y_Bounds_settledAs.cls ((Cond.code y_Bounds_settledAs b_Bounds_settledAs 4 (some .int)) :: tblG) rX_Bounds_settledAs (some .int)) : ∀ (n : Nat) (v1 : Int32) (v3 : Int32) (σ : SX), J K D clX A 4 (wX ad cA) (jx_Qi K D clX (tysX cA) (wX ad cA) A) 0 0 2 [(0, .ref (ad 18)), (1, .int v1), (2, .ref (ad 7)), (3, .int v3)] [] σ (X_Bounds_settledAs_L2 N n v1 v3 σ) := by
  intro n
  induction n with
  | zero => intro v1 v3 σ; exact J_none
  | succ n ih =>
    intro v1 v3 σ
    rw [X_Bounds_settledAs_L2]
    refine J_iload_n (q := 3) h d_Bounds_settledAs_2 rfl rfl ?_
    refine J_aload_n (q := 0) h d_Bounds_settledAs_3 rfl rfl ?_
    refine J_getf h 18 (wX_18 ad cA σ) (tb_ups in_Bounds) rfl 4 (by decide) (tb_up q_1_106) rfl d_Bounds_settledAs_4 ?_
    refine J_icmp_ge (tgt := 55) h d_Bounds_settledAs_7 (by decide) ?_ ?_
    · refine J_iconst (v := (-1)) h d_Bounds_settledAs_55 (by decide) ?_
      exact J_iret h rfl d_Bounds_settledAs_56
    · refine J_aload_n (q := 0) h d_Bounds_settledAs_10 rfl rfl ?_
      refine J_getf h 18 (wX_18 ad cA σ) (tb_ups in_Bounds) rfl 0 (by decide) (tb_up q_1_102) rfl d_Bounds_settledAs_11 ?_
      refine J_iload_n (q := 3) h d_Bounds_settledAs_14 rfl rfl ?_
      refine J_iald h 19 15 (wX_19 ad cA σ) rfl d_Bounds_settledAs_15 ?_
      refine J_if_ne (tgt := 49) h d_Bounds_settledAs_16 (by decide) ?_ ?_
      · refine J_aload_n (q := 0) h d_Bounds_settledAs_19 rfl rfl ?_
        refine J_getf h 18 (wX_18 ad cA σ) (tb_ups in_Bounds) rfl 1 (by decide) (tb_up q_1_103) rfl d_Bounds_settledAs_20 ?_
        refine J_iload_n (q := 3) h d_Bounds_settledAs_23 rfl rfl ?_
        refine J_iald h 20 16 (wX_20 ad cA σ) rfl d_Bounds_settledAs_24 ?_
        refine J_iload_n (q := 1) h d_Bounds_settledAs_25 rfl rfl ?_
        refine J_icmp_ne (tgt := 49) h d_Bounds_settledAs_26 (by decide) ?_ ?_
        · refine J_aload_n (q := 2) h d_Bounds_settledAs_29 rfl rfl ?_
          refine J_aload_n (q := 0) h d_Bounds_settledAs_30 rfl rfl ?_
          refine J_getf h 18 (wX_18 ad cA σ) (tb_ups in_Bounds) rfl 2 (by decide) (tb_up q_1_104) rfl d_Bounds_settledAs_31 ?_
          refine J_iload_n (q := 3) h d_Bounds_settledAs_34 rfl rfl ?_
          refine J_iald h 21 17 (wX_21 ad cA σ) rfl d_Bounds_settledAs_35 ?_
          refine J_callVi (As := [.int (aX_Bounds_type σ v3.toNatClampNeg)]) (st := []) (rmc := rX_Types_isProper) (q0 := 7) h (fun _ _ hf => cX_Types_isProper (jl K) D ad cA (aX_Bounds_type σ v3.toNatClampNeg) σ _ _ hf) (gd_V q_3_175 q_2_149 q_2_150 q_1_3 q_2_151) rfl ⟨rfl, rfl⟩ dd_Types_isProper ⟨Nat.le_of_ble_eq_true rfl, Nat.le_of_ble_eq_true rfl⟩ rfl rfl (wX_7 ad cA σ) rfl rfl (Nat.le_of_ble_eq_true rfl) ⟨Nat.zero_le _, Nat.zero_le _⟩ d_Bounds_settledAs_36 (fun r1 σ2 => ?_)
          refine J_if_eq (tgt := 49) h d_Bounds_settledAs_39 (by decide) ?_ ?_
          · exact J_X_Bounds_settledAs_b49 K D A ad cA N h (X_Bounds_settledAs_L2 N  n) ih v1 v3 σ2
          · refine J_aload_n (q := 0) h d_Bounds_settledAs_42 rfl rfl ?_
            refine J_getf h 18 (wX_18 ad cA σ2) (tb_ups in_Bounds) rfl 2 (by decide) (tb_up q_1_104) rfl d_Bounds_settledAs_43 ?_
            refine J_iload_n (q := 3) h d_Bounds_settledAs_46 rfl rfl ?_
            refine J_iald h 21 17 (wX_21 ad cA σ2) rfl d_Bounds_settledAs_47 ?_
            exact J_iret h rfl d_Bounds_settledAs_48
        · exact J_X_Bounds_settledAs_b49 K D A ad cA N h (X_Bounds_settledAs_L2 N  n) ih v1 v3 σ
      · exact J_X_Bounds_settledAs_b49 K D A ad cA N h (X_Bounds_settledAs_L2 N  n) ih v1 v3 σ
def X_Bounds_settledAs (N : Nat) (x1 : Int32) (σ : SX) : Option (Int32 × SX) := (X_Bounds_settledAs_L2 N N x1 0 σ)
set_option maxRecDepth 100000 in
set_option maxHeartbeats 4000000 in
theorem J_X_Bounds_settledAs (K : jx_E) (D : va_G) (A : Nat → Prop) (ad : Nat → Nat) (cA : Nat → ClassId) (N : Nat) (h : jx_ok K D clX (tysX cA) A 4 b_Bounds_settledAs y_Bounds_settledAs.cls ((Cond.code y_Bounds_settledAs b_Bounds_settledAs 4 (some .int)) :: tblG) rX_Bounds_settledAs (some .int)) : ∀ (x1 : Int32) (σ : SX), J K D clX A 4 (wX ad cA) (jx_Qi K D clX (tysX cA) (wX ad cA) A) 0 0 0 [(0, .ref (ad 18)), (1, .int x1), (2, .ref (ad 7))] [] σ (X_Bounds_settledAs N x1 σ) := by
  intro x1 σ
  rw [X_Bounds_settledAs]
  refine J_iconst (v := 0) h d_Bounds_settledAs_0 (by decide) ?_
  refine J_istore_n (lv' := [(3, .int 0), (0, .ref (ad 18)), (1, .int x1), (2, .ref (ad 7))]) h d_Bounds_settledAs_1 rfl (by decide) rfl ?_
  refine J_sub [1, 2, 3, 0] rfl ?_
  exact J_X_Bounds_settledAs_L2 K D A ad cA N h N x1 0 σ
set_option maxRecDepth 100000 in
theorem cX_Bounds_settledAs (l : Launch) (D : va_G) (ad : Nat → Nat) (cA : Nat → ClassId) (N : Nat) (x1 : Int32) (σ : SX) (r : Int32) (σ' : SX) (hf : X_Bounds_settledAs N x1 σ = some (r, σ')) : MetI l y_Bounds_settledAs ((Cond.code y_Bounds_settledAs b_Bounds_settledAs 4 (some .int)) :: tblG) rX_Bounds_settledAs D clX (tysX cA) (wX ad cA) [.ref (ad 18), .int x1, .ref (ad 7)] σ r σ' :=
  jx_metI (by decide) rfl (Nat.le_of_ble_eq_true rfl) (fun K A h => J_X_Bounds_settledAs K D A ad cA N h x1 σ) hf
def rX_Classes_has : Room := { frames := 0, cells := 0, slots := 0, locals := 0 }
theorem rm_ok_X_Classes_has : rX_Classes_has.cells = 0 ∧ rX_Classes_has.slots = 0 := ⟨rfl, rfl⟩
def X_Classes_has (x1 : Int32) (σ : SX) : Option (Int32 × SX) := (if x1 < 0 then (some (0, σ)) else (if (gX_Classes_size σ) ≤ x1 then (some (0, σ)) else (some (1, σ))))
set_option maxRecDepth 100000 in
set_option maxHeartbeats 4000000 in
theorem J_X_Classes_has (K : jx_E) (D : va_G) (A : Nat → Prop) (ad : Nat → Nat) (cA : Nat → ClassId) (h : jx_ok K D clX (tysX cA) A 2 b_Classes_has y_Classes_has.cls ((Cond.code y_Classes_has b_Classes_has 2 (some .boolean)) :: tblG) rX_Classes_has (some .boolean)) : ∀ (x1 : Int32) (σ : SX), J K D clX A 2 (wX ad cA) (jx_Qi K D clX (tysX cA) (wX ad cA) A) 0 0 0 [(0, .ref (ad 1)), (1, .int x1)] [] σ (X_Classes_has x1 σ) := by
  intro x1 σ
  rw [X_Classes_has]
  refine J_iload_n (q := 1) h d_Classes_has_0 rfl rfl ?_
  refine J_if_lt (tgt := 16) h d_Classes_has_1 (by decide) ?_ ?_
  · refine J_iconst (v := 0) h d_Classes_has_16 (by decide) ?_
    exact J_zret h rfl (by decide) d_Classes_has_17
  · refine J_iload_n (q := 1) h d_Classes_has_4 rfl rfl ?_
    refine J_aload_n (q := 0) h d_Classes_has_5 rfl rfl ?_
    refine J_getf h 1 (wX_1 ad cA σ) (tb_ups in_Classes) rfl 5 (by decide) (tb_up q_1_33) rfl d_Classes_has_6 ?_
    refine J_icmp_ge (tgt := 16) h d_Classes_has_9 (by decide) ?_ ?_
    · refine J_iconst (v := 0) h d_Classes_has_16 (by decide) ?_
      exact J_zret h rfl (by decide) d_Classes_has_17
    · refine J_iconst (v := 1) h d_Classes_has_12 (by decide) ?_
      refine J_goto (tgt := 17) h d_Classes_has_13 (by decide) ?_
      exact J_zret h rfl (by decide) d_Classes_has_17
set_option maxRecDepth 100000 in
theorem cX_Classes_has (l : Launch) (D : va_G) (ad : Nat → Nat) (cA : Nat → ClassId) (x1 : Int32) (σ : SX) (r : Int32) (σ' : SX) (hf : X_Classes_has x1 σ = some (r, σ')) : MetI l y_Classes_has ((Cond.code y_Classes_has b_Classes_has 2 (some .boolean)) :: tblG) rX_Classes_has D clX (tysX cA) (wX ad cA) [.ref (ad 1), .int x1] σ r σ' :=
  jx_metI (by decide) rfl (Nat.le_of_ble_eq_true rfl) (fun K A h => J_X_Classes_has K D A ad cA h x1 σ) hf
def rX_Classes_add : Room := { frames := 0, cells := 0, slots := 0, locals := 0 }
theorem rm_ok_X_Classes_add : rX_Classes_add.cells = 0 ∧ rX_Classes_add.slots = 0 := ⟨rfl, rfl⟩
def X_Classes_add (x1 : Int32) (σ : SX) : Option (Int32 × SX) := (if (gX_Classes_size σ) < 0 then (some ((-3), σ)) else (if (gX_Classes_size σ) < 40 then (if ck (gX_Classes_size σ) 40 = true then (nm (tX_Classes_parameters σ (upd (aX_Classes_parameters σ) (gX_Classes_size σ).toNatClampNeg x1)) (fun (σ1 : SX) => (if ck (gX_Classes_size σ1) 40 = true then (nm (tX_Classes_reach σ1 (vp_updL (aX_Classes_reach σ1) (gX_Classes_size σ1).toNatClampNeg ((1 : Int64) <<< ((gX_Classes_size σ1).toInt64 &&& 63)))) (fun (σ2 : SX) => (nm (sX_Classes_size σ2 ((gX_Classes_size σ2) + 1)) (fun (σ3 : SX) => (some (((gX_Classes_size σ3) - 1), σ3)))))) else none))) else none) else (some ((-3), σ))))
set_option maxRecDepth 100000 in
set_option maxHeartbeats 4000000 in
theorem J_X_Classes_add (K : jx_E) (D : va_G) (A : Nat → Prop) (ad : Nat → Nat) (cA : Nat → ClassId) (h : jx_ok K D clX (tysX cA) A 2 b_Classes_add y_Classes_add.cls ((Cond.code y_Classes_add b_Classes_add 2 (some .int)) :: tblG) rX_Classes_add (some .int)) : ∀ (x1 : Int32) (σ : SX), J K D clX A 2 (wX ad cA) (jx_Qi K D clX (tysX cA) (wX ad cA) A) 0 0 0 [(0, .ref (ad 1)), (1, .int x1)] [] σ (X_Classes_add x1 σ) := by
  intro x1 σ
  rw [X_Classes_add]
  refine J_aload_n (q := 0) h d_Classes_add_0 rfl rfl ?_
  refine J_getf h 1 (wX_1 ad cA σ) (tb_ups in_Classes) rfl 5 (by decide) (tb_up q_1_33) rfl d_Classes_add_1 ?_
  refine J_if_lt (tgt := 16) h d_Classes_add_4 (by decide) ?_ ?_
  · refine J_bipush (v := (-3)) h d_Classes_add_16 (by decide) ?_
    exact J_iret h rfl d_Classes_add_18
  · refine J_aload_n (q := 0) h d_Classes_add_7 rfl rfl ?_
    refine J_getf h 1 (wX_1 ad cA σ) (tb_ups in_Classes) rfl 5 (by decide) (tb_up q_1_33) rfl d_Classes_add_8 ?_
    refine J_bipush (v := 40) h d_Classes_add_11 (by decide) ?_
    refine J_icmp_lt (tgt := 19) h d_Classes_add_13 (by decide) ?_ ?_
    · refine J_aload_n (q := 0) h d_Classes_add_19 rfl rfl ?_
      refine J_getf h 1 (wX_1 ad cA σ) (tb_ups in_Classes) rfl 0 (by decide) (tb_up q_1_28) rfl d_Classes_add_20 ?_
      refine J_aload_n (q := 0) h d_Classes_add_23 rfl rfl ?_
      refine J_getf h 1 (wX_1 ad cA σ) (tb_ups in_Classes) rfl 5 (by decide) (tb_up q_1_33) rfl d_Classes_add_24 ?_
      refine J_iload_n (q := 1) h d_Classes_add_27 rfl rfl ?_
      refine J_iast h 2 0 (wX_2 ad cA σ) rfl (uX_2 ad cA σ _) d_Classes_add_28 (fun σ1 => ?_)
      refine J_aload_n (q := 0) h d_Classes_add_29 rfl rfl ?_
      refine J_getf h 1 (wX_1 ad cA σ1) (tb_ups in_Classes) rfl 4 (by decide) (tb_up q_1_32) rfl d_Classes_add_30 ?_
      refine J_aload_n (q := 0) h d_Classes_add_33 rfl rfl ?_
      refine J_getf h 1 (wX_1 ad cA σ1) (tb_ups in_Classes) rfl 5 (by decide) (tb_up q_1_33) rfl d_Classes_add_34 ?_
      refine J_lconst (v := 1) h d_Classes_add_37 (by decide) ?_
      refine J_aload_n (q := 0) h d_Classes_add_38 rfl rfl ?_
      refine J_getf h 1 (wX_1 ad cA σ1) (tb_ups in_Classes) rfl 5 (by decide) (tb_up q_1_33) rfl d_Classes_add_39 ?_
      refine J_lshl h d_Classes_add_42 ?_
      refine J_last h 6 4 (wX_6 ad cA σ1) rfl (uX_6 ad cA σ1 _) d_Classes_add_43 (fun σ2 => ?_)
      refine J_aload_n (q := 0) h d_Classes_add_44 rfl rfl ?_
      refine J_dup h d_Classes_add_45 rfl ?_
      refine J_getf h 1 (wX_1 ad cA σ2) (tb_ups in_Classes) rfl 5 (by decide) (tb_up q_1_33) rfl d_Classes_add_46 ?_
      refine J_iconst (v := 1) h d_Classes_add_49 (by decide) ?_
      refine J_iadd h d_Classes_add_50 ?_
      refine J_putf h 1 (wX_1 ad cA σ2) (tb_ups in_Classes) rfl ft_Classes ft_Classes_ok nm_Classes 5 (by decide) (tb_up q_1_33) rfl rfl rfl (Nat.le_of_ble_eq_true rfl) (pX_1_5 ad cA σ2 ((gX_Classes_size σ2) + 1)) d_Classes_add_51 (fun σ3 => ?_)
      refine J_aload_n (q := 0) h d_Classes_add_54 rfl rfl ?_
      refine J_getf h 1 (wX_1 ad cA σ3) (tb_ups in_Classes) rfl 5 (by decide) (tb_up q_1_33) rfl d_Classes_add_55 ?_
      refine J_iconst (v := 1) h d_Classes_add_58 (by decide) ?_
      refine J_isub h d_Classes_add_59 ?_
      exact J_iret h rfl d_Classes_add_60
    · refine J_bipush (v := (-3)) h d_Classes_add_16 (by decide) ?_
      exact J_iret h rfl d_Classes_add_18
set_option maxRecDepth 100000 in
theorem cX_Classes_add (l : Launch) (D : va_G) (ad : Nat → Nat) (cA : Nat → ClassId) (x1 : Int32) (σ : SX) (r : Int32) (σ' : SX) (hf : X_Classes_add x1 σ = some (r, σ')) : MetI l y_Classes_add ((Cond.code y_Classes_add b_Classes_add 2 (some .int)) :: tblG) rX_Classes_add D clX (tysX cA) (wX ad cA) [.ref (ad 1), .int x1] σ r σ' :=
  jx_metI (by decide) rfl (Nat.le_of_ble_eq_true rfl) (fun K A h => J_X_Classes_add K D A ad cA h x1 σ) hf
def rX_Classes_parametersOf : Room := { frames := 1, cells := 0, slots := 0, locals := 21 }
theorem rm_ok_X_Classes_parametersOf : rX_Classes_parametersOf.cells = 0 ∧ rX_Classes_parametersOf.slots = 0 := ⟨rfl, rfl⟩
def X_Classes_parametersOf (x1 : Int32) (σ : SX) : Option (Int32 × SX) := (bd (X_Classes_has x1 σ) (fun (r1 : Int32) (σ2 : SX) => (if r1 = 0 then (some (0, σ2)) else (if ck x1 40 = true then (some ((aX_Classes_parameters σ2 x1.toNatClampNeg), σ2)) else none))))
set_option maxRecDepth 100000 in
set_option maxHeartbeats 4000000 in
theorem J_X_Classes_parametersOf (K : jx_E) (D : va_G) (A : Nat → Prop) (ad : Nat → Nat) (cA : Nat → ClassId) (h : jx_ok K D clX (tysX cA) A 2 b_Classes_parametersOf y_Classes_parametersOf.cls ((Cond.code y_Classes_parametersOf b_Classes_parametersOf 2 (some .int)) :: tblG) rX_Classes_parametersOf (some .int)) : ∀ (x1 : Int32) (σ : SX), J K D clX A 2 (wX ad cA) (jx_Qi K D clX (tysX cA) (wX ad cA) A) 0 0 0 [(0, .ref (ad 1)), (1, .int x1)] [] σ (X_Classes_parametersOf x1 σ) := by
  intro x1 σ
  rw [X_Classes_parametersOf]
  refine J_aload_n (q := 0) h d_Classes_parametersOf_0 rfl rfl ?_
  refine J_iload_n (q := 1) h d_Classes_parametersOf_1 rfl rfl ?_
  refine J_callVi (As := [.int x1]) (st := []) (rmc := rX_Classes_has) (q0 := 1) h (fun _ _ hf => cX_Classes_has (jl K) D ad cA x1 σ _ _ hf) (gd_V q_2_139 q_2_116 q_2_117 q_1_2 q_2_118) rfl ⟨rfl, rfl⟩ dd_Classes_has ⟨Nat.le_of_ble_eq_true rfl, Nat.le_of_ble_eq_true rfl⟩ rfl rfl (wX_1 ad cA σ) rfl rfl (Nat.le_of_ble_eq_true rfl) ⟨Nat.zero_le _, Nat.zero_le _⟩ d_Classes_parametersOf_2 (fun r1 σ2 => ?_)
  refine J_if_eq (tgt := 17) h d_Classes_parametersOf_5 (by decide) ?_ ?_
  · refine J_iconst (v := 0) h d_Classes_parametersOf_17 (by decide) ?_
    exact J_iret h rfl d_Classes_parametersOf_18
  · refine J_aload_n (q := 0) h d_Classes_parametersOf_8 rfl rfl ?_
    refine J_getf h 1 (wX_1 ad cA σ2) (tb_ups in_Classes) rfl 0 (by decide) (tb_up q_1_28) rfl d_Classes_parametersOf_9 ?_
    refine J_iload_n (q := 1) h d_Classes_parametersOf_12 rfl rfl ?_
    refine J_iald h 2 0 (wX_2 ad cA σ2) rfl d_Classes_parametersOf_13 ?_
    refine J_goto (tgt := 18) h d_Classes_parametersOf_14 (by decide) ?_
    exact J_iret h rfl d_Classes_parametersOf_18
set_option maxRecDepth 100000 in
theorem cX_Classes_parametersOf (l : Launch) (D : va_G) (ad : Nat → Nat) (cA : Nat → ClassId) (x1 : Int32) (σ : SX) (r : Int32) (σ' : SX) (hf : X_Classes_parametersOf x1 σ = some (r, σ')) : MetI l y_Classes_parametersOf ((Cond.code y_Classes_parametersOf b_Classes_parametersOf 2 (some .int)) :: tblG) rX_Classes_parametersOf D clX (tysX cA) (wX ad cA) [.ref (ad 1), .int x1] σ r σ' :=
  jx_metI (by decide) rfl (Nat.le_of_ble_eq_true rfl) (fun K A h => J_X_Classes_parametersOf K D A ad cA h x1 σ) hf
def rX_Classes_renewReach : Room := { frames := 1, cells := 0, slots := 0, locals := 21 }
theorem rm_ok_X_Classes_renewReach : rX_Classes_renewReach.cells = 0 ∧ rX_Classes_renewReach.slots = 0 := ⟨rfl, rfl⟩
def X_Classes_renewReach_b67 (N : Nat) (k18 : Int32 → Int64 → Int32 → SX → Option (Unit × SX)) (v1 : Int32) (v2 : Int64) (v4 : Int32) (σ : SX) : Option (Unit × SX) := (nm (v4 + 1) (fun (y5 : Int32) => (k18 v1 v2 y5 σ)))
set_option maxRecDepth 100000 in
set_option maxHeartbeats 4000000 in
theorem J_X_Classes_renewReach_b67 (K : jx_E) (D : va_G) (A : Nat → Prop) (ad : Nat → Nat) (cA : Nat → ClassId) (N : Nat) (h : jx_ok K D clX (tysX cA) A 6 b_Classes_renewReach y_Classes_renewReach.cls ((Cond.code y_Classes_renewReach b_Classes_renewReach 6 none) :: tblG) rX_Classes_renewReach none) (k18 : Int32 → Int64 → Int32 → SX → Option (Unit × SX)) (hk18 : ∀ (v1 : Int32) (v2 : Int64) (v4 : Int32) (σ : SX), J K D clX A 6 (wX ad cA) (jx_Qv K D clX (tysX cA) (wX ad cA) A) 0 0 18 [(0, .ref (ad 1)), (1, .int v1), (2, .long v2), (4, .int v4)] [] σ (k18 v1 v2 v4 σ)) : ∀ (v1 : Int32) (v2 : Int64) (v4 : Int32) (σ : SX), J K D clX A 6 (wX ad cA) (jx_Qv K D clX (tysX cA) (wX ad cA) A) 0 0 67 [(0, .ref (ad 1)), (1, .int v1), (2, .long v2), (4, .int v4)] [] σ (X_Classes_renewReach_b67 N k18 v1 v2 v4 σ) := by
  intro v1 v2 v4 σ
  rw [X_Classes_renewReach_b67]
  refine J_iinc (q := 3) (c := 1) (lv' := fun y5 => [(4, .int y5), (0, .ref (ad 1)), (1, .int v1), (2, .long v2)]) h d_Classes_renewReach_67 rfl (by decide) (by decide) (fun _ => rfl) (fun y5 => ?_)
  refine J_goto (tgt := 18) h d_Classes_renewReach_70 (by decide) ?_
  refine J_sub [1, 2, 3, 0] rfl ?_
  exact hk18 v1 v2 y5 σ
def X_Classes_renewReach_L18 (N : Nat) (k73 : Int32 → Int64 → SX → Option (Unit × SX)) : Nat → Int32 → Int64 → Int32 → SX → Option (Unit × SX)
  | 0, _, _, _, _ => none
  | n + 1, v1, v2, v4, σ => (if ck v1 40 = true then (if (aX_Classes_parentCount σ v1.toNatClampNeg) ≤ v4 then (k73 v1 v2 σ) else (if (3 : Int32) ≤ v4 then (k73 v1 v2 σ) else (if ck ((v1 * 3) + v4) 120 = true then (nm ((aX_Classes_parentClass σ ((v1 * 3) + v4).toNatClampNeg)) (fun (y2 : Int32) => (bd (X_Classes_has y2 σ) (fun (r3 : Int32) (σ4 : SX) => (if r3 = 0 then (X_Classes_renewReach_b67 N (X_Classes_renewReach_L18 N k73 n) v1 v2 v4 σ4) else (if ck y2 40 = true then (nm ((v2 ||| (aX_Classes_reach σ4 y2.toNatClampNeg))) (fun (y6 : Int64) => (X_Classes_renewReach_b67 N (X_Classes_renewReach_L18 N k73 n) v1 y6 v4 σ4))) else none)))))) else none))) else none)
set_option maxRecDepth 100000 in
set_option maxHeartbeats 4000000 in
theorem J_X_Classes_renewReach_L18 (K : jx_E) (D : va_G) (A : Nat → Prop) (ad : Nat → Nat) (cA : Nat → ClassId) (N : Nat) (h : jx_ok K D clX (tysX cA) A 6 b_Classes_renewReach y_Classes_renewReach.cls ((Cond.code y_Classes_renewReach b_Classes_renewReach 6 none) :: tblG) rX_Classes_renewReach none) (k73 : Int32 → Int64 → SX → Option (Unit × SX)) (hk73 : ∀ (v1 : Int32) (v2 : Int64) (σ : SX), J K D clX A 6 (wX ad cA) (jx_Qv K D clX (tysX cA) (wX ad cA) A) 0 0 73 [(0, .ref (ad 1)), (1, .int v1), (2, .long v2)] [] σ (k73 v1 v2 σ)) : ∀ (n : Nat) (v1 : Int32) (v2 : Int64) (v4 : Int32) (σ : SX), J K D clX A 6 (wX ad cA) (jx_Qv K D clX (tysX cA) (wX ad cA) A) 0 0 18 [(0, .ref (ad 1)), (1, .int v1), (2, .long v2), (4, .int v4)] [] σ (X_Classes_renewReach_L18 N k73 n v1 v2 v4 σ) := by
  intro n
  induction n with
  | zero => intro v1 v2 v4 σ; exact J_none
  | succ n ih =>
    intro v1 v2 v4 σ
    rw [X_Classes_renewReach_L18]
    refine J_iload (q := 3) h d_Classes_renewReach_18 rfl ?_
    refine J_aload_n (q := 0) h d_Classes_renewReach_20 rfl rfl ?_
    refine J_getf h 1 (wX_1 ad cA σ) (tb_ups in_Classes) rfl 1 (by decide) (tb_up q_1_29) rfl d_Classes_renewReach_21 ?_
    refine J_iload_n (q := 1) h d_Classes_renewReach_24 rfl rfl ?_
    refine J_iald h 3 1 (wX_3 ad cA σ) rfl d_Classes_renewReach_25 ?_
    refine J_icmp_ge (tgt := 73) h d_Classes_renewReach_26 (by decide) ?_ ?_
    · refine J_sub [0, 1, 2] rfl ?_
      exact hk73 v1 v2 σ
    · refine J_iload (q := 3) h d_Classes_renewReach_29 rfl ?_
      refine J_iconst (v := 3) h d_Classes_renewReach_31 (by decide) ?_
      refine J_icmp_ge (tgt := 73) h d_Classes_renewReach_32 (by decide) ?_ ?_
      · refine J_sub [0, 1, 2] rfl ?_
        exact hk73 v1 v2 σ
      · refine J_aload_n (q := 0) h d_Classes_renewReach_35 rfl rfl ?_
        refine J_getf h 1 (wX_1 ad cA σ) (tb_ups in_Classes) rfl 3 (by decide) (tb_up q_1_31) rfl d_Classes_renewReach_36 ?_
        refine J_iload_n (q := 1) h d_Classes_renewReach_39 rfl rfl ?_
        refine J_iconst (v := 3) h d_Classes_renewReach_40 (by decide) ?_
        refine J_imul h d_Classes_renewReach_41 ?_
        refine J_iload (q := 3) h d_Classes_renewReach_42 rfl ?_
        refine J_iadd h d_Classes_renewReach_44 ?_
        refine J_iald h 5 3 (wX_5 ad cA σ) rfl d_Classes_renewReach_45 ?_
        refine J_nmi (fun y2 => ?_)
        refine J_istore (lv' := [(5, .int y2), (0, .ref (ad 1)), (1, .int v1), (2, .long v2), (4, .int v4)]) h d_Classes_renewReach_46 (by decide) rfl ?_
        refine J_aload_n (q := 1) h d_Classes_renewReach_48 rfl rfl ?_
        refine J_iload (q := 0) h d_Classes_renewReach_49 rfl ?_
        refine J_callVi (As := [.int y2]) (st := []) (rmc := rX_Classes_has) (q0 := 1) h (fun _ _ hf => cX_Classes_has (jl K) D ad cA y2 σ _ _ hf) (gd_V q_2_139 q_2_116 q_2_117 q_1_2 q_2_118) rfl ⟨rfl, rfl⟩ dd_Classes_has ⟨Nat.le_of_ble_eq_true rfl, Nat.le_of_ble_eq_true rfl⟩ rfl rfl (wX_1 ad cA σ) rfl rfl (Nat.le_of_ble_eq_true rfl) ⟨Nat.zero_le _, Nat.zero_le _⟩ d_Classes_renewReach_51 (fun r3 σ4 => ?_)
        refine J_if_eq (tgt := 67) h d_Classes_renewReach_54 (by decide) ?_ ?_
        · refine J_sub [1, 2, 3, 4] rfl ?_
          exact J_X_Classes_renewReach_b67 K D A ad cA N h (X_Classes_renewReach_L18 N k73 n) ih v1 v2 v4 σ4
        · refine J_lload_n (q := 3) h d_Classes_renewReach_57 rfl rfl ?_
          refine J_aload_n (q := 1) h d_Classes_renewReach_58 rfl rfl ?_
          refine J_getf h 1 (wX_1 ad cA σ4) (tb_ups in_Classes) rfl 4 (by decide) (tb_up q_1_32) rfl d_Classes_renewReach_59 ?_
          refine J_iload (q := 0) h d_Classes_renewReach_62 rfl ?_
          refine J_lald h 6 4 (wX_6 ad cA σ4) rfl d_Classes_renewReach_64 ?_
          refine J_lor h d_Classes_renewReach_65 ?_
          refine J_nml (fun y6 => ?_)
          refine J_lstore_n (lv' := [(2, .long y6), (5, .int y2), (0, .ref (ad 1)), (1, .int v1), (4, .int v4)]) h d_Classes_renewReach_66 rfl (by decide) rfl ?_
          refine J_sub [2, 3, 0, 4] rfl ?_
          exact J_X_Classes_renewReach_b67 K D A ad cA N h (X_Classes_renewReach_L18 N k73 n) ih v1 y6 v4 σ4
def X_Classes_renewReach_b73 (N : Nat) (k3 : Int32 → SX → Option (Unit × SX)) (v1 : Int32) (v2 : Int64) (σ : SX) : Option (Unit × SX) := (if ck v1 40 = true then (nm (tX_Classes_reach σ (vp_updL (aX_Classes_reach σ) v1.toNatClampNeg v2)) (fun (σ7 : SX) => (nm (v1 + 1) (fun (y8 : Int32) => (k3 y8 σ7))))) else none)
set_option maxRecDepth 100000 in
set_option maxHeartbeats 4000000 in
theorem J_X_Classes_renewReach_b73 (K : jx_E) (D : va_G) (A : Nat → Prop) (ad : Nat → Nat) (cA : Nat → ClassId) (N : Nat) (h : jx_ok K D clX (tysX cA) A 6 b_Classes_renewReach y_Classes_renewReach.cls ((Cond.code y_Classes_renewReach b_Classes_renewReach 6 none) :: tblG) rX_Classes_renewReach none) (k3 : Int32 → SX → Option (Unit × SX)) (hk3 : ∀ (v1 : Int32) (σ : SX), J K D clX A 6 (wX ad cA) (jx_Qv K D clX (tysX cA) (wX ad cA) A) 0 0 3 [(0, .ref (ad 1)), (1, .int v1)] [] σ (k3 v1 σ)) : ∀ (v1 : Int32) (v2 : Int64) (σ : SX), J K D clX A 6 (wX ad cA) (jx_Qv K D clX (tysX cA) (wX ad cA) A) 0 0 73 [(0, .ref (ad 1)), (1, .int v1), (2, .long v2)] [] σ (X_Classes_renewReach_b73 N k3 v1 v2 σ) := by
  intro v1 v2 σ
  rw [X_Classes_renewReach_b73]
  refine J_aload_n (q := 0) h d_Classes_renewReach_73 rfl rfl ?_
  refine J_getf h 1 (wX_1 ad cA σ) (tb_ups in_Classes) rfl 4 (by decide) (tb_up q_1_32) rfl d_Classes_renewReach_74 ?_
  refine J_iload_n (q := 1) h d_Classes_renewReach_77 rfl rfl ?_
  refine J_lload_n (q := 2) h d_Classes_renewReach_78 rfl rfl ?_
  refine J_last h 6 4 (wX_6 ad cA σ) rfl (uX_6 ad cA σ _) d_Classes_renewReach_79 (fun σ7 => ?_)
  refine J_iinc (q := 1) (c := 1) (lv' := fun y8 => [(1, .int y8), (0, .ref (ad 1)), (2, .long v2)]) h d_Classes_renewReach_80 rfl (by decide) (by decide) (fun _ => rfl) (fun y8 => ?_)
  refine J_goto (tgt := 3) h d_Classes_renewReach_83 (by decide) ?_
  refine J_sub [1, 0] rfl ?_
  exact hk3 y8 σ7
def X_Classes_renewReach_L3 (N : Nat) : Nat → Int32 → SX → Option (Unit × SX)
  | 0, _, _ => none
  | n + 1, v1, σ => (if (gX_Classes_size σ) ≤ v1 then (some ((), σ)) else (nm (((1 : Int64) <<< (v1.toInt64 &&& 63))) (fun (y1 : Int64) => (X_Classes_renewReach_L18 N (X_Classes_renewReach_b73 N (X_Classes_renewReach_L3 N  n)) N v1 y1 0 σ))))
set_option maxRecDepth 100000 in
set_option maxHeartbeats 4000000 in
theorem J_X_Classes_renewReach_L3 (K : jx_E) (D : va_G) (A : Nat → Prop) (ad : Nat → Nat) (cA : Nat → ClassId) (N : Nat) (h : jx_ok K D clX (tysX cA) A 6 b_Classes_renewReach y_Classes_renewReach.cls ((Cond.code y_Classes_renewReach b_Classes_renewReach 6 none) :: tblG) rX_Classes_renewReach none) : ∀ (n : Nat) (v1 : Int32) (σ : SX), J K D clX A 6 (wX ad cA) (jx_Qv K D clX (tysX cA) (wX ad cA) A) 0 0 3 [(0, .ref (ad 1)), (1, .int v1)] [] σ (X_Classes_renewReach_L3 N n v1 σ) := by
  intro n
  induction n with
  | zero => intro v1 σ; exact J_none
  | succ n ih =>
    intro v1 σ
    rw [X_Classes_renewReach_L3]
    refine J_iload_n (q := 1) h d_Classes_renewReach_3 rfl rfl ?_
    refine J_aload_n (q := 0) h d_Classes_renewReach_4 rfl rfl ?_
    refine J_getf h 1 (wX_1 ad cA σ) (tb_ups in_Classes) rfl 5 (by decide) (tb_up q_1_33) rfl d_Classes_renewReach_5 ?_
    refine J_icmp_ge (tgt := 86) h d_Classes_renewReach_8 (by decide) ?_ ?_
    · exact J_vret h rfl d_Classes_renewReach_86
    · refine J_lconst (v := 1) h d_Classes_renewReach_11 (by decide) ?_
      refine J_iload_n (q := 1) h d_Classes_renewReach_12 rfl rfl ?_
      refine J_lshl h d_Classes_renewReach_13 ?_
      refine J_nml (fun y1 => ?_)
      refine J_lstore_n (lv' := [(2, .long y1), (0, .ref (ad 1)), (1, .int v1)]) h d_Classes_renewReach_14 rfl (by decide) rfl ?_
      refine J_iconst (v := 0) h d_Classes_renewReach_15 (by decide) ?_
      refine J_istore (lv' := [(4, .int 0), (2, .long y1), (0, .ref (ad 1)), (1, .int v1)]) h d_Classes_renewReach_16 (by decide) rfl ?_
      refine J_sub [2, 3, 1, 0] rfl ?_
      exact J_X_Classes_renewReach_L18 K D A ad cA N h (X_Classes_renewReach_b73 N (X_Classes_renewReach_L3 N  n)) (J_X_Classes_renewReach_b73 K D A ad cA N h (X_Classes_renewReach_L3 N  n) ih) N v1 y1 0 σ
def X_Classes_renewReach (N : Nat)  (σ : SX) : Option (Unit × SX) := (X_Classes_renewReach_L3 N N 9 σ)
set_option maxRecDepth 100000 in
set_option maxHeartbeats 4000000 in
theorem J_X_Classes_renewReach (K : jx_E) (D : va_G) (A : Nat → Prop) (ad : Nat → Nat) (cA : Nat → ClassId) (N : Nat) (h : jx_ok K D clX (tysX cA) A 6 b_Classes_renewReach y_Classes_renewReach.cls ((Cond.code y_Classes_renewReach b_Classes_renewReach 6 none) :: tblG) rX_Classes_renewReach none) : ∀  (σ : SX), J K D clX A 6 (wX ad cA) (jx_Qv K D clX (tysX cA) (wX ad cA) A) 0 0 0 [(0, .ref (ad 1))] [] σ (X_Classes_renewReach N  σ) := by
  intro  σ
  rw [X_Classes_renewReach]
  refine J_bipush (v := 9) h d_Classes_renewReach_0 (by decide) ?_
  refine J_istore_n (lv' := [(1, .int 9), (0, .ref (ad 1))]) h d_Classes_renewReach_2 rfl (by decide) rfl ?_
  refine J_sub [1, 0] rfl ?_
  exact J_X_Classes_renewReach_L3 K D A ad cA N h N 9 σ
set_option maxRecDepth 100000 in
theorem cX_Classes_renewReach (l : Launch) (D : va_G) (ad : Nat → Nat) (cA : Nat → ClassId) (N : Nat)  (σ : SX) (r : Unit) (σ' : SX) (hf : X_Classes_renewReach N  σ = some (r, σ')) : MetV l y_Classes_renewReach ((Cond.code y_Classes_renewReach b_Classes_renewReach 6 none) :: tblG) rX_Classes_renewReach D clX (tysX cA) (wX ad cA) [.ref (ad 1)] σ r σ' :=
  jx_metV (by decide) rfl (Nat.le_of_ble_eq_true rfl) (fun K A h => J_X_Classes_renewReach K D A ad cA N h  σ) hf
def rX_Classes_addParent : Room := { frames := 2, cells := 0, slots := 0, locals := 46 }
theorem rm_ok_X_Classes_addParent : rX_Classes_addParent.cells = 0 ∧ rX_Classes_addParent.slots = 0 := ⟨rfl, rfl⟩
def X_Classes_addParent (N : Nat) (x1 : Int32) (x2 : Int32) (x3 : Int32) (σ : SX) : Option (Int32 × SX) := (bd (X_Classes_has x1 σ) (fun (r1 : Int32) (σ2 : SX) => (if r1 = 0 then (some ((-2), σ2)) else (bd (X_Classes_has x3 σ2) (fun (r3 : Int32) (σ4 : SX) => (if r3 = 0 then (some ((-2), σ4)) else (if ck x1 40 = true then (nm ((aX_Classes_parentCount σ4 x1.toNatClampNeg)) (fun (y5 : Int32) => (if y5 < 0 then (some ((-3), σ4)) else (if y5 < 3 then (if ck ((x1 * 3) + y5) 120 = true then (nm (tX_Classes_parentType σ4 (upd (aX_Classes_parentType σ4) ((x1 * 3) + y5).toNatClampNeg x2)) (fun (σ6 : SX) => (if ck ((x1 * 3) + y5) 120 = true then (nm (tX_Classes_parentClass σ6 (upd (aX_Classes_parentClass σ6) ((x1 * 3) + y5).toNatClampNeg x3)) (fun (σ7 : SX) => (if ck x1 40 = true then (nm (tX_Classes_parentCount σ7 (upd (aX_Classes_parentCount σ7) x1.toNatClampNeg (y5 + 1))) (fun (σ8 : SX) => (bd (X_Classes_renewReach N σ8) (fun (r9 : Unit) (σ10 : SX) => (some ((y5 + 1), σ10)))))) else none))) else none))) else none) else (some ((-3), σ4)))))) else none)))))))
set_option maxRecDepth 100000 in
set_option maxHeartbeats 4000000 in
theorem J_X_Classes_addParent (K : jx_E) (D : va_G) (A : Nat → Prop) (ad : Nat → Nat) (cA : Nat → ClassId) (N : Nat) (h : jx_ok K D clX (tysX cA) A 5 b_Classes_addParent y_Classes_addParent.cls ((Cond.code y_Classes_addParent b_Classes_addParent 5 (some .int)) :: tblG) rX_Classes_addParent (some .int)) : ∀ (x1 : Int32) (x2 : Int32) (x3 : Int32) (σ : SX), J K D clX A 5 (wX ad cA) (jx_Qi K D clX (tysX cA) (wX ad cA) A) 0 0 0 [(0, .ref (ad 1)), (1, .int x1), (2, .int x2), (3, .int x3)] [] σ (X_Classes_addParent N x1 x2 x3 σ) := by
  intro x1 x2 x3 σ
  rw [X_Classes_addParent]
  refine J_aload_n (q := 0) h d_Classes_addParent_0 rfl rfl ?_
  refine J_iload_n (q := 1) h d_Classes_addParent_1 rfl rfl ?_
  refine J_callVi (As := [.int x1]) (st := []) (rmc := rX_Classes_has) (q0 := 1) h (fun _ _ hf => cX_Classes_has (jl K) D ad cA x1 σ _ _ hf) (gd_V q_2_139 q_2_116 q_2_117 q_1_2 q_2_118) rfl ⟨rfl, rfl⟩ dd_Classes_has ⟨Nat.le_of_ble_eq_true rfl, Nat.le_of_ble_eq_true rfl⟩ rfl rfl (wX_1 ad cA σ) rfl rfl (Nat.le_of_ble_eq_true rfl) ⟨Nat.zero_le _, Nat.zero_le _⟩ d_Classes_addParent_2 (fun r1 σ2 => ?_)
  refine J_if_eq (tgt := 16) h d_Classes_addParent_5 (by decide) ?_ ?_
  · refine J_bipush (v := (-2)) h d_Classes_addParent_16 (by decide) ?_
    exact J_iret h rfl d_Classes_addParent_18
  · refine J_aload_n (q := 0) h d_Classes_addParent_8 rfl rfl ?_
    refine J_iload_n (q := 3) h d_Classes_addParent_9 rfl rfl ?_
    refine J_callVi (As := [.int x3]) (st := []) (rmc := rX_Classes_has) (q0 := 1) h (fun _ _ hf => cX_Classes_has (jl K) D ad cA x3 σ2 _ _ hf) (gd_V q_2_139 q_2_116 q_2_117 q_1_2 q_2_118) rfl ⟨rfl, rfl⟩ dd_Classes_has ⟨Nat.le_of_ble_eq_true rfl, Nat.le_of_ble_eq_true rfl⟩ rfl rfl (wX_1 ad cA σ2) rfl rfl (Nat.le_of_ble_eq_true rfl) ⟨Nat.zero_le _, Nat.zero_le _⟩ d_Classes_addParent_10 (fun r3 σ4 => ?_)
    refine J_if_ne (tgt := 19) h d_Classes_addParent_13 (by decide) ?_ ?_
    · refine J_bipush (v := (-2)) h d_Classes_addParent_16 (by decide) ?_
      exact J_iret h rfl d_Classes_addParent_18
    · refine J_aload_n (q := 0) h d_Classes_addParent_19 rfl rfl ?_
      refine J_getf h 1 (wX_1 ad cA σ4) (tb_ups in_Classes) rfl 1 (by decide) (tb_up q_1_29) rfl d_Classes_addParent_20 ?_
      refine J_iload_n (q := 1) h d_Classes_addParent_23 rfl rfl ?_
      refine J_iald h 3 1 (wX_3 ad cA σ4) rfl d_Classes_addParent_24 ?_
      refine J_nmi (fun y5 => ?_)
      refine J_istore (lv' := [(4, .int y5), (0, .ref (ad 1)), (1, .int x1), (2, .int x2), (3, .int x3)]) h d_Classes_addParent_25 (by decide) rfl ?_
      refine J_iload (q := 0) h d_Classes_addParent_27 rfl ?_
      refine J_if_lt (tgt := 38) h d_Classes_addParent_29 (by decide) ?_ ?_
      · refine J_bipush (v := (-3)) h d_Classes_addParent_38 (by decide) ?_
        exact J_iret h rfl d_Classes_addParent_40
      · refine J_iload (q := 0) h d_Classes_addParent_32 rfl ?_
        refine J_iconst (v := 3) h d_Classes_addParent_34 (by decide) ?_
        refine J_icmp_lt (tgt := 41) h d_Classes_addParent_35 (by decide) ?_ ?_
        · refine J_aload_n (q := 1) h d_Classes_addParent_41 rfl rfl ?_
          refine J_getf h 1 (wX_1 ad cA σ4) (tb_ups in_Classes) rfl 2 (by decide) (tb_up q_1_30) rfl d_Classes_addParent_42 ?_
          refine J_iload_n (q := 2) h d_Classes_addParent_45 rfl rfl ?_
          refine J_iconst (v := 3) h d_Classes_addParent_46 (by decide) ?_
          refine J_imul h d_Classes_addParent_47 ?_
          refine J_iload (q := 0) h d_Classes_addParent_48 rfl ?_
          refine J_iadd h d_Classes_addParent_50 ?_
          refine J_iload_n (q := 3) h d_Classes_addParent_51 rfl rfl ?_
          refine J_iast h 4 2 (wX_4 ad cA σ4) rfl (uX_4 ad cA σ4 _) d_Classes_addParent_52 (fun σ6 => ?_)
          refine J_aload_n (q := 1) h d_Classes_addParent_53 rfl rfl ?_
          refine J_getf h 1 (wX_1 ad cA σ6) (tb_ups in_Classes) rfl 3 (by decide) (tb_up q_1_31) rfl d_Classes_addParent_54 ?_
          refine J_iload_n (q := 2) h d_Classes_addParent_57 rfl rfl ?_
          refine J_iconst (v := 3) h d_Classes_addParent_58 (by decide) ?_
          refine J_imul h d_Classes_addParent_59 ?_
          refine J_iload (q := 0) h d_Classes_addParent_60 rfl ?_
          refine J_iadd h d_Classes_addParent_62 ?_
          refine J_iload_n (q := 4) h d_Classes_addParent_63 rfl rfl ?_
          refine J_iast h 5 3 (wX_5 ad cA σ6) rfl (uX_5 ad cA σ6 _) d_Classes_addParent_64 (fun σ7 => ?_)
          refine J_aload_n (q := 1) h d_Classes_addParent_65 rfl rfl ?_
          refine J_getf h 1 (wX_1 ad cA σ7) (tb_ups in_Classes) rfl 1 (by decide) (tb_up q_1_29) rfl d_Classes_addParent_66 ?_
          refine J_iload_n (q := 2) h d_Classes_addParent_69 rfl rfl ?_
          refine J_iload (q := 0) h d_Classes_addParent_70 rfl ?_
          refine J_iconst (v := 1) h d_Classes_addParent_72 (by decide) ?_
          refine J_iadd h d_Classes_addParent_73 ?_
          refine J_iast h 3 1 (wX_3 ad cA σ7) rfl (uX_3 ad cA σ7 _) d_Classes_addParent_74 (fun σ8 => ?_)
          refine J_aload_n (q := 1) h d_Classes_addParent_75 rfl rfl ?_
          refine J_callVv (As := []) (st := []) (rmc := rX_Classes_renewReach) (q0 := 1) h (fun _ _ hf => cX_Classes_renewReach (jl K) D ad cA N  σ8 _ _ hf) (gd_V q_2_161 q_2_163 q_s_1 q_1_2 q_2_164) rfl ⟨rfl, rfl⟩ dd_Classes_renewReach ⟨Nat.le_of_ble_eq_true rfl, Nat.le_of_ble_eq_true rfl⟩ rfl rfl (wX_1 ad cA σ8) rfl rfl (Nat.le_of_ble_eq_true rfl) ⟨Nat.zero_le _, Nat.zero_le _⟩ d_Classes_addParent_76 (fun r9 σ10 => ?_)
          refine J_iload (q := 0) h d_Classes_addParent_79 rfl ?_
          refine J_iconst (v := 1) h d_Classes_addParent_81 (by decide) ?_
          refine J_iadd h d_Classes_addParent_82 ?_
          exact J_iret h rfl d_Classes_addParent_83
        · refine J_bipush (v := (-3)) h d_Classes_addParent_38 (by decide) ?_
          exact J_iret h rfl d_Classes_addParent_40
set_option maxRecDepth 100000 in
theorem cX_Classes_addParent (l : Launch) (D : va_G) (ad : Nat → Nat) (cA : Nat → ClassId) (N : Nat) (x1 : Int32) (x2 : Int32) (x3 : Int32) (σ : SX) (r : Int32) (σ' : SX) (hf : X_Classes_addParent N x1 x2 x3 σ = some (r, σ')) : MetI l y_Classes_addParent ((Cond.code y_Classes_addParent b_Classes_addParent 5 (some .int)) :: tblG) rX_Classes_addParent D clX (tysX cA) (wX ad cA) [.ref (ad 1), .int x1, .int x2, .int x3] σ r σ' :=
  jx_metI (by decide) rfl (Nat.le_of_ble_eq_true rfl) (fun K A h => J_X_Classes_addParent K D A ad cA N h x1 x2 x3 σ) hf
def rX_Classes_reaches : Room := { frames := 1, cells := 0, slots := 0, locals := 21 }
theorem rm_ok_X_Classes_reaches : rX_Classes_reaches.cells = 0 ∧ rX_Classes_reaches.slots = 0 := ⟨rfl, rfl⟩
def X_Classes_reaches (x1 : Int32) (x2 : Int32) (σ : SX) : Option (Int32 × SX) := (bd (X_Classes_has x1 σ) (fun (r1 : Int32) (σ2 : SX) => (if r1 = 0 then (some (0, σ2)) else (bd (X_Classes_has x2 σ2) (fun (r3 : Int32) (σ4 : SX) => (if r3 = 0 then (some (0, σ4)) else (if ck x1 40 = true then (if (lg_cmp (((aX_Classes_reach σ4 x1.toNatClampNeg) >>> (x2.toInt64 &&& 63)) &&& 1) 0) = 0 then (some (0, σ4)) else (some (1, σ4))) else none)))))))
set_option maxRecDepth 100000 in
set_option maxHeartbeats 4000000 in
theorem J_X_Classes_reaches (K : jx_E) (D : va_G) (A : Nat → Prop) (ad : Nat → Nat) (cA : Nat → ClassId) (h : jx_ok K D clX (tysX cA) A 3 b_Classes_reaches y_Classes_reaches.cls ((Cond.code y_Classes_reaches b_Classes_reaches 3 (some .boolean)) :: tblG) rX_Classes_reaches (some .boolean)) : ∀ (x1 : Int32) (x2 : Int32) (σ : SX), J K D clX A 3 (wX ad cA) (jx_Qi K D clX (tysX cA) (wX ad cA) A) 0 0 0 [(0, .ref (ad 1)), (1, .int x1), (2, .int x2)] [] σ (X_Classes_reaches x1 x2 σ) := by
  intro x1 x2 σ
  rw [X_Classes_reaches]
  refine J_aload_n (q := 0) h d_Classes_reaches_0 rfl rfl ?_
  refine J_iload_n (q := 1) h d_Classes_reaches_1 rfl rfl ?_
  refine J_callVi (As := [.int x1]) (st := []) (rmc := rX_Classes_has) (q0 := 1) h (fun _ _ hf => cX_Classes_has (jl K) D ad cA x1 σ _ _ hf) (gd_V q_2_139 q_2_116 q_2_117 q_1_2 q_2_118) rfl ⟨rfl, rfl⟩ dd_Classes_has ⟨Nat.le_of_ble_eq_true rfl, Nat.le_of_ble_eq_true rfl⟩ rfl rfl (wX_1 ad cA σ) rfl rfl (Nat.le_of_ble_eq_true rfl) ⟨Nat.zero_le _, Nat.zero_le _⟩ d_Classes_reaches_2 (fun r1 σ2 => ?_)
  refine J_if_eq (tgt := 35) h d_Classes_reaches_5 (by decide) ?_ ?_
  · refine J_iconst (v := 0) h d_Classes_reaches_35 (by decide) ?_
    exact J_zret h rfl (by decide) d_Classes_reaches_36
  · refine J_aload_n (q := 0) h d_Classes_reaches_8 rfl rfl ?_
    refine J_iload_n (q := 2) h d_Classes_reaches_9 rfl rfl ?_
    refine J_callVi (As := [.int x2]) (st := []) (rmc := rX_Classes_has) (q0 := 1) h (fun _ _ hf => cX_Classes_has (jl K) D ad cA x2 σ2 _ _ hf) (gd_V q_2_139 q_2_116 q_2_117 q_1_2 q_2_118) rfl ⟨rfl, rfl⟩ dd_Classes_has ⟨Nat.le_of_ble_eq_true rfl, Nat.le_of_ble_eq_true rfl⟩ rfl rfl (wX_1 ad cA σ2) rfl rfl (Nat.le_of_ble_eq_true rfl) ⟨Nat.zero_le _, Nat.zero_le _⟩ d_Classes_reaches_10 (fun r3 σ4 => ?_)
    refine J_if_eq (tgt := 35) h d_Classes_reaches_13 (by decide) ?_ ?_
    · refine J_iconst (v := 0) h d_Classes_reaches_35 (by decide) ?_
      exact J_zret h rfl (by decide) d_Classes_reaches_36
    · refine J_aload_n (q := 0) h d_Classes_reaches_16 rfl rfl ?_
      refine J_getf h 1 (wX_1 ad cA σ4) (tb_ups in_Classes) rfl 4 (by decide) (tb_up q_1_32) rfl d_Classes_reaches_17 ?_
      refine J_iload_n (q := 1) h d_Classes_reaches_20 rfl rfl ?_
      refine J_lald h 6 4 (wX_6 ad cA σ4) rfl d_Classes_reaches_21 ?_
      refine J_iload_n (q := 2) h d_Classes_reaches_22 rfl rfl ?_
      refine J_lshr h d_Classes_reaches_23 ?_
      refine J_lconst (v := 1) h d_Classes_reaches_24 (by decide) ?_
      refine J_land h d_Classes_reaches_25 ?_
      refine J_lconst (v := 0) h d_Classes_reaches_26 (by decide) ?_
      refine J_lcmp h d_Classes_reaches_27 ?_
      refine J_if_eq (tgt := 35) h d_Classes_reaches_28 (by decide) ?_ ?_
      · refine J_iconst (v := 0) h d_Classes_reaches_35 (by decide) ?_
        exact J_zret h rfl (by decide) d_Classes_reaches_36
      · refine J_iconst (v := 1) h d_Classes_reaches_31 (by decide) ?_
        refine J_goto (tgt := 36) h d_Classes_reaches_32 (by decide) ?_
        exact J_zret h rfl (by decide) d_Classes_reaches_36
set_option maxRecDepth 100000 in
theorem cX_Classes_reaches (l : Launch) (D : va_G) (ad : Nat → Nat) (cA : Nat → ClassId) (x1 : Int32) (x2 : Int32) (σ : SX) (r : Int32) (σ' : SX) (hf : X_Classes_reaches x1 x2 σ = some (r, σ')) : MetI l y_Classes_reaches ((Cond.code y_Classes_reaches b_Classes_reaches 3 (some .boolean)) :: tblG) rX_Classes_reaches D clX (tysX cA) (wX ad cA) [.ref (ad 1), .int x1, .int x2] σ r σ' :=
  jx_metI (by decide) rfl (Nat.le_of_ble_eq_true rfl) (fun K A h => J_X_Classes_reaches K D A ad cA h x1 x2 σ) hf
def rX_Classes_parentTowards : Room := { frames := 1, cells := 0, slots := 0, locals := 21 }
theorem rm_ok_X_Classes_parentTowards : rX_Classes_parentTowards.cells = 0 ∧ rX_Classes_parentTowards.slots = 0 := ⟨rfl, rfl⟩
def X_Classes_parentTowards_b75 (N : Nat) (k12 : Int32 → Int32 → Int32 → SX → Option (Int32 × SX)) (v1 : Int32) (v2 : Int32) (v3 : Int32) (σ : SX) : Option (Int32 × SX) := (nm (v3 + 1) (fun (y6 : Int32) => (k12 v1 v2 y6 σ)))
set_option maxRecDepth 100000 in
set_option maxHeartbeats 4000000 in
theorem J_X_Classes_parentTowards_b75 (K : jx_E) (D : va_G) (A : Nat → Prop) (ad : Nat → Nat) (cA : Nat → ClassId) (N : Nat) (h : jx_ok K D clX (tysX cA) A 5 b_Classes_parentTowards y_Classes_parentTowards.cls ((Cond.code y_Classes_parentTowards b_Classes_parentTowards 5 (some .int)) :: tblG) rX_Classes_parentTowards (some .int)) (k12 : Int32 → Int32 → Int32 → SX → Option (Int32 × SX)) (hk12 : ∀ (v1 : Int32) (v2 : Int32) (v3 : Int32) (σ : SX), J K D clX A 5 (wX ad cA) (jx_Qi K D clX (tysX cA) (wX ad cA) A) 0 0 12 [(0, .ref (ad 1)), (1, .int v1), (2, .int v2), (3, .int v3)] [] σ (k12 v1 v2 v3 σ)) : ∀ (v1 : Int32) (v2 : Int32) (v3 : Int32) (σ : SX), J K D clX A 5 (wX ad cA) (jx_Qi K D clX (tysX cA) (wX ad cA) A) 0 0 75 [(0, .ref (ad 1)), (1, .int v1), (2, .int v2), (3, .int v3)] [] σ (X_Classes_parentTowards_b75 N k12 v1 v2 v3 σ) := by
  intro v1 v2 v3 σ
  rw [X_Classes_parentTowards_b75]
  refine J_iinc (q := 3) (c := 1) (lv' := fun y6 => [(3, .int y6), (0, .ref (ad 1)), (1, .int v1), (2, .int v2)]) h d_Classes_parentTowards_75 rfl (by decide) (by decide) (fun _ => rfl) (fun y6 => ?_)
  refine J_goto (tgt := 12) h d_Classes_parentTowards_78 (by decide) ?_
  refine J_sub [1, 2, 3, 0] rfl ?_
  exact hk12 v1 v2 y6 σ
def X_Classes_parentTowards_L12 (N : Nat) (k64 : Int32 → Int32 → SX → Option (Int32 × SX)) : Nat → Int32 → Int32 → Int32 → SX → Option (Int32 × SX)
  | 0, _, _, _, _ => none
  | n + 1, v1, v2, v3, σ => (if ck v1 40 = true then (if (aX_Classes_parentCount σ v1.toNatClampNeg) ≤ v3 then (some ((-1), σ)) else (if (3 : Int32) ≤ v3 then (some ((-1), σ)) else (if ck ((v1 * 3) + v3) 120 = true then (nm ((aX_Classes_parentClass σ ((v1 * 3) + v3).toNatClampNeg)) (fun (y3 : Int32) => (bd (X_Classes_has y3 σ) (fun (r4 : Int32) (σ5 : SX) => (if r4 = 0 then (X_Classes_parentTowards_b75 N (X_Classes_parentTowards_L12 N k64 n) v1 v2 v3 σ5) else (if ck y3 40 = true then (if (lg_cmp (((aX_Classes_reach σ5 y3.toNatClampNeg) >>> (v2.toInt64 &&& 63)) &&& 1) 0) = 0 then (X_Classes_parentTowards_b75 N (X_Classes_parentTowards_L12 N k64 n) v1 v2 v3 σ5) else (k64 v1 v3 σ5)) else none)))))) else none))) else none)
set_option maxRecDepth 100000 in
set_option maxHeartbeats 4000000 in
theorem J_X_Classes_parentTowards_L12 (K : jx_E) (D : va_G) (A : Nat → Prop) (ad : Nat → Nat) (cA : Nat → ClassId) (N : Nat) (h : jx_ok K D clX (tysX cA) A 5 b_Classes_parentTowards y_Classes_parentTowards.cls ((Cond.code y_Classes_parentTowards b_Classes_parentTowards 5 (some .int)) :: tblG) rX_Classes_parentTowards (some .int)) (k64 : Int32 → Int32 → SX → Option (Int32 × SX)) (hk64 : ∀ (v1 : Int32) (v3 : Int32) (σ : SX), J K D clX A 5 (wX ad cA) (jx_Qi K D clX (tysX cA) (wX ad cA) A) 0 0 64 [(0, .ref (ad 1)), (1, .int v1), (3, .int v3)] [] σ (k64 v1 v3 σ)) : ∀ (n : Nat) (v1 : Int32) (v2 : Int32) (v3 : Int32) (σ : SX), J K D clX A 5 (wX ad cA) (jx_Qi K D clX (tysX cA) (wX ad cA) A) 0 0 12 [(0, .ref (ad 1)), (1, .int v1), (2, .int v2), (3, .int v3)] [] σ (X_Classes_parentTowards_L12 N k64 n v1 v2 v3 σ) := by
  intro n
  induction n with
  | zero => intro v1 v2 v3 σ; exact J_none
  | succ n ih =>
    intro v1 v2 v3 σ
    rw [X_Classes_parentTowards_L12]
    refine J_iload_n (q := 3) h d_Classes_parentTowards_12 rfl rfl ?_
    refine J_aload_n (q := 0) h d_Classes_parentTowards_13 rfl rfl ?_
    refine J_getf h 1 (wX_1 ad cA σ) (tb_ups in_Classes) rfl 1 (by decide) (tb_up q_1_29) rfl d_Classes_parentTowards_14 ?_
    refine J_iload_n (q := 1) h d_Classes_parentTowards_17 rfl rfl ?_
    refine J_iald h 3 1 (wX_3 ad cA σ) rfl d_Classes_parentTowards_18 ?_
    refine J_icmp_ge (tgt := 81) h d_Classes_parentTowards_19 (by decide) ?_ ?_
    · refine J_iconst (v := (-1)) h d_Classes_parentTowards_81 (by decide) ?_
      exact J_iret h rfl d_Classes_parentTowards_82
    · refine J_iload_n (q := 3) h d_Classes_parentTowards_22 rfl rfl ?_
      refine J_iconst (v := 3) h d_Classes_parentTowards_23 (by decide) ?_
      refine J_icmp_ge (tgt := 81) h d_Classes_parentTowards_24 (by decide) ?_ ?_
      · refine J_iconst (v := (-1)) h d_Classes_parentTowards_81 (by decide) ?_
        exact J_iret h rfl d_Classes_parentTowards_82
      · refine J_aload_n (q := 0) h d_Classes_parentTowards_27 rfl rfl ?_
        refine J_getf h 1 (wX_1 ad cA σ) (tb_ups in_Classes) rfl 3 (by decide) (tb_up q_1_31) rfl d_Classes_parentTowards_28 ?_
        refine J_iload_n (q := 1) h d_Classes_parentTowards_31 rfl rfl ?_
        refine J_iconst (v := 3) h d_Classes_parentTowards_32 (by decide) ?_
        refine J_imul h d_Classes_parentTowards_33 ?_
        refine J_iload_n (q := 3) h d_Classes_parentTowards_34 rfl rfl ?_
        refine J_iadd h d_Classes_parentTowards_35 ?_
        refine J_iald h 5 3 (wX_5 ad cA σ) rfl d_Classes_parentTowards_36 ?_
        refine J_nmi (fun y3 => ?_)
        refine J_istore (lv' := [(4, .int y3), (0, .ref (ad 1)), (1, .int v1), (2, .int v2), (3, .int v3)]) h d_Classes_parentTowards_37 (by decide) rfl ?_
        refine J_aload_n (q := 1) h d_Classes_parentTowards_39 rfl rfl ?_
        refine J_iload (q := 0) h d_Classes_parentTowards_40 rfl ?_
        refine J_callVi (As := [.int y3]) (st := []) (rmc := rX_Classes_has) (q0 := 1) h (fun _ _ hf => cX_Classes_has (jl K) D ad cA y3 σ _ _ hf) (gd_V q_2_139 q_2_116 q_2_117 q_1_2 q_2_118) rfl ⟨rfl, rfl⟩ dd_Classes_has ⟨Nat.le_of_ble_eq_true rfl, Nat.le_of_ble_eq_true rfl⟩ rfl rfl (wX_1 ad cA σ) rfl rfl (Nat.le_of_ble_eq_true rfl) ⟨Nat.zero_le _, Nat.zero_le _⟩ d_Classes_parentTowards_42 (fun r4 σ5 => ?_)
        refine J_if_eq (tgt := 75) h d_Classes_parentTowards_45 (by decide) ?_ ?_
        · refine J_sub [1, 2, 3, 4] rfl ?_
          exact J_X_Classes_parentTowards_b75 K D A ad cA N h (X_Classes_parentTowards_L12 N k64 n) ih v1 v2 v3 σ5
        · refine J_aload_n (q := 1) h d_Classes_parentTowards_48 rfl rfl ?_
          refine J_getf h 1 (wX_1 ad cA σ5) (tb_ups in_Classes) rfl 4 (by decide) (tb_up q_1_32) rfl d_Classes_parentTowards_49 ?_
          refine J_iload (q := 0) h d_Classes_parentTowards_52 rfl ?_
          refine J_lald h 6 4 (wX_6 ad cA σ5) rfl d_Classes_parentTowards_54 ?_
          refine J_iload_n (q := 3) h d_Classes_parentTowards_55 rfl rfl ?_
          refine J_lshr h d_Classes_parentTowards_56 ?_
          refine J_lconst (v := 1) h d_Classes_parentTowards_57 (by decide) ?_
          refine J_land h d_Classes_parentTowards_58 ?_
          refine J_lconst (v := 0) h d_Classes_parentTowards_59 (by decide) ?_
          refine J_lcmp h d_Classes_parentTowards_60 ?_
          refine J_if_eq (tgt := 75) h d_Classes_parentTowards_61 (by decide) ?_ ?_
          · refine J_sub [1, 2, 3, 4] rfl ?_
            exact J_X_Classes_parentTowards_b75 K D A ad cA N h (X_Classes_parentTowards_L12 N k64 n) ih v1 v2 v3 σ5
          · refine J_sub [1, 2, 4] rfl ?_
            exact hk64 v1 v3 σ5
def X_Classes_parentTowards_b64 (N : Nat) (v1 : Int32) (v3 : Int32) (σ : SX) : Option (Int32 × SX) := (if ck ((v1 * 3) + v3) 120 = true then (some ((aX_Classes_parentType σ ((v1 * 3) + v3).toNatClampNeg), σ)) else none)
set_option maxRecDepth 100000 in
set_option maxHeartbeats 4000000 in
theorem J_X_Classes_parentTowards_b64 (K : jx_E) (D : va_G) (A : Nat → Prop) (ad : Nat → Nat) (cA : Nat → ClassId) (N : Nat) (h : jx_ok K D clX (tysX cA) A 5 b_Classes_parentTowards y_Classes_parentTowards.cls ((Cond.code y_Classes_parentTowards b_Classes_parentTowards 5 (some .int)) :: tblG) rX_Classes_parentTowards (some .int)) : ∀ (v1 : Int32) (v3 : Int32) (σ : SX), J K D clX A 5 (wX ad cA) (jx_Qi K D clX (tysX cA) (wX ad cA) A) 0 0 64 [(0, .ref (ad 1)), (1, .int v1), (3, .int v3)] [] σ (X_Classes_parentTowards_b64 N v1 v3 σ) := by
  intro v1 v3 σ
  rw [X_Classes_parentTowards_b64]
  refine J_aload_n (q := 0) h d_Classes_parentTowards_64 rfl rfl ?_
  refine J_getf h 1 (wX_1 ad cA σ) (tb_ups in_Classes) rfl 2 (by decide) (tb_up q_1_30) rfl d_Classes_parentTowards_65 ?_
  refine J_iload_n (q := 1) h d_Classes_parentTowards_68 rfl rfl ?_
  refine J_iconst (v := 3) h d_Classes_parentTowards_69 (by decide) ?_
  refine J_imul h d_Classes_parentTowards_70 ?_
  refine J_iload_n (q := 2) h d_Classes_parentTowards_71 rfl rfl ?_
  refine J_iadd h d_Classes_parentTowards_72 ?_
  refine J_iald h 4 2 (wX_4 ad cA σ) rfl d_Classes_parentTowards_73 ?_
  exact J_iret h rfl d_Classes_parentTowards_74
def X_Classes_parentTowards (N : Nat) (x1 : Int32) (x2 : Int32) (σ : SX) : Option (Int32 × SX) := (bd (X_Classes_has x1 σ) (fun (r1 : Int32) (σ2 : SX) => (if r1 = 0 then (some ((-1), σ2)) else (X_Classes_parentTowards_L12 N (X_Classes_parentTowards_b64 N) N x1 x2 0 σ2))))
set_option maxRecDepth 100000 in
set_option maxHeartbeats 4000000 in
theorem J_X_Classes_parentTowards (K : jx_E) (D : va_G) (A : Nat → Prop) (ad : Nat → Nat) (cA : Nat → ClassId) (N : Nat) (h : jx_ok K D clX (tysX cA) A 5 b_Classes_parentTowards y_Classes_parentTowards.cls ((Cond.code y_Classes_parentTowards b_Classes_parentTowards 5 (some .int)) :: tblG) rX_Classes_parentTowards (some .int)) : ∀ (x1 : Int32) (x2 : Int32) (σ : SX), J K D clX A 5 (wX ad cA) (jx_Qi K D clX (tysX cA) (wX ad cA) A) 0 0 0 [(0, .ref (ad 1)), (1, .int x1), (2, .int x2)] [] σ (X_Classes_parentTowards N x1 x2 σ) := by
  intro x1 x2 σ
  rw [X_Classes_parentTowards]
  refine J_aload_n (q := 0) h d_Classes_parentTowards_0 rfl rfl ?_
  refine J_iload_n (q := 1) h d_Classes_parentTowards_1 rfl rfl ?_
  refine J_callVi (As := [.int x1]) (st := []) (rmc := rX_Classes_has) (q0 := 1) h (fun _ _ hf => cX_Classes_has (jl K) D ad cA x1 σ _ _ hf) (gd_V q_2_139 q_2_116 q_2_117 q_1_2 q_2_118) rfl ⟨rfl, rfl⟩ dd_Classes_has ⟨Nat.le_of_ble_eq_true rfl, Nat.le_of_ble_eq_true rfl⟩ rfl rfl (wX_1 ad cA σ) rfl rfl (Nat.le_of_ble_eq_true rfl) ⟨Nat.zero_le _, Nat.zero_le _⟩ d_Classes_parentTowards_2 (fun r1 σ2 => ?_)
  refine J_if_ne (tgt := 10) h d_Classes_parentTowards_5 (by decide) ?_ ?_
  · refine J_iconst (v := (-1)) h d_Classes_parentTowards_8 (by decide) ?_
    exact J_iret h rfl d_Classes_parentTowards_9
  · refine J_iconst (v := 0) h d_Classes_parentTowards_10 (by decide) ?_
    refine J_istore_n (lv' := [(3, .int 0), (0, .ref (ad 1)), (1, .int x1), (2, .int x2)]) h d_Classes_parentTowards_11 rfl (by decide) rfl ?_
    refine J_sub [1, 2, 3, 0] rfl ?_
    exact J_X_Classes_parentTowards_L12 K D A ad cA N h (X_Classes_parentTowards_b64 N) (J_X_Classes_parentTowards_b64 K D A ad cA N h) N x1 x2 0 σ2
set_option maxRecDepth 100000 in
theorem cX_Classes_parentTowards (l : Launch) (D : va_G) (ad : Nat → Nat) (cA : Nat → ClassId) (N : Nat) (x1 : Int32) (x2 : Int32) (σ : SX) (r : Int32) (σ' : SX) (hf : X_Classes_parentTowards N x1 x2 σ = some (r, σ')) : MetI l y_Classes_parentTowards ((Cond.code y_Classes_parentTowards b_Classes_parentTowards 5 (some .int)) :: tblG) rX_Classes_parentTowards D clX (tysX cA) (wX ad cA) [.ref (ad 1), .int x1, .int x2] σ r σ' :=
  jx_metI (by decide) rfl (Nat.le_of_ble_eq_true rfl) (fun K A h => J_X_Classes_parentTowards K D A ad cA N h x1 x2 σ) hf
def rX_Exchange_forVariables : Room := { frames := 0, cells := 0, slots := 0, locals := 0 }
theorem rm_ok_X_Exchange_forVariables : rX_Exchange_forVariables.cells = 0 ∧ rX_Exchange_forVariables.slots = 0 := ⟨rfl, rfl⟩
def X_Exchange_forVariables  (σ : SX) : Option (Unit × SX) := (nm (sX_Exchange_stamp σ ((gX_Exchange_stamp σ) + 1)) (fun (σ1 : SX) => (nm (sX_Exchange_variables σ1 0) (fun (σ2 : SX) => (nm (sX_Exchange_owner σ2 (-1)) (fun (σ3 : SX) => (some ((), σ3))))))))
set_option maxRecDepth 100000 in
set_option maxHeartbeats 4000000 in
theorem J_X_Exchange_forVariables (K : jx_E) (D : va_G) (A : Nat → Prop) (ad : Nat → Nat) (cA : Nat → ClassId) (h : jx_ok K D clX (tysX cA) A 1 b_Exchange_forVariables y_Exchange_forVariables.cls ((Cond.code y_Exchange_forVariables b_Exchange_forVariables 1 none) :: tblG) rX_Exchange_forVariables none) : ∀  (σ : SX), J K D clX A 1 (wX ad cA) (jx_Qv K D clX (tysX cA) (wX ad cA) A) 0 0 0 [(0, .ref (ad 24))] [] σ (X_Exchange_forVariables  σ) := by
  intro  σ
  rw [X_Exchange_forVariables]
  refine J_aload_n (q := 0) h d_Exchange_forVariables_0 rfl rfl ?_
  refine J_dup h d_Exchange_forVariables_1 rfl ?_
  refine J_getf h 24 (wX_24 ad cA σ) (tb_ups in_Exchange) rfl 4 (by decide) (tb_up q_1_131) rfl d_Exchange_forVariables_2 ?_
  refine J_iconst (v := 1) h d_Exchange_forVariables_5 (by decide) ?_
  refine J_iadd h d_Exchange_forVariables_6 ?_
  refine J_putf h 24 (wX_24 ad cA σ) (tb_ups in_Exchange) rfl ft_Exchange ft_Exchange_ok nm_Exchange 4 (by decide) (tb_up q_1_131) rfl rfl rfl (Nat.le_of_ble_eq_true rfl) (pX_24_4 ad cA σ ((gX_Exchange_stamp σ) + 1)) d_Exchange_forVariables_7 (fun σ1 => ?_)
  refine J_aload_n (q := 0) h d_Exchange_forVariables_10 rfl rfl ?_
  refine J_iconst (v := 0) h d_Exchange_forVariables_11 (by decide) ?_
  refine J_putf h 24 (wX_24 ad cA σ1) (tb_ups in_Exchange) rfl ft_Exchange ft_Exchange_ok nm_Exchange 5 (by decide) (tb_up q_1_132) rfl rfl rfl (Nat.le_of_ble_eq_true rfl) (pX_24_5 ad cA σ1 0) d_Exchange_forVariables_12 (fun σ2 => ?_)
  refine J_aload_n (q := 0) h d_Exchange_forVariables_15 rfl rfl ?_
  refine J_iconst (v := (-1)) h d_Exchange_forVariables_16 (by decide) ?_
  refine J_putf h 24 (wX_24 ad cA σ2) (tb_ups in_Exchange) rfl ft_Exchange ft_Exchange_ok nm_Exchange 6 (by decide) (tb_up q_1_133) rfl rfl rfl (Nat.le_of_ble_eq_true rfl) (pX_24_6 ad cA σ2 (-1)) d_Exchange_forVariables_17 (fun σ3 => ?_)
  exact J_vret h rfl d_Exchange_forVariables_20
set_option maxRecDepth 100000 in
theorem cX_Exchange_forVariables (l : Launch) (D : va_G) (ad : Nat → Nat) (cA : Nat → ClassId)  (σ : SX) (r : Unit) (σ' : SX) (hf : X_Exchange_forVariables  σ = some (r, σ')) : MetV l y_Exchange_forVariables ((Cond.code y_Exchange_forVariables b_Exchange_forVariables 1 none) :: tblG) rX_Exchange_forVariables D clX (tysX cA) (wX ad cA) [.ref (ad 24)] σ r σ' :=
  jx_metV (by decide) rfl (Nat.le_of_ble_eq_true rfl) (fun K A h => J_X_Exchange_forVariables K D A ad cA h  σ) hf
def rX_Exchange_setInstead : Room := { frames := 0, cells := 0, slots := 0, locals := 0 }
theorem rm_ok_X_Exchange_setInstead : rX_Exchange_setInstead.cells = 0 ∧ rX_Exchange_setInstead.slots = 0 := ⟨rfl, rfl⟩
def X_Exchange_setInstead (x1 : Int32) (x2 : Int32) (σ : SX) : Option (Unit × SX) := (if x1 < 0 then (some ((), σ)) else (if x1 < 12 then (if ck x1 12 = true then (nm (tX_Exchange_instead σ (upd (aX_Exchange_instead σ) x1.toNatClampNeg x2)) (fun (σ1 : SX) => (nm (sX_Exchange_variables σ1 ((gX_Exchange_variables σ1) ||| ((1 : Int32) <<< (x1 &&& 31)))) (fun (σ2 : SX) => (some ((), σ2)))))) else none) else (some ((), σ))))
set_option maxRecDepth 100000 in
set_option maxHeartbeats 4000000 in
theorem J_X_Exchange_setInstead (K : jx_E) (D : va_G) (A : Nat → Prop) (ad : Nat → Nat) (cA : Nat → ClassId) (h : jx_ok K D clX (tysX cA) A 3 b_Exchange_setInstead y_Exchange_setInstead.cls ((Cond.code y_Exchange_setInstead b_Exchange_setInstead 3 none) :: tblG) rX_Exchange_setInstead none) : ∀ (x1 : Int32) (x2 : Int32) (σ : SX), J K D clX A 3 (wX ad cA) (jx_Qv K D clX (tysX cA) (wX ad cA) A) 0 0 0 [(0, .ref (ad 24)), (1, .int x1), (2, .int x2)] [] σ (X_Exchange_setInstead x1 x2 σ) := by
  intro x1 x2 σ
  rw [X_Exchange_setInstead]
  refine J_iload_n (q := 1) h d_Exchange_setInstead_0 rfl rfl ?_
  refine J_if_lt (tgt := 10) h d_Exchange_setInstead_1 (by decide) ?_ ?_
  · exact J_vret h rfl d_Exchange_setInstead_10
  · refine J_iload_n (q := 1) h d_Exchange_setInstead_4 rfl rfl ?_
    refine J_bipush (v := 12) h d_Exchange_setInstead_5 (by decide) ?_
    refine J_icmp_lt (tgt := 11) h d_Exchange_setInstead_7 (by decide) ?_ ?_
    · refine J_aload_n (q := 0) h d_Exchange_setInstead_11 rfl rfl ?_
      refine J_getf h 24 (wX_24 ad cA σ) (tb_ups in_Exchange) rfl 1 (by decide) (tb_up q_1_128) rfl d_Exchange_setInstead_12 ?_
      refine J_iload_n (q := 1) h d_Exchange_setInstead_15 rfl rfl ?_
      refine J_iload_n (q := 2) h d_Exchange_setInstead_16 rfl rfl ?_
      refine J_iast h 25 20 (wX_25 ad cA σ) rfl (uX_25 ad cA σ _) d_Exchange_setInstead_17 (fun σ1 => ?_)
      refine J_aload_n (q := 0) h d_Exchange_setInstead_18 rfl rfl ?_
      refine J_dup h d_Exchange_setInstead_19 rfl ?_
      refine J_getf h 24 (wX_24 ad cA σ1) (tb_ups in_Exchange) rfl 5 (by decide) (tb_up q_1_132) rfl d_Exchange_setInstead_20 ?_
      refine J_iconst (v := 1) h d_Exchange_setInstead_23 (by decide) ?_
      refine J_iload_n (q := 1) h d_Exchange_setInstead_24 rfl rfl ?_
      refine J_ishl h d_Exchange_setInstead_25 ?_
      refine J_ior h d_Exchange_setInstead_26 ?_
      refine J_putf h 24 (wX_24 ad cA σ1) (tb_ups in_Exchange) rfl ft_Exchange ft_Exchange_ok nm_Exchange 5 (by decide) (tb_up q_1_132) rfl rfl rfl (Nat.le_of_ble_eq_true rfl) (pX_24_5 ad cA σ1 ((gX_Exchange_variables σ1) ||| ((1 : Int32) <<< (x1 &&& 31)))) d_Exchange_setInstead_27 (fun σ2 => ?_)
      exact J_vret h rfl d_Exchange_setInstead_30
    · exact J_vret h rfl d_Exchange_setInstead_10
set_option maxRecDepth 100000 in
theorem cX_Exchange_setInstead (l : Launch) (D : va_G) (ad : Nat → Nat) (cA : Nat → ClassId) (x1 : Int32) (x2 : Int32) (σ : SX) (r : Unit) (σ' : SX) (hf : X_Exchange_setInstead x1 x2 σ = some (r, σ')) : MetV l y_Exchange_setInstead ((Cond.code y_Exchange_setInstead b_Exchange_setInstead 3 none) :: tblG) rX_Exchange_setInstead D clX (tysX cA) (wX ad cA) [.ref (ad 24), .int x1, .int x2] σ r σ' :=
  jx_metV (by decide) rfl (Nat.le_of_ble_eq_true rfl) (fun K A h => J_X_Exchange_setInstead K D A ad cA h x1 x2 σ) hf
end
