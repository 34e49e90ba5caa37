def rX_Reducer_aboveOf : Room := { frames := 24, cells := 0, slots := 0, locals := 725 }
theorem rm_ok_X_Reducer_aboveOf : rX_Reducer_aboveOf.cells = 0 ∧ rX_Reducer_aboveOf.slots = 0 := ⟨rfl, rfl⟩
def X_Reducer_aboveOf_L5 (N : Nat) (k41 : Int32 → Int32 → Int32 → SX → Option (Int32 × SX)) : Nat → Int32 → Int32 → Int32 → Int32 → SX → Option (Int32 × SX)
  | 0, _, _, _, _, _ => none
  | n + 1, v1, v2, v3, v4, σ => (if (20 : Int32) ≤ v4 then (k41 v1 v2 v3 σ) else (bd (X_Types_kindOf v3 σ) (fun (r1 : Int32) (σ2 : SX) => (if r1 = 8 then (bd (X_Types_captureBound v3 1 σ2) (fun (r3 : Int32) (σ4 : SX) => (nm (v4 + 1) (fun (y5 : Int32) => (X_Reducer_aboveOf_L5 N k41 n v1 v2 r3 y5 σ4))))) else (k41 v1 v2 v3 σ2)))))
set_option maxRecDepth 100000 in
set_option maxHeartbeats 4000000 in
theorem J_X_Reducer_aboveOf_L5 (K : jx_E) (D : va_G) (A : Nat → Prop) (ad : Nat → Nat) (cA : Nat → ClassId) (N : Nat) (h : jx_ok K D clX (tysX cA) A 7 b_Reducer_aboveOf y_Reducer_aboveOf.cls ((Cond.code y_Reducer_aboveOf b_Reducer_aboveOf 7 (some .int)) :: tblG) rX_Reducer_aboveOf (some .int)) (k41 : Int32 → Int32 → Int32 → SX → Option (Int32 × SX)) (hk41 : ∀ (v1 : Int32) (v2 : Int32) (v3 : Int32) (σ : SX), J K D clX A 7 (wX ad cA) (jx_Qi K D clX (tysX cA) (wX ad cA) A) 0 0 41 [(0, .ref (ad 29)), (1, .int v1), (2, .int v2), (3, .int v3)] [] σ (k41 v1 v2 v3 σ)) : ∀ (n : Nat) (v1 : Int32) (v2 : Int32) (v3 : Int32) (v4 : Int32) (σ : SX), J K D clX A 7 (wX ad cA) (jx_Qi K D clX (tysX cA) (wX ad cA) A) 0 0 5 [(0, .ref (ad 29)), (1, .int v1), (2, .int v2), (3, .int v3), (4, .int v4)] [] σ (X_Reducer_aboveOf_L5 N k41 n v1 v2 v3 v4 σ) := by
  intro n
  induction n with
  | zero => intro v1 v2 v3 v4 σ; exact J_none
  | succ n ih =>
    intro v1 v2 v3 v4 σ
    rw [X_Reducer_aboveOf_L5]
    refine J_iload (q := 4) h d_Reducer_aboveOf_5 rfl ?_
    refine J_bipush (v := 20) h d_Reducer_aboveOf_7 (by decide) ?_
    refine J_icmp_ge (tgt := 41) h d_Reducer_aboveOf_9 (by decide) ?_ ?_
    · refine J_sub [0, 1, 2, 3] rfl ?_
      exact hk41 v1 v2 v3 σ
    · refine J_aload_n (q := 0) h d_Reducer_aboveOf_12 rfl rfl ?_
      refine J_getf h 29 (wX_29 ad cA σ) (tb_ups in_Reducer) rfl 1 (by decide) (tb_up q_1_198) rfl d_Reducer_aboveOf_13 ?_
      refine J_iload_n (q := 3) h d_Reducer_aboveOf_16 rfl rfl ?_
      refine J_callVi (As := [.int v3]) (st := []) (rmc := rX_Types_kindOf) (q0 := 7) h (fun _ _ hf => cX_Types_kindOf (jl K) D ad cA v3 σ _ _ hf) (gd_V q_3_21 q_2_127 q_2_128 q_1_3 q_2_129) rfl ⟨rfl, rfl⟩ dd_Types_kindOf ⟨Nat.le_of_ble_eq_true rfl, Nat.le_of_ble_eq_true rfl⟩ rfl rfl (wX_7 ad cA σ) rfl rfl (Nat.le_of_ble_eq_true rfl) ⟨Nat.zero_le _, Nat.zero_le _⟩ d_Reducer_aboveOf_17 (fun r1 σ2 => ?_)
      refine J_bipush (v := 8) h d_Reducer_aboveOf_20 (by decide) ?_
      refine J_icmp_ne (tgt := 41) h d_Reducer_aboveOf_22 (by decide) ?_ ?_
      · refine J_aload_n (q := 0) h d_Reducer_aboveOf_25 rfl rfl ?_
        refine J_getf h 29 (wX_29 ad cA σ2) (tb_ups in_Reducer) rfl 1 (by decide) (tb_up q_1_198) rfl d_Reducer_aboveOf_26 ?_
        refine J_iload_n (q := 3) h d_Reducer_aboveOf_29 rfl rfl ?_
        refine J_iconst (v := 1) h d_Reducer_aboveOf_30 (by decide) ?_
        refine J_callVi (As := [.int v3, .int 1]) (st := []) (rmc := rX_Types_captureBound) (q0 := 7) h (fun _ _ hf => cX_Types_captureBound (jl K) D ad cA v3 1 σ2 _ _ hf) (gd_V q_3_50 q_3_51 q_3_52 q_1_3 q_3_53) rfl ⟨rfl, rfl⟩ dd_Types_captureBound ⟨Nat.le_of_ble_eq_true rfl, Nat.le_of_ble_eq_true rfl⟩ rfl rfl (wX_7 ad cA σ2) rfl rfl (Nat.le_of_ble_eq_true rfl) ⟨Nat.zero_le _, Nat.zero_le _⟩ d_Reducer_aboveOf_31 (fun r3 σ4 => ?_)
        refine J_istore_n (lv' := [(3, .int r3), (0, .ref (ad 29)), (1, .int v1), (2, .int v2), (4, .int v4)]) h d_Reducer_aboveOf_34 rfl (by decide) rfl ?_
        refine J_iinc (q := 4) (c := 1) (lv' := fun y5 => [(4, .int y5), (3, .int r3), (0, .ref (ad 29)), (1, .int v1), (2, .int v2)]) h d_Reducer_aboveOf_35 rfl (by decide) (by decide) (fun _ => rfl) (fun y5 => ?_)
        refine J_goto (tgt := 5) h d_Reducer_aboveOf_38 (by decide) ?_
        refine J_sub [2, 3, 4, 1, 0] rfl ?_
        exact ih v1 v2 r3 y5 σ4
      · refine J_sub [0, 1, 2, 3] rfl ?_
        exact hk41 v1 v2 v3 σ2
def X_Reducer_aboveOf_b172 (N : Nat) (k44 : Int32 → Int32 → Int32 → Int32 → SX → Option (Int32 × SX)) (v1 : Int32) (v2 : Int32) (v3 : Int32) (v4 : Int32) (σ : SX) : Option (Int32 × SX) := (if (0 : Int32) ≤ v3 then (nm (v4 + 1) (fun (y20 : Int32) => (k44 v1 v2 v3 y20 σ))) else (some ((-3), σ)))
set_option maxRecDepth 100000 in
set_option maxHeartbeats 4000000 in
theorem J_X_Reducer_aboveOf_b172 (K : jx_E) (D : va_G) (A : Nat → Prop) (ad : Nat → Nat) (cA : Nat → ClassId) (N : Nat) (h : jx_ok K D clX (tysX cA) A 7 b_Reducer_aboveOf y_Reducer_aboveOf.cls ((Cond.code y_Reducer_aboveOf b_Reducer_aboveOf 7 (some .int)) :: tblG) rX_Reducer_aboveOf (some .int)) (k44 : Int32 → Int32 → Int32 → Int32 → SX → Option (Int32 × SX)) (hk44 : ∀ (v1 : Int32) (v2 : Int32) (v3 : Int32) (v4 : Int32) (σ : SX), J K D clX A 7 (wX ad cA) (jx_Qi K D clX (tysX cA) (wX ad cA) A) 0 0 44 [(0, .ref (ad 29)), (1, .int v1), (2, .int v2), (3, .int v3), (4, .int v4)] [] σ (k44 v1 v2 v3 v4 σ)) : ∀ (v1 : Int32) (v2 : Int32) (v3 : Int32) (v4 : Int32) (σ : SX), J K D clX A 7 (wX ad cA) (jx_Qi K D clX (tysX cA) (wX ad cA) A) 0 0 172 [(0, .ref (ad 29)), (1, .int v1), (2, .int v2), (3, .int v3), (4, .int v4)] [] σ (X_Reducer_aboveOf_b172 N k44 v1 v2 v3 v4 σ) := by
  intro v1 v2 v3 v4 σ
  rw [X_Reducer_aboveOf_b172]
  refine J_iload_n (q := 3) h d_Reducer_aboveOf_172 rfl rfl ?_
  refine J_if_ge (tgt := 179) h d_Reducer_aboveOf_173 (by decide) ?_ ?_
  · refine J_iinc (q := 4) (c := 1) (lv' := fun y20 => [(4, .int y20), (0, .ref (ad 29)), (1, .int v1), (2, .int v2), (3, .int v3)]) h d_Reducer_aboveOf_179 rfl (by decide) (by decide) (fun _ => rfl) (fun y20 => ?_)
    refine J_goto (tgt := 44) h d_Reducer_aboveOf_182 (by decide) ?_
    refine J_sub [1, 2, 3, 4, 0] rfl ?_
    exact hk44 v1 v2 v3 y20 σ
  · refine J_bipush (v := (-3)) h d_Reducer_aboveOf_176 (by decide) ?_
    exact J_iret h rfl d_Reducer_aboveOf_178
def X_Reducer_aboveOf_L44 (N : Nat) (k185 : Int32 → Int32 → SX → Option (Int32 × SX)) : Nat → Int32 → Int32 → Int32 → Int32 → SX → Option (Int32 × SX)
  | 0, _, _, _, _, _ => none
  | n + 1, v1, v2, v3, v4, σ => (if (40 : Int32) ≤ v4 then (k185 v1 v2 σ) else (bd (X_Types_classOf v3 σ) (fun (r6 : Int32) (σ7 : SX) => (bd (X_Classes_reaches r6 v2 σ7) (fun (r8 : Int32) (σ9 : SX) => (if r8 = 0 then (k185 v1 v2 σ9) else (bd (X_Types_classOf v3 σ9) (fun (r10 : Int32) (σ11 : SX) => (if r10 = v2 then (some (v3, σ11)) else (bd (X_Classes_parentTowards N r10 v2 σ11) (fun (r12 : Int32) (σ13 : SX) => (bd (X_Types_kindOf v3 σ13) (fun (r14 : Int32) (σ15 : SX) => (if r14 = 1 then (bd (X_Exchange_forArguments v3 σ15) (fun (r16 : Unit) (σ17 : SX) => (bd (X_Exchange_put N 22 r12 1 σ17) (fun (r18 : Int32) (σ19 : SX) => (X_Reducer_aboveOf_b172 N (X_Reducer_aboveOf_L44 N k185 n) v1 v2 r18 v4 σ19))))) else (bd (X_Classes_parametersOf r10 σ15) (fun (r21 : Int32) (σ22 : SX) => (if r21 ≤ 0 then (X_Reducer_aboveOf_b172 N (X_Reducer_aboveOf_L44 N k185 n) v1 v2 r12 v4 σ22) else (bd (X_Types_firstOf r12 σ22) (fun (r23 : Int32) (σ24 : SX) => (bd (X_Types_make N 0 r23 (-1) (-1) σ24) (fun (r25 : Int32) (σ26 : SX) => (X_Reducer_aboveOf_b172 N (X_Reducer_aboveOf_L44 N k185 n) v1 v2 r25 v4 σ26))))))))))))))))))))))
set_option maxRecDepth 100000 in
set_option maxHeartbeats 4000000 in
theorem J_X_Reducer_aboveOf_L44 (K : jx_E) (D : va_G) (A : Nat → Prop) (ad : Nat → Nat) (cA : Nat → ClassId) (N : Nat) (h : jx_ok K D clX (tysX cA) A 7 b_Reducer_aboveOf y_Reducer_aboveOf.cls ((Cond.code y_Reducer_aboveOf b_Reducer_aboveOf 7 (some .int)) :: tblG) rX_Reducer_aboveOf (some .int)) (k185 : Int32 → Int32 → SX → Option (Int32 × SX)) (hk185 : ∀ (v1 : Int32) (v2 : Int32) (σ : SX), J K D clX A 7 (wX ad cA) (jx_Qi K D clX (tysX cA) (wX ad cA) A) 0 0 185 [(0, .ref (ad 29)), (1, .int v1), (2, .int v2)] [] σ (k185 v1 v2 σ)) : ∀ (n : Nat) (v1 : Int32) (v2 : Int32) (v3 : Int32) (v4 : Int32) (σ : SX), J K D clX A 7 (wX ad cA) (jx_Qi K D clX (tysX cA) (wX ad cA) A) 0 0 44 [(0, .ref (ad 29)), (1, .int v1), (2, .int v2), (3, .int v3), (4, .int v4)] [] σ (X_Reducer_aboveOf_L44 N k185 n v1 v2 v3 v4 σ) := by
  intro n
  induction n with
  | zero => intro v1 v2 v3 v4 σ; exact J_none
  | succ n ih =>
    intro v1 v2 v3 v4 σ
    rw [X_Reducer_aboveOf_L44]
    refine J_iload (q := 4) h d_Reducer_aboveOf_44 rfl ?_
    refine J_bipush (v := 40) h d_Reducer_aboveOf_46 (by decide) ?_
    refine J_icmp_ge (tgt := 185) h d_Reducer_aboveOf_48 (by decide) ?_ ?_
    · refine J_sub [0, 1, 2] rfl ?_
      exact hk185 v1 v2 σ
    · refine J_aload_n (q := 0) h d_Reducer_aboveOf_51 rfl rfl ?_
      refine J_getf h 29 (wX_29 ad cA σ) (tb_ups in_Reducer) rfl 0 (by decide) (tb_up q_1_197) rfl d_Reducer_aboveOf_52 ?_
      refine J_aload_n (q := 0) h d_Reducer_aboveOf_55 rfl rfl ?_
      refine J_getf h 29 (wX_29 ad cA σ) (tb_ups in_Reducer) rfl 1 (by decide) (tb_up q_1_198) rfl d_Reducer_aboveOf_56 ?_
      refine J_iload_n (q := 3) h d_Reducer_aboveOf_59 rfl rfl ?_
      refine J_callVi (As := [.int v3]) (st := [.ref (ad 1)]) (rmc := rX_Types_classOf) (q0 := 7) h (fun _ _ hf => cX_Types_classOf (jl K) D ad cA v3 σ _ _ hf) (gd_V q_3_60 q_3_61 q_3_62 q_1_3 q_3_63) rfl ⟨rfl, rfl⟩ dd_Types_classOf ⟨Nat.le_of_ble_eq_true rfl, Nat.le_of_ble_eq_true rfl⟩ rfl rfl (wX_7 ad cA σ) rfl rfl (Nat.le_of_ble_eq_true rfl) ⟨Nat.zero_le _, Nat.zero_le _⟩ d_Reducer_aboveOf_60 (fun r6 σ7 => ?_)
      refine J_iload_n (q := 2) h d_Reducer_aboveOf_63 rfl rfl ?_
      refine J_callVi (As := [.int r6, .int v2]) (st := []) (rmc := rX_Classes_reaches) (q0 := 1) h (fun _ _ hf => cX_Classes_reaches (jl K) D ad cA r6 v2 σ7 _ _ hf) (gd_V q_3_64 q_3_65 q_3_66 q_1_2 q_3_67) rfl ⟨rfl, rfl⟩ dd_Classes_reaches ⟨Nat.le_of_ble_eq_true rfl, Nat.le_of_ble_eq_true rfl⟩ rfl rfl (wX_1 ad cA σ7) rfl rfl (Nat.le_of_ble_eq_true rfl) ⟨Nat.zero_le _, Nat.zero_le _⟩ d_Reducer_aboveOf_64 (fun r8 σ9 => ?_)
      refine J_if_eq (tgt := 185) h d_Reducer_aboveOf_67 (by decide) ?_ ?_
      · refine J_sub [0, 1, 2] rfl ?_
        exact hk185 v1 v2 σ9
      · refine J_aload_n (q := 0) h d_Reducer_aboveOf_70 rfl rfl ?_
        refine J_getf h 29 (wX_29 ad cA σ9) (tb_ups in_Reducer) rfl 1 (by decide) (tb_up q_1_198) rfl d_Reducer_aboveOf_71 ?_
        refine J_iload_n (q := 3) h d_Reducer_aboveOf_74 rfl rfl ?_
        refine J_callVi (As := [.int v3]) (st := []) (rmc := rX_Types_classOf) (q0 := 7) h (fun _ _ hf => cX_Types_classOf (jl K) D ad cA v3 σ9 _ _ hf) (gd_V q_3_60 q_3_61 q_3_62 q_1_3 q_3_63) rfl ⟨rfl, rfl⟩ dd_Types_classOf ⟨Nat.le_of_ble_eq_true rfl, Nat.le_of_ble_eq_true rfl⟩ rfl rfl (wX_7 ad cA σ9) rfl rfl (Nat.le_of_ble_eq_true rfl) ⟨Nat.zero_le _, Nat.zero_le _⟩ d_Reducer_aboveOf_75 (fun r10 σ11 => ?_)
        refine J_istore (lv' := [(5, .int r10), (0, .ref (ad 29)), (1, .int v1), (2, .int v2), (3, .int v3), (4, .int v4)]) h d_Reducer_aboveOf_78 (by decide) rfl ?_
        refine J_iload (q := 0) h d_Reducer_aboveOf_80 rfl ?_
        refine J_iload_n (q := 3) h d_Reducer_aboveOf_82 rfl rfl ?_
        refine J_icmp_ne (tgt := 88) h d_Reducer_aboveOf_83 (by decide) ?_ ?_
        · refine J_iload_n (q := 4) h d_Reducer_aboveOf_86 rfl rfl ?_
          exact J_iret h rfl d_Reducer_aboveOf_87
        · refine J_aload_n (q := 1) h d_Reducer_aboveOf_88 rfl rfl ?_
          refine J_getf h 29 (wX_29 ad cA σ11) (tb_ups in_Reducer) rfl 0 (by decide) (tb_up q_1_197) rfl d_Reducer_aboveOf_89 ?_
          refine J_iload (q := 0) h d_Reducer_aboveOf_92 rfl ?_
          refine J_iload_n (q := 3) h d_Reducer_aboveOf_94 rfl rfl ?_
          refine J_callVi (As := [.int r10, .int v2]) (st := []) (rmc := rX_Classes_parentTowards) (q0 := 1) h (fun _ _ hf => cX_Classes_parentTowards (jl K) D ad cA N r10 v2 σ11 _ _ hf) (gd_V q_3_68 q_3_69 q_3_70 q_1_2 q_3_71) rfl ⟨rfl, rfl⟩ dd_Classes_parentTowards ⟨Nat.le_of_ble_eq_true rfl, Nat.le_of_ble_eq_true rfl⟩ rfl rfl (wX_1 ad cA σ11) rfl rfl (Nat.le_of_ble_eq_true rfl) ⟨Nat.zero_le _, Nat.zero_le _⟩ d_Reducer_aboveOf_95 (fun r12 σ13 => ?_)
          refine J_istore (lv' := [(6, .int r12), (5, .int r10), (0, .ref (ad 29)), (1, .int v1), (2, .int v2), (3, .int v3), (4, .int v4)]) h d_Reducer_aboveOf_98 (by decide) rfl ?_
          refine J_aload_n (q := 2) h d_Reducer_aboveOf_100 rfl rfl ?_
          refine J_getf h 29 (wX_29 ad cA σ13) (tb_ups in_Reducer) rfl 1 (by decide) (tb_up q_1_198) rfl d_Reducer_aboveOf_101 ?_
          refine J_iload_n (q := 5) h d_Reducer_aboveOf_104 rfl rfl ?_
          refine J_callVi (As := [.int v3]) (st := []) (rmc := rX_Types_kindOf) (q0 := 7) h (fun _ _ hf => cX_Types_kindOf (jl K) D ad cA v3 σ13 _ _ hf) (gd_V q_3_21 q_2_127 q_2_128 q_1_3 q_2_129) rfl ⟨rfl, rfl⟩ dd_Types_kindOf ⟨Nat.le_of_ble_eq_true rfl, Nat.le_of_ble_eq_true rfl⟩ rfl rfl (wX_7 ad cA σ13) rfl rfl (Nat.le_of_ble_eq_true rfl) ⟨Nat.zero_le _, Nat.zero_le _⟩ d_Reducer_aboveOf_105 (fun r14 σ15 => ?_)
          refine J_iconst (v := 1) h d_Reducer_aboveOf_108 (by decide) ?_
          refine J_icmp_ne (tgt := 134) h d_Reducer_aboveOf_109 (by decide) ?_ ?_
          · refine J_aload_n (q := 2) h d_Reducer_aboveOf_112 rfl rfl ?_
            refine J_getf h 29 (wX_29 ad cA σ15) (tb_ups in_Reducer) rfl 3 (by decide) (tb_up q_1_200) rfl d_Reducer_aboveOf_113 ?_
            refine J_iload_n (q := 5) h d_Reducer_aboveOf_116 rfl rfl ?_
            refine J_callVv (As := [.int v3]) (st := []) (rmc := rX_Exchange_forArguments) (q0 := 25) h (fun _ _ hf => cX_Exchange_forArguments (jl K) D ad cA v3 σ15 _ _ hf) (gd_V q_3_72 q_3_73 q_3_74 q_1_6 q_3_75) rfl ⟨rfl, rfl⟩ dd_Exchange_forArguments ⟨Nat.le_of_ble_eq_true rfl, Nat.le_of_ble_eq_true rfl⟩ rfl rfl (wX_25 ad cA σ15) rfl rfl (Nat.le_of_ble_eq_true rfl) ⟨Nat.zero_le _, Nat.zero_le _⟩ d_Reducer_aboveOf_117 (fun r16 σ17 => ?_)
            refine J_aload_n (q := 2) h d_Reducer_aboveOf_120 rfl rfl ?_
            refine J_getf h 29 (wX_29 ad cA σ17) (tb_ups in_Reducer) rfl 3 (by decide) (tb_up q_1_200) rfl d_Reducer_aboveOf_121 ?_
            refine J_iload (q := 0) h d_Reducer_aboveOf_124 rfl ?_
            refine J_iconst (v := 1) h d_Reducer_aboveOf_126 (by decide) ?_
            refine J_callVi (As := [.int r12, .int 1]) (st := []) (rmc := (rX_rec29 22)) (q0 := 25) h (fun _ _ hf => cX_Exchange_put (jl K) D ad cA N 22 r12 1 σ17 _ _ hf) (gd_V q_3_76 q_3_77 q_3_78 q_1_6 q_3_79) rfl ⟨rfl, rfl⟩ dd_Exchange_put ⟨Nat.le_of_ble_eq_true rfl, Nat.le_of_ble_eq_true rfl⟩ rfl rfl (wX_25 ad cA σ17) rfl rfl (Nat.le_of_ble_eq_true rfl) ⟨Nat.zero_le _, Nat.zero_le _⟩ d_Reducer_aboveOf_127 (fun r18 σ19 => ?_)
            refine J_istore_n (lv' := [(3, .int r18), (6, .int r12), (5, .int r10), (0, .ref (ad 29)), (1, .int v1), (2, .int v2), (4, .int v4)]) h d_Reducer_aboveOf_130 rfl (by decide) rfl ?_
            refine J_goto (tgt := 172) h d_Reducer_aboveOf_131 (by decide) ?_
            refine J_sub [3, 4, 5, 0, 6] rfl ?_
            exact J_X_Reducer_aboveOf_b172 K D A ad cA N h (X_Reducer_aboveOf_L44 N k185 n) ih v1 v2 r18 v4 σ19
          · refine J_aload_n (q := 2) h d_Reducer_aboveOf_134 rfl rfl ?_
            refine J_getf h 29 (wX_29 ad cA σ15) (tb_ups in_Reducer) rfl 0 (by decide) (tb_up q_1_197) rfl d_Reducer_aboveOf_135 ?_
            refine J_iload (q := 1) h d_Reducer_aboveOf_138 rfl ?_
            refine J_callVi (As := [.int r10]) (st := []) (rmc := rX_Classes_parametersOf) (q0 := 1) h (fun _ _ hf => cX_Classes_parametersOf (jl K) D ad cA r10 σ15 _ _ hf) (gd_V q_3_89 q_2_139 q_2_140 q_1_2 q_2_141) rfl ⟨rfl, rfl⟩ dd_Classes_parametersOf ⟨Nat.le_of_ble_eq_true rfl, Nat.le_of_ble_eq_true rfl⟩ rfl rfl (wX_1 ad cA σ15) rfl rfl (Nat.le_of_ble_eq_true rfl) ⟨Nat.zero_le _, Nat.zero_le _⟩ d_Reducer_aboveOf_140 (fun r21 σ22 => ?_)
            refine J_if_le (tgt := 169) h d_Reducer_aboveOf_143 (by decide) ?_ ?_
            · refine J_iload (q := 0) h d_Reducer_aboveOf_169 rfl ?_
              refine J_istore_n (lv' := [(3, .int r12), (6, .int r12), (5, .int r10), (0, .ref (ad 29)), (1, .int v1), (2, .int v2), (4, .int v4)]) h d_Reducer_aboveOf_171 rfl (by decide) rfl ?_
              refine J_sub [3, 4, 5, 0, 6] rfl ?_
              exact J_X_Reducer_aboveOf_b172 K D A ad cA N h (X_Reducer_aboveOf_L44 N k185 n) ih v1 v2 r12 v4 σ22
            · refine J_aload_n (q := 2) h d_Reducer_aboveOf_146 rfl rfl ?_
              refine J_getf h 29 (wX_29 ad cA σ22) (tb_ups in_Reducer) rfl 1 (by decide) (tb_up q_1_198) rfl d_Reducer_aboveOf_147 ?_
              refine J_iconst (v := 0) h d_Reducer_aboveOf_150 (by decide) ?_
              refine J_aload_n (q := 2) h d_Reducer_aboveOf_151 rfl rfl ?_
              refine J_getf h 29 (wX_29 ad cA σ22) (tb_ups in_Reducer) rfl 1 (by decide) (tb_up q_1_198) rfl d_Reducer_aboveOf_152 ?_
              refine J_iload (q := 0) h d_Reducer_aboveOf_155 rfl ?_
              refine J_callVi (As := [.int r12]) (st := [.int 0, .ref (ad 7)]) (rmc := rX_Types_firstOf) (q0 := 7) h (fun _ _ hf => cX_Types_firstOf (jl K) D ad cA r12 σ22 _ _ hf) (gd_V q_3_26 q_2_131 q_2_132 q_1_3 q_2_133) rfl ⟨rfl, rfl⟩ dd_Types_firstOf ⟨Nat.le_of_ble_eq_true rfl, Nat.le_of_ble_eq_true rfl⟩ rfl rfl (wX_7 ad cA σ22) rfl rfl (Nat.le_of_ble_eq_true rfl) ⟨Nat.zero_le _, Nat.zero_le _⟩ d_Reducer_aboveOf_157 (fun r23 σ24 => ?_)
              refine J_iconst (v := (-1)) h d_Reducer_aboveOf_160 (by decide) ?_
              refine J_iconst (v := (-1)) h d_Reducer_aboveOf_161 (by decide) ?_
              refine J_callVi (As := [.int 0, .int r23, .int (-1), .int (-1)]) (st := []) (rmc := rX_Types_make) (q0 := 7) h (fun _ _ hf => cX_Types_make (jl K) D ad cA N 0 r23 (-1) (-1) σ24 _ _ hf) (gd_V q_3_37 q_2_173 q_2_174 q_1_3 q_2_175) rfl ⟨rfl, rfl⟩ dd_Types_make ⟨Nat.le_of_ble_eq_true rfl, Nat.le_of_ble_eq_true rfl⟩ rfl rfl (wX_7 ad cA σ24) rfl rfl (Nat.le_of_ble_eq_true rfl) ⟨Nat.zero_le _, Nat.zero_le _⟩ d_Reducer_aboveOf_162 (fun r25 σ26 => ?_)
              refine J_istore_n (lv' := [(3, .int r25), (6, .int r12), (5, .int r10), (0, .ref (ad 29)), (1, .int v1), (2, .int v2), (4, .int v4)]) h d_Reducer_aboveOf_165 rfl (by decide) rfl ?_
              refine J_goto (tgt := 172) h d_Reducer_aboveOf_166 (by decide) ?_
              refine J_sub [3, 4, 5, 0, 6] rfl ?_
              exact J_X_Reducer_aboveOf_b172 K D A ad cA N h (X_Reducer_aboveOf_L44 N k185 n) ih v1 v2 r25 v4 σ26
def X_Reducer_aboveOf_b185 (N : Nat) (v1 : Int32) (v2 : Int32) (σ : SX) : Option (Int32 × SX) := (if v2 = 0 then (bd (X_Types_has v1 σ) (fun (r27 : Int32) (σ28 : SX) => (if r27 = 0 then (some ((-1), σ28)) else (bd (X_Types_kindOf v1 σ28) (fun (r29 : Int32) (σ30 : SX) => (if r29 = 5 then (some ((-1), σ30)) else (bd (X_Types_make N 0 0 (-1) (-1) σ30) (fun (r31 : Int32) (σ32 : SX) => (some (r31, σ32)))))))))) else (some ((-1), σ)))
set_option maxRecDepth 100000 in
set_option maxHeartbeats 4000000 in
theorem J_X_Reducer_aboveOf_b185 (K : jx_E) (D : va_G) (A : Nat → Prop) (ad : Nat → Nat) (cA : Nat → ClassId) (N : Nat) (h : jx_ok K D clX (tysX cA) A 7 b_Reducer_aboveOf y_Reducer_aboveOf.cls ((Cond.code y_Reducer_aboveOf b_Reducer_aboveOf 7 (some .int)) :: tblG) rX_Reducer_aboveOf (some .int)) : ∀ (v1 : Int32) (v2 : Int32) (σ : SX), J K D clX A 7 (wX ad cA) (jx_Qi K D clX (tysX cA) (wX ad cA) A) 0 0 185 [(0, .ref (ad 29)), (1, .int v1), (2, .int v2)] [] σ (X_Reducer_aboveOf_b185 N v1 v2 σ) := by
  intro v1 v2 σ
  rw [X_Reducer_aboveOf_b185]
  refine J_iload_n (q := 2) h d_Reducer_aboveOf_185 rfl rfl ?_
  refine J_if_ne (tgt := 212) h d_Reducer_aboveOf_186 (by decide) ?_ ?_
  · refine J_aload_n (q := 0) h d_Reducer_aboveOf_189 rfl rfl ?_
    refine J_getf h 29 (wX_29 ad cA σ) (tb_ups in_Reducer) rfl 1 (by decide) (tb_up q_1_198) rfl d_Reducer_aboveOf_190 ?_
    refine J_iload_n (q := 1) h d_Reducer_aboveOf_193 rfl rfl ?_
    refine J_callVi (As := [.int v1]) (st := []) (rmc := rX_Types_has) (q0 := 7) h (fun _ _ hf => cX_Types_has (jl K) D ad cA v1 σ _ _ hf) (gd_V q_3_90 q_2_185 q_2_186 q_1_3 q_2_187) rfl ⟨rfl, rfl⟩ dd_Types_has ⟨Nat.le_of_ble_eq_true rfl, Nat.le_of_ble_eq_true rfl⟩ rfl rfl (wX_7 ad cA σ) rfl rfl (Nat.le_of_ble_eq_true rfl) ⟨Nat.zero_le _, Nat.zero_le _⟩ d_Reducer_aboveOf_194 (fun r27 σ28 => ?_)
    refine J_if_eq (tgt := 212) h d_Reducer_aboveOf_197 (by decide) ?_ ?_
    · refine J_iconst (v := (-1)) h d_Reducer_aboveOf_212 (by decide) ?_
      exact J_iret h rfl d_Reducer_aboveOf_213
    · refine J_aload_n (q := 0) h d_Reducer_aboveOf_200 rfl rfl ?_
      refine J_getf h 29 (wX_29 ad cA σ28) (tb_ups in_Reducer) rfl 1 (by decide) (tb_up q_1_198) rfl d_Reducer_aboveOf_201 ?_
      refine J_iload_n (q := 1) h d_Reducer_aboveOf_204 rfl rfl ?_
      refine J_callVi (As := [.int v1]) (st := []) (rmc := rX_Types_kindOf) (q0 := 7) h (fun _ _ hf => cX_Types_kindOf (jl K) D ad cA v1 σ28 _ _ hf) (gd_V q_3_21 q_2_127 q_2_128 q_1_3 q_2_129) rfl ⟨rfl, rfl⟩ dd_Types_kindOf ⟨Nat.le_of_ble_eq_true rfl, Nat.le_of_ble_eq_true rfl⟩ rfl rfl (wX_7 ad cA σ28) rfl rfl (Nat.le_of_ble_eq_true rfl) ⟨Nat.zero_le _, Nat.zero_le _⟩ d_Reducer_aboveOf_205 (fun r29 σ30 => ?_)
      refine J_iconst (v := 5) h d_Reducer_aboveOf_208 (by decide) ?_
      refine J_icmp_ne (tgt := 214) h d_Reducer_aboveOf_209 (by decide) ?_ ?_
      · refine J_iconst (v := (-1)) h d_Reducer_aboveOf_212 (by decide) ?_
        exact J_iret h rfl d_Reducer_aboveOf_213
      · refine J_aload_n (q := 0) h d_Reducer_aboveOf_214 rfl rfl ?_
        refine J_getf h 29 (wX_29 ad cA σ30) (tb_ups in_Reducer) rfl 1 (by decide) (tb_up q_1_198) rfl d_Reducer_aboveOf_215 ?_
        refine J_iconst (v := 0) h d_Reducer_aboveOf_218 (by decide) ?_
        refine J_iconst (v := 0) h d_Reducer_aboveOf_219 (by decide) ?_
        refine J_iconst (v := (-1)) h d_Reducer_aboveOf_220 (by decide) ?_
        refine J_iconst (v := (-1)) h d_Reducer_aboveOf_221 (by decide) ?_
        refine J_callVi (As := [.int 0, .int 0, .int (-1), .int (-1)]) (st := []) (rmc := rX_Types_make) (q0 := 7) h (fun _ _ hf => cX_Types_make (jl K) D ad cA N 0 0 (-1) (-1) σ30 _ _ hf) (gd_V q_3_37 q_2_173 q_2_174 q_1_3 q_2_175) rfl ⟨rfl, rfl⟩ dd_Types_make ⟨Nat.le_of_ble_eq_true rfl, Nat.le_of_ble_eq_true rfl⟩ rfl rfl (wX_7 ad cA σ30) rfl rfl (Nat.le_of_ble_eq_true rfl) ⟨Nat.zero_le _, Nat.zero_le _⟩ d_Reducer_aboveOf_222 (fun r31 σ32 => ?_)
        exact J_iret h rfl d_Reducer_aboveOf_225
  · refine J_iconst (v := (-1)) h d_Reducer_aboveOf_212 (by decide) ?_
    exact J_iret h rfl d_Reducer_aboveOf_213
def X_Reducer_aboveOf_b41 (N : Nat) (v1 : Int32) (v2 : Int32) (v3 : Int32) (σ : SX) : Option (Int32 × SX) := (X_Reducer_aboveOf_L44 N (X_Reducer_aboveOf_b185 N) N v1 v2 v3 0 σ)
set_option maxRecDepth 100000 in
set_option maxHeartbeats 4000000 in
theorem J_X_Reducer_aboveOf_b41 (K : jx_E) (D : va_G) (A : Nat → Prop) (ad : Nat → Nat) (cA : Nat → ClassId) (N : Nat) (h : jx_ok K D clX (tysX cA) A 7 b_Reducer_aboveOf y_Reducer_aboveOf.cls ((Cond.code y_Reducer_aboveOf b_Reducer_aboveOf 7 (some .int)) :: tblG) rX_Reducer_aboveOf (some .int)) : ∀ (v1 : Int32) (v2 : Int32) (v3 : Int32) (σ : SX), J K D clX A 7 (wX ad cA) (jx_Qi K D clX (tysX cA) (wX ad cA) A) 0 0 41 [(0, .ref (ad 29)), (1, .int v1), (2, .int v2), (3, .int v3)] [] σ (X_Reducer_aboveOf_b41 N v1 v2 v3 σ) := by
  intro v1 v2 v3 σ
  rw [X_Reducer_aboveOf_b41]
  refine J_iconst (v := 0) h d_Reducer_aboveOf_41 (by decide) ?_
  refine J_istore (lv' := [(4, .int 0), (0, .ref (ad 29)), (1, .int v1), (2, .int v2), (3, .int v3)]) h d_Reducer_aboveOf_42 (by decide) rfl ?_
  refine J_sub [1, 2, 3, 4, 0] rfl ?_
  exact J_X_Reducer_aboveOf_L44 K D A ad cA N h (X_Reducer_aboveOf_b185 N) (J_X_Reducer_aboveOf_b185 K D A ad cA N h) N v1 v2 v3 0 σ
def X_Reducer_aboveOf (N : Nat) (x1 : Int32) (x2 : Int32) (σ : SX) : Option (Int32 × SX) := (X_Reducer_aboveOf_L5 N (X_Reducer_aboveOf_b41 N) N x1 x2 x1 0 σ)
set_option maxRecDepth 100000 in
set_option maxHeartbeats 4000000 in
theorem J_X_Reducer_aboveOf (K : jx_E) (D : va_G) (A : Nat → Prop) (ad : Nat → Nat) (cA : Nat → ClassId) (N : Nat) (h : jx_ok K D clX (tysX cA) A 7 b_Reducer_aboveOf y_Reducer_aboveOf.cls ((Cond.code y_Reducer_aboveOf b_Reducer_aboveOf 7 (some .int)) :: tblG) rX_Reducer_aboveOf (some .int)) : ∀ (x1 : Int32) (x2 : Int32) (σ : SX), J K D clX A 7 (wX ad cA) (jx_Qi K D clX (tysX cA) (wX ad cA) A) 0 0 0 [(0, .ref (ad 29)), (1, .int x1), (2, .int x2)] [] σ (X_Reducer_aboveOf N x1 x2 σ) := by
  intro x1 x2 σ
  rw [X_Reducer_aboveOf]
  refine J_iload_n (q := 1) h d_Reducer_aboveOf_0 rfl rfl ?_
  refine J_istore_n (lv' := [(3, .int x1), (0, .ref (ad 29)), (1, .int x1), (2, .int x2)]) h d_Reducer_aboveOf_1 rfl (by decide) rfl ?_
  refine J_iconst (v := 0) h d_Reducer_aboveOf_2 (by decide) ?_
  refine J_istore (lv' := [(4, .int 0), (3, .int x1), (0, .ref (ad 29)), (1, .int x1), (2, .int x2)]) h d_Reducer_aboveOf_3 (by decide) rfl ?_
  refine J_sub [2, 3, 4, 1, 0] rfl ?_
  exact J_X_Reducer_aboveOf_L5 K D A ad cA N h (X_Reducer_aboveOf_b41 N) (J_X_Reducer_aboveOf_b41 K D A ad cA N h) N x1 x2 x1 0 σ
set_option maxRecDepth 100000 in
theorem cX_Reducer_aboveOf (l : Launch) (D : va_G) (ad : Nat → Nat) (cA : Nat → ClassId) (N : Nat) (x1 : Int32) (x2 : Int32) (σ : SX) (r : Int32) (σ' : SX) (hf : X_Reducer_aboveOf N x1 x2 σ = some (r, σ')) : MetI l y_Reducer_aboveOf ((Cond.code y_Reducer_aboveOf b_Reducer_aboveOf 7 (some .int)) :: tblG) rX_Reducer_aboveOf D clX (tysX cA) (wX ad cA) [.ref (ad 29), .int x1, .int x2] σ r σ' :=
  jx_metI (by decide) rfl (Nat.le_of_ble_eq_true rfl) (fun K A h => J_X_Reducer_aboveOf K D A ad cA N h x1 x2 σ) hf
def rX_Reducer_lessCompatible : Room := { frames := 25, cells := 0, slots := 0, locals := 751 }
theorem rm_ok_X_Reducer_lessCompatible : rX_Reducer_lessCompatible.cells = 0 ∧ rX_Reducer_lessCompatible.slots = 0 := ⟨rfl, rfl⟩
def X_Reducer_lessCompatible_b211 (N : Nat) (v1 : Int32) (v2 : Int32) (σ : SX) : Option (Int32 × SX) := (bd (X_Reducer_within 1 v1 v2 σ) (fun (r16 : Int32) (σ17 : SX) => (some (r16, σ17))))
set_option maxRecDepth 100000 in
set_option maxHeartbeats 4000000 in
theorem J_X_Reducer_lessCompatible_b211 (K : jx_E) (D : va_G) (A : Nat → Prop) (ad : Nat → Nat) (cA : Nat → ClassId) (N : Nat) (h : jx_ok K D clX (tysX cA) A 6 b_Reducer_lessCompatible y_Reducer_lessCompatible.cls ((Cond.code y_Reducer_lessCompatible b_Reducer_lessCompatible 6 (some .int)) :: tblG) rX_Reducer_lessCompatible (some .int)) : ∀ (v1 : Int32) (v2 : Int32) (σ : SX), J K D clX A 6 (wX ad cA) (jx_Qi K D clX (tysX cA) (wX ad cA) A) 0 0 211 [(0, .ref (ad 29)), (1, .int v1), (2, .int v2)] [] σ (X_Reducer_lessCompatible_b211 N v1 v2 σ) := by
  intro v1 v2 σ
  rw [X_Reducer_lessCompatible_b211]
  refine J_aload_n (q := 0) h d_Reducer_lessCompatible_211 rfl rfl ?_
  refine J_iconst (v := 1) h d_Reducer_lessCompatible_212 (by decide) ?_
  refine J_iload_n (q := 1) h d_Reducer_lessCompatible_213 rfl rfl ?_
  refine J_iload_n (q := 2) h d_Reducer_lessCompatible_214 rfl rfl ?_
  refine J_callVi (As := [.int 1, .int v1, .int v2]) (st := []) (rmc := rX_Reducer_within) (q0 := 29) h (fun _ _ hf => cX_Reducer_within (jl K) D ad cA 1 v1 v2 σ _ _ hf) (gd_V q_3_38 q_3_40 q_s_6 q_1_7 q_3_41) rfl ⟨rfl, rfl⟩ dd_Reducer_within ⟨Nat.le_of_ble_eq_true rfl, Nat.le_of_ble_eq_true rfl⟩ rfl rfl (wX_29 ad cA σ) rfl rfl (Nat.le_of_ble_eq_true rfl) ⟨Nat.zero_le _, Nat.zero_le _⟩ d_Reducer_lessCompatible_215 (fun r16 σ17 => ?_)
  exact J_iret h rfl d_Reducer_lessCompatible_218
def X_Reducer_lessCompatible_b155 (N : Nat) (v1 : Int32) (v2 : Int32) (σ : SX) : Option (Int32 × SX) := (bd (X_Types_kindOf v2 σ) (fun (r7 : Int32) (σ8 : SX) => (if r7 = 1 then (bd (X_Types_firstOf v2 σ8) (fun (r9 : Int32) (σ10 : SX) => (bd (X_Reducer_aboveOf N v1 r9 σ10) (fun (r11 : Int32) (σ12 : SX) => (if r11 = (-3) then (some ((-3), σ12)) else (bd (X_Types_kindOf r11 σ12) (fun (r13 : Int32) (σ14 : SX) => (if r13 = 0 then (nm (sX_Reducer_sawUnchecked σ14 1) (fun (σ15 : SX) => (some (1, σ15)))) else (X_Reducer_lessCompatible_b211 N v1 v2 σ14))))))))) else (X_Reducer_lessCompatible_b211 N v1 v2 σ8))))
set_option maxRecDepth 100000 in
set_option maxHeartbeats 4000000 in
theorem J_X_Reducer_lessCompatible_b155 (K : jx_E) (D : va_G) (A : Nat → Prop) (ad : Nat → Nat) (cA : Nat → ClassId) (N : Nat) (h : jx_ok K D clX (tysX cA) A 6 b_Reducer_lessCompatible y_Reducer_lessCompatible.cls ((Cond.code y_Reducer_lessCompatible b_Reducer_lessCompatible 6 (some .int)) :: tblG) rX_Reducer_lessCompatible (some .int)) : ∀ (v1 : Int32) (v2 : Int32) (σ : SX), J K D clX A 6 (wX ad cA) (jx_Qi K D clX (tysX cA) (wX ad cA) A) 0 0 155 [(0, .ref (ad 29)), (1, .int v1), (2, .int v2)] [] σ (X_Reducer_lessCompatible_b155 N v1 v2 σ) := by
  intro v1 v2 σ
  rw [X_Reducer_lessCompatible_b155]
  refine J_aload_n (q := 0) h d_Reducer_lessCompatible_155 rfl rfl ?_
  refine J_getf h 29 (wX_29 ad cA σ) (tb_ups in_Reducer) rfl 1 (by decide) (tb_up q_1_198) rfl d_Reducer_lessCompatible_156 ?_
  refine J_iload_n (q := 2) h d_Reducer_lessCompatible_159 rfl rfl ?_
  refine J_callVi (As := [.int v2]) (st := []) (rmc := rX_Types_kindOf) (q0 := 7) h (fun _ _ hf => cX_Types_kindOf (jl K) D ad cA v2 σ _ _ hf) (gd_V q_3_21 q_2_127 q_2_128 q_1_3 q_2_129) rfl ⟨rfl, rfl⟩ dd_Types_kindOf ⟨Nat.le_of_ble_eq_true rfl, Nat.le_of_ble_eq_true rfl⟩ rfl rfl (wX_7 ad cA σ) rfl rfl (Nat.le_of_ble_eq_true rfl) ⟨Nat.zero_le _, Nat.zero_le _⟩ d_Reducer_lessCompatible_160 (fun r7 σ8 => ?_)
  refine J_iconst (v := 1) h d_Reducer_lessCompatible_163 (by decide) ?_
  refine J_icmp_ne (tgt := 211) h d_Reducer_lessCompatible_164 (by decide) ?_ ?_
  · refine J_aload_n (q := 0) h d_Reducer_lessCompatible_167 rfl rfl ?_
    refine J_iload_n (q := 1) h d_Reducer_lessCompatible_168 rfl rfl ?_
    refine J_aload_n (q := 0) h d_Reducer_lessCompatible_169 rfl rfl ?_
    refine J_getf h 29 (wX_29 ad cA σ8) (tb_ups in_Reducer) rfl 1 (by decide) (tb_up q_1_198) rfl d_Reducer_lessCompatible_170 ?_
    refine J_iload_n (q := 2) h d_Reducer_lessCompatible_173 rfl rfl ?_
    refine J_callVi (As := [.int v2]) (st := [.int v1, .ref (ad 29)]) (rmc := rX_Types_firstOf) (q0 := 7) h (fun _ _ hf => cX_Types_firstOf (jl K) D ad cA v2 σ8 _ _ hf) (gd_V q_3_26 q_2_131 q_2_132 q_1_3 q_2_133) rfl ⟨rfl, rfl⟩ dd_Types_firstOf ⟨Nat.le_of_ble_eq_true rfl, Nat.le_of_ble_eq_true rfl⟩ rfl rfl (wX_7 ad cA σ8) rfl rfl (Nat.le_of_ble_eq_true rfl) ⟨Nat.zero_le _, Nat.zero_le _⟩ d_Reducer_lessCompatible_174 (fun r9 σ10 => ?_)
    refine J_callVi (As := [.int v1, .int r9]) (st := []) (rmc := rX_Reducer_aboveOf) (q0 := 29) h (fun _ _ hf => cX_Reducer_aboveOf (jl K) D ad cA N v1 r9 σ10 _ _ hf) (gd_V q_3_46 q_3_47 q_3_48 q_1_7 q_3_49) rfl ⟨rfl, rfl⟩ dd_Reducer_aboveOf ⟨Nat.le_of_ble_eq_true rfl, Nat.le_of_ble_eq_true rfl⟩ rfl rfl (wX_29 ad cA σ10) rfl rfl (Nat.le_of_ble_eq_true rfl) ⟨Nat.zero_le _, Nat.zero_le _⟩ d_Reducer_lessCompatible_177 (fun r11 σ12 => ?_)
    refine J_istore (lv' := [(5, .int r11), (0, .ref (ad 29)), (1, .int v1), (2, .int v2)]) h d_Reducer_lessCompatible_180 (by decide) rfl ?_
    refine J_iload (q := 0) h d_Reducer_lessCompatible_182 rfl ?_
    refine J_bipush (v := (-3)) h d_Reducer_lessCompatible_184 (by decide) ?_
    refine J_icmp_ne (tgt := 192) h d_Reducer_lessCompatible_186 (by decide) ?_ ?_
    · refine J_bipush (v := (-3)) h d_Reducer_lessCompatible_189 (by decide) ?_
      exact J_iret h rfl d_Reducer_lessCompatible_191
    · refine J_aload_n (q := 1) h d_Reducer_lessCompatible_192 rfl rfl ?_
      refine J_getf h 29 (wX_29 ad cA σ12) (tb_ups in_Reducer) rfl 1 (by decide) (tb_up q_1_198) rfl d_Reducer_lessCompatible_193 ?_
      refine J_iload (q := 0) h d_Reducer_lessCompatible_196 rfl ?_
      refine J_callVi (As := [.int r11]) (st := []) (rmc := rX_Types_kindOf) (q0 := 7) h (fun _ _ hf => cX_Types_kindOf (jl K) D ad cA r11 σ12 _ _ hf) (gd_V q_3_21 q_2_127 q_2_128 q_1_3 q_2_129) rfl ⟨rfl, rfl⟩ dd_Types_kindOf ⟨Nat.le_of_ble_eq_true rfl, Nat.le_of_ble_eq_true rfl⟩ rfl rfl (wX_7 ad cA σ12) rfl rfl (Nat.le_of_ble_eq_true rfl) ⟨Nat.zero_le _, Nat.zero_le _⟩ d_Reducer_lessCompatible_198 (fun r13 σ14 => ?_)
      refine J_if_ne (tgt := 211) h d_Reducer_lessCompatible_201 (by decide) ?_ ?_
      · refine J_aload_n (q := 1) h d_Reducer_lessCompatible_204 rfl rfl ?_
        refine J_iconst (v := 1) h d_Reducer_lessCompatible_205 (by decide) ?_
        refine J_putf h 29 (wX_29 ad cA σ14) (tb_ups in_Reducer) rfl ft_Reducer ft_Reducer_ok nm_Reducer 8 (by decide) (tb_up q_1_207) rfl (by decide) (by decide) (Nat.le_of_ble_eq_true rfl) (pX_29_8 ad cA σ14 1) d_Reducer_lessCompatible_206 (fun σ15 => ?_)
        refine J_iconst (v := 1) h d_Reducer_lessCompatible_209 (by decide) ?_
        exact J_iret h rfl d_Reducer_lessCompatible_210
      · refine J_sub [1, 2, 3] rfl ?_
        exact J_X_Reducer_lessCompatible_b211 K D A ad cA N h v1 v2 σ14
  · exact J_X_Reducer_lessCompatible_b211 K D A ad cA N h v1 v2 σ8
def X_Reducer_lessCompatible_b122 (N : Nat) (v1 : Int32) (v2 : Int32) (v3 : Int32) (v4 : Int32) (σ : SX) : Option (Int32 × SX) := (if v3 = 0 then (if v4 = 0 then (X_Reducer_lessCompatible_b155 N v1 v2 σ) else (bd (X_Reducer_boxOf N v2 σ) (fun (r18 : Int32) (σ19 : SX) => (bd (X_Reducer_within 3 v1 r18 σ19) (fun (r20 : Int32) (σ21 : SX) => (some (r20, σ21))))))) else (bd (X_Reducer_boxOf N v1 σ) (fun (r22 : Int32) (σ23 : SX) => (bd (X_Reducer_within 0 r22 v2 σ23) (fun (r24 : Int32) (σ25 : SX) => (some (r24, σ25)))))))
set_option maxRecDepth 100000 in
set_option maxHeartbeats 4000000 in
theorem J_X_Reducer_lessCompatible_b122 (K : jx_E) (D : va_G) (A : Nat → Prop) (ad : Nat → Nat) (cA : Nat → ClassId) (N : Nat) (h : jx_ok K D clX (tysX cA) A 6 b_Reducer_lessCompatible y_Reducer_lessCompatible.cls ((Cond.code y_Reducer_lessCompatible b_Reducer_lessCompatible 6 (some .int)) :: tblG) rX_Reducer_lessCompatible (some .int)) : ∀ (v1 : Int32) (v2 : Int32) (v3 : Int32) (v4 : Int32) (σ : SX), J K D clX A 6 (wX ad cA) (jx_Qi K D clX (tysX cA) (wX ad cA) A) 0 0 122 [(0, .ref (ad 29)), (1, .int v1), (2, .int v2), (3, .int v3), (4, .int v4)] [] σ (X_Reducer_lessCompatible_b122 N v1 v2 v3 v4 σ) := by
  intro v1 v2 v3 v4 σ
  rw [X_Reducer_lessCompatible_b122]
  refine J_iload_n (q := 3) h d_Reducer_lessCompatible_122 rfl rfl ?_
  refine J_if_eq (tgt := 138) h d_Reducer_lessCompatible_123 (by decide) ?_ ?_
  · refine J_iload (q := 4) h d_Reducer_lessCompatible_138 rfl ?_
    refine J_if_eq (tgt := 155) h d_Reducer_lessCompatible_140 (by decide) ?_ ?_
    · refine J_sub [0, 1, 2] rfl ?_
      exact J_X_Reducer_lessCompatible_b155 K D A ad cA N h v1 v2 σ
    · refine J_aload_n (q := 0) h d_Reducer_lessCompatible_143 rfl rfl ?_
      refine J_iconst (v := 3) h d_Reducer_lessCompatible_144 (by decide) ?_
      refine J_iload_n (q := 1) h d_Reducer_lessCompatible_145 rfl rfl ?_
      refine J_aload_n (q := 0) h d_Reducer_lessCompatible_146 rfl rfl ?_
      refine J_iload_n (q := 2) h d_Reducer_lessCompatible_147 rfl rfl ?_
      refine J_callVi (As := [.int v2]) (st := [.int v1, .int 3, .ref (ad 29)]) (rmc := rX_Reducer_boxOf) (q0 := 29) h (fun _ _ hf => cX_Reducer_boxOf (jl K) D ad cA N v2 σ _ _ hf) (gd_V q_3_33 q_3_35 q_s_5 q_1_7 q_3_36) rfl ⟨rfl, rfl⟩ dd_Reducer_boxOf ⟨Nat.le_of_ble_eq_true rfl, Nat.le_of_ble_eq_true rfl⟩ rfl rfl (wX_29 ad cA σ) rfl rfl (Nat.le_of_ble_eq_true rfl) ⟨Nat.zero_le _, Nat.zero_le _⟩ d_Reducer_lessCompatible_148 (fun r18 σ19 => ?_)
      refine J_callVi (As := [.int 3, .int v1, .int r18]) (st := []) (rmc := rX_Reducer_within) (q0 := 29) h (fun _ _ hf => cX_Reducer_within (jl K) D ad cA 3 v1 r18 σ19 _ _ hf) (gd_V q_3_38 q_3_40 q_s_6 q_1_7 q_3_41) rfl ⟨rfl, rfl⟩ dd_Reducer_within ⟨Nat.le_of_ble_eq_true rfl, Nat.le_of_ble_eq_true rfl⟩ rfl rfl (wX_29 ad cA σ19) rfl rfl (Nat.le_of_ble_eq_true rfl) ⟨Nat.zero_le _, Nat.zero_le _⟩ d_Reducer_lessCompatible_151 (fun r20 σ21 => ?_)
      exact J_iret h rfl d_Reducer_lessCompatible_154
  · refine J_aload_n (q := 0) h d_Reducer_lessCompatible_126 rfl rfl ?_
    refine J_iconst (v := 0) h d_Reducer_lessCompatible_127 (by decide) ?_
    refine J_aload_n (q := 0) h d_Reducer_lessCompatible_128 rfl rfl ?_
    refine J_iload_n (q := 1) h d_Reducer_lessCompatible_129 rfl rfl ?_
    refine J_callVi (As := [.int v1]) (st := [.int 0, .ref (ad 29)]) (rmc := rX_Reducer_boxOf) (q0 := 29) h (fun _ _ hf => cX_Reducer_boxOf (jl K) D ad cA N v1 σ _ _ hf) (gd_V q_3_33 q_3_35 q_s_5 q_1_7 q_3_36) rfl ⟨rfl, rfl⟩ dd_Reducer_boxOf ⟨Nat.le_of_ble_eq_true rfl, Nat.le_of_ble_eq_true rfl⟩ rfl rfl (wX_29 ad cA σ) rfl rfl (Nat.le_of_ble_eq_true rfl) ⟨Nat.zero_le _, Nat.zero_le _⟩ d_Reducer_lessCompatible_130 (fun r22 σ23 => ?_)
    refine J_iload_n (q := 2) h d_Reducer_lessCompatible_133 rfl rfl ?_
    refine J_callVi (As := [.int 0, .int r22, .int v2]) (st := []) (rmc := rX_Reducer_within) (q0 := 29) h (fun _ _ hf => cX_Reducer_within (jl K) D ad cA 0 r22 v2 σ23 _ _ hf) (gd_V q_3_38 q_3_40 q_s_6 q_1_7 q_3_41) rfl ⟨rfl, rfl⟩ dd_Reducer_within ⟨Nat.le_of_ble_eq_true rfl, Nat.le_of_ble_eq_true rfl⟩ rfl rfl (wX_29 ad cA σ23) rfl rfl (Nat.le_of_ble_eq_true rfl) ⟨Nat.zero_le _, Nat.zero_le _⟩ d_Reducer_lessCompatible_134 (fun r24 σ25 => ?_)
    exact J_iret h rfl d_Reducer_lessCompatible_137
def X_Reducer_lessCompatible_b91 (N : Nat) (v1 : Int32) (v2 : Int32) (v3 : Int32) (v4 : Int32) (σ : SX) : Option (Int32 × SX) := (if v3 = 0 then (if v4 = 0 then (X_Reducer_lessCompatible_b155 N v1 v2 σ) else (bd (X_Reducer_unboxes v1 v2 σ) (fun (r28 : Int32) (σ29 : SX) => (bd (X_Reducer_truth r28 σ29) (fun (r30 : Int32) (σ31 : SX) => (some (r30, σ31))))))) else (bd (X_Reducer_boxOf N v1 σ) (fun (r32 : Int32) (σ33 : SX) => (bd (X_Reducer_within 1 r32 v2 σ33) (fun (r34 : Int32) (σ35 : SX) => (some (r34, σ35)))))))
set_option maxRecDepth 100000 in
set_option maxHeartbeats 4000000 in
theorem J_X_Reducer_lessCompatible_b91 (K : jx_E) (D : va_G) (A : Nat → Prop) (ad : Nat → Nat) (cA : Nat → ClassId) (N : Nat) (h : jx_ok K D clX (tysX cA) A 6 b_Reducer_lessCompatible y_Reducer_lessCompatible.cls ((Cond.code y_Reducer_lessCompatible b_Reducer_lessCompatible 6 (some .int)) :: tblG) rX_Reducer_lessCompatible (some .int)) : ∀ (v1 : Int32) (v2 : Int32) (v3 : Int32) (v4 : Int32) (σ : SX), J K D clX A 6 (wX ad cA) (jx_Qi K D clX (tysX cA) (wX ad cA) A) 0 0 91 [(0, .ref (ad 29)), (1, .int v1), (2, .int v2), (3, .int v3), (4, .int v4)] [] σ (X_Reducer_lessCompatible_b91 N v1 v2 v3 v4 σ) := by
  intro v1 v2 v3 v4 σ
  rw [X_Reducer_lessCompatible_b91]
  refine J_iload_n (q := 3) h d_Reducer_lessCompatible_91 rfl rfl ?_
  refine J_if_eq (tgt := 107) h d_Reducer_lessCompatible_92 (by decide) ?_ ?_
  · refine J_iload (q := 4) h d_Reducer_lessCompatible_107 rfl ?_
    refine J_if_eq (tgt := 155) h d_Reducer_lessCompatible_109 (by decide) ?_ ?_
    · refine J_sub [0, 1, 2] rfl ?_
      exact J_X_Reducer_lessCompatible_b155 K D A ad cA N h v1 v2 σ
    · refine J_aload_n (q := 0) h d_Reducer_lessCompatible_112 rfl rfl ?_
      refine J_iload_n (q := 1) h d_Reducer_lessCompatible_113 rfl rfl ?_
      refine J_iload_n (q := 2) h d_Reducer_lessCompatible_114 rfl rfl ?_
      refine J_callVi (As := [.int v1, .int v2]) (st := []) (rmc := rX_Reducer_unboxes) (q0 := 29) h (fun _ _ hf => cX_Reducer_unboxes (jl K) D ad cA v1 v2 σ _ _ hf) (gd_V q_3_42 q_3_44 q_s_7 q_1_7 q_3_45) rfl ⟨rfl, rfl⟩ dd_Reducer_unboxes ⟨Nat.le_of_ble_eq_true rfl, Nat.le_of_ble_eq_true rfl⟩ rfl rfl (wX_29 ad cA σ) rfl rfl (Nat.le_of_ble_eq_true rfl) ⟨Nat.zero_le _, Nat.zero_le _⟩ d_Reducer_lessCompatible_115 (fun r28 σ29 => ?_)
      refine J_callTi (As := [.int r28]) (st := []) (rmc := rX_Reducer_truth) h (fun _ _ hf => cX_Reducer_truth (jl K) D ad cA r28 σ29 _ _ hf) (gd_all q_3_32) (tb_up q_3_30) (tb_up q_3_31) (tb_up q_1_7) rfl ⟨rfl, rfl⟩ dd_Reducer_truth ⟨Nat.le_of_ble_eq_true rfl, Nat.le_of_ble_eq_true rfl⟩ rfl rfl (Nat.le_of_ble_eq_true rfl) ⟨Nat.zero_le _, Nat.zero_le _⟩ d_Reducer_lessCompatible_118 (fun r30 σ31 => ?_)
      exact J_iret h rfl d_Reducer_lessCompatible_121
  · refine J_aload_n (q := 0) h d_Reducer_lessCompatible_95 rfl rfl ?_
    refine J_iconst (v := 1) h d_Reducer_lessCompatible_96 (by decide) ?_
    refine J_aload_n (q := 0) h d_Reducer_lessCompatible_97 rfl rfl ?_
    refine J_iload_n (q := 1) h d_Reducer_lessCompatible_98 rfl rfl ?_
    refine J_callVi (As := [.int v1]) (st := [.int 1, .ref (ad 29)]) (rmc := rX_Reducer_boxOf) (q0 := 29) h (fun _ _ hf => cX_Reducer_boxOf (jl K) D ad cA N v1 σ _ _ hf) (gd_V q_3_33 q_3_35 q_s_5 q_1_7 q_3_36) rfl ⟨rfl, rfl⟩ dd_Reducer_boxOf ⟨Nat.le_of_ble_eq_true rfl, Nat.le_of_ble_eq_true rfl⟩ rfl rfl (wX_29 ad cA σ) rfl rfl (Nat.le_of_ble_eq_true rfl) ⟨Nat.zero_le _, Nat.zero_le _⟩ d_Reducer_lessCompatible_99 (fun r32 σ33 => ?_)
    refine J_iload_n (q := 2) h d_Reducer_lessCompatible_102 rfl rfl ?_
    refine J_callVi (As := [.int 1, .int r32, .int v2]) (st := []) (rmc := rX_Reducer_within) (q0 := 29) h (fun _ _ hf => cX_Reducer_within (jl K) D ad cA 1 r32 v2 σ33 _ _ hf) (gd_V q_3_38 q_3_40 q_s_6 q_1_7 q_3_41) rfl ⟨rfl, rfl⟩ dd_Reducer_within ⟨Nat.le_of_ble_eq_true rfl, Nat.le_of_ble_eq_true rfl⟩ rfl rfl (wX_29 ad cA σ33) rfl rfl (Nat.le_of_ble_eq_true rfl) ⟨Nat.zero_le _, Nat.zero_le _⟩ d_Reducer_lessCompatible_103 (fun r34 σ35 => ?_)
    exact J_iret h rfl d_Reducer_lessCompatible_106
def X_Reducer_lessCompatible_b35 (N : Nat) (v1 : Int32) (v2 : Int32) (v3 : Int32) (s0 : Int32) (σ : SX) : Option (Int32 × SX) := (bd (X_Types_isProper v1 σ) (fun (r5 : Int32) (σ6 : SX) => (if r5 = 0 then (X_Reducer_lessCompatible_b122 N v1 v2 v3 s0 σ6) else (bd (X_Types_isProper v2 σ6) (fun (r26 : Int32) (σ27 : SX) => (if r26 = 0 then (X_Reducer_lessCompatible_b122 N v1 v2 v3 s0 σ27) else (if v3 = 0 then (X_Reducer_lessCompatible_b91 N v1 v2 v3 s0 σ27) else (if s0 = 0 then (X_Reducer_lessCompatible_b91 N v1 v2 v3 s0 σ27) else (bd (X_Types_firstOf v1 σ27) (fun (r36 : Int32) (σ37 : SX) => (bd (X_Types_firstOf v2 σ37) (fun (r38 : Int32) (σ39 : SX) => (bd (X_Reducer_widens r36 r38 σ39) (fun (r40 : Int32) (σ41 : SX) => (bd (X_Reducer_truth r40 σ41) (fun (r42 : Int32) (σ43 : SX) => (some (r42, σ43))))))))))))))))))
set_option maxRecDepth 100000 in
set_option maxHeartbeats 4000000 in
theorem J_X_Reducer_lessCompatible_b35 (K : jx_E) (D : va_G) (A : Nat → Prop) (ad : Nat → Nat) (cA : Nat → ClassId) (N : Nat) (h : jx_ok K D clX (tysX cA) A 6 b_Reducer_lessCompatible y_Reducer_lessCompatible.cls ((Cond.code y_Reducer_lessCompatible b_Reducer_lessCompatible 6 (some .int)) :: tblG) rX_Reducer_lessCompatible (some .int)) : ∀ (v1 : Int32) (v2 : Int32) (v3 : Int32) (s0 : Int32) (σ : SX), J K D clX A 6 (wX ad cA) (jx_Qi K D clX (tysX cA) (wX ad cA) A) 0 0 35 [(0, .ref (ad 29)), (1, .int v1), (2, .int v2), (3, .int v3)] [.int s0] σ (X_Reducer_lessCompatible_b35 N v1 v2 v3 s0 σ) := by
  intro v1 v2 v3 s0 σ
  rw [X_Reducer_lessCompatible_b35]
  refine J_istore (lv' := [(4, .int s0), (0, .ref (ad 29)), (1, .int v1), (2, .int v2), (3, .int v3)]) h d_Reducer_lessCompatible_35 (by decide) rfl ?_
  refine J_aload_n (q := 1) h d_Reducer_lessCompatible_37 rfl rfl ?_
  refine J_getf h 29 (wX_29 ad cA σ) (tb_ups in_Reducer) rfl 1 (by decide) (tb_up q_1_198) rfl d_Reducer_lessCompatible_38 ?_
  refine J_iload_n (q := 2) h d_Reducer_lessCompatible_41 rfl rfl ?_
  refine J_callVi (As := [.int v1]) (st := []) (rmc := rX_Types_isProper) (q0 := 7) h (fun _ _ hf => cX_Types_isProper (jl K) D ad cA v1 σ _ _ hf) (gd_V q_3_22 q_3_23 q_3_24 q_1_3 q_3_25) rfl ⟨rfl, rfl⟩ dd_Types_isProper ⟨Nat.le_of_ble_eq_true rfl, Nat.le_of_ble_eq_true rfl⟩ rfl rfl (wX_7 ad cA σ) rfl rfl (Nat.le_of_ble_eq_true rfl) ⟨Nat.zero_le _, Nat.zero_le _⟩ d_Reducer_lessCompatible_42 (fun r5 σ6 => ?_)
  refine J_if_eq (tgt := 122) h d_Reducer_lessCompatible_45 (by decide) ?_ ?_
  · refine J_sub [1, 2, 3, 4, 0] rfl ?_
    exact J_X_Reducer_lessCompatible_b122 K D A ad cA N h v1 v2 v3 s0 σ6
  · refine J_aload_n (q := 1) h d_Reducer_lessCompatible_48 rfl rfl ?_
    refine J_getf h 29 (wX_29 ad cA σ6) (tb_ups in_Reducer) rfl 1 (by decide) (tb_up q_1_198) rfl d_Reducer_lessCompatible_49 ?_
    refine J_iload_n (q := 3) h d_Reducer_lessCompatible_52 rfl rfl ?_
    refine J_callVi (As := [.int v2]) (st := []) (rmc := rX_Types_isProper) (q0 := 7) h (fun _ _ hf => cX_Types_isProper (jl K) D ad cA v2 σ6 _ _ hf) (gd_V q_3_22 q_3_23 q_3_24 q_1_3 q_3_25) rfl ⟨rfl, rfl⟩ dd_Types_isProper ⟨Nat.le_of_ble_eq_true rfl, Nat.le_of_ble_eq_true rfl⟩ rfl rfl (wX_7 ad cA σ6) rfl rfl (Nat.le_of_ble_eq_true rfl) ⟨Nat.zero_le _, Nat.zero_le _⟩ d_Reducer_lessCompatible_53 (fun r26 σ27 => ?_)
    refine J_if_eq (tgt := 122) h d_Reducer_lessCompatible_56 (by decide) ?_ ?_
    · refine J_sub [1, 2, 3, 4, 0] rfl ?_
      exact J_X_Reducer_lessCompatible_b122 K D A ad cA N h v1 v2 v3 s0 σ27
    · refine J_iload_n (q := 4) h d_Reducer_lessCompatible_59 rfl rfl ?_
      refine J_if_eq (tgt := 91) h d_Reducer_lessCompatible_60 (by decide) ?_ ?_
      · refine J_sub [1, 2, 3, 4, 0] rfl ?_
        exact J_X_Reducer_lessCompatible_b91 K D A ad cA N h v1 v2 v3 s0 σ27
      · refine J_iload (q := 0) h d_Reducer_lessCompatible_63 rfl ?_
        refine J_if_eq (tgt := 91) h d_Reducer_lessCompatible_65 (by decide) ?_ ?_
        · refine J_sub [1, 2, 3, 4, 0] rfl ?_
          exact J_X_Reducer_lessCompatible_b91 K D A ad cA N h v1 v2 v3 s0 σ27
        · refine J_aload_n (q := 1) h d_Reducer_lessCompatible_68 rfl rfl ?_
          refine J_getf h 29 (wX_29 ad cA σ27) (tb_ups in_Reducer) rfl 1 (by decide) (tb_up q_1_198) rfl d_Reducer_lessCompatible_69 ?_
          refine J_iload_n (q := 2) h d_Reducer_lessCompatible_72 rfl rfl ?_
          refine J_callVi (As := [.int v1]) (st := []) (rmc := rX_Types_firstOf) (q0 := 7) h (fun _ _ hf => cX_Types_firstOf (jl K) D ad cA v1 σ27 _ _ hf) (gd_V q_3_26 q_2_131 q_2_132 q_1_3 q_2_133) rfl ⟨rfl, rfl⟩ dd_Types_firstOf ⟨Nat.le_of_ble_eq_true rfl, Nat.le_of_ble_eq_true rfl⟩ rfl rfl (wX_7 ad cA σ27) rfl rfl (Nat.le_of_ble_eq_true rfl) ⟨Nat.zero_le _, Nat.zero_le _⟩ d_Reducer_lessCompatible_73 (fun r36 σ37 => ?_)
          refine J_aload_n (q := 1) h d_Reducer_lessCompatible_76 rfl rfl ?_
          refine J_getf h 29 (wX_29 ad cA σ37) (tb_ups in_Reducer) rfl 1 (by decide) (tb_up q_1_198) rfl d_Reducer_lessCompatible_77 ?_
          refine J_iload_n (q := 3) h d_Reducer_lessCompatible_80 rfl rfl ?_
          refine J_callVi (As := [.int v2]) (st := [.int r36]) (rmc := rX_Types_firstOf) (q0 := 7) h (fun _ _ hf => cX_Types_firstOf (jl K) D ad cA v2 σ37 _ _ hf) (gd_V q_3_26 q_2_131 q_2_132 q_1_3 q_2_133) rfl ⟨rfl, rfl⟩ dd_Types_firstOf ⟨Nat.le_of_ble_eq_true rfl, Nat.le_of_ble_eq_true rfl⟩ rfl rfl (wX_7 ad cA σ37) rfl rfl (Nat.le_of_ble_eq_true rfl) ⟨Nat.zero_le _, Nat.zero_le _⟩ d_Reducer_lessCompatible_81 (fun r38 σ39 => ?_)
          refine J_callTi (As := [.int r36, .int r38]) (st := []) (rmc := rX_Reducer_widens) h (fun _ _ hf => cX_Reducer_widens (jl K) D ad cA r36 r38 σ39 _ _ hf) (gd_all q_3_29) (tb_up q_3_27) (tb_up q_3_28) (tb_up q_1_7) rfl ⟨rfl, rfl⟩ dd_Reducer_widens ⟨Nat.le_of_ble_eq_true rfl, Nat.le_of_ble_eq_true rfl⟩ rfl rfl (Nat.le_of_ble_eq_true rfl) ⟨Nat.zero_le _, Nat.zero_le _⟩ d_Reducer_lessCompatible_84 (fun r40 σ41 => ?_)
          refine J_callTi (As := [.int r40]) (st := []) (rmc := rX_Reducer_truth) h (fun _ _ hf => cX_Reducer_truth (jl K) D ad cA r40 σ41 _ _ hf) (gd_all q_3_32) (tb_up q_3_30) (tb_up q_3_31) (tb_up q_1_7) rfl ⟨rfl, rfl⟩ dd_Reducer_truth ⟨Nat.le_of_ble_eq_true rfl, Nat.le_of_ble_eq_true rfl⟩ rfl rfl (Nat.le_of_ble_eq_true rfl) ⟨Nat.zero_le _, Nat.zero_le _⟩ d_Reducer_lessCompatible_87 (fun r42 σ43 => ?_)
          exact J_iret h rfl d_Reducer_lessCompatible_90
def X_Reducer_lessCompatible_b17 (N : Nat) (v1 : Int32) (v2 : Int32) (s0 : Int32) (σ : SX) : Option (Int32 × SX) := (bd (X_Types_kindOf v2 σ) (fun (r3 : Int32) (σ4 : SX) => (if r3 = 5 then (X_Reducer_lessCompatible_b35 N v1 v2 s0 1 σ4) else (X_Reducer_lessCompatible_b35 N v1 v2 s0 0 σ4))))
set_option maxRecDepth 100000 in
set_option maxHeartbeats 4000000 in
theorem J_X_Reducer_lessCompatible_b17 (K : jx_E) (D : va_G) (A : Nat → Prop) (ad : Nat → Nat) (cA : Nat → ClassId) (N : Nat) (h : jx_ok K D clX (tysX cA) A 6 b_Reducer_lessCompatible y_Reducer_lessCompatible.cls ((Cond.code y_Reducer_lessCompatible b_Reducer_lessCompatible 6 (some .int)) :: tblG) rX_Reducer_lessCompatible (some .int)) : ∀ (v1 : Int32) (v2 : Int32) (s0 : Int32) (σ : SX), J K D clX A 6 (wX ad cA) (jx_Qi K D clX (tysX cA) (wX ad cA) A) 0 0 17 [(0, .ref (ad 29)), (1, .int v1), (2, .int v2)] [.int s0] σ (X_Reducer_lessCompatible_b17 N v1 v2 s0 σ) := by
  intro v1 v2 s0 σ
  rw [X_Reducer_lessCompatible_b17]
  refine J_istore_n (lv' := [(3, .int s0), (0, .ref (ad 29)), (1, .int v1), (2, .int v2)]) h d_Reducer_lessCompatible_17 rfl (by decide) rfl ?_
  refine J_aload_n (q := 1) h d_Reducer_lessCompatible_18 rfl rfl ?_
  refine J_getf h 29 (wX_29 ad cA σ) (tb_ups in_Reducer) rfl 1 (by decide) (tb_up q_1_198) rfl d_Reducer_lessCompatible_19 ?_
  refine J_iload_n (q := 3) h d_Reducer_lessCompatible_22 rfl rfl ?_
  refine J_callVi (As := [.int v2]) (st := []) (rmc := rX_Types_kindOf) (q0 := 7) h (fun _ _ hf => cX_Types_kindOf (jl K) D ad cA v2 σ _ _ hf) (gd_V q_3_21 q_2_127 q_2_128 q_1_3 q_2_129) rfl ⟨rfl, rfl⟩ dd_Types_kindOf ⟨Nat.le_of_ble_eq_true rfl, Nat.le_of_ble_eq_true rfl⟩ rfl rfl (wX_7 ad cA σ) rfl rfl (Nat.le_of_ble_eq_true rfl) ⟨Nat.zero_le _, Nat.zero_le _⟩ d_Reducer_lessCompatible_23 (fun r3 σ4 => ?_)
  refine J_iconst (v := 5) h d_Reducer_lessCompatible_26 (by decide) ?_
  refine J_icmp_ne (tgt := 34) h d_Reducer_lessCompatible_27 (by decide) ?_ ?_
  · refine J_iconst (v := 1) h d_Reducer_lessCompatible_30 (by decide) ?_
    refine J_goto (tgt := 35) h d_Reducer_lessCompatible_31 (by decide) ?_
    refine J_sub [1, 2, 3, 0] rfl ?_
    exact J_X_Reducer_lessCompatible_b35 K D A ad cA N h v1 v2 s0 1 σ4
  · refine J_iconst (v := 0) h d_Reducer_lessCompatible_34 (by decide) ?_
    refine J_sub [1, 2, 3, 0] rfl ?_
    exact J_X_Reducer_lessCompatible_b35 K D A ad cA N h v1 v2 s0 0 σ4
def X_Reducer_lessCompatible (N : Nat) (x1 : Int32) (x2 : Int32) (σ : SX) : Option (Int32 × SX) := (bd (X_Types_kindOf x1 σ) (fun (r1 : Int32) (σ2 : SX) => (if r1 = 5 then (X_Reducer_lessCompatible_b17 N x1 x2 1 σ2) else (X_Reducer_lessCompatible_b17 N x1 x2 0 σ2))))
set_option maxRecDepth 100000 in
set_option maxHeartbeats 4000000 in
theorem J_X_Reducer_lessCompatible (K : jx_E) (D : va_G) (A : Nat → Prop) (ad : Nat → Nat) (cA : Nat → ClassId) (N : Nat) (h : jx_ok K D clX (tysX cA) A 6 b_Reducer_lessCompatible y_Reducer_lessCompatible.cls ((Cond.code y_Reducer_lessCompatible b_Reducer_lessCompatible 6 (some .int)) :: tblG) rX_Reducer_lessCompatible (some .int)) : ∀ (x1 : Int32) (x2 : Int32) (σ : SX), J K D clX A 6 (wX ad cA) (jx_Qi K D clX (tysX cA) (wX ad cA) A) 0 0 0 [(0, .ref (ad 29)), (1, .int x1), (2, .int x2)] [] σ (X_Reducer_lessCompatible N x1 x2 σ) := by
  intro x1 x2 σ
  rw [X_Reducer_lessCompatible]
  refine J_aload_n (q := 0) h d_Reducer_lessCompatible_0 rfl rfl ?_
  refine J_getf h 29 (wX_29 ad cA σ) (tb_ups in_Reducer) rfl 1 (by decide) (tb_up q_1_198) rfl d_Reducer_lessCompatible_1 ?_
  refine J_iload_n (q := 1) h d_Reducer_lessCompatible_4 rfl rfl ?_
  refine J_callVi (As := [.int x1]) (st := []) (rmc := rX_Types_kindOf) (q0 := 7) h (fun _ _ hf => cX_Types_kindOf (jl K) D ad cA x1 σ _ _ hf) (gd_V q_3_21 q_2_127 q_2_128 q_1_3 q_2_129) rfl ⟨rfl, rfl⟩ dd_Types_kindOf ⟨Nat.le_of_ble_eq_true rfl, Nat.le_of_ble_eq_true rfl⟩ rfl rfl (wX_7 ad cA σ) rfl rfl (Nat.le_of_ble_eq_true rfl) ⟨Nat.zero_le _, Nat.zero_le _⟩ d_Reducer_lessCompatible_5 (fun r1 σ2 => ?_)
  refine J_iconst (v := 5) h d_Reducer_lessCompatible_8 (by decide) ?_
  refine J_icmp_ne (tgt := 16) h d_Reducer_lessCompatible_9 (by decide) ?_ ?_
  · refine J_iconst (v := 1) h d_Reducer_lessCompatible_12 (by decide) ?_
    refine J_goto (tgt := 17) h d_Reducer_lessCompatible_13 (by decide) ?_
    exact J_X_Reducer_lessCompatible_b17 K D A ad cA N h x1 x2 1 σ2
  · refine J_iconst (v := 0) h d_Reducer_lessCompatible_16 (by decide) ?_
    exact J_X_Reducer_lessCompatible_b17 K D A ad cA N h x1 x2 0 σ2
set_option maxRecDepth 100000 in
theorem cX_Reducer_lessCompatible (l : Launch) (D : va_G) (ad : Nat → Nat) (cA : Nat → ClassId) (N : Nat) (x1 : Int32) (x2 : Int32) (σ : SX) (r : Int32) (σ' : SX) (hf : X_Reducer_lessCompatible N x1 x2 σ = some (r, σ')) : MetI l y_Reducer_lessCompatible ((Cond.code y_Reducer_lessCompatible b_Reducer_lessCompatible 6 (some .int)) :: tblG) rX_Reducer_lessCompatible D clX (tysX cA) (wX ad cA) [.ref (ad 29), .int x1, .int x2] σ r σ' :=
  jx_metI (by decide) rfl (Nat.le_of_ble_eq_true rfl) (fun K A h => J_X_Reducer_lessCompatible K D A ad cA N h x1 x2 σ) hf
def rX_Reducer_bind : Room := { frames := 1, cells := 0, slots := 0, locals := 25 }
theorem rm_ok_X_Reducer_bind : rX_Reducer_bind.cells = 0 ∧ rX_Reducer_bind.slots = 0 := ⟨rfl, rfl⟩
def X_Reducer_bind_b40 (N : Nat) (v2 : Int32) (v3 : Int32) (v4 : Int32) (v5 : Int32) (σ : SX) : Option (Int32 × SX) := (if v5 = 1 then (bd (X_Types_kindOf v4 σ) (fun (r7 : Int32) (σ8 : SX) => (if r7 = 7 then (bd (X_Types_firstOf v4 σ8) (fun (r9 : Int32) (σ10 : SX) => (bd (X_Bounds_add N v2 r9 v3 (gX_Reducer_origin σ10) σ10) (fun (r11 : Int32) (σ12 : SX) => (some (r11, σ12)))))) else (some (v5, σ8))))) else (some (v5, σ)))
set_option maxRecDepth 100000 in
set_option maxHeartbeats 4000000 in
theorem J_X_Reducer_bind_b40 (K : jx_E) (D : va_G) (A : Nat → Prop) (ad : Nat → Nat) (cA : Nat → ClassId) (N : Nat) (h : jx_ok K D clX (tysX cA) A 6 b_Reducer_bind y_Reducer_bind.cls ((Cond.code y_Reducer_bind b_Reducer_bind 6 (some .int)) :: tblG) rX_Reducer_bind (some .int)) : ∀ (v2 : Int32) (v3 : Int32) (v4 : Int32) (v5 : Int32) (σ : SX), J K D clX A 6 (wX ad cA) (jx_Qi K D clX (tysX cA) (wX ad cA) A) 0 0 40 [(0, .ref (ad 29)), (2, .int v2), (3, .int v3), (4, .int v4), (5, .int v5)] [] σ (X_Reducer_bind_b40 N v2 v3 v4 v5 σ) := by
  intro v2 v3 v4 v5 σ
  rw [X_Reducer_bind_b40]
  refine J_iload (q := 4) h d_Reducer_bind_40 rfl ?_
  refine J_iconst (v := 1) h d_Reducer_bind_42 (by decide) ?_
  refine J_icmp_ne (tgt := 84) h d_Reducer_bind_43 (by decide) ?_ ?_
  · refine J_aload_n (q := 0) h d_Reducer_bind_46 rfl rfl ?_
    refine J_getf h 29 (wX_29 ad cA σ) (tb_ups in_Reducer) rfl 1 (by decide) (tb_up q_1_198) rfl d_Reducer_bind_47 ?_
    refine J_iload (q := 3) h d_Reducer_bind_50 rfl ?_
    refine J_callVi (As := [.int v4]) (st := []) (rmc := rX_Types_kindOf) (q0 := 7) h (fun _ _ hf => cX_Types_kindOf (jl K) D ad cA v4 σ _ _ hf) (gd_V q_3_21 q_2_127 q_2_128 q_1_3 q_2_129) rfl ⟨rfl, rfl⟩ dd_Types_kindOf ⟨Nat.le_of_ble_eq_true rfl, Nat.le_of_ble_eq_true rfl⟩ rfl rfl (wX_7 ad cA σ) rfl rfl (Nat.le_of_ble_eq_true rfl) ⟨Nat.zero_le _, Nat.zero_le _⟩ d_Reducer_bind_52 (fun r7 σ8 => ?_)
    refine J_bipush (v := 7) h d_Reducer_bind_55 (by decide) ?_
    refine J_icmp_ne (tgt := 84) h d_Reducer_bind_57 (by decide) ?_ ?_
    · refine J_aload_n (q := 0) h d_Reducer_bind_60 rfl rfl ?_
      refine J_getf h 29 (wX_29 ad cA σ8) (tb_ups in_Reducer) rfl 2 (by decide) (tb_up q_1_199) rfl d_Reducer_bind_61 ?_
      refine J_iload_n (q := 1) h d_Reducer_bind_64 rfl rfl ?_
      refine J_aload_n (q := 0) h d_Reducer_bind_65 rfl rfl ?_
      refine J_getf h 29 (wX_29 ad cA σ8) (tb_ups in_Reducer) rfl 1 (by decide) (tb_up q_1_198) rfl d_Reducer_bind_66 ?_
      refine J_iload (q := 3) h d_Reducer_bind_69 rfl ?_
      refine J_callVi (As := [.int v4]) (st := [.int v2, .ref (ad 19)]) (rmc := rX_Types_firstOf) (q0 := 7) h (fun _ _ hf => cX_Types_firstOf (jl K) D ad cA v4 σ8 _ _ hf) (gd_V q_3_26 q_2_131 q_2_132 q_1_3 q_2_133) rfl ⟨rfl, rfl⟩ dd_Types_firstOf ⟨Nat.le_of_ble_eq_true rfl, Nat.le_of_ble_eq_true rfl⟩ rfl rfl (wX_7 ad cA σ8) rfl rfl (Nat.le_of_ble_eq_true rfl) ⟨Nat.zero_le _, Nat.zero_le _⟩ d_Reducer_bind_71 (fun r9 σ10 => ?_)
      refine J_iload_n (q := 2) h d_Reducer_bind_74 rfl rfl ?_
      refine J_aload_n (q := 0) h d_Reducer_bind_75 rfl rfl ?_
      refine J_getf h 29 (wX_29 ad cA σ10) (tb_ups in_Reducer) rfl 7 (by decide) (tb_up q_1_206) rfl d_Reducer_bind_76 ?_
      refine J_callVi (As := [.int v2, .int r9, .int v3, .int (gX_Reducer_origin σ10)]) (st := []) (rmc := rX_Bounds_add) (q0 := 19) h (fun _ _ hf => cX_Bounds_add (jl K) D ad cA N v2 r9 v3 (gX_Reducer_origin σ10) σ10 _ _ hf) (gd_V q_3_99 q_3_100 q_3_101 q_1_5 q_3_102) rfl ⟨rfl, rfl⟩ dd_Bounds_add ⟨Nat.le_of_ble_eq_true rfl, Nat.le_of_ble_eq_true rfl⟩ rfl rfl (wX_19 ad cA σ10) rfl rfl (Nat.le_of_ble_eq_true rfl) ⟨Nat.zero_le _, Nat.zero_le _⟩ d_Reducer_bind_79 (fun r11 σ12 => ?_)
      refine J_istore (lv' := [(5, .int r11), (0, .ref (ad 29)), (2, .int v2), (3, .int v3), (4, .int v4)]) h d_Reducer_bind_82 (by decide) rfl ?_
      refine J_iload (q := 0) h d_Reducer_bind_84 rfl ?_
      exact J_iret h rfl d_Reducer_bind_86
    · refine J_iload (q := 4) h d_Reducer_bind_84 rfl ?_
      exact J_iret h rfl d_Reducer_bind_86
  · refine J_iload (q := 4) h d_Reducer_bind_84 rfl ?_
    exact J_iret h rfl d_Reducer_bind_86
def X_Reducer_bind (N : Nat) (x1 : Int32) (x2 : Int32) (x3 : Int32) (x4 : Int32) (σ : SX) : Option (Int32 × SX) := (bd (X_Types_kindOf x3 σ) (fun (r1 : Int32) (σ2 : SX) => (if r1 = 7 then (bd (X_Types_firstOf x3 σ2) (fun (r3 : Int32) (σ4 : SX) => (bd (X_Bounds_add N x1 r3 x4 (gX_Reducer_origin σ4) σ4) (fun (r5 : Int32) (σ6 : SX) => (X_Reducer_bind_b40 N x2 x3 x4 r5 σ6))))) else (X_Reducer_bind_b40 N x2 x3 x4 1 σ2))))
set_option maxRecDepth 100000 in
set_option maxHeartbeats 4000000 in
theorem J_X_Reducer_bind (K : jx_E) (D : va_G) (A : Nat → Prop) (ad : Nat → Nat) (cA : Nat → ClassId) (N : Nat) (h : jx_ok K D clX (tysX cA) A 6 b_Reducer_bind y_Reducer_bind.cls ((Cond.code y_Reducer_bind b_Reducer_bind 6 (some .int)) :: tblG) rX_Reducer_bind (some .int)) : ∀ (x1 : Int32) (x2 : Int32) (x3 : Int32) (x4 : Int32) (σ : SX), J K D clX A 6 (wX ad cA) (jx_Qi K D clX (tysX cA) (wX ad cA) A) 0 0 0 [(0, .ref (ad 29)), (1, .int x1), (2, .int x2), (3, .int x3), (4, .int x4)] [] σ (X_Reducer_bind N x1 x2 x3 x4 σ) := by
  intro x1 x2 x3 x4 σ
  rw [X_Reducer_bind]
  refine J_iconst (v := 1) h d_Reducer_bind_0 (by decide) ?_
  refine J_istore (lv' := [(5, .int 1), (0, .ref (ad 29)), (1, .int x1), (2, .int x2), (3, .int x3), (4, .int x4)]) h d_Reducer_bind_1 (by decide) rfl ?_
  refine J_aload_n (q := 1) h d_Reducer_bind_3 rfl rfl ?_
  refine J_getf h 29 (wX_29 ad cA σ) (tb_ups in_Reducer) rfl 1 (by decide) (tb_up q_1_198) rfl d_Reducer_bind_4 ?_
  refine J_iload_n (q := 4) h d_Reducer_bind_7 rfl rfl ?_
  refine J_callVi (As := [.int x3]) (st := []) (rmc := rX_Types_kindOf) (q0 := 7) h (fun _ _ hf => cX_Types_kindOf (jl K) D ad cA x3 σ _ _ hf) (gd_V q_3_21 q_2_127 q_2_128 q_1_3 q_2_129) rfl ⟨rfl, rfl⟩ dd_Types_kindOf ⟨Nat.le_of_ble_eq_true rfl, Nat.le_of_ble_eq_true rfl⟩ rfl rfl (wX_7 ad cA σ) rfl rfl (Nat.le_of_ble_eq_true rfl) ⟨Nat.zero_le _, Nat.zero_le _⟩ d_Reducer_bind_8 (fun r1 σ2 => ?_)
  refine J_bipush (v := 7) h d_Reducer_bind_11 (by decide) ?_
  refine J_icmp_ne (tgt := 40) h d_Reducer_bind_13 (by decide) ?_ ?_
  · refine J_aload_n (q := 1) h d_Reducer_bind_16 rfl rfl ?_
    refine J_getf h 29 (wX_29 ad cA σ2) (tb_ups in_Reducer) rfl 2 (by decide) (tb_up q_1_199) rfl d_Reducer_bind_17 ?_
    refine J_iload_n (q := 2) h d_Reducer_bind_20 rfl rfl ?_
    refine J_aload_n (q := 1) h d_Reducer_bind_21 rfl rfl ?_
    refine J_getf h 29 (wX_29 ad cA σ2) (tb_ups in_Reducer) rfl 1 (by decide) (tb_up q_1_198) rfl d_Reducer_bind_22 ?_
    refine J_iload_n (q := 4) h d_Reducer_bind_25 rfl rfl ?_
    refine J_callVi (As := [.int x3]) (st := [.int x1, .ref (ad 19)]) (rmc := rX_Types_firstOf) (q0 := 7) h (fun _ _ hf => cX_Types_firstOf (jl K) D ad cA x3 σ2 _ _ hf) (gd_V q_3_26 q_2_131 q_2_132 q_1_3 q_2_133) rfl ⟨rfl, rfl⟩ dd_Types_firstOf ⟨Nat.le_of_ble_eq_true rfl, Nat.le_of_ble_eq_true rfl⟩ rfl rfl (wX_7 ad cA σ2) rfl rfl (Nat.le_of_ble_eq_true rfl) ⟨Nat.zero_le _, Nat.zero_le _⟩ d_Reducer_bind_26 (fun r3 σ4 => ?_)
    refine J_iload (q := 5) h d_Reducer_bind_29 rfl ?_
    refine J_aload_n (q := 1) h d_Reducer_bind_31 rfl rfl ?_
    refine J_getf h 29 (wX_29 ad cA σ4) (tb_ups in_Reducer) rfl 7 (by decide) (tb_up q_1_206) rfl d_Reducer_bind_32 ?_
    refine J_callVi (As := [.int x1, .int r3, .int x4, .int (gX_Reducer_origin σ4)]) (st := []) (rmc := rX_Bounds_add) (q0 := 19) h (fun _ _ hf => cX_Bounds_add (jl K) D ad cA N x1 r3 x4 (gX_Reducer_origin σ4) σ4 _ _ hf) (gd_V q_3_99 q_3_100 q_3_101 q_1_5 q_3_102) rfl ⟨rfl, rfl⟩ dd_Bounds_add ⟨Nat.le_of_ble_eq_true rfl, Nat.le_of_ble_eq_true rfl⟩ rfl rfl (wX_19 ad cA σ4) rfl rfl (Nat.le_of_ble_eq_true rfl) ⟨Nat.zero_le _, Nat.zero_le _⟩ d_Reducer_bind_35 (fun r5 σ6 => ?_)
    refine J_istore (lv' := [(5, .int r5), (0, .ref (ad 29)), (1, .int x1), (2, .int x2), (3, .int x3), (4, .int x4)]) h d_Reducer_bind_38 (by decide) rfl ?_
    refine J_sub [1, 3, 4, 5, 0] rfl ?_
    exact J_X_Reducer_bind_b40 K D A ad cA N h x2 x3 x4 r5 σ6
  · refine J_sub [1, 3, 4, 5, 0] rfl ?_
    exact J_X_Reducer_bind_b40 K D A ad cA N h x2 x3 x4 1 σ2
set_option maxRecDepth 100000 in
theorem cX_Reducer_bind (l : Launch) (D : va_G) (ad : Nat → Nat) (cA : Nat → ClassId) (N : Nat) (x1 : Int32) (x2 : Int32) (x3 : Int32) (x4 : Int32) (σ : SX) (r : Int32) (σ' : SX) (hf : X_Reducer_bind N x1 x2 x3 x4 σ = some (r, σ')) : MetI l y_Reducer_bind ((Cond.code y_Reducer_bind b_Reducer_bind 6 (some .int)) :: tblG) rX_Reducer_bind D clX (tysX cA) (wX ad cA) [.ref (ad 29), .int x1, .int x2, .int x3, .int x4] σ r σ' :=
  jx_metI (by decide) rfl (Nat.le_of_ble_eq_true rfl) (fun K A h => J_X_Reducer_bind K D A ad cA N h x1 x2 x3 x4 σ) hf
def rX_Reducer_withinArguments : Room := { frames := 2, cells := 0, slots := 0, locals := 47 }
theorem rm_ok_X_Reducer_withinArguments : rX_Reducer_withinArguments.cells = 0 ∧ rX_Reducer_withinArguments.slots = 0 := ⟨rfl, rfl⟩
def X_Reducer_withinArguments_L22 (N : Nat) : Nat → Int32 → Int32 → Int32 → Int32 → Int32 → SX → Option (Int32 × SX)
  | 0, _, _, _, _, _, _ => none
  | n + 1, v1, v2, v3, v4, v5, σ => (if v5 < 0 then (some (v4, σ)) else (if v4 = 1 then (bd (X_Types_argumentOf v2 v5 σ) (fun (r6 : Int32) (σ7 : SX) => (bd (X_Types_argumentOf v3 v5 σ7) (fun (r8 : Int32) (σ9 : SX) => (bd (X_Reducer_within v1 r6 r8 σ9) (fun (r10 : Int32) (σ11 : SX) => (nm (v5 + (-1)) (fun (y12 : Int32) => (X_Reducer_withinArguments_L22 N  n v1 v2 v3 r10 y12 σ11))))))))) else (some (v4, σ))))
set_option maxRecDepth 100000 in
set_option maxHeartbeats 4000000 in
theorem J_X_Reducer_withinArguments_L22 (K : jx_E) (D : va_G) (A : Nat → Prop) (ad : Nat → Nat) (cA : Nat → ClassId) (N : Nat) (h : jx_ok K D clX (tysX cA) A 6 b_Reducer_withinArguments y_Reducer_withinArguments.cls ((Cond.code y_Reducer_withinArguments b_Reducer_withinArguments 6 (some .int)) :: tblG) rX_Reducer_withinArguments (some .int)) : ∀ (n : Nat) (v1 : Int32) (v2 : Int32) (v3 : Int32) (v4 : Int32) (v5 : Int32) (σ : SX), J K D clX A 6 (wX ad cA) (jx_Qi K D clX (tysX cA) (wX ad cA) A) 0 0 22 [(0, .ref (ad 29)), (1, .int v1), (2, .int v2), (3, .int v3), (4, .int v4), (5, .int v5)] [] σ (X_Reducer_withinArguments_L22 N n v1 v2 v3 v4 v5 σ) := by
  intro n
  induction n with
  | zero => intro v1 v2 v3 v4 v5 σ; exact J_none
  | succ n ih =>
    intro v1 v2 v3 v4 v5 σ
    rw [X_Reducer_withinArguments_L22]
    refine J_iload (q := 5) h d_Reducer_withinArguments_22 rfl ?_
    refine J_if_lt (tgt := 66) h d_Reducer_withinArguments_24 (by decide) ?_ ?_
    · refine J_iload (q := 4) h d_Reducer_withinArguments_66 rfl ?_
      exact J_iret h rfl d_Reducer_withinArguments_68
    · refine J_iload (q := 4) h d_Reducer_withinArguments_27 rfl ?_
      refine J_iconst (v := 1) h d_Reducer_withinArguments_29 (by decide) ?_
      refine J_icmp_ne (tgt := 66) h d_Reducer_withinArguments_30 (by decide) ?_ ?_
      · refine J_aload_n (q := 0) h d_Reducer_withinArguments_33 rfl rfl ?_
        refine J_iload_n (q := 1) h d_Reducer_withinArguments_34 rfl rfl ?_
        refine J_aload_n (q := 0) h d_Reducer_withinArguments_35 rfl rfl ?_
        refine J_getf h 29 (wX_29 ad cA σ) (tb_ups in_Reducer) rfl 1 (by decide) (tb_up q_1_198) rfl d_Reducer_withinArguments_36 ?_
        refine J_iload_n (q := 2) h d_Reducer_withinArguments_39 rfl rfl ?_
        refine J_iload (q := 5) h d_Reducer_withinArguments_40 rfl ?_
        refine J_callVi (As := [.int v2, .int v5]) (st := [.int v1, .ref (ad 29)]) (rmc := rX_Types_argumentOf) (q0 := 7) h (fun _ _ hf => cX_Types_argumentOf (jl K) D ad cA v2 v5 σ _ _ hf) (gd_V q_3_107 q_3_55 q_3_56 q_1_3 q_3_57) rfl ⟨rfl, rfl⟩ dd_Types_argumentOf ⟨Nat.le_of_ble_eq_true rfl, Nat.le_of_ble_eq_true rfl⟩ rfl rfl (wX_7 ad cA σ) rfl rfl (Nat.le_of_ble_eq_true rfl) ⟨Nat.zero_le _, Nat.zero_le _⟩ d_Reducer_withinArguments_42 (fun r6 σ7 => ?_)
        refine J_aload_n (q := 0) h d_Reducer_withinArguments_45 rfl rfl ?_
        refine J_getf h 29 (wX_29 ad cA σ7) (tb_ups in_Reducer) rfl 1 (by decide) (tb_up q_1_198) rfl d_Reducer_withinArguments_46 ?_
        refine J_iload_n (q := 3) h d_Reducer_withinArguments_49 rfl rfl ?_
        refine J_iload (q := 5) h d_Reducer_withinArguments_50 rfl ?_
        refine J_callVi (As := [.int v3, .int v5]) (st := [.int r6, .int v1, .ref (ad 29)]) (rmc := rX_Types_argumentOf) (q0 := 7) h (fun _ _ hf => cX_Types_argumentOf (jl K) D ad cA v3 v5 σ7 _ _ hf) (gd_V q_3_107 q_3_55 q_3_56 q_1_3 q_3_57) rfl ⟨rfl, rfl⟩ dd_Types_argumentOf ⟨Nat.le_of_ble_eq_true rfl, Nat.le_of_ble_eq_true rfl⟩ rfl rfl (wX_7 ad cA σ7) rfl rfl (Nat.le_of_ble_eq_true rfl) ⟨Nat.zero_le _, Nat.zero_le _⟩ d_Reducer_withinArguments_52 (fun r8 σ9 => ?_)
        refine J_callVi (As := [.int v1, .int r6, .int r8]) (st := []) (rmc := rX_Reducer_within) (q0 := 29) h (fun _ _ hf => cX_Reducer_within (jl K) D ad cA v1 r6 r8 σ9 _ _ hf) (gd_V q_3_38 q_3_40 q_s_6 q_1_7 q_3_41) rfl ⟨rfl, rfl⟩ dd_Reducer_within ⟨Nat.le_of_ble_eq_true rfl, Nat.le_of_ble_eq_true rfl⟩ rfl rfl (wX_29 ad cA σ9) rfl rfl (Nat.le_of_ble_eq_true rfl) ⟨Nat.zero_le _, Nat.zero_le _⟩ d_Reducer_withinArguments_55 (fun r10 σ11 => ?_)
        refine J_istore (lv' := [(4, .int r10), (0, .ref (ad 29)), (1, .int v1), (2, .int v2), (3, .int v3), (5, .int v5)]) h d_Reducer_withinArguments_58 (by decide) rfl ?_
        refine J_iinc (q := 5) (c := (-1)) (lv' := fun y12 => [(5, .int y12), (4, .int r10), (0, .ref (ad 29)), (1, .int v1), (2, .int v2), (3, .int v3)]) h d_Reducer_withinArguments_60 rfl (by decide) (by decide) (fun _ => rfl) (fun y12 => ?_)
        refine J_goto (tgt := 22) h d_Reducer_withinArguments_63 (by decide) ?_
        refine J_sub [2, 3, 4, 5, 1, 0] rfl ?_
        exact ih v1 v2 v3 r10 y12 σ11
      · refine J_iload (q := 4) h d_Reducer_withinArguments_66 rfl ?_
        exact J_iret h rfl d_Reducer_withinArguments_68
def X_Reducer_withinArguments (N : Nat) (x1 : Int32) (x2 : Int32) (x3 : Int32) (σ : SX) : Option (Int32 × SX) := (bd (X_Types_classOf x3 σ) (fun (r1 : Int32) (σ2 : SX) => (bd (X_Classes_parametersOf r1 σ2) (fun (r3 : Int32) (σ4 : SX) => (nm ((r3 - 1)) (fun (y5 : Int32) => (X_Reducer_withinArguments_L22 N N x1 x2 x3 1 y5 σ4)))))))
set_option maxRecDepth 100000 in
set_option maxHeartbeats 4000000 in
theorem J_X_Reducer_withinArguments (K : jx_E) (D : va_G) (A : Nat → Prop) (ad : Nat → Nat) (cA : Nat → ClassId) (N : Nat) (h : jx_ok K D clX (tysX cA) A 6 b_Reducer_withinArguments y_Reducer_withinArguments.cls ((Cond.code y_Reducer_withinArguments b_Reducer_withinArguments 6 (some .int)) :: tblG) rX_Reducer_withinArguments (some .int)) : ∀ (x1 : Int32) (x2 : Int32) (x3 : Int32) (σ : SX), J K D clX A 6 (wX ad cA) (jx_Qi K D clX (tysX cA) (wX ad cA) A) 0 0 0 [(0, .ref (ad 29)), (1, .int x1), (2, .int x2), (3, .int x3)] [] σ (X_Reducer_withinArguments N x1 x2 x3 σ) := by
  intro x1 x2 x3 σ
  rw [X_Reducer_withinArguments]
  refine J_iconst (v := 1) h d_Reducer_withinArguments_0 (by decide) ?_
  refine J_istore (lv' := [(4, .int 1), (0, .ref (ad 29)), (1, .int x1), (2, .int x2), (3, .int x3)]) h d_Reducer_withinArguments_1 (by decide) rfl ?_
  refine J_aload_n (q := 1) h d_Reducer_withinArguments_3 rfl rfl ?_
  refine J_getf h 29 (wX_29 ad cA σ) (tb_ups in_Reducer) rfl 0 (by decide) (tb_up q_1_197) rfl d_Reducer_withinArguments_4 ?_
  refine J_aload_n (q := 1) h d_Reducer_withinArguments_7 rfl rfl ?_
  refine J_getf h 29 (wX_29 ad cA σ) (tb_ups in_Reducer) rfl 1 (by decide) (tb_up q_1_198) rfl d_Reducer_withinArguments_8 ?_
  refine J_iload_n (q := 4) h d_Reducer_withinArguments_11 rfl rfl ?_
  refine J_callVi (As := [.int x3]) (st := [.ref (ad 1)]) (rmc := rX_Types_classOf) (q0 := 7) h (fun _ _ hf => cX_Types_classOf (jl K) D ad cA x3 σ _ _ hf) (gd_V q_3_60 q_3_61 q_3_62 q_1_3 q_3_63) rfl ⟨rfl, rfl⟩ dd_Types_classOf ⟨Nat.le_of_ble_eq_true rfl, Nat.le_of_ble_eq_true rfl⟩ rfl rfl (wX_7 ad cA σ) rfl rfl (Nat.le_of_ble_eq_true rfl) ⟨Nat.zero_le _, Nat.zero_le _⟩ d_Reducer_withinArguments_12 (fun r1 σ2 => ?_)
  refine J_callVi (As := [.int r1]) (st := []) (rmc := rX_Classes_parametersOf) (q0 := 1) h (fun _ _ hf => cX_Classes_parametersOf (jl K) D ad cA r1 σ2 _ _ hf) (gd_V q_3_89 q_2_139 q_2_140 q_1_2 q_2_141) rfl ⟨rfl, rfl⟩ dd_Classes_parametersOf ⟨Nat.le_of_ble_eq_true rfl, Nat.le_of_ble_eq_true rfl⟩ rfl rfl (wX_1 ad cA σ2) rfl rfl (Nat.le_of_ble_eq_true rfl) ⟨Nat.zero_le _, Nat.zero_le _⟩ d_Reducer_withinArguments_15 (fun r3 σ4 => ?_)
  refine J_iconst (v := 1) h d_Reducer_withinArguments_18 (by decide) ?_
  refine J_isub h d_Reducer_withinArguments_19 ?_
  refine J_nmi (fun y5 => ?_)
  refine J_istore (lv' := [(5, .int y5), (4, .int 1), (0, .ref (ad 29)), (1, .int x1), (2, .int x2), (3, .int x3)]) h d_Reducer_withinArguments_20 (by decide) rfl ?_
  refine J_sub [2, 3, 4, 5, 1, 0] rfl ?_
  exact J_X_Reducer_withinArguments_L22 K D A ad cA N h N x1 x2 x3 1 y5 σ4
set_option maxRecDepth 100000 in
theorem cX_Reducer_withinArguments (l : Launch) (D : va_G) (ad : Nat → Nat) (cA : Nat → ClassId) (N : Nat) (x1 : Int32) (x2 : Int32) (x3 : Int32) (σ : SX) (r : Int32) (σ' : SX) (hf : X_Reducer_withinArguments N x1 x2 x3 σ = some (r, σ')) : MetI l y_Reducer_withinArguments ((Cond.code y_Reducer_withinArguments b_Reducer_withinArguments 6 (some .int)) :: tblG) rX_Reducer_withinArguments D clX (tysX cA) (wX ad cA) [.ref (ad 29), .int x1, .int x2, .int x3] σ r σ' :=
  jx_metI (by decide) rfl (Nat.le_of_ble_eq_true rfl) (fun K A h => J_X_Reducer_withinArguments K D A ad cA N h x1 x2 x3 σ) hf
