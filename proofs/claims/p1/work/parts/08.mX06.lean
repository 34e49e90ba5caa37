def rX_Holder_holdAll : Room := { frames := 28, cells := 0, slots := 0, locals := 828 }
theorem rm_ok_X_Holder_holdAll : rX_Holder_holdAll.cells = 0 ∧ rX_Holder_holdAll.slots = 0 := ⟨rfl, rfl⟩
def X_Holder_holdAll_b118 (N : Nat) (k39 : Int32 → Int32 → SX → Option (Int32 × SX)) (v1 : Int32) (v2 : Int32) (σ : SX) : Option (Int32 × SX) := (nm (v2 + 1) (fun (y13 : Int32) => (k39 v1 y13 σ)))
set_option maxRecDepth 100000 in
set_option maxHeartbeats 4000000 in
theorem J_X_Holder_holdAll_b118 (K : jx_E) (D : va_G) (A : Nat → Prop) (ad : Nat → Nat) (cA : Nat → ClassId) (N : Nat) (h : jx_ok K D clX (tysX cA) A 3 b_Holder_holdAll y_Holder_holdAll.cls ((Cond.code y_Holder_holdAll b_Holder_holdAll 3 (some .int)) :: tblG) rX_Holder_holdAll (some .int)) (k39 : Int32 → Int32 → SX → Option (Int32 × SX)) (hk39 : ∀ (v1 : Int32) (v2 : Int32) (σ : SX), J K D clX A 3 (wX ad cA) (jx_Qi K D clX (tysX cA) (wX ad cA) A) 0 0 39 [(0, .ref (ad 35)), (1, .int v1), (2, .int v2)] [] σ (k39 v1 v2 σ)) : ∀ (v1 : Int32) (v2 : Int32) (σ : SX), J K D clX A 3 (wX ad cA) (jx_Qi K D clX (tysX cA) (wX ad cA) A) 0 0 118 [(0, .ref (ad 35)), (1, .int v1), (2, .int v2)] [] σ (X_Holder_holdAll_b118 N k39 v1 v2 σ) := by
  intro v1 v2 σ
  rw [X_Holder_holdAll_b118]
  refine J_iinc (q := 2) (c := 1) (lv' := fun y13 => [(2, .int y13), (0, .ref (ad 35)), (1, .int v1)]) h d_Holder_holdAll_118 rfl (by decide) (by decide) (fun _ => rfl) (fun y13 => ?_)
  refine J_goto (tgt := 39) h d_Holder_holdAll_121 (by decide) ?_
  refine J_sub [1, 2, 0] rfl ?_
  exact hk39 v1 y13 σ
def X_Holder_holdAll_b105 (N : Nat) (k39 : Int32 → Int32 → SX → Option (Int32 × SX)) (v1 : Int32) (v2 : Int32) (σ : SX) : Option (Int32 × SX) := (if v1 = 1 then (bd (X_Reducer_less N σ) (fun (r11 : Int32) (σ12 : SX) => (X_Holder_holdAll_b118 N k39 r11 v2 σ12))) else (X_Holder_holdAll_b118 N k39 v1 v2 σ))
set_option maxRecDepth 100000 in
set_option maxHeartbeats 4000000 in
theorem J_X_Holder_holdAll_b105 (K : jx_E) (D : va_G) (A : Nat → Prop) (ad : Nat → Nat) (cA : Nat → ClassId) (N : Nat) (h : jx_ok K D clX (tysX cA) A 3 b_Holder_holdAll y_Holder_holdAll.cls ((Cond.code y_Holder_holdAll b_Holder_holdAll 3 (some .int)) :: tblG) rX_Holder_holdAll (some .int)) (k39 : Int32 → Int32 → SX → Option (Int32 × SX)) (hk39 : ∀ (v1 : Int32) (v2 : Int32) (σ : SX), J K D clX A 3 (wX ad cA) (jx_Qi K D clX (tysX cA) (wX ad cA) A) 0 0 39 [(0, .ref (ad 35)), (1, .int v1), (2, .int v2)] [] σ (k39 v1 v2 σ)) : ∀ (v1 : Int32) (v2 : Int32) (σ : SX), J K D clX A 3 (wX ad cA) (jx_Qi K D clX (tysX cA) (wX ad cA) A) 0 0 105 [(0, .ref (ad 35)), (1, .int v1), (2, .int v2)] [] σ (X_Holder_holdAll_b105 N k39 v1 v2 σ) := by
  intro v1 v2 σ
  rw [X_Holder_holdAll_b105]
  refine J_iload_n (q := 1) h d_Holder_holdAll_105 rfl rfl ?_
  refine J_iconst (v := 1) h d_Holder_holdAll_106 (by decide) ?_
  refine J_icmp_ne (tgt := 118) h d_Holder_holdAll_107 (by decide) ?_ ?_
  · refine J_aload_n (q := 0) h d_Holder_holdAll_110 rfl rfl ?_
    refine J_getf h 35 (wX_35 ad cA σ) (tb_ups in_Holder) rfl 4 (by decide) (tb_up q_1_238) rfl d_Holder_holdAll_111 ?_
    refine J_callVi (As := []) (st := []) (rmc := rX_Reducer_less) (q0 := 29) h (fun _ _ hf => cX_Reducer_less (jl K) D ad cA N  σ _ _ hf) (gd_V q_3_9 q_3_10 q_3_11 q_1_7 q_3_12) rfl ⟨rfl, rfl⟩ dd_Reducer_less ⟨Nat.le_of_ble_eq_true rfl, Nat.le_of_ble_eq_true rfl⟩ rfl rfl (wX_29 ad cA σ) rfl rfl (Nat.le_of_ble_eq_true rfl) ⟨Nat.zero_le _, Nat.zero_le _⟩ d_Holder_holdAll_114 (fun r11 σ12 => ?_)
    refine J_istore_n (lv' := [(1, .int r11), (0, .ref (ad 35)), (2, .int v2)]) h d_Holder_holdAll_117 rfl (by decide) rfl ?_
    refine J_sub [1, 0, 2] rfl ?_
    exact J_X_Holder_holdAll_b118 K D A ad cA N h k39 hk39 r11 v2 σ12
  · exact J_X_Holder_holdAll_b118 K D A ad cA N h k39 hk39 v1 v2 σ
def X_Holder_holdAll_b90 (N : Nat) (k39 : Int32 → Int32 → SX → Option (Int32 × SX)) (v1 : Int32) (v2 : Int32) (σ : SX) : Option (Int32 × SX) := (if v1 = 1 then (bd (X_Holder_comes N (gX_Holder_held σ) v2 σ) (fun (r9 : Int32) (σ10 : SX) => (X_Holder_holdAll_b105 N k39 r9 v2 σ10))) else (X_Holder_holdAll_b105 N k39 v1 v2 σ))
set_option maxRecDepth 100000 in
set_option maxHeartbeats 4000000 in
theorem J_X_Holder_holdAll_b90 (K : jx_E) (D : va_G) (A : Nat → Prop) (ad : Nat → Nat) (cA : Nat → ClassId) (N : Nat) (h : jx_ok K D clX (tysX cA) A 3 b_Holder_holdAll y_Holder_holdAll.cls ((Cond.code y_Holder_holdAll b_Holder_holdAll 3 (some .int)) :: tblG) rX_Holder_holdAll (some .int)) (k39 : Int32 → Int32 → SX → Option (Int32 × SX)) (hk39 : ∀ (v1 : Int32) (v2 : Int32) (σ : SX), J K D clX A 3 (wX ad cA) (jx_Qi K D clX (tysX cA) (wX ad cA) A) 0 0 39 [(0, .ref (ad 35)), (1, .int v1), (2, .int v2)] [] σ (k39 v1 v2 σ)) : ∀ (v1 : Int32) (v2 : Int32) (σ : SX), J K D clX A 3 (wX ad cA) (jx_Qi K D clX (tysX cA) (wX ad cA) A) 0 0 90 [(0, .ref (ad 35)), (1, .int v1), (2, .int v2)] [] σ (X_Holder_holdAll_b90 N k39 v1 v2 σ) := by
  intro v1 v2 σ
  rw [X_Holder_holdAll_b90]
  refine J_iload_n (q := 1) h d_Holder_holdAll_90 rfl rfl ?_
  refine J_iconst (v := 1) h d_Holder_holdAll_91 (by decide) ?_
  refine J_icmp_ne (tgt := 105) h d_Holder_holdAll_92 (by decide) ?_ ?_
  · refine J_aload_n (q := 0) h d_Holder_holdAll_95 rfl rfl ?_
    refine J_aload_n (q := 0) h d_Holder_holdAll_96 rfl rfl ?_
    refine J_getf h 35 (wX_35 ad cA σ) (tb_ups in_Holder) rfl 6 (by decide) (tb_up q_2_0) rfl d_Holder_holdAll_97 ?_
    refine J_iload_n (q := 2) h d_Holder_holdAll_100 rfl rfl ?_
    refine J_callVi (As := [.int (gX_Holder_held σ), .int v2]) (st := []) (rmc := rX_Holder_comes) (q0 := 35) h (fun _ _ hf => cX_Holder_comes (jl K) D ad cA N (gX_Holder_held σ) v2 σ _ _ hf) (gd_V q_3_117 q_3_119 q_s_13 q_1_9 q_3_120) rfl ⟨rfl, rfl⟩ dd_Holder_comes ⟨Nat.le_of_ble_eq_true rfl, Nat.le_of_ble_eq_true rfl⟩ rfl rfl (wX_35 ad cA σ) rfl rfl (Nat.le_of_ble_eq_true rfl) ⟨Nat.zero_le _, Nat.zero_le _⟩ d_Holder_holdAll_101 (fun r9 σ10 => ?_)
    refine J_istore_n (lv' := [(1, .int r9), (0, .ref (ad 35)), (2, .int v2)]) h d_Holder_holdAll_104 rfl (by decide) rfl ?_
    refine J_sub [1, 0, 2] rfl ?_
    exact J_X_Holder_holdAll_b105 K D A ad cA N h k39 hk39 r9 v2 σ10
  · exact J_X_Holder_holdAll_b105 K D A ad cA N h k39 hk39 v1 v2 σ
def X_Holder_holdAll_b75 (N : Nat) (k39 : Int32 → Int32 → SX → Option (Int32 × SX)) (v1 : Int32) (v2 : Int32) (σ : SX) : Option (Int32 × SX) := (if v1 = 1 then (bd (X_Holder_shareArguments N v2 (gX_Holder_held σ) σ) (fun (r7 : Int32) (σ8 : SX) => (X_Holder_holdAll_b90 N k39 r7 v2 σ8))) else (X_Holder_holdAll_b90 N k39 v1 v2 σ))
set_option maxRecDepth 100000 in
set_option maxHeartbeats 4000000 in
theorem J_X_Holder_holdAll_b75 (K : jx_E) (D : va_G) (A : Nat → Prop) (ad : Nat → Nat) (cA : Nat → ClassId) (N : Nat) (h : jx_ok K D clX (tysX cA) A 3 b_Holder_holdAll y_Holder_holdAll.cls ((Cond.code y_Holder_holdAll b_Holder_holdAll 3 (some .int)) :: tblG) rX_Holder_holdAll (some .int)) (k39 : Int32 → Int32 → SX → Option (Int32 × SX)) (hk39 : ∀ (v1 : Int32) (v2 : Int32) (σ : SX), J K D clX A 3 (wX ad cA) (jx_Qi K D clX (tysX cA) (wX ad cA) A) 0 0 39 [(0, .ref (ad 35)), (1, .int v1), (2, .int v2)] [] σ (k39 v1 v2 σ)) : ∀ (v1 : Int32) (v2 : Int32) (σ : SX), J K D clX A 3 (wX ad cA) (jx_Qi K D clX (tysX cA) (wX ad cA) A) 0 0 75 [(0, .ref (ad 35)), (1, .int v1), (2, .int v2)] [] σ (X_Holder_holdAll_b75 N k39 v1 v2 σ) := by
  intro v1 v2 σ
  rw [X_Holder_holdAll_b75]
  refine J_iload_n (q := 1) h d_Holder_holdAll_75 rfl rfl ?_
  refine J_iconst (v := 1) h d_Holder_holdAll_76 (by decide) ?_
  refine J_icmp_ne (tgt := 90) h d_Holder_holdAll_77 (by decide) ?_ ?_
  · refine J_aload_n (q := 0) h d_Holder_holdAll_80 rfl rfl ?_
    refine J_iload_n (q := 2) h d_Holder_holdAll_81 rfl rfl ?_
    refine J_aload_n (q := 0) h d_Holder_holdAll_82 rfl rfl ?_
    refine J_getf h 35 (wX_35 ad cA σ) (tb_ups in_Holder) rfl 6 (by decide) (tb_up q_2_0) rfl d_Holder_holdAll_83 ?_
    refine J_callVi (As := [.int v2, .int (gX_Holder_held σ)]) (st := []) (rmc := rX_Holder_shareArguments) (q0 := 35) h (fun _ _ hf => cX_Holder_shareArguments (jl K) D ad cA N v2 (gX_Holder_held σ) σ _ _ hf) (gd_V q_3_149 q_3_151 q_s_15 q_1_9 q_3_152) rfl ⟨rfl, rfl⟩ dd_Holder_shareArguments ⟨Nat.le_of_ble_eq_true rfl, Nat.le_of_ble_eq_true rfl⟩ rfl rfl (wX_35 ad cA σ) rfl rfl (Nat.le_of_ble_eq_true rfl) ⟨Nat.zero_le _, Nat.zero_le _⟩ d_Holder_holdAll_86 (fun r7 σ8 => ?_)
    refine J_istore_n (lv' := [(1, .int r7), (0, .ref (ad 35)), (2, .int v2)]) h d_Holder_holdAll_89 rfl (by decide) rfl ?_
    refine J_sub [1, 0, 2] rfl ?_
    exact J_X_Holder_holdAll_b90 K D A ad cA N h k39 hk39 r7 v2 σ8
  · exact J_X_Holder_holdAll_b90 K D A ad cA N h k39 hk39 v1 v2 σ
def X_Holder_holdAll_L39 (N : Nat) (k124 : Int32 → SX → Option (Int32 × SX)) : Nat → Int32 → Int32 → SX → Option (Int32 × SX)
  | 0, _, _, _ => none
  | n + 1, v1, v2, σ => (if (gX_Holder_held σ) ≤ v2 then (k124 v1 σ) else (if v1 = 1 then (bd (X_Holder_comes N v2 (gX_Holder_held σ) σ) (fun (r3 : Int32) (σ4 : SX) => (if r3 = 1 then (bd (X_Reducer_less N σ4) (fun (r5 : Int32) (σ6 : SX) => (X_Holder_holdAll_b75 N (X_Holder_holdAll_L39 N k124 n) r5 v2 σ6))) else (X_Holder_holdAll_b75 N (X_Holder_holdAll_L39 N k124 n) r3 v2 σ4)))) else (k124 v1 σ)))
set_option maxRecDepth 100000 in
set_option maxHeartbeats 4000000 in
theorem J_X_Holder_holdAll_L39 (K : jx_E) (D : va_G) (A : Nat → Prop) (ad : Nat → Nat) (cA : Nat → ClassId) (N : Nat) (h : jx_ok K D clX (tysX cA) A 3 b_Holder_holdAll y_Holder_holdAll.cls ((Cond.code y_Holder_holdAll b_Holder_holdAll 3 (some .int)) :: tblG) rX_Holder_holdAll (some .int)) (k124 : Int32 → SX → Option (Int32 × SX)) (hk124 : ∀ (v1 : Int32) (σ : SX), J K D clX A 3 (wX ad cA) (jx_Qi K D clX (tysX cA) (wX ad cA) A) 0 0 124 [(0, .ref (ad 35)), (1, .int v1)] [] σ (k124 v1 σ)) : ∀ (n : Nat) (v1 : Int32) (v2 : Int32) (σ : SX), J K D clX A 3 (wX ad cA) (jx_Qi K D clX (tysX cA) (wX ad cA) A) 0 0 39 [(0, .ref (ad 35)), (1, .int v1), (2, .int v2)] [] σ (X_Holder_holdAll_L39 N k124 n v1 v2 σ) := by
  intro n
  induction n with
  | zero => intro v1 v2 σ; exact J_none
  | succ n ih =>
    intro v1 v2 σ
    rw [X_Holder_holdAll_L39]
    refine J_iload_n (q := 2) h d_Holder_holdAll_39 rfl rfl ?_
    refine J_aload_n (q := 0) h d_Holder_holdAll_40 rfl rfl ?_
    refine J_getf h 35 (wX_35 ad cA σ) (tb_ups in_Holder) rfl 6 (by decide) (tb_up q_2_0) rfl d_Holder_holdAll_41 ?_
    refine J_icmp_ge (tgt := 124) h d_Holder_holdAll_44 (by decide) ?_ ?_
    · refine J_sub [0, 1] rfl ?_
      exact hk124 v1 σ
    · refine J_iload_n (q := 1) h d_Holder_holdAll_47 rfl rfl ?_
      refine J_iconst (v := 1) h d_Holder_holdAll_48 (by decide) ?_
      refine J_icmp_ne (tgt := 124) h d_Holder_holdAll_49 (by decide) ?_ ?_
      · refine J_aload_n (q := 0) h d_Holder_holdAll_52 rfl rfl ?_
        refine J_iload_n (q := 2) h d_Holder_holdAll_53 rfl rfl ?_
        refine J_aload_n (q := 0) h d_Holder_holdAll_54 rfl rfl ?_
        refine J_getf h 35 (wX_35 ad cA σ) (tb_ups in_Holder) rfl 6 (by decide) (tb_up q_2_0) rfl d_Holder_holdAll_55 ?_
        refine J_callVi (As := [.int v2, .int (gX_Holder_held σ)]) (st := []) (rmc := rX_Holder_comes) (q0 := 35) h (fun _ _ hf => cX_Holder_comes (jl K) D ad cA N v2 (gX_Holder_held σ) σ _ _ hf) (gd_V q_3_117 q_3_119 q_s_13 q_1_9 q_3_120) rfl ⟨rfl, rfl⟩ dd_Holder_comes ⟨Nat.le_of_ble_eq_true rfl, Nat.le_of_ble_eq_true rfl⟩ rfl rfl (wX_35 ad cA σ) rfl rfl (Nat.le_of_ble_eq_true rfl) ⟨Nat.zero_le _, Nat.zero_le _⟩ d_Holder_holdAll_58 (fun r3 σ4 => ?_)
        refine J_istore_n (lv' := [(1, .int r3), (0, .ref (ad 35)), (2, .int v2)]) h d_Holder_holdAll_61 rfl (by decide) rfl ?_
        refine J_iload_n (q := 0) h d_Holder_holdAll_62 rfl rfl ?_
        refine J_iconst (v := 1) h d_Holder_holdAll_63 (by decide) ?_
        refine J_icmp_ne (tgt := 75) h d_Holder_holdAll_64 (by decide) ?_ ?_
        · refine J_aload_n (q := 1) h d_Holder_holdAll_67 rfl rfl ?_
          refine J_getf h 35 (wX_35 ad cA σ4) (tb_ups in_Holder) rfl 4 (by decide) (tb_up q_1_238) rfl d_Holder_holdAll_68 ?_
          refine J_callVi (As := []) (st := []) (rmc := rX_Reducer_less) (q0 := 29) h (fun _ _ hf => cX_Reducer_less (jl K) D ad cA N  σ4 _ _ hf) (gd_V q_3_9 q_3_10 q_3_11 q_1_7 q_3_12) rfl ⟨rfl, rfl⟩ dd_Reducer_less ⟨Nat.le_of_ble_eq_true rfl, Nat.le_of_ble_eq_true rfl⟩ rfl rfl (wX_29 ad cA σ4) rfl rfl (Nat.le_of_ble_eq_true rfl) ⟨Nat.zero_le _, Nat.zero_le _⟩ d_Holder_holdAll_71 (fun r5 σ6 => ?_)
          refine J_istore_n (lv' := [(1, .int r5), (0, .ref (ad 35)), (2, .int v2)]) h d_Holder_holdAll_74 rfl (by decide) rfl ?_
          refine J_sub [1, 0, 2] rfl ?_
          exact J_X_Holder_holdAll_b75 K D A ad cA N h (X_Holder_holdAll_L39 N k124 n) ih r5 v2 σ6
        · refine J_sub [1, 0, 2] rfl ?_
          exact J_X_Holder_holdAll_b75 K D A ad cA N h (X_Holder_holdAll_L39 N k124 n) ih r3 v2 σ4
      · refine J_sub [0, 1] rfl ?_
        exact hk124 v1 σ
def X_Holder_holdAll_b124 (N : Nat) (k8 : Int32 → SX → Option (Int32 × SX)) (v1 : Int32) (σ : SX) : Option (Int32 × SX) := (nm (sX_Holder_held σ ((gX_Holder_held σ) + 1)) (fun (σ14 : SX) => (k8 v1 σ14)))
set_option maxRecDepth 100000 in
set_option maxHeartbeats 4000000 in
theorem J_X_Holder_holdAll_b124 (K : jx_E) (D : va_G) (A : Nat → Prop) (ad : Nat → Nat) (cA : Nat → ClassId) (N : Nat) (h : jx_ok K D clX (tysX cA) A 3 b_Holder_holdAll y_Holder_holdAll.cls ((Cond.code y_Holder_holdAll b_Holder_holdAll 3 (some .int)) :: tblG) rX_Holder_holdAll (some .int)) (k8 : Int32 → SX → Option (Int32 × SX)) (hk8 : ∀ (v1 : Int32) (σ : SX), J K D clX A 3 (wX ad cA) (jx_Qi K D clX (tysX cA) (wX ad cA) A) 0 0 8 [(0, .ref (ad 35)), (1, .int v1)] [] σ (k8 v1 σ)) : ∀ (v1 : Int32) (σ : SX), J K D clX A 3 (wX ad cA) (jx_Qi K D clX (tysX cA) (wX ad cA) A) 0 0 124 [(0, .ref (ad 35)), (1, .int v1)] [] σ (X_Holder_holdAll_b124 N k8 v1 σ) := by
  intro v1 σ
  rw [X_Holder_holdAll_b124]
  refine J_aload_n (q := 0) h d_Holder_holdAll_124 rfl rfl ?_
  refine J_dup h d_Holder_holdAll_125 rfl ?_
  refine J_getf h 35 (wX_35 ad cA σ) (tb_ups in_Holder) rfl 6 (by decide) (tb_up q_2_0) rfl d_Holder_holdAll_126 ?_
  refine J_iconst (v := 1) h d_Holder_holdAll_129 (by decide) ?_
  refine J_iadd h d_Holder_holdAll_130 ?_
  refine J_putf h 35 (wX_35 ad cA σ) (tb_ups in_Holder) rfl ft_Holder ft_Holder_ok nm_Holder 6 (by decide) (tb_up q_2_0) rfl rfl rfl (Nat.le_of_ble_eq_true rfl) (pX_35_6 ad cA σ ((gX_Holder_held σ) + 1)) d_Holder_holdAll_131 (fun σ14 => ?_)
  refine J_goto (tgt := 8) h d_Holder_holdAll_134 (by decide) ?_
  exact hk8 v1 σ14
def X_Holder_holdAll_L8 (N : Nat) : Nat → Int32 → SX → Option (Int32 × SX)
  | 0, _, _ => none
  | n + 1, v1, σ => (if v1 = 1 then (if (gX_Bounds_size σ) ≤ (gX_Holder_held σ) then (some (v1, σ)) else (if (200 : Int32) ≤ (gX_Holder_held σ) then (some (v1, σ)) else (X_Holder_holdAll_L39 N (X_Holder_holdAll_b124 N (X_Holder_holdAll_L8 N  n)) N v1 0 σ))) else (some (v1, σ)))
set_option maxRecDepth 100000 in
set_option maxHeartbeats 4000000 in
theorem J_X_Holder_holdAll_L8 (K : jx_E) (D : va_G) (A : Nat → Prop) (ad : Nat → Nat) (cA : Nat → ClassId) (N : Nat) (h : jx_ok K D clX (tysX cA) A 3 b_Holder_holdAll y_Holder_holdAll.cls ((Cond.code y_Holder_holdAll b_Holder_holdAll 3 (some .int)) :: tblG) rX_Holder_holdAll (some .int)) : ∀ (n : Nat) (v1 : Int32) (σ : SX), J K D clX A 3 (wX ad cA) (jx_Qi K D clX (tysX cA) (wX ad cA) A) 0 0 8 [(0, .ref (ad 35)), (1, .int v1)] [] σ (X_Holder_holdAll_L8 N n v1 σ) := by
  intro n
  induction n with
  | zero => intro v1 σ; exact J_none
  | succ n ih =>
    intro v1 σ
    rw [X_Holder_holdAll_L8]
    refine J_iload_n (q := 1) h d_Holder_holdAll_8 rfl rfl ?_
    refine J_iconst (v := 1) h d_Holder_holdAll_9 (by decide) ?_
    refine J_icmp_ne (tgt := 137) h d_Holder_holdAll_10 (by decide) ?_ ?_
    · refine J_aload_n (q := 0) h d_Holder_holdAll_13 rfl rfl ?_
      refine J_getf h 35 (wX_35 ad cA σ) (tb_ups in_Holder) rfl 6 (by decide) (tb_up q_2_0) rfl d_Holder_holdAll_14 ?_
      refine J_aload_n (q := 0) h d_Holder_holdAll_17 rfl rfl ?_
      refine J_getf h 35 (wX_35 ad cA σ) (tb_ups in_Holder) rfl 2 (by decide) (tb_up q_1_236) rfl d_Holder_holdAll_18 ?_
      refine J_getf h 19 (wX_19 ad cA σ) (tb_ups in_Bounds) rfl 4 (by decide) (tb_up q_1_110) rfl d_Holder_holdAll_21 ?_
      refine J_icmp_ge (tgt := 137) h d_Holder_holdAll_24 (by decide) ?_ ?_
      · refine J_iload_n (q := 1) h d_Holder_holdAll_137 rfl rfl ?_
        exact J_iret h rfl d_Holder_holdAll_138
      · refine J_aload_n (q := 0) h d_Holder_holdAll_27 rfl rfl ?_
        refine J_getf h 35 (wX_35 ad cA σ) (tb_ups in_Holder) rfl 6 (by decide) (tb_up q_2_0) rfl d_Holder_holdAll_28 ?_
        refine J_sipush (v := 200) h d_Holder_holdAll_31 (by decide) ?_
        refine J_icmp_ge (tgt := 137) h d_Holder_holdAll_34 (by decide) ?_ ?_
        · refine J_iload_n (q := 1) h d_Holder_holdAll_137 rfl rfl ?_
          exact J_iret h rfl d_Holder_holdAll_138
        · refine J_iconst (v := 0) h d_Holder_holdAll_37 (by decide) ?_
          refine J_istore_n (lv' := [(2, .int 0), (0, .ref (ad 35)), (1, .int v1)]) h d_Holder_holdAll_38 rfl (by decide) rfl ?_
          refine J_sub [1, 2, 0] rfl ?_
          exact J_X_Holder_holdAll_L39 K D A ad cA N h (X_Holder_holdAll_b124 N (X_Holder_holdAll_L8 N  n)) (J_X_Holder_holdAll_b124 K D A ad cA N h (X_Holder_holdAll_L8 N  n) ih) N v1 0 σ
    · refine J_iload_n (q := 1) h d_Holder_holdAll_137 rfl rfl ?_
      exact J_iret h rfl d_Holder_holdAll_138
def X_Holder_holdAll (N : Nat)  (σ : SX) : Option (Int32 × SX) := (bd (X_Reducer_less N σ) (fun (r1 : Int32) (σ2 : SX) => (X_Holder_holdAll_L8 N N r1 σ2)))
set_option maxRecDepth 100000 in
set_option maxHeartbeats 4000000 in
theorem J_X_Holder_holdAll (K : jx_E) (D : va_G) (A : Nat → Prop) (ad : Nat → Nat) (cA : Nat → ClassId) (N : Nat) (h : jx_ok K D clX (tysX cA) A 3 b_Holder_holdAll y_Holder_holdAll.cls ((Cond.code y_Holder_holdAll b_Holder_holdAll 3 (some .int)) :: tblG) rX_Holder_holdAll (some .int)) : ∀  (σ : SX), J K D clX A 3 (wX ad cA) (jx_Qi K D clX (tysX cA) (wX ad cA) A) 0 0 0 [(0, .ref (ad 35))] [] σ (X_Holder_holdAll N  σ) := by
  intro  σ
  rw [X_Holder_holdAll]
  refine J_aload_n (q := 0) h d_Holder_holdAll_0 rfl rfl ?_
  refine J_getf h 35 (wX_35 ad cA σ) (tb_ups in_Holder) rfl 4 (by decide) (tb_up q_1_238) rfl d_Holder_holdAll_1 ?_
  refine J_callVi (As := []) (st := []) (rmc := rX_Reducer_less) (q0 := 29) h (fun _ _ hf => cX_Reducer_less (jl K) D ad cA N  σ _ _ hf) (gd_V q_3_9 q_3_10 q_3_11 q_1_7 q_3_12) rfl ⟨rfl, rfl⟩ dd_Reducer_less ⟨Nat.le_of_ble_eq_true rfl, Nat.le_of_ble_eq_true rfl⟩ rfl rfl (wX_29 ad cA σ) rfl rfl (Nat.le_of_ble_eq_true rfl) ⟨Nat.zero_le _, Nat.zero_le _⟩ d_Holder_holdAll_4 (fun r1 σ2 => ?_)
  refine J_istore_n (lv' := [(1, .int r1), (0, .ref (ad 35))]) h d_Holder_holdAll_7 rfl (by decide) rfl ?_
  refine J_sub [1, 0] rfl ?_
  exact J_X_Holder_holdAll_L8 K D A ad cA N h N r1 σ2
set_option maxRecDepth 100000 in
theorem cX_Holder_holdAll (l : Launch) (D : va_G) (ad : Nat → Nat) (cA : Nat → ClassId) (N : Nat)  (σ : SX) (r : Int32) (σ' : SX) (hf : X_Holder_holdAll N  σ = some (r, σ')) : MetI l y_Holder_holdAll ((Cond.code y_Holder_holdAll b_Holder_holdAll 3 (some .int)) :: tblG) rX_Holder_holdAll D clX (tysX cA) (wX ad cA) [.ref (ad 35)] σ r σ' :=
  jx_metI (by decide) rfl (Nat.le_of_ble_eq_true rfl) (fun K A h => J_X_Holder_holdAll K D A ad cA N h  σ) hf
def rX_Reducer_begin : Room := { frames := 0, cells := 0, slots := 0, locals := 0 }
theorem rm_ok_X_Reducer_begin : rX_Reducer_begin.cells = 0 ∧ rX_Reducer_begin.slots = 0 := ⟨rfl, rfl⟩
def X_Reducer_begin (x1 : Int32) (σ : SX) : Option (Unit × SX) := (nm (sX_Work_size σ 0) (fun (σ1 : SX) => (nm (sX_Reducer_madeInCall σ1 0) (fun (σ2 : SX) => (nm (sX_Reducer_origin σ2 x1) (fun (σ3 : SX) => (nm (sX_Reducer_sawUnchecked σ3 0) (fun (σ4 : SX) => (some ((), σ4))))))))))
set_option maxRecDepth 100000 in
set_option maxHeartbeats 4000000 in
theorem J_X_Reducer_begin (K : jx_E) (D : va_G) (A : Nat → Prop) (ad : Nat → Nat) (cA : Nat → ClassId) (h : jx_ok K D clX (tysX cA) A 2 b_Reducer_begin y_Reducer_begin.cls ((Cond.code y_Reducer_begin b_Reducer_begin 2 none) :: tblG) rX_Reducer_begin none) : ∀ (x1 : Int32) (σ : SX), J K D clX A 2 (wX ad cA) (jx_Qv K D clX (tysX cA) (wX ad cA) A) 0 0 0 [(0, .ref (ad 29)), (1, .int x1)] [] σ (X_Reducer_begin x1 σ) := by
  intro x1 σ
  rw [X_Reducer_begin]
  refine J_aload_n (q := 0) h d_Reducer_begin_0 rfl rfl ?_
  refine J_getf h 29 (wX_29 ad cA σ) (tb_ups in_Reducer) rfl 4 (by decide) (tb_up q_1_202) rfl d_Reducer_begin_1 ?_
  refine J_iconst (v := 0) h d_Reducer_begin_4 (by decide) ?_
  refine J_putf h 30 (wX_30 ad cA σ) (tb_ups in_Work) rfl ft_Work ft_Work_ok nm_Work 4 (by decide) (tb_up q_1_169) rfl rfl rfl (Nat.le_of_ble_eq_true rfl) (pX_30_4 ad cA σ 0) d_Reducer_begin_5 (fun σ1 => ?_)
  refine J_aload_n (q := 0) h d_Reducer_begin_8 rfl rfl ?_
  refine J_iconst (v := 0) h d_Reducer_begin_9 (by decide) ?_
  refine J_putf h 29 (wX_29 ad cA σ1) (tb_ups in_Reducer) rfl ft_Reducer ft_Reducer_ok nm_Reducer 6 (by decide) (tb_up q_1_205) rfl rfl rfl (Nat.le_of_ble_eq_true rfl) (pX_29_6 ad cA σ1 0) d_Reducer_begin_10 (fun σ2 => ?_)
  refine J_aload_n (q := 0) h d_Reducer_begin_13 rfl rfl ?_
  refine J_iload_n (q := 1) h d_Reducer_begin_14 rfl rfl ?_
  refine J_putf h 29 (wX_29 ad cA σ2) (tb_ups in_Reducer) rfl ft_Reducer ft_Reducer_ok nm_Reducer 7 (by decide) (tb_up q_1_206) rfl rfl rfl (Nat.le_of_ble_eq_true rfl) (pX_29_7 ad cA σ2 x1) d_Reducer_begin_15 (fun σ3 => ?_)
  refine J_aload_n (q := 0) h d_Reducer_begin_18 rfl rfl ?_
  refine J_iconst (v := 0) h d_Reducer_begin_19 (by decide) ?_
  refine J_putf h 29 (wX_29 ad cA σ3) (tb_ups in_Reducer) rfl ft_Reducer ft_Reducer_ok nm_Reducer 8 (by decide) (tb_up q_1_207) rfl (by decide) (by decide) (Nat.le_of_ble_eq_true rfl) (pX_29_8 ad cA σ3 0) d_Reducer_begin_20 (fun σ4 => ?_)
  exact J_vret h rfl d_Reducer_begin_23
set_option maxRecDepth 100000 in
theorem cX_Reducer_begin (l : Launch) (D : va_G) (ad : Nat → Nat) (cA : Nat → ClassId) (x1 : Int32) (σ : SX) (r : Unit) (σ' : SX) (hf : X_Reducer_begin x1 σ = some (r, σ')) : MetV l y_Reducer_begin ((Cond.code y_Reducer_begin b_Reducer_begin 2 none) :: tblG) rX_Reducer_begin D clX (tysX cA) (wX ad cA) [.ref (ad 29), .int x1] σ r σ' :=
  jx_metV (by decide) rfl (Nat.le_of_ble_eq_true rfl) (fun K A h => J_X_Reducer_begin K D A ad cA h x1 σ) hf
def rX_Resolver_choiceOf : Room := { frames := 0, cells := 0, slots := 0, locals := 0 }
theorem rm_ok_X_Resolver_choiceOf : rX_Resolver_choiceOf.cells = 0 ∧ rX_Resolver_choiceOf.slots = 0 := ⟨rfl, rfl⟩
def X_Resolver_choiceOf (x1 : Int32) (σ : SX) : Option (Int32 × SX) := (if x1 < 0 then (some ((-1), σ)) else (if (12 : Int32) ≤ x1 then (some ((-1), σ)) else (if ck x1 12 = true then (some ((aX_Resolver_choices σ x1.toNatClampNeg), σ)) else none)))
set_option maxRecDepth 100000 in
set_option maxHeartbeats 4000000 in
theorem J_X_Resolver_choiceOf (K : jx_E) (D : va_G) (A : Nat → Prop) (ad : Nat → Nat) (cA : Nat → ClassId) (h : jx_ok K D clX (tysX cA) A 2 b_Resolver_choiceOf y_Resolver_choiceOf.cls ((Cond.code y_Resolver_choiceOf b_Resolver_choiceOf 2 (some .int)) :: tblG) rX_Resolver_choiceOf (some .int)) : ∀ (x1 : Int32) (σ : SX), J K D clX A 2 (wX ad cA) (jx_Qi K D clX (tysX cA) (wX ad cA) A) 0 0 0 [(0, .ref (ad 36)), (1, .int x1)] [] σ (X_Resolver_choiceOf x1 σ) := by
  intro x1 σ
  rw [X_Resolver_choiceOf]
  refine J_iload_n (q := 1) h d_Resolver_choiceOf_0 rfl rfl ?_
  refine J_if_lt (tgt := 19) h d_Resolver_choiceOf_1 (by decide) ?_ ?_
  · refine J_iconst (v := (-1)) h d_Resolver_choiceOf_19 (by decide) ?_
    exact J_iret h rfl d_Resolver_choiceOf_20
  · refine J_iload_n (q := 1) h d_Resolver_choiceOf_4 rfl rfl ?_
    refine J_bipush (v := 12) h d_Resolver_choiceOf_5 (by decide) ?_
    refine J_icmp_ge (tgt := 19) h d_Resolver_choiceOf_7 (by decide) ?_ ?_
    · refine J_iconst (v := (-1)) h d_Resolver_choiceOf_19 (by decide) ?_
      exact J_iret h rfl d_Resolver_choiceOf_20
    · refine J_aload_n (q := 0) h d_Resolver_choiceOf_10 rfl rfl ?_
      refine J_getf h 36 (wX_36 ad cA σ) (tb_ups in_Resolver) rfl 7 (by decide) (tb_up q_2_30) rfl d_Resolver_choiceOf_11 ?_
      refine J_iload_n (q := 1) h d_Resolver_choiceOf_14 rfl rfl ?_
      refine J_iald h 39 30 (wX_39 ad cA σ) rfl d_Resolver_choiceOf_15 ?_
      refine J_goto (tgt := 20) h d_Resolver_choiceOf_16 (by decide) ?_
      exact J_iret h rfl d_Resolver_choiceOf_20
set_option maxRecDepth 100000 in
theorem cX_Resolver_choiceOf (l : Launch) (D : va_G) (ad : Nat → Nat) (cA : Nat → ClassId) (x1 : Int32) (σ : SX) (r : Int32) (σ' : SX) (hf : X_Resolver_choiceOf x1 σ = some (r, σ')) : MetI l y_Resolver_choiceOf ((Cond.code y_Resolver_choiceOf b_Resolver_choiceOf 2 (some .int)) :: tblG) rX_Resolver_choiceOf D clX (tysX cA) (wX ad cA) [.ref (ad 36), .int x1] σ r σ' :=
  jx_metI (by decide) rfl (Nat.le_of_ble_eq_true rfl) (fun K A h => J_X_Resolver_choiceOf K D A ad cA h x1 σ) hf
def rX_Arrays_fill : Room := { frames := 0, cells := 0, slots := 0, locals := 0 }
theorem rm_ok_X_Arrays_fill : rX_Arrays_fill.cells = 0 ∧ rX_Arrays_fill.slots = 0 := ⟨rfl, rfl⟩
def X_Arrays_fill_L5 (N : Nat) : Nat → Int32 → Int32 → Int32 → SX → Option (Unit × SX)
  | 0, _, _, _, _ => none
  | n + 1, v1, v2, v3, σ => (if v3 ≤ v2 then (some ((), σ)) else (if ck v2 12 = true then (nm (tX_Resolver_links σ (upd (aX_Resolver_links σ) v2.toNatClampNeg v1)) (fun (σ1 : SX) => (nm (v2 + 1) (fun (y2 : Int32) => (X_Arrays_fill_L5 N  n v1 y2 v3 σ1))))) else none))
set_option maxRecDepth 100000 in
set_option maxHeartbeats 4000000 in
theorem J_X_Arrays_fill_L5 (K : jx_E) (D : va_G) (A : Nat → Prop) (ad : Nat → Nat) (cA : Nat → ClassId) (N : Nat) (h : jx_ok K D clX (tysX cA) A 4 b_Arrays_fill y_Arrays_fill.cls ((Cond.code y_Arrays_fill b_Arrays_fill 4 none) :: tblG) rX_Arrays_fill none) : ∀ (n : Nat) (v1 : Int32) (v2 : Int32) (v3 : Int32) (σ : SX), J K D clX A 4 (wX ad cA) (jx_Qv K D clX (tysX cA) (wX ad cA) A) 0 0 5 [(0, .ref (ad 38)), (1, .int v1), (2, .int v2), (3, .int v3)] [] σ (X_Arrays_fill_L5 N n v1 v2 v3 σ) := by
  intro n
  induction n with
  | zero => intro v1 v2 v3 σ; exact J_none
  | succ n ih =>
    intro v1 v2 v3 σ
    rw [X_Arrays_fill_L5]
    refine J_iload_n (q := 2) h d_Arrays_fill_5 rfl rfl ?_
    refine J_iload_n (q := 3) h d_Arrays_fill_6 rfl rfl ?_
    refine J_icmp_ge (tgt := 20) h d_Arrays_fill_7 (by decide) ?_ ?_
    · exact J_vret h rfl d_Arrays_fill_20
    · refine J_aload_n (q := 0) h d_Arrays_fill_10 rfl rfl ?_
      refine J_iload_n (q := 2) h d_Arrays_fill_11 rfl rfl ?_
      refine J_iload_n (q := 1) h d_Arrays_fill_12 rfl rfl ?_
      refine J_iast h 38 29 (wX_38 ad cA σ) rfl (uX_38 ad cA σ _) d_Arrays_fill_13 (fun σ1 => ?_)
      refine J_iinc (q := 2) (c := 1) (lv' := fun y2 => [(2, .int y2), (0, .ref (ad 38)), (1, .int v1), (3, .int v3)]) h d_Arrays_fill_14 rfl (by decide) (by decide) (fun _ => rfl) (fun y2 => ?_)
      refine J_goto (tgt := 5) h d_Arrays_fill_17 (by decide) ?_
      refine J_sub [1, 2, 0, 3] rfl ?_
      exact ih v1 y2 v3 σ1
def X_Arrays_fill (N : Nat) (x1 : Int32) (σ : SX) : Option (Unit × SX) := (X_Arrays_fill_L5 N N x1 0 12 σ)
set_option maxRecDepth 100000 in
set_option maxHeartbeats 4000000 in
theorem J_X_Arrays_fill (K : jx_E) (D : va_G) (A : Nat → Prop) (ad : Nat → Nat) (cA : Nat → ClassId) (N : Nat) (h : jx_ok K D clX (tysX cA) A 4 b_Arrays_fill y_Arrays_fill.cls ((Cond.code y_Arrays_fill b_Arrays_fill 4 none) :: tblG) rX_Arrays_fill none) : ∀ (x1 : Int32) (σ : SX), J K D clX A 4 (wX ad cA) (jx_Qv K D clX (tysX cA) (wX ad cA) A) 0 0 0 [(0, .ref (ad 38)), (1, .int x1)] [] σ (X_Arrays_fill N x1 σ) := by
  intro x1 σ
  rw [X_Arrays_fill]
  refine J_iconst (v := 0) h d_Arrays_fill_0 (by decide) ?_
  refine J_istore_n (lv' := [(2, .int 0), (0, .ref (ad 38)), (1, .int x1)]) h d_Arrays_fill_1 rfl (by decide) rfl ?_
  refine J_aload_n (q := 1) h d_Arrays_fill_2 rfl rfl ?_
  refine J_alen (v := 12) h 38 29 (wX_38 ad cA σ) rfl rfl d_Arrays_fill_3 ?_
  refine J_istore_n (lv' := [(3, .int 12), (2, .int 0), (0, .ref (ad 38)), (1, .int x1)]) h d_Arrays_fill_4 rfl (by decide) rfl ?_
  refine J_sub [2, 3, 1, 0] rfl ?_
  exact J_X_Arrays_fill_L5 K D A ad cA N h N x1 0 12 σ
set_option maxRecDepth 100000 in
theorem cX_Arrays_fill (l : Launch) (D : va_G) (ad : Nat → Nat) (cA : Nat → ClassId) (N : Nat) (x1 : Int32) (σ : SX) (r : Unit) (σ' : SX) (hf : X_Arrays_fill N x1 σ = some (r, σ')) : MetV l y_Arrays_fill ((Cond.code y_Arrays_fill b_Arrays_fill 4 none) :: tblG) rX_Arrays_fill D clX (tysX cA) (wX ad cA) [.ref (ad 38), .int x1] σ r σ' :=
  jx_metV (by decide) rfl (Nat.le_of_ble_eq_true rfl) (fun K A h => J_X_Arrays_fill K D A ad cA N h x1 σ) hf
def rX_Resolver_link : Room := { frames := 1, cells := 0, slots := 0, locals := 23 }
theorem rm_ok_X_Resolver_link : rX_Resolver_link.cells = 0 ∧ rX_Resolver_link.slots = 0 := ⟨rfl, rfl⟩
def X_Resolver_link_b120 (N : Nat) (k10 : Int32 → Int32 → SX → Option (Unit × SX)) (v1 : Int32) (v2 : Int32) (σ : SX) : Option (Unit × SX) := (nm (v2 + 1) (fun (y5 : Int32) => (k10 v1 y5 σ)))
set_option maxRecDepth 100000 in
set_option maxHeartbeats 4000000 in
theorem J_X_Resolver_link_b120 (K : jx_E) (D : va_G) (A : Nat → Prop) (ad : Nat → Nat) (cA : Nat → ClassId) (N : Nat) (h : jx_ok K D clX (tysX cA) A 6 b_Resolver_link y_Resolver_link.cls ((Cond.code y_Resolver_link b_Resolver_link 6 none) :: tblG) rX_Resolver_link none) (k10 : Int32 → Int32 → SX → Option (Unit × SX)) (hk10 : ∀ (v1 : Int32) (v2 : Int32) (σ : SX), J K D clX A 6 (wX ad cA) (jx_Qv K D clX (tysX cA) (wX ad cA) A) 0 0 10 [(0, .ref (ad 36)), (1, .int v1), (2, .int v2)] [] σ (k10 v1 v2 σ)) : ∀ (v1 : Int32) (v2 : Int32) (σ : SX), J K D clX A 6 (wX ad cA) (jx_Qv K D clX (tysX cA) (wX ad cA) A) 0 0 120 [(0, .ref (ad 36)), (1, .int v1), (2, .int v2)] [] σ (X_Resolver_link_b120 N k10 v1 v2 σ) := by
  intro v1 v2 σ
  rw [X_Resolver_link_b120]
  refine J_iinc (q := 2) (c := 1) (lv' := fun y5 => [(2, .int y5), (0, .ref (ad 36)), (1, .int v1)]) h d_Resolver_link_120 rfl (by decide) (by decide) (fun _ => rfl) (fun y5 => ?_)
  refine J_goto (tgt := 10) h d_Resolver_link_123 (by decide) ?_
  refine J_sub [1, 2, 0] rfl ?_
  exact hk10 v1 y5 σ
def X_Resolver_link_b114 (N : Nat) (k84 : Int32 → Int32 → Int32 → Int32 → Int32 → SX → Option (Unit × SX)) (v1 : Int32) (v2 : Int32) (v3 : Int32) (v4 : Int32) (v5 : Int32) (σ : SX) : Option (Unit × SX) := (nm (v5 + 1) (fun (y12 : Int32) => (k84 v1 v2 v3 v4 y12 σ)))
set_option maxRecDepth 100000 in
set_option maxHeartbeats 4000000 in
theorem J_X_Resolver_link_b114 (K : jx_E) (D : va_G) (A : Nat → Prop) (ad : Nat → Nat) (cA : Nat → ClassId) (N : Nat) (h : jx_ok K D clX (tysX cA) A 6 b_Resolver_link y_Resolver_link.cls ((Cond.code y_Resolver_link b_Resolver_link 6 none) :: tblG) rX_Resolver_link none) (k84 : Int32 → Int32 → Int32 → Int32 → Int32 → SX → Option (Unit × SX)) (hk84 : ∀ (v1 : Int32) (v2 : Int32) (v3 : Int32) (v4 : Int32) (v5 : Int32) (σ : SX), J K D clX A 6 (wX ad cA) (jx_Qv K D clX (tysX cA) (wX ad cA) A) 0 0 84 [(0, .ref (ad 36)), (1, .int v1), (2, .int v2), (3, .int v3), (4, .int v4), (5, .int v5)] [] σ (k84 v1 v2 v3 v4 v5 σ)) : ∀ (v1 : Int32) (v2 : Int32) (v3 : Int32) (v4 : Int32) (v5 : Int32) (σ : SX), J K D clX A 6 (wX ad cA) (jx_Qv K D clX (tysX cA) (wX ad cA) A) 0 0 114 [(0, .ref (ad 36)), (1, .int v1), (2, .int v2), (3, .int v3), (4, .int v4), (5, .int v5)] [] σ (X_Resolver_link_b114 N k84 v1 v2 v3 v4 v5 σ) := by
  intro v1 v2 v3 v4 v5 σ
  rw [X_Resolver_link_b114]
  refine J_iinc (q := 5) (c := 1) (lv' := fun y12 => [(5, .int y12), (0, .ref (ad 36)), (1, .int v1), (2, .int v2), (3, .int v3), (4, .int v4)]) h d_Resolver_link_114 rfl (by decide) (by decide) (fun _ => rfl) (fun y12 => ?_)
  refine J_goto (tgt := 84) h d_Resolver_link_117 (by decide) ?_
  refine J_sub [1, 2, 3, 4, 5, 0] rfl ?_
  exact hk84 v1 v2 v3 v4 y12 σ
def X_Resolver_link_L84 (N : Nat) (k120 : Int32 → Int32 → SX → Option (Unit × SX)) : Nat → Int32 → Int32 → Int32 → Int32 → Int32 → SX → Option (Unit × SX)
  | 0, _, _, _, _, _, _ => none
  | n + 1, v1, v2, v3, v4, v5, σ => (if (12 : Int32) ≤ v5 then (k120 v1 v2 σ) else (if ((v4 >>> (v5 &&& 31)) &&& 1) = 0 then (X_Resolver_link_b114 N (X_Resolver_link_L84 N k120 n) v1 v2 v3 v4 v5 σ) else (if ck v5 12 = true then (if ck v5 12 = true then (nm (tX_Resolver_links σ (upd (aX_Resolver_links σ) v5.toNatClampNeg ((aX_Resolver_links σ v5.toNatClampNeg) ||| ((1 : Int32) <<< (v3 &&& 31))))) (fun (σ13 : SX) => (X_Resolver_link_b114 N (X_Resolver_link_L84 N k120 n) v1 v2 v3 v4 v5 σ13))) else none) else none)))
set_option maxRecDepth 100000 in
set_option maxHeartbeats 4000000 in
theorem J_X_Resolver_link_L84 (K : jx_E) (D : va_G) (A : Nat → Prop) (ad : Nat → Nat) (cA : Nat → ClassId) (N : Nat) (h : jx_ok K D clX (tysX cA) A 6 b_Resolver_link y_Resolver_link.cls ((Cond.code y_Resolver_link b_Resolver_link 6 none) :: tblG) rX_Resolver_link none) (k120 : Int32 → Int32 → SX → Option (Unit × SX)) (hk120 : ∀ (v1 : Int32) (v2 : Int32) (σ : SX), J K D clX A 6 (wX ad cA) (jx_Qv K D clX (tysX cA) (wX ad cA) A) 0 0 120 [(0, .ref (ad 36)), (1, .int v1), (2, .int v2)] [] σ (k120 v1 v2 σ)) : ∀ (n : Nat) (v1 : Int32) (v2 : Int32) (v3 : Int32) (v4 : Int32) (v5 : Int32) (σ : SX), J K D clX A 6 (wX ad cA) (jx_Qv K D clX (tysX cA) (wX ad cA) A) 0 0 84 [(0, .ref (ad 36)), (1, .int v1), (2, .int v2), (3, .int v3), (4, .int v4), (5, .int v5)] [] σ (X_Resolver_link_L84 N k120 n v1 v2 v3 v4 v5 σ) := by
  intro n
  induction n with
  | zero => intro v1 v2 v3 v4 v5 σ; exact J_none
  | succ n ih =>
    intro v1 v2 v3 v4 v5 σ
    rw [X_Resolver_link_L84]
    refine J_iload (q := 5) h d_Resolver_link_84 rfl ?_
    refine J_bipush (v := 12) h d_Resolver_link_86 (by decide) ?_
    refine J_icmp_ge (tgt := 120) h d_Resolver_link_88 (by decide) ?_ ?_
    · refine J_sub [0, 1, 2] rfl ?_
      exact hk120 v1 v2 σ
    · refine J_iload (q := 4) h d_Resolver_link_91 rfl ?_
      refine J_iload (q := 5) h d_Resolver_link_93 rfl ?_
      refine J_ishr h d_Resolver_link_95 ?_
      refine J_iconst (v := 1) h d_Resolver_link_96 (by decide) ?_
      refine J_iand h d_Resolver_link_97 ?_
      refine J_if_eq (tgt := 114) h d_Resolver_link_98 (by decide) ?_ ?_
      · exact J_X_Resolver_link_b114 K D A ad cA N h (X_Resolver_link_L84 N k120 n) ih v1 v2 v3 v4 v5 σ
      · refine J_aload_n (q := 0) h d_Resolver_link_101 rfl rfl ?_
        refine J_getf h 36 (wX_36 ad cA σ) (tb_ups in_Resolver) rfl 6 (by decide) (tb_up q_2_29) rfl d_Resolver_link_102 ?_
        refine J_iload (q := 5) h d_Resolver_link_105 rfl ?_
        refine J_dup2 h d_Resolver_link_107 rfl rfl ?_
        refine J_iald h 38 29 (wX_38 ad cA σ) rfl d_Resolver_link_108 ?_
        refine J_iconst (v := 1) h d_Resolver_link_109 (by decide) ?_
        refine J_iload_n (q := 3) h d_Resolver_link_110 rfl rfl ?_
        refine J_ishl h d_Resolver_link_111 ?_
        refine J_ior h d_Resolver_link_112 ?_
        refine J_iast h 38 29 (wX_38 ad cA σ) rfl (uX_38 ad cA σ _) d_Resolver_link_113 (fun σ13 => ?_)
        exact J_X_Resolver_link_b114 K D A ad cA N h (X_Resolver_link_L84 N k120 n) ih v1 v2 v3 v4 v5 σ13
def X_Resolver_link_L10 (N : Nat) : Nat → Int32 → Int32 → SX → Option (Unit × SX)
  | 0, _, _, _ => none
  | n + 1, v1, v2, σ => (if (gX_Bounds_size σ) ≤ v2 then (some ((), σ)) else (bd (X_Bounds_variableOf v2 σ) (fun (r3 : Int32) (σ4 : SX) => (if r3 < 0 then (X_Resolver_link_b120 N (X_Resolver_link_L10 N  n) v1 v2 σ4) else (if (12 : Int32) ≤ r3 then (X_Resolver_link_b120 N (X_Resolver_link_L10 N  n) v1 v2 σ4) else (if ((v1 >>> (r3 &&& 31)) &&& 1) = 0 then (X_Resolver_link_b120 N (X_Resolver_link_L10 N  n) v1 v2 σ4) else (bd (X_Bounds_typeOf v2 σ4) (fun (r6 : Int32) (σ7 : SX) => (bd (X_Types_variablesIn r6 σ7) (fun (r8 : Int32) (σ9 : SX) => (nm ((r8 &&& v1)) (fun (y10 : Int32) => (if ck r3 12 = true then (if ck r3 12 = true then (nm (tX_Resolver_links σ9 (upd (aX_Resolver_links σ9) r3.toNatClampNeg ((aX_Resolver_links σ9 r3.toNatClampNeg) ||| y10))) (fun (σ11 : SX) => (X_Resolver_link_L84 N (X_Resolver_link_b120 N (X_Resolver_link_L10 N  n)) N v1 v2 r3 y10 0 σ11))) else none) else none)))))))))))))
set_option maxRecDepth 100000 in
set_option maxHeartbeats 4000000 in
theorem J_X_Resolver_link_L10 (K : jx_E) (D : va_G) (A : Nat → Prop) (ad : Nat → Nat) (cA : Nat → ClassId) (N : Nat) (h : jx_ok K D clX (tysX cA) A 6 b_Resolver_link y_Resolver_link.cls ((Cond.code y_Resolver_link b_Resolver_link 6 none) :: tblG) rX_Resolver_link none) : ∀ (n : Nat) (v1 : Int32) (v2 : Int32) (σ : SX), J K D clX A 6 (wX ad cA) (jx_Qv K D clX (tysX cA) (wX ad cA) A) 0 0 10 [(0, .ref (ad 36)), (1, .int v1), (2, .int v2)] [] σ (X_Resolver_link_L10 N n v1 v2 σ) := by
  intro n
  induction n with
  | zero => intro v1 v2 σ; exact J_none
  | succ n ih =>
    intro v1 v2 σ
    rw [X_Resolver_link_L10]
    refine J_iload_n (q := 2) h d_Resolver_link_10 rfl rfl ?_
    refine J_aload_n (q := 0) h d_Resolver_link_11 rfl rfl ?_
    refine J_getf h 36 (wX_36 ad cA σ) (tb_ups in_Resolver) rfl 2 (by decide) (tb_up q_2_25) rfl d_Resolver_link_12 ?_
    refine J_getf h 19 (wX_19 ad cA σ) (tb_ups in_Bounds) rfl 4 (by decide) (tb_up q_1_111) rfl d_Resolver_link_15 ?_
    refine J_icmp_ge (tgt := 126) h d_Resolver_link_18 (by decide) ?_ ?_
    · exact J_vret h rfl d_Resolver_link_126
    · refine J_aload_n (q := 0) h d_Resolver_link_21 rfl rfl ?_
      refine J_getf h 36 (wX_36 ad cA σ) (tb_ups in_Resolver) rfl 2 (by decide) (tb_up q_2_25) rfl d_Resolver_link_22 ?_
      refine J_iload_n (q := 2) h d_Resolver_link_25 rfl rfl ?_
      refine J_callVi (As := [.int v2]) (st := []) (rmc := rX_Bounds_variableOf) (q0 := 19) h (fun _ _ hf => cX_Bounds_variableOf (jl K) D ad cA v2 σ _ _ hf) (gd_V q_3_187 q_3_122 q_3_123 q_1_5 q_3_124) rfl ⟨rfl, rfl⟩ dd_Bounds_variableOf ⟨Nat.le_of_ble_eq_true rfl, Nat.le_of_ble_eq_true rfl⟩ rfl rfl (wX_19 ad cA σ) rfl rfl (Nat.le_of_ble_eq_true rfl) ⟨Nat.zero_le _, Nat.zero_le _⟩ d_Resolver_link_26 (fun r3 σ4 => ?_)
      refine J_istore_n (lv' := [(3, .int r3), (0, .ref (ad 36)), (1, .int v1), (2, .int v2)]) h d_Resolver_link_29 rfl (by decide) rfl ?_
      refine J_iload_n (q := 0) h d_Resolver_link_30 rfl rfl ?_
      refine J_if_lt (tgt := 120) h d_Resolver_link_31 (by decide) ?_ ?_
      · refine J_sub [1, 2, 3] rfl ?_
        exact J_X_Resolver_link_b120 K D A ad cA N h (X_Resolver_link_L10 N  n) ih v1 v2 σ4
      · refine J_iload_n (q := 0) h d_Resolver_link_34 rfl rfl ?_
        refine J_bipush (v := 12) h d_Resolver_link_35 (by decide) ?_
        refine J_icmp_ge (tgt := 120) h d_Resolver_link_37 (by decide) ?_ ?_
        · refine J_sub [1, 2, 3] rfl ?_
          exact J_X_Resolver_link_b120 K D A ad cA N h (X_Resolver_link_L10 N  n) ih v1 v2 σ4
        · refine J_iload_n (q := 2) h d_Resolver_link_40 rfl rfl ?_
          refine J_iload_n (q := 0) h d_Resolver_link_41 rfl rfl ?_
          refine J_ishr h d_Resolver_link_42 ?_
          refine J_iconst (v := 1) h d_Resolver_link_43 (by decide) ?_
          refine J_iand h d_Resolver_link_44 ?_
          refine J_if_ne (tgt := 51) h d_Resolver_link_45 (by decide) ?_ ?_
          · refine J_goto (tgt := 120) h d_Resolver_link_48 (by decide) ?_
            refine J_sub [1, 2, 3] rfl ?_
            exact J_X_Resolver_link_b120 K D A ad cA N h (X_Resolver_link_L10 N  n) ih v1 v2 σ4
          · refine J_aload_n (q := 1) h d_Resolver_link_51 rfl rfl ?_
            refine J_getf h 36 (wX_36 ad cA σ4) (tb_ups in_Resolver) rfl 1 (by decide) (tb_up q_2_24) rfl d_Resolver_link_52 ?_
            refine J_aload_n (q := 1) h d_Resolver_link_55 rfl rfl ?_
            refine J_getf h 36 (wX_36 ad cA σ4) (tb_ups in_Resolver) rfl 2 (by decide) (tb_up q_2_25) rfl d_Resolver_link_56 ?_
            refine J_iload_n (q := 3) h d_Resolver_link_59 rfl rfl ?_
            refine J_callVi (As := [.int v2]) (st := [.ref (ad 7)]) (rmc := rX_Bounds_typeOf) (q0 := 19) h (fun _ _ hf => cX_Bounds_typeOf (jl K) D ad cA v2 σ4 _ _ hf) (gd_V q_3_188 q_3_130 q_3_131 q_1_5 q_3_132) rfl ⟨rfl, rfl⟩ dd_Bounds_typeOf ⟨Nat.le_of_ble_eq_true rfl, Nat.le_of_ble_eq_true rfl⟩ rfl rfl (wX_19 ad cA σ4) rfl rfl (Nat.le_of_ble_eq_true rfl) ⟨Nat.zero_le _, Nat.zero_le _⟩ d_Resolver_link_60 (fun r6 σ7 => ?_)
            refine J_callVi (As := [.int r6]) (st := []) (rmc := rX_Types_variablesIn) (q0 := 7) h (fun _ _ hf => cX_Types_variablesIn (jl K) D ad cA r6 σ7 _ _ hf) (gd_V q_3_189 q_2_221 q_2_222 q_1_3 q_2_223) rfl ⟨rfl, rfl⟩ dd_Types_variablesIn ⟨Nat.le_of_ble_eq_true rfl, Nat.le_of_ble_eq_true rfl⟩ rfl rfl (wX_7 ad cA σ7) rfl rfl (Nat.le_of_ble_eq_true rfl) ⟨Nat.zero_le _, Nat.zero_le _⟩ d_Resolver_link_63 (fun r8 σ9 => ?_)
            refine J_iload_n (q := 2) h d_Resolver_link_66 rfl rfl ?_
            refine J_iand h d_Resolver_link_67 ?_
            refine J_nmi (fun y10 => ?_)
            refine J_istore (lv' := [(4, .int y10), (3, .int r3), (0, .ref (ad 36)), (1, .int v1), (2, .int v2)]) h d_Resolver_link_68 (by decide) rfl ?_
            refine J_aload_n (q := 2) h d_Resolver_link_70 rfl rfl ?_
            refine J_getf h 36 (wX_36 ad cA σ9) (tb_ups in_Resolver) rfl 6 (by decide) (tb_up q_2_29) rfl d_Resolver_link_71 ?_
            refine J_iload_n (q := 1) h d_Resolver_link_74 rfl rfl ?_
            refine J_dup2 h d_Resolver_link_75 rfl rfl ?_
            refine J_iald h 38 29 (wX_38 ad cA σ9) rfl d_Resolver_link_76 ?_
            refine J_iload (q := 0) h d_Resolver_link_77 rfl ?_
            refine J_ior h d_Resolver_link_79 ?_
            refine J_iast h 38 29 (wX_38 ad cA σ9) rfl (uX_38 ad cA σ9 _) d_Resolver_link_80 (fun σ11 => ?_)
            refine J_iconst (v := 0) h d_Resolver_link_81 (by decide) ?_
            refine J_istore (lv' := [(5, .int 0), (4, .int y10), (3, .int r3), (0, .ref (ad 36)), (1, .int v1), (2, .int v2)]) h d_Resolver_link_82 (by decide) rfl ?_
            refine J_sub [3, 4, 5, 2, 1, 0] rfl ?_
            exact J_X_Resolver_link_L84 K D A ad cA N h (X_Resolver_link_b120 N (X_Resolver_link_L10 N  n)) (J_X_Resolver_link_b120 K D A ad cA N h (X_Resolver_link_L10 N  n) ih) N v1 v2 r3 y10 0 σ11
def X_Resolver_link (N : Nat) (x1 : Int32) (σ : SX) : Option (Unit × SX) := (bd (X_Arrays_fill N 0 σ) (fun (r1 : Unit) (σ2 : SX) => (X_Resolver_link_L10 N N x1 0 σ2)))
set_option maxRecDepth 100000 in
set_option maxHeartbeats 4000000 in
theorem J_X_Resolver_link (K : jx_E) (D : va_G) (A : Nat → Prop) (ad : Nat → Nat) (cA : Nat → ClassId) (N : Nat) (h : jx_ok K D clX (tysX cA) A 6 b_Resolver_link y_Resolver_link.cls ((Cond.code y_Resolver_link b_Resolver_link 6 none) :: tblG) rX_Resolver_link none) : ∀ (x1 : Int32) (σ : SX), J K D clX A 6 (wX ad cA) (jx_Qv K D clX (tysX cA) (wX ad cA) A) 0 0 0 [(0, .ref (ad 36)), (1, .int x1)] [] σ (X_Resolver_link N x1 σ) := by
  intro x1 σ
  rw [X_Resolver_link]
  refine J_aload_n (q := 0) h d_Resolver_link_0 rfl rfl ?_
  refine J_getf h 36 (wX_36 ad cA σ) (tb_ups in_Resolver) rfl 6 (by decide) (tb_up q_2_29) rfl d_Resolver_link_1 ?_
  refine J_iconst (v := 0) h d_Resolver_link_4 (by decide) ?_
  refine J_callTv (As := [.ref (ad 38), .int 0]) (st := []) (rmc := rX_Arrays_fill) h (fun _ _ hf => cX_Arrays_fill (jl K) D ad cA N 0 σ _ _ hf) (gd_all q_1_60) (tb_up q_3_186) (tb_up q_1_59) (tb_up q_1_4) rfl ⟨rfl, rfl⟩ dd_Arrays_fill ⟨Nat.le_of_ble_eq_true rfl, Nat.le_of_ble_eq_true rfl⟩ rfl rfl (Nat.le_of_ble_eq_true rfl) ⟨Nat.zero_le _, Nat.zero_le _⟩ d_Resolver_link_5 (fun r1 σ2 => ?_)
  refine J_iconst (v := 0) h d_Resolver_link_8 (by decide) ?_
  refine J_istore_n (lv' := [(2, .int 0), (0, .ref (ad 36)), (1, .int x1)]) h d_Resolver_link_9 rfl (by decide) rfl ?_
  refine J_sub [1, 2, 0] rfl ?_
  exact J_X_Resolver_link_L10 K D A ad cA N h N x1 0 σ2
set_option maxRecDepth 100000 in
theorem cX_Resolver_link (l : Launch) (D : va_G) (ad : Nat → Nat) (cA : Nat → ClassId) (N : Nat) (x1 : Int32) (σ : SX) (r : Unit) (σ' : SX) (hf : X_Resolver_link N x1 σ = some (r, σ')) : MetV l y_Resolver_link ((Cond.code y_Resolver_link b_Resolver_link 6 none) :: tblG) rX_Resolver_link D clX (tysX cA) (wX ad cA) [.ref (ad 36), .int x1] σ r σ' :=
  jx_metV (by decide) rfl (Nat.le_of_ble_eq_true rfl) (fun K A h => J_X_Resolver_link K D A ad cA N h x1 σ) hf
def rX_Resolver_groupOf : Room := { frames := 0, cells := 0, slots := 0, locals := 0 }
theorem rm_ok_X_Resolver_groupOf : rX_Resolver_groupOf.cells = 0 ∧ rX_Resolver_groupOf.slots = 0 := ⟨rfl, rfl⟩
def X_Resolver_groupOf_b41 (N : Nat) (k15 : Int32 → Int32 → Int32 → SX → Option (Int32 × SX)) (v2 : Int32) (v3 : Int32) (v4 : Int32) (σ : SX) : Option (Int32 × SX) := (nm (v4 + 1) (fun (y2 : Int32) => (k15 v2 v3 y2 σ)))
set_option maxRecDepth 100000 in
set_option maxHeartbeats 4000000 in
theorem J_X_Resolver_groupOf_b41 (K : jx_E) (D : va_G) (A : Nat → Prop) (ad : Nat → Nat) (cA : Nat → ClassId) (N : Nat) (h : jx_ok K D clX (tysX cA) A 5 b_Resolver_groupOf y_Resolver_groupOf.cls ((Cond.code y_Resolver_groupOf b_Resolver_groupOf 5 (some .int)) :: tblG) rX_Resolver_groupOf (some .int)) (k15 : Int32 → Int32 → Int32 → SX → Option (Int32 × SX)) (hk15 : ∀ (v2 : Int32) (v3 : Int32) (v4 : Int32) (σ : SX), J K D clX A 5 (wX ad cA) (jx_Qi K D clX (tysX cA) (wX ad cA) A) 0 0 15 [(0, .ref (ad 36)), (2, .int v2), (3, .int v3), (4, .int v4)] [] σ (k15 v2 v3 v4 σ)) : ∀ (v2 : Int32) (v3 : Int32) (v4 : Int32) (σ : SX), J K D clX A 5 (wX ad cA) (jx_Qi K D clX (tysX cA) (wX ad cA) A) 0 0 41 [(0, .ref (ad 36)), (2, .int v2), (3, .int v3), (4, .int v4)] [] σ (X_Resolver_groupOf_b41 N k15 v2 v3 v4 σ) := by
  intro v2 v3 v4 σ
  rw [X_Resolver_groupOf_b41]
  refine J_iinc (q := 3) (c := 1) (lv' := fun y2 => [(4, .int y2), (0, .ref (ad 36)), (2, .int v2), (3, .int v3)]) h d_Resolver_groupOf_41 rfl (by decide) (by decide) (fun _ => rfl) (fun y2 => ?_)
  refine J_goto (tgt := 15) h d_Resolver_groupOf_44 (by decide) ?_
  refine J_sub [1, 2, 3, 0] rfl ?_
  exact hk15 v2 v3 y2 σ
def X_Resolver_groupOf_L15 (N : Nat) (k47 : Int32 → Int32 → SX → Option (Int32 × SX)) : Nat → Int32 → Int32 → Int32 → SX → Option (Int32 × SX)
  | 0, _, _, _, _ => none
  | n + 1, v2, v3, v4, σ => (if (12 : Int32) ≤ v4 then (k47 v2 v3 σ) else (if ((v2 >>> (v4 &&& 31)) &&& 1) = 0 then (X_Resolver_groupOf_b41 N (X_Resolver_groupOf_L15 N k47 n) v2 v3 v4 σ) else (if ck v4 12 = true then (nm ((v2 ||| (aX_Resolver_links σ v4.toNatClampNeg))) (fun (y3 : Int32) => (X_Resolver_groupOf_b41 N (X_Resolver_groupOf_L15 N k47 n) y3 v3 v4 σ))) else none)))
set_option maxRecDepth 100000 in
set_option maxHeartbeats 4000000 in
theorem J_X_Resolver_groupOf_L15 (K : jx_E) (D : va_G) (A : Nat → Prop) (ad : Nat → Nat) (cA : Nat → ClassId) (N : Nat) (h : jx_ok K D clX (tysX cA) A 5 b_Resolver_groupOf y_Resolver_groupOf.cls ((Cond.code y_Resolver_groupOf b_Resolver_groupOf 5 (some .int)) :: tblG) rX_Resolver_groupOf (some .int)) (k47 : Int32 → Int32 → SX → Option (Int32 × SX)) (hk47 : ∀ (v2 : Int32) (v3 : Int32) (σ : SX), J K D clX A 5 (wX ad cA) (jx_Qi K D clX (tysX cA) (wX ad cA) A) 0 0 47 [(0, .ref (ad 36)), (2, .int v2), (3, .int v3)] [] σ (k47 v2 v3 σ)) : ∀ (n : Nat) (v2 : Int32) (v3 : Int32) (v4 : Int32) (σ : SX), J K D clX A 5 (wX ad cA) (jx_Qi K D clX (tysX cA) (wX ad cA) A) 0 0 15 [(0, .ref (ad 36)), (2, .int v2), (3, .int v3), (4, .int v4)] [] σ (X_Resolver_groupOf_L15 N k47 n v2 v3 v4 σ) := by
  intro n
  induction n with
  | zero => intro v2 v3 v4 σ; exact J_none
  | succ n ih =>
    intro v2 v3 v4 σ
    rw [X_Resolver_groupOf_L15]
    refine J_iload (q := 3) h d_Resolver_groupOf_15 rfl ?_
    refine J_bipush (v := 12) h d_Resolver_groupOf_17 (by decide) ?_
    refine J_icmp_ge (tgt := 47) h d_Resolver_groupOf_19 (by decide) ?_ ?_
    · refine J_sub [0, 1, 2] rfl ?_
      exact hk47 v2 v3 σ
    · refine J_iload_n (q := 1) h d_Resolver_groupOf_22 rfl rfl ?_
      refine J_iload (q := 3) h d_Resolver_groupOf_23 rfl ?_
      refine J_ishr h d_Resolver_groupOf_25 ?_
      refine J_iconst (v := 1) h d_Resolver_groupOf_26 (by decide) ?_
      refine J_iand h d_Resolver_groupOf_27 ?_
      refine J_if_eq (tgt := 41) h d_Resolver_groupOf_28 (by decide) ?_ ?_
      · exact J_X_Resolver_groupOf_b41 K D A ad cA N h (X_Resolver_groupOf_L15 N k47 n) ih v2 v3 v4 σ
      · refine J_iload_n (q := 1) h d_Resolver_groupOf_31 rfl rfl ?_
        refine J_aload_n (q := 0) h d_Resolver_groupOf_32 rfl rfl ?_
        refine J_getf h 36 (wX_36 ad cA σ) (tb_ups in_Resolver) rfl 6 (by decide) (tb_up q_2_29) rfl d_Resolver_groupOf_33 ?_
        refine J_iload (q := 3) h d_Resolver_groupOf_36 rfl ?_
        refine J_iald h 38 29 (wX_38 ad cA σ) rfl d_Resolver_groupOf_38 ?_
        refine J_ior h d_Resolver_groupOf_39 ?_
        refine J_nmi (fun y3 => ?_)
        refine J_istore_n (lv' := [(2, .int y3), (0, .ref (ad 36)), (3, .int v3), (4, .int v4)]) h d_Resolver_groupOf_40 rfl (by decide) rfl ?_
        refine J_sub [1, 0, 2, 3] rfl ?_
        exact J_X_Resolver_groupOf_b41 K D A ad cA N h (X_Resolver_groupOf_L15 N k47 n) ih y3 v3 v4 σ
def X_Resolver_groupOf_b47 (N : Nat) (k6 : Int32 → Int32 → SX → Option (Int32 × SX)) (v2 : Int32) (v3 : Int32) (σ : SX) : Option (Int32 × SX) := (nm (v3 + 1) (fun (y4 : Int32) => (k6 v2 y4 σ)))
set_option maxRecDepth 100000 in
set_option maxHeartbeats 4000000 in
theorem J_X_Resolver_groupOf_b47 (K : jx_E) (D : va_G) (A : Nat → Prop) (ad : Nat → Nat) (cA : Nat → ClassId) (N : Nat) (h : jx_ok K D clX (tysX cA) A 5 b_Resolver_groupOf y_Resolver_groupOf.cls ((Cond.code y_Resolver_groupOf b_Resolver_groupOf 5 (some .int)) :: tblG) rX_Resolver_groupOf (some .int)) (k6 : Int32 → Int32 → SX → Option (Int32 × SX)) (hk6 : ∀ (v2 : Int32) (v3 : Int32) (σ : SX), J K D clX A 5 (wX ad cA) (jx_Qi K D clX (tysX cA) (wX ad cA) A) 0 0 6 [(0, .ref (ad 36)), (2, .int v2), (3, .int v3)] [] σ (k6 v2 v3 σ)) : ∀ (v2 : Int32) (v3 : Int32) (σ : SX), J K D clX A 5 (wX ad cA) (jx_Qi K D clX (tysX cA) (wX ad cA) A) 0 0 47 [(0, .ref (ad 36)), (2, .int v2), (3, .int v3)] [] σ (X_Resolver_groupOf_b47 N k6 v2 v3 σ) := by
  intro v2 v3 σ
  rw [X_Resolver_groupOf_b47]
  refine J_iinc (q := 2) (c := 1) (lv' := fun y4 => [(3, .int y4), (0, .ref (ad 36)), (2, .int v2)]) h d_Resolver_groupOf_47 rfl (by decide) (by decide) (fun _ => rfl) (fun y4 => ?_)
  refine J_goto (tgt := 6) h d_Resolver_groupOf_50 (by decide) ?_
  refine J_sub [1, 2, 0] rfl ?_
  exact hk6 v2 y4 σ
def X_Resolver_groupOf_L6 (N : Nat) : Nat → Int32 → Int32 → SX → Option (Int32 × SX)
  | 0, _, _, _ => none
  | n + 1, v2, v3, σ => (if (12 : Int32) ≤ v3 then (some (v2, σ)) else (X_Resolver_groupOf_L15 N (X_Resolver_groupOf_b47 N (X_Resolver_groupOf_L6 N  n)) N v2 v3 0 σ))
set_option maxRecDepth 100000 in
set_option maxHeartbeats 4000000 in
theorem J_X_Resolver_groupOf_L6 (K : jx_E) (D : va_G) (A : Nat → Prop) (ad : Nat → Nat) (cA : Nat → ClassId) (N : Nat) (h : jx_ok K D clX (tysX cA) A 5 b_Resolver_groupOf y_Resolver_groupOf.cls ((Cond.code y_Resolver_groupOf b_Resolver_groupOf 5 (some .int)) :: tblG) rX_Resolver_groupOf (some .int)) : ∀ (n : Nat) (v2 : Int32) (v3 : Int32) (σ : SX), J K D clX A 5 (wX ad cA) (jx_Qi K D clX (tysX cA) (wX ad cA) A) 0 0 6 [(0, .ref (ad 36)), (2, .int v2), (3, .int v3)] [] σ (X_Resolver_groupOf_L6 N n v2 v3 σ) := by
  intro n
  induction n with
  | zero => intro v2 v3 σ; exact J_none
  | succ n ih =>
    intro v2 v3 σ
    rw [X_Resolver_groupOf_L6]
    refine J_iload_n (q := 2) h d_Resolver_groupOf_6 rfl rfl ?_
    refine J_bipush (v := 12) h d_Resolver_groupOf_7 (by decide) ?_
    refine J_icmp_ge (tgt := 53) h d_Resolver_groupOf_9 (by decide) ?_ ?_
    · refine J_iload_n (q := 1) h d_Resolver_groupOf_53 rfl rfl ?_
      exact J_iret h rfl d_Resolver_groupOf_54
    · refine J_iconst (v := 0) h d_Resolver_groupOf_12 (by decide) ?_
      refine J_istore (lv' := [(4, .int 0), (0, .ref (ad 36)), (2, .int v2), (3, .int v3)]) h d_Resolver_groupOf_13 (by decide) rfl ?_
      refine J_sub [1, 2, 3, 0] rfl ?_
      exact J_X_Resolver_groupOf_L15 K D A ad cA N h (X_Resolver_groupOf_b47 N (X_Resolver_groupOf_L6 N  n)) (J_X_Resolver_groupOf_b47 K D A ad cA N h (X_Resolver_groupOf_L6 N  n) ih) N v2 v3 0 σ
def X_Resolver_groupOf (N : Nat) (x1 : Int32) (σ : SX) : Option (Int32 × SX) := (nm (((1 : Int32) <<< (x1 &&& 31))) (fun (y1 : Int32) => (X_Resolver_groupOf_L6 N N y1 0 σ)))
set_option maxRecDepth 100000 in
set_option maxHeartbeats 4000000 in
theorem J_X_Resolver_groupOf (K : jx_E) (D : va_G) (A : Nat → Prop) (ad : Nat → Nat) (cA : Nat → ClassId) (N : Nat) (h : jx_ok K D clX (tysX cA) A 5 b_Resolver_groupOf y_Resolver_groupOf.cls ((Cond.code y_Resolver_groupOf b_Resolver_groupOf 5 (some .int)) :: tblG) rX_Resolver_groupOf (some .int)) : ∀ (x1 : Int32) (σ : SX), J K D clX A 5 (wX ad cA) (jx_Qi K D clX (tysX cA) (wX ad cA) A) 0 0 0 [(0, .ref (ad 36)), (1, .int x1)] [] σ (X_Resolver_groupOf N x1 σ) := by
  intro x1 σ
  rw [X_Resolver_groupOf]
  refine J_iconst (v := 1) h d_Resolver_groupOf_0 (by decide) ?_
  refine J_iload_n (q := 1) h d_Resolver_groupOf_1 rfl rfl ?_
  refine J_ishl h d_Resolver_groupOf_2 ?_
  refine J_nmi (fun y1 => ?_)
  refine J_istore_n (lv' := [(2, .int y1), (0, .ref (ad 36)), (1, .int x1)]) h d_Resolver_groupOf_3 rfl (by decide) rfl ?_
  refine J_iconst (v := 0) h d_Resolver_groupOf_4 (by decide) ?_
  refine J_istore_n (lv' := [(3, .int 0), (2, .int y1), (0, .ref (ad 36)), (1, .int x1)]) h d_Resolver_groupOf_5 rfl (by decide) rfl ?_
  refine J_sub [2, 1, 0] rfl ?_
  exact J_X_Resolver_groupOf_L6 K D A ad cA N h N y1 0 σ
set_option maxRecDepth 100000 in
theorem cX_Resolver_groupOf (l : Launch) (D : va_G) (ad : Nat → Nat) (cA : Nat → ClassId) (N : Nat) (x1 : Int32) (σ : SX) (r : Int32) (σ' : SX) (hf : X_Resolver_groupOf N x1 σ = some (r, σ')) : MetI l y_Resolver_groupOf ((Cond.code y_Resolver_groupOf b_Resolver_groupOf 5 (some .int)) :: tblG) rX_Resolver_groupOf D clX (tysX cA) (wX ad cA) [.ref (ad 36), .int x1] σ r σ' :=
  jx_metI (by decide) rfl (Nat.le_of_ble_eq_true rfl) (fun K A h => J_X_Resolver_groupOf K D A ad cA N h x1 σ) hf
def rX_Integer_bitCount : Room := { frames := 0, cells := 0, slots := 0, locals := 0 }
theorem rm_ok_X_Integer_bitCount : rX_Integer_bitCount.cells = 0 ∧ rX_Integer_bitCount.slots = 0 := ⟨rfl, rfl⟩
def X_Integer_bitCount (x0 : Int32) (σ : SX) : Option (Int32 × SX) := (nm ((x0 - ((((x0).toUInt32 >>> ((1 : Int32).toUInt32 &&& Int32.toUInt32 31)).toInt32) &&& 1431655765))) (fun (y1 : Int32) => (nm (((y1 &&& 858993459) + ((((y1).toUInt32 >>> ((2 : Int32).toUInt32 &&& Int32.toUInt32 31)).toInt32) &&& 858993459))) (fun (y2 : Int32) => (nm (((y2 + (((y2).toUInt32 >>> ((4 : Int32).toUInt32 &&& Int32.toUInt32 31)).toInt32)) &&& 252645135)) (fun (y3 : Int32) => (nm ((y3 + (((y3).toUInt32 >>> ((8 : Int32).toUInt32 &&& Int32.toUInt32 31)).toInt32))) (fun (y4 : Int32) => (nm ((y4 + (((y4).toUInt32 >>> ((16 : Int32).toUInt32 &&& Int32.toUInt32 31)).toInt32))) (fun (y5 : Int32) => (some ((y5 &&& 63), σ))))))))))))
set_option maxRecDepth 100000 in
set_option maxHeartbeats 4000000 in
theorem J_X_Integer_bitCount (K : jx_E) (D : va_G) (A : Nat → Prop) (ad : Nat → Nat) (cA : Nat → ClassId) (h : jx_ok K D clX (tysX cA) A 1 b_Integer_bitCount y_Integer_bitCount.cls ((Cond.code y_Integer_bitCount b_Integer_bitCount 1 (some .int)) :: tblG) rX_Integer_bitCount (some .int)) : ∀ (x0 : Int32) (σ : SX), J K D clX A 1 (wX ad cA) (jx_Qi K D clX (tysX cA) (wX ad cA) A) 0 0 0 [(0, .int x0)] [] σ (X_Integer_bitCount x0 σ) := by
  intro x0 σ
  rw [X_Integer_bitCount]
  refine J_iload_n (q := 0) h d_Integer_bitCount_0 rfl rfl ?_
  refine J_iload_n (q := 0) h d_Integer_bitCount_1 rfl rfl ?_
  refine J_iconst (v := 1) h d_Integer_bitCount_2 (by decide) ?_
  refine J_iushr h d_Integer_bitCount_3 ?_
  refine J_ldcw (v := 1431655765) h d_Integer_bitCount_4 (tb_up q_3_197) ?_
  refine J_iand h d_Integer_bitCount_7 ?_
  refine J_isub h d_Integer_bitCount_8 ?_
  refine J_nmi (fun y1 => ?_)
  refine J_istore_n (lv' := [(0, .int y1)]) h d_Integer_bitCount_9 rfl (by decide) rfl ?_
  refine J_iload_n (q := 0) h d_Integer_bitCount_10 rfl rfl ?_
  refine J_ldcw (v := 858993459) h d_Integer_bitCount_11 (tb_up q_3_198) ?_
  refine J_iand h d_Integer_bitCount_14 ?_
  refine J_iload_n (q := 0) h d_Integer_bitCount_15 rfl rfl ?_
  refine J_iconst (v := 2) h d_Integer_bitCount_16 (by decide) ?_
  refine J_iushr h d_Integer_bitCount_17 ?_
  refine J_ldcw (v := 858993459) h d_Integer_bitCount_18 (tb_up q_3_198) ?_
  refine J_iand h d_Integer_bitCount_21 ?_
  refine J_iadd h d_Integer_bitCount_22 ?_
  refine J_nmi (fun y2 => ?_)
  refine J_istore_n (lv' := [(0, .int y2)]) h d_Integer_bitCount_23 rfl (by decide) rfl ?_
  refine J_iload_n (q := 0) h d_Integer_bitCount_24 rfl rfl ?_
  refine J_iload_n (q := 0) h d_Integer_bitCount_25 rfl rfl ?_
  refine J_iconst (v := 4) h d_Integer_bitCount_26 (by decide) ?_
  refine J_iushr h d_Integer_bitCount_27 ?_
  refine J_iadd h d_Integer_bitCount_28 ?_
  refine J_ldcw (v := 252645135) h d_Integer_bitCount_29 (tb_up q_3_199) ?_
  refine J_iand h d_Integer_bitCount_32 ?_
  refine J_nmi (fun y3 => ?_)
  refine J_istore_n (lv' := [(0, .int y3)]) h d_Integer_bitCount_33 rfl (by decide) rfl ?_
  refine J_iload_n (q := 0) h d_Integer_bitCount_34 rfl rfl ?_
  refine J_iload_n (q := 0) h d_Integer_bitCount_35 rfl rfl ?_
  refine J_bipush (v := 8) h d_Integer_bitCount_36 (by decide) ?_
  refine J_iushr h d_Integer_bitCount_38 ?_
  refine J_iadd h d_Integer_bitCount_39 ?_
  refine J_nmi (fun y4 => ?_)
  refine J_istore_n (lv' := [(0, .int y4)]) h d_Integer_bitCount_40 rfl (by decide) rfl ?_
  refine J_iload_n (q := 0) h d_Integer_bitCount_41 rfl rfl ?_
  refine J_iload_n (q := 0) h d_Integer_bitCount_42 rfl rfl ?_
  refine J_bipush (v := 16) h d_Integer_bitCount_43 (by decide) ?_
  refine J_iushr h d_Integer_bitCount_45 ?_
  refine J_iadd h d_Integer_bitCount_46 ?_
  refine J_nmi (fun y5 => ?_)
  refine J_istore_n (lv' := [(0, .int y5)]) h d_Integer_bitCount_47 rfl (by decide) rfl ?_
  refine J_iload_n (q := 0) h d_Integer_bitCount_48 rfl rfl ?_
  refine J_bipush (v := 63) h d_Integer_bitCount_49 (by decide) ?_
  refine J_iand h d_Integer_bitCount_51 ?_
  exact J_iret h rfl d_Integer_bitCount_52
set_option maxRecDepth 100000 in
theorem cX_Integer_bitCount (l : Launch) (D : va_G) (ad : Nat → Nat) (cA : Nat → ClassId) (x0 : Int32) (σ : SX) (r : Int32) (σ' : SX) (hf : X_Integer_bitCount x0 σ = some (r, σ')) : MetI l y_Integer_bitCount ((Cond.code y_Integer_bitCount b_Integer_bitCount 1 (some .int)) :: tblG) rX_Integer_bitCount D clX (tysX cA) (wX ad cA) [.int x0] σ r σ' :=
  jx_metI (by decide) rfl (Nat.le_of_ble_eq_true rfl) (fun K A h => J_X_Integer_bitCount K D A ad cA h x0 σ) hf
def rX_Resolver_nextGroup : Room := { frames := 2, cells := 0, slots := 0, locals := 48 }
theorem rm_ok_X_Resolver_nextGroup : rX_Resolver_nextGroup.cells = 0 ∧ rX_Resolver_nextGroup.slots = 0 := ⟨rfl, rfl⟩
def X_Resolver_nextGroup_b30 (N : Nat) (k4 : Int32 → Int32 → Int32 → SX → Option (Int32 × SX)) (v1 : Int32) (v2 : Int32) (v3 : Int32) (σ : SX) : Option (Int32 × SX) := (nm (v3 + 1) (fun (y3 : Int32) => (k4 v1 v2 y3 σ)))
set_option maxRecDepth 100000 in
set_option maxHeartbeats 4000000 in
theorem J_X_Resolver_nextGroup_b30 (K : jx_E) (D : va_G) (A : Nat → Prop) (ad : Nat → Nat) (cA : Nat → ClassId) (N : Nat) (h : jx_ok K D clX (tysX cA) A 6 b_Resolver_nextGroup y_Resolver_nextGroup.cls ((Cond.code y_Resolver_nextGroup b_Resolver_nextGroup 6 (some .int)) :: tblG) rX_Resolver_nextGroup (some .int)) (k4 : Int32 → Int32 → Int32 → SX → Option (Int32 × SX)) (hk4 : ∀ (v1 : Int32) (v2 : Int32) (v3 : Int32) (σ : SX), J K D clX A 6 (wX ad cA) (jx_Qi K D clX (tysX cA) (wX ad cA) A) 0 0 4 [(0, .ref (ad 36)), (1, .int v1), (2, .int v2), (3, .int v3)] [] σ (k4 v1 v2 v3 σ)) : ∀ (v1 : Int32) (v2 : Int32) (v3 : Int32) (σ : SX), J K D clX A 6 (wX ad cA) (jx_Qi K D clX (tysX cA) (wX ad cA) A) 0 0 30 [(0, .ref (ad 36)), (1, .int v1), (2, .int v2), (3, .int v3)] [] σ (X_Resolver_nextGroup_b30 N k4 v1 v2 v3 σ) := by
  intro v1 v2 v3 σ
  rw [X_Resolver_nextGroup_b30]
  refine J_iinc (q := 3) (c := 1) (lv' := fun y3 => [(3, .int y3), (0, .ref (ad 36)), (1, .int v1), (2, .int v2)]) h d_Resolver_nextGroup_30 rfl (by decide) (by decide) (fun _ => rfl) (fun y3 => ?_)
  refine J_goto (tgt := 4) h d_Resolver_nextGroup_33 (by decide) ?_
  refine J_sub [1, 2, 3, 0] rfl ?_
  exact hk4 v1 v2 y3 σ
def X_Resolver_nextGroup_L4 (N : Nat) (k36 : Int32 → Int32 → SX → Option (Int32 × SX)) : Nat → Int32 → Int32 → Int32 → SX → Option (Int32 × SX)
  | 0, _, _, _, _ => none
  | n + 1, v1, v2, v3, σ => (if v1 ≤ v3 then (k36 v1 v2 σ) else (bd (X_Bounds_settledAs N v3 σ) (fun (r1 : Int32) (σ2 : SX) => (if (0 : Int32) ≤ r1 then (X_Resolver_nextGroup_b30 N (X_Resolver_nextGroup_L4 N k36 n) v1 v2 v3 σ2) else (nm ((v2 ||| ((1 : Int32) <<< (v3 &&& 31)))) (fun (y4 : Int32) => (X_Resolver_nextGroup_b30 N (X_Resolver_nextGroup_L4 N k36 n) v1 y4 v3 σ2)))))))
set_option maxRecDepth 100000 in
set_option maxHeartbeats 4000000 in
theorem J_X_Resolver_nextGroup_L4 (K : jx_E) (D : va_G) (A : Nat → Prop) (ad : Nat → Nat) (cA : Nat → ClassId) (N : Nat) (h : jx_ok K D clX (tysX cA) A 6 b_Resolver_nextGroup y_Resolver_nextGroup.cls ((Cond.code y_Resolver_nextGroup b_Resolver_nextGroup 6 (some .int)) :: tblG) rX_Resolver_nextGroup (some .int)) (k36 : Int32 → Int32 → SX → Option (Int32 × SX)) (hk36 : ∀ (v1 : Int32) (v2 : Int32) (σ : SX), J K D clX A 6 (wX ad cA) (jx_Qi K D clX (tysX cA) (wX ad cA) A) 0 0 36 [(0, .ref (ad 36)), (1, .int v1), (2, .int v2)] [] σ (k36 v1 v2 σ)) : ∀ (n : Nat) (v1 : Int32) (v2 : Int32) (v3 : Int32) (σ : SX), J K D clX A 6 (wX ad cA) (jx_Qi K D clX (tysX cA) (wX ad cA) A) 0 0 4 [(0, .ref (ad 36)), (1, .int v1), (2, .int v2), (3, .int v3)] [] σ (X_Resolver_nextGroup_L4 N k36 n v1 v2 v3 σ) := by
  intro n
  induction n with
  | zero => intro v1 v2 v3 σ; exact J_none
  | succ n ih =>
    intro v1 v2 v3 σ
    rw [X_Resolver_nextGroup_L4]
    refine J_iload_n (q := 3) h d_Resolver_nextGroup_4 rfl rfl ?_
    refine J_iload_n (q := 1) h d_Resolver_nextGroup_5 rfl rfl ?_
    refine J_icmp_ge (tgt := 36) h d_Resolver_nextGroup_6 (by decide) ?_ ?_
    · refine J_sub [0, 1, 2] rfl ?_
      exact hk36 v1 v2 σ
    · refine J_aload_n (q := 0) h d_Resolver_nextGroup_9 rfl rfl ?_
      refine J_getf h 36 (wX_36 ad cA σ) (tb_ups in_Resolver) rfl 2 (by decide) (tb_up q_2_25) rfl d_Resolver_nextGroup_10 ?_
      refine J_iload_n (q := 3) h d_Resolver_nextGroup_13 rfl rfl ?_
      refine J_aload_n (q := 0) h d_Resolver_nextGroup_14 rfl rfl ?_
      refine J_getf h 36 (wX_36 ad cA σ) (tb_ups in_Resolver) rfl 1 (by decide) (tb_up q_2_24) rfl d_Resolver_nextGroup_15 ?_
      refine J_callVi (As := [.int v3, .ref (ad 7)]) (st := []) (rmc := rX_Bounds_settledAs) (q0 := 19) h (fun _ _ hf => cX_Bounds_settledAs (jl K) D ad cA N v3 σ _ _ hf) (gd_V q_3_177 q_3_178 q_3_179 q_1_5 q_3_180) rfl ⟨rfl, rfl⟩ dd_Bounds_settledAs ⟨Nat.le_of_ble_eq_true rfl, Nat.le_of_ble_eq_true rfl⟩ rfl rfl (wX_19 ad cA σ) rfl rfl (Nat.le_of_ble_eq_true rfl) ⟨Nat.zero_le _, Nat.zero_le _⟩ d_Resolver_nextGroup_18 (fun r1 σ2 => ?_)
      refine J_if_ge (tgt := 30) h d_Resolver_nextGroup_21 (by decide) ?_ ?_
      · exact J_X_Resolver_nextGroup_b30 K D A ad cA N h (X_Resolver_nextGroup_L4 N k36 n) ih v1 v2 v3 σ2
      · refine J_iload_n (q := 2) h d_Resolver_nextGroup_24 rfl rfl ?_
        refine J_iconst (v := 1) h d_Resolver_nextGroup_25 (by decide) ?_
        refine J_iload_n (q := 3) h d_Resolver_nextGroup_26 rfl rfl ?_
        refine J_ishl h d_Resolver_nextGroup_27 ?_
        refine J_ior h d_Resolver_nextGroup_28 ?_
        refine J_nmi (fun y4 => ?_)
        refine J_istore_n (lv' := [(2, .int y4), (0, .ref (ad 36)), (1, .int v1), (3, .int v3)]) h d_Resolver_nextGroup_29 rfl (by decide) rfl ?_
        refine J_sub [1, 2, 0, 3] rfl ?_
        exact J_X_Resolver_nextGroup_b30 K D A ad cA N h (X_Resolver_nextGroup_L4 N k36 n) ih v1 y4 v3 σ2
def X_Resolver_nextGroup_b91 (N : Nat) (k46 : Int32 → Int32 → Int32 → Int32 → SX → Option (Int32 × SX)) (v1 : Int32) (v2 : Int32) (v3 : Int32) (v4 : Int32) (σ : SX) : Option (Int32 × SX) := (nm (v4 + 1) (fun (y7 : Int32) => (k46 v1 v2 v3 y7 σ)))
set_option maxRecDepth 100000 in
set_option maxHeartbeats 4000000 in
theorem J_X_Resolver_nextGroup_b91 (K : jx_E) (D : va_G) (A : Nat → Prop) (ad : Nat → Nat) (cA : Nat → ClassId) (N : Nat) (h : jx_ok K D clX (tysX cA) A 6 b_Resolver_nextGroup y_Resolver_nextGroup.cls ((Cond.code y_Resolver_nextGroup b_Resolver_nextGroup 6 (some .int)) :: tblG) rX_Resolver_nextGroup (some .int)) (k46 : Int32 → Int32 → Int32 → Int32 → SX → Option (Int32 × SX)) (hk46 : ∀ (v1 : Int32) (v2 : Int32) (v3 : Int32) (v4 : Int32) (σ : SX), J K D clX A 6 (wX ad cA) (jx_Qi K D clX (tysX cA) (wX ad cA) A) 0 0 46 [(0, .ref (ad 36)), (1, .int v1), (2, .int v2), (3, .int v3), (4, .int v4)] [] σ (k46 v1 v2 v3 v4 σ)) : ∀ (v1 : Int32) (v2 : Int32) (v3 : Int32) (v4 : Int32) (σ : SX), J K D clX A 6 (wX ad cA) (jx_Qi K D clX (tysX cA) (wX ad cA) A) 0 0 91 [(0, .ref (ad 36)), (1, .int v1), (2, .int v2), (3, .int v3), (4, .int v4)] [] σ (X_Resolver_nextGroup_b91 N k46 v1 v2 v3 v4 σ) := by
  intro v1 v2 v3 v4 σ
  rw [X_Resolver_nextGroup_b91]
  refine J_iinc (q := 4) (c := 1) (lv' := fun y7 => [(4, .int y7), (0, .ref (ad 36)), (1, .int v1), (2, .int v2), (3, .int v3)]) h d_Resolver_nextGroup_91 rfl (by decide) (by decide) (fun _ => rfl) (fun y7 => ?_)
  refine J_goto (tgt := 46) h d_Resolver_nextGroup_94 (by decide) ?_
  refine J_sub [1, 2, 3, 4, 0] rfl ?_
  exact hk46 v1 v2 v3 y7 σ
def X_Resolver_nextGroup_b88 (N : Nat) (k46 : Int32 → Int32 → Int32 → Int32 → SX → Option (Int32 × SX)) (v1 : Int32) (v2 : Int32) (v4 : Int32) (v5 : Int32) (σ : SX) : Option (Int32 × SX) := (X_Resolver_nextGroup_b91 N k46 v1 v2 v5 v4 σ)
set_option maxRecDepth 100000 in
set_option maxHeartbeats 4000000 in
theorem J_X_Resolver_nextGroup_b88 (K : jx_E) (D : va_G) (A : Nat → Prop) (ad : Nat → Nat) (cA : Nat → ClassId) (N : Nat) (h : jx_ok K D clX (tysX cA) A 6 b_Resolver_nextGroup y_Resolver_nextGroup.cls ((Cond.code y_Resolver_nextGroup b_Resolver_nextGroup 6 (some .int)) :: tblG) rX_Resolver_nextGroup (some .int)) (k46 : Int32 → Int32 → Int32 → Int32 → SX → Option (Int32 × SX)) (hk46 : ∀ (v1 : Int32) (v2 : Int32) (v3 : Int32) (v4 : Int32) (σ : SX), J K D clX A 6 (wX ad cA) (jx_Qi K D clX (tysX cA) (wX ad cA) A) 0 0 46 [(0, .ref (ad 36)), (1, .int v1), (2, .int v2), (3, .int v3), (4, .int v4)] [] σ (k46 v1 v2 v3 v4 σ)) : ∀ (v1 : Int32) (v2 : Int32) (v4 : Int32) (v5 : Int32) (σ : SX), J K D clX A 6 (wX ad cA) (jx_Qi K D clX (tysX cA) (wX ad cA) A) 0 0 88 [(0, .ref (ad 36)), (1, .int v1), (2, .int v2), (4, .int v4), (5, .int v5)] [] σ (X_Resolver_nextGroup_b88 N k46 v1 v2 v4 v5 σ) := by
  intro v1 v2 v4 v5 σ
  rw [X_Resolver_nextGroup_b88]
  refine J_iload (q := 4) h d_Resolver_nextGroup_88 rfl ?_
  refine J_istore_n (lv' := [(3, .int v5), (0, .ref (ad 36)), (1, .int v1), (2, .int v2), (4, .int v4), (5, .int v5)]) h d_Resolver_nextGroup_90 rfl (by decide) rfl ?_
  refine J_sub [1, 2, 3, 0, 4] rfl ?_
  exact J_X_Resolver_nextGroup_b91 K D A ad cA N h k46 hk46 v1 v2 v5 v4 σ
def X_Resolver_nextGroup_L46 (N : Nat) : Nat → Int32 → Int32 → Int32 → Int32 → SX → Option (Int32 × SX)
  | 0, _, _, _, _, _ => none
  | n + 1, v1, v2, v3, v4, σ => (if v1 ≤ v4 then (some (v3, σ)) else (if ((v2 >>> (v4 &&& 31)) &&& 1) = 0 then (X_Resolver_nextGroup_b91 N (X_Resolver_nextGroup_L46 N  n) v1 v2 v3 v4 σ) else (bd (X_Resolver_groupOf N v4 σ) (fun (r8 : Int32) (σ9 : SX) => (if v3 = 0 then (X_Resolver_nextGroup_b88 N (X_Resolver_nextGroup_L46 N  n) v1 v2 v4 r8 σ9) else (bd (X_Integer_bitCount r8 σ9) (fun (r10 : Int32) (σ11 : SX) => (bd (X_Integer_bitCount v3 σ11) (fun (r12 : Int32) (σ13 : SX) => (if r12 ≤ r10 then (X_Resolver_nextGroup_b91 N (X_Resolver_nextGroup_L46 N  n) v1 v2 v3 v4 σ13) else (X_Resolver_nextGroup_b88 N (X_Resolver_nextGroup_L46 N  n) v1 v2 v4 r8 σ13)))))))))))
set_option maxRecDepth 100000 in
set_option maxHeartbeats 4000000 in
theorem J_X_Resolver_nextGroup_L46 (K : jx_E) (D : va_G) (A : Nat → Prop) (ad : Nat → Nat) (cA : Nat → ClassId) (N : Nat) (h : jx_ok K D clX (tysX cA) A 6 b_Resolver_nextGroup y_Resolver_nextGroup.cls ((Cond.code y_Resolver_nextGroup b_Resolver_nextGroup 6 (some .int)) :: tblG) rX_Resolver_nextGroup (some .int)) : ∀ (n : Nat) (v1 : Int32) (v2 : Int32) (v3 : Int32) (v4 : Int32) (σ : SX), J K D clX A 6 (wX ad cA) (jx_Qi K D clX (tysX cA) (wX ad cA) A) 0 0 46 [(0, .ref (ad 36)), (1, .int v1), (2, .int v2), (3, .int v3), (4, .int v4)] [] σ (X_Resolver_nextGroup_L46 N n v1 v2 v3 v4 σ) := by
  intro n
  induction n with
  | zero => intro v1 v2 v3 v4 σ; exact J_none
  | succ n ih =>
    intro v1 v2 v3 v4 σ
    rw [X_Resolver_nextGroup_L46]
    refine J_iload (q := 4) h d_Resolver_nextGroup_46 rfl ?_
    refine J_iload_n (q := 1) h d_Resolver_nextGroup_48 rfl rfl ?_
    refine J_icmp_ge (tgt := 97) h d_Resolver_nextGroup_49 (by decide) ?_ ?_
    · refine J_iload_n (q := 3) h d_Resolver_nextGroup_97 rfl rfl ?_
      exact J_iret h rfl d_Resolver_nextGroup_98
    · refine J_iload_n (q := 2) h d_Resolver_nextGroup_52 rfl rfl ?_
      refine J_iload (q := 4) h d_Resolver_nextGroup_53 rfl ?_
      refine J_ishr h d_Resolver_nextGroup_55 ?_
      refine J_iconst (v := 1) h d_Resolver_nextGroup_56 (by decide) ?_
      refine J_iand h d_Resolver_nextGroup_57 ?_
      refine J_if_ne (tgt := 64) h d_Resolver_nextGroup_58 (by decide) ?_ ?_
      · refine J_goto (tgt := 91) h d_Resolver_nextGroup_61 (by decide) ?_
        exact J_X_Resolver_nextGroup_b91 K D A ad cA N h (X_Resolver_nextGroup_L46 N  n) ih v1 v2 v3 v4 σ
      · refine J_aload_n (q := 0) h d_Resolver_nextGroup_64 rfl rfl ?_
        refine J_iload (q := 4) h d_Resolver_nextGroup_65 rfl ?_
        refine J_callVi (As := [.int v4]) (st := []) (rmc := rX_Resolver_groupOf) (q0 := 36) h (fun _ _ hf => cX_Resolver_groupOf (jl K) D ad cA N v4 σ _ _ hf) (gd_V q_3_190 q_3_192 q_s_18 q_1_10 q_3_193) rfl ⟨rfl, rfl⟩ dd_Resolver_groupOf ⟨Nat.le_of_ble_eq_true rfl, Nat.le_of_ble_eq_true rfl⟩ rfl rfl (wX_36 ad cA σ) rfl rfl (Nat.le_of_ble_eq_true rfl) ⟨Nat.zero_le _, Nat.zero_le _⟩ d_Resolver_nextGroup_67 (fun r8 σ9 => ?_)
        refine J_istore (lv' := [(5, .int r8), (0, .ref (ad 36)), (1, .int v1), (2, .int v2), (3, .int v3), (4, .int v4)]) h d_Resolver_nextGroup_70 (by decide) rfl ?_
        refine J_iload_n (q := 4) h d_Resolver_nextGroup_72 rfl rfl ?_
        refine J_if_eq (tgt := 88) h d_Resolver_nextGroup_73 (by decide) ?_ ?_
        · refine J_sub [1, 2, 3, 5, 0] rfl ?_
          exact J_X_Resolver_nextGroup_b88 K D A ad cA N h (X_Resolver_nextGroup_L46 N  n) ih v1 v2 v4 r8 σ9
        · refine J_iload (q := 0) h d_Resolver_nextGroup_76 rfl ?_
          refine J_callTi (As := [.int r8]) (st := []) (rmc := rX_Integer_bitCount) h (fun _ _ hf => cX_Integer_bitCount (jl K) D ad cA r8 σ9 _ _ hf) (gd_all q_3_196) (tb_up q_3_194) (tb_up q_3_195) (tb_up q_1_13) rfl ⟨rfl, rfl⟩ dd_Integer_bitCount ⟨Nat.le_of_ble_eq_true rfl, Nat.le_of_ble_eq_true rfl⟩ rfl rfl (Nat.le_of_ble_eq_true rfl) ⟨Nat.zero_le _, Nat.zero_le _⟩ d_Resolver_nextGroup_78 (fun r10 σ11 => ?_)
          refine J_iload_n (q := 4) h d_Resolver_nextGroup_81 rfl rfl ?_
          refine J_callTi (As := [.int v3]) (st := [.int r10]) (rmc := rX_Integer_bitCount) h (fun _ _ hf => cX_Integer_bitCount (jl K) D ad cA v3 σ11 _ _ hf) (gd_all q_3_196) (tb_up q_3_194) (tb_up q_3_195) (tb_up q_1_13) rfl ⟨rfl, rfl⟩ dd_Integer_bitCount ⟨Nat.le_of_ble_eq_true rfl, Nat.le_of_ble_eq_true rfl⟩ rfl rfl (Nat.le_of_ble_eq_true rfl) ⟨Nat.zero_le _, Nat.zero_le _⟩ d_Resolver_nextGroup_82 (fun r12 σ13 => ?_)
          refine J_icmp_ge (tgt := 91) h d_Resolver_nextGroup_85 (by decide) ?_ ?_
          · refine J_sub [1, 2, 3, 4, 5] rfl ?_
            exact J_X_Resolver_nextGroup_b91 K D A ad cA N h (X_Resolver_nextGroup_L46 N  n) ih v1 v2 v3 v4 σ13
          · refine J_sub [1, 2, 3, 5, 0] rfl ?_
            exact J_X_Resolver_nextGroup_b88 K D A ad cA N h (X_Resolver_nextGroup_L46 N  n) ih v1 v2 v4 r8 σ13
def X_Resolver_nextGroup_b36 (N : Nat) (v1 : Int32) (v2 : Int32) (σ : SX) : Option (Int32 × SX) := (bd (X_Resolver_link N v2 σ) (fun (r5 : Unit) (σ6 : SX) => (X_Resolver_nextGroup_L46 N N v1 v2 0 0 σ6)))
set_option maxRecDepth 100000 in
set_option maxHeartbeats 4000000 in
theorem J_X_Resolver_nextGroup_b36 (K : jx_E) (D : va_G) (A : Nat → Prop) (ad : Nat → Nat) (cA : Nat → ClassId) (N : Nat) (h : jx_ok K D clX (tysX cA) A 6 b_Resolver_nextGroup y_Resolver_nextGroup.cls ((Cond.code y_Resolver_nextGroup b_Resolver_nextGroup 6 (some .int)) :: tblG) rX_Resolver_nextGroup (some .int)) : ∀ (v1 : Int32) (v2 : Int32) (σ : SX), J K D clX A 6 (wX ad cA) (jx_Qi K D clX (tysX cA) (wX ad cA) A) 0 0 36 [(0, .ref (ad 36)), (1, .int v1), (2, .int v2)] [] σ (X_Resolver_nextGroup_b36 N v1 v2 σ) := by
  intro v1 v2 σ
  rw [X_Resolver_nextGroup_b36]
  refine J_aload_n (q := 0) h d_Resolver_nextGroup_36 rfl rfl ?_
  refine J_iload_n (q := 2) h d_Resolver_nextGroup_37 rfl rfl ?_
  refine J_callVv (As := [.int v2]) (st := []) (rmc := rX_Resolver_link) (q0 := 36) h (fun _ _ hf => cX_Resolver_link (jl K) D ad cA N v2 σ _ _ hf) (gd_V q_3_182 q_3_184 q_s_17 q_1_10 q_3_185) rfl ⟨rfl, rfl⟩ dd_Resolver_link ⟨Nat.le_of_ble_eq_true rfl, Nat.le_of_ble_eq_true rfl⟩ rfl rfl (wX_36 ad cA σ) rfl rfl (Nat.le_of_ble_eq_true rfl) ⟨Nat.zero_le _, Nat.zero_le _⟩ d_Resolver_nextGroup_38 (fun r5 σ6 => ?_)
  refine J_iconst (v := 0) h d_Resolver_nextGroup_41 (by decide) ?_
  refine J_istore_n (lv' := [(3, .int 0), (0, .ref (ad 36)), (1, .int v1), (2, .int v2)]) h d_Resolver_nextGroup_42 rfl (by decide) rfl ?_
  refine J_iconst (v := 0) h d_Resolver_nextGroup_43 (by decide) ?_
  refine J_istore (lv' := [(4, .int 0), (3, .int 0), (0, .ref (ad 36)), (1, .int v1), (2, .int v2)]) h d_Resolver_nextGroup_44 (by decide) rfl ?_
  refine J_sub [2, 3, 4, 1, 0] rfl ?_
  exact J_X_Resolver_nextGroup_L46 K D A ad cA N h N v1 v2 0 0 σ6
def X_Resolver_nextGroup (N : Nat) (x1 : Int32) (σ : SX) : Option (Int32 × SX) := (X_Resolver_nextGroup_L4 N (X_Resolver_nextGroup_b36 N) N x1 0 0 σ)
set_option maxRecDepth 100000 in
set_option maxHeartbeats 4000000 in
theorem J_X_Resolver_nextGroup (K : jx_E) (D : va_G) (A : Nat → Prop) (ad : Nat → Nat) (cA : Nat → ClassId) (N : Nat) (h : jx_ok K D clX (tysX cA) A 6 b_Resolver_nextGroup y_Resolver_nextGroup.cls ((Cond.code y_Resolver_nextGroup b_Resolver_nextGroup 6 (some .int)) :: tblG) rX_Resolver_nextGroup (some .int)) : ∀ (x1 : Int32) (σ : SX), J K D clX A 6 (wX ad cA) (jx_Qi K D clX (tysX cA) (wX ad cA) A) 0 0 0 [(0, .ref (ad 36)), (1, .int x1)] [] σ (X_Resolver_nextGroup N x1 σ) := by
  intro x1 σ
  rw [X_Resolver_nextGroup]
  refine J_iconst (v := 0) h d_Resolver_nextGroup_0 (by decide) ?_
  refine J_istore_n (lv' := [(2, .int 0), (0, .ref (ad 36)), (1, .int x1)]) h d_Resolver_nextGroup_1 rfl (by decide) rfl ?_
  refine J_iconst (v := 0) h d_Resolver_nextGroup_2 (by decide) ?_
  refine J_istore_n (lv' := [(3, .int 0), (2, .int 0), (0, .ref (ad 36)), (1, .int x1)]) h d_Resolver_nextGroup_3 rfl (by decide) rfl ?_
  refine J_sub [2, 3, 1, 0] rfl ?_
  exact J_X_Resolver_nextGroup_L4 K D A ad cA N h (X_Resolver_nextGroup_b36 N) (J_X_Resolver_nextGroup_b36 K D A ad cA N h) N x1 0 0 σ
set_option maxRecDepth 100000 in
theorem cX_Resolver_nextGroup (l : Launch) (D : va_G) (ad : Nat → Nat) (cA : Nat → ClassId) (N : Nat) (x1 : Int32) (σ : SX) (r : Int32) (σ' : SX) (hf : X_Resolver_nextGroup N x1 σ = some (r, σ')) : MetI l y_Resolver_nextGroup ((Cond.code y_Resolver_nextGroup b_Resolver_nextGroup 6 (some .int)) :: tblG) rX_Resolver_nextGroup D clX (tysX cA) (wX ad cA) [.ref (ad 36), .int x1] σ r σ' :=
  jx_metI (by decide) rfl (Nat.le_of_ble_eq_true rfl) (fun K A h => J_X_Resolver_nextGroup K D A ad cA N h x1 σ) hf
def rX_Resolver_gather : Room := { frames := 1, cells := 0, slots := 0, locals := 21 }
theorem rm_ok_X_Resolver_gather : rX_Resolver_gather.cells = 0 ∧ rX_Resolver_gather.slots = 0 := ⟨rfl, rfl⟩
def X_Resolver_gather_b103 (N : Nat) (k7 : Int32 → Int32 → Int32 → SX → Option (Unit × SX)) (v1 : Int32) (v2 : Int32) (v3 : Int32) (σ : SX) : Option (Unit × SX) := (nm (v3 + 1) (fun (y10 : Int32) => (k7 v1 v2 y10 σ)))
set_option maxRecDepth 100000 in
set_option maxHeartbeats 4000000 in
theorem J_X_Resolver_gather_b103 (K : jx_E) (D : va_G) (A : Nat → Prop) (ad : Nat → Nat) (cA : Nat → ClassId) (N : Nat) (h : jx_ok K D clX (tysX cA) A 4 b_Resolver_gather y_Resolver_gather.cls ((Cond.code y_Resolver_gather b_Resolver_gather 4 none) :: tblG) rX_Resolver_gather none) (k7 : Int32 → Int32 → Int32 → SX → Option (Unit × SX)) (hk7 : ∀ (v1 : Int32) (v2 : Int32) (v3 : Int32) (σ : SX), J K D clX A 4 (wX ad cA) (jx_Qv K D clX (tysX cA) (wX ad cA) A) 0 0 7 [(0, .ref (ad 36)), (1, .int v1), (2, .int v2), (3, .int v3)] [] σ (k7 v1 v2 v3 σ)) : ∀ (v1 : Int32) (v2 : Int32) (v3 : Int32) (σ : SX), J K D clX A 4 (wX ad cA) (jx_Qv K D clX (tysX cA) (wX ad cA) A) 0 0 103 [(0, .ref (ad 36)), (1, .int v1), (2, .int v2), (3, .int v3)] [] σ (X_Resolver_gather_b103 N k7 v1 v2 v3 σ) := by
  intro v1 v2 v3 σ
  rw [X_Resolver_gather_b103]
  refine J_iinc (q := 3) (c := 1) (lv' := fun y10 => [(3, .int y10), (0, .ref (ad 36)), (1, .int v1), (2, .int v2)]) h d_Resolver_gather_103 rfl (by decide) (by decide) (fun _ => rfl) (fun y10 => ?_)
  refine J_goto (tgt := 7) h d_Resolver_gather_106 (by decide) ?_
  refine J_sub [1, 2, 3, 0] rfl ?_
  exact hk7 v1 v2 y10 σ
def X_Resolver_gather_L7 (N : Nat) : Nat → Int32 → Int32 → Int32 → SX → Option (Unit × SX)
  | 0, _, _, _, _ => none
  | n + 1, v1, v2, v3, σ => (if (gX_Bounds_size σ) ≤ v3 then (some ((), σ)) else (if (200 : Int32) ≤ (gX_Resolver_nearSize σ) then (some ((), σ)) else (bd (X_Bounds_sortOf v3 σ) (fun (r2 : Int32) (σ3 : SX) => (if r2 = v1 then (bd (X_Bounds_variableOf v3 σ3) (fun (r4 : Int32) (σ5 : SX) => (if r4 = v2 then (bd (X_Bounds_typeOf v3 σ5) (fun (r6 : Int32) (σ7 : SX) => (bd (X_Types_isProper r6 σ7) (fun (r8 : Int32) (σ9 : SX) => (if r8 = 0 then (X_Resolver_gather_b103 N (X_Resolver_gather_L7 N  n) v1 v2 v3 σ9) else (bd (X_Bounds_typeOf v3 σ9) (fun (r11 : Int32) (σ12 : SX) => (if ck (gX_Resolver_nearSize σ9) 200 = true then (nm (tX_Resolver_near σ12 (upd (aX_Resolver_near σ12) (gX_Resolver_nearSize σ9).toNatClampNeg r11)) (fun (σ13 : SX) => (nm (sX_Resolver_nearSize σ13 ((gX_Resolver_nearSize σ13) + 1)) (fun (σ14 : SX) => (X_Resolver_gather_b103 N (X_Resolver_gather_L7 N  n) v1 v2 v3 σ14))))) else none)))))))) else (X_Resolver_gather_b103 N (X_Resolver_gather_L7 N  n) v1 v2 v3 σ5)))) else (X_Resolver_gather_b103 N (X_Resolver_gather_L7 N  n) v1 v2 v3 σ3))))))
set_option maxRecDepth 100000 in
set_option maxHeartbeats 4000000 in
theorem J_X_Resolver_gather_L7 (K : jx_E) (D : va_G) (A : Nat → Prop) (ad : Nat → Nat) (cA : Nat → ClassId) (N : Nat) (h : jx_ok K D clX (tysX cA) A 4 b_Resolver_gather y_Resolver_gather.cls ((Cond.code y_Resolver_gather b_Resolver_gather 4 none) :: tblG) rX_Resolver_gather none) : ∀ (n : Nat) (v1 : Int32) (v2 : Int32) (v3 : Int32) (σ : SX), J K D clX A 4 (wX ad cA) (jx_Qv K D clX (tysX cA) (wX ad cA) A) 0 0 7 [(0, .ref (ad 36)), (1, .int v1), (2, .int v2), (3, .int v3)] [] σ (X_Resolver_gather_L7 N n v1 v2 v3 σ) := by
  intro n
  induction n with
  | zero => intro v1 v2 v3 σ; exact J_none
  | succ n ih =>
    intro v1 v2 v3 σ
    rw [X_Resolver_gather_L7]
    refine J_iload_n (q := 3) h d_Resolver_gather_7 rfl rfl ?_
    refine J_aload_n (q := 0) h d_Resolver_gather_8 rfl rfl ?_
    refine J_getf h 36 (wX_36 ad cA σ) (tb_ups in_Resolver) rfl 2 (by decide) (tb_up q_2_25) rfl d_Resolver_gather_9 ?_
    refine J_getf h 19 (wX_19 ad cA σ) (tb_ups in_Bounds) rfl 4 (by decide) (tb_up q_1_111) rfl d_Resolver_gather_12 ?_
    refine J_icmp_ge (tgt := 109) h d_Resolver_gather_15 (by decide) ?_ ?_
    · exact J_vret h rfl d_Resolver_gather_109
    · refine J_aload_n (q := 0) h d_Resolver_gather_18 rfl rfl ?_
      refine J_getf h 36 (wX_36 ad cA σ) (tb_ups in_Resolver) rfl 5 (by decide) (tb_up q_2_28) rfl d_Resolver_gather_19 ?_
      refine J_sipush (v := 200) h d_Resolver_gather_22 (by decide) ?_
      refine J_icmp_ge (tgt := 109) h d_Resolver_gather_25 (by decide) ?_ ?_
      · exact J_vret h rfl d_Resolver_gather_109
      · refine J_aload_n (q := 0) h d_Resolver_gather_28 rfl rfl ?_
        refine J_getf h 36 (wX_36 ad cA σ) (tb_ups in_Resolver) rfl 2 (by decide) (tb_up q_2_25) rfl d_Resolver_gather_29 ?_
        refine J_iload_n (q := 3) h d_Resolver_gather_32 rfl rfl ?_
        refine J_callVi (As := [.int v3]) (st := []) (rmc := rX_Bounds_sortOf) (q0 := 19) h (fun _ _ hf => cX_Bounds_sortOf (jl K) D ad cA v3 σ _ _ hf) (gd_V q_3_208 q_3_134 q_3_135 q_1_5 q_3_136) rfl ⟨rfl, rfl⟩ dd_Bounds_sortOf ⟨Nat.le_of_ble_eq_true rfl, Nat.le_of_ble_eq_true rfl⟩ rfl rfl (wX_19 ad cA σ) rfl rfl (Nat.le_of_ble_eq_true rfl) ⟨Nat.zero_le _, Nat.zero_le _⟩ d_Resolver_gather_33 (fun r2 σ3 => ?_)
        refine J_iload_n (q := 1) h d_Resolver_gather_36 rfl rfl ?_
        refine J_icmp_ne (tgt := 103) h d_Resolver_gather_37 (by decide) ?_ ?_
        · refine J_aload_n (q := 0) h d_Resolver_gather_40 rfl rfl ?_
          refine J_getf h 36 (wX_36 ad cA σ3) (tb_ups in_Resolver) rfl 2 (by decide) (tb_up q_2_25) rfl d_Resolver_gather_41 ?_
          refine J_iload_n (q := 3) h d_Resolver_gather_44 rfl rfl ?_
          refine J_callVi (As := [.int v3]) (st := []) (rmc := rX_Bounds_variableOf) (q0 := 19) h (fun _ _ hf => cX_Bounds_variableOf (jl K) D ad cA v3 σ3 _ _ hf) (gd_V q_3_187 q_3_122 q_3_123 q_1_5 q_3_124) rfl ⟨rfl, rfl⟩ dd_Bounds_variableOf ⟨Nat.le_of_ble_eq_true rfl, Nat.le_of_ble_eq_true rfl⟩ rfl rfl (wX_19 ad cA σ3) rfl rfl (Nat.le_of_ble_eq_true rfl) ⟨Nat.zero_le _, Nat.zero_le _⟩ d_Resolver_gather_45 (fun r4 σ5 => ?_)
          refine J_iload_n (q := 2) h d_Resolver_gather_48 rfl rfl ?_
          refine J_icmp_eq (tgt := 55) h d_Resolver_gather_49 (by decide) ?_ ?_
          · refine J_aload_n (q := 0) h d_Resolver_gather_55 rfl rfl ?_
            refine J_getf h 36 (wX_36 ad cA σ5) (tb_ups in_Resolver) rfl 1 (by decide) (tb_up q_2_24) rfl d_Resolver_gather_56 ?_
            refine J_aload_n (q := 0) h d_Resolver_gather_59 rfl rfl ?_
            refine J_getf h 36 (wX_36 ad cA σ5) (tb_ups in_Resolver) rfl 2 (by decide) (tb_up q_2_25) rfl d_Resolver_gather_60 ?_
            refine J_iload_n (q := 3) h d_Resolver_gather_63 rfl rfl ?_
            refine J_callVi (As := [.int v3]) (st := [.ref (ad 7)]) (rmc := rX_Bounds_typeOf) (q0 := 19) h (fun _ _ hf => cX_Bounds_typeOf (jl K) D ad cA v3 σ5 _ _ hf) (gd_V q_3_188 q_3_130 q_3_131 q_1_5 q_3_132) rfl ⟨rfl, rfl⟩ dd_Bounds_typeOf ⟨Nat.le_of_ble_eq_true rfl, Nat.le_of_ble_eq_true rfl⟩ rfl rfl (wX_19 ad cA σ5) rfl rfl (Nat.le_of_ble_eq_true rfl) ⟨Nat.zero_le _, Nat.zero_le _⟩ d_Resolver_gather_64 (fun r6 σ7 => ?_)
            refine J_callVi (As := [.int r6]) (st := []) (rmc := rX_Types_isProper) (q0 := 7) h (fun _ _ hf => cX_Types_isProper (jl K) D ad cA r6 σ7 _ _ hf) (gd_V q_3_209 q_3_23 q_3_24 q_1_3 q_3_25) rfl ⟨rfl, rfl⟩ dd_Types_isProper ⟨Nat.le_of_ble_eq_true rfl, Nat.le_of_ble_eq_true rfl⟩ rfl rfl (wX_7 ad cA σ7) rfl rfl (Nat.le_of_ble_eq_true rfl) ⟨Nat.zero_le _, Nat.zero_le _⟩ d_Resolver_gather_67 (fun r8 σ9 => ?_)
            refine J_if_ne (tgt := 76) h d_Resolver_gather_70 (by decide) ?_ ?_
            · refine J_goto (tgt := 103) h d_Resolver_gather_73 (by decide) ?_
              exact J_X_Resolver_gather_b103 K D A ad cA N h (X_Resolver_gather_L7 N  n) ih v1 v2 v3 σ9
            · refine J_aload_n (q := 0) h d_Resolver_gather_76 rfl rfl ?_
              refine J_getf h 36 (wX_36 ad cA σ9) (tb_ups in_Resolver) rfl 4 (by decide) (tb_up q_2_27) rfl d_Resolver_gather_77 ?_
              refine J_aload_n (q := 0) h d_Resolver_gather_80 rfl rfl ?_
              refine J_getf h 36 (wX_36 ad cA σ9) (tb_ups in_Resolver) rfl 5 (by decide) (tb_up q_2_28) rfl d_Resolver_gather_81 ?_
              refine J_aload_n (q := 0) h d_Resolver_gather_84 rfl rfl ?_
              refine J_getf h 36 (wX_36 ad cA σ9) (tb_ups in_Resolver) rfl 2 (by decide) (tb_up q_2_25) rfl d_Resolver_gather_85 ?_
              refine J_iload_n (q := 3) h d_Resolver_gather_88 rfl rfl ?_
              refine J_callVi (As := [.int v3]) (st := [.int (gX_Resolver_nearSize σ9), .ref (ad 37)]) (rmc := rX_Bounds_typeOf) (q0 := 19) h (fun _ _ hf => cX_Bounds_typeOf (jl K) D ad cA v3 σ9 _ _ hf) (gd_V q_3_188 q_3_130 q_3_131 q_1_5 q_3_132) rfl ⟨rfl, rfl⟩ dd_Bounds_typeOf ⟨Nat.le_of_ble_eq_true rfl, Nat.le_of_ble_eq_true rfl⟩ rfl rfl (wX_19 ad cA σ9) rfl rfl (Nat.le_of_ble_eq_true rfl) ⟨Nat.zero_le _, Nat.zero_le _⟩ d_Resolver_gather_89 (fun r11 σ12 => ?_)
              refine J_iast h 37 28 (wX_37 ad cA σ12) rfl (uX_37 ad cA σ12 _) d_Resolver_gather_92 (fun σ13 => ?_)
              refine J_aload_n (q := 0) h d_Resolver_gather_93 rfl rfl ?_
              refine J_dup h d_Resolver_gather_94 rfl ?_
              refine J_getf h 36 (wX_36 ad cA σ13) (tb_ups in_Resolver) rfl 5 (by decide) (tb_up q_2_28) rfl d_Resolver_gather_95 ?_
              refine J_iconst (v := 1) h d_Resolver_gather_98 (by decide) ?_
              refine J_iadd h d_Resolver_gather_99 ?_
              refine J_putf h 36 (wX_36 ad cA σ13) (tb_ups in_Resolver) rfl ft_Resolver ft_Resolver_ok nm_Resolver 5 (by decide) (tb_up q_2_28) rfl rfl rfl (Nat.le_of_ble_eq_true rfl) (pX_36_5 ad cA σ13 ((gX_Resolver_nearSize σ13) + 1)) d_Resolver_gather_100 (fun σ14 => ?_)
              exact J_X_Resolver_gather_b103 K D A ad cA N h (X_Resolver_gather_L7 N  n) ih v1 v2 v3 σ14
          · refine J_goto (tgt := 103) h d_Resolver_gather_52 (by decide) ?_
            exact J_X_Resolver_gather_b103 K D A ad cA N h (X_Resolver_gather_L7 N  n) ih v1 v2 v3 σ5
        · exact J_X_Resolver_gather_b103 K D A ad cA N h (X_Resolver_gather_L7 N  n) ih v1 v2 v3 σ3
def X_Resolver_gather (N : Nat) (x1 : Int32) (x2 : Int32) (σ : SX) : Option (Unit × SX) := (nm (sX_Resolver_nearSize σ 0) (fun (σ1 : SX) => (X_Resolver_gather_L7 N N x1 x2 0 σ1)))
set_option maxRecDepth 100000 in
set_option maxHeartbeats 4000000 in
theorem J_X_Resolver_gather (K : jx_E) (D : va_G) (A : Nat → Prop) (ad : Nat → Nat) (cA : Nat → ClassId) (N : Nat) (h : jx_ok K D clX (tysX cA) A 4 b_Resolver_gather y_Resolver_gather.cls ((Cond.code y_Resolver_gather b_Resolver_gather 4 none) :: tblG) rX_Resolver_gather none) : ∀ (x1 : Int32) (x2 : Int32) (σ : SX), J K D clX A 4 (wX ad cA) (jx_Qv K D clX (tysX cA) (wX ad cA) A) 0 0 0 [(0, .ref (ad 36)), (1, .int x1), (2, .int x2)] [] σ (X_Resolver_gather N x1 x2 σ) := by
  intro x1 x2 σ
  rw [X_Resolver_gather]
  refine J_aload_n (q := 0) h d_Resolver_gather_0 rfl rfl ?_
  refine J_iconst (v := 0) h d_Resolver_gather_1 (by decide) ?_
  refine J_putf h 36 (wX_36 ad cA σ) (tb_ups in_Resolver) rfl ft_Resolver ft_Resolver_ok nm_Resolver 5 (by decide) (tb_up q_2_28) rfl rfl rfl (Nat.le_of_ble_eq_true rfl) (pX_36_5 ad cA σ 0) d_Resolver_gather_2 (fun σ1 => ?_)
  refine J_iconst (v := 0) h d_Resolver_gather_5 (by decide) ?_
  refine J_istore_n (lv' := [(3, .int 0), (0, .ref (ad 36)), (1, .int x1), (2, .int x2)]) h d_Resolver_gather_6 rfl (by decide) rfl ?_
  refine J_sub [1, 2, 3, 0] rfl ?_
  exact J_X_Resolver_gather_L7 K D A ad cA N h N x1 x2 0 σ1
set_option maxRecDepth 100000 in
theorem cX_Resolver_gather (l : Launch) (D : va_G) (ad : Nat → Nat) (cA : Nat → ClassId) (N : Nat) (x1 : Int32) (x2 : Int32) (σ : SX) (r : Unit) (σ' : SX) (hf : X_Resolver_gather N x1 x2 σ = some (r, σ')) : MetV l y_Resolver_gather ((Cond.code y_Resolver_gather b_Resolver_gather 4 none) :: tblG) rX_Resolver_gather D clX (tysX cA) (wX ad cA) [.ref (ad 36), .int x1, .int x2] σ r σ' :=
  jx_metV (by decide) rfl (Nat.le_of_ble_eq_true rfl) (fun K A h => J_X_Resolver_gather K D A ad cA N h x1 x2 σ) hf
