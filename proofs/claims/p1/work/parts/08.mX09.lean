def rX_I_canBeTold : Room := { frames := 1, cells := 0, slots := 0, locals := 21 }
theorem rm_ok_X_I_canBeTold : rX_I_canBeTold.cells = 0 ∧ rX_I_canBeTold.slots = 0 := ⟨rfl, rfl⟩
def X_I_canBeTold_b32 (v2 : Int32) (σ : SX) : Option (Int32 × SX) := (bd (X_Types_variablesIn v2 σ) (fun (r5 : Int32) (σ6 : SX) => (if (r5 >>> ((gX_I_variables σ6) &&& 31)) = 0 then (some (1, σ6)) else (some (0, σ6)))))
set_option maxRecDepth 100000 in
set_option maxHeartbeats 4000000 in
theorem J_X_I_canBeTold_b32 (K : jx_E) (D : va_G) (A : Nat → Prop) (ad : Nat → Nat) (cA : Nat → ClassId) (h : jx_ok K D clX (tysX cA) A 3 b_I_canBeTold y_I_canBeTold.cls ((Cond.code y_I_canBeTold b_I_canBeTold 3 (some .boolean)) :: tblG) rX_I_canBeTold (some .boolean)) : ∀ (v2 : Int32) (σ : SX), J K D clX A 3 (wX ad cA) (jx_Qi K D clX (tysX cA) (wX ad cA) A) 0 0 32 [(0, .ref (ad 0)), (2, .int v2)] [] σ (X_I_canBeTold_b32 v2 σ) := by
  intro v2 σ
  rw [X_I_canBeTold_b32]
  refine J_aload_n (q := 0) h d_I_canBeTold_32 rfl rfl ?_
  refine J_getf h 0 (wX_0 ad cA σ) (tb_ups in_I) rfl 1 (by decide) (tb_up q_2_73) rfl d_I_canBeTold_33 ?_
  refine J_iload_n (q := 1) h d_I_canBeTold_36 rfl rfl ?_
  refine J_callVi (As := [.int v2]) (st := []) (rmc := rX_Types_variablesIn) (q0 := 7) h (fun _ _ hf => cX_Types_variablesIn (jl K) D ad cA v2 σ _ _ hf) (gd_V q_2_220 q_2_221 q_2_222 q_1_3 q_2_223) rfl ⟨rfl, rfl⟩ dd_Types_variablesIn ⟨Nat.le_of_ble_eq_true rfl, Nat.le_of_ble_eq_true rfl⟩ rfl rfl (wX_7 ad cA σ) rfl rfl (Nat.le_of_ble_eq_true rfl) ⟨Nat.zero_le _, Nat.zero_le _⟩ d_I_canBeTold_37 (fun r5 σ6 => ?_)
  refine J_aload_n (q := 0) h d_I_canBeTold_40 rfl rfl ?_
  refine J_getf h 0 (wX_0 ad cA σ6) (tb_ups in_I) rfl 8 (by decide) (tb_up q_2_80) rfl d_I_canBeTold_41 ?_
  refine J_ishr h d_I_canBeTold_44 ?_
  refine J_if_ne (tgt := 52) h d_I_canBeTold_45 (by decide) ?_ ?_
  · refine J_iconst (v := 1) h d_I_canBeTold_48 (by decide) ?_
    refine J_goto (tgt := 53) h d_I_canBeTold_49 (by decide) ?_
    exact J_zret h rfl (by decide) d_I_canBeTold_53
  · refine J_iconst (v := 0) h d_I_canBeTold_52 (by decide) ?_
    exact J_zret h rfl (by decide) d_I_canBeTold_53
def X_I_canBeTold (x1 : Int32) (x2 : Int32) (σ : SX) : Option (Int32 × SX) := (bd (X_Types_has x2 σ) (fun (r1 : Int32) (σ2 : SX) => (if r1 = 0 then (some (0, σ2)) else (bd (X_Types_kindOf x2 σ2) (fun (r3 : Int32) (σ4 : SX) => (if r3 = 2 then (if x1 = 2 then (X_I_canBeTold_b32 x2 σ4) else (some (0, σ4))) else (X_I_canBeTold_b32 x2 σ4)))))))
set_option maxRecDepth 100000 in
set_option maxHeartbeats 4000000 in
theorem J_X_I_canBeTold (K : jx_E) (D : va_G) (A : Nat → Prop) (ad : Nat → Nat) (cA : Nat → ClassId) (h : jx_ok K D clX (tysX cA) A 3 b_I_canBeTold y_I_canBeTold.cls ((Cond.code y_I_canBeTold b_I_canBeTold 3 (some .boolean)) :: tblG) rX_I_canBeTold (some .boolean)) : ∀ (x1 : Int32) (x2 : Int32) (σ : SX), J K D clX A 3 (wX ad cA) (jx_Qi K D clX (tysX cA) (wX ad cA) A) 0 0 0 [(0, .ref (ad 0)), (1, .int x1), (2, .int x2)] [] σ (X_I_canBeTold x1 x2 σ) := by
  intro x1 x2 σ
  rw [X_I_canBeTold]
  refine J_aload_n (q := 0) h d_I_canBeTold_0 rfl rfl ?_
  refine J_getf h 0 (wX_0 ad cA σ) (tb_ups in_I) rfl 1 (by decide) (tb_up q_2_73) rfl d_I_canBeTold_1 ?_
  refine J_iload_n (q := 2) h d_I_canBeTold_4 rfl rfl ?_
  refine J_callVi (As := [.int x2]) (st := []) (rmc := rX_Types_has) (q0 := 7) h (fun _ _ hf => cX_Types_has (jl K) D ad cA x2 σ _ _ hf) (gd_V q_2_184 q_2_185 q_2_186 q_1_3 q_2_187) rfl ⟨rfl, rfl⟩ dd_Types_has ⟨Nat.le_of_ble_eq_true rfl, Nat.le_of_ble_eq_true rfl⟩ rfl rfl (wX_7 ad cA σ) rfl rfl (Nat.le_of_ble_eq_true rfl) ⟨Nat.zero_le _, Nat.zero_le _⟩ d_I_canBeTold_5 (fun r1 σ2 => ?_)
  refine J_if_ne (tgt := 13) h d_I_canBeTold_8 (by decide) ?_ ?_
  · refine J_iconst (v := 0) h d_I_canBeTold_11 (by decide) ?_
    exact J_zret h rfl (by decide) d_I_canBeTold_12
  · refine J_aload_n (q := 0) h d_I_canBeTold_13 rfl rfl ?_
    refine J_getf h 0 (wX_0 ad cA σ2) (tb_ups in_I) rfl 1 (by decide) (tb_up q_2_73) rfl d_I_canBeTold_14 ?_
    refine J_iload_n (q := 2) h d_I_canBeTold_17 rfl rfl ?_
    refine J_callVi (As := [.int x2]) (st := []) (rmc := rX_Types_kindOf) (q0 := 7) h (fun _ _ hf => cX_Types_kindOf (jl K) D ad cA x2 σ2 _ _ hf) (gd_V q_2_126 q_2_127 q_2_128 q_1_3 q_2_129) rfl ⟨rfl, rfl⟩ dd_Types_kindOf ⟨Nat.le_of_ble_eq_true rfl, Nat.le_of_ble_eq_true rfl⟩ rfl rfl (wX_7 ad cA σ2) rfl rfl (Nat.le_of_ble_eq_true rfl) ⟨Nat.zero_le _, Nat.zero_le _⟩ d_I_canBeTold_18 (fun r3 σ4 => ?_)
    refine J_iconst (v := 2) h d_I_canBeTold_21 (by decide) ?_
    refine J_icmp_ne (tgt := 32) h d_I_canBeTold_22 (by decide) ?_ ?_
    · refine J_iload_n (q := 1) h d_I_canBeTold_25 rfl rfl ?_
      refine J_iconst (v := 2) h d_I_canBeTold_26 (by decide) ?_
      refine J_icmp_eq (tgt := 32) h d_I_canBeTold_27 (by decide) ?_ ?_
      · refine J_sub [0, 2] rfl ?_
        exact J_X_I_canBeTold_b32 K D A ad cA h x2 σ4
      · refine J_iconst (v := 0) h d_I_canBeTold_30 (by decide) ?_
        exact J_zret h rfl (by decide) d_I_canBeTold_31
    · refine J_sub [0, 2] rfl ?_
      exact J_X_I_canBeTold_b32 K D A ad cA h x2 σ4
set_option maxRecDepth 100000 in
theorem cX_I_canBeTold (l : Launch) (D : va_G) (ad : Nat → Nat) (cA : Nat → ClassId) (x1 : Int32) (x2 : Int32) (σ : SX) (r : Int32) (σ' : SX) (hf : X_I_canBeTold x1 x2 σ = some (r, σ')) : MetI l y_I_canBeTold ((Cond.code y_I_canBeTold b_I_canBeTold 3 (some .boolean)) :: tblG) rX_I_canBeTold D clX (tysX cA) (wX ad cA) [.ref (ad 0), .int x1, .int x2] σ r σ' :=
  jx_metI (by decide) rfl (Nat.le_of_ble_eq_true rfl) (fun K A h => J_X_I_canBeTold K D A ad cA h x1 x2 σ) hf
def rX_I_takeState : Room := { frames := 0, cells := 0, slots := 0, locals := 0 }
theorem rm_ok_X_I_takeState : rX_I_takeState.cells = 0 ∧ rX_I_takeState.slots = 0 := ⟨rfl, rfl⟩
def X_I_takeState (x1 : Int32) (x2 : Int32) (σ : SX) : Option (Unit × SX) := (if x1 = 1 then (some ((), σ)) else (if x1 = 0 then (nm (sX_I_state σ 1) (fun (σ1 : SX) => (nm (sX_I_stateAt σ1 x2) (fun (σ2 : SX) => (some ((), σ2)))))) else (nm (sX_I_state σ 2) (fun (σ3 : SX) => (nm (sX_I_stateAt σ3 x2) (fun (σ4 : SX) => (some ((), σ4))))))))
set_option maxRecDepth 100000 in
set_option maxHeartbeats 4000000 in
theorem J_X_I_takeState (K : jx_E) (D : va_G) (A : Nat → Prop) (ad : Nat → Nat) (cA : Nat → ClassId) (h : jx_ok K D clX (tysX cA) A 3 b_I_takeState y_I_takeState.cls ((Cond.code y_I_takeState b_I_takeState 3 none) :: tblG) rX_I_takeState none) : ∀ (x1 : Int32) (x2 : Int32) (σ : SX), J K D clX A 3 (wX ad cA) (jx_Qv K D clX (tysX cA) (wX ad cA) A) 0 0 0 [(0, .ref (ad 0)), (1, .int x1), (2, .int x2)] [] σ (X_I_takeState x1 x2 σ) := by
  intro x1 x2 σ
  rw [X_I_takeState]
  refine J_iload_n (q := 1) h d_I_takeState_0 rfl rfl ?_
  refine J_iconst (v := 1) h d_I_takeState_1 (by decide) ?_
  refine J_icmp_ne (tgt := 6) h d_I_takeState_2 (by decide) ?_ ?_
  · exact J_vret h rfl d_I_takeState_5
  · refine J_aload_n (q := 0) h d_I_takeState_6 rfl rfl ?_
    refine J_iload_n (q := 1) h d_I_takeState_7 rfl rfl ?_
    refine J_if_ne (tgt := 15) h d_I_takeState_8 (by decide) ?_ ?_
    · refine J_iconst (v := 1) h d_I_takeState_11 (by decide) ?_
      refine J_goto (tgt := 16) h d_I_takeState_12 (by decide) ?_
      refine J_putf h 0 (wX_0 ad cA σ) (tb_ups in_I) rfl ft_I ft_I_ok nm_I 9 (by decide) (tb_up q_2_81) rfl rfl rfl (Nat.le_of_ble_eq_true rfl) (pX_0_9 ad cA σ 1) d_I_takeState_16 (fun σ1 => ?_)
      refine J_aload_n (q := 0) h d_I_takeState_19 rfl rfl ?_
      refine J_iload_n (q := 2) h d_I_takeState_20 rfl rfl ?_
      refine J_putf h 0 (wX_0 ad cA σ1) (tb_ups in_I) rfl ft_I ft_I_ok nm_I 10 (by decide) (tb_up q_2_82) rfl rfl rfl (Nat.le_of_ble_eq_true rfl) (pX_0_10 ad cA σ1 x2) d_I_takeState_21 (fun σ2 => ?_)
      exact J_vret h rfl d_I_takeState_24
    · refine J_iconst (v := 2) h d_I_takeState_15 (by decide) ?_
      refine J_putf h 0 (wX_0 ad cA σ) (tb_ups in_I) rfl ft_I ft_I_ok nm_I 9 (by decide) (tb_up q_2_81) rfl rfl rfl (Nat.le_of_ble_eq_true rfl) (pX_0_9 ad cA σ 2) d_I_takeState_16 (fun σ3 => ?_)
      refine J_aload_n (q := 0) h d_I_takeState_19 rfl rfl ?_
      refine J_iload_n (q := 2) h d_I_takeState_20 rfl rfl ?_
      refine J_putf h 0 (wX_0 ad cA σ3) (tb_ups in_I) rfl ft_I ft_I_ok nm_I 10 (by decide) (tb_up q_2_82) rfl rfl rfl (Nat.le_of_ble_eq_true rfl) (pX_0_10 ad cA σ3 x2) d_I_takeState_21 (fun σ4 => ?_)
      exact J_vret h rfl d_I_takeState_24
set_option maxRecDepth 100000 in
theorem cX_I_takeState (l : Launch) (D : va_G) (ad : Nat → Nat) (cA : Nat → ClassId) (x1 : Int32) (x2 : Int32) (σ : SX) (r : Unit) (σ' : SX) (hf : X_I_takeState x1 x2 σ = some (r, σ')) : MetV l y_I_takeState ((Cond.code y_I_takeState b_I_takeState 3 none) :: tblG) rX_I_takeState D clX (tysX cA) (wX ad cA) [.ref (ad 0), .int x1, .int x2] σ r σ' :=
  jx_metV (by decide) rfl (Nat.le_of_ble_eq_true rfl) (fun K A h => J_X_I_takeState K D A ad cA h x1 x2 σ) hf
def rX_I_formula : Room := { frames := 29, cells := 0, slots := 0, locals := 850 }
theorem rm_ok_X_I_formula : rX_I_formula.cells = 0 ∧ rX_I_formula.slots = 0 := ⟨rfl, rfl⟩
def X_I_formula_b119 (N : Nat) (v4 : Int32) (v5 : Int32) (σ : SX) : Option (Int32 × SX) := (bd (X_I_takeState v5 v4 σ) (fun (r15 : Unit) (σ16 : SX) => (some (v4, σ16))))
set_option maxRecDepth 100000 in
set_option maxHeartbeats 4000000 in
theorem J_X_I_formula_b119 (K : jx_E) (D : va_G) (A : Nat → Prop) (ad : Nat → Nat) (cA : Nat → ClassId) (N : Nat) (h : jx_ok K D clX (tysX cA) A 6 b_I_formula y_I_formula.cls ((Cond.code y_I_formula b_I_formula 6 (some .int)) :: tblG) rX_I_formula (some .int)) : ∀ (v4 : Int32) (v5 : Int32) (σ : SX), J K D clX A 6 (wX ad cA) (jx_Qi K D clX (tysX cA) (wX ad cA) A) 0 0 119 [(0, .ref (ad 0)), (4, .int v4), (5, .int v5)] [] σ (X_I_formula_b119 N v4 v5 σ) := by
  intro v4 v5 σ
  rw [X_I_formula_b119]
  refine J_aload_n (q := 0) h d_I_formula_119 rfl rfl ?_
  refine J_iload (q := 2) h d_I_formula_120 rfl ?_
  refine J_iload (q := 1) h d_I_formula_122 rfl ?_
  refine J_callVv (As := [.int v5, .int v4]) (st := []) (rmc := rX_I_takeState) (q0 := 0) h (fun _ _ hf => cX_I_takeState (jl K) D ad cA v5 v4 σ _ _ hf) (gd_V q_3_165 q_3_167 q_s_16 q_1_1 q_3_168) rfl ⟨rfl, rfl⟩ dd_I_takeState ⟨Nat.le_of_ble_eq_true rfl, Nat.le_of_ble_eq_true rfl⟩ rfl rfl (wX_0 ad cA σ) rfl rfl (Nat.le_of_ble_eq_true rfl) ⟨Nat.zero_le _, Nat.zero_le _⟩ d_I_formula_124 (fun r15 σ16 => ?_)
  refine J_iload (q := 1) h d_I_formula_127 rfl ?_
  exact J_iret h rfl d_I_formula_129
def X_I_formula_b100 (N : Nat) (v4 : Int32) (v5 : Int32) (σ : SX) : Option (Int32 × SX) := (if (gX_Reducer_sawUnchecked σ) = 0 then (X_I_formula_b119 N v4 v5 σ) else (bd (X_Told_markUnchecked v4 σ) (fun (r17 : Unit) (σ18 : SX) => (X_I_formula_b119 N v4 v5 σ18))))
set_option maxRecDepth 100000 in
set_option maxHeartbeats 4000000 in
theorem J_X_I_formula_b100 (K : jx_E) (D : va_G) (A : Nat → Prop) (ad : Nat → Nat) (cA : Nat → ClassId) (N : Nat) (h : jx_ok K D clX (tysX cA) A 6 b_I_formula y_I_formula.cls ((Cond.code y_I_formula b_I_formula 6 (some .int)) :: tblG) rX_I_formula (some .int)) : ∀ (v4 : Int32) (v5 : Int32) (σ : SX), J K D clX A 6 (wX ad cA) (jx_Qi K D clX (tysX cA) (wX ad cA) A) 0 0 100 [(0, .ref (ad 0)), (4, .int v4), (5, .int v5)] [] σ (X_I_formula_b100 N v4 v5 σ) := by
  intro v4 v5 σ
  rw [X_I_formula_b100]
  refine J_aload_n (q := 0) h d_I_formula_100 rfl rfl ?_
  refine J_getf h 0 (wX_0 ad cA σ) (tb_ups in_I) rfl 3 (by decide) (tb_up q_2_75) rfl d_I_formula_101 ?_
  refine J_getf h 29 (wX_29 ad cA σ) (tb_ups in_Reducer) rfl 8 (by decide) (tb_up q_1_208) rfl d_I_formula_104 ?_
  refine J_if_eq (tgt := 119) h d_I_formula_107 (by decide) ?_ ?_
  · exact J_X_I_formula_b119 K D A ad cA N h v4 v5 σ
  · refine J_aload_n (q := 0) h d_I_formula_110 rfl rfl ?_
    refine J_getf h 0 (wX_0 ad cA σ) (tb_ups in_I) rfl 6 (by decide) (tb_up q_2_78) rfl d_I_formula_111 ?_
    refine J_iload (q := 1) h d_I_formula_114 rfl ?_
    refine J_callVv (As := [.int v4]) (st := []) (rmc := rX_Told_markUnchecked) (q0 := 40) h (fun _ _ hf => cX_Told_markUnchecked (jl K) D ad cA v4 σ _ _ hf) (gd_V q_3_157 q_3_158 q_3_159 q_1_11 q_3_160) rfl ⟨rfl, rfl⟩ dd_Told_markUnchecked ⟨Nat.le_of_ble_eq_true rfl, Nat.le_of_ble_eq_true rfl⟩ rfl rfl (wX_40 ad cA σ) rfl rfl (Nat.le_of_ble_eq_true rfl) ⟨Nat.zero_le _, Nat.zero_le _⟩ d_I_formula_116 (fun r17 σ18 => ?_)
    exact J_X_I_formula_b119 K D A ad cA N h v4 v5 σ18
def X_I_formula (N : Nat) (x1 : Int32) (x2 : Int32) (x3 : Int32) (σ : SX) : Option (Int32 × SX) := (if x1 < 0 then (some ((-2), σ)) else (if x1 ≤ 3 then (bd (X_I_canBeTold x1 x2 σ) (fun (r1 : Int32) (σ2 : SX) => (if r1 = 0 then (some ((-2), σ2)) else (bd (X_I_canBeTold x1 x3 σ2) (fun (r3 : Int32) (σ4 : SX) => (if r3 = 0 then (some ((-2), σ4)) else (if (gX_I_state σ4) = 0 then (bd (X_Told_hasRoom σ4) (fun (r5 : Int32) (σ6 : SX) => (if r5 = 0 then (some ((-1), σ6)) else (bd (X_Told_add x1 x2 x3 σ6) (fun (r7 : Int32) (σ8 : SX) => (bd (X_Reducer_begin r7 σ8) (fun (r9 : Unit) (σ10 : SX) => (bd (X_Reducer_ask x1 x2 x3 σ10) (fun (r11 : Int32) (σ12 : SX) => (if r11 = 1 then (bd (X_Holder_holdAll N σ12) (fun (r13 : Int32) (σ14 : SX) => (X_I_formula_b100 N r7 r13 σ14))) else (X_I_formula_b100 N r7 r11 σ12))))))))))) else (some ((-1), σ4))))))))) else (some ((-2), σ))))
set_option maxRecDepth 100000 in
set_option maxHeartbeats 4000000 in
theorem J_X_I_formula (K : jx_E) (D : va_G) (A : Nat → Prop) (ad : Nat → Nat) (cA : Nat → ClassId) (N : Nat) (h : jx_ok K D clX (tysX cA) A 6 b_I_formula y_I_formula.cls ((Cond.code y_I_formula b_I_formula 6 (some .int)) :: tblG) rX_I_formula (some .int)) : ∀ (x1 : Int32) (x2 : Int32) (x3 : Int32) (σ : SX), J K D clX A 6 (wX ad cA) (jx_Qi K D clX (tysX cA) (wX ad cA) A) 0 0 0 [(0, .ref (ad 0)), (1, .int x1), (2, .int x2), (3, .int x3)] [] σ (X_I_formula N x1 x2 x3 σ) := by
  intro x1 x2 x3 σ
  rw [X_I_formula]
  refine J_iload_n (q := 1) h d_I_formula_0 rfl rfl ?_
  refine J_if_lt (tgt := 9) h d_I_formula_1 (by decide) ?_ ?_
  · refine J_bipush (v := (-2)) h d_I_formula_9 (by decide) ?_
    exact J_iret h rfl d_I_formula_11
  · refine J_iload_n (q := 1) h d_I_formula_4 rfl rfl ?_
    refine J_iconst (v := 3) h d_I_formula_5 (by decide) ?_
    refine J_icmp_le (tgt := 12) h d_I_formula_6 (by decide) ?_ ?_
    · refine J_aload_n (q := 0) h d_I_formula_12 rfl rfl ?_
      refine J_iload_n (q := 1) h d_I_formula_13 rfl rfl ?_
      refine J_iload_n (q := 2) h d_I_formula_14 rfl rfl ?_
      refine J_callVi (As := [.int x1, .int x2]) (st := []) (rmc := rX_I_canBeTold) (q0 := 0) h (fun _ _ hf => cX_I_canBeTold (jl K) D ad cA x1 x2 σ _ _ hf) (gd_V q_2_216 q_2_218 q_s_3 q_1_1 q_2_219) rfl ⟨rfl, rfl⟩ dd_I_canBeTold ⟨Nat.le_of_ble_eq_true rfl, Nat.le_of_ble_eq_true rfl⟩ rfl rfl (wX_0 ad cA σ) rfl rfl (Nat.le_of_ble_eq_true rfl) ⟨Nat.zero_le _, Nat.zero_le _⟩ d_I_formula_15 (fun r1 σ2 => ?_)
      refine J_if_eq (tgt := 30) h d_I_formula_18 (by decide) ?_ ?_
      · refine J_bipush (v := (-2)) h d_I_formula_30 (by decide) ?_
        exact J_iret h rfl d_I_formula_32
      · refine J_aload_n (q := 0) h d_I_formula_21 rfl rfl ?_
        refine J_iload_n (q := 1) h d_I_formula_22 rfl rfl ?_
        refine J_iload_n (q := 3) h d_I_formula_23 rfl rfl ?_
        refine J_callVi (As := [.int x1, .int x3]) (st := []) (rmc := rX_I_canBeTold) (q0 := 0) h (fun _ _ hf => cX_I_canBeTold (jl K) D ad cA x1 x3 σ2 _ _ hf) (gd_V q_2_216 q_2_218 q_s_3 q_1_1 q_2_219) rfl ⟨rfl, rfl⟩ dd_I_canBeTold ⟨Nat.le_of_ble_eq_true rfl, Nat.le_of_ble_eq_true rfl⟩ rfl rfl (wX_0 ad cA σ2) rfl rfl (Nat.le_of_ble_eq_true rfl) ⟨Nat.zero_le _, Nat.zero_le _⟩ d_I_formula_24 (fun r3 σ4 => ?_)
        refine J_if_ne (tgt := 33) h d_I_formula_27 (by decide) ?_ ?_
        · refine J_bipush (v := (-2)) h d_I_formula_30 (by decide) ?_
          exact J_iret h rfl d_I_formula_32
        · refine J_aload_n (q := 0) h d_I_formula_33 rfl rfl ?_
          refine J_getf h 0 (wX_0 ad cA σ4) (tb_ups in_I) rfl 9 (by decide) (tb_up q_2_81) rfl d_I_formula_34 ?_
          refine J_if_ne (tgt := 50) h d_I_formula_37 (by decide) ?_ ?_
          · refine J_aload_n (q := 0) h d_I_formula_40 rfl rfl ?_
            refine J_getf h 0 (wX_0 ad cA σ4) (tb_ups in_I) rfl 6 (by decide) (tb_up q_2_78) rfl d_I_formula_41 ?_
            refine J_callVi (As := []) (st := []) (rmc := rX_Told_hasRoom) (q0 := 40) h (fun _ _ hf => cX_Told_hasRoom (jl K) D ad cA  σ4 _ _ hf) (gd_V q_2_224 q_2_225 q_2_226 q_1_11 q_2_227) rfl ⟨rfl, rfl⟩ dd_Told_hasRoom ⟨Nat.le_of_ble_eq_true rfl, Nat.le_of_ble_eq_true rfl⟩ rfl rfl (wX_40 ad cA σ4) rfl rfl (Nat.le_of_ble_eq_true rfl) ⟨Nat.zero_le _, Nat.zero_le _⟩ d_I_formula_44 (fun r5 σ6 => ?_)
            refine J_if_ne (tgt := 52) h d_I_formula_47 (by decide) ?_ ?_
            · refine J_iconst (v := (-1)) h d_I_formula_50 (by decide) ?_
              exact J_iret h rfl d_I_formula_51
            · refine J_aload_n (q := 0) h d_I_formula_52 rfl rfl ?_
              refine J_getf h 0 (wX_0 ad cA σ6) (tb_ups in_I) rfl 6 (by decide) (tb_up q_2_78) rfl d_I_formula_53 ?_
              refine J_iload_n (q := 1) h d_I_formula_56 rfl rfl ?_
              refine J_iload_n (q := 2) h d_I_formula_57 rfl rfl ?_
              refine J_iload_n (q := 3) h d_I_formula_58 rfl rfl ?_
              refine J_callVi (As := [.int x1, .int x2, .int x3]) (st := []) (rmc := rX_Told_add) (q0 := 40) h (fun _ _ hf => cX_Told_add (jl K) D ad cA x1 x2 x3 σ6 _ _ hf) (gd_V q_2_228 q_2_229 q_2_230 q_1_11 q_2_231) rfl ⟨rfl, rfl⟩ dd_Told_add ⟨Nat.le_of_ble_eq_true rfl, Nat.le_of_ble_eq_true rfl⟩ rfl rfl (wX_40 ad cA σ6) rfl rfl (Nat.le_of_ble_eq_true rfl) ⟨Nat.zero_le _, Nat.zero_le _⟩ d_I_formula_59 (fun r7 σ8 => ?_)
              refine J_istore (lv' := [(4, .int r7), (0, .ref (ad 0)), (1, .int x1), (2, .int x2), (3, .int x3)]) h d_I_formula_62 (by decide) rfl ?_
              refine J_aload_n (q := 1) h d_I_formula_64 rfl rfl ?_
              refine J_getf h 0 (wX_0 ad cA σ8) (tb_ups in_I) rfl 3 (by decide) (tb_up q_2_75) rfl d_I_formula_65 ?_
              refine J_iload (q := 0) h d_I_formula_68 rfl ?_
              refine J_callVv (As := [.int r7]) (st := []) (rmc := rX_Reducer_begin) (q0 := 29) h (fun _ _ hf => cX_Reducer_begin (jl K) D ad cA r7 σ8 _ _ hf) (gd_V q_2_233 q_2_234 q_2_235 q_1_7 q_2_236) rfl ⟨rfl, rfl⟩ dd_Reducer_begin ⟨Nat.le_of_ble_eq_true rfl, Nat.le_of_ble_eq_true rfl⟩ rfl rfl (wX_29 ad cA σ8) rfl rfl (Nat.le_of_ble_eq_true rfl) ⟨Nat.zero_le _, Nat.zero_le _⟩ d_I_formula_70 (fun r9 σ10 => ?_)
              refine J_aload_n (q := 1) h d_I_formula_73 rfl rfl ?_
              refine J_getf h 0 (wX_0 ad cA σ10) (tb_ups in_I) rfl 3 (by decide) (tb_up q_2_75) rfl d_I_formula_74 ?_
              refine J_iload_n (q := 2) h d_I_formula_77 rfl rfl ?_
              refine J_iload_n (q := 3) h d_I_formula_78 rfl rfl ?_
              refine J_iload_n (q := 4) h d_I_formula_79 rfl rfl ?_
              refine J_callVi (As := [.int x1, .int x2, .int x3]) (st := []) (rmc := rX_Reducer_ask) (q0 := 29) h (fun _ _ hf => cX_Reducer_ask (jl K) D ad cA x1 x2 x3 σ10 _ _ hf) (gd_V q_2_237 q_2_238 q_2_239 q_1_7 q_3_0) rfl ⟨rfl, rfl⟩ dd_Reducer_ask ⟨Nat.le_of_ble_eq_true rfl, Nat.le_of_ble_eq_true rfl⟩ rfl rfl (wX_29 ad cA σ10) rfl rfl (Nat.le_of_ble_eq_true rfl) ⟨Nat.zero_le _, Nat.zero_le _⟩ d_I_formula_80 (fun r11 σ12 => ?_)
              refine J_istore (lv' := [(5, .int r11), (4, .int r7), (0, .ref (ad 0)), (1, .int x1), (2, .int x2), (3, .int x3)]) h d_I_formula_83 (by decide) rfl ?_
              refine J_iload (q := 0) h d_I_formula_85 rfl ?_
              refine J_iconst (v := 1) h d_I_formula_87 (by decide) ?_
              refine J_icmp_ne (tgt := 100) h d_I_formula_88 (by decide) ?_ ?_
              · refine J_aload_n (q := 2) h d_I_formula_91 rfl rfl ?_
                refine J_getf h 0 (wX_0 ad cA σ12) (tb_ups in_I) rfl 4 (by decide) (tb_up q_2_76) rfl d_I_formula_92 ?_
                refine J_callVi (As := []) (st := []) (rmc := rX_Holder_holdAll) (q0 := 35) h (fun _ _ hf => cX_Holder_holdAll (jl K) D ad cA N  σ12 _ _ hf) (gd_V q_3_5 q_3_6 q_3_7 q_1_9 q_3_8) rfl ⟨rfl, rfl⟩ dd_Holder_holdAll ⟨Nat.le_of_ble_eq_true rfl, Nat.le_of_ble_eq_true rfl⟩ rfl rfl (wX_35 ad cA σ12) rfl rfl (Nat.le_of_ble_eq_true rfl) ⟨Nat.zero_le _, Nat.zero_le _⟩ d_I_formula_95 (fun r13 σ14 => ?_)
                refine J_istore (lv' := [(5, .int r13), (4, .int r7), (0, .ref (ad 0)), (1, .int x1), (2, .int x2), (3, .int x3)]) h d_I_formula_98 (by decide) rfl ?_
                refine J_sub [2, 1, 0] rfl ?_
                exact J_X_I_formula_b100 K D A ad cA N h r7 r13 σ14
              · refine J_sub [2, 1, 0] rfl ?_
                exact J_X_I_formula_b100 K D A ad cA N h r7 r11 σ12
          · refine J_iconst (v := (-1)) h d_I_formula_50 (by decide) ?_
            exact J_iret h rfl d_I_formula_51
    · refine J_bipush (v := (-2)) h d_I_formula_9 (by decide) ?_
      exact J_iret h rfl d_I_formula_11
set_option maxRecDepth 100000 in
theorem cX_I_formula (l : Launch) (D : va_G) (ad : Nat → Nat) (cA : Nat → ClassId) (N : Nat) (x1 : Int32) (x2 : Int32) (x3 : Int32) (σ : SX) (r : Int32) (σ' : SX) (hf : X_I_formula N x1 x2 x3 σ = some (r, σ')) : MetI l y_I_formula ((Cond.code y_I_formula b_I_formula 6 (some .int)) :: tblG) rX_I_formula D clX (tysX cA) (wX ad cA) [.ref (ad 0), .int x1, .int x2, .int x3] σ r σ' :=
  jx_metI (by decide) rfl (Nat.le_of_ble_eq_true rfl) (fun K A h => J_X_I_formula K D A ad cA N h x1 x2 x3 σ) hf
def rX_I_resolve : Room := { frames := 29, cells := 0, slots := 0, locals := 850 }
theorem rm_ok_X_I_resolve : rX_I_resolve.cells = 0 ∧ rX_I_resolve.slots = 0 := ⟨rfl, rfl⟩
def X_I_resolve_b91 (N : Nat) (k58 : Int32 → Int32 → Int32 → Int32 → SX → Option (Int32 × SX)) (v1 : Int32) (v2 : Int32) (v3 : Int32) (v4 : Int32) (σ : SX) : Option (Int32 × SX) := (nm (v4 + 1) (fun (y5 : Int32) => (k58 v1 v2 v3 y5 σ)))
set_option maxRecDepth 100000 in
set_option maxHeartbeats 4000000 in
theorem J_X_I_resolve_b91 (K : jx_E) (D : va_G) (A : Nat → Prop) (ad : Nat → Nat) (cA : Nat → ClassId) (N : Nat) (h : jx_ok K D clX (tysX cA) A 5 b_I_resolve y_I_resolve.cls ((Cond.code y_I_resolve b_I_resolve 5 (some .int)) :: tblG) rX_I_resolve (some .int)) (k58 : Int32 → Int32 → Int32 → Int32 → SX → Option (Int32 × SX)) (hk58 : ∀ (v1 : Int32) (v2 : Int32) (v3 : Int32) (v4 : Int32) (σ : SX), J K D clX A 5 (wX ad cA) (jx_Qi K D clX (tysX cA) (wX ad cA) A) 0 0 58 [(0, .ref (ad 0)), (1, .int v1), (2, .int v2), (3, .int v3), (4, .int v4)] [] σ (k58 v1 v2 v3 v4 σ)) : ∀ (v1 : Int32) (v2 : Int32) (v3 : Int32) (v4 : Int32) (σ : SX), J K D clX A 5 (wX ad cA) (jx_Qi K D clX (tysX cA) (wX ad cA) A) 0 0 91 [(0, .ref (ad 0)), (1, .int v1), (2, .int v2), (3, .int v3), (4, .int v4)] [] σ (X_I_resolve_b91 N k58 v1 v2 v3 v4 σ) := by
  intro v1 v2 v3 v4 σ
  rw [X_I_resolve_b91]
  refine J_iinc (q := 4) (c := 1) (lv' := fun y5 => [(4, .int y5), (0, .ref (ad 0)), (1, .int v1), (2, .int v2), (3, .int v3)]) h d_I_resolve_91 rfl (by decide) (by decide) (fun _ => rfl) (fun y5 => ?_)
  refine J_goto (tgt := 58) h d_I_resolve_94 (by decide) ?_
  refine J_sub [1, 2, 3, 4, 0] rfl ?_
  exact hk58 v1 v2 v3 y5 σ
def X_I_resolve_L58 (N : Nat) (k97 : Int32 → Int32 → Int32 → SX → Option (Int32 × SX)) : Nat → Int32 → Int32 → Int32 → Int32 → SX → Option (Int32 × SX)
  | 0, _, _, _, _, _ => none
  | n + 1, v1, v2, v3, v4, σ => (if (gX_I_variables σ) ≤ v4 then (k97 v1 v2 v3 σ) else (if v3 = 1 then (if ((v2 >>> (v4 &&& 31)) &&& 1) = 0 then (X_I_resolve_b91 N (X_I_resolve_L58 N k97 n) v1 v2 v3 v4 σ) else (bd (X_Resolver_choose N v4 σ) (fun (r6 : Int32) (σ7 : SX) => (X_I_resolve_b91 N (X_I_resolve_L58 N k97 n) v1 v2 r6 v4 σ7)))) else (k97 v1 v2 v3 σ)))
set_option maxRecDepth 100000 in
set_option maxHeartbeats 4000000 in
theorem J_X_I_resolve_L58 (K : jx_E) (D : va_G) (A : Nat → Prop) (ad : Nat → Nat) (cA : Nat → ClassId) (N : Nat) (h : jx_ok K D clX (tysX cA) A 5 b_I_resolve y_I_resolve.cls ((Cond.code y_I_resolve b_I_resolve 5 (some .int)) :: tblG) rX_I_resolve (some .int)) (k97 : Int32 → Int32 → Int32 → SX → Option (Int32 × SX)) (hk97 : ∀ (v1 : Int32) (v2 : Int32) (v3 : Int32) (σ : SX), J K D clX A 5 (wX ad cA) (jx_Qi K D clX (tysX cA) (wX ad cA) A) 0 0 97 [(0, .ref (ad 0)), (1, .int v1), (2, .int v2), (3, .int v3)] [] σ (k97 v1 v2 v3 σ)) : ∀ (n : Nat) (v1 : Int32) (v2 : Int32) (v3 : Int32) (v4 : Int32) (σ : SX), J K D clX A 5 (wX ad cA) (jx_Qi K D clX (tysX cA) (wX ad cA) A) 0 0 58 [(0, .ref (ad 0)), (1, .int v1), (2, .int v2), (3, .int v3), (4, .int v4)] [] σ (X_I_resolve_L58 N k97 n v1 v2 v3 v4 σ) := by
  intro n
  induction n with
  | zero => intro v1 v2 v3 v4 σ; exact J_none
  | succ n ih =>
    intro v1 v2 v3 v4 σ
    rw [X_I_resolve_L58]
    refine J_iload (q := 4) h d_I_resolve_58 rfl ?_
    refine J_aload_n (q := 0) h d_I_resolve_60 rfl rfl ?_
    refine J_getf h 0 (wX_0 ad cA σ) (tb_ups in_I) rfl 8 (by decide) (tb_up q_2_80) rfl d_I_resolve_61 ?_
    refine J_icmp_ge (tgt := 97) h d_I_resolve_64 (by decide) ?_ ?_
    · refine J_sub [0, 1, 2, 3] rfl ?_
      exact hk97 v1 v2 v3 σ
    · refine J_iload_n (q := 3) h d_I_resolve_67 rfl rfl ?_
      refine J_iconst (v := 1) h d_I_resolve_68 (by decide) ?_
      refine J_icmp_ne (tgt := 97) h d_I_resolve_69 (by decide) ?_ ?_
      · refine J_iload_n (q := 2) h d_I_resolve_72 rfl rfl ?_
        refine J_iload (q := 4) h d_I_resolve_73 rfl ?_
        refine J_ishr h d_I_resolve_75 ?_
        refine J_iconst (v := 1) h d_I_resolve_76 (by decide) ?_
        refine J_iand h d_I_resolve_77 ?_
        refine J_if_eq (tgt := 91) h d_I_resolve_78 (by decide) ?_ ?_
        · exact J_X_I_resolve_b91 K D A ad cA N h (X_I_resolve_L58 N k97 n) ih v1 v2 v3 v4 σ
        · refine J_aload_n (q := 0) h d_I_resolve_81 rfl rfl ?_
          refine J_getf h 0 (wX_0 ad cA σ) (tb_ups in_I) rfl 5 (by decide) (tb_up q_2_77) rfl d_I_resolve_82 ?_
          refine J_iload (q := 4) h d_I_resolve_85 rfl ?_
          refine J_callVi (As := [.int v4]) (st := []) (rmc := rX_Resolver_choose) (q0 := 36) h (fun _ _ hf => cX_Resolver_choose (jl K) D ad cA N v4 σ _ _ hf) (gd_V q_3_200 q_3_201 q_3_202 q_1_10 q_3_203) rfl ⟨rfl, rfl⟩ dd_Resolver_choose ⟨Nat.le_of_ble_eq_true rfl, Nat.le_of_ble_eq_true rfl⟩ rfl rfl (wX_36 ad cA σ) rfl rfl (Nat.le_of_ble_eq_true rfl) ⟨Nat.zero_le _, Nat.zero_le _⟩ d_I_resolve_87 (fun r6 σ7 => ?_)
          refine J_istore_n (lv' := [(3, .int r6), (0, .ref (ad 0)), (1, .int v1), (2, .int v2), (4, .int v4)]) h d_I_resolve_90 rfl (by decide) rfl ?_
          refine J_sub [1, 2, 3, 0, 4] rfl ?_
          exact J_X_I_resolve_b91 K D A ad cA N h (X_I_resolve_L58 N k97 n) ih v1 v2 r6 v4 σ7
      · refine J_sub [0, 1, 2, 3] rfl ?_
        exact hk97 v1 v2 v3 σ
def X_I_resolve_b171 (N : Nat) (k100 : Int32 → Int32 → Int32 → Int32 → SX → Option (Int32 × SX)) (v1 : Int32) (v2 : Int32) (v3 : Int32) (v4 : Int32) (σ : SX) : Option (Int32 × SX) := (nm (v4 + 1) (fun (y8 : Int32) => (k100 v1 v2 v3 y8 σ)))
set_option maxRecDepth 100000 in
set_option maxHeartbeats 4000000 in
theorem J_X_I_resolve_b171 (K : jx_E) (D : va_G) (A : Nat → Prop) (ad : Nat → Nat) (cA : Nat → ClassId) (N : Nat) (h : jx_ok K D clX (tysX cA) A 5 b_I_resolve y_I_resolve.cls ((Cond.code y_I_resolve b_I_resolve 5 (some .int)) :: tblG) rX_I_resolve (some .int)) (k100 : Int32 → Int32 → Int32 → Int32 → SX → Option (Int32 × SX)) (hk100 : ∀ (v1 : Int32) (v2 : Int32) (v3 : Int32) (v4 : Int32) (σ : SX), J K D clX A 5 (wX ad cA) (jx_Qi K D clX (tysX cA) (wX ad cA) A) 0 0 100 [(0, .ref (ad 0)), (1, .int v1), (2, .int v2), (3, .int v3), (4, .int v4)] [] σ (k100 v1 v2 v3 v4 σ)) : ∀ (v1 : Int32) (v2 : Int32) (v3 : Int32) (v4 : Int32) (σ : SX), J K D clX A 5 (wX ad cA) (jx_Qi K D clX (tysX cA) (wX ad cA) A) 0 0 171 [(0, .ref (ad 0)), (1, .int v1), (2, .int v2), (3, .int v3), (4, .int v4)] [] σ (X_I_resolve_b171 N k100 v1 v2 v3 v4 σ) := by
  intro v1 v2 v3 v4 σ
  rw [X_I_resolve_b171]
  refine J_iinc (q := 4) (c := 1) (lv' := fun y8 => [(4, .int y8), (0, .ref (ad 0)), (1, .int v1), (2, .int v2), (3, .int v3)]) h d_I_resolve_171 rfl (by decide) (by decide) (fun _ => rfl) (fun y8 => ?_)
  refine J_goto (tgt := 100) h d_I_resolve_174 (by decide) ?_
  refine J_sub [1, 2, 3, 4, 0] rfl ?_
  exact hk100 v1 v2 v3 y8 σ
def X_I_resolve_L100 (N : Nat) (k177 : Int32 → Int32 → SX → Option (Int32 × SX)) : Nat → Int32 → Int32 → Int32 → Int32 → SX → Option (Int32 × SX)
  | 0, _, _, _, _, _ => none
  | n + 1, v1, v2, v3, v4, σ => (if (gX_I_variables σ) ≤ v4 then (k177 v1 v3 σ) else (if (12 : Int32) ≤ v4 then (k177 v1 v3 σ) else (if v3 = 1 then (if ((v2 >>> (v4 &&& 31)) &&& 1) = 0 then (X_I_resolve_b171 N (X_I_resolve_L100 N k177 n) v1 v2 v3 v4 σ) else (if ck v4 12 = true then (bd (X_Resolver_choiceOf v4 σ) (fun (r9 : Int32) (σ10 : SX) => (bd (X_Reducer_ask 3 (aX_I_variableTypes σ v4.toNatClampNeg) r9 σ10) (fun (r11 : Int32) (σ12 : SX) => (if r11 = 1 then (bd (X_Holder_holdAll N σ12) (fun (r13 : Int32) (σ14 : SX) => (X_I_resolve_b171 N (X_I_resolve_L100 N k177 n) v1 v2 r13 v4 σ14))) else (X_I_resolve_b171 N (X_I_resolve_L100 N k177 n) v1 v2 r11 v4 σ12)))))) else none)) else (k177 v1 v3 σ))))
set_option maxRecDepth 100000 in
set_option maxHeartbeats 4000000 in
theorem J_X_I_resolve_L100 (K : jx_E) (D : va_G) (A : Nat → Prop) (ad : Nat → Nat) (cA : Nat → ClassId) (N : Nat) (h : jx_ok K D clX (tysX cA) A 5 b_I_resolve y_I_resolve.cls ((Cond.code y_I_resolve b_I_resolve 5 (some .int)) :: tblG) rX_I_resolve (some .int)) (k177 : Int32 → Int32 → SX → Option (Int32 × SX)) (hk177 : ∀ (v1 : Int32) (v3 : Int32) (σ : SX), J K D clX A 5 (wX ad cA) (jx_Qi K D clX (tysX cA) (wX ad cA) A) 0 0 177 [(0, .ref (ad 0)), (1, .int v1), (3, .int v3)] [] σ (k177 v1 v3 σ)) : ∀ (n : Nat) (v1 : Int32) (v2 : Int32) (v3 : Int32) (v4 : Int32) (σ : SX), J K D clX A 5 (wX ad cA) (jx_Qi K D clX (tysX cA) (wX ad cA) A) 0 0 100 [(0, .ref (ad 0)), (1, .int v1), (2, .int v2), (3, .int v3), (4, .int v4)] [] σ (X_I_resolve_L100 N k177 n v1 v2 v3 v4 σ) := by
  intro n
  induction n with
  | zero => intro v1 v2 v3 v4 σ; exact J_none
  | succ n ih =>
    intro v1 v2 v3 v4 σ
    rw [X_I_resolve_L100]
    refine J_iload (q := 4) h d_I_resolve_100 rfl ?_
    refine J_aload_n (q := 0) h d_I_resolve_102 rfl rfl ?_
    refine J_getf h 0 (wX_0 ad cA σ) (tb_ups in_I) rfl 8 (by decide) (tb_up q_2_80) rfl d_I_resolve_103 ?_
    refine J_icmp_ge (tgt := 177) h d_I_resolve_106 (by decide) ?_ ?_
    · refine J_sub [0, 1, 3] rfl ?_
      exact hk177 v1 v3 σ
    · refine J_iload (q := 4) h d_I_resolve_109 rfl ?_
      refine J_bipush (v := 12) h d_I_resolve_111 (by decide) ?_
      refine J_icmp_ge (tgt := 177) h d_I_resolve_113 (by decide) ?_ ?_
      · refine J_sub [0, 1, 3] rfl ?_
        exact hk177 v1 v3 σ
      · refine J_iload_n (q := 3) h d_I_resolve_116 rfl rfl ?_
        refine J_iconst (v := 1) h d_I_resolve_117 (by decide) ?_
        refine J_icmp_ne (tgt := 177) h d_I_resolve_118 (by decide) ?_ ?_
        · refine J_iload_n (q := 2) h d_I_resolve_121 rfl rfl ?_
          refine J_iload (q := 4) h d_I_resolve_122 rfl ?_
          refine J_ishr h d_I_resolve_124 ?_
          refine J_iconst (v := 1) h d_I_resolve_125 (by decide) ?_
          refine J_iand h d_I_resolve_126 ?_
          refine J_if_ne (tgt := 133) h d_I_resolve_127 (by decide) ?_ ?_
          · refine J_goto (tgt := 171) h d_I_resolve_130 (by decide) ?_
            exact J_X_I_resolve_b171 K D A ad cA N h (X_I_resolve_L100 N k177 n) ih v1 v2 v3 v4 σ
          · refine J_aload_n (q := 0) h d_I_resolve_133 rfl rfl ?_
            refine J_getf h 0 (wX_0 ad cA σ) (tb_ups in_I) rfl 3 (by decide) (tb_up q_2_75) rfl d_I_resolve_134 ?_
            refine J_iconst (v := 3) h d_I_resolve_137 (by decide) ?_
            refine J_aload_n (q := 0) h d_I_resolve_138 rfl rfl ?_
            refine J_getf h 0 (wX_0 ad cA σ) (tb_ups in_I) rfl 7 (by decide) (tb_up q_2_79) rfl d_I_resolve_139 ?_
            refine J_iload (q := 4) h d_I_resolve_142 rfl ?_
            refine J_iald h 24 20 (wX_24 ad cA σ) rfl d_I_resolve_144 ?_
            refine J_aload_n (q := 0) h d_I_resolve_145 rfl rfl ?_
            refine J_getf h 0 (wX_0 ad cA σ) (tb_ups in_I) rfl 5 (by decide) (tb_up q_2_77) rfl d_I_resolve_146 ?_
            refine J_iload (q := 4) h d_I_resolve_149 rfl ?_
            refine J_callVi (As := [.int v4]) (st := [.int (aX_I_variableTypes σ v4.toNatClampNeg), .int 3, .ref (ad 29)]) (rmc := rX_Resolver_choiceOf) (q0 := 36) h (fun _ _ hf => cX_Resolver_choiceOf (jl K) D ad cA v4 σ _ _ hf) (gd_V q_4_1 q_4_2 q_4_3 q_1_10 q_4_4) rfl ⟨rfl, rfl⟩ dd_Resolver_choiceOf ⟨Nat.le_of_ble_eq_true rfl, Nat.le_of_ble_eq_true rfl⟩ rfl rfl (wX_36 ad cA σ) rfl rfl (Nat.le_of_ble_eq_true rfl) ⟨Nat.zero_le _, Nat.zero_le _⟩ d_I_resolve_151 (fun r9 σ10 => ?_)
            refine J_callVi (As := [.int 3, .int (aX_I_variableTypes σ v4.toNatClampNeg), .int r9]) (st := []) (rmc := rX_Reducer_ask) (q0 := 29) h (fun _ _ hf => cX_Reducer_ask (jl K) D ad cA 3 (aX_I_variableTypes σ v4.toNatClampNeg) r9 σ10 _ _ hf) (gd_V q_2_237 q_2_238 q_2_239 q_1_7 q_3_0) rfl ⟨rfl, rfl⟩ dd_Reducer_ask ⟨Nat.le_of_ble_eq_true rfl, Nat.le_of_ble_eq_true rfl⟩ rfl rfl (wX_29 ad cA σ10) rfl rfl (Nat.le_of_ble_eq_true rfl) ⟨Nat.zero_le _, Nat.zero_le _⟩ d_I_resolve_154 (fun r11 σ12 => ?_)
            refine J_istore_n (lv' := [(3, .int r11), (0, .ref (ad 0)), (1, .int v1), (2, .int v2), (4, .int v4)]) h d_I_resolve_157 rfl (by decide) rfl ?_
            refine J_iload_n (q := 0) h d_I_resolve_158 rfl rfl ?_
            refine J_iconst (v := 1) h d_I_resolve_159 (by decide) ?_
            refine J_icmp_ne (tgt := 171) h d_I_resolve_160 (by decide) ?_ ?_
            · refine J_aload_n (q := 1) h d_I_resolve_163 rfl rfl ?_
              refine J_getf h 0 (wX_0 ad cA σ12) (tb_ups in_I) rfl 4 (by decide) (tb_up q_2_76) rfl d_I_resolve_164 ?_
              refine J_callVi (As := []) (st := []) (rmc := rX_Holder_holdAll) (q0 := 35) h (fun _ _ hf => cX_Holder_holdAll (jl K) D ad cA N  σ12 _ _ hf) (gd_V q_3_5 q_3_6 q_3_7 q_1_9 q_3_8) rfl ⟨rfl, rfl⟩ dd_Holder_holdAll ⟨Nat.le_of_ble_eq_true rfl, Nat.le_of_ble_eq_true rfl⟩ rfl rfl (wX_35 ad cA σ12) rfl rfl (Nat.le_of_ble_eq_true rfl) ⟨Nat.zero_le _, Nat.zero_le _⟩ d_I_resolve_167 (fun r13 σ14 => ?_)
              refine J_istore_n (lv' := [(3, .int r13), (0, .ref (ad 0)), (1, .int v1), (2, .int v2), (4, .int v4)]) h d_I_resolve_170 rfl (by decide) rfl ?_
              refine J_sub [1, 2, 3, 0, 4] rfl ?_
              exact J_X_I_resolve_b171 K D A ad cA N h (X_I_resolve_L100 N k177 n) ih v1 v2 r13 v4 σ14
            · refine J_sub [1, 2, 3, 0, 4] rfl ?_
              exact J_X_I_resolve_b171 K D A ad cA N h (X_I_resolve_L100 N k177 n) ih v1 v2 r11 v4 σ12
        · refine J_sub [0, 1, 3] rfl ?_
          exact hk177 v1 v3 σ
def X_I_resolve_b177 (N : Nat) (k19 : Int32 → SX → Option (Int32 × SX)) (v1 : Int32) (v3 : Int32) (σ : SX) : Option (Int32 × SX) := (bd (X_I_takeState v3 (-1) σ) (fun (r15 : Unit) (σ16 : SX) => (nm (v1 + 1) (fun (y17 : Int32) => (k19 y17 σ16)))))
set_option maxRecDepth 100000 in
set_option maxHeartbeats 4000000 in
theorem J_X_I_resolve_b177 (K : jx_E) (D : va_G) (A : Nat → Prop) (ad : Nat → Nat) (cA : Nat → ClassId) (N : Nat) (h : jx_ok K D clX (tysX cA) A 5 b_I_resolve y_I_resolve.cls ((Cond.code y_I_resolve b_I_resolve 5 (some .int)) :: tblG) rX_I_resolve (some .int)) (k19 : Int32 → SX → Option (Int32 × SX)) (hk19 : ∀ (v1 : Int32) (σ : SX), J K D clX A 5 (wX ad cA) (jx_Qi K D clX (tysX cA) (wX ad cA) A) 0 0 19 [(0, .ref (ad 0)), (1, .int v1)] [] σ (k19 v1 σ)) : ∀ (v1 : Int32) (v3 : Int32) (σ : SX), J K D clX A 5 (wX ad cA) (jx_Qi K D clX (tysX cA) (wX ad cA) A) 0 0 177 [(0, .ref (ad 0)), (1, .int v1), (3, .int v3)] [] σ (X_I_resolve_b177 N k19 v1 v3 σ) := by
  intro v1 v3 σ
  rw [X_I_resolve_b177]
  refine J_aload_n (q := 0) h d_I_resolve_177 rfl rfl ?_
  refine J_iload_n (q := 2) h d_I_resolve_178 rfl rfl ?_
  refine J_iconst (v := (-1)) h d_I_resolve_179 (by decide) ?_
  refine J_callVv (As := [.int v3, .int (-1)]) (st := []) (rmc := rX_I_takeState) (q0 := 0) h (fun _ _ hf => cX_I_takeState (jl K) D ad cA v3 (-1) σ _ _ hf) (gd_V q_3_165 q_3_167 q_s_16 q_1_1 q_3_168) rfl ⟨rfl, rfl⟩ dd_I_takeState ⟨Nat.le_of_ble_eq_true rfl, Nat.le_of_ble_eq_true rfl⟩ rfl rfl (wX_0 ad cA σ) rfl rfl (Nat.le_of_ble_eq_true rfl) ⟨Nat.zero_le _, Nat.zero_le _⟩ d_I_resolve_180 (fun r15 σ16 => ?_)
  refine J_iinc (q := 1) (c := 1) (lv' := fun y17 => [(1, .int y17), (0, .ref (ad 0)), (3, .int v3)]) h d_I_resolve_183 rfl (by decide) (by decide) (fun _ => rfl) (fun y17 => ?_)
  refine J_goto (tgt := 19) h d_I_resolve_186 (by decide) ?_
  refine J_sub [1, 0] rfl ?_
  exact hk19 y17 σ16
def X_I_resolve_b97 (N : Nat) (k19 : Int32 → SX → Option (Int32 × SX)) (v1 : Int32) (v2 : Int32) (v3 : Int32) (σ : SX) : Option (Int32 × SX) := (X_I_resolve_L100 N (X_I_resolve_b177 N k19) N v1 v2 v3 0 σ)
set_option maxRecDepth 100000 in
set_option maxHeartbeats 4000000 in
theorem J_X_I_resolve_b97 (K : jx_E) (D : va_G) (A : Nat → Prop) (ad : Nat → Nat) (cA : Nat → ClassId) (N : Nat) (h : jx_ok K D clX (tysX cA) A 5 b_I_resolve y_I_resolve.cls ((Cond.code y_I_resolve b_I_resolve 5 (some .int)) :: tblG) rX_I_resolve (some .int)) (k19 : Int32 → SX → Option (Int32 × SX)) (hk19 : ∀ (v1 : Int32) (σ : SX), J K D clX A 5 (wX ad cA) (jx_Qi K D clX (tysX cA) (wX ad cA) A) 0 0 19 [(0, .ref (ad 0)), (1, .int v1)] [] σ (k19 v1 σ)) : ∀ (v1 : Int32) (v2 : Int32) (v3 : Int32) (σ : SX), J K D clX A 5 (wX ad cA) (jx_Qi K D clX (tysX cA) (wX ad cA) A) 0 0 97 [(0, .ref (ad 0)), (1, .int v1), (2, .int v2), (3, .int v3)] [] σ (X_I_resolve_b97 N k19 v1 v2 v3 σ) := by
  intro v1 v2 v3 σ
  rw [X_I_resolve_b97]
  refine J_iconst (v := 0) h d_I_resolve_97 (by decide) ?_
  refine J_istore (lv' := [(4, .int 0), (0, .ref (ad 0)), (1, .int v1), (2, .int v2), (3, .int v3)]) h d_I_resolve_98 (by decide) rfl ?_
  refine J_sub [1, 2, 3, 4, 0] rfl ?_
  exact J_X_I_resolve_L100 K D A ad cA N h (X_I_resolve_b177 N k19) (J_X_I_resolve_b177 K D A ad cA N h k19 hk19) N v1 v2 v3 0 σ
def X_I_resolve_L19 (N : Nat) : Nat → Int32 → SX → Option (Int32 × SX)
  | 0, _, _ => none
  | n + 1, v1, σ => (if (12 : Int32) < v1 then (some ((-1), σ)) else (if (gX_I_state σ) = 0 then (bd (X_Resolver_nextGroup N (gX_I_variables σ) σ) (fun (r3 : Int32) (σ4 : SX) => (if r3 = 0 then (some ((gX_I_variables σ4), σ4)) else (X_I_resolve_L58 N (X_I_resolve_b97 N (X_I_resolve_L19 N  n)) N v1 r3 1 0 σ4)))) else (some ((-1), σ))))
set_option maxRecDepth 100000 in
set_option maxHeartbeats 4000000 in
theorem J_X_I_resolve_L19 (K : jx_E) (D : va_G) (A : Nat → Prop) (ad : Nat → Nat) (cA : Nat → ClassId) (N : Nat) (h : jx_ok K D clX (tysX cA) A 5 b_I_resolve y_I_resolve.cls ((Cond.code y_I_resolve b_I_resolve 5 (some .int)) :: tblG) rX_I_resolve (some .int)) : ∀ (n : Nat) (v1 : Int32) (σ : SX), J K D clX A 5 (wX ad cA) (jx_Qi K D clX (tysX cA) (wX ad cA) A) 0 0 19 [(0, .ref (ad 0)), (1, .int v1)] [] σ (X_I_resolve_L19 N n v1 σ) := by
  intro n
  induction n with
  | zero => intro v1 σ; exact J_none
  | succ n ih =>
    intro v1 σ
    rw [X_I_resolve_L19]
    refine J_iload_n (q := 1) h d_I_resolve_19 rfl rfl ?_
    refine J_bipush (v := 12) h d_I_resolve_20 (by decide) ?_
    refine J_icmp_gt (tgt := 189) h d_I_resolve_22 (by decide) ?_ ?_
    · refine J_iconst (v := (-1)) h d_I_resolve_189 (by decide) ?_
      exact J_iret h rfl d_I_resolve_190
    · refine J_aload_n (q := 0) h d_I_resolve_25 rfl rfl ?_
      refine J_getf h 0 (wX_0 ad cA σ) (tb_ups in_I) rfl 9 (by decide) (tb_up q_2_81) rfl d_I_resolve_26 ?_
      refine J_if_ne (tgt := 189) h d_I_resolve_29 (by decide) ?_ ?_
      · refine J_aload_n (q := 0) h d_I_resolve_32 rfl rfl ?_
        refine J_getf h 0 (wX_0 ad cA σ) (tb_ups in_I) rfl 5 (by decide) (tb_up q_2_77) rfl d_I_resolve_33 ?_
        refine J_aload_n (q := 0) h d_I_resolve_36 rfl rfl ?_
        refine J_getf h 0 (wX_0 ad cA σ) (tb_ups in_I) rfl 8 (by decide) (tb_up q_2_80) rfl d_I_resolve_37 ?_
        refine J_callVi (As := [.int (gX_I_variables σ)]) (st := []) (rmc := rX_Resolver_nextGroup) (q0 := 36) h (fun _ _ hf => cX_Resolver_nextGroup (jl K) D ad cA N (gX_I_variables σ) σ _ _ hf) (gd_V q_3_173 q_3_174 q_3_175 q_1_10 q_3_176) rfl ⟨rfl, rfl⟩ dd_Resolver_nextGroup ⟨Nat.le_of_ble_eq_true rfl, Nat.le_of_ble_eq_true rfl⟩ rfl rfl (wX_36 ad cA σ) rfl rfl (Nat.le_of_ble_eq_true rfl) ⟨Nat.zero_le _, Nat.zero_le _⟩ d_I_resolve_40 (fun r3 σ4 => ?_)
        refine J_istore_n (lv' := [(2, .int r3), (0, .ref (ad 0)), (1, .int v1)]) h d_I_resolve_43 rfl (by decide) rfl ?_
        refine J_iload_n (q := 0) h d_I_resolve_44 rfl rfl ?_
        refine J_if_ne (tgt := 53) h d_I_resolve_45 (by decide) ?_ ?_
        · refine J_aload_n (q := 1) h d_I_resolve_48 rfl rfl ?_
          refine J_getf h 0 (wX_0 ad cA σ4) (tb_ups in_I) rfl 8 (by decide) (tb_up q_2_80) rfl d_I_resolve_49 ?_
          exact J_iret h rfl d_I_resolve_52
        · refine J_iconst (v := 1) h d_I_resolve_53 (by decide) ?_
          refine J_istore_n (lv' := [(3, .int 1), (2, .int r3), (0, .ref (ad 0)), (1, .int v1)]) h d_I_resolve_54 rfl (by decide) rfl ?_
          refine J_iconst (v := 0) h d_I_resolve_55 (by decide) ?_
          refine J_istore (lv' := [(4, .int 0), (3, .int 1), (2, .int r3), (0, .ref (ad 0)), (1, .int v1)]) h d_I_resolve_56 (by decide) rfl ?_
          refine J_sub [3, 4, 2, 1, 0] rfl ?_
          exact J_X_I_resolve_L58 K D A ad cA N h (X_I_resolve_b97 N (X_I_resolve_L19 N  n)) (J_X_I_resolve_b97 K D A ad cA N h (X_I_resolve_L19 N  n) ih) N v1 r3 1 0 σ4
      · refine J_iconst (v := (-1)) h d_I_resolve_189 (by decide) ?_
        exact J_iret h rfl d_I_resolve_190
def X_I_resolve (N : Nat)  (σ : SX) : Option (Int32 × SX) := (if (gX_I_state σ) = 0 then (bd (X_Reducer_begin (-1) σ) (fun (r1 : Unit) (σ2 : SX) => (X_I_resolve_L19 N N 0 σ2))) else (some ((-1), σ)))
set_option maxRecDepth 100000 in
set_option maxHeartbeats 4000000 in
theorem J_X_I_resolve (K : jx_E) (D : va_G) (A : Nat → Prop) (ad : Nat → Nat) (cA : Nat → ClassId) (N : Nat) (h : jx_ok K D clX (tysX cA) A 5 b_I_resolve y_I_resolve.cls ((Cond.code y_I_resolve b_I_resolve 5 (some .int)) :: tblG) rX_I_resolve (some .int)) : ∀  (σ : SX), J K D clX A 5 (wX ad cA) (jx_Qi K D clX (tysX cA) (wX ad cA) A) 0 0 0 [(0, .ref (ad 0))] [] σ (X_I_resolve N  σ) := by
  intro  σ
  rw [X_I_resolve]
  refine J_aload_n (q := 0) h d_I_resolve_0 rfl rfl ?_
  refine J_getf h 0 (wX_0 ad cA σ) (tb_ups in_I) rfl 9 (by decide) (tb_up q_2_81) rfl d_I_resolve_1 ?_
  refine J_if_eq (tgt := 9) h d_I_resolve_4 (by decide) ?_ ?_
  · refine J_aload_n (q := 0) h d_I_resolve_9 rfl rfl ?_
    refine J_getf h 0 (wX_0 ad cA σ) (tb_ups in_I) rfl 3 (by decide) (tb_up q_2_75) rfl d_I_resolve_10 ?_
    refine J_iconst (v := (-1)) h d_I_resolve_13 (by decide) ?_
    refine J_callVv (As := [.int (-1)]) (st := []) (rmc := rX_Reducer_begin) (q0 := 29) h (fun _ _ hf => cX_Reducer_begin (jl K) D ad cA (-1) σ _ _ hf) (gd_V q_2_233 q_2_234 q_2_235 q_1_7 q_2_236) rfl ⟨rfl, rfl⟩ dd_Reducer_begin ⟨Nat.le_of_ble_eq_true rfl, Nat.le_of_ble_eq_true rfl⟩ rfl rfl (wX_29 ad cA σ) rfl rfl (Nat.le_of_ble_eq_true rfl) ⟨Nat.zero_le _, Nat.zero_le _⟩ d_I_resolve_14 (fun r1 σ2 => ?_)
    refine J_iconst (v := 0) h d_I_resolve_17 (by decide) ?_
    refine J_istore_n (lv' := [(1, .int 0), (0, .ref (ad 0))]) h d_I_resolve_18 rfl (by decide) rfl ?_
    refine J_sub [1, 0] rfl ?_
    exact J_X_I_resolve_L19 K D A ad cA N h N 0 σ2
  · refine J_iconst (v := (-1)) h d_I_resolve_7 (by decide) ?_
    exact J_iret h rfl d_I_resolve_8
set_option maxRecDepth 100000 in
theorem cX_I_resolve (l : Launch) (D : va_G) (ad : Nat → Nat) (cA : Nat → ClassId) (N : Nat)  (σ : SX) (r : Int32) (σ' : SX) (hf : X_I_resolve N  σ = some (r, σ')) : MetI l y_I_resolve ((Cond.code y_I_resolve b_I_resolve 5 (some .int)) :: tblG) rX_I_resolve D clX (tysX cA) (wX ad cA) [.ref (ad 0)] σ r σ' :=
  jx_metI (by decide) rfl (Nat.le_of_ble_eq_true rfl) (fun K A h => J_X_I_resolve K D A ad cA N h  σ) hf
def rX_I_clear : Room := { frames := 0, cells := 0, slots := 0, locals := 0 }
theorem rm_ok_X_I_clear : rX_I_clear.cells = 0 ∧ rX_I_clear.slots = 0 := ⟨rfl, rfl⟩
def X_I_clear  (σ : SX) : Option (Int32 × SX) := (nm ((gX_Told_size σ)) (fun (y1 : Int32) => (nm (sX_I_variables σ 0) (fun (σ2 : SX) => (nm (sX_Told_size σ2 0) (fun (σ3 : SX) => (nm (sX_Bounds_size σ3 0) (fun (σ4 : SX) => (nm (sX_Holder_held σ4 0) (fun (σ5 : SX) => (nm (sX_Reducer_made σ5 0) (fun (σ6 : SX) => (nm (sX_I_state σ6 0) (fun (σ7 : SX) => (nm (sX_I_stateAt σ7 (-1)) (fun (σ8 : SX) => (some (y1, σ8))))))))))))))))))
set_option maxRecDepth 100000 in
set_option maxHeartbeats 4000000 in
theorem J_X_I_clear (K : jx_E) (D : va_G) (A : Nat → Prop) (ad : Nat → Nat) (cA : Nat → ClassId) (h : jx_ok K D clX (tysX cA) A 2 b_I_clear y_I_clear.cls ((Cond.code y_I_clear b_I_clear 2 (some .int)) :: tblG) rX_I_clear (some .int)) : ∀  (σ : SX), J K D clX A 2 (wX ad cA) (jx_Qi K D clX (tysX cA) (wX ad cA) A) 0 0 0 [(0, .ref (ad 0))] [] σ (X_I_clear  σ) := by
  intro  σ
  rw [X_I_clear]
  refine J_aload_n (q := 0) h d_I_clear_0 rfl rfl ?_
  refine J_getf h 0 (wX_0 ad cA σ) (tb_ups in_I) rfl 6 (by decide) (tb_up q_2_78) rfl d_I_clear_1 ?_
  refine J_getf h 40 (wX_40 ad cA σ) (tb_ups in_Told) rfl 4 (by decide) (tb_up q_2_59) rfl d_I_clear_4 ?_
  refine J_nmi (fun y1 => ?_)
  refine J_istore_n (lv' := [(1, .int y1), (0, .ref (ad 0))]) h d_I_clear_7 rfl (by decide) rfl ?_
  refine J_aload_n (q := 1) h d_I_clear_8 rfl rfl ?_
  refine J_iconst (v := 0) h d_I_clear_9 (by decide) ?_
  refine J_putf h 0 (wX_0 ad cA σ) (tb_ups in_I) rfl ft_I ft_I_ok nm_I 8 (by decide) (tb_up q_2_80) rfl rfl rfl (Nat.le_of_ble_eq_true rfl) (pX_0_8 ad cA σ 0) d_I_clear_10 (fun σ2 => ?_)
  refine J_aload_n (q := 1) h d_I_clear_13 rfl rfl ?_
  refine J_getf h 0 (wX_0 ad cA σ2) (tb_ups in_I) rfl 6 (by decide) (tb_up q_2_78) rfl d_I_clear_14 ?_
  refine J_iconst (v := 0) h d_I_clear_17 (by decide) ?_
  refine J_putf h 40 (wX_40 ad cA σ2) (tb_ups in_Told) rfl ft_Told ft_Told_ok nm_Told 4 (by decide) (tb_up q_2_59) rfl rfl rfl (Nat.le_of_ble_eq_true rfl) (pX_40_4 ad cA σ2 0) d_I_clear_18 (fun σ3 => ?_)
  refine J_aload_n (q := 1) h d_I_clear_21 rfl rfl ?_
  refine J_getf h 0 (wX_0 ad cA σ3) (tb_ups in_I) rfl 2 (by decide) (tb_up q_2_74) rfl d_I_clear_22 ?_
  refine J_iconst (v := 0) h d_I_clear_25 (by decide) ?_
  refine J_putf h 19 (wX_19 ad cA σ3) (tb_ups in_Bounds) rfl ft_Bounds ft_Bounds_ok nm_Bounds 4 (by decide) (tb_up q_1_112) rfl rfl rfl (Nat.le_of_ble_eq_true rfl) (pX_19_4 ad cA σ3 0) d_I_clear_26 (fun σ4 => ?_)
  refine J_aload_n (q := 1) h d_I_clear_29 rfl rfl ?_
  refine J_getf h 0 (wX_0 ad cA σ4) (tb_ups in_I) rfl 4 (by decide) (tb_up q_2_76) rfl d_I_clear_30 ?_
  refine J_iconst (v := 0) h d_I_clear_33 (by decide) ?_
  refine J_putf h 35 (wX_35 ad cA σ4) (tb_ups in_Holder) rfl ft_Holder ft_Holder_ok nm_Holder 6 (by decide) (tb_up q_2_1) rfl rfl rfl (Nat.le_of_ble_eq_true rfl) (pX_35_6 ad cA σ4 0) d_I_clear_34 (fun σ5 => ?_)
  refine J_aload_n (q := 1) h d_I_clear_37 rfl rfl ?_
  refine J_getf h 0 (wX_0 ad cA σ5) (tb_ups in_I) rfl 3 (by decide) (tb_up q_2_75) rfl d_I_clear_38 ?_
  refine J_iconst (v := 0) h d_I_clear_41 (by decide) ?_
  refine J_putf h 29 (wX_29 ad cA σ5) (tb_ups in_Reducer) rfl ft_Reducer ft_Reducer_ok nm_Reducer 5 (by decide) (tb_up q_1_204) rfl rfl rfl (Nat.le_of_ble_eq_true rfl) (pX_29_5 ad cA σ5 0) d_I_clear_42 (fun σ6 => ?_)
  refine J_aload_n (q := 1) h d_I_clear_45 rfl rfl ?_
  refine J_iconst (v := 0) h d_I_clear_46 (by decide) ?_
  refine J_putf h 0 (wX_0 ad cA σ6) (tb_ups in_I) rfl ft_I ft_I_ok nm_I 9 (by decide) (tb_up q_2_81) rfl rfl rfl (Nat.le_of_ble_eq_true rfl) (pX_0_9 ad cA σ6 0) d_I_clear_47 (fun σ7 => ?_)
  refine J_aload_n (q := 1) h d_I_clear_50 rfl rfl ?_
  refine J_iconst (v := (-1)) h d_I_clear_51 (by decide) ?_
  refine J_putf h 0 (wX_0 ad cA σ7) (tb_ups in_I) rfl ft_I ft_I_ok nm_I 10 (by decide) (tb_up q_2_82) rfl rfl rfl (Nat.le_of_ble_eq_true rfl) (pX_0_10 ad cA σ7 (-1)) d_I_clear_52 (fun σ8 => ?_)
  refine J_iload_n (q := 0) h d_I_clear_55 rfl rfl ?_
  exact J_iret h rfl d_I_clear_56
set_option maxRecDepth 100000 in
theorem cX_I_clear (l : Launch) (D : va_G) (ad : Nat → Nat) (cA : Nat → ClassId)  (σ : SX) (r : Int32) (σ' : SX) (hf : X_I_clear  σ = some (r, σ')) : MetI l y_I_clear ((Cond.code y_I_clear b_I_clear 2 (some .int)) :: tblG) rX_I_clear D clX (tysX cA) (wX ad cA) [.ref (ad 0)] σ r σ' :=
  jx_metI (by decide) rfl (Nat.le_of_ble_eq_true rfl) (fun K A h => J_X_I_clear K D A ad cA h  σ) hf
def rX_I_count : Room := { frames := 0, cells := 0, slots := 0, locals := 0 }
theorem rm_ok_X_I_count : rX_I_count.cells = 0 ∧ rX_I_count.slots = 0 := ⟨rfl, rfl⟩
def X_I_count (x1 : Int32) (σ : SX) : Option (Int32 × SX) := (if x1 = 0 then (some ((gX_Classes_size σ), σ)) else (if x1 = 1 then (some ((gX_Types_size σ), σ)) else (if x1 = 2 then (some ((gX_I_variables σ), σ)) else (if x1 = 3 then (some ((gX_Told_size σ), σ)) else (if x1 = 4 then (some ((gX_Bounds_size σ), σ)) else (if x1 = 5 then (some ((gX_I_state σ), σ)) else (if x1 = 6 then (some ((gX_Reducer_made σ), σ)) else (if x1 = 7 then (some ((gX_I_stateAt σ), σ)) else (some ((-2), σ))))))))))
set_option maxRecDepth 100000 in
set_option maxHeartbeats 4000000 in
theorem J_X_I_count (K : jx_E) (D : va_G) (A : Nat → Prop) (ad : Nat → Nat) (cA : Nat → ClassId) (h : jx_ok K D clX (tysX cA) A 2 b_I_count y_I_count.cls ((Cond.code y_I_count b_I_count 2 (some .int)) :: tblG) rX_I_count (some .int)) : ∀ (x1 : Int32) (σ : SX), J K D clX A 2 (wX ad cA) (jx_Qi K D clX (tysX cA) (wX ad cA) A) 0 0 0 [(0, .ref (ad 0)), (1, .int x1)] [] σ (X_I_count x1 σ) := by
  intro x1 σ
  rw [X_I_count]
  refine J_iload_n (q := 1) h d_I_count_0 rfl rfl ?_
  refine J_if (fun c0 => ?_) (fun c0 => ?_)
  · refine J_tblIn (v := 0) (off := 47) (tgt := 48) h c0 d_I_count_1 (by decide) (by decide) (by decide) (by decide) ?_
    refine J_aload_n (q := 0) h d_I_count_48 rfl rfl ?_
    refine J_getf h 0 (wX_0 ad cA σ) (tb_ups in_I) rfl 0 (by decide) (tb_up q_2_72) rfl d_I_count_49 ?_
    refine J_getf h 1 (wX_1 ad cA σ) (tb_ups in_Classes) rfl 5 (by decide) (tb_up q_1_36) rfl d_I_count_52 ?_
    exact J_iret h rfl d_I_count_55
  refine J_if (fun c1 => ?_) (fun c1 => ?_)
  · refine J_tblIn (v := 1) (off := 55) (tgt := 56) h c1 d_I_count_1 (by decide) (by decide) (by decide) (by decide) ?_
    refine J_aload_n (q := 0) h d_I_count_56 rfl rfl ?_
    refine J_getf h 0 (wX_0 ad cA σ) (tb_ups in_I) rfl 1 (by decide) (tb_up q_2_73) rfl d_I_count_57 ?_
    refine J_getf h 7 (wX_7 ad cA σ) (tb_ups in_Types) rfl 11 (by decide) (tb_up q_1_73) rfl d_I_count_60 ?_
    exact J_iret h rfl d_I_count_63
  refine J_if (fun c2 => ?_) (fun c2 => ?_)
  · refine J_tblIn (v := 2) (off := 63) (tgt := 64) h c2 d_I_count_1 (by decide) (by decide) (by decide) (by decide) ?_
    refine J_aload_n (q := 0) h d_I_count_64 rfl rfl ?_
    refine J_getf h 0 (wX_0 ad cA σ) (tb_ups in_I) rfl 8 (by decide) (tb_up q_2_80) rfl d_I_count_65 ?_
    exact J_iret h rfl d_I_count_68
  refine J_if (fun c3 => ?_) (fun c3 => ?_)
  · refine J_tblIn (v := 3) (off := 68) (tgt := 69) h c3 d_I_count_1 (by decide) (by decide) (by decide) (by decide) ?_
    refine J_aload_n (q := 0) h d_I_count_69 rfl rfl ?_
    refine J_getf h 0 (wX_0 ad cA σ) (tb_ups in_I) rfl 6 (by decide) (tb_up q_2_78) rfl d_I_count_70 ?_
    refine J_getf h 40 (wX_40 ad cA σ) (tb_ups in_Told) rfl 4 (by decide) (tb_up q_2_59) rfl d_I_count_73 ?_
    exact J_iret h rfl d_I_count_76
  refine J_if (fun c4 => ?_) (fun c4 => ?_)
  · refine J_tblIn (v := 4) (off := 76) (tgt := 77) h c4 d_I_count_1 (by decide) (by decide) (by decide) (by decide) ?_
    refine J_aload_n (q := 0) h d_I_count_77 rfl rfl ?_
    refine J_getf h 0 (wX_0 ad cA σ) (tb_ups in_I) rfl 2 (by decide) (tb_up q_2_74) rfl d_I_count_78 ?_
    refine J_getf h 19 (wX_19 ad cA σ) (tb_ups in_Bounds) rfl 4 (by decide) (tb_up q_1_112) rfl d_I_count_81 ?_
    exact J_iret h rfl d_I_count_84
  refine J_if (fun c5 => ?_) (fun c5 => ?_)
  · refine J_tblIn (v := 5) (off := 84) (tgt := 85) h c5 d_I_count_1 (by decide) (by decide) (by decide) (by decide) ?_
    refine J_aload_n (q := 0) h d_I_count_85 rfl rfl ?_
    refine J_getf h 0 (wX_0 ad cA σ) (tb_ups in_I) rfl 9 (by decide) (tb_up q_2_81) rfl d_I_count_86 ?_
    exact J_iret h rfl d_I_count_89
  refine J_if (fun c6 => ?_) (fun c6 => ?_)
  · refine J_tblIn (v := 6) (off := 89) (tgt := 90) h c6 d_I_count_1 (by decide) (by decide) (by decide) (by decide) ?_
    refine J_aload_n (q := 0) h d_I_count_90 rfl rfl ?_
    refine J_getf h 0 (wX_0 ad cA σ) (tb_ups in_I) rfl 3 (by decide) (tb_up q_2_75) rfl d_I_count_91 ?_
    refine J_getf h 29 (wX_29 ad cA σ) (tb_ups in_Reducer) rfl 5 (by decide) (tb_up q_1_204) rfl d_I_count_94 ?_
    exact J_iret h rfl d_I_count_97
  refine J_if (fun c7 => ?_) (fun c7 => ?_)
  · refine J_tblIn (v := 7) (off := 97) (tgt := 98) h c7 d_I_count_1 (by decide) (by decide) (by decide) (by decide) ?_
    refine J_aload_n (q := 0) h d_I_count_98 rfl rfl ?_
    refine J_getf h 0 (wX_0 ad cA σ) (tb_ups in_I) rfl 10 (by decide) (tb_up q_2_82) rfl d_I_count_99 ?_
    exact J_iret h rfl d_I_count_102
  refine J_tblOut (tgt := 103) h (by have t0 := lv_neT (a := 0) c0 (by decide); have t1 := lv_neT (a := 1) c1 (by decide); have t2 := lv_neT (a := 2) c2 (by decide); have t3 := lv_neT (a := 3) c3 (by decide); have t4 := lv_neT (a := 4) c4 (by decide); have t5 := lv_neT (a := 5) c5 (by decide); have t6 := lv_neT (a := 6) c6 (by decide); have t7 := lv_neT (a := 7) c7 (by decide); omega) d_I_count_1 (by decide) ?_
  refine J_bipush (v := (-2)) h d_I_count_103 (by decide) ?_
  exact J_iret h rfl d_I_count_105
set_option maxRecDepth 100000 in
theorem cX_I_count (l : Launch) (D : va_G) (ad : Nat → Nat) (cA : Nat → ClassId) (x1 : Int32) (σ : SX) (r : Int32) (σ' : SX) (hf : X_I_count x1 σ = some (r, σ')) : MetI l y_I_count ((Cond.code y_I_count b_I_count 2 (some .int)) :: tblG) rX_I_count D clX (tysX cA) (wX ad cA) [.ref (ad 0), .int x1] σ r σ' :=
  jx_metI (by decide) rfl (Nat.le_of_ble_eq_true rfl) (fun K A h => J_X_I_count K D A ad cA h x1 σ) hf
def rX_I_type : Room := { frames := 1, cells := 0, slots := 0, locals := 21 }
theorem rm_ok_X_I_type : rX_I_type.cells = 0 ∧ rX_I_type.slots = 0 := ⟨rfl, rfl⟩
def X_I_type (x1 : Int32) (x2 : Int32) (σ : SX) : Option (Int32 × SX) := (bd (X_Types_has x1 σ) (fun (r1 : Int32) (σ2 : SX) => (if r1 = 0 then (some ((-2), σ2)) else (if x2 = 0 then (bd (X_Types_kindOf x1 σ2) (fun (r3 : Int32) (σ4 : SX) => (some (r3, σ4)))) else (if x2 = 1 then (bd (X_Types_firstOf x1 σ2) (fun (r5 : Int32) (σ6 : SX) => (some (r5, σ6)))) else (if x2 = 2 then (bd (X_Types_secondOf x1 σ2) (fun (r7 : Int32) (σ8 : SX) => (some (r7, σ8)))) else (if x2 = 3 then (bd (X_Types_thirdOf x1 σ2) (fun (r9 : Int32) (σ10 : SX) => (some (r9, σ10)))) else (if x2 = 4 then (bd (X_Types_depthOf x1 σ2) (fun (r11 : Int32) (σ12 : SX) => (some (r11, σ12)))) else (if x2 = 5 then (bd (X_Types_isProper x1 σ2) (fun (r13 : Int32) (σ14 : SX) => (if r13 = 0 then (some (0, σ14)) else (some (1, σ14))))) else (some ((-2), σ2)))))))))))
set_option maxRecDepth 100000 in
set_option maxHeartbeats 4000000 in
theorem J_X_I_type (K : jx_E) (D : va_G) (A : Nat → Prop) (ad : Nat → Nat) (cA : Nat → ClassId) (h : jx_ok K D clX (tysX cA) A 3 b_I_type y_I_type.cls ((Cond.code y_I_type b_I_type 3 (some .int)) :: tblG) rX_I_type (some .int)) : ∀ (x1 : Int32) (x2 : Int32) (σ : SX), J K D clX A 3 (wX ad cA) (jx_Qi K D clX (tysX cA) (wX ad cA) A) 0 0 0 [(0, .ref (ad 0)), (1, .int x1), (2, .int x2)] [] σ (X_I_type x1 x2 σ) := by
  intro x1 x2 σ
  rw [X_I_type]
  refine J_aload_n (q := 0) h d_I_type_0 rfl rfl ?_
  refine J_getf h 0 (wX_0 ad cA σ) (tb_ups in_I) rfl 1 (by decide) (tb_up q_2_73) rfl d_I_type_1 ?_
  refine J_iload_n (q := 1) h d_I_type_4 rfl rfl ?_
  refine J_callVi (As := [.int x1]) (st := []) (rmc := rX_Types_has) (q0 := 7) h (fun _ _ hf => cX_Types_has (jl K) D ad cA x1 σ _ _ hf) (gd_V q_2_184 q_2_185 q_2_186 q_1_3 q_2_187) rfl ⟨rfl, rfl⟩ dd_Types_has ⟨Nat.le_of_ble_eq_true rfl, Nat.le_of_ble_eq_true rfl⟩ rfl rfl (wX_7 ad cA σ) rfl rfl (Nat.le_of_ble_eq_true rfl) ⟨Nat.zero_le _, Nat.zero_le _⟩ d_I_type_5 (fun r1 σ2 => ?_)
  refine J_if_ne (tgt := 14) h d_I_type_8 (by decide) ?_ ?_
  · refine J_bipush (v := (-2)) h d_I_type_11 (by decide) ?_
    exact J_iret h rfl d_I_type_13
  · refine J_iload_n (q := 2) h d_I_type_14 rfl rfl ?_
    refine J_if (fun c0 => ?_) (fun c0 => ?_)
    · refine J_tblIn (v := 0) (off := 37) (tgt := 52) h c0 d_I_type_15 (by decide) (by decide) (by decide) (by decide) ?_
      refine J_aload_n (q := 0) h d_I_type_52 rfl rfl ?_
      refine J_getf h 0 (wX_0 ad cA σ2) (tb_ups in_I) rfl 1 (by decide) (tb_up q_2_73) rfl d_I_type_53 ?_
      refine J_iload_n (q := 1) h d_I_type_56 rfl rfl ?_
      refine J_callVi (As := [.int x1]) (st := []) (rmc := rX_Types_kindOf) (q0 := 7) h (fun _ _ hf => cX_Types_kindOf (jl K) D ad cA x1 σ2 _ _ hf) (gd_V q_2_126 q_2_127 q_2_128 q_1_3 q_2_129) rfl ⟨rfl, rfl⟩ dd_Types_kindOf ⟨Nat.le_of_ble_eq_true rfl, Nat.le_of_ble_eq_true rfl⟩ rfl rfl (wX_7 ad cA σ2) rfl rfl (Nat.le_of_ble_eq_true rfl) ⟨Nat.zero_le _, Nat.zero_le _⟩ d_I_type_57 (fun r3 σ4 => ?_)
      exact J_iret h rfl d_I_type_60
    refine J_if (fun c1 => ?_) (fun c1 => ?_)
    · refine J_tblIn (v := 1) (off := 46) (tgt := 61) h c1 d_I_type_15 (by decide) (by decide) (by decide) (by decide) ?_
      refine J_aload_n (q := 0) h d_I_type_61 rfl rfl ?_
      refine J_getf h 0 (wX_0 ad cA σ2) (tb_ups in_I) rfl 1 (by decide) (tb_up q_2_73) rfl d_I_type_62 ?_
      refine J_iload_n (q := 1) h d_I_type_65 rfl rfl ?_
      refine J_callVi (As := [.int x1]) (st := []) (rmc := rX_Types_firstOf) (q0 := 7) h (fun _ _ hf => cX_Types_firstOf (jl K) D ad cA x1 σ2 _ _ hf) (gd_V q_2_130 q_2_131 q_2_132 q_1_3 q_2_133) rfl ⟨rfl, rfl⟩ dd_Types_firstOf ⟨Nat.le_of_ble_eq_true rfl, Nat.le_of_ble_eq_true rfl⟩ rfl rfl (wX_7 ad cA σ2) rfl rfl (Nat.le_of_ble_eq_true rfl) ⟨Nat.zero_le _, Nat.zero_le _⟩ d_I_type_66 (fun r5 σ6 => ?_)
      exact J_iret h rfl d_I_type_69
    refine J_if (fun c2 => ?_) (fun c2 => ?_)
    · refine J_tblIn (v := 2) (off := 55) (tgt := 70) h c2 d_I_type_15 (by decide) (by decide) (by decide) (by decide) ?_
      refine J_aload_n (q := 0) h d_I_type_70 rfl rfl ?_
      refine J_getf h 0 (wX_0 ad cA σ2) (tb_ups in_I) rfl 1 (by decide) (tb_up q_2_73) rfl d_I_type_71 ?_
      refine J_iload_n (q := 1) h d_I_type_74 rfl rfl ?_
      refine J_callVi (As := [.int x1]) (st := []) (rmc := rX_Types_secondOf) (q0 := 7) h (fun _ _ hf => cX_Types_secondOf (jl K) D ad cA x1 σ2 _ _ hf) (gd_V q_2_143 q_2_144 q_2_145 q_1_3 q_2_146) rfl ⟨rfl, rfl⟩ dd_Types_secondOf ⟨Nat.le_of_ble_eq_true rfl, Nat.le_of_ble_eq_true rfl⟩ rfl rfl (wX_7 ad cA σ2) rfl rfl (Nat.le_of_ble_eq_true rfl) ⟨Nat.zero_le _, Nat.zero_le _⟩ d_I_type_75 (fun r7 σ8 => ?_)
      exact J_iret h rfl d_I_type_78
    refine J_if (fun c3 => ?_) (fun c3 => ?_)
    · refine J_tblIn (v := 3) (off := 64) (tgt := 79) h c3 d_I_type_15 (by decide) (by decide) (by decide) (by decide) ?_
      refine J_aload_n (q := 0) h d_I_type_79 rfl rfl ?_
      refine J_getf h 0 (wX_0 ad cA σ2) (tb_ups in_I) rfl 1 (by decide) (tb_up q_2_73) rfl d_I_type_80 ?_
      refine J_iload_n (q := 1) h d_I_type_83 rfl rfl ?_
      refine J_callVi (As := [.int x1]) (st := []) (rmc := rX_Types_thirdOf) (q0 := 7) h (fun _ _ hf => cX_Types_thirdOf (jl K) D ad cA x1 σ2 _ _ hf) (gd_V q_2_147 q_2_148 q_2_149 q_1_3 q_2_150) rfl ⟨rfl, rfl⟩ dd_Types_thirdOf ⟨Nat.le_of_ble_eq_true rfl, Nat.le_of_ble_eq_true rfl⟩ rfl rfl (wX_7 ad cA σ2) rfl rfl (Nat.le_of_ble_eq_true rfl) ⟨Nat.zero_le _, Nat.zero_le _⟩ d_I_type_84 (fun r9 σ10 => ?_)
      exact J_iret h rfl d_I_type_87
    refine J_if (fun c4 => ?_) (fun c4 => ?_)
    · refine J_tblIn (v := 4) (off := 73) (tgt := 88) h c4 d_I_type_15 (by decide) (by decide) (by decide) (by decide) ?_
      refine J_aload_n (q := 0) h d_I_type_88 rfl rfl ?_
      refine J_getf h 0 (wX_0 ad cA σ2) (tb_ups in_I) rfl 1 (by decide) (tb_up q_2_73) rfl d_I_type_89 ?_
      refine J_iload_n (q := 1) h d_I_type_92 rfl rfl ?_
      refine J_callVi (As := [.int x1]) (st := []) (rmc := rX_Types_depthOf) (q0 := 7) h (fun _ _ hf => cX_Types_depthOf (jl K) D ad cA x1 σ2 _ _ hf) (gd_V q_4_17 q_4_18 q_4_19 q_1_3 q_4_20) rfl ⟨rfl, rfl⟩ dd_Types_depthOf ⟨Nat.le_of_ble_eq_true rfl, Nat.le_of_ble_eq_true rfl⟩ rfl rfl (wX_7 ad cA σ2) rfl rfl (Nat.le_of_ble_eq_true rfl) ⟨Nat.zero_le _, Nat.zero_le _⟩ d_I_type_93 (fun r11 σ12 => ?_)
      exact J_iret h rfl d_I_type_96
    refine J_if (fun c5 => ?_) (fun c5 => ?_)
    · refine J_tblIn (v := 5) (off := 82) (tgt := 97) h c5 d_I_type_15 (by decide) (by decide) (by decide) (by decide) ?_
      refine J_aload_n (q := 0) h d_I_type_97 rfl rfl ?_
      refine J_getf h 0 (wX_0 ad cA σ2) (tb_ups in_I) rfl 1 (by decide) (tb_up q_2_73) rfl d_I_type_98 ?_
      refine J_iload_n (q := 1) h d_I_type_101 rfl rfl ?_
      refine J_callVi (As := [.int x1]) (st := []) (rmc := rX_Types_isProper) (q0 := 7) h (fun _ _ hf => cX_Types_isProper (jl K) D ad cA x1 σ2 _ _ hf) (gd_V q_4_21 q_3_23 q_3_24 q_1_3 q_3_25) rfl ⟨rfl, rfl⟩ dd_Types_isProper ⟨Nat.le_of_ble_eq_true rfl, Nat.le_of_ble_eq_true rfl⟩ rfl rfl (wX_7 ad cA σ2) rfl rfl (Nat.le_of_ble_eq_true rfl) ⟨Nat.zero_le _, Nat.zero_le _⟩ d_I_type_102 (fun r13 σ14 => ?_)
      refine J_if_eq (tgt := 112) h d_I_type_105 (by decide) ?_ ?_
      · refine J_iconst (v := 0) h d_I_type_112 (by decide) ?_
        exact J_iret h rfl d_I_type_113
      · refine J_iconst (v := 1) h d_I_type_108 (by decide) ?_
        refine J_goto (tgt := 113) h d_I_type_109 (by decide) ?_
        exact J_iret h rfl d_I_type_113
    refine J_tblOut (tgt := 114) h (by have t0 := lv_neT (a := 0) c0 (by decide); have t1 := lv_neT (a := 1) c1 (by decide); have t2 := lv_neT (a := 2) c2 (by decide); have t3 := lv_neT (a := 3) c3 (by decide); have t4 := lv_neT (a := 4) c4 (by decide); have t5 := lv_neT (a := 5) c5 (by decide); omega) d_I_type_15 (by decide) ?_
    refine J_bipush (v := (-2)) h d_I_type_114 (by decide) ?_
    exact J_iret h rfl d_I_type_116
set_option maxRecDepth 100000 in
theorem cX_I_type (l : Launch) (D : va_G) (ad : Nat → Nat) (cA : Nat → ClassId) (x1 : Int32) (x2 : Int32) (σ : SX) (r : Int32) (σ' : SX) (hf : X_I_type x1 x2 σ = some (r, σ')) : MetI l y_I_type ((Cond.code y_I_type b_I_type 3 (some .int)) :: tblG) rX_I_type D clX (tysX cA) (wX ad cA) [.ref (ad 0), .int x1, .int x2] σ r σ' :=
  jx_metI (by decide) rfl (Nat.le_of_ble_eq_true rfl) (fun K A h => J_X_I_type K D A ad cA h x1 x2 σ) hf
def rX_I_bound : Room := { frames := 1, cells := 0, slots := 0, locals := 21 }
theorem rm_ok_X_I_bound : rX_I_bound.cells = 0 ∧ rX_I_bound.slots = 0 := ⟨rfl, rfl⟩
def X_I_bound (x1 : Int32) (x2 : Int32) (σ : SX) : Option (Int32 × SX) := (bd (X_Bounds_has x1 σ) (fun (r1 : Int32) (σ2 : SX) => (if r1 = 0 then (some ((-2), σ2)) else (if x2 = 0 then (bd (X_Bounds_sortOf x1 σ2) (fun (r3 : Int32) (σ4 : SX) => (some (r3, σ4)))) else (if x2 = 1 then (bd (X_Bounds_variableOf x1 σ2) (fun (r5 : Int32) (σ6 : SX) => (some (r5, σ6)))) else (if x2 = 2 then (bd (X_Bounds_typeOf x1 σ2) (fun (r7 : Int32) (σ8 : SX) => (some (r7, σ8)))) else (if x2 = 3 then (bd (X_Bounds_originOf x1 σ2) (fun (r9 : Int32) (σ10 : SX) => (some (r9, σ10)))) else (some ((-2), σ2)))))))))
set_option maxRecDepth 100000 in
set_option maxHeartbeats 4000000 in
theorem J_X_I_bound (K : jx_E) (D : va_G) (A : Nat → Prop) (ad : Nat → Nat) (cA : Nat → ClassId) (h : jx_ok K D clX (tysX cA) A 3 b_I_bound y_I_bound.cls ((Cond.code y_I_bound b_I_bound 3 (some .int)) :: tblG) rX_I_bound (some .int)) : ∀ (x1 : Int32) (x2 : Int32) (σ : SX), J K D clX A 3 (wX ad cA) (jx_Qi K D clX (tysX cA) (wX ad cA) A) 0 0 0 [(0, .ref (ad 0)), (1, .int x1), (2, .int x2)] [] σ (X_I_bound x1 x2 σ) := by
  intro x1 x2 σ
  rw [X_I_bound]
  refine J_aload_n (q := 0) h d_I_bound_0 rfl rfl ?_
  refine J_getf h 0 (wX_0 ad cA σ) (tb_ups in_I) rfl 2 (by decide) (tb_up q_2_74) rfl d_I_bound_1 ?_
  refine J_iload_n (q := 1) h d_I_bound_4 rfl rfl ?_
  refine J_callVi (As := [.int x1]) (st := []) (rmc := rX_Bounds_has) (q0 := 19) h (fun _ _ hf => cX_Bounds_has (jl K) D ad cA x1 σ _ _ hf) (gd_V q_4_26 q_4_27 q_4_28 q_1_5 q_4_29) rfl ⟨rfl, rfl⟩ dd_Bounds_has ⟨Nat.le_of_ble_eq_true rfl, Nat.le_of_ble_eq_true rfl⟩ rfl rfl (wX_19 ad cA σ) rfl rfl (Nat.le_of_ble_eq_true rfl) ⟨Nat.zero_le _, Nat.zero_le _⟩ d_I_bound_5 (fun r1 σ2 => ?_)
  refine J_if_ne (tgt := 14) h d_I_bound_8 (by decide) ?_ ?_
  · refine J_bipush (v := (-2)) h d_I_bound_11 (by decide) ?_
    exact J_iret h rfl d_I_bound_13
  · refine J_iload_n (q := 2) h d_I_bound_14 rfl rfl ?_
    refine J_if (fun c0 => ?_) (fun c0 => ?_)
    · refine J_tblIn (v := 0) (off := 29) (tgt := 44) h c0 d_I_bound_15 (by decide) (by decide) (by decide) (by decide) ?_
      refine J_aload_n (q := 0) h d_I_bound_44 rfl rfl ?_
      refine J_getf h 0 (wX_0 ad cA σ2) (tb_ups in_I) rfl 2 (by decide) (tb_up q_2_74) rfl d_I_bound_45 ?_
      refine J_iload_n (q := 1) h d_I_bound_48 rfl rfl ?_
      refine J_callVi (As := [.int x1]) (st := []) (rmc := rX_Bounds_sortOf) (q0 := 19) h (fun _ _ hf => cX_Bounds_sortOf (jl K) D ad cA x1 σ2 _ _ hf) (gd_V q_4_30 q_3_134 q_3_135 q_1_5 q_3_136) rfl ⟨rfl, rfl⟩ dd_Bounds_sortOf ⟨Nat.le_of_ble_eq_true rfl, Nat.le_of_ble_eq_true rfl⟩ rfl rfl (wX_19 ad cA σ2) rfl rfl (Nat.le_of_ble_eq_true rfl) ⟨Nat.zero_le _, Nat.zero_le _⟩ d_I_bound_49 (fun r3 σ4 => ?_)
      exact J_iret h rfl d_I_bound_52
    refine J_if (fun c1 => ?_) (fun c1 => ?_)
    · refine J_tblIn (v := 1) (off := 38) (tgt := 53) h c1 d_I_bound_15 (by decide) (by decide) (by decide) (by decide) ?_
      refine J_aload_n (q := 0) h d_I_bound_53 rfl rfl ?_
      refine J_getf h 0 (wX_0 ad cA σ2) (tb_ups in_I) rfl 2 (by decide) (tb_up q_2_74) rfl d_I_bound_54 ?_
      refine J_iload_n (q := 1) h d_I_bound_57 rfl rfl ?_
      refine J_callVi (As := [.int x1]) (st := []) (rmc := rX_Bounds_variableOf) (q0 := 19) h (fun _ _ hf => cX_Bounds_variableOf (jl K) D ad cA x1 σ2 _ _ hf) (gd_V q_4_31 q_3_122 q_3_123 q_1_5 q_3_124) rfl ⟨rfl, rfl⟩ dd_Bounds_variableOf ⟨Nat.le_of_ble_eq_true rfl, Nat.le_of_ble_eq_true rfl⟩ rfl rfl (wX_19 ad cA σ2) rfl rfl (Nat.le_of_ble_eq_true rfl) ⟨Nat.zero_le _, Nat.zero_le _⟩ d_I_bound_58 (fun r5 σ6 => ?_)
      exact J_iret h rfl d_I_bound_61
    refine J_if (fun c2 => ?_) (fun c2 => ?_)
    · refine J_tblIn (v := 2) (off := 47) (tgt := 62) h c2 d_I_bound_15 (by decide) (by decide) (by decide) (by decide) ?_
      refine J_aload_n (q := 0) h d_I_bound_62 rfl rfl ?_
      refine J_getf h 0 (wX_0 ad cA σ2) (tb_ups in_I) rfl 2 (by decide) (tb_up q_2_74) rfl d_I_bound_63 ?_
      refine J_iload_n (q := 1) h d_I_bound_66 rfl rfl ?_
      refine J_callVi (As := [.int x1]) (st := []) (rmc := rX_Bounds_typeOf) (q0 := 19) h (fun _ _ hf => cX_Bounds_typeOf (jl K) D ad cA x1 σ2 _ _ hf) (gd_V q_4_32 q_3_130 q_3_131 q_1_5 q_3_132) rfl ⟨rfl, rfl⟩ dd_Bounds_typeOf ⟨Nat.le_of_ble_eq_true rfl, Nat.le_of_ble_eq_true rfl⟩ rfl rfl (wX_19 ad cA σ2) rfl rfl (Nat.le_of_ble_eq_true rfl) ⟨Nat.zero_le _, Nat.zero_le _⟩ d_I_bound_67 (fun r7 σ8 => ?_)
      exact J_iret h rfl d_I_bound_70
    refine J_if (fun c3 => ?_) (fun c3 => ?_)
    · refine J_tblIn (v := 3) (off := 56) (tgt := 71) h c3 d_I_bound_15 (by decide) (by decide) (by decide) (by decide) ?_
      refine J_aload_n (q := 0) h d_I_bound_71 rfl rfl ?_
      refine J_getf h 0 (wX_0 ad cA σ2) (tb_ups in_I) rfl 2 (by decide) (tb_up q_2_74) rfl d_I_bound_72 ?_
      refine J_iload_n (q := 1) h d_I_bound_75 rfl rfl ?_
      refine J_callVi (As := [.int x1]) (st := []) (rmc := rX_Bounds_originOf) (q0 := 19) h (fun _ _ hf => cX_Bounds_originOf (jl K) D ad cA x1 σ2 _ _ hf) (gd_V q_4_33 q_4_34 q_4_35 q_1_5 q_4_36) rfl ⟨rfl, rfl⟩ dd_Bounds_originOf ⟨Nat.le_of_ble_eq_true rfl, Nat.le_of_ble_eq_true rfl⟩ rfl rfl (wX_19 ad cA σ2) rfl rfl (Nat.le_of_ble_eq_true rfl) ⟨Nat.zero_le _, Nat.zero_le _⟩ d_I_bound_76 (fun r9 σ10 => ?_)
      exact J_iret h rfl d_I_bound_79
    refine J_tblOut (tgt := 80) h (by have t0 := lv_neT (a := 0) c0 (by decide); have t1 := lv_neT (a := 1) c1 (by decide); have t2 := lv_neT (a := 2) c2 (by decide); have t3 := lv_neT (a := 3) c3 (by decide); omega) d_I_bound_15 (by decide) ?_
    refine J_bipush (v := (-2)) h d_I_bound_80 (by decide) ?_
    exact J_iret h rfl d_I_bound_82
set_option maxRecDepth 100000 in
theorem cX_I_bound (l : Launch) (D : va_G) (ad : Nat → Nat) (cA : Nat → ClassId) (x1 : Int32) (x2 : Int32) (σ : SX) (r : Int32) (σ' : SX) (hf : X_I_bound x1 x2 σ = some (r, σ')) : MetI l y_I_bound ((Cond.code y_I_bound b_I_bound 3 (some .int)) :: tblG) rX_I_bound D clX (tysX cA) (wX ad cA) [.ref (ad 0), .int x1, .int x2] σ r σ' :=
  jx_metI (by decide) rfl (Nat.le_of_ble_eq_true rfl) (fun K A h => J_X_I_bound K D A ad cA h x1 x2 σ) hf
def rX_I_instance : Room := { frames := 2, cells := 0, slots := 0, locals := 44 }
theorem rm_ok_X_I_instance : rX_I_instance.cells = 0 ∧ rX_I_instance.slots = 0 := ⟨rfl, rfl⟩
def X_I_instance (N : Nat) (x1 : Int32) (σ : SX) : Option (Int32 × SX) := (if x1 < 0 then (some ((-2), σ)) else (if x1 < (gX_I_variables σ) then (bd (X_Bounds_settledAs N x1 σ) (fun (r1 : Int32) (σ2 : SX) => (some (r1, σ2)))) else (some ((-2), σ))))
set_option maxRecDepth 100000 in
set_option maxHeartbeats 4000000 in
theorem J_X_I_instance (K : jx_E) (D : va_G) (A : Nat → Prop) (ad : Nat → Nat) (cA : Nat → ClassId) (N : Nat) (h : jx_ok K D clX (tysX cA) A 2 b_I_instance y_I_instance.cls ((Cond.code y_I_instance b_I_instance 2 (some .int)) :: tblG) rX_I_instance (some .int)) : ∀ (x1 : Int32) (σ : SX), J K D clX A 2 (wX ad cA) (jx_Qi K D clX (tysX cA) (wX ad cA) A) 0 0 0 [(0, .ref (ad 0)), (1, .int x1)] [] σ (X_I_instance N x1 σ) := by
  intro x1 σ
  rw [X_I_instance]
  refine J_iload_n (q := 1) h d_I_instance_0 rfl rfl ?_
  refine J_if_lt (tgt := 12) h d_I_instance_1 (by decide) ?_ ?_
  · refine J_bipush (v := (-2)) h d_I_instance_12 (by decide) ?_
    exact J_iret h rfl d_I_instance_14
  · refine J_iload_n (q := 1) h d_I_instance_4 rfl rfl ?_
    refine J_aload_n (q := 0) h d_I_instance_5 rfl rfl ?_
    refine J_getf h 0 (wX_0 ad cA σ) (tb_ups in_I) rfl 8 (by decide) (tb_up q_2_80) rfl d_I_instance_6 ?_
    refine J_icmp_lt (tgt := 15) h d_I_instance_9 (by decide) ?_ ?_
    · refine J_aload_n (q := 0) h d_I_instance_15 rfl rfl ?_
      refine J_getf h 0 (wX_0 ad cA σ) (tb_ups in_I) rfl 2 (by decide) (tb_up q_2_74) rfl d_I_instance_16 ?_
      refine J_iload_n (q := 1) h d_I_instance_19 rfl rfl ?_
      refine J_aload_n (q := 0) h d_I_instance_20 rfl rfl ?_
      refine J_getf h 0 (wX_0 ad cA σ) (tb_ups in_I) rfl 1 (by decide) (tb_up q_2_73) rfl d_I_instance_21 ?_
      refine J_callVi (As := [.int x1, .ref (ad 7)]) (st := []) (rmc := rX_Bounds_settledAs) (q0 := 19) h (fun _ _ hf => cX_Bounds_settledAs (jl K) D ad cA N x1 σ _ _ hf) (gd_V q_4_41 q_3_178 q_3_179 q_1_5 q_3_180) rfl ⟨rfl, rfl⟩ dd_Bounds_settledAs ⟨Nat.le_of_ble_eq_true rfl, Nat.le_of_ble_eq_true rfl⟩ rfl rfl (wX_19 ad cA σ) rfl rfl (Nat.le_of_ble_eq_true rfl) ⟨Nat.zero_le _, Nat.zero_le _⟩ d_I_instance_24 (fun r1 σ2 => ?_)
      exact J_iret h rfl d_I_instance_27
    · refine J_bipush (v := (-2)) h d_I_instance_12 (by decide) ?_
      exact J_iret h rfl d_I_instance_14
set_option maxRecDepth 100000 in
theorem cX_I_instance (l : Launch) (D : va_G) (ad : Nat → Nat) (cA : Nat → ClassId) (N : Nat) (x1 : Int32) (σ : SX) (r : Int32) (σ' : SX) (hf : X_I_instance N x1 σ = some (r, σ')) : MetI l y_I_instance ((Cond.code y_I_instance b_I_instance 2 (some .int)) :: tblG) rX_I_instance D clX (tysX cA) (wX ad cA) [.ref (ad 0), .int x1] σ r σ' :=
  jx_metI (by decide) rfl (Nat.le_of_ble_eq_true rfl) (fun K A h => J_X_I_instance K D A ad cA N h x1 σ) hf
def rX_I_above : Room := { frames := 25, cells := 0, slots := 0, locals := 751 }
theorem rm_ok_X_I_above : rX_I_above.cells = 0 ∧ rX_I_above.slots = 0 := ⟨rfl, rfl⟩
def X_I_above (N : Nat) (x1 : Int32) (x2 : Int32) (σ : SX) : Option (Int32 × SX) := (bd (X_Types_has x1 σ) (fun (r1 : Int32) (σ2 : SX) => (if r1 = 0 then (some ((-2), σ2)) else (bd (X_Types_kindOf x1 σ2) (fun (r3 : Int32) (σ4 : SX) => (if r3 = 2 then (some ((-2), σ4)) else (bd (X_Classes_has x2 σ4) (fun (r5 : Int32) (σ6 : SX) => (if r5 = 0 then (some ((-2), σ6)) else (bd (X_Reducer_aboveOf N x1 x2 σ6) (fun (r7 : Int32) (σ8 : SX) => (some (r7, σ8)))))))))))))
set_option maxRecDepth 100000 in
set_option maxHeartbeats 4000000 in
theorem J_X_I_above (K : jx_E) (D : va_G) (A : Nat → Prop) (ad : Nat → Nat) (cA : Nat → ClassId) (N : Nat) (h : jx_ok K D clX (tysX cA) A 3 b_I_above y_I_above.cls ((Cond.code y_I_above b_I_above 3 (some .int)) :: tblG) rX_I_above (some .int)) : ∀ (x1 : Int32) (x2 : Int32) (σ : SX), J K D clX A 3 (wX ad cA) (jx_Qi K D clX (tysX cA) (wX ad cA) A) 0 0 0 [(0, .ref (ad 0)), (1, .int x1), (2, .int x2)] [] σ (X_I_above N x1 x2 σ) := by
  intro x1 x2 σ
  rw [X_I_above]
  refine J_aload_n (q := 0) h d_I_above_0 rfl rfl ?_
  refine J_getf h 0 (wX_0 ad cA σ) (tb_ups in_I) rfl 1 (by decide) (tb_up q_2_73) rfl d_I_above_1 ?_
  refine J_iload_n (q := 1) h d_I_above_4 rfl rfl ?_
  refine J_callVi (As := [.int x1]) (st := []) (rmc := rX_Types_has) (q0 := 7) h (fun _ _ hf => cX_Types_has (jl K) D ad cA x1 σ _ _ hf) (gd_V q_2_184 q_2_185 q_2_186 q_1_3 q_2_187) rfl ⟨rfl, rfl⟩ dd_Types_has ⟨Nat.le_of_ble_eq_true rfl, Nat.le_of_ble_eq_true rfl⟩ rfl rfl (wX_7 ad cA σ) rfl rfl (Nat.le_of_ble_eq_true rfl) ⟨Nat.zero_le _, Nat.zero_le _⟩ d_I_above_5 (fun r1 σ2 => ?_)
  refine J_if_eq (tgt := 34) h d_I_above_8 (by decide) ?_ ?_
  · refine J_bipush (v := (-2)) h d_I_above_34 (by decide) ?_
    exact J_iret h rfl d_I_above_36
  · refine J_aload_n (q := 0) h d_I_above_11 rfl rfl ?_
    refine J_getf h 0 (wX_0 ad cA σ2) (tb_ups in_I) rfl 1 (by decide) (tb_up q_2_73) rfl d_I_above_12 ?_
    refine J_iload_n (q := 1) h d_I_above_15 rfl rfl ?_
    refine J_callVi (As := [.int x1]) (st := []) (rmc := rX_Types_kindOf) (q0 := 7) h (fun _ _ hf => cX_Types_kindOf (jl K) D ad cA x1 σ2 _ _ hf) (gd_V q_2_126 q_2_127 q_2_128 q_1_3 q_2_129) rfl ⟨rfl, rfl⟩ dd_Types_kindOf ⟨Nat.le_of_ble_eq_true rfl, Nat.le_of_ble_eq_true rfl⟩ rfl rfl (wX_7 ad cA σ2) rfl rfl (Nat.le_of_ble_eq_true rfl) ⟨Nat.zero_le _, Nat.zero_le _⟩ d_I_above_16 (fun r3 σ4 => ?_)
    refine J_iconst (v := 2) h d_I_above_19 (by decide) ?_
    refine J_icmp_eq (tgt := 34) h d_I_above_20 (by decide) ?_ ?_
    · refine J_bipush (v := (-2)) h d_I_above_34 (by decide) ?_
      exact J_iret h rfl d_I_above_36
    · refine J_aload_n (q := 0) h d_I_above_23 rfl rfl ?_
      refine J_getf h 0 (wX_0 ad cA σ4) (tb_ups in_I) rfl 0 (by decide) (tb_up q_2_72) rfl d_I_above_24 ?_
      refine J_iload_n (q := 2) h d_I_above_27 rfl rfl ?_
      refine J_callVi (As := [.int x2]) (st := []) (rmc := rX_Classes_has) (q0 := 1) h (fun _ _ hf => cX_Classes_has (jl K) D ad cA x2 σ4 _ _ hf) (gd_V q_2_118 q_2_119 q_2_120 q_1_2 q_2_121) rfl ⟨rfl, rfl⟩ dd_Classes_has ⟨Nat.le_of_ble_eq_true rfl, Nat.le_of_ble_eq_true rfl⟩ rfl rfl (wX_1 ad cA σ4) rfl rfl (Nat.le_of_ble_eq_true rfl) ⟨Nat.zero_le _, Nat.zero_le _⟩ d_I_above_28 (fun r5 σ6 => ?_)
      refine J_if_ne (tgt := 37) h d_I_above_31 (by decide) ?_ ?_
      · refine J_bipush (v := (-2)) h d_I_above_34 (by decide) ?_
        exact J_iret h rfl d_I_above_36
      · refine J_aload_n (q := 0) h d_I_above_37 rfl rfl ?_
        refine J_getf h 0 (wX_0 ad cA σ6) (tb_ups in_I) rfl 3 (by decide) (tb_up q_2_75) rfl d_I_above_38 ?_
        refine J_iload_n (q := 1) h d_I_above_41 rfl rfl ?_
        refine J_iload_n (q := 2) h d_I_above_42 rfl rfl ?_
        refine J_callVi (As := [.int x1, .int x2]) (st := []) (rmc := rX_Reducer_aboveOf) (q0 := 29) h (fun _ _ hf => cX_Reducer_aboveOf (jl K) D ad cA N x1 x2 σ6 _ _ hf) (gd_V q_4_46 q_3_47 q_3_48 q_1_7 q_3_49) rfl ⟨rfl, rfl⟩ dd_Reducer_aboveOf ⟨Nat.le_of_ble_eq_true rfl, Nat.le_of_ble_eq_true rfl⟩ rfl rfl (wX_29 ad cA σ6) rfl rfl (Nat.le_of_ble_eq_true rfl) ⟨Nat.zero_le _, Nat.zero_le _⟩ d_I_above_43 (fun r7 σ8 => ?_)
        exact J_iret h rfl d_I_above_46
set_option maxRecDepth 100000 in
theorem cX_I_above (l : Launch) (D : va_G) (ad : Nat → Nat) (cA : Nat → ClassId) (N : Nat) (x1 : Int32) (x2 : Int32) (σ : SX) (r : Int32) (σ' : SX) (hf : X_I_above N x1 x2 σ = some (r, σ')) : MetI l y_I_above ((Cond.code y_I_above b_I_above 3 (some .int)) :: tblG) rX_I_above D clX (tysX cA) (wX ad cA) [.ref (ad 0), .int x1, .int x2] σ r σ' :=
  jx_metI (by decide) rfl (Nat.le_of_ble_eq_true rfl) (fun K A h => J_X_I_above K D A ad cA N h x1 x2 σ) hf
def rX_I_unchecked : Room := { frames := 2, cells := 0, slots := 0, locals := 42 }
theorem rm_ok_X_I_unchecked : rX_I_unchecked.cells = 0 ∧ rX_I_unchecked.slots = 0 := ⟨rfl, rfl⟩
def X_I_unchecked (x1 : Int32) (σ : SX) : Option (Int32 × SX) := (bd (X_Told_has x1 σ) (fun (r1 : Int32) (σ2 : SX) => (if r1 = 0 then (some ((-2), σ2)) else (bd (X_Told_isUnchecked x1 σ2) (fun (r3 : Int32) (σ4 : SX) => (if r3 = 0 then (some (0, σ4)) else (some (1, σ4))))))))
set_option maxRecDepth 100000 in
set_option maxHeartbeats 4000000 in
theorem J_X_I_unchecked (K : jx_E) (D : va_G) (A : Nat → Prop) (ad : Nat → Nat) (cA : Nat → ClassId) (h : jx_ok K D clX (tysX cA) A 2 b_I_unchecked y_I_unchecked.cls ((Cond.code y_I_unchecked b_I_unchecked 2 (some .int)) :: tblG) rX_I_unchecked (some .int)) : ∀ (x1 : Int32) (σ : SX), J K D clX A 2 (wX ad cA) (jx_Qi K D clX (tysX cA) (wX ad cA) A) 0 0 0 [(0, .ref (ad 0)), (1, .int x1)] [] σ (X_I_unchecked x1 σ) := by
  intro x1 σ
  rw [X_I_unchecked]
  refine J_aload_n (q := 0) h d_I_unchecked_0 rfl rfl ?_
  refine J_getf h 0 (wX_0 ad cA σ) (tb_ups in_I) rfl 6 (by decide) (tb_up q_2_78) rfl d_I_unchecked_1 ?_
  refine J_iload_n (q := 1) h d_I_unchecked_4 rfl rfl ?_
  refine J_callVi (As := [.int x1]) (st := []) (rmc := rX_Told_has) (q0 := 40) h (fun _ _ hf => cX_Told_has (jl K) D ad cA x1 σ _ _ hf) (gd_V q_4_51 q_3_162 q_3_163 q_1_11 q_3_164) rfl ⟨rfl, rfl⟩ dd_Told_has ⟨Nat.le_of_ble_eq_true rfl, Nat.le_of_ble_eq_true rfl⟩ rfl rfl (wX_40 ad cA σ) rfl rfl (Nat.le_of_ble_eq_true rfl) ⟨Nat.zero_le _, Nat.zero_le _⟩ d_I_unchecked_5 (fun r1 σ2 => ?_)
  refine J_if_ne (tgt := 14) h d_I_unchecked_8 (by decide) ?_ ?_
  · refine J_bipush (v := (-2)) h d_I_unchecked_11 (by decide) ?_
    exact J_iret h rfl d_I_unchecked_13
  · refine J_aload_n (q := 0) h d_I_unchecked_14 rfl rfl ?_
    refine J_getf h 0 (wX_0 ad cA σ2) (tb_ups in_I) rfl 6 (by decide) (tb_up q_2_78) rfl d_I_unchecked_15 ?_
    refine J_iload_n (q := 1) h d_I_unchecked_18 rfl rfl ?_
    refine J_callVi (As := [.int x1]) (st := []) (rmc := rX_Told_isUnchecked) (q0 := 40) h (fun _ _ hf => cX_Told_isUnchecked (jl K) D ad cA x1 σ2 _ _ hf) (gd_V q_4_52 q_4_53 q_4_54 q_1_11 q_4_55) rfl ⟨rfl, rfl⟩ dd_Told_isUnchecked ⟨Nat.le_of_ble_eq_true rfl, Nat.le_of_ble_eq_true rfl⟩ rfl rfl (wX_40 ad cA σ2) rfl rfl (Nat.le_of_ble_eq_true rfl) ⟨Nat.zero_le _, Nat.zero_le _⟩ d_I_unchecked_19 (fun r3 σ4 => ?_)
    refine J_if_eq (tgt := 29) h d_I_unchecked_22 (by decide) ?_ ?_
    · refine J_iconst (v := 0) h d_I_unchecked_29 (by decide) ?_
      exact J_iret h rfl d_I_unchecked_30
    · refine J_iconst (v := 1) h d_I_unchecked_25 (by decide) ?_
      refine J_goto (tgt := 30) h d_I_unchecked_26 (by decide) ?_
      exact J_iret h rfl d_I_unchecked_30
set_option maxRecDepth 100000 in
theorem cX_I_unchecked (l : Launch) (D : va_G) (ad : Nat → Nat) (cA : Nat → ClassId) (x1 : Int32) (σ : SX) (r : Int32) (σ' : SX) (hf : X_I_unchecked x1 σ = some (r, σ')) : MetI l y_I_unchecked ((Cond.code y_I_unchecked b_I_unchecked 2 (some .int)) :: tblG) rX_I_unchecked D clX (tysX cA) (wX ad cA) [.ref (ad 0), .int x1] σ r σ' :=
  jx_metI (by decide) rfl (Nat.le_of_ble_eq_true rfl) (fun K A h => J_X_I_unchecked K D A ad cA h x1 σ) hf
