def rX_Exchange_forArguments : Room := { frames := 0, cells := 0, slots := 0, locals := 0 }
theorem rm_ok_X_Exchange_forArguments : rX_Exchange_forArguments.cells = 0 ∧ rX_Exchange_forArguments.slots = 0 := ⟨rfl, rfl⟩
def X_Exchange_forArguments (x1 : Int32) (σ : SX) : Option (Unit × SX) := (nm (sX_Exchange_stamp σ ((gX_Exchange_stamp σ) + 1)) (fun (σ1 : SX) => (nm (sX_Exchange_variables σ1 0) (fun (σ2 : SX) => (nm (sX_Exchange_owner σ2 x1) (fun (σ3 : SX) => (some ((), σ3))))))))
set_option maxRecDepth 100000 in
set_option maxHeartbeats 4000000 in
theorem J_X_Exchange_forArguments (K : jx_E) (D : va_G) (A : Nat → Prop) (ad : Nat → Nat) (cA : Nat → ClassId) (h : jx_ok K D clX (tysX cA) A 2 b_Exchange_forArguments y_Exchange_forArguments.cls ((Cond.code y_Exchange_forArguments b_Exchange_forArguments 2 none) :: tblG) rX_Exchange_forArguments none) : ∀ (x1 : Int32) (σ : SX), J K D clX A 2 (wX ad cA) (jx_Qv K D clX (tysX cA) (wX ad cA) A) 0 0 0 [(0, .ref (ad 25)), (1, .int x1)] [] σ (X_Exchange_forArguments x1 σ) := by
  intro x1 σ
  rw [X_Exchange_forArguments]
  refine J_aload_n (q := 0) h d_Exchange_forArguments_0 rfl rfl ?_
  refine J_dup h d_Exchange_forArguments_1 rfl ?_
  refine J_getf h 25 (wX_25 ad cA σ) (tb_ups in_Exchange) rfl 4 (by decide) (tb_up q_1_134) rfl d_Exchange_forArguments_2 ?_
  refine J_iconst (v := 1) h d_Exchange_forArguments_5 (by decide) ?_
  refine J_iadd h d_Exchange_forArguments_6 ?_
  refine J_putf h 25 (wX_25 ad cA σ) (tb_ups in_Exchange) rfl ft_Exchange ft_Exchange_ok nm_Exchange 4 (by decide) (tb_up q_1_134) rfl rfl rfl (Nat.le_of_ble_eq_true rfl) (pX_25_4 ad cA σ ((gX_Exchange_stamp σ) + 1)) d_Exchange_forArguments_7 (fun σ1 => ?_)
  refine J_aload_n (q := 0) h d_Exchange_forArguments_10 rfl rfl ?_
  refine J_iconst (v := 0) h d_Exchange_forArguments_11 (by decide) ?_
  refine J_putf h 25 (wX_25 ad cA σ1) (tb_ups in_Exchange) rfl ft_Exchange ft_Exchange_ok nm_Exchange 5 (by decide) (tb_up q_1_135) rfl rfl rfl (Nat.le_of_ble_eq_true rfl) (pX_25_5 ad cA σ1 0) d_Exchange_forArguments_12 (fun σ2 => ?_)
  refine J_aload_n (q := 0) h d_Exchange_forArguments_15 rfl rfl ?_
  refine J_iload_n (q := 1) h d_Exchange_forArguments_16 rfl rfl ?_
  refine J_putf h 25 (wX_25 ad cA σ2) (tb_ups in_Exchange) rfl ft_Exchange ft_Exchange_ok nm_Exchange 6 (by decide) (tb_up q_1_136) rfl rfl rfl (Nat.le_of_ble_eq_true rfl) (pX_25_6 ad cA σ2 x1) d_Exchange_forArguments_17 (fun σ3 => ?_)
  exact J_vret h rfl d_Exchange_forArguments_20
set_option maxRecDepth 100000 in
theorem cX_Exchange_forArguments (l : Launch) (D : va_G) (ad : Nat → Nat) (cA : Nat → ClassId) (x1 : Int32) (σ : SX) (r : Unit) (σ' : SX) (hf : X_Exchange_forArguments x1 σ = some (r, σ')) : MetV l y_Exchange_forArguments ((Cond.code y_Exchange_forArguments b_Exchange_forArguments 2 none) :: tblG) rX_Exchange_forArguments D clX (tysX cA) (wX ad cA) [.ref (ad 25), .int x1] σ r σ' :=
  jx_metV (by decide) rfl (Nat.le_of_ble_eq_true rfl) (fun K A h => J_X_Exchange_forArguments K D A ad cA h x1 σ) hf
def rX_Types_variablesIn : Room := { frames := 0, cells := 0, slots := 0, locals := 0 }
theorem rm_ok_X_Types_variablesIn : rX_Types_variablesIn.cells = 0 ∧ rX_Types_variablesIn.slots = 0 := ⟨rfl, rfl⟩
def X_Types_variablesIn (x1 : Int32) (σ : SX) : Option (Int32 × SX) := (if x1 < 0 then (some (0, σ)) else (if (gX_Types_size σ) ≤ x1 then (some (0, σ)) else (if ck x1 500 = true then (some ((aX_Types_variables σ x1.toNatClampNeg), σ)) else none)))
set_option maxRecDepth 100000 in
set_option maxHeartbeats 4000000 in
theorem J_X_Types_variablesIn (K : jx_E) (D : va_G) (A : Nat → Prop) (ad : Nat → Nat) (cA : Nat → ClassId) (h : jx_ok K D clX (tysX cA) A 2 b_Types_variablesIn y_Types_variablesIn.cls ((Cond.code y_Types_variablesIn b_Types_variablesIn 2 (some .int)) :: tblG) rX_Types_variablesIn (some .int)) : ∀ (x1 : Int32) (σ : SX), J K D clX A 2 (wX ad cA) (jx_Qi K D clX (tysX cA) (wX ad cA) A) 0 0 0 [(0, .ref (ad 7)), (1, .int x1)] [] σ (X_Types_variablesIn x1 σ) := by
  intro x1 σ
  rw [X_Types_variablesIn]
  refine J_iload_n (q := 1) h d_Types_variablesIn_0 rfl rfl ?_
  refine J_if_lt (tgt := 21) h d_Types_variablesIn_1 (by decide) ?_ ?_
  · refine J_iconst (v := 0) h d_Types_variablesIn_21 (by decide) ?_
    exact J_iret h rfl d_Types_variablesIn_22
  · refine J_iload_n (q := 1) h d_Types_variablesIn_4 rfl rfl ?_
    refine J_aload_n (q := 0) h d_Types_variablesIn_5 rfl rfl ?_
    refine J_getf h 7 (wX_7 ad cA σ) (tb_ups in_Types) rfl 11 (by decide) (tb_up q_1_72) rfl d_Types_variablesIn_6 ?_
    refine J_icmp_ge (tgt := 21) h d_Types_variablesIn_9 (by decide) ?_ ?_
    · refine J_iconst (v := 0) h d_Types_variablesIn_21 (by decide) ?_
      exact J_iret h rfl d_Types_variablesIn_22
    · refine J_aload_n (q := 0) h d_Types_variablesIn_12 rfl rfl ?_
      refine J_getf h 7 (wX_7 ad cA σ) (tb_ups in_Types) rfl 6 (by decide) (tb_up q_1_67) rfl d_Types_variablesIn_13 ?_
      refine J_iload_n (q := 1) h d_Types_variablesIn_16 rfl rfl ?_
      refine J_iald h 14 11 (wX_14 ad cA σ) rfl d_Types_variablesIn_17 ?_
      refine J_goto (tgt := 22) h d_Types_variablesIn_18 (by decide) ?_
      exact J_iret h rfl d_Types_variablesIn_22
set_option maxRecDepth 100000 in
theorem cX_Types_variablesIn (l : Launch) (D : va_G) (ad : Nat → Nat) (cA : Nat → ClassId) (x1 : Int32) (σ : SX) (r : Int32) (σ' : SX) (hf : X_Types_variablesIn x1 σ = some (r, σ')) : MetI l y_Types_variablesIn ((Cond.code y_Types_variablesIn b_Types_variablesIn 2 (some .int)) :: tblG) rX_Types_variablesIn D clX (tysX cA) (wX ad cA) [.ref (ad 7), .int x1] σ r σ' :=
  jx_metI (by decide) rfl (Nat.le_of_ble_eq_true rfl) (fun K A h => J_X_Types_variablesIn K D A ad cA h x1 σ) hf
def rX_Types_ownersIn : Room := { frames := 0, cells := 0, slots := 0, locals := 0 }
theorem rm_ok_X_Types_ownersIn : rX_Types_ownersIn.cells = 0 ∧ rX_Types_ownersIn.slots = 0 := ⟨rfl, rfl⟩
def X_Types_ownersIn (x1 : Int32) (x2 : Int32) (σ : SX) : Option (Int64 × SX) := (if x1 < 0 then (some (0, σ)) else (if x1 < (gX_Types_size σ) then (if (0 : Int32) ≤ x2 then (if ck x1 500 = true then (some (((aX_Types_owners σ x1.toNatClampNeg) &&& (((1 : Int64) <<< (x2.toInt64 &&& 63)) ^^^ (-1))), σ)) else none) else (if ck x1 500 = true then (some ((aX_Types_owners σ x1.toNatClampNeg), σ)) else none)) else (some (0, σ))))
set_option maxRecDepth 100000 in
set_option maxHeartbeats 4000000 in
theorem J_X_Types_ownersIn (K : jx_E) (D : va_G) (A : Nat → Prop) (ad : Nat → Nat) (cA : Nat → ClassId) (h : jx_ok K D clX (tysX cA) A 3 b_Types_ownersIn y_Types_ownersIn.cls ((Cond.code y_Types_ownersIn b_Types_ownersIn 3 (some .long)) :: tblG) rX_Types_ownersIn (some .long)) : ∀ (x1 : Int32) (x2 : Int32) (σ : SX), J K D clX A 3 (wX ad cA) (jx_Ql K D clX (tysX cA) (wX ad cA) A) 0 0 0 [(0, .ref (ad 7)), (1, .int x1), (2, .int x2)] [] σ (X_Types_ownersIn x1 x2 σ) := by
  intro x1 x2 σ
  rw [X_Types_ownersIn]
  refine J_iload_n (q := 1) h d_Types_ownersIn_0 rfl rfl ?_
  refine J_if_lt (tgt := 12) h d_Types_ownersIn_1 (by decide) ?_ ?_
  · refine J_lconst (v := 0) h d_Types_ownersIn_12 (by decide) ?_
    exact J_lret h rfl d_Types_ownersIn_13
  · refine J_iload_n (q := 1) h d_Types_ownersIn_4 rfl rfl ?_
    refine J_aload_n (q := 0) h d_Types_ownersIn_5 rfl rfl ?_
    refine J_getf h 7 (wX_7 ad cA σ) (tb_ups in_Types) rfl 11 (by decide) (tb_up q_1_72) rfl d_Types_ownersIn_6 ?_
    refine J_icmp_lt (tgt := 14) h d_Types_ownersIn_9 (by decide) ?_ ?_
    · refine J_iload_n (q := 2) h d_Types_ownersIn_14 rfl rfl ?_
      refine J_if_ge (tgt := 27) h d_Types_ownersIn_15 (by decide) ?_ ?_
      · refine J_aload_n (q := 0) h d_Types_ownersIn_27 rfl rfl ?_
        refine J_getf h 7 (wX_7 ad cA σ) (tb_ups in_Types) rfl 7 (by decide) (tb_up q_1_68) rfl d_Types_ownersIn_28 ?_
        refine J_iload_n (q := 1) h d_Types_ownersIn_31 rfl rfl ?_
        refine J_lald h 15 12 (wX_15 ad cA σ) rfl d_Types_ownersIn_32 ?_
        refine J_lconst (v := 1) h d_Types_ownersIn_33 (by decide) ?_
        refine J_iload_n (q := 2) h d_Types_ownersIn_34 rfl rfl ?_
        refine J_lshl h d_Types_ownersIn_35 ?_
        refine J_ldc2 (v := (-1)) h d_Types_ownersIn_36 (tb_up q_2_159) ?_
        refine J_lxor h d_Types_ownersIn_39 ?_
        refine J_land h d_Types_ownersIn_40 ?_
        exact J_lret h rfl d_Types_ownersIn_41
      · refine J_aload_n (q := 0) h d_Types_ownersIn_18 rfl rfl ?_
        refine J_getf h 7 (wX_7 ad cA σ) (tb_ups in_Types) rfl 7 (by decide) (tb_up q_1_68) rfl d_Types_ownersIn_19 ?_
        refine J_iload_n (q := 1) h d_Types_ownersIn_22 rfl rfl ?_
        refine J_lald h 15 12 (wX_15 ad cA σ) rfl d_Types_ownersIn_23 ?_
        refine J_goto (tgt := 41) h d_Types_ownersIn_24 (by decide) ?_
        exact J_lret h rfl d_Types_ownersIn_41
    · refine J_lconst (v := 0) h d_Types_ownersIn_12 (by decide) ?_
      exact J_lret h rfl d_Types_ownersIn_13
set_option maxRecDepth 100000 in
theorem cX_Types_ownersIn (l : Launch) (D : va_G) (ad : Nat → Nat) (cA : Nat → ClassId) (x1 : Int32) (x2 : Int32) (σ : SX) (r : Int64) (σ' : SX) (hf : X_Types_ownersIn x1 x2 σ = some (r, σ')) : MetL l y_Types_ownersIn ((Cond.code y_Types_ownersIn b_Types_ownersIn 3 (some .long)) :: tblG) rX_Types_ownersIn D clX (tysX cA) (wX ad cA) [.ref (ad 7), .int x1, .int x2] σ r σ' :=
  jx_metL (by decide) rfl (Nat.le_of_ble_eq_true rfl) (fun K A h => J_X_Types_ownersIn K D A ad cA h x1 x2 σ) hf
def rX_Types_kindOf : Room := { frames := 0, cells := 0, slots := 0, locals := 0 }
theorem rm_ok_X_Types_kindOf : rX_Types_kindOf.cells = 0 ∧ rX_Types_kindOf.slots = 0 := ⟨rfl, rfl⟩
def X_Types_kindOf (x1 : Int32) (σ : SX) : Option (Int32 × SX) := (if x1 < 0 then (some ((-1), σ)) else (if (gX_Types_size σ) ≤ x1 then (some ((-1), σ)) else (if ck x1 500 = true then (some ((aX_Types_kind σ x1.toNatClampNeg), σ)) else none)))
set_option maxRecDepth 100000 in
set_option maxHeartbeats 4000000 in
theorem J_X_Types_kindOf (K : jx_E) (D : va_G) (A : Nat → Prop) (ad : Nat → Nat) (cA : Nat → ClassId) (h : jx_ok K D clX (tysX cA) A 2 b_Types_kindOf y_Types_kindOf.cls ((Cond.code y_Types_kindOf b_Types_kindOf 2 (some .int)) :: tblG) rX_Types_kindOf (some .int)) : ∀ (x1 : Int32) (σ : SX), J K D clX A 2 (wX ad cA) (jx_Qi K D clX (tysX cA) (wX ad cA) A) 0 0 0 [(0, .ref (ad 7)), (1, .int x1)] [] σ (X_Types_kindOf x1 σ) := by
  intro x1 σ
  rw [X_Types_kindOf]
  refine J_iload_n (q := 1) h d_Types_kindOf_0 rfl rfl ?_
  refine J_if_lt (tgt := 21) h d_Types_kindOf_1 (by decide) ?_ ?_
  · refine J_iconst (v := (-1)) h d_Types_kindOf_21 (by decide) ?_
    exact J_iret h rfl d_Types_kindOf_22
  · refine J_iload_n (q := 1) h d_Types_kindOf_4 rfl rfl ?_
    refine J_aload_n (q := 0) h d_Types_kindOf_5 rfl rfl ?_
    refine J_getf h 7 (wX_7 ad cA σ) (tb_ups in_Types) rfl 11 (by decide) (tb_up q_1_72) rfl d_Types_kindOf_6 ?_
    refine J_icmp_ge (tgt := 21) h d_Types_kindOf_9 (by decide) ?_ ?_
    · refine J_iconst (v := (-1)) h d_Types_kindOf_21 (by decide) ?_
      exact J_iret h rfl d_Types_kindOf_22
    · refine J_aload_n (q := 0) h d_Types_kindOf_12 rfl rfl ?_
      refine J_getf h 7 (wX_7 ad cA σ) (tb_ups in_Types) rfl 0 (by decide) (tb_up q_1_61) rfl d_Types_kindOf_13 ?_
      refine J_iload_n (q := 1) h d_Types_kindOf_16 rfl rfl ?_
      refine J_iald h 8 5 (wX_8 ad cA σ) rfl d_Types_kindOf_17 ?_
      refine J_goto (tgt := 22) h d_Types_kindOf_18 (by decide) ?_
      exact J_iret h rfl d_Types_kindOf_22
set_option maxRecDepth 100000 in
theorem cX_Types_kindOf (l : Launch) (D : va_G) (ad : Nat → Nat) (cA : Nat → ClassId) (x1 : Int32) (σ : SX) (r : Int32) (σ' : SX) (hf : X_Types_kindOf x1 σ = some (r, σ')) : MetI l y_Types_kindOf ((Cond.code y_Types_kindOf b_Types_kindOf 2 (some .int)) :: tblG) rX_Types_kindOf D clX (tysX cA) (wX ad cA) [.ref (ad 7), .int x1] σ r σ' :=
  jx_metI (by decide) rfl (Nat.le_of_ble_eq_true rfl) (fun K A h => J_X_Types_kindOf K D A ad cA h x1 σ) hf
def rX_Types_firstOf : Room := { frames := 0, cells := 0, slots := 0, locals := 0 }
theorem rm_ok_X_Types_firstOf : rX_Types_firstOf.cells = 0 ∧ rX_Types_firstOf.slots = 0 := ⟨rfl, rfl⟩
def X_Types_firstOf (x1 : Int32) (σ : SX) : Option (Int32 × SX) := (if x1 < 0 then (some ((-1), σ)) else (if (gX_Types_size σ) ≤ x1 then (some ((-1), σ)) else (if ck x1 500 = true then (some ((aX_Types_first σ x1.toNatClampNeg), σ)) else none)))
set_option maxRecDepth 100000 in
set_option maxHeartbeats 4000000 in
theorem J_X_Types_firstOf (K : jx_E) (D : va_G) (A : Nat → Prop) (ad : Nat → Nat) (cA : Nat → ClassId) (h : jx_ok K D clX (tysX cA) A 2 b_Types_firstOf y_Types_firstOf.cls ((Cond.code y_Types_firstOf b_Types_firstOf 2 (some .int)) :: tblG) rX_Types_firstOf (some .int)) : ∀ (x1 : Int32) (σ : SX), J K D clX A 2 (wX ad cA) (jx_Qi K D clX (tysX cA) (wX ad cA) A) 0 0 0 [(0, .ref (ad 7)), (1, .int x1)] [] σ (X_Types_firstOf x1 σ) := by
  intro x1 σ
  rw [X_Types_firstOf]
  refine J_iload_n (q := 1) h d_Types_firstOf_0 rfl rfl ?_
  refine J_if_lt (tgt := 21) h d_Types_firstOf_1 (by decide) ?_ ?_
  · refine J_iconst (v := (-1)) h d_Types_firstOf_21 (by decide) ?_
    exact J_iret h rfl d_Types_firstOf_22
  · refine J_iload_n (q := 1) h d_Types_firstOf_4 rfl rfl ?_
    refine J_aload_n (q := 0) h d_Types_firstOf_5 rfl rfl ?_
    refine J_getf h 7 (wX_7 ad cA σ) (tb_ups in_Types) rfl 11 (by decide) (tb_up q_1_72) rfl d_Types_firstOf_6 ?_
    refine J_icmp_ge (tgt := 21) h d_Types_firstOf_9 (by decide) ?_ ?_
    · refine J_iconst (v := (-1)) h d_Types_firstOf_21 (by decide) ?_
      exact J_iret h rfl d_Types_firstOf_22
    · refine J_aload_n (q := 0) h d_Types_firstOf_12 rfl rfl ?_
      refine J_getf h 7 (wX_7 ad cA σ) (tb_ups in_Types) rfl 1 (by decide) (tb_up q_1_62) rfl d_Types_firstOf_13 ?_
      refine J_iload_n (q := 1) h d_Types_firstOf_16 rfl rfl ?_
      refine J_iald h 9 6 (wX_9 ad cA σ) rfl d_Types_firstOf_17 ?_
      refine J_goto (tgt := 22) h d_Types_firstOf_18 (by decide) ?_
      exact J_iret h rfl d_Types_firstOf_22
set_option maxRecDepth 100000 in
theorem cX_Types_firstOf (l : Launch) (D : va_G) (ad : Nat → Nat) (cA : Nat → ClassId) (x1 : Int32) (σ : SX) (r : Int32) (σ' : SX) (hf : X_Types_firstOf x1 σ = some (r, σ')) : MetI l y_Types_firstOf ((Cond.code y_Types_firstOf b_Types_firstOf 2 (some .int)) :: tblG) rX_Types_firstOf D clX (tysX cA) (wX ad cA) [.ref (ad 7), .int x1] σ r σ' :=
  jx_metI (by decide) rfl (Nat.le_of_ble_eq_true rfl) (fun K A h => J_X_Types_firstOf K D A ad cA h x1 σ) hf
def rX_Types_secondOf : Room := { frames := 0, cells := 0, slots := 0, locals := 0 }
theorem rm_ok_X_Types_secondOf : rX_Types_secondOf.cells = 0 ∧ rX_Types_secondOf.slots = 0 := ⟨rfl, rfl⟩
def X_Types_secondOf (x1 : Int32) (σ : SX) : Option (Int32 × SX) := (if x1 < 0 then (some ((-1), σ)) else (if (gX_Types_size σ) ≤ x1 then (some ((-1), σ)) else (if ck x1 500 = true then (some ((aX_Types_second σ x1.toNatClampNeg), σ)) else none)))
set_option maxRecDepth 100000 in
set_option maxHeartbeats 4000000 in
theorem J_X_Types_secondOf (K : jx_E) (D : va_G) (A : Nat → Prop) (ad : Nat → Nat) (cA : Nat → ClassId) (h : jx_ok K D clX (tysX cA) A 2 b_Types_secondOf y_Types_secondOf.cls ((Cond.code y_Types_secondOf b_Types_secondOf 2 (some .int)) :: tblG) rX_Types_secondOf (some .int)) : ∀ (x1 : Int32) (σ : SX), J K D clX A 2 (wX ad cA) (jx_Qi K D clX (tysX cA) (wX ad cA) A) 0 0 0 [(0, .ref (ad 7)), (1, .int x1)] [] σ (X_Types_secondOf x1 σ) := by
  intro x1 σ
  rw [X_Types_secondOf]
  refine J_iload_n (q := 1) h d_Types_secondOf_0 rfl rfl ?_
  refine J_if_lt (tgt := 21) h d_Types_secondOf_1 (by decide) ?_ ?_
  · refine J_iconst (v := (-1)) h d_Types_secondOf_21 (by decide) ?_
    exact J_iret h rfl d_Types_secondOf_22
  · refine J_iload_n (q := 1) h d_Types_secondOf_4 rfl rfl ?_
    refine J_aload_n (q := 0) h d_Types_secondOf_5 rfl rfl ?_
    refine J_getf h 7 (wX_7 ad cA σ) (tb_ups in_Types) rfl 11 (by decide) (tb_up q_1_72) rfl d_Types_secondOf_6 ?_
    refine J_icmp_ge (tgt := 21) h d_Types_secondOf_9 (by decide) ?_ ?_
    · refine J_iconst (v := (-1)) h d_Types_secondOf_21 (by decide) ?_
      exact J_iret h rfl d_Types_secondOf_22
    · refine J_aload_n (q := 0) h d_Types_secondOf_12 rfl rfl ?_
      refine J_getf h 7 (wX_7 ad cA σ) (tb_ups in_Types) rfl 2 (by decide) (tb_up q_1_63) rfl d_Types_secondOf_13 ?_
      refine J_iload_n (q := 1) h d_Types_secondOf_16 rfl rfl ?_
      refine J_iald h 10 7 (wX_10 ad cA σ) rfl d_Types_secondOf_17 ?_
      refine J_goto (tgt := 22) h d_Types_secondOf_18 (by decide) ?_
      exact J_iret h rfl d_Types_secondOf_22
set_option maxRecDepth 100000 in
theorem cX_Types_secondOf (l : Launch) (D : va_G) (ad : Nat → Nat) (cA : Nat → ClassId) (x1 : Int32) (σ : SX) (r : Int32) (σ' : SX) (hf : X_Types_secondOf x1 σ = some (r, σ')) : MetI l y_Types_secondOf ((Cond.code y_Types_secondOf b_Types_secondOf 2 (some .int)) :: tblG) rX_Types_secondOf D clX (tysX cA) (wX ad cA) [.ref (ad 7), .int x1] σ r σ' :=
  jx_metI (by decide) rfl (Nat.le_of_ble_eq_true rfl) (fun K A h => J_X_Types_secondOf K D A ad cA h x1 σ) hf
def rX_Types_thirdOf : Room := { frames := 0, cells := 0, slots := 0, locals := 0 }
theorem rm_ok_X_Types_thirdOf : rX_Types_thirdOf.cells = 0 ∧ rX_Types_thirdOf.slots = 0 := ⟨rfl, rfl⟩
def X_Types_thirdOf (x1 : Int32) (σ : SX) : Option (Int32 × SX) := (if x1 < 0 then (some ((-1), σ)) else (if (gX_Types_size σ) ≤ x1 then (some ((-1), σ)) else (if ck x1 500 = true then (some ((aX_Types_third σ x1.toNatClampNeg), σ)) else none)))
set_option maxRecDepth 100000 in
set_option maxHeartbeats 4000000 in
theorem J_X_Types_thirdOf (K : jx_E) (D : va_G) (A : Nat → Prop) (ad : Nat → Nat) (cA : Nat → ClassId) (h : jx_ok K D clX (tysX cA) A 2 b_Types_thirdOf y_Types_thirdOf.cls ((Cond.code y_Types_thirdOf b_Types_thirdOf 2 (some .int)) :: tblG) rX_Types_thirdOf (some .int)) : ∀ (x1 : Int32) (σ : SX), J K D clX A 2 (wX ad cA) (jx_Qi K D clX (tysX cA) (wX ad cA) A) 0 0 0 [(0, .ref (ad 7)), (1, .int x1)] [] σ (X_Types_thirdOf x1 σ) := by
  intro x1 σ
  rw [X_Types_thirdOf]
  refine J_iload_n (q := 1) h d_Types_thirdOf_0 rfl rfl ?_
  refine J_if_lt (tgt := 21) h d_Types_thirdOf_1 (by decide) ?_ ?_
  · refine J_iconst (v := (-1)) h d_Types_thirdOf_21 (by decide) ?_
    exact J_iret h rfl d_Types_thirdOf_22
  · refine J_iload_n (q := 1) h d_Types_thirdOf_4 rfl rfl ?_
    refine J_aload_n (q := 0) h d_Types_thirdOf_5 rfl rfl ?_
    refine J_getf h 7 (wX_7 ad cA σ) (tb_ups in_Types) rfl 11 (by decide) (tb_up q_1_72) rfl d_Types_thirdOf_6 ?_
    refine J_icmp_ge (tgt := 21) h d_Types_thirdOf_9 (by decide) ?_ ?_
    · refine J_iconst (v := (-1)) h d_Types_thirdOf_21 (by decide) ?_
      exact J_iret h rfl d_Types_thirdOf_22
    · refine J_aload_n (q := 0) h d_Types_thirdOf_12 rfl rfl ?_
      refine J_getf h 7 (wX_7 ad cA σ) (tb_ups in_Types) rfl 3 (by decide) (tb_up q_1_64) rfl d_Types_thirdOf_13 ?_
      refine J_iload_n (q := 1) h d_Types_thirdOf_16 rfl rfl ?_
      refine J_iald h 11 8 (wX_11 ad cA σ) rfl d_Types_thirdOf_17 ?_
      refine J_goto (tgt := 22) h d_Types_thirdOf_18 (by decide) ?_
      exact J_iret h rfl d_Types_thirdOf_22
set_option maxRecDepth 100000 in
theorem cX_Types_thirdOf (l : Launch) (D : va_G) (ad : Nat → Nat) (cA : Nat → ClassId) (x1 : Int32) (σ : SX) (r : Int32) (σ' : SX) (hf : X_Types_thirdOf x1 σ = some (r, σ')) : MetI l y_Types_thirdOf ((Cond.code y_Types_thirdOf b_Types_thirdOf 2 (some .int)) :: tblG) rX_Types_thirdOf D clX (tysX cA) (wX ad cA) [.ref (ad 7), .int x1] σ r σ' :=
  jx_metI (by decide) rfl (Nat.le_of_ble_eq_true rfl) (fun K A h => J_X_Types_thirdOf K D A ad cA h x1 σ) hf
def rX_Types_argumentOf : Room := { frames := 0, cells := 0, slots := 0, locals := 0 }
theorem rm_ok_X_Types_argumentOf : rX_Types_argumentOf.cells = 0 ∧ rX_Types_argumentOf.slots = 0 := ⟨rfl, rfl⟩
def X_Types_argumentOf (x1 : Int32) (x2 : Int32) (σ : SX) : Option (Int32 × SX) := (if x1 < 0 then (some ((-1), σ)) else (if x1 < (gX_Types_size σ) then (if x2 = 0 then (if ck x1 500 = true then (some ((aX_Types_second σ x1.toNatClampNeg), σ)) else none) else (if ck x1 500 = true then (some ((aX_Types_third σ x1.toNatClampNeg), σ)) else none)) else (some ((-1), σ))))
set_option maxRecDepth 100000 in
set_option maxHeartbeats 4000000 in
theorem J_X_Types_argumentOf (K : jx_E) (D : va_G) (A : Nat → Prop) (ad : Nat → Nat) (cA : Nat → ClassId) (h : jx_ok K D clX (tysX cA) A 3 b_Types_argumentOf y_Types_argumentOf.cls ((Cond.code y_Types_argumentOf b_Types_argumentOf 3 (some .int)) :: tblG) rX_Types_argumentOf (some .int)) : ∀ (x1 : Int32) (x2 : Int32) (σ : SX), J K D clX A 3 (wX ad cA) (jx_Qi K D clX (tysX cA) (wX ad cA) A) 0 0 0 [(0, .ref (ad 7)), (1, .int x1), (2, .int x2)] [] σ (X_Types_argumentOf x1 x2 σ) := by
  intro x1 x2 σ
  rw [X_Types_argumentOf]
  refine J_iload_n (q := 1) h d_Types_argumentOf_0 rfl rfl ?_
  refine J_if_lt (tgt := 12) h d_Types_argumentOf_1 (by decide) ?_ ?_
  · refine J_iconst (v := (-1)) h d_Types_argumentOf_12 (by decide) ?_
    exact J_iret h rfl d_Types_argumentOf_13
  · refine J_iload_n (q := 1) h d_Types_argumentOf_4 rfl rfl ?_
    refine J_aload_n (q := 0) h d_Types_argumentOf_5 rfl rfl ?_
    refine J_getf h 7 (wX_7 ad cA σ) (tb_ups in_Types) rfl 11 (by decide) (tb_up q_1_72) rfl d_Types_argumentOf_6 ?_
    refine J_icmp_lt (tgt := 14) h d_Types_argumentOf_9 (by decide) ?_ ?_
    · refine J_iload_n (q := 2) h d_Types_argumentOf_14 rfl rfl ?_
      refine J_if_ne (tgt := 27) h d_Types_argumentOf_15 (by decide) ?_ ?_
      · refine J_aload_n (q := 0) h d_Types_argumentOf_18 rfl rfl ?_
        refine J_getf h 7 (wX_7 ad cA σ) (tb_ups in_Types) rfl 2 (by decide) (tb_up q_1_63) rfl d_Types_argumentOf_19 ?_
        refine J_iload_n (q := 1) h d_Types_argumentOf_22 rfl rfl ?_
        refine J_iald h 10 7 (wX_10 ad cA σ) rfl d_Types_argumentOf_23 ?_
        refine J_goto (tgt := 33) h d_Types_argumentOf_24 (by decide) ?_
        exact J_iret h rfl d_Types_argumentOf_33
      · refine J_aload_n (q := 0) h d_Types_argumentOf_27 rfl rfl ?_
        refine J_getf h 7 (wX_7 ad cA σ) (tb_ups in_Types) rfl 3 (by decide) (tb_up q_1_64) rfl d_Types_argumentOf_28 ?_
        refine J_iload_n (q := 1) h d_Types_argumentOf_31 rfl rfl ?_
        refine J_iald h 11 8 (wX_11 ad cA σ) rfl d_Types_argumentOf_32 ?_
        exact J_iret h rfl d_Types_argumentOf_33
    · refine J_iconst (v := (-1)) h d_Types_argumentOf_12 (by decide) ?_
      exact J_iret h rfl d_Types_argumentOf_13
set_option maxRecDepth 100000 in
theorem cX_Types_argumentOf (l : Launch) (D : va_G) (ad : Nat → Nat) (cA : Nat → ClassId) (x1 : Int32) (x2 : Int32) (σ : SX) (r : Int32) (σ' : SX) (hf : X_Types_argumentOf x1 x2 σ = some (r, σ')) : MetI l y_Types_argumentOf ((Cond.code y_Types_argumentOf b_Types_argumentOf 3 (some .int)) :: tblG) rX_Types_argumentOf D clX (tysX cA) (wX ad cA) [.ref (ad 7), .int x1, .int x2] σ r σ' :=
  jx_metI (by decide) rfl (Nat.le_of_ble_eq_true rfl) (fun K A h => J_X_Types_argumentOf K D A ad cA h x1 x2 σ) hf
def rX_Types_make : Room := { frames := 0, cells := 0, slots := 0, locals := 0 }
theorem rm_ok_X_Types_make : rX_Types_make.cells = 0 ∧ rX_Types_make.slots = 0 := ⟨rfl, rfl⟩
def X_Types_make_b104 (N : Nat) (k34 : Int32 → Int32 → Int32 → Int32 → Int32 → Int32 → Int32 → SX → Option (Int32 × SX)) (v1 : Int32) (v2 : Int32) (v3 : Int32) (v4 : Int32) (v5 : Int32) (v6 : Int32) (v7 : Int32) (σ : SX) : Option (Int32 × SX) := (if ck v6 500 = true then (nm ((aX_Types_chainNext σ v6.toNatClampNeg)) (fun (y3 : Int32) => (nm (v7 + 1) (fun (y4 : Int32) => (k34 v1 v2 v3 v4 v5 y3 y4 σ))))) else none)
set_option maxRecDepth 100000 in
set_option maxHeartbeats 4000000 in
theorem J_X_Types_make_b104 (K : jx_E) (D : va_G) (A : Nat → Prop) (ad : Nat → Nat) (cA : Nat → ClassId) (N : Nat) (h : jx_ok K D clX (tysX cA) A 16 b_Types_make y_Types_make.cls ((Cond.code y_Types_make b_Types_make 16 (some .int)) :: tblG) rX_Types_make (some .int)) (k34 : Int32 → Int32 → Int32 → Int32 → Int32 → Int32 → Int32 → SX → Option (Int32 × SX)) (hk34 : ∀ (v1 : Int32) (v2 : Int32) (v3 : Int32) (v4 : Int32) (v5 : Int32) (v6 : Int32) (v7 : Int32) (σ : SX), J K D clX A 16 (wX ad cA) (jx_Qi K D clX (tysX cA) (wX ad cA) A) 0 0 34 [(0, .ref (ad 7)), (1, .int v1), (2, .int v2), (3, .int v3), (4, .int v4), (5, .int v5), (6, .int v6), (7, .int v7)] [] σ (k34 v1 v2 v3 v4 v5 v6 v7 σ)) : ∀ (v1 : Int32) (v2 : Int32) (v3 : Int32) (v4 : Int32) (v5 : Int32) (v6 : Int32) (v7 : Int32) (σ : SX), J K D clX A 16 (wX ad cA) (jx_Qi K D clX (tysX cA) (wX ad cA) A) 0 0 104 [(0, .ref (ad 7)), (1, .int v1), (2, .int v2), (3, .int v3), (4, .int v4), (5, .int v5), (6, .int v6), (7, .int v7)] [] σ (X_Types_make_b104 N k34 v1 v2 v3 v4 v5 v6 v7 σ) := by
  intro v1 v2 v3 v4 v5 v6 v7 σ
  rw [X_Types_make_b104]
  refine J_aload_n (q := 0) h d_Types_make_104 rfl rfl ?_
  refine J_getf h 7 (wX_7 ad cA σ) (tb_ups in_Types) rfl 10 (by decide) (tb_up q_1_71) rfl d_Types_make_105 ?_
  refine J_iload (q := 6) h d_Types_make_108 rfl ?_
  refine J_iald h 18 15 (wX_18 ad cA σ) rfl d_Types_make_110 ?_
  refine J_nmi (fun y3 => ?_)
  refine J_istore (lv' := [(6, .int y3), (0, .ref (ad 7)), (1, .int v1), (2, .int v2), (3, .int v3), (4, .int v4), (5, .int v5), (7, .int v7)]) h d_Types_make_111 (by decide) rfl ?_
  refine J_iinc (q := 7) (c := 1) (lv' := fun y4 => [(7, .int y4), (6, .int y3), (0, .ref (ad 7)), (1, .int v1), (2, .int v2), (3, .int v3), (4, .int v4), (5, .int v5)]) h d_Types_make_113 rfl (by decide) (by decide) (fun _ => rfl) (fun y4 => ?_)
  refine J_goto (tgt := 34) h d_Types_make_116 (by decide) ?_
  refine J_sub [2, 3, 4, 5, 6, 7, 1, 0] rfl ?_
  exact hk34 v1 v2 v3 v4 v5 y3 y4 σ
def X_Types_make_L34 (N : Nat) (k119 : Int32 → Int32 → Int32 → Int32 → Int32 → SX → Option (Int32 × SX)) : Nat → Int32 → Int32 → Int32 → Int32 → Int32 → Int32 → Int32 → SX → Option (Int32 × SX)
  | 0, _, _, _, _, _, _, _, _ => none
  | n + 1, v1, v2, v3, v4, v5, v6, v7, σ => (if (500 : Int32) ≤ v7 then (k119 v1 v2 v3 v4 v5 σ) else (if v6 < 0 then (k119 v1 v2 v3 v4 v5 σ) else (if (gX_Types_size σ) ≤ v6 then (k119 v1 v2 v3 v4 v5 σ) else (if ck v6 500 = true then (if (aX_Types_kind σ v6.toNatClampNeg) = v1 then (if ck v6 500 = true then (if (aX_Types_first σ v6.toNatClampNeg) = v2 then (if ck v6 500 = true then (if (aX_Types_second σ v6.toNatClampNeg) = v3 then (if ck v6 500 = true then (if (aX_Types_third σ v6.toNatClampNeg) = v4 then (some (v6, σ)) else (X_Types_make_b104 N (X_Types_make_L34 N k119 n) v1 v2 v3 v4 v5 v6 v7 σ)) else none) else (X_Types_make_b104 N (X_Types_make_L34 N k119 n) v1 v2 v3 v4 v5 v6 v7 σ)) else none) else (X_Types_make_b104 N (X_Types_make_L34 N k119 n) v1 v2 v3 v4 v5 v6 v7 σ)) else none) else (X_Types_make_b104 N (X_Types_make_L34 N k119 n) v1 v2 v3 v4 v5 v6 v7 σ)) else none))))
set_option maxRecDepth 100000 in
set_option maxHeartbeats 4000000 in
theorem J_X_Types_make_L34 (K : jx_E) (D : va_G) (A : Nat → Prop) (ad : Nat → Nat) (cA : Nat → ClassId) (N : Nat) (h : jx_ok K D clX (tysX cA) A 16 b_Types_make y_Types_make.cls ((Cond.code y_Types_make b_Types_make 16 (some .int)) :: tblG) rX_Types_make (some .int)) (k119 : Int32 → Int32 → Int32 → Int32 → Int32 → SX → Option (Int32 × SX)) (hk119 : ∀ (v1 : Int32) (v2 : Int32) (v3 : Int32) (v4 : Int32) (v5 : Int32) (σ : SX), J K D clX A 16 (wX ad cA) (jx_Qi K D clX (tysX cA) (wX ad cA) A) 0 0 119 [(0, .ref (ad 7)), (1, .int v1), (2, .int v2), (3, .int v3), (4, .int v4), (5, .int v5)] [] σ (k119 v1 v2 v3 v4 v5 σ)) : ∀ (n : Nat) (v1 : Int32) (v2 : Int32) (v3 : Int32) (v4 : Int32) (v5 : Int32) (v6 : Int32) (v7 : Int32) (σ : SX), J K D clX A 16 (wX ad cA) (jx_Qi K D clX (tysX cA) (wX ad cA) A) 0 0 34 [(0, .ref (ad 7)), (1, .int v1), (2, .int v2), (3, .int v3), (4, .int v4), (5, .int v5), (6, .int v6), (7, .int v7)] [] σ (X_Types_make_L34 N k119 n v1 v2 v3 v4 v5 v6 v7 σ) := by
  intro n
  induction n with
  | zero => intro v1 v2 v3 v4 v5 v6 v7 σ; exact J_none
  | succ n ih =>
    intro v1 v2 v3 v4 v5 v6 v7 σ
    rw [X_Types_make_L34]
    refine J_iload (q := 7) h d_Types_make_34 rfl ?_
    refine J_sipush (v := 500) h d_Types_make_36 (by decide) ?_
    refine J_icmp_ge (tgt := 119) h d_Types_make_39 (by decide) ?_ ?_
    · refine J_sub [0, 1, 2, 3, 4, 5] rfl ?_
      exact hk119 v1 v2 v3 v4 v5 σ
    · refine J_iload (q := 6) h d_Types_make_42 rfl ?_
      refine J_if_lt (tgt := 119) h d_Types_make_44 (by decide) ?_ ?_
      · refine J_sub [0, 1, 2, 3, 4, 5] rfl ?_
        exact hk119 v1 v2 v3 v4 v5 σ
      · refine J_iload (q := 6) h d_Types_make_47 rfl ?_
        refine J_aload_n (q := 0) h d_Types_make_49 rfl rfl ?_
        refine J_getf h 7 (wX_7 ad cA σ) (tb_ups in_Types) rfl 11 (by decide) (tb_up q_1_72) rfl d_Types_make_50 ?_
        refine J_icmp_ge (tgt := 119) h d_Types_make_53 (by decide) ?_ ?_
        · refine J_sub [0, 1, 2, 3, 4, 5] rfl ?_
          exact hk119 v1 v2 v3 v4 v5 σ
        · refine J_aload_n (q := 0) h d_Types_make_56 rfl rfl ?_
          refine J_getf h 7 (wX_7 ad cA σ) (tb_ups in_Types) rfl 0 (by decide) (tb_up q_1_61) rfl d_Types_make_57 ?_
          refine J_iload (q := 6) h d_Types_make_60 rfl ?_
          refine J_iald h 8 5 (wX_8 ad cA σ) rfl d_Types_make_62 ?_
          refine J_iload_n (q := 1) h d_Types_make_63 rfl rfl ?_
          refine J_icmp_ne (tgt := 104) h d_Types_make_64 (by decide) ?_ ?_
          · refine J_aload_n (q := 0) h d_Types_make_67 rfl rfl ?_
            refine J_getf h 7 (wX_7 ad cA σ) (tb_ups in_Types) rfl 1 (by decide) (tb_up q_1_62) rfl d_Types_make_68 ?_
            refine J_iload (q := 6) h d_Types_make_71 rfl ?_
            refine J_iald h 9 6 (wX_9 ad cA σ) rfl d_Types_make_73 ?_
            refine J_iload_n (q := 2) h d_Types_make_74 rfl rfl ?_
            refine J_icmp_ne (tgt := 104) h d_Types_make_75 (by decide) ?_ ?_
            · refine J_aload_n (q := 0) h d_Types_make_78 rfl rfl ?_
              refine J_getf h 7 (wX_7 ad cA σ) (tb_ups in_Types) rfl 2 (by decide) (tb_up q_1_63) rfl d_Types_make_79 ?_
              refine J_iload (q := 6) h d_Types_make_82 rfl ?_
              refine J_iald h 10 7 (wX_10 ad cA σ) rfl d_Types_make_84 ?_
              refine J_iload_n (q := 3) h d_Types_make_85 rfl rfl ?_
              refine J_icmp_ne (tgt := 104) h d_Types_make_86 (by decide) ?_ ?_
              · refine J_aload_n (q := 0) h d_Types_make_89 rfl rfl ?_
                refine J_getf h 7 (wX_7 ad cA σ) (tb_ups in_Types) rfl 3 (by decide) (tb_up q_1_64) rfl d_Types_make_90 ?_
                refine J_iload (q := 6) h d_Types_make_93 rfl ?_
                refine J_iald h 11 8 (wX_11 ad cA σ) rfl d_Types_make_95 ?_
                refine J_iload (q := 4) h d_Types_make_96 rfl ?_
                refine J_icmp_ne (tgt := 104) h d_Types_make_98 (by decide) ?_ ?_
                · refine J_iload (q := 6) h d_Types_make_101 rfl ?_
                  exact J_iret h rfl d_Types_make_103
                · exact J_X_Types_make_b104 K D A ad cA N h (X_Types_make_L34 N k119 n) ih v1 v2 v3 v4 v5 v6 v7 σ
              · exact J_X_Types_make_b104 K D A ad cA N h (X_Types_make_L34 N k119 n) ih v1 v2 v3 v4 v5 v6 v7 σ
            · exact J_X_Types_make_b104 K D A ad cA N h (X_Types_make_L34 N k119 n) ih v1 v2 v3 v4 v5 v6 v7 σ
          · exact J_X_Types_make_b104 K D A ad cA N h (X_Types_make_L34 N k119 n) ih v1 v2 v3 v4 v5 v6 v7 σ
def X_Types_make_b327 (N : Nat) (k177 : Int32 → Int32 → Int32 → Int32 → Int32 → Int32 → Int32 → Int32 → Int64 → Int64 → Int32 → SX → Option (Int32 × SX)) (v1 : Int32) (v2 : Int32) (v3 : Int32) (v4 : Int32) (v5 : Int32) (v7 : Int32) (v8 : Int32) (v9 : Int32) (v10 : Int64) (v12 : Int64) (v14 : Int32) (σ : SX) : Option (Int32 × SX) := (nm (v14 + 1) (fun (y6 : Int32) => (k177 v1 v2 v3 v4 v5 v7 v8 v9 v10 v12 y6 σ)))
set_option maxRecDepth 100000 in
set_option maxHeartbeats 4000000 in
theorem J_X_Types_make_b327 (K : jx_E) (D : va_G) (A : Nat → Prop) (ad : Nat → Nat) (cA : Nat → ClassId) (N : Nat) (h : jx_ok K D clX (tysX cA) A 16 b_Types_make y_Types_make.cls ((Cond.code y_Types_make b_Types_make 16 (some .int)) :: tblG) rX_Types_make (some .int)) (k177 : Int32 → Int32 → Int32 → Int32 → Int32 → Int32 → Int32 → Int32 → Int64 → Int64 → Int32 → SX → Option (Int32 × SX)) (hk177 : ∀ (v1 : Int32) (v2 : Int32) (v3 : Int32) (v4 : Int32) (v5 : Int32) (v7 : Int32) (v8 : Int32) (v9 : Int32) (v10 : Int64) (v12 : Int64) (v14 : Int32) (σ : SX), J K D clX A 16 (wX ad cA) (jx_Qi K D clX (tysX cA) (wX ad cA) A) 0 0 177 [(0, .ref (ad 7)), (1, .int v1), (2, .int v2), (3, .int v3), (4, .int v4), (5, .int v5), (7, .int v7), (8, .int v8), (9, .int v9), (10, .long v10), (12, .long v12), (14, .int v14)] [] σ (k177 v1 v2 v3 v4 v5 v7 v8 v9 v10 v12 v14 σ)) : ∀ (v1 : Int32) (v2 : Int32) (v3 : Int32) (v4 : Int32) (v5 : Int32) (v7 : Int32) (v8 : Int32) (v9 : Int32) (v10 : Int64) (v12 : Int64) (v14 : Int32) (σ : SX), J K D clX A 16 (wX ad cA) (jx_Qi K D clX (tysX cA) (wX ad cA) A) 0 0 327 [(0, .ref (ad 7)), (1, .int v1), (2, .int v2), (3, .int v3), (4, .int v4), (5, .int v5), (7, .int v7), (8, .int v8), (9, .int v9), (10, .long v10), (12, .long v12), (14, .int v14)] [] σ (X_Types_make_b327 N k177 v1 v2 v3 v4 v5 v7 v8 v9 v10 v12 v14 σ) := by
  intro v1 v2 v3 v4 v5 v7 v8 v9 v10 v12 v14 σ
  rw [X_Types_make_b327]
  refine J_iinc (q := 11) (c := 1) (lv' := fun y6 => [(14, .int y6), (0, .ref (ad 7)), (1, .int v1), (2, .int v2), (3, .int v3), (4, .int v4), (5, .int v5), (7, .int v7), (8, .int v8), (9, .int v9), (10, .long v10), (12, .long v12)]) h d_Types_make_327 rfl (by decide) (by decide) (fun _ => rfl) (fun y6 => ?_)
  refine J_goto (tgt := 177) h d_Types_make_330 (by decide) ?_
  refine J_sub [1, 2, 3, 4, 5, 6, 7, 8, 9, 10, 11, 0] rfl ?_
  exact hk177 v1 v2 v3 v4 v5 v7 v8 v9 v10 v12 y6 σ
def X_Types_make_b279 (N : Nat) (k177 : Int32 → Int32 → Int32 → Int32 → Int32 → Int32 → Int32 → Int32 → Int64 → Int64 → Int32 → SX → Option (Int32 × SX)) (v1 : Int32) (v2 : Int32) (v3 : Int32) (v4 : Int32) (v5 : Int32) (v7 : Int32) (v8 : Int32) (v9 : Int32) (v10 : Int64) (v12 : Int64) (v14 : Int32) (v15 : Int32) (σ : SX) : Option (Int32 × SX) := (if ck v15 500 = true then (nm ((v8 ||| (aX_Types_kinds σ v15.toNatClampNeg))) (fun (y7 : Int32) => (if ck v15 500 = true then (nm ((v9 ||| (aX_Types_variables σ v15.toNatClampNeg))) (fun (y8 : Int32) => (if ck v15 500 = true then (nm ((v10 ||| (aX_Types_owners σ v15.toNatClampNeg))) (fun (y9 : Int64) => (if ck v15 500 = true then (nm ((v12 ||| (aX_Types_named σ v15.toNatClampNeg))) (fun (y10 : Int64) => (X_Types_make_b327 N k177 v1 v2 v3 v4 v5 v7 y7 y8 y9 y10 v14 σ))) else none))) else none))) else none))) else none)
set_option maxRecDepth 100000 in
set_option maxHeartbeats 4000000 in
theorem J_X_Types_make_b279 (K : jx_E) (D : va_G) (A : Nat → Prop) (ad : Nat → Nat) (cA : Nat → ClassId) (N : Nat) (h : jx_ok K D clX (tysX cA) A 16 b_Types_make y_Types_make.cls ((Cond.code y_Types_make b_Types_make 16 (some .int)) :: tblG) rX_Types_make (some .int)) (k177 : Int32 → Int32 → Int32 → Int32 → Int32 → Int32 → Int32 → Int32 → Int64 → Int64 → Int32 → SX → Option (Int32 × SX)) (hk177 : ∀ (v1 : Int32) (v2 : Int32) (v3 : Int32) (v4 : Int32) (v5 : Int32) (v7 : Int32) (v8 : Int32) (v9 : Int32) (v10 : Int64) (v12 : Int64) (v14 : Int32) (σ : SX), J K D clX A 16 (wX ad cA) (jx_Qi K D clX (tysX cA) (wX ad cA) A) 0 0 177 [(0, .ref (ad 7)), (1, .int v1), (2, .int v2), (3, .int v3), (4, .int v4), (5, .int v5), (7, .int v7), (8, .int v8), (9, .int v9), (10, .long v10), (12, .long v12), (14, .int v14)] [] σ (k177 v1 v2 v3 v4 v5 v7 v8 v9 v10 v12 v14 σ)) : ∀ (v1 : Int32) (v2 : Int32) (v3 : Int32) (v4 : Int32) (v5 : Int32) (v7 : Int32) (v8 : Int32) (v9 : Int32) (v10 : Int64) (v12 : Int64) (v14 : Int32) (v15 : Int32) (σ : SX), J K D clX A 16 (wX ad cA) (jx_Qi K D clX (tysX cA) (wX ad cA) A) 0 0 279 [(0, .ref (ad 7)), (1, .int v1), (2, .int v2), (3, .int v3), (4, .int v4), (5, .int v5), (7, .int v7), (8, .int v8), (9, .int v9), (10, .long v10), (12, .long v12), (14, .int v14), (15, .int v15)] [] σ (X_Types_make_b279 N k177 v1 v2 v3 v4 v5 v7 v8 v9 v10 v12 v14 v15 σ) := by
  intro v1 v2 v3 v4 v5 v7 v8 v9 v10 v12 v14 v15 σ
  rw [X_Types_make_b279]
  refine J_iload (q := 7) h d_Types_make_279 rfl ?_
  refine J_aload_n (q := 0) h d_Types_make_281 rfl rfl ?_
  refine J_getf h 7 (wX_7 ad cA σ) (tb_ups in_Types) rfl 5 (by decide) (tb_up q_1_66) rfl d_Types_make_282 ?_
  refine J_iload (q := 12) h d_Types_make_285 rfl ?_
  refine J_iald h 13 10 (wX_13 ad cA σ) rfl d_Types_make_287 ?_
  refine J_ior h d_Types_make_288 ?_
  refine J_nmi (fun y7 => ?_)
  refine J_istore (lv' := [(8, .int y7), (0, .ref (ad 7)), (1, .int v1), (2, .int v2), (3, .int v3), (4, .int v4), (5, .int v5), (7, .int v7), (9, .int v9), (10, .long v10), (12, .long v12), (14, .int v14), (15, .int v15)]) h d_Types_make_289 (by decide) rfl ?_
  refine J_iload (q := 8) h d_Types_make_291 rfl ?_
  refine J_aload_n (q := 1) h d_Types_make_293 rfl rfl ?_
  refine J_getf h 7 (wX_7 ad cA σ) (tb_ups in_Types) rfl 6 (by decide) (tb_up q_1_67) rfl d_Types_make_294 ?_
  refine J_iload (q := 12) h d_Types_make_297 rfl ?_
  refine J_iald h 14 11 (wX_14 ad cA σ) rfl d_Types_make_299 ?_
  refine J_ior h d_Types_make_300 ?_
  refine J_nmi (fun y8 => ?_)
  refine J_istore (lv' := [(9, .int y8), (8, .int y7), (0, .ref (ad 7)), (1, .int v1), (2, .int v2), (3, .int v3), (4, .int v4), (5, .int v5), (7, .int v7), (10, .long v10), (12, .long v12), (14, .int v14), (15, .int v15)]) h d_Types_make_301 (by decide) rfl ?_
  refine J_lload (q := 9) h d_Types_make_303 rfl ?_
  refine J_aload_n (q := 2) h d_Types_make_305 rfl rfl ?_
  refine J_getf h 7 (wX_7 ad cA σ) (tb_ups in_Types) rfl 7 (by decide) (tb_up q_1_68) rfl d_Types_make_306 ?_
  refine J_iload (q := 12) h d_Types_make_309 rfl ?_
  refine J_lald h 15 12 (wX_15 ad cA σ) rfl d_Types_make_311 ?_
  refine J_lor h d_Types_make_312 ?_
  refine J_nml (fun y9 => ?_)
  refine J_lstore (lv' := [(10, .long y9), (9, .int y8), (8, .int y7), (0, .ref (ad 7)), (1, .int v1), (2, .int v2), (3, .int v3), (4, .int v4), (5, .int v5), (7, .int v7), (12, .long v12), (14, .int v14), (15, .int v15)]) h d_Types_make_313 (by decide) rfl ?_
  refine J_lload (q := 10) h d_Types_make_315 rfl ?_
  refine J_aload_n (q := 3) h d_Types_make_317 rfl rfl ?_
  refine J_getf h 7 (wX_7 ad cA σ) (tb_ups in_Types) rfl 8 (by decide) (tb_up q_1_69) rfl d_Types_make_318 ?_
  refine J_iload (q := 12) h d_Types_make_321 rfl ?_
  refine J_lald h 16 13 (wX_16 ad cA σ) rfl d_Types_make_323 ?_
  refine J_lor h d_Types_make_324 ?_
  refine J_nml (fun y10 => ?_)
  refine J_lstore (lv' := [(12, .long y10), (10, .long y9), (9, .int y8), (8, .int y7), (0, .ref (ad 7)), (1, .int v1), (2, .int v2), (3, .int v3), (4, .int v4), (5, .int v5), (7, .int v7), (14, .int v14), (15, .int v15)]) h d_Types_make_325 (by decide) rfl ?_
  refine J_sub [4, 5, 6, 7, 8, 9, 10, 3, 2, 1, 0, 11] rfl ?_
  exact J_X_Types_make_b327 K D A ad cA N h k177 hk177 v1 v2 v3 v4 v5 v7 y7 y8 y9 y10 v14 σ
def X_Types_make_b239 (N : Nat) (k177 : Int32 → Int32 → Int32 → Int32 → Int32 → Int32 → Int32 → Int32 → Int64 → Int64 → Int32 → SX → Option (Int32 × SX)) (v1 : Int32) (v2 : Int32) (v3 : Int32) (v4 : Int32) (v5 : Int32) (v7 : Int32) (v8 : Int32) (v9 : Int32) (v10 : Int64) (v12 : Int64) (v14 : Int32) (v15 : Int32) (σ : SX) : Option (Int32 × SX) := (if v15 < 0 then (X_Types_make_b327 N k177 v1 v2 v3 v4 v5 v7 v8 v9 v10 v12 v14 σ) else (if v15 < (gX_Types_size σ) then (if ck v15 500 = true then (if (aX_Types_depth σ v15.toNatClampNeg) < v7 then (X_Types_make_b279 N k177 v1 v2 v3 v4 v5 v7 v8 v9 v10 v12 v14 v15 σ) else (if ck v15 500 = true then (nm (((aX_Types_depth σ v15.toNatClampNeg) + 1)) (fun (y11 : Int32) => (X_Types_make_b279 N k177 v1 v2 v3 v4 v5 y11 v8 v9 v10 v12 v14 v15 σ))) else none)) else none) else (X_Types_make_b327 N k177 v1 v2 v3 v4 v5 v7 v8 v9 v10 v12 v14 σ)))
set_option maxRecDepth 100000 in
set_option maxHeartbeats 4000000 in
theorem J_X_Types_make_b239 (K : jx_E) (D : va_G) (A : Nat → Prop) (ad : Nat → Nat) (cA : Nat → ClassId) (N : Nat) (h : jx_ok K D clX (tysX cA) A 16 b_Types_make y_Types_make.cls ((Cond.code y_Types_make b_Types_make 16 (some .int)) :: tblG) rX_Types_make (some .int)) (k177 : Int32 → Int32 → Int32 → Int32 → Int32 → Int32 → Int32 → Int32 → Int64 → Int64 → Int32 → SX → Option (Int32 × SX)) (hk177 : ∀ (v1 : Int32) (v2 : Int32) (v3 : Int32) (v4 : Int32) (v5 : Int32) (v7 : Int32) (v8 : Int32) (v9 : Int32) (v10 : Int64) (v12 : Int64) (v14 : Int32) (σ : SX), J K D clX A 16 (wX ad cA) (jx_Qi K D clX (tysX cA) (wX ad cA) A) 0 0 177 [(0, .ref (ad 7)), (1, .int v1), (2, .int v2), (3, .int v3), (4, .int v4), (5, .int v5), (7, .int v7), (8, .int v8), (9, .int v9), (10, .long v10), (12, .long v12), (14, .int v14)] [] σ (k177 v1 v2 v3 v4 v5 v7 v8 v9 v10 v12 v14 σ)) : ∀ (v1 : Int32) (v2 : Int32) (v3 : Int32) (v4 : Int32) (v5 : Int32) (v7 : Int32) (v8 : Int32) (v9 : Int32) (v10 : Int64) (v12 : Int64) (v14 : Int32) (v15 : Int32) (σ : SX), J K D clX A 16 (wX ad cA) (jx_Qi K D clX (tysX cA) (wX ad cA) A) 0 0 239 [(0, .ref (ad 7)), (1, .int v1), (2, .int v2), (3, .int v3), (4, .int v4), (5, .int v5), (7, .int v7), (8, .int v8), (9, .int v9), (10, .long v10), (12, .long v12), (14, .int v14), (15, .int v15)] [] σ (X_Types_make_b239 N k177 v1 v2 v3 v4 v5 v7 v8 v9 v10 v12 v14 v15 σ) := by
  intro v1 v2 v3 v4 v5 v7 v8 v9 v10 v12 v14 v15 σ
  rw [X_Types_make_b239]
  refine J_iload (q := 12) h d_Types_make_239 rfl ?_
  refine J_if_lt (tgt := 327) h d_Types_make_241 (by decide) ?_ ?_
  · refine J_sub [0, 1, 2, 3, 4, 5, 6, 7, 8, 9, 10, 11] rfl ?_
    exact J_X_Types_make_b327 K D A ad cA N h k177 hk177 v1 v2 v3 v4 v5 v7 v8 v9 v10 v12 v14 σ
  · refine J_iload (q := 12) h d_Types_make_244 rfl ?_
    refine J_aload_n (q := 0) h d_Types_make_246 rfl rfl ?_
    refine J_getf h 7 (wX_7 ad cA σ) (tb_ups in_Types) rfl 11 (by decide) (tb_up q_1_72) rfl d_Types_make_247 ?_
    refine J_icmp_lt (tgt := 256) h d_Types_make_250 (by decide) ?_ ?_
    · refine J_iload (q := 6) h d_Types_make_256 rfl ?_
      refine J_aload_n (q := 0) h d_Types_make_258 rfl rfl ?_
      refine J_getf h 7 (wX_7 ad cA σ) (tb_ups in_Types) rfl 4 (by decide) (tb_up q_1_65) rfl d_Types_make_259 ?_
      refine J_iload (q := 12) h d_Types_make_262 rfl ?_
      refine J_iald h 12 9 (wX_12 ad cA σ) rfl d_Types_make_264 ?_
      refine J_icmp_gt (tgt := 279) h d_Types_make_265 (by decide) ?_ ?_
      · exact J_X_Types_make_b279 K D A ad cA N h k177 hk177 v1 v2 v3 v4 v5 v7 v8 v9 v10 v12 v14 v15 σ
      · refine J_aload_n (q := 0) h d_Types_make_268 rfl rfl ?_
        refine J_getf h 7 (wX_7 ad cA σ) (tb_ups in_Types) rfl 4 (by decide) (tb_up q_1_65) rfl d_Types_make_269 ?_
        refine J_iload (q := 12) h d_Types_make_272 rfl ?_
        refine J_iald h 12 9 (wX_12 ad cA σ) rfl d_Types_make_274 ?_
        refine J_iconst (v := 1) h d_Types_make_275 (by decide) ?_
        refine J_iadd h d_Types_make_276 ?_
        refine J_nmi (fun y11 => ?_)
        refine J_istore (lv' := [(7, .int y11), (0, .ref (ad 7)), (1, .int v1), (2, .int v2), (3, .int v3), (4, .int v4), (5, .int v5), (8, .int v8), (9, .int v9), (10, .long v10), (12, .long v12), (14, .int v14), (15, .int v15)]) h d_Types_make_277 (by decide) rfl ?_
        refine J_sub [1, 2, 3, 4, 5, 6, 0, 7, 8, 9, 10, 11, 12] rfl ?_
        exact J_X_Types_make_b279 K D A ad cA N h k177 hk177 v1 v2 v3 v4 v5 y11 v8 v9 v10 v12 v14 v15 σ
    · refine J_goto (tgt := 327) h d_Types_make_253 (by decide) ?_
      refine J_sub [0, 1, 2, 3, 4, 5, 6, 7, 8, 9, 10, 11] rfl ?_
      exact J_X_Types_make_b327 K D A ad cA N h k177 hk177 v1 v2 v3 v4 v5 v7 v8 v9 v10 v12 v14 σ
def X_Types_make_b224 (N : Nat) (k177 : Int32 → Int32 → Int32 → Int32 → Int32 → Int32 → Int32 → Int32 → Int64 → Int64 → Int32 → SX → Option (Int32 × SX)) (v1 : Int32) (v2 : Int32) (v3 : Int32) (v4 : Int32) (v5 : Int32) (v7 : Int32) (v8 : Int32) (v9 : Int32) (v10 : Int64) (v12 : Int64) (v14 : Int32) (v15 : Int32) (σ : SX) : Option (Int32 × SX) := (if v14 = 2 then (if v1 = 1 then (X_Types_make_b239 N k177 v1 v2 v3 v4 v5 v7 v8 v9 v10 v12 v14 v4 σ) else (X_Types_make_b239 N k177 v1 v2 v3 v4 v5 v7 v8 v9 v10 v12 v14 v15 σ)) else (X_Types_make_b239 N k177 v1 v2 v3 v4 v5 v7 v8 v9 v10 v12 v14 v15 σ))
set_option maxRecDepth 100000 in
set_option maxHeartbeats 4000000 in
theorem J_X_Types_make_b224 (K : jx_E) (D : va_G) (A : Nat → Prop) (ad : Nat → Nat) (cA : Nat → ClassId) (N : Nat) (h : jx_ok K D clX (tysX cA) A 16 b_Types_make y_Types_make.cls ((Cond.code y_Types_make b_Types_make 16 (some .int)) :: tblG) rX_Types_make (some .int)) (k177 : Int32 → Int32 → Int32 → Int32 → Int32 → Int32 → Int32 → Int32 → Int64 → Int64 → Int32 → SX → Option (Int32 × SX)) (hk177 : ∀ (v1 : Int32) (v2 : Int32) (v3 : Int32) (v4 : Int32) (v5 : Int32) (v7 : Int32) (v8 : Int32) (v9 : Int32) (v10 : Int64) (v12 : Int64) (v14 : Int32) (σ : SX), J K D clX A 16 (wX ad cA) (jx_Qi K D clX (tysX cA) (wX ad cA) A) 0 0 177 [(0, .ref (ad 7)), (1, .int v1), (2, .int v2), (3, .int v3), (4, .int v4), (5, .int v5), (7, .int v7), (8, .int v8), (9, .int v9), (10, .long v10), (12, .long v12), (14, .int v14)] [] σ (k177 v1 v2 v3 v4 v5 v7 v8 v9 v10 v12 v14 σ)) : ∀ (v1 : Int32) (v2 : Int32) (v3 : Int32) (v4 : Int32) (v5 : Int32) (v7 : Int32) (v8 : Int32) (v9 : Int32) (v10 : Int64) (v12 : Int64) (v14 : Int32) (v15 : Int32) (σ : SX), J K D clX A 16 (wX ad cA) (jx_Qi K D clX (tysX cA) (wX ad cA) A) 0 0 224 [(0, .ref (ad 7)), (1, .int v1), (2, .int v2), (3, .int v3), (4, .int v4), (5, .int v5), (7, .int v7), (8, .int v8), (9, .int v9), (10, .long v10), (12, .long v12), (14, .int v14), (15, .int v15)] [] σ (X_Types_make_b224 N k177 v1 v2 v3 v4 v5 v7 v8 v9 v10 v12 v14 v15 σ) := by
  intro v1 v2 v3 v4 v5 v7 v8 v9 v10 v12 v14 v15 σ
  rw [X_Types_make_b224]
  refine J_iload (q := 11) h d_Types_make_224 rfl ?_
  refine J_iconst (v := 2) h d_Types_make_226 (by decide) ?_
  refine J_icmp_ne (tgt := 239) h d_Types_make_227 (by decide) ?_ ?_
  · refine J_iload_n (q := 1) h d_Types_make_230 rfl rfl ?_
    refine J_iconst (v := 1) h d_Types_make_231 (by decide) ?_
    refine J_icmp_ne (tgt := 239) h d_Types_make_232 (by decide) ?_ ?_
    · refine J_iload (q := 4) h d_Types_make_235 rfl ?_
      refine J_istore (lv' := [(15, .int v4), (0, .ref (ad 7)), (1, .int v1), (2, .int v2), (3, .int v3), (4, .int v4), (5, .int v5), (7, .int v7), (8, .int v8), (9, .int v9), (10, .long v10), (12, .long v12), (14, .int v14)]) h d_Types_make_237 (by decide) rfl ?_
      refine J_sub [1, 2, 3, 4, 5, 6, 7, 8, 9, 10, 11, 12, 0] rfl ?_
      exact J_X_Types_make_b239 K D A ad cA N h k177 hk177 v1 v2 v3 v4 v5 v7 v8 v9 v10 v12 v14 v4 σ
    · exact J_X_Types_make_b239 K D A ad cA N h k177 hk177 v1 v2 v3 v4 v5 v7 v8 v9 v10 v12 v14 v15 σ
  · exact J_X_Types_make_b239 K D A ad cA N h k177 hk177 v1 v2 v3 v4 v5 v7 v8 v9 v10 v12 v14 v15 σ
def X_Types_make_b221 (N : Nat) (k177 : Int32 → Int32 → Int32 → Int32 → Int32 → Int32 → Int32 → Int32 → Int64 → Int64 → Int32 → SX → Option (Int32 × SX)) (v1 : Int32) (v2 : Int32) (v3 : Int32) (v4 : Int32) (v5 : Int32) (v7 : Int32) (v8 : Int32) (v9 : Int32) (v10 : Int64) (v12 : Int64) (v14 : Int32) (σ : SX) : Option (Int32 × SX) := (X_Types_make_b224 N k177 v1 v2 v3 v4 v5 v7 v8 v9 v10 v12 v14 v3 σ)
set_option maxRecDepth 100000 in
set_option maxHeartbeats 4000000 in
theorem J_X_Types_make_b221 (K : jx_E) (D : va_G) (A : Nat → Prop) (ad : Nat → Nat) (cA : Nat → ClassId) (N : Nat) (h : jx_ok K D clX (tysX cA) A 16 b_Types_make y_Types_make.cls ((Cond.code y_Types_make b_Types_make 16 (some .int)) :: tblG) rX_Types_make (some .int)) (k177 : Int32 → Int32 → Int32 → Int32 → Int32 → Int32 → Int32 → Int32 → Int64 → Int64 → Int32 → SX → Option (Int32 × SX)) (hk177 : ∀ (v1 : Int32) (v2 : Int32) (v3 : Int32) (v4 : Int32) (v5 : Int32) (v7 : Int32) (v8 : Int32) (v9 : Int32) (v10 : Int64) (v12 : Int64) (v14 : Int32) (σ : SX), J K D clX A 16 (wX ad cA) (jx_Qi K D clX (tysX cA) (wX ad cA) A) 0 0 177 [(0, .ref (ad 7)), (1, .int v1), (2, .int v2), (3, .int v3), (4, .int v4), (5, .int v5), (7, .int v7), (8, .int v8), (9, .int v9), (10, .long v10), (12, .long v12), (14, .int v14)] [] σ (k177 v1 v2 v3 v4 v5 v7 v8 v9 v10 v12 v14 σ)) : ∀ (v1 : Int32) (v2 : Int32) (v3 : Int32) (v4 : Int32) (v5 : Int32) (v7 : Int32) (v8 : Int32) (v9 : Int32) (v10 : Int64) (v12 : Int64) (v14 : Int32) (σ : SX), J K D clX A 16 (wX ad cA) (jx_Qi K D clX (tysX cA) (wX ad cA) A) 0 0 221 [(0, .ref (ad 7)), (1, .int v1), (2, .int v2), (3, .int v3), (4, .int v4), (5, .int v5), (7, .int v7), (8, .int v8), (9, .int v9), (10, .long v10), (12, .long v12), (14, .int v14)] [] σ (X_Types_make_b221 N k177 v1 v2 v3 v4 v5 v7 v8 v9 v10 v12 v14 σ) := by
  intro v1 v2 v3 v4 v5 v7 v8 v9 v10 v12 v14 σ
  rw [X_Types_make_b221]
  refine J_iload_n (q := 3) h d_Types_make_221 rfl rfl ?_
  refine J_istore (lv' := [(15, .int v3), (0, .ref (ad 7)), (1, .int v1), (2, .int v2), (3, .int v3), (4, .int v4), (5, .int v5), (7, .int v7), (8, .int v8), (9, .int v9), (10, .long v10), (12, .long v12), (14, .int v14)]) h d_Types_make_222 (by decide) rfl ?_
  refine J_sub [1, 2, 3, 4, 5, 6, 7, 8, 9, 10, 11, 12, 0] rfl ?_
  exact J_X_Types_make_b224 K D A ad cA N h k177 hk177 v1 v2 v3 v4 v5 v7 v8 v9 v10 v12 v14 v3 σ
def X_Types_make_b205 (N : Nat) (k177 : Int32 → Int32 → Int32 → Int32 → Int32 → Int32 → Int32 → Int32 → Int64 → Int64 → Int32 → SX → Option (Int32 × SX)) (v1 : Int32) (v2 : Int32) (v3 : Int32) (v4 : Int32) (v5 : Int32) (v7 : Int32) (v8 : Int32) (v9 : Int32) (v10 : Int64) (v12 : Int64) (v14 : Int32) (v15 : Int32) (σ : SX) : Option (Int32 × SX) := (if v14 = 1 then (if v1 = 1 then (X_Types_make_b221 N k177 v1 v2 v3 v4 v5 v7 v8 v9 v10 v12 v14 σ) else (if v1 = 2 then (X_Types_make_b221 N k177 v1 v2 v3 v4 v5 v7 v8 v9 v10 v12 v14 σ) else (X_Types_make_b224 N k177 v1 v2 v3 v4 v5 v7 v8 v9 v10 v12 v14 v15 σ))) else (X_Types_make_b224 N k177 v1 v2 v3 v4 v5 v7 v8 v9 v10 v12 v14 v15 σ))
set_option maxRecDepth 100000 in
set_option maxHeartbeats 4000000 in
theorem J_X_Types_make_b205 (K : jx_E) (D : va_G) (A : Nat → Prop) (ad : Nat → Nat) (cA : Nat → ClassId) (N : Nat) (h : jx_ok K D clX (tysX cA) A 16 b_Types_make y_Types_make.cls ((Cond.code y_Types_make b_Types_make 16 (some .int)) :: tblG) rX_Types_make (some .int)) (k177 : Int32 → Int32 → Int32 → Int32 → Int32 → Int32 → Int32 → Int32 → Int64 → Int64 → Int32 → SX → Option (Int32 × SX)) (hk177 : ∀ (v1 : Int32) (v2 : Int32) (v3 : Int32) (v4 : Int32) (v5 : Int32) (v7 : Int32) (v8 : Int32) (v9 : Int32) (v10 : Int64) (v12 : Int64) (v14 : Int32) (σ : SX), J K D clX A 16 (wX ad cA) (jx_Qi K D clX (tysX cA) (wX ad cA) A) 0 0 177 [(0, .ref (ad 7)), (1, .int v1), (2, .int v2), (3, .int v3), (4, .int v4), (5, .int v5), (7, .int v7), (8, .int v8), (9, .int v9), (10, .long v10), (12, .long v12), (14, .int v14)] [] σ (k177 v1 v2 v3 v4 v5 v7 v8 v9 v10 v12 v14 σ)) : ∀ (v1 : Int32) (v2 : Int32) (v3 : Int32) (v4 : Int32) (v5 : Int32) (v7 : Int32) (v8 : Int32) (v9 : Int32) (v10 : Int64) (v12 : Int64) (v14 : Int32) (v15 : Int32) (σ : SX), J K D clX A 16 (wX ad cA) (jx_Qi K D clX (tysX cA) (wX ad cA) A) 0 0 205 [(0, .ref (ad 7)), (1, .int v1), (2, .int v2), (3, .int v3), (4, .int v4), (5, .int v5), (7, .int v7), (8, .int v8), (9, .int v9), (10, .long v10), (12, .long v12), (14, .int v14), (15, .int v15)] [] σ (X_Types_make_b205 N k177 v1 v2 v3 v4 v5 v7 v8 v9 v10 v12 v14 v15 σ) := by
  intro v1 v2 v3 v4 v5 v7 v8 v9 v10 v12 v14 v15 σ
  rw [X_Types_make_b205]
  refine J_iload (q := 11) h d_Types_make_205 rfl ?_
  refine J_iconst (v := 1) h d_Types_make_207 (by decide) ?_
  refine J_icmp_ne (tgt := 224) h d_Types_make_208 (by decide) ?_ ?_
  · refine J_iload_n (q := 1) h d_Types_make_211 rfl rfl ?_
    refine J_iconst (v := 1) h d_Types_make_212 (by decide) ?_
    refine J_icmp_eq (tgt := 221) h d_Types_make_213 (by decide) ?_ ?_
    · refine J_sub [0, 1, 2, 3, 4, 5, 6, 7, 8, 9, 10, 11] rfl ?_
      exact J_X_Types_make_b221 K D A ad cA N h k177 hk177 v1 v2 v3 v4 v5 v7 v8 v9 v10 v12 v14 σ
    · refine J_iload_n (q := 1) h d_Types_make_216 rfl rfl ?_
      refine J_iconst (v := 2) h d_Types_make_217 (by decide) ?_
      refine J_icmp_ne (tgt := 224) h d_Types_make_218 (by decide) ?_ ?_
      · refine J_sub [0, 1, 2, 3, 4, 5, 6, 7, 8, 9, 10, 11] rfl ?_
        exact J_X_Types_make_b221 K D A ad cA N h k177 hk177 v1 v2 v3 v4 v5 v7 v8 v9 v10 v12 v14 σ
      · exact J_X_Types_make_b224 K D A ad cA N h k177 hk177 v1 v2 v3 v4 v5 v7 v8 v9 v10 v12 v14 v15 σ
  · exact J_X_Types_make_b224 K D A ad cA N h k177 hk177 v1 v2 v3 v4 v5 v7 v8 v9 v10 v12 v14 v15 σ
def X_Types_make_b202 (N : Nat) (k177 : Int32 → Int32 → Int32 → Int32 → Int32 → Int32 → Int32 → Int32 → Int64 → Int64 → Int32 → SX → Option (Int32 × SX)) (v1 : Int32) (v2 : Int32) (v3 : Int32) (v4 : Int32) (v5 : Int32) (v7 : Int32) (v8 : Int32) (v9 : Int32) (v10 : Int64) (v12 : Int64) (v14 : Int32) (σ : SX) : Option (Int32 × SX) := (X_Types_make_b205 N k177 v1 v2 v3 v4 v5 v7 v8 v9 v10 v12 v14 v2 σ)
set_option maxRecDepth 100000 in
set_option maxHeartbeats 4000000 in
theorem J_X_Types_make_b202 (K : jx_E) (D : va_G) (A : Nat → Prop) (ad : Nat → Nat) (cA : Nat → ClassId) (N : Nat) (h : jx_ok K D clX (tysX cA) A 16 b_Types_make y_Types_make.cls ((Cond.code y_Types_make b_Types_make 16 (some .int)) :: tblG) rX_Types_make (some .int)) (k177 : Int32 → Int32 → Int32 → Int32 → Int32 → Int32 → Int32 → Int32 → Int64 → Int64 → Int32 → SX → Option (Int32 × SX)) (hk177 : ∀ (v1 : Int32) (v2 : Int32) (v3 : Int32) (v4 : Int32) (v5 : Int32) (v7 : Int32) (v8 : Int32) (v9 : Int32) (v10 : Int64) (v12 : Int64) (v14 : Int32) (σ : SX), J K D clX A 16 (wX ad cA) (jx_Qi K D clX (tysX cA) (wX ad cA) A) 0 0 177 [(0, .ref (ad 7)), (1, .int v1), (2, .int v2), (3, .int v3), (4, .int v4), (5, .int v5), (7, .int v7), (8, .int v8), (9, .int v9), (10, .long v10), (12, .long v12), (14, .int v14)] [] σ (k177 v1 v2 v3 v4 v5 v7 v8 v9 v10 v12 v14 σ)) : ∀ (v1 : Int32) (v2 : Int32) (v3 : Int32) (v4 : Int32) (v5 : Int32) (v7 : Int32) (v8 : Int32) (v9 : Int32) (v10 : Int64) (v12 : Int64) (v14 : Int32) (σ : SX), J K D clX A 16 (wX ad cA) (jx_Qi K D clX (tysX cA) (wX ad cA) A) 0 0 202 [(0, .ref (ad 7)), (1, .int v1), (2, .int v2), (3, .int v3), (4, .int v4), (5, .int v5), (7, .int v7), (8, .int v8), (9, .int v9), (10, .long v10), (12, .long v12), (14, .int v14)] [] σ (X_Types_make_b202 N k177 v1 v2 v3 v4 v5 v7 v8 v9 v10 v12 v14 σ) := by
  intro v1 v2 v3 v4 v5 v7 v8 v9 v10 v12 v14 σ
  rw [X_Types_make_b202]
  refine J_iload_n (q := 2) h d_Types_make_202 rfl rfl ?_
  refine J_istore (lv' := [(15, .int v2), (0, .ref (ad 7)), (1, .int v1), (2, .int v2), (3, .int v3), (4, .int v4), (5, .int v5), (7, .int v7), (8, .int v8), (9, .int v9), (10, .long v10), (12, .long v12), (14, .int v14)]) h d_Types_make_203 (by decide) rfl ?_
  refine J_sub [1, 2, 3, 4, 5, 6, 7, 8, 9, 10, 11, 12, 0] rfl ?_
  exact J_X_Types_make_b205 K D A ad cA N h k177 hk177 v1 v2 v3 v4 v5 v7 v8 v9 v10 v12 v14 v2 σ
def X_Types_make_L177 (N : Nat) (k333 : Int32 → Int32 → Int32 → Int32 → Int32 → Int32 → Int32 → Int32 → Int64 → Int64 → SX → Option (Int32 × SX)) : Nat → Int32 → Int32 → Int32 → Int32 → Int32 → Int32 → Int32 → Int32 → Int64 → Int64 → Int32 → SX → Option (Int32 × SX)
  | 0, _, _, _, _, _, _, _, _, _, _, _, _ => none
  | n + 1, v1, v2, v3, v4, v5, v7, v8, v9, v10, v12, v14, σ => (if (3 : Int32) ≤ v14 then (k333 v1 v2 v3 v4 v5 v7 v8 v9 v10 v12 σ) else (if v14 = 0 then (if v1 = 4 then (X_Types_make_b202 N (X_Types_make_L177 N k333 n) v1 v2 v3 v4 v5 v7 v8 v9 v10 v12 v14 σ) else (if v1 = 8 then (X_Types_make_b202 N (X_Types_make_L177 N k333 n) v1 v2 v3 v4 v5 v7 v8 v9 v10 v12 v14 σ) else (X_Types_make_b205 N (X_Types_make_L177 N k333 n) v1 v2 v3 v4 v5 v7 v8 v9 v10 v12 v14 (-1) σ))) else (X_Types_make_b205 N (X_Types_make_L177 N k333 n) v1 v2 v3 v4 v5 v7 v8 v9 v10 v12 v14 (-1) σ)))
set_option maxRecDepth 100000 in
set_option maxHeartbeats 4000000 in
theorem J_X_Types_make_L177 (K : jx_E) (D : va_G) (A : Nat → Prop) (ad : Nat → Nat) (cA : Nat → ClassId) (N : Nat) (h : jx_ok K D clX (tysX cA) A 16 b_Types_make y_Types_make.cls ((Cond.code y_Types_make b_Types_make 16 (some .int)) :: tblG) rX_Types_make (some .int)) (k333 : Int32 → Int32 → Int32 → Int32 → Int32 → Int32 → Int32 → Int32 → Int64 → Int64 → SX → Option (Int32 × SX)) (hk333 : ∀ (v1 : Int32) (v2 : Int32) (v3 : Int32) (v4 : Int32) (v5 : Int32) (v7 : Int32) (v8 : Int32) (v9 : Int32) (v10 : Int64) (v12 : Int64) (σ : SX), J K D clX A 16 (wX ad cA) (jx_Qi K D clX (tysX cA) (wX ad cA) A) 0 0 333 [(0, .ref (ad 7)), (1, .int v1), (2, .int v2), (3, .int v3), (4, .int v4), (5, .int v5), (7, .int v7), (8, .int v8), (9, .int v9), (10, .long v10), (12, .long v12)] [] σ (k333 v1 v2 v3 v4 v5 v7 v8 v9 v10 v12 σ)) : ∀ (n : Nat) (v1 : Int32) (v2 : Int32) (v3 : Int32) (v4 : Int32) (v5 : Int32) (v7 : Int32) (v8 : Int32) (v9 : Int32) (v10 : Int64) (v12 : Int64) (v14 : Int32) (σ : SX), J K D clX A 16 (wX ad cA) (jx_Qi K D clX (tysX cA) (wX ad cA) A) 0 0 177 [(0, .ref (ad 7)), (1, .int v1), (2, .int v2), (3, .int v3), (4, .int v4), (5, .int v5), (7, .int v7), (8, .int v8), (9, .int v9), (10, .long v10), (12, .long v12), (14, .int v14)] [] σ (X_Types_make_L177 N k333 n v1 v2 v3 v4 v5 v7 v8 v9 v10 v12 v14 σ) := by
  intro n
  induction n with
  | zero => intro v1 v2 v3 v4 v5 v7 v8 v9 v10 v12 v14 σ; exact J_none
  | succ n ih =>
    intro v1 v2 v3 v4 v5 v7 v8 v9 v10 v12 v14 σ
    rw [X_Types_make_L177]
    refine J_iload (q := 11) h d_Types_make_177 rfl ?_
    refine J_iconst (v := 3) h d_Types_make_179 (by decide) ?_
    refine J_icmp_ge (tgt := 333) h d_Types_make_180 (by decide) ?_ ?_
    · refine J_sub [0, 1, 2, 3, 4, 5, 6, 7, 8, 9, 10] rfl ?_
      exact hk333 v1 v2 v3 v4 v5 v7 v8 v9 v10 v12 σ
    · refine J_iconst (v := (-1)) h d_Types_make_183 (by decide) ?_
      refine J_istore (lv' := [(15, .int (-1)), (0, .ref (ad 7)), (1, .int v1), (2, .int v2), (3, .int v3), (4, .int v4), (5, .int v5), (7, .int v7), (8, .int v8), (9, .int v9), (10, .long v10), (12, .long v12), (14, .int v14)]) h d_Types_make_184 (by decide) rfl ?_
      refine J_iload (q := 12) h d_Types_make_186 rfl ?_
      refine J_if_ne (tgt := 205) h d_Types_make_188 (by decide) ?_ ?_
      · refine J_iload_n (q := 2) h d_Types_make_191 rfl rfl ?_
        refine J_iconst (v := 4) h d_Types_make_192 (by decide) ?_
        refine J_icmp_eq (tgt := 202) h d_Types_make_193 (by decide) ?_ ?_
        · refine J_sub [1, 2, 3, 4, 5, 6, 7, 8, 9, 10, 11, 12] rfl ?_
          exact J_X_Types_make_b202 K D A ad cA N h (X_Types_make_L177 N k333 n) ih v1 v2 v3 v4 v5 v7 v8 v9 v10 v12 v14 σ
        · refine J_iload_n (q := 2) h d_Types_make_196 rfl rfl ?_
          refine J_bipush (v := 8) h d_Types_make_197 (by decide) ?_
          refine J_icmp_ne (tgt := 205) h d_Types_make_199 (by decide) ?_ ?_
          · refine J_sub [1, 2, 3, 4, 5, 6, 7, 8, 9, 10, 11, 12] rfl ?_
            exact J_X_Types_make_b202 K D A ad cA N h (X_Types_make_L177 N k333 n) ih v1 v2 v3 v4 v5 v7 v8 v9 v10 v12 v14 σ
          · refine J_sub [1, 2, 3, 4, 5, 6, 7, 8, 9, 10, 11, 12, 0] rfl ?_
            exact J_X_Types_make_b205 K D A ad cA N h (X_Types_make_L177 N k333 n) ih v1 v2 v3 v4 v5 v7 v8 v9 v10 v12 v14 (-1) σ
      · refine J_sub [1, 2, 3, 4, 5, 6, 7, 8, 9, 10, 11, 12, 0] rfl ?_
        exact J_X_Types_make_b205 K D A ad cA N h (X_Types_make_L177 N k333 n) ih v1 v2 v3 v4 v5 v7 v8 v9 v10 v12 v14 (-1) σ
def X_Types_make_b333 (N : Nat) (v1 : Int32) (v2 : Int32) (v3 : Int32) (v4 : Int32) (v5 : Int32) (v7 : Int32) (v8 : Int32) (v9 : Int32) (v10 : Int64) (v12 : Int64) (σ : SX) : Option (Int32 × SX) := (if (20 : Int32) < v7 then (some ((-3), σ)) else (if (gX_Types_size σ) < 0 then (some ((-3), σ)) else (if (gX_Types_size σ) < 500 then (nm ((gX_Types_size σ)) (fun (y12 : Int32) => (if ck y12 500 = true then (nm (tX_Types_kind σ (upd (aX_Types_kind σ) y12.toNatClampNeg v1)) (fun (σ13 : SX) => (if ck y12 500 = true then (nm (tX_Types_first σ13 (upd (aX_Types_first σ13) y12.toNatClampNeg v2)) (fun (σ14 : SX) => (if ck y12 500 = true then (nm (tX_Types_second σ14 (upd (aX_Types_second σ14) y12.toNatClampNeg v3)) (fun (σ15 : SX) => (if ck y12 500 = true then (nm (tX_Types_third σ15 (upd (aX_Types_third σ15) y12.toNatClampNeg v4)) (fun (σ16 : SX) => (if ck y12 500 = true then (nm (tX_Types_depth σ16 (upd (aX_Types_depth σ16) y12.toNatClampNeg v7)) (fun (σ17 : SX) => (if ck y12 500 = true then (nm (tX_Types_kinds σ17 (upd (aX_Types_kinds σ17) y12.toNatClampNeg v8)) (fun (σ18 : SX) => (if ck y12 500 = true then (nm (tX_Types_variables σ18 (upd (aX_Types_variables σ18) y12.toNatClampNeg v9)) (fun (σ19 : SX) => (if ck y12 500 = true then (nm (tX_Types_owners σ19 (vp_updL (aX_Types_owners σ19) y12.toNatClampNeg v10)) (fun (σ20 : SX) => (if ck y12 500 = true then (nm (tX_Types_named σ20 (vp_updL (aX_Types_named σ20) y12.toNatClampNeg v12)) (fun (σ21 : SX) => (if ck v5 128 = true then (if ck y12 500 = true then (nm (tX_Types_chainNext σ21 (upd (aX_Types_chainNext σ21) y12.toNatClampNeg (aX_Types_chainFirst σ21 v5.toNatClampNeg))) (fun (σ22 : SX) => (if ck v5 128 = true then (nm (tX_Types_chainFirst σ22 (upd (aX_Types_chainFirst σ22) v5.toNatClampNeg y12)) (fun (σ23 : SX) => (nm (sX_Types_size σ23 ((gX_Types_size σ23) + 1)) (fun (σ24 : SX) => (some (y12, σ24)))))) else none))) else none) else none))) else none))) else none))) else none))) else none))) else none))) else none))) else none))) else none))) else none))) else (some ((-3), σ)))))
set_option maxRecDepth 100000 in
set_option maxHeartbeats 4000000 in
theorem J_X_Types_make_b333 (K : jx_E) (D : va_G) (A : Nat → Prop) (ad : Nat → Nat) (cA : Nat → ClassId) (N : Nat) (h : jx_ok K D clX (tysX cA) A 16 b_Types_make y_Types_make.cls ((Cond.code y_Types_make b_Types_make 16 (some .int)) :: tblG) rX_Types_make (some .int)) : ∀ (v1 : Int32) (v2 : Int32) (v3 : Int32) (v4 : Int32) (v5 : Int32) (v7 : Int32) (v8 : Int32) (v9 : Int32) (v10 : Int64) (v12 : Int64) (σ : SX), J K D clX A 16 (wX ad cA) (jx_Qi K D clX (tysX cA) (wX ad cA) A) 0 0 333 [(0, .ref (ad 7)), (1, .int v1), (2, .int v2), (3, .int v3), (4, .int v4), (5, .int v5), (7, .int v7), (8, .int v8), (9, .int v9), (10, .long v10), (12, .long v12)] [] σ (X_Types_make_b333 N v1 v2 v3 v4 v5 v7 v8 v9 v10 v12 σ) := by
  intro v1 v2 v3 v4 v5 v7 v8 v9 v10 v12 σ
  rw [X_Types_make_b333]
  refine J_iload (q := 6) h d_Types_make_333 rfl ?_
  refine J_bipush (v := 20) h d_Types_make_335 (by decide) ?_
  refine J_icmp_gt (tgt := 357) h d_Types_make_337 (by decide) ?_ ?_
  · refine J_bipush (v := (-3)) h d_Types_make_357 (by decide) ?_
    exact J_iret h rfl d_Types_make_359
  · refine J_aload_n (q := 0) h d_Types_make_340 rfl rfl ?_
    refine J_getf h 7 (wX_7 ad cA σ) (tb_ups in_Types) rfl 11 (by decide) (tb_up q_1_72) rfl d_Types_make_341 ?_
    refine J_if_lt (tgt := 357) h d_Types_make_344 (by decide) ?_ ?_
    · refine J_bipush (v := (-3)) h d_Types_make_357 (by decide) ?_
      exact J_iret h rfl d_Types_make_359
    · refine J_aload_n (q := 0) h d_Types_make_347 rfl rfl ?_
      refine J_getf h 7 (wX_7 ad cA σ) (tb_ups in_Types) rfl 11 (by decide) (tb_up q_1_72) rfl d_Types_make_348 ?_
      refine J_sipush (v := 500) h d_Types_make_351 (by decide) ?_
      refine J_icmp_lt (tgt := 360) h d_Types_make_354 (by decide) ?_ ?_
      · refine J_aload_n (q := 0) h d_Types_make_360 rfl rfl ?_
        refine J_getf h 7 (wX_7 ad cA σ) (tb_ups in_Types) rfl 11 (by decide) (tb_up q_1_72) rfl d_Types_make_361 ?_
        refine J_nmi (fun y12 => ?_)
        refine J_istore (lv' := [(6, .int y12), (0, .ref (ad 7)), (1, .int v1), (2, .int v2), (3, .int v3), (4, .int v4), (5, .int v5), (7, .int v7), (8, .int v8), (9, .int v9), (10, .long v10), (12, .long v12)]) h d_Types_make_364 (by decide) rfl ?_
        refine J_aload_n (q := 1) h d_Types_make_366 rfl rfl ?_
        refine J_getf h 7 (wX_7 ad cA σ) (tb_ups in_Types) rfl 0 (by decide) (tb_up q_1_61) rfl d_Types_make_367 ?_
        refine J_iload (q := 0) h d_Types_make_370 rfl ?_
        refine J_iload_n (q := 2) h d_Types_make_372 rfl rfl ?_
        refine J_iast h 8 5 (wX_8 ad cA σ) rfl (uX_8 ad cA σ _) d_Types_make_373 (fun σ13 => ?_)
        refine J_aload_n (q := 1) h d_Types_make_374 rfl rfl ?_
        refine J_getf h 7 (wX_7 ad cA σ13) (tb_ups in_Types) rfl 1 (by decide) (tb_up q_1_62) rfl d_Types_make_375 ?_
        refine J_iload (q := 0) h d_Types_make_378 rfl ?_
        refine J_iload_n (q := 3) h d_Types_make_380 rfl rfl ?_
        refine J_iast h 9 6 (wX_9 ad cA σ13) rfl (uX_9 ad cA σ13 _) d_Types_make_381 (fun σ14 => ?_)
        refine J_aload_n (q := 1) h d_Types_make_382 rfl rfl ?_
        refine J_getf h 7 (wX_7 ad cA σ14) (tb_ups in_Types) rfl 2 (by decide) (tb_up q_1_63) rfl d_Types_make_383 ?_
        refine J_iload (q := 0) h d_Types_make_386 rfl ?_
        refine J_iload_n (q := 4) h d_Types_make_388 rfl rfl ?_
        refine J_iast h 10 7 (wX_10 ad cA σ14) rfl (uX_10 ad cA σ14 _) d_Types_make_389 (fun σ15 => ?_)
        refine J_aload_n (q := 1) h d_Types_make_390 rfl rfl ?_
        refine J_getf h 7 (wX_7 ad cA σ15) (tb_ups in_Types) rfl 3 (by decide) (tb_up q_1_64) rfl d_Types_make_391 ?_
        refine J_iload (q := 0) h d_Types_make_394 rfl ?_
        refine J_iload (q := 5) h d_Types_make_396 rfl ?_
        refine J_iast h 11 8 (wX_11 ad cA σ15) rfl (uX_11 ad cA σ15 _) d_Types_make_398 (fun σ16 => ?_)
        refine J_aload_n (q := 1) h d_Types_make_399 rfl rfl ?_
        refine J_getf h 7 (wX_7 ad cA σ16) (tb_ups in_Types) rfl 4 (by decide) (tb_up q_1_65) rfl d_Types_make_400 ?_
        refine J_iload (q := 0) h d_Types_make_403 rfl ?_
        refine J_iload (q := 7) h d_Types_make_405 rfl ?_
        refine J_iast h 12 9 (wX_12 ad cA σ16) rfl (uX_12 ad cA σ16 _) d_Types_make_407 (fun σ17 => ?_)
        refine J_aload_n (q := 1) h d_Types_make_408 rfl rfl ?_
        refine J_getf h 7 (wX_7 ad cA σ17) (tb_ups in_Types) rfl 5 (by decide) (tb_up q_1_66) rfl d_Types_make_409 ?_
        refine J_iload (q := 0) h d_Types_make_412 rfl ?_
        refine J_iload (q := 8) h d_Types_make_414 rfl ?_
        refine J_iast h 13 10 (wX_13 ad cA σ17) rfl (uX_13 ad cA σ17 _) d_Types_make_416 (fun σ18 => ?_)
        refine J_aload_n (q := 1) h d_Types_make_417 rfl rfl ?_
        refine J_getf h 7 (wX_7 ad cA σ18) (tb_ups in_Types) rfl 6 (by decide) (tb_up q_1_67) rfl d_Types_make_418 ?_
        refine J_iload (q := 0) h d_Types_make_421 rfl ?_
        refine J_iload (q := 9) h d_Types_make_423 rfl ?_
        refine J_iast h 14 11 (wX_14 ad cA σ18) rfl (uX_14 ad cA σ18 _) d_Types_make_425 (fun σ19 => ?_)
        refine J_aload_n (q := 1) h d_Types_make_426 rfl rfl ?_
        refine J_getf h 7 (wX_7 ad cA σ19) (tb_ups in_Types) rfl 7 (by decide) (tb_up q_1_68) rfl d_Types_make_427 ?_
        refine J_iload (q := 0) h d_Types_make_430 rfl ?_
        refine J_lload (q := 10) h d_Types_make_432 rfl ?_
        refine J_last h 15 12 (wX_15 ad cA σ19) rfl (uX_15 ad cA σ19 _) d_Types_make_434 (fun σ20 => ?_)
        refine J_aload_n (q := 1) h d_Types_make_435 rfl rfl ?_
        refine J_getf h 7 (wX_7 ad cA σ20) (tb_ups in_Types) rfl 8 (by decide) (tb_up q_1_69) rfl d_Types_make_436 ?_
        refine J_iload (q := 0) h d_Types_make_439 rfl ?_
        refine J_lload (q := 11) h d_Types_make_441 rfl ?_
        refine J_last h 16 13 (wX_16 ad cA σ20) rfl (uX_16 ad cA σ20 _) d_Types_make_443 (fun σ21 => ?_)
        refine J_aload_n (q := 1) h d_Types_make_444 rfl rfl ?_
        refine J_getf h 7 (wX_7 ad cA σ21) (tb_ups in_Types) rfl 10 (by decide) (tb_up q_1_71) rfl d_Types_make_445 ?_
        refine J_iload (q := 0) h d_Types_make_448 rfl ?_
        refine J_aload_n (q := 1) h d_Types_make_450 rfl rfl ?_
        refine J_getf h 7 (wX_7 ad cA σ21) (tb_ups in_Types) rfl 9 (by decide) (tb_up q_1_70) rfl d_Types_make_451 ?_
        refine J_iload (q := 6) h d_Types_make_454 rfl ?_
        refine J_iald h 17 14 (wX_17 ad cA σ21) rfl d_Types_make_456 ?_
        refine J_iast h 18 15 (wX_18 ad cA σ21) rfl (uX_18 ad cA σ21 _) d_Types_make_457 (fun σ22 => ?_)
        refine J_aload_n (q := 1) h d_Types_make_458 rfl rfl ?_
        refine J_getf h 7 (wX_7 ad cA σ22) (tb_ups in_Types) rfl 9 (by decide) (tb_up q_1_70) rfl d_Types_make_459 ?_
        refine J_iload (q := 6) h d_Types_make_462 rfl ?_
        refine J_iload (q := 0) h d_Types_make_464 rfl ?_
        refine J_iast h 17 14 (wX_17 ad cA σ22) rfl (uX_17 ad cA σ22 _) d_Types_make_466 (fun σ23 => ?_)
        refine J_aload_n (q := 1) h d_Types_make_467 rfl rfl ?_
        refine J_dup h d_Types_make_468 rfl ?_
        refine J_getf h 7 (wX_7 ad cA σ23) (tb_ups in_Types) rfl 11 (by decide) (tb_up q_1_72) rfl d_Types_make_469 ?_
        refine J_iconst (v := 1) h d_Types_make_472 (by decide) ?_
        refine J_iadd h d_Types_make_473 ?_
        refine J_putf h 7 (wX_7 ad cA σ23) (tb_ups in_Types) rfl ft_Types ft_Types_ok nm_Types 11 (by decide) (tb_up q_1_72) rfl rfl rfl (Nat.le_of_ble_eq_true rfl) (pX_7_11 ad cA σ23 ((gX_Types_size σ23) + 1)) d_Types_make_474 (fun σ24 => ?_)
        refine J_iload (q := 0) h d_Types_make_477 rfl ?_
        exact J_iret h rfl d_Types_make_479
      · refine J_bipush (v := (-3)) h d_Types_make_357 (by decide) ?_
        exact J_iret h rfl d_Types_make_359
def X_Types_make_b172 (N : Nat) (v1 : Int32) (v2 : Int32) (v3 : Int32) (v4 : Int32) (v5 : Int32) (v7 : Int32) (v8 : Int32) (v9 : Int32) (v10 : Int64) (s0 : Int64) (σ : SX) : Option (Int32 × SX) := (X_Types_make_L177 N (X_Types_make_b333 N) N v1 v2 v3 v4 v5 v7 v8 v9 v10 s0 0 σ)
set_option maxRecDepth 100000 in
set_option maxHeartbeats 4000000 in
theorem J_X_Types_make_b172 (K : jx_E) (D : va_G) (A : Nat → Prop) (ad : Nat → Nat) (cA : Nat → ClassId) (N : Nat) (h : jx_ok K D clX (tysX cA) A 16 b_Types_make y_Types_make.cls ((Cond.code y_Types_make b_Types_make 16 (some .int)) :: tblG) rX_Types_make (some .int)) : ∀ (v1 : Int32) (v2 : Int32) (v3 : Int32) (v4 : Int32) (v5 : Int32) (v7 : Int32) (v8 : Int32) (v9 : Int32) (v10 : Int64) (s0 : Int64) (σ : SX), J K D clX A 16 (wX ad cA) (jx_Qi K D clX (tysX cA) (wX ad cA) A) 0 0 172 [(0, .ref (ad 7)), (1, .int v1), (2, .int v2), (3, .int v3), (4, .int v4), (5, .int v5), (7, .int v7), (8, .int v8), (9, .int v9), (10, .long v10)] [.long s0] σ (X_Types_make_b172 N v1 v2 v3 v4 v5 v7 v8 v9 v10 s0 σ) := by
  intro v1 v2 v3 v4 v5 v7 v8 v9 v10 s0 σ
  rw [X_Types_make_b172]
  refine J_lstore (lv' := [(12, .long s0), (0, .ref (ad 7)), (1, .int v1), (2, .int v2), (3, .int v3), (4, .int v4), (5, .int v5), (7, .int v7), (8, .int v8), (9, .int v9), (10, .long v10)]) h d_Types_make_172 (by decide) rfl ?_
  refine J_iconst (v := 0) h d_Types_make_174 (by decide) ?_
  refine J_istore (lv' := [(14, .int 0), (12, .long s0), (0, .ref (ad 7)), (1, .int v1), (2, .int v2), (3, .int v3), (4, .int v4), (5, .int v5), (7, .int v7), (8, .int v8), (9, .int v9), (10, .long v10)]) h d_Types_make_175 (by decide) rfl ?_
  refine J_sub [2, 3, 4, 5, 6, 7, 8, 9, 10, 11, 1, 0] rfl ?_
  exact J_X_Types_make_L177 K D A ad cA N h (X_Types_make_b333 N) (J_X_Types_make_b333 K D A ad cA N h) N v1 v2 v3 v4 v5 v7 v8 v9 v10 s0 0 σ
def X_Types_make_b165 (N : Nat) (v1 : Int32) (v2 : Int32) (v3 : Int32) (v4 : Int32) (v5 : Int32) (v7 : Int32) (v8 : Int32) (v9 : Int32) (v10 : Int64) (σ : SX) : Option (Int32 × SX) := (X_Types_make_b172 N v1 v2 v3 v4 v5 v7 v8 v9 v10 ((1 : Int64) <<< (v2.toInt64 &&& 63)) σ)
set_option maxRecDepth 100000 in
set_option maxHeartbeats 4000000 in
theorem J_X_Types_make_b165 (K : jx_E) (D : va_G) (A : Nat → Prop) (ad : Nat → Nat) (cA : Nat → ClassId) (N : Nat) (h : jx_ok K D clX (tysX cA) A 16 b_Types_make y_Types_make.cls ((Cond.code y_Types_make b_Types_make 16 (some .int)) :: tblG) rX_Types_make (some .int)) : ∀ (v1 : Int32) (v2 : Int32) (v3 : Int32) (v4 : Int32) (v5 : Int32) (v7 : Int32) (v8 : Int32) (v9 : Int32) (v10 : Int64) (σ : SX), J K D clX A 16 (wX ad cA) (jx_Qi K D clX (tysX cA) (wX ad cA) A) 0 0 165 [(0, .ref (ad 7)), (1, .int v1), (2, .int v2), (3, .int v3), (4, .int v4), (5, .int v5), (7, .int v7), (8, .int v8), (9, .int v9), (10, .long v10)] [] σ (X_Types_make_b165 N v1 v2 v3 v4 v5 v7 v8 v9 v10 σ) := by
  intro v1 v2 v3 v4 v5 v7 v8 v9 v10 σ
  rw [X_Types_make_b165]
  refine J_lconst (v := 1) h d_Types_make_165 (by decide) ?_
  refine J_iload_n (q := 2) h d_Types_make_166 rfl rfl ?_
  refine J_lshl h d_Types_make_167 ?_
  refine J_goto (tgt := 172) h d_Types_make_168 (by decide) ?_
  exact J_X_Types_make_b172 K D A ad cA N h v1 v2 v3 v4 v5 v7 v8 v9 v10 ((1 : Int64) <<< (v2.toInt64 &&& 63)) σ
def X_Types_make_b154 (N : Nat) (v1 : Int32) (v2 : Int32) (v3 : Int32) (v4 : Int32) (v5 : Int32) (v7 : Int32) (v8 : Int32) (v9 : Int32) (s0 : Int64) (σ : SX) : Option (Int32 × SX) := (if v1 = 0 then (X_Types_make_b165 N v1 v2 v3 v4 v5 v7 v8 v9 s0 σ) else (if v1 = 1 then (X_Types_make_b165 N v1 v2 v3 v4 v5 v7 v8 v9 s0 σ) else (X_Types_make_b172 N v1 v2 v3 v4 v5 v7 v8 v9 s0 0 σ)))
set_option maxRecDepth 100000 in
set_option maxHeartbeats 4000000 in
theorem J_X_Types_make_b154 (K : jx_E) (D : va_G) (A : Nat → Prop) (ad : Nat → Nat) (cA : Nat → ClassId) (N : Nat) (h : jx_ok K D clX (tysX cA) A 16 b_Types_make y_Types_make.cls ((Cond.code y_Types_make b_Types_make 16 (some .int)) :: tblG) rX_Types_make (some .int)) : ∀ (v1 : Int32) (v2 : Int32) (v3 : Int32) (v4 : Int32) (v5 : Int32) (v7 : Int32) (v8 : Int32) (v9 : Int32) (s0 : Int64) (σ : SX), J K D clX A 16 (wX ad cA) (jx_Qi K D clX (tysX cA) (wX ad cA) A) 0 0 154 [(0, .ref (ad 7)), (1, .int v1), (2, .int v2), (3, .int v3), (4, .int v4), (5, .int v5), (7, .int v7), (8, .int v8), (9, .int v9)] [.long s0] σ (X_Types_make_b154 N v1 v2 v3 v4 v5 v7 v8 v9 s0 σ) := by
  intro v1 v2 v3 v4 v5 v7 v8 v9 s0 σ
  rw [X_Types_make_b154]
  refine J_lstore (lv' := [(10, .long s0), (0, .ref (ad 7)), (1, .int v1), (2, .int v2), (3, .int v3), (4, .int v4), (5, .int v5), (7, .int v7), (8, .int v8), (9, .int v9)]) h d_Types_make_154 (by decide) rfl ?_
  refine J_iload_n (q := 2) h d_Types_make_156 rfl rfl ?_
  refine J_if_eq (tgt := 165) h d_Types_make_157 (by decide) ?_ ?_
  · refine J_sub [1, 2, 3, 4, 5, 6, 7, 8, 9, 0] rfl ?_
    exact J_X_Types_make_b165 K D A ad cA N h v1 v2 v3 v4 v5 v7 v8 v9 s0 σ
  · refine J_iload_n (q := 2) h d_Types_make_160 rfl rfl ?_
    refine J_iconst (v := 1) h d_Types_make_161 (by decide) ?_
    refine J_icmp_ne (tgt := 171) h d_Types_make_162 (by decide) ?_ ?_
    · refine J_sub [1, 2, 3, 4, 5, 6, 7, 8, 9, 0] rfl ?_
      exact J_X_Types_make_b165 K D A ad cA N h v1 v2 v3 v4 v5 v7 v8 v9 s0 σ
    · refine J_lconst (v := 0) h d_Types_make_171 (by decide) ?_
      refine J_sub [1, 2, 3, 4, 5, 6, 7, 8, 9, 0] rfl ?_
      exact J_X_Types_make_b172 K D A ad cA N h v1 v2 v3 v4 v5 v7 v8 v9 s0 0 σ
def X_Types_make_b140 (N : Nat) (v1 : Int32) (v2 : Int32) (v3 : Int32) (v4 : Int32) (v5 : Int32) (v7 : Int32) (v8 : Int32) (s0 : Int32) (σ : SX) : Option (Int32 × SX) := (if v1 = 3 then (X_Types_make_b154 N v1 v2 v3 v4 v5 v7 v8 s0 ((1 : Int64) <<< (v2.toInt64 &&& 63)) σ) else (X_Types_make_b154 N v1 v2 v3 v4 v5 v7 v8 s0 0 σ))
set_option maxRecDepth 100000 in
set_option maxHeartbeats 4000000 in
theorem J_X_Types_make_b140 (K : jx_E) (D : va_G) (A : Nat → Prop) (ad : Nat → Nat) (cA : Nat → ClassId) (N : Nat) (h : jx_ok K D clX (tysX cA) A 16 b_Types_make y_Types_make.cls ((Cond.code y_Types_make b_Types_make 16 (some .int)) :: tblG) rX_Types_make (some .int)) : ∀ (v1 : Int32) (v2 : Int32) (v3 : Int32) (v4 : Int32) (v5 : Int32) (v7 : Int32) (v8 : Int32) (s0 : Int32) (σ : SX), J K D clX A 16 (wX ad cA) (jx_Qi K D clX (tysX cA) (wX ad cA) A) 0 0 140 [(0, .ref (ad 7)), (1, .int v1), (2, .int v2), (3, .int v3), (4, .int v4), (5, .int v5), (7, .int v7), (8, .int v8)] [.int s0] σ (X_Types_make_b140 N v1 v2 v3 v4 v5 v7 v8 s0 σ) := by
  intro v1 v2 v3 v4 v5 v7 v8 s0 σ
  rw [X_Types_make_b140]
  refine J_istore (lv' := [(9, .int s0), (0, .ref (ad 7)), (1, .int v1), (2, .int v2), (3, .int v3), (4, .int v4), (5, .int v5), (7, .int v7), (8, .int v8)]) h d_Types_make_140 (by decide) rfl ?_
  refine J_iload_n (q := 2) h d_Types_make_142 rfl rfl ?_
  refine J_iconst (v := 3) h d_Types_make_143 (by decide) ?_
  refine J_icmp_ne (tgt := 153) h d_Types_make_144 (by decide) ?_ ?_
  · refine J_lconst (v := 1) h d_Types_make_147 (by decide) ?_
    refine J_iload_n (q := 3) h d_Types_make_148 rfl rfl ?_
    refine J_lshl h d_Types_make_149 ?_
    refine J_goto (tgt := 154) h d_Types_make_150 (by decide) ?_
    refine J_sub [1, 2, 3, 4, 5, 6, 7, 8, 0] rfl ?_
    exact J_X_Types_make_b154 K D A ad cA N h v1 v2 v3 v4 v5 v7 v8 s0 ((1 : Int64) <<< (v2.toInt64 &&& 63)) σ
  · refine J_lconst (v := 0) h d_Types_make_153 (by decide) ?_
    refine J_sub [1, 2, 3, 4, 5, 6, 7, 8, 0] rfl ?_
    exact J_X_Types_make_b154 K D A ad cA N h v1 v2 v3 v4 v5 v7 v8 s0 0 σ
def X_Types_make_b119 (N : Nat) (v1 : Int32) (v2 : Int32) (v3 : Int32) (v4 : Int32) (v5 : Int32) (σ : SX) : Option (Int32 × SX) := (nm (((1 : Int32) <<< (v1 &&& 31))) (fun (y5 : Int32) => (if v1 = 7 then (X_Types_make_b140 N v1 v2 v3 v4 v5 1 y5 ((1 : Int32) <<< (v2 &&& 31)) σ) else (X_Types_make_b140 N v1 v2 v3 v4 v5 1 y5 0 σ))))
set_option maxRecDepth 100000 in
set_option maxHeartbeats 4000000 in
theorem J_X_Types_make_b119 (K : jx_E) (D : va_G) (A : Nat → Prop) (ad : Nat → Nat) (cA : Nat → ClassId) (N : Nat) (h : jx_ok K D clX (tysX cA) A 16 b_Types_make y_Types_make.cls ((Cond.code y_Types_make b_Types_make 16 (some .int)) :: tblG) rX_Types_make (some .int)) : ∀ (v1 : Int32) (v2 : Int32) (v3 : Int32) (v4 : Int32) (v5 : Int32) (σ : SX), J K D clX A 16 (wX ad cA) (jx_Qi K D clX (tysX cA) (wX ad cA) A) 0 0 119 [(0, .ref (ad 7)), (1, .int v1), (2, .int v2), (3, .int v3), (4, .int v4), (5, .int v5)] [] σ (X_Types_make_b119 N v1 v2 v3 v4 v5 σ) := by
  intro v1 v2 v3 v4 v5 σ
  rw [X_Types_make_b119]
  refine J_iconst (v := 1) h d_Types_make_119 (by decide) ?_
  refine J_istore (lv' := [(7, .int 1), (0, .ref (ad 7)), (1, .int v1), (2, .int v2), (3, .int v3), (4, .int v4), (5, .int v5)]) h d_Types_make_120 (by decide) rfl ?_
  refine J_iconst (v := 1) h d_Types_make_122 (by decide) ?_
  refine J_iload_n (q := 2) h d_Types_make_123 rfl rfl ?_
  refine J_ishl h d_Types_make_124 ?_
  refine J_nmi (fun y5 => ?_)
  refine J_istore (lv' := [(8, .int y5), (7, .int 1), (0, .ref (ad 7)), (1, .int v1), (2, .int v2), (3, .int v3), (4, .int v4), (5, .int v5)]) h d_Types_make_125 (by decide) rfl ?_
  refine J_iload_n (q := 3) h d_Types_make_127 rfl rfl ?_
  refine J_bipush (v := 7) h d_Types_make_128 (by decide) ?_
  refine J_icmp_ne (tgt := 139) h d_Types_make_130 (by decide) ?_ ?_
  · refine J_iconst (v := 1) h d_Types_make_133 (by decide) ?_
    refine J_iload_n (q := 4) h d_Types_make_134 rfl rfl ?_
    refine J_ishl h d_Types_make_135 ?_
    refine J_goto (tgt := 140) h d_Types_make_136 (by decide) ?_
    refine J_sub [2, 3, 4, 5, 6, 7, 1, 0] rfl ?_
    exact J_X_Types_make_b140 K D A ad cA N h v1 v2 v3 v4 v5 1 y5 ((1 : Int32) <<< (v2 &&& 31)) σ
  · refine J_iconst (v := 0) h d_Types_make_139 (by decide) ?_
    refine J_sub [2, 3, 4, 5, 6, 7, 1, 0] rfl ?_
    exact J_X_Types_make_b140 K D A ad cA N h v1 v2 v3 v4 v5 1 y5 0 σ
def X_Types_make (N : Nat) (x1 : Int32) (x2 : Int32) (x3 : Int32) (x4 : Int32) (σ : SX) : Option (Int32 × SX) := (nm ((((((((x1 * 31) + x2) * 31) + x3) * 31) + x4) &&& 127)) (fun (y1 : Int32) => (if ck y1 128 = true then (nm ((aX_Types_chainFirst σ y1.toNatClampNeg)) (fun (y2 : Int32) => (X_Types_make_L34 N (X_Types_make_b119 N) N x1 x2 x3 x4 y1 y2 0 σ))) else none)))
set_option maxRecDepth 100000 in
set_option maxHeartbeats 4000000 in
theorem J_X_Types_make (K : jx_E) (D : va_G) (A : Nat → Prop) (ad : Nat → Nat) (cA : Nat → ClassId) (N : Nat) (h : jx_ok K D clX (tysX cA) A 16 b_Types_make y_Types_make.cls ((Cond.code y_Types_make b_Types_make 16 (some .int)) :: tblG) rX_Types_make (some .int)) : ∀ (x1 : Int32) (x2 : Int32) (x3 : Int32) (x4 : Int32) (σ : SX), J K D clX A 16 (wX ad cA) (jx_Qi K D clX (tysX cA) (wX ad cA) A) 0 0 0 [(0, .ref (ad 7)), (1, .int x1), (2, .int x2), (3, .int x3), (4, .int x4)] [] σ (X_Types_make N x1 x2 x3 x4 σ) := by
  intro x1 x2 x3 x4 σ
  rw [X_Types_make]
  refine J_iload_n (q := 1) h d_Types_make_0 rfl rfl ?_
  refine J_bipush (v := 31) h d_Types_make_1 (by decide) ?_
  refine J_imul h d_Types_make_3 ?_
  refine J_iload_n (q := 2) h d_Types_make_4 rfl rfl ?_
  refine J_iadd h d_Types_make_5 ?_
  refine J_bipush (v := 31) h d_Types_make_6 (by decide) ?_
  refine J_imul h d_Types_make_8 ?_
  refine J_iload_n (q := 3) h d_Types_make_9 rfl rfl ?_
  refine J_iadd h d_Types_make_10 ?_
  refine J_bipush (v := 31) h d_Types_make_11 (by decide) ?_
  refine J_imul h d_Types_make_13 ?_
  refine J_iload (q := 4) h d_Types_make_14 rfl ?_
  refine J_iadd h d_Types_make_16 ?_
  refine J_bipush (v := 127) h d_Types_make_17 (by decide) ?_
  refine J_iand h d_Types_make_19 ?_
  refine J_nmi (fun y1 => ?_)
  refine J_istore (lv' := [(5, .int y1), (0, .ref (ad 7)), (1, .int x1), (2, .int x2), (3, .int x3), (4, .int x4)]) h d_Types_make_20 (by decide) rfl ?_
  refine J_aload_n (q := 1) h d_Types_make_22 rfl rfl ?_
  refine J_getf h 7 (wX_7 ad cA σ) (tb_ups in_Types) rfl 9 (by decide) (tb_up q_1_70) rfl d_Types_make_23 ?_
  refine J_iload (q := 0) h d_Types_make_26 rfl ?_
  refine J_iald h 17 14 (wX_17 ad cA σ) rfl d_Types_make_28 ?_
  refine J_nmi (fun y2 => ?_)
  refine J_istore (lv' := [(6, .int y2), (5, .int y1), (0, .ref (ad 7)), (1, .int x1), (2, .int x2), (3, .int x3), (4, .int x4)]) h d_Types_make_29 (by decide) rfl ?_
  refine J_iconst (v := 0) h d_Types_make_31 (by decide) ?_
  refine J_istore (lv' := [(7, .int 0), (6, .int y2), (5, .int y1), (0, .ref (ad 7)), (1, .int x1), (2, .int x2), (3, .int x3), (4, .int x4)]) h d_Types_make_32 (by decide) rfl ?_
  refine J_sub [3, 4, 5, 6, 7, 2, 1, 0] rfl ?_
  exact J_X_Types_make_L34 K D A ad cA N h (X_Types_make_b119 N) (J_X_Types_make_b119 K D A ad cA N h) N x1 x2 x3 x4 y1 y2 0 σ
set_option maxRecDepth 100000 in
theorem cX_Types_make (l : Launch) (D : va_G) (ad : Nat → Nat) (cA : Nat → ClassId) (N : Nat) (x1 : Int32) (x2 : Int32) (x3 : Int32) (x4 : Int32) (σ : SX) (r : Int32) (σ' : SX) (hf : X_Types_make N x1 x2 x3 x4 σ = some (r, σ')) : MetI l y_Types_make ((Cond.code y_Types_make b_Types_make 16 (some .int)) :: tblG) rX_Types_make D clX (tysX cA) (wX ad cA) [.ref (ad 7), .int x1, .int x2, .int x3, .int x4] σ r σ' :=
  jx_metI (by decide) rfl (Nat.le_of_ble_eq_true rfl) (fun K A h => J_X_Types_make K D A ad cA N h x1 x2 x3 x4 σ) hf
