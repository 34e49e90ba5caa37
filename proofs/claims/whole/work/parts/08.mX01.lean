def rX_Exchange_forArguments : Room := { frames := 0, cells := 0, slots := 0, locals := 0 }
theorem rm_ok_X_Exchange_forArguments : rX_Exchange_forArguments.cells = 0 ∧ rX_Exchange_forArguments.slots = 0 := ⟨rfl, rfl⟩
def X_Exchange_forArguments (x1 : Int32) (σ : SX) : Option (Unit × SX) := (nm (sX_Exchange_stamp σ ((gX_Exchange_stamp σ) + 1)) (fun (σ1 : SX) => (nm (sX_Exchange_variables σ1 0) (fun (σ2 : SX) => (nm (sX_Exchange_owner σ2 x1) (fun (σ3 : SX) => (some ((), σ3))))))))
set_option maxRecDepth 100000 in
set_option maxHeartbeats 4000000 in
theorem J_X_Exchange_forArguments (K : jx_E) (D : va_G) (A : Nat → Prop) (ad : Nat → Nat) (cA : Nat → ClassId) (h : jx_ok K D clX (tysX cA) A 2 b_Exchange_forArguments y_Exchange_forArguments.cls ((Cond.code y_Exchange_forArguments b_Exchange_forArguments 2 none) :: tblG) rX_Exchange_forArguments none) : ∀ (x1 : Int32) (σ : SX), J K D clX A 2 (wX ad cA) (jx_Qv K D clX (tysX cA) (wX ad cA) A) 0 0 0 [(0, .ref (ad 24)), (1, .int x1)] [] σ (X_Exchange_forArguments x1 σ) := by
  intro x1 σ
  rw [X_Exchange_forArguments]
  refine J_aload_n (q := 0) h d_Exchange_forArguments_0 rfl rfl ?_
  refine J_dup h d_Exchange_forArguments_1 rfl ?_
  refine J_getf h 24 (wX_24 ad cA σ) (tb_ups in_Exchange) rfl 4 (by decide) (tb_up q_1_131) rfl d_Exchange_forArguments_2 ?_
  refine J_iconst (v := 1) h d_Exchange_forArguments_5 (by decide) ?_
  refine J_iadd h d_Exchange_forArguments_6 ?_
  refine J_putf h 24 (wX_24 ad cA σ) (tb_ups in_Exchange) rfl ft_Exchange ft_Exchange_ok nm_Exchange 4 (by decide) (tb_up q_1_131) rfl rfl rfl (Nat.le_of_ble_eq_true rfl) (pX_24_4 ad cA σ ((gX_Exchange_stamp σ) + 1)) d_Exchange_forArguments_7 (fun σ1 => ?_)
  refine J_aload_n (q := 0) h d_Exchange_forArguments_10 rfl rfl ?_
  refine J_iconst (v := 0) h d_Exchange_forArguments_11 (by decide) ?_
  refine J_putf h 24 (wX_24 ad cA σ1) (tb_ups in_Exchange) rfl ft_Exchange ft_Exchange_ok nm_Exchange 5 (by decide) (tb_up q_1_132) rfl rfl rfl (Nat.le_of_ble_eq_true rfl) (pX_24_5 ad cA σ1 0) d_Exchange_forArguments_12 (fun σ2 => ?_)
  refine J_aload_n (q := 0) h d_Exchange_forArguments_15 rfl rfl ?_
  refine J_iload_n (q := 1) h d_Exchange_forArguments_16 rfl rfl ?_
  refine J_putf h 24 (wX_24 ad cA σ2) (tb_ups in_Exchange) rfl ft_Exchange ft_Exchange_ok nm_Exchange 6 (by decide) (tb_up q_1_133) rfl rfl rfl (Nat.le_of_ble_eq_true rfl) (pX_24_6 ad cA σ2 x1) d_Exchange_forArguments_17 (fun σ3 => ?_)
  exact J_vret h rfl d_Exchange_forArguments_20
set_option maxRecDepth 100000 in
theorem cX_Exchange_forArguments (l : Launch) (D : va_G) (ad : Nat → Nat) (cA : Nat → ClassId) (x1 : Int32) (σ : SX) (r : Unit) (σ' : SX) (hf : X_Exchange_forArguments x1 σ = some (r, σ')) : MetV l y_Exchange_forArguments ((Cond.code y_Exchange_forArguments b_Exchange_forArguments 2 none) :: tblG) rX_Exchange_forArguments D clX (tysX cA) (wX ad cA) [.ref (ad 24), .int x1] σ r σ' :=
  jx_metV (by decide) rfl (Nat.le_of_ble_eq_true rfl) (fun K A h => J_X_Exchange_forArguments K D A ad cA h x1 σ) hf
def rX_Types_variablesIn : Room := { frames := 0, cells := 0, slots := 0, locals := 0 }
theorem rm_ok_X_Types_variablesIn : rX_Types_variablesIn.cells = 0 ∧ rX_Types_variablesIn.slots = 0 := ⟨rfl, rfl⟩
def X_Types_variablesIn (x1 : Int32) (σ : SX) : Option (Int32 × SX) := (if x1 < 0 then (some (0, σ)) else (if (gX_Types_size σ) ≤ x1 then (some (0, σ)) else (if ck x1 500 = true then (some ((aX_Types_variables σ x1.toNatClampNeg), σ)) else none)))
set_option maxRecDepth 100000 in
set_option maxHeartbeats 4000000 in
theorem J_X_Types_variablesIn (K : jx_E) (D : va_G) (A : Nat → Prop) (ad : Nat → Nat) (cA : Nat → ClassId) (h : jx_ok K D clX (tysX cA) A 2 b_Types_variablesIn y_Types_variablesIn.cls ((Cond.code y_Types_variablesIn b_Types_variablesIn 2 (some .int)) :: tblG) rX_Types_variablesIn (some .int)) : ∀ (x1 : Int32) (σ : SX), J K D clX A 2 (wX ad cA) (jx_Qi K D clX (tysX cA) (wX ad cA) A) 0 0 0 [(0, .ref (ad 7)), (1, .int x1)] [] σ (X_Types_variablesIn x1 σ) := by
  intro x1 σ
  rw [X_Types_variablesIn]
  refine J_iload_n (q := 1) h d_Types_variablesIn_0 rfl rfl ?_
  refine J_if_lt (tgt := 21) h d_Types_variablesIn_1 (by decide) ?_ ?_
  · refine J_iconst (v := 0) h d_Types_variablesIn_21 (by decide) ?_
    exact J_iret h rfl d_Types_variablesIn_22
  · refine J_iload_n (q := 1) h d_Types_variablesIn_4 rfl rfl ?_
    refine J_aload_n (q := 0) h d_Types_variablesIn_5 rfl rfl ?_
    refine J_getf h 7 (wX_7 ad cA σ) (tb_ups in_Types) rfl 10 (by decide) (tb_up q_1_71) rfl d_Types_variablesIn_6 ?_
    refine J_icmp_ge (tgt := 21) h d_Types_variablesIn_9 (by decide) ?_ ?_
    · refine J_iconst (v := 0) h d_Types_variablesIn_21 (by decide) ?_
      exact J_iret h rfl d_Types_variablesIn_22
    · refine J_aload_n (q := 0) h d_Types_variablesIn_12 rfl rfl ?_
      refine J_getf h 7 (wX_7 ad cA σ) (tb_ups in_Types) rfl 5 (by decide) (tb_up q_1_66) rfl d_Types_variablesIn_13 ?_
      refine J_iload_n (q := 1) h d_Types_variablesIn_16 rfl rfl ?_
      refine J_iald h 13 10 (wX_13 ad cA σ) rfl d_Types_variablesIn_17 ?_
      refine J_goto (tgt := 22) h d_Types_variablesIn_18 (by decide) ?_
      exact J_iret h rfl d_Types_variablesIn_22
set_option maxRecDepth 100000 in
theorem cX_Types_variablesIn (l : Launch) (D : va_G) (ad : Nat → Nat) (cA : Nat → ClassId) (x1 : Int32) (σ : SX) (r : Int32) (σ' : SX) (hf : X_Types_variablesIn x1 σ = some (r, σ')) : MetI l y_Types_variablesIn ((Cond.code y_Types_variablesIn b_Types_variablesIn 2 (some .int)) :: tblG) rX_Types_variablesIn D clX (tysX cA) (wX ad cA) [.ref (ad 7), .int x1] σ r σ' :=
  jx_metI (by decide) rfl (Nat.le_of_ble_eq_true rfl) (fun K A h => J_X_Types_variablesIn K D A ad cA h x1 σ) hf
def rX_Types_ownersIn : Room := { frames := 0, cells := 0, slots := 0, locals := 0 }
theorem rm_ok_X_Types_ownersIn : rX_Types_ownersIn.cells = 0 ∧ rX_Types_ownersIn.slots = 0 := ⟨rfl, rfl⟩
def X_Types_ownersIn (x1 : Int32) (x2 : Int32) (σ : SX) : Option (Int64 × SX) := (if x1 < 0 then (some (0, σ)) else (if x1 < (gX_Types_size σ) then (if (0 : Int32) ≤ x2 then (if ck x1 500 = true then (some (((aX_Types_owners σ x1.toNatClampNeg) &&& (((1 : Int64) <<< (x2.toInt64 &&& 63)) ^^^ (-1))), σ)) else none) else (if ck x1 500 = true then (some ((aX_Types_owners σ x1.toNatClampNeg), σ)) else none)) else (some (0, σ))))
set_option maxRecDepth 100000 in
set_option maxHeartbeats 4000000 in
theorem J_X_Types_ownersIn (K : jx_E) (D : va_G) (A : Nat → Prop) (ad : Nat → Nat) (cA : Nat → ClassId) (h : jx_ok K D clX (tysX cA) A 3 b_Types_ownersIn y_Types_ownersIn.cls ((Cond.code y_Types_ownersIn b_Types_ownersIn 3 (some .long)) :: tblG) rX_Types_ownersIn (some .long)) : ∀ (x1 : Int32) (x2 : Int32) (σ : SX), J K D clX A 3 (wX ad cA) (jx_Ql K D clX (tysX cA) (wX ad cA) A) 0 0 0 [(0, .ref (ad 7)), (1, .int x1), (2, .int x2)] [] σ (X_Types_ownersIn x1 x2 σ) := by
  intro x1 x2 σ
  rw [X_Types_ownersIn]
  refine J_iload_n (q := 1) h d_Types_ownersIn_0 rfl rfl ?_
  refine J_if_lt (tgt := 12) h d_Types_ownersIn_1 (by decide) ?_ ?_
  · refine J_lconst (v := 0) h d_Types_ownersIn_12 (by decide) ?_
    exact J_lret h rfl d_Types_ownersIn_13
  · refine J_iload_n (q := 1) h d_Types_ownersIn_4 rfl rfl ?_
    refine J_aload_n (q := 0) h d_Types_ownersIn_5 rfl rfl ?_
    refine J_getf h 7 (wX_7 ad cA σ) (tb_ups in_Types) rfl 10 (by decide) (tb_up q_1_71) rfl d_Types_ownersIn_6 ?_
    refine J_icmp_lt (tgt := 14) h d_Types_ownersIn_9 (by decide) ?_ ?_
    · refine J_iload_n (q := 2) h d_Types_ownersIn_14 rfl rfl ?_
      refine J_if_ge (tgt := 27) h d_Types_ownersIn_15 (by decide) ?_ ?_
      · refine J_aload_n (q := 0) h d_Types_ownersIn_27 rfl rfl ?_
        refine J_getf h 7 (wX_7 ad cA σ) (tb_ups in_Types) rfl 6 (by decide) (tb_up q_1_67) rfl d_Types_ownersIn_28 ?_
        refine J_iload_n (q := 1) h d_Types_ownersIn_31 rfl rfl ?_
        refine J_lald h 14 11 (wX_14 ad cA σ) rfl d_Types_ownersIn_32 ?_
        refine J_lconst (v := 1) h d_Types_ownersIn_33 (by decide) ?_
        refine J_iload_n (q := 2) h d_Types_ownersIn_34 rfl rfl ?_
        refine J_lshl h d_Types_ownersIn_35 ?_
        refine J_ldc2 (v := (-1)) h d_Types_ownersIn_36 (tb_up q_2_156) ?_
        refine J_lxor h d_Types_ownersIn_39 ?_
        refine J_land h d_Types_ownersIn_40 ?_
        exact J_lret h rfl d_Types_ownersIn_41
      · refine J_aload_n (q := 0) h d_Types_ownersIn_18 rfl rfl ?_
        refine J_getf h 7 (wX_7 ad cA σ) (tb_ups in_Types) rfl 6 (by decide) (tb_up q_1_67) rfl d_Types_ownersIn_19 ?_
        refine J_iload_n (q := 1) h d_Types_ownersIn_22 rfl rfl ?_
        refine J_lald h 14 11 (wX_14 ad cA σ) rfl d_Types_ownersIn_23 ?_
        refine J_goto (tgt := 41) h d_Types_ownersIn_24 (by decide) ?_
        exact J_lret h rfl d_Types_ownersIn_41
    · refine J_lconst (v := 0) h d_Types_ownersIn_12 (by decide) ?_
      exact J_lret h rfl d_Types_ownersIn_13
set_option maxRecDepth 100000 in
theorem cX_Types_ownersIn (l : Launch) (D : va_G) (ad : Nat → Nat) (cA : Nat → ClassId) (x1 : Int32) (x2 : Int32) (σ : SX) (r : Int64) (σ' : SX) (hf : X_Types_ownersIn x1 x2 σ = some (r, σ')) : MetL l y_Types_ownersIn ((Cond.code y_Types_ownersIn b_Types_ownersIn 3 (some .long)) :: tblG) rX_Types_ownersIn D clX (tysX cA) (wX ad cA) [.ref (ad 7), .int x1, .int x2] σ r σ' :=
  jx_metL (by decide) rfl (Nat.le_of_ble_eq_true rfl) (fun K A h => J_X_Types_ownersIn K D A ad cA h x1 x2 σ) hf
def rX_Types_kindOf : Room := { frames := 0, cells := 0, slots := 0, locals := 0 }
theorem rm_ok_X_Types_kindOf : rX_Types_kindOf.cells = 0 ∧ rX_Types_kindOf.slots = 0 := ⟨rfl, rfl⟩
def X_Types_kindOf (x1 : Int32) (σ : SX) : Option (Int32 × SX) := (if x1 < 0 then (some ((-1), σ)) else (if (gX_Types_size σ) ≤ x1 then (some ((-1), σ)) else (if ck x1 500 = true then (some ((aX_Types_kind σ x1.toNatClampNeg), σ)) else none)))
set_option maxRecDepth 100000 in
set_option maxHeartbeats 4000000 in
theorem J_X_Types_kindOf (K : jx_E) (D : va_G) (A : Nat → Prop) (ad : Nat → Nat) (cA : Nat → ClassId) (h : jx_ok K D clX (tysX cA) A 2 b_Types_kindOf y_Types_kindOf.cls ((Cond.code y_Types_kindOf b_Types_kindOf 2 (some .int)) :: tblG) rX_Types_kindOf (some .int)) : ∀ (x1 : Int32) (σ : SX), J K D clX A 2 (wX ad cA) (jx_Qi K D clX (tysX cA) (wX ad cA) A) 0 0 0 [(0, .ref (ad 7)), (1, .int x1)] [] σ (X_Types_kindOf x1 σ) := by
  intro x1 σ
  rw [X_Types_kindOf]
  refine J_iload_n (q := 1) h d_Types_kindOf_0 rfl rfl ?_
  refine J_if_lt (tgt := 21) h d_Types_kindOf_1 (by decide) ?_ ?_
  · refine J_iconst (v := (-1)) h d_Types_kindOf_21 (by decide) ?_
    exact J_iret h rfl d_Types_kindOf_22
  · refine J_iload_n (q := 1) h d_Types_kindOf_4 rfl rfl ?_
    refine J_aload_n (q := 0) h d_Types_kindOf_5 rfl rfl ?_
    refine J_getf h 7 (wX_7 ad cA σ) (tb_ups in_Types) rfl 10 (by decide) (tb_up q_1_71) rfl d_Types_kindOf_6 ?_
    refine J_icmp_ge (tgt := 21) h d_Types_kindOf_9 (by decide) ?_ ?_
    · refine J_iconst (v := (-1)) h d_Types_kindOf_21 (by decide) ?_
      exact J_iret h rfl d_Types_kindOf_22
    · refine J_aload_n (q := 0) h d_Types_kindOf_12 rfl rfl ?_
      refine J_getf h 7 (wX_7 ad cA σ) (tb_ups in_Types) rfl 0 (by decide) (tb_up q_1_61) rfl d_Types_kindOf_13 ?_
      refine J_iload_n (q := 1) h d_Types_kindOf_16 rfl rfl ?_
      refine J_iald h 8 5 (wX_8 ad cA σ) rfl d_Types_kindOf_17 ?_
      refine J_goto (tgt := 22) h d_Types_kindOf_18 (by decide) ?_
      exact J_iret h rfl d_Types_kindOf_22
set_option maxRecDepth 100000 in
theorem cX_Types_kindOf (l : Launch) (D : va_G) (ad : Nat → Nat) (cA : Nat → ClassId) (x1 : Int32) (σ : SX) (r : Int32) (σ' : SX) (hf : X_Types_kindOf x1 σ = some (r, σ')) : MetI l y_Types_kindOf ((Cond.code y_Types_kindOf b_Types_kindOf 2 (some .int)) :: tblG) rX_Types_kindOf D clX (tysX cA) (wX ad cA) [.ref (ad 7), .int x1] σ r σ' :=
  jx_metI (by decide) rfl (Nat.le_of_ble_eq_true rfl) (fun K A h => J_X_Types_kindOf K D A ad cA h x1 σ) hf
def rX_Types_firstOf : Room := { frames := 0, cells := 0, slots := 0, locals := 0 }
theorem rm_ok_X_Types_firstOf : rX_Types_firstOf.cells = 0 ∧ rX_Types_firstOf.slots = 0 := ⟨rfl, rfl⟩
def X_Types_firstOf (x1 : Int32) (σ : SX) : Option (Int32 × SX) := (if x1 < 0 then (some ((-1), σ)) else (if (gX_Types_size σ) ≤ x1 then (some ((-1), σ)) else (if ck x1 500 = true then (some ((aX_Types_first σ x1.toNatClampNeg), σ)) else none)))
set_option maxRecDepth 100000 in
set_option maxHeartbeats 4000000 in
theorem J_X_Types_firstOf (K : jx_E) (D : va_G) (A : Nat → Prop) (ad : Nat → Nat) (cA : Nat → ClassId) (h : jx_ok K D clX (tysX cA) A 2 b_Types_firstOf y_Types_firstOf.cls ((Cond.code y_Types_firstOf b_Types_firstOf 2 (some .int)) :: tblG) rX_Types_firstOf (some .int)) : ∀ (x1 : Int32) (σ : SX), J K D clX A 2 (wX ad cA) (jx_Qi K D clX (tysX cA) (wX ad cA) A) 0 0 0 [(0, .ref (ad 7)), (1, .int x1)] [] σ (X_Types_firstOf x1 σ) := by
  intro x1 σ
  rw [X_Types_firstOf]
  refine J_iload_n (q := 1) h d_Types_firstOf_0 rfl rfl ?_
  refine J_if_lt (tgt := 21) h d_Types_firstOf_1 (by decide) ?_ ?_
  · refine J_iconst (v := (-1)) h d_Types_firstOf_21 (by decide) ?_
    exact J_iret h rfl d_Types_firstOf_22
  · refine J_iload_n (q := 1) h d_Types_firstOf_4 rfl rfl ?_
    refine J_aload_n (q := 0) h d_Types_firstOf_5 rfl rfl ?_
    refine J_getf h 7 (wX_7 ad cA σ) (tb_ups in_Types) rfl 10 (by decide) (tb_up q_1_71) rfl d_Types_firstOf_6 ?_
    refine J_icmp_ge (tgt := 21) h d_Types_firstOf_9 (by decide) ?_ ?_
    · refine J_iconst (v := (-1)) h d_Types_firstOf_21 (by decide) ?_
      exact J_iret h rfl d_Types_firstOf_22
    · refine J_aload_n (q := 0) h d_Types_firstOf_12 rfl rfl ?_
      refine J_getf h 7 (wX_7 ad cA σ) (tb_ups in_Types) rfl 1 (by decide) (tb_up q_1_62) rfl d_Types_firstOf_13 ?_
      refine J_iload_n (q := 1) h d_Types_firstOf_16 rfl rfl ?_
      refine J_iald h 9 6 (wX_9 ad cA σ) rfl d_Types_firstOf_17 ?_
      refine J_goto (tgt := 22) h d_Types_firstOf_18 (by decide) ?_
      exact J_iret h rfl d_Types_firstOf_22
set_option maxRecDepth 100000 in
theorem cX_Types_firstOf (l : Launch) (D : va_G) (ad : Nat → Nat) (cA : Nat → ClassId) (x1 : Int32) (σ : SX) (r : Int32) (σ' : SX) (hf : X_Types_firstOf x1 σ = some (r, σ')) : MetI l y_Types_firstOf ((Cond.code y_Types_firstOf b_Types_firstOf 2 (some .int)) :: tblG) rX_Types_firstOf D clX (tysX cA) (wX ad cA) [.ref (ad 7), .int x1] σ r σ' :=
  jx_metI (by decide) rfl (Nat.le_of_ble_eq_true rfl) (fun K A h => J_X_Types_firstOf K D A ad cA h x1 σ) hf
def rX_Types_secondOf : Room := { frames := 0, cells := 0, slots := 0, locals := 0 }
theorem rm_ok_X_Types_secondOf : rX_Types_secondOf.cells = 0 ∧ rX_Types_secondOf.slots = 0 := ⟨rfl, rfl⟩
def X_Types_secondOf (x1 : Int32) (σ : SX) : Option (Int32 × SX) := (if x1 < 0 then (some ((-1), σ)) else (if (gX_Types_size σ) ≤ x1 then (some ((-1), σ)) else (if ck x1 500 = true then (some ((aX_Types_second σ x1.toNatClampNeg), σ)) else none)))
set_option maxRecDepth 100000 in
set_option maxHeartbeats 4000000 in
theorem J_X_Types_secondOf (K : jx_E) (D : va_G) (A : Nat → Prop) (ad : Nat → Nat) (cA : Nat → ClassId) (h : jx_ok K D clX (tysX cA) A 2 b_Types_secondOf y_Types_secondOf.cls ((Cond.code y_Types_secondOf b_Types_secondOf 2 (some .int)) :: tblG) rX_Types_secondOf (some .int)) : ∀ (x1 : Int32) (σ : SX), J K D clX A 2 (wX ad cA) (jx_Qi K D clX (tysX cA) (wX ad cA) A) 0 0 0 [(0, .ref (ad 7)), (1, .int x1)] [] σ (X_Types_secondOf x1 σ) := by
  intro x1 σ
  rw [X_Types_secondOf]
  refine J_iload_n (q := 1) h d_Types_secondOf_0 rfl rfl ?_
  refine J_if_lt (tgt := 21) h d_Types_secondOf_1 (by decide) ?_ ?_
  · refine J_iconst (v := (-1)) h d_Types_secondOf_21 (by decide) ?_
    exact J_iret h rfl d_Types_secondOf_22
  · refine J_iload_n (q := 1) h d_Types_secondOf_4 rfl rfl ?_
    refine J_aload_n (q := 0) h d_Types_secondOf_5 rfl rfl ?_
    refine J_getf h 7 (wX_7 ad cA σ) (tb_ups in_Types) rfl 10 (by decide) (tb_up q_1_71) rfl d_Types_secondOf_6 ?_
    refine J_icmp_ge (tgt := 21) h d_Types_secondOf_9 (by decide) ?_ ?_
    · refine J_iconst (v := (-1)) h d_Types_secondOf_21 (by decide) ?_
      exact J_iret h rfl d_Types_secondOf_22
    · refine J_aload_n (q := 0) h d_Types_secondOf_12 rfl rfl ?_
      refine J_getf h 7 (wX_7 ad cA σ) (tb_ups in_Types) rfl 2 (by decide) (tb_up q_1_63) rfl d_Types_secondOf_13 ?_
      refine J_iload_n (q := 1) h d_Types_secondOf_16 rfl rfl ?_
      refine J_iald h 10 7 (wX_10 ad cA σ) rfl d_Types_secondOf_17 ?_
      refine J_goto (tgt := 22) h d_Types_secondOf_18 (by decide) ?_
      exact J_iret h rfl d_Types_secondOf_22
set_option maxRecDepth 100000 in
theorem cX_Types_secondOf (l : Launch) (D : va_G) (ad : Nat → Nat) (cA : Nat → ClassId) (x1 : Int32) (σ : SX) (r : Int32) (σ' : SX) (hf : X_Types_secondOf x1 σ = some (r, σ')) : MetI l y_Types_secondOf ((Cond.code y_Types_secondOf b_Types_secondOf 2 (some .int)) :: tblG) rX_Types_secondOf D clX (tysX cA) (wX ad cA) [.ref (ad 7), .int x1] σ r σ' :=
  jx_metI (by decide) rfl (Nat.le_of_ble_eq_true rfl) (fun K A h => J_X_Types_secondOf K D A ad cA h x1 σ) hf
def rX_Types_thirdOf : Room := { frames := 0, cells := 0, slots := 0, locals := 0 }
theorem rm_ok_X_Types_thirdOf : rX_Types_thirdOf.cells = 0 ∧ rX_Types_thirdOf.slots = 0 := ⟨rfl, rfl⟩
def X_Types_thirdOf (x1 : Int32) (σ : SX) : Option (Int32 × SX) := (if x1 < 0 then (some ((-1), σ)) else (if (gX_Types_size σ) ≤ x1 then (some ((-1), σ)) else (if ck x1 500 = true then (some ((aX_Types_third σ x1.toNatClampNeg), σ)) else none)))
set_option maxRecDepth 100000 in
set_option maxHeartbeats 4000000 in
theorem J_X_Types_thirdOf (K : jx_E) (D : va_G) (A : Nat → Prop) (ad : Nat → Nat) (cA : Nat → ClassId) (h : jx_ok K D clX (tysX cA) A 2 b_Types_thirdOf y_Types_thirdOf.cls ((Cond.code y_Types_thirdOf b_Types_thirdOf 2 (some .int)) :: tblG) rX_Types_thirdOf (some .int)) : ∀ (x1 : Int32) (σ : SX), J K D clX A 2 (wX ad cA) (jx_Qi K D clX (tysX cA) (wX ad cA) A) 0 0 0 [(0, .ref (ad 7)), (1, .int x1)] [] σ (X_Types_thirdOf x1 σ) := by
  intro x1 σ
  rw [X_Types_thirdOf]
  refine J_iload_n (q := 1) h d_Types_thirdOf_0 rfl rfl ?_
  refine J_if_lt (tgt := 21) h d_Types_thirdOf_1 (by decide) ?_ ?_
  · refine J_iconst (v := (-1)) h d_Types_thirdOf_21 (by decide) ?_
    exact J_iret h rfl d_Types_thirdOf_22
  · refine J_iload_n (q := 1) h d_Types_thirdOf_4 rfl rfl ?_
    refine J_aload_n (q := 0) h d_Types_thirdOf_5 rfl rfl ?_
    refine J_getf h 7 (wX_7 ad cA σ) (tb_ups in_Types) rfl 10 (by decide) (tb_up q_1_71) rfl d_Types_thirdOf_6 ?_
    refine J_icmp_ge (tgt := 21) h d_Types_thirdOf_9 (by decide) ?_ ?_
    · refine J_iconst (v := (-1)) h d_Types_thirdOf_21 (by decide) ?_
      exact J_iret h rfl d_Types_thirdOf_22
    · refine J_aload_n (q := 0) h d_Types_thirdOf_12 rfl rfl ?_
      refine J_getf h 7 (wX_7 ad cA σ) (tb_ups in_Types) rfl 3 (by decide) (tb_up q_1_64) rfl d_Types_thirdOf_13 ?_
      refine J_iload_n (q := 1) h d_Types_thirdOf_16 rfl rfl ?_
      refine J_iald h 11 8 (wX_11 ad cA σ) rfl d_Types_thirdOf_17 ?_
      refine J_goto (tgt := 22) h d_Types_thirdOf_18 (by decide) ?_
      exact J_iret h rfl d_Types_thirdOf_22
set_option maxRecDepth 100000 in
theorem cX_Types_thirdOf (l : Launch) (D : va_G) (ad : Nat → Nat) (cA : Nat → ClassId) (x1 : Int32) (σ : SX) (r : Int32) (σ' : SX) (hf : X_Types_thirdOf x1 σ = some (r, σ')) : MetI l y_Types_thirdOf ((Cond.code y_Types_thirdOf b_Types_thirdOf 2 (some .int)) :: tblG) rX_Types_thirdOf D clX (tysX cA) (wX ad cA) [.ref (ad 7), .int x1] σ r σ' :=
  jx_metI (by decide) rfl (Nat.le_of_ble_eq_true rfl) (fun K A h => J_X_Types_thirdOf K D A ad cA h x1 σ) hf
def rX_Types_argumentOf : Room := { frames := 0, cells := 0, slots := 0, locals := 0 }
theorem rm_ok_X_Types_argumentOf : rX_Types_argumentOf.cells = 0 ∧ rX_Types_argumentOf.slots = 0 := ⟨rfl, rfl⟩
def X_Types_argumentOf (x1 : Int32) (x2 : Int32) (σ : SX) : Option (Int32 × SX) := (if x1 < 0 then (some ((-1), σ)) else (if x1 < (gX_Types_size σ) then (if x2 = 0 then (if ck x1 500 = true then (some ((aX_Types_second σ x1.toNatClampNeg), σ)) else none) else (if ck x1 500 = true then (some ((aX_Types_third σ x1.toNatClampNeg), σ)) else none)) else (some ((-1), σ))))
set_option maxRecDepth 100000 in
set_option maxHeartbeats 4000000 in
theorem J_X_Types_argumentOf (K : jx_E) (D : va_G) (A : Nat → Prop) (ad : Nat → Nat) (cA : Nat → ClassId) (h : jx_ok K D clX (tysX cA) A 3 b_Types_argumentOf y_Types_argumentOf.cls ((Cond.code y_Types_argumentOf b_Types_argumentOf 3 (some .int)) :: tblG) rX_Types_argumentOf (some .int)) : ∀ (x1 : Int32) (x2 : Int32) (σ : SX), J K D clX A 3 (wX ad cA) (jx_Qi K D clX (tysX cA) (wX ad cA) A) 0 0 0 [(0, .ref (ad 7)), (1, .int x1), (2, .int x2)] [] σ (X_Types_argumentOf x1 x2 σ) := by
  intro x1 x2 σ
  rw [X_Types_argumentOf]
  refine J_iload_n (q := 1) h d_Types_argumentOf_0 rfl rfl ?_
  refine J_if_lt (tgt := 12) h d_Types_argumentOf_1 (by decide) ?_ ?_
  · refine J_iconst (v := (-1)) h d_Types_argumentOf_12 (by decide) ?_
    exact J_iret h rfl d_Types_argumentOf_13
  · refine J_iload_n (q := 1) h d_Types_argumentOf_4 rfl rfl ?_
    refine J_aload_n (q := 0) h d_Types_argumentOf_5 rfl rfl ?_
    refine J_getf h 7 (wX_7 ad cA σ) (tb_ups in_Types) rfl 10 (by decide) (tb_up q_1_71) rfl d_Types_argumentOf_6 ?_
    refine J_icmp_lt (tgt := 14) h d_Types_argumentOf_9 (by decide) ?_ ?_
    · refine J_iload_n (q := 2) h d_Types_argumentOf_14 rfl rfl ?_
      refine J_if_ne (tgt := 27) h d_Types_argumentOf_15 (by decide) ?_ ?_
      · refine J_aload_n (q := 0) h d_Types_argumentOf_18 rfl rfl ?_
        refine J_getf h 7 (wX_7 ad cA σ) (tb_ups in_Types) rfl 2 (by decide) (tb_up q_1_63) rfl d_Types_argumentOf_19 ?_
        refine J_iload_n (q := 1) h d_Types_argumentOf_22 rfl rfl ?_
        refine J_iald h 10 7 (wX_10 ad cA σ) rfl d_Types_argumentOf_23 ?_
        refine J_goto (tgt := 33) h d_Types_argumentOf_24 (by decide) ?_
        exact J_iret h rfl d_Types_argumentOf_33
      · refine J_aload_n (q := 0) h d_Types_argumentOf_27 rfl rfl ?_
        refine J_getf h 7 (wX_7 ad cA σ) (tb_ups in_Types) rfl 3 (by decide) (tb_up q_1_64) rfl d_Types_argumentOf_28 ?_
        refine J_iload_n (q := 1) h d_Types_argumentOf_31 rfl rfl ?_
        refine J_iald h 11 8 (wX_11 ad cA σ) rfl d_Types_argumentOf_32 ?_
        exact J_iret h rfl d_Types_argumentOf_33
    · refine J_iconst (v := (-1)) h d_Types_argumentOf_12 (by decide) ?_
      exact J_iret h rfl d_Types_argumentOf_13
set_option maxRecDepth 100000 in
theorem cX_Types_argumentOf (l : Launch) (D : va_G) (ad : Nat → Nat) (cA : Nat → ClassId) (x1 : Int32) (x2 : Int32) (σ : SX) (r : Int32) (σ' : SX) (hf : X_Types_argumentOf x1 x2 σ = some (r, σ')) : MetI l y_Types_argumentOf ((Cond.code y_Types_argumentOf b_Types_argumentOf 3 (some .int)) :: tblG) rX_Types_argumentOf D clX (tysX cA) (wX ad cA) [.ref (ad 7), .int x1, .int x2] σ r σ' :=
  jx_metI (by decide) rfl (Nat.le_of_ble_eq_true rfl) (fun K A h => J_X_Types_argumentOf K D A ad cA h x1 x2 σ) hf
def rX_Types_make : Room := { frames := 0, cells := 0, slots := 0, locals := 0 }
theorem rm_ok_X_Types_make : rX_Types_make.cells = 0 ∧ rX_Types_make.slots = 0 := ⟨rfl, rfl⟩
def X_Types_make_b104 (N : Nat) (k34 : Int32 → Int32 → Int32 → Int32 → Int32 → Int32 → Int32 → SX → Option (Int32 × SX)) (v1 : Int32) (v2 : Int32) (v3 : Int32) (v4 : Int32) (v5 : Int32) (v6 : Int32) (v7 : Int32) (σ : SX) : Option (Int32 × SX) := (if ck v6 500 = true then (nm ((aX_Types_chainNext σ v6.toNatClampNeg)) (fun (y3 : Int32) => (nm (v7 + 1) (fun (y4 : Int32) => (k34 v1 v2 v3 v4 v5 y3 y4 σ))))) else none)
set_option maxRecDepth 100000 in
set_option maxHeartbeats 4000000 in
theorem J_X_Types_make_b104 (K : jx_E) (D : va_G) (A : Nat → Prop) (ad : Nat → Nat) (cA : Nat → ClassId) (N : Nat) (h : jx_ok K D clX (tysX cA) A 15 b_Types_make y_Types_make.cls ((Cond.code y_Types_make b_Types_make 15 (some .int)) :: tblG) rX_Types_make (some .int)) (k34 : Int32 → Int32 → Int32 → Int32 → Int32 → Int32 → Int32 → SX → Option (Int32 × SX)) (hk34 : ∀ (v1 : Int32) (v2 : Int32) (v3 : Int32) (v4 : Int32) (v5 : Int32) (v6 : Int32) (v7 : Int32) (σ : SX), J K D clX A 15 (wX ad cA) (jx_Qi K D clX (tysX cA) (wX ad cA) A) 0 0 34 [(0, .ref (ad 7)), (1, .int v1), (2, .int v2), (3, .int v3), (4, .int v4), (5, .int v5), (6, .int v6), (7, .int v7)] [] σ (k34 v1 v2 v3 v4 v5 v6 v7 σ)) : ∀ (v1 : Int32) (v2 : Int32) (v3 : Int32) (v4 : Int32) (v5 : Int32) (v6 : Int32) (v7 : Int32) (σ : SX), J K D clX A 15 (wX ad cA) (jx_Qi K D clX (tysX cA) (wX ad cA) A) 0 0 104 [(0, .ref (ad 7)), (1, .int v1), (2, .int v2), (3, .int v3), (4, .int v4), (5, .int v5), (6, .int v6), (7, .int v7)] [] σ (X_Types_make_b104 N k34 v1 v2 v3 v4 v5 v6 v7 σ) := by
  intro v1 v2 v3 v4 v5 v6 v7 σ
  rw [X_Types_make_b104]
  refine J_aload_n (q := 0) h d_Types_make_104 rfl rfl ?_
  refine J_getf h 7 (wX_7 ad cA σ) (tb_ups in_Types) rfl 9 (by decide) (tb_up q_1_70) rfl d_Types_make_105 ?_
  refine J_iload (q := 6) h d_Types_make_108 rfl ?_
  refine J_iald h 17 14 (wX_17 ad cA σ) rfl d_Types_make_110 ?_
  refine J_nmi (fun y3 => ?_)
  refine J_istore (lv' := [(6, .int y3), (0, .ref (ad 7)), (1, .int v1), (2, .int v2), (3, .int v3), (4, .int v4), (5, .int v5), (7, .int v7)]) h d_Types_make_111 (by decide) rfl ?_
  refine J_iinc (q := 7) (c := 1) (lv' := fun y4 => [(7, .int y4), (6, .int y3), (0, .ref (ad 7)), (1, .int v1), (2, .int v2), (3, .int v3), (4, .int v4), (5, .int v5)]) h d_Types_make_113 rfl (by decide) (by decide) (fun _ => rfl) (fun y4 => ?_)
  refine J_goto (tgt := 34) h d_Types_make_116 (by decide) ?_
  refine J_sub [2, 3, 4, 5, 6, 7, 1, 0] rfl ?_
  exact hk34 v1 v2 v3 v4 v5 y3 y4 σ
def X_Types_make_L34 (N : Nat) (k119 : Int32 → Int32 → Int32 → Int32 → Int32 → SX → Option (Int32 × SX)) : Nat → Int32 → Int32 → Int32 → Int32 → Int32 → Int32 → Int32 → SX → Option (Int32 × SX)
  | 0, _, _, _, _, _, _, _, _ => none
  | n + 1, v1, v2, v3, v4, v5, v6, v7, σ => (if (500 : Int32) ≤ v7 then (k119 v1 v2 v3 v4 v5 σ) else (if v6 < 0 then (k119 v1 v2 v3 v4 v5 σ) else (if (gX_Types_size σ) ≤ v6 then (k119 v1 v2 v3 v4 v5 σ) else (if ck v6 500 = true then (if (aX_Types_kind σ v6.toNatClampNeg) = v1 then (if ck v6 500 = true then (if (aX_Types_first σ v6.toNatClampNeg) = v2 then (if ck v6 500 = true then (if (aX_Types_second σ v6.toNatClampNeg) = v3 then (if ck v6 500 = true then (if (aX_Types_third σ v6.toNatClampNeg) = v4 then (some (v6, σ)) else (X_Types_make_b104 N (X_Types_make_L34 N k119 n) v1 v2 v3 v4 v5 v6 v7 σ)) else none) else (X_Types_make_b104 N (X_Types_make_L34 N k119 n) v1 v2 v3 v4 v5 v6 v7 σ)) else none) else (X_Types_make_b104 N (X_Types_make_L34 N k119 n) v1 v2 v3 v4 v5 v6 v7 σ)) else none) else (X_Types_make_b104 N (X_Types_make_L34 N k119 n) v1 v2 v3 v4 v5 v6 v7 σ)) else none))))
set_option maxRecDepth 100000 in
set_option maxHeartbeats 4000000 in
theorem J_X_Types_make_L34 (K : jx_E) (D : va_G) (A : Nat → Prop) (ad : Nat → Nat) (cA : Nat → ClassId) (N : Nat) (h : jx_ok K D clX (tysX cA) A 15 b_Types_make y_Types_make.cls ((Cond.code y_Types_make b_Types_make 15 (some .int)) :: tblG) rX_Types_make (some .int)) (k119 : Int32 → Int32 → Int32 → Int32 → Int32 → SX → Option (Int32 × SX)) (hk119 : ∀ (v1 : Int32) (v2 : Int32) (v3 : Int32) (v4 : Int32) (v5 : Int32) (σ : SX), J K D clX A 15 (wX ad cA) (jx_Qi K D clX (tysX cA) (wX ad cA) A) 0 0 119 [(0, .ref (ad 7)), (1, .int v1), (2, .int v2), (3, .int v3), (4, .int v4), (5, .int v5)] [] σ (k119 v1 v2 v3 v4 v5 σ)) : ∀ (n : Nat) (v1 : Int32) (v2 : Int32) (v3 : Int32) (v4 : Int32) (v5 : Int32) (v6 : Int32) (v7 : Int32) (σ : SX), J K D clX A 15 (wX ad cA) (jx_Qi K D clX (tysX cA) (wX ad cA) A) 0 0 34 [(0, .ref (ad 7)), (1, .int v1), (2, .int v2), (3, .int v3), (4, .int v4), (5, .int v5), (6, .int v6), (7, .int v7)] [] σ (X_Types_make_L34 N k119 n v1 v2 v3 v4 v5 v6 v7 σ) := by
  intro n
  induction n with
  | zero => intro v1 v2 v3 v4 v5 v6 v7 σ; exact J_none
  | succ n ih =>
    intro v1 v2 v3 v4 v5 v6 v7 σ
    rw [X_Types_make_L34]
    refine J_iload (q := 7) h d_Types_make_34 rfl ?_
    refine J_sipush (v := 500) h d_Types_make_36 (by decide) ?_
    refine J_icmp_ge (tgt := 119) h d_Types_make_39 (by decide) ?_ ?_
    · refine J_sub [0, 1, 2, 3, 4, 5] rfl ?_
      exact hk119 v1 v2 v3 v4 v5 σ
    · refine J_iload (q := 6) h d_Types_make_42 rfl ?_
      refine J_if_lt (tgt := 119) h d_Types_make_44 (by decide) ?_ ?_
      · refine J_sub [0, 1, 2, 3, 4, 5] rfl ?_
        exact hk119 v1 v2 v3 v4 v5 σ
      · refine J_iload (q := 6) h d_Types_make_47 rfl ?_
        refine J_aload_n (q := 0) h d_Types_make_49 rfl rfl ?_
        refine J_getf h 7 (wX_7 ad cA σ) (tb_ups in_Types) rfl 10 (by decide) (tb_up q_1_71) rfl d_Types_make_50 ?_
        refine J_icmp_ge (tgt := 119) h d_Types_make_53 (by decide) ?_ ?_
        · refine J_sub [0, 1, 2, 3, 4, 5] rfl ?_
          exact hk119 v1 v2 v3 v4 v5 σ
        · refine J_aload_n (q := 0) h d_Types_make_56 rfl rfl ?_
          refine J_getf h 7 (wX_7 ad cA σ) (tb_ups in_Types) rfl 0 (by decide) (tb_up q_1_61) rfl d_Types_make_57 ?_
          refine J_iload (q := 6) h d_Types_make_60 rfl ?_
          refine J_iald h 8 5 (wX_8 ad cA σ) rfl d_Types_make_62 ?_
          refine J_iload_n (q := 1) h d_Types_make_63 rfl rfl ?_
          refine J_icmp_ne (tgt := 104) h d_Types_make_64 (by decide) ?_ ?_
          · refine J_aload_n (q := 0) h d_Types_make_67 rfl rfl ?_
            refine J_getf h 7 (wX_7 ad cA σ) (tb_ups in_Types) rfl 1 (by decide) (tb_up q_1_62) rfl d_Types_make_68 ?_
            refine J_iload (q := 6) h d_Types_make_71 rfl ?_
            refine J_iald h 9 6 (wX_9 ad cA σ) rfl d_Types_make_73 ?_
            refine J_iload_n (q := 2) h d_Types_make_74 rfl rfl ?_
            refine J_icmp_ne (tgt := 104) h d_Types_make_75 (by decide) ?_ ?_
            · refine J_aload_n (q := 0) h d_Types_make_78 rfl rfl ?_
              refine J_getf h 7 (wX_7 ad cA σ) (tb_ups in_Types) rfl 2 (by decide) (tb_up q_1_63) rfl d_Types_make_79 ?_
              refine J_iload (q := 6) h d_Types_make_82 rfl ?_
              refine J_iald h 10 7 (wX_10 ad cA σ) rfl d_Types_make_84 ?_
              refine J_iload_n (q := 3) h d_Types_make_85 rfl rfl ?_
              refine J_icmp_ne (tgt := 104) h d_Types_make_86 (by decide) ?_ ?_
              · refine J_aload_n (q := 0) h d_Types_make_89 rfl rfl ?_
                refine J_getf h 7 (wX_7 ad cA σ) (tb_ups in_Types) rfl 3 (by decide) (tb_up q_1_64) rfl d_Types_make_90 ?_
                refine J_iload (q := 6) h d_Types_make_93 rfl ?_
                refine J_iald h 11 8 (wX_11 ad cA σ) rfl d_Types_make_95 ?_
                refine J_iload (q := 4) h d_Types_make_96 rfl ?_
                refine J_icmp_ne (tgt := 104) h d_Types_make_98 (by decide) ?_ ?_
                · refine J_iload (q := 6) h d_Types_make_101 rfl ?_
                  exact J_iret h rfl d_Types_make_103
                · exact J_X_Types_make_b104 K D A ad cA N h (X_Types_make_L34 N k119 n) ih v1 v2 v3 v4 v5 v6 v7 σ
              · exact J_X_Types_make_b104 K D A ad cA N h (X_Types_make_L34 N k119 n) ih v1 v2 v3 v4 v5 v6 v7 σ
            · exact J_X_Types_make_b104 K D A ad cA N h (X_Types_make_L34 N k119 n) ih v1 v2 v3 v4 v5 v6 v7 σ
          · exact J_X_Types_make_b104 K D A ad cA N h (X_Types_make_L34 N k119 n) ih v1 v2 v3 v4 v5 v6 v7 σ
def X_Types_make_b310 (N : Nat) (k172 : Int32 → Int32 → Int32 → Int32 → Int32 → Int32 → Int32 → Int64 → Int64 → Int32 → SX → Option (Int32 × SX)) (v1 : Int32) (v2 : Int32) (v3 : Int32) (v4 : Int32) (v5 : Int32) (v7 : Int32) (v8 : Int32) (v9 : Int64) (v11 : Int64) (v13 : Int32) (σ : SX) : Option (Int32 × SX) := (nm (v13 + 1) (fun (y5 : Int32) => (k172 v1 v2 v3 v4 v5 v7 v8 v9 v11 y5 σ)))
set_option maxRecDepth 100000 in
set_option maxHeartbeats 4000000 in
theorem J_X_Types_make_b310 (K : jx_E) (D : va_G) (A : Nat → Prop) (ad : Nat → Nat) (cA : Nat → ClassId) (N : Nat) (h : jx_ok K D clX (tysX cA) A 15 b_Types_make y_Types_make.cls ((Cond.code y_Types_make b_Types_make 15 (some .int)) :: tblG) rX_Types_make (some .int)) (k172 : Int32 → Int32 → Int32 → Int32 → Int32 → Int32 → Int32 → Int64 → Int64 → Int32 → SX → Option (Int32 × SX)) (hk172 : ∀ (v1 : Int32) (v2 : Int32) (v3 : Int32) (v4 : Int32) (v5 : Int32) (v7 : Int32) (v8 : Int32) (v9 : Int64) (v11 : Int64) (v13 : Int32) (σ : SX), J K D clX A 15 (wX ad cA) (jx_Qi K D clX (tysX cA) (wX ad cA) A) 0 0 172 [(0, .ref (ad 7)), (1, .int v1), (2, .int v2), (3, .int v3), (4, .int v4), (5, .int v5), (7, .int v7), (8, .int v8), (9, .long v9), (11, .long v11), (13, .int v13)] [] σ (k172 v1 v2 v3 v4 v5 v7 v8 v9 v11 v13 σ)) : ∀ (v1 : Int32) (v2 : Int32) (v3 : Int32) (v4 : Int32) (v5 : Int32) (v7 : Int32) (v8 : Int32) (v9 : Int64) (v11 : Int64) (v13 : Int32) (σ : SX), J K D clX A 15 (wX ad cA) (jx_Qi K D clX (tysX cA) (wX ad cA) A) 0 0 310 [(0, .ref (ad 7)), (1, .int v1), (2, .int v2), (3, .int v3), (4, .int v4), (5, .int v5), (7, .int v7), (8, .int v8), (9, .long v9), (11, .long v11), (13, .int v13)] [] σ (X_Types_make_b310 N k172 v1 v2 v3 v4 v5 v7 v8 v9 v11 v13 σ) := by
  intro v1 v2 v3 v4 v5 v7 v8 v9 v11 v13 σ
  rw [X_Types_make_b310]
  refine J_iinc (q := 10) (c := 1) (lv' := fun y5 => [(13, .int y5), (0, .ref (ad 7)), (1, .int v1), (2, .int v2), (3, .int v3), (4, .int v4), (5, .int v5), (7, .int v7), (8, .int v8), (9, .long v9), (11, .long v11)]) h d_Types_make_310 rfl (by decide) (by decide) (fun _ => rfl) (fun y5 => ?_)
  refine J_goto (tgt := 172) h d_Types_make_313 (by decide) ?_
  refine J_sub [1, 2, 3, 4, 5, 6, 7, 8, 9, 10, 0] rfl ?_
  exact hk172 v1 v2 v3 v4 v5 v7 v8 v9 v11 y5 σ
def X_Types_make_b274 (N : Nat) (k172 : Int32 → Int32 → Int32 → Int32 → Int32 → Int32 → Int32 → Int64 → Int64 → Int32 → SX → Option (Int32 × SX)) (v1 : Int32) (v2 : Int32) (v3 : Int32) (v4 : Int32) (v5 : Int32) (v7 : Int32) (v8 : Int32) (v9 : Int64) (v11 : Int64) (v13 : Int32) (v14 : Int32) (σ : SX) : Option (Int32 × SX) := (if ck v14 500 = true then (nm ((v8 ||| (aX_Types_variables σ v14.toNatClampNeg))) (fun (y6 : Int32) => (if ck v14 500 = true then (nm ((v9 ||| (aX_Types_owners σ v14.toNatClampNeg))) (fun (y7 : Int64) => (if ck v14 500 = true then (nm ((v11 ||| (aX_Types_named σ v14.toNatClampNeg))) (fun (y8 : Int64) => (X_Types_make_b310 N k172 v1 v2 v3 v4 v5 v7 y6 y7 y8 v13 σ))) else none))) else none))) else none)
set_option maxRecDepth 100000 in
set_option maxHeartbeats 4000000 in
theorem J_X_Types_make_b274 (K : jx_E) (D : va_G) (A : Nat → Prop) (ad : Nat → Nat) (cA : Nat → ClassId) (N : Nat) (h : jx_ok K D clX (tysX cA) A 15 b_Types_make y_Types_make.cls ((Cond.code y_Types_make b_Types_make 15 (some .int)) :: tblG) rX_Types_make (some .int)) (k172 : Int32 → Int32 → Int32 → Int32 → Int32 → Int32 → Int32 → Int64 → Int64 → Int32 → SX → Option (Int32 × SX)) (hk172 : ∀ (v1 : Int32) (v2 : Int32) (v3 : Int32) (v4 : Int32) (v5 : Int32) (v7 : Int32) (v8 : Int32) (v9 : Int64) (v11 : Int64) (v13 : Int32) (σ : SX), J K D clX A 15 (wX ad cA) (jx_Qi K D clX (tysX cA) (wX ad cA) A) 0 0 172 [(0, .ref (ad 7)), (1, .int v1), (2, .int v2), (3, .int v3), (4, .int v4), (5, .int v5), (7, .int v7), (8, .int v8), (9, .long v9), (11, .long v11), (13, .int v13)] [] σ (k172 v1 v2 v3 v4 v5 v7 v8 v9 v11 v13 σ)) : ∀ (v1 : Int32) (v2 : Int32) (v3 : Int32) (v4 : Int32) (v5 : Int32) (v7 : Int32) (v8 : Int32) (v9 : Int64) (v11 : Int64) (v13 : Int32) (v14 : Int32) (σ : SX), J K D clX A 15 (wX ad cA) (jx_Qi K D clX (tysX cA) (wX ad cA) A) 0 0 274 [(0, .ref (ad 7)), (1, .int v1), (2, .int v2), (3, .int v3), (4, .int v4), (5, .int v5), (7, .int v7), (8, .int v8), (9, .long v9), (11, .long v11), (13, .int v13), (14, .int v14)] [] σ (X_Types_make_b274 N k172 v1 v2 v3 v4 v5 v7 v8 v9 v11 v13 v14 σ) := by
  intro v1 v2 v3 v4 v5 v7 v8 v9 v11 v13 v14 σ
  rw [X_Types_make_b274]
  refine J_iload (q := 7) h d_Types_make_274 rfl ?_
  refine J_aload_n (q := 0) h d_Types_make_276 rfl rfl ?_
  refine J_getf h 7 (wX_7 ad cA σ) (tb_ups in_Types) rfl 5 (by decide) (tb_up q_1_66) rfl d_Types_make_277 ?_
  refine J_iload (q := 11) h d_Types_make_280 rfl ?_
  refine J_iald h 13 10 (wX_13 ad cA σ) rfl d_Types_make_282 ?_
  refine J_ior h d_Types_make_283 ?_
  refine J_nmi (fun y6 => ?_)
  refine J_istore (lv' := [(8, .int y6), (0, .ref (ad 7)), (1, .int v1), (2, .int v2), (3, .int v3), (4, .int v4), (5, .int v5), (7, .int v7), (9, .long v9), (11, .long v11), (13, .int v13), (14, .int v14)]) h d_Types_make_284 (by decide) rfl ?_
  refine J_lload (q := 8) h d_Types_make_286 rfl ?_
  refine J_aload_n (q := 1) h d_Types_make_288 rfl rfl ?_
  refine J_getf h 7 (wX_7 ad cA σ) (tb_ups in_Types) rfl 6 (by decide) (tb_up q_1_67) rfl d_Types_make_289 ?_
  refine J_iload (q := 11) h d_Types_make_292 rfl ?_
  refine J_lald h 14 11 (wX_14 ad cA σ) rfl d_Types_make_294 ?_
  refine J_lor h d_Types_make_295 ?_
  refine J_nml (fun y7 => ?_)
  refine J_lstore (lv' := [(9, .long y7), (8, .int y6), (0, .ref (ad 7)), (1, .int v1), (2, .int v2), (3, .int v3), (4, .int v4), (5, .int v5), (7, .int v7), (11, .long v11), (13, .int v13), (14, .int v14)]) h d_Types_make_296 (by decide) rfl ?_
  refine J_lload (q := 9) h d_Types_make_298 rfl ?_
  refine J_aload_n (q := 2) h d_Types_make_300 rfl rfl ?_
  refine J_getf h 7 (wX_7 ad cA σ) (tb_ups in_Types) rfl 7 (by decide) (tb_up q_1_68) rfl d_Types_make_301 ?_
  refine J_iload (q := 11) h d_Types_make_304 rfl ?_
  refine J_lald h 15 12 (wX_15 ad cA σ) rfl d_Types_make_306 ?_
  refine J_lor h d_Types_make_307 ?_
  refine J_nml (fun y8 => ?_)
  refine J_lstore (lv' := [(11, .long y8), (9, .long y7), (8, .int y6), (0, .ref (ad 7)), (1, .int v1), (2, .int v2), (3, .int v3), (4, .int v4), (5, .int v5), (7, .int v7), (13, .int v13), (14, .int v14)]) h d_Types_make_308 (by decide) rfl ?_
  refine J_sub [3, 4, 5, 6, 7, 8, 9, 2, 1, 0, 10] rfl ?_
  exact J_X_Types_make_b310 K D A ad cA N h k172 hk172 v1 v2 v3 v4 v5 v7 y6 y7 y8 v13 σ
def X_Types_make_b234 (N : Nat) (k172 : Int32 → Int32 → Int32 → Int32 → Int32 → Int32 → Int32 → Int64 → Int64 → Int32 → SX → Option (Int32 × SX)) (v1 : Int32) (v2 : Int32) (v3 : Int32) (v4 : Int32) (v5 : Int32) (v7 : Int32) (v8 : Int32) (v9 : Int64) (v11 : Int64) (v13 : Int32) (v14 : Int32) (σ : SX) : Option (Int32 × SX) := (if v14 < 0 then (X_Types_make_b310 N k172 v1 v2 v3 v4 v5 v7 v8 v9 v11 v13 σ) else (if v14 < (gX_Types_size σ) then (if ck v14 500 = true then (if (aX_Types_depth σ v14.toNatClampNeg) < v7 then (X_Types_make_b274 N k172 v1 v2 v3 v4 v5 v7 v8 v9 v11 v13 v14 σ) else (if ck v14 500 = true then (nm (((aX_Types_depth σ v14.toNatClampNeg) + 1)) (fun (y9 : Int32) => (X_Types_make_b274 N k172 v1 v2 v3 v4 v5 y9 v8 v9 v11 v13 v14 σ))) else none)) else none) else (X_Types_make_b310 N k172 v1 v2 v3 v4 v5 v7 v8 v9 v11 v13 σ)))
set_option maxRecDepth 100000 in
set_option maxHeartbeats 4000000 in
theorem J_X_Types_make_b234 (K : jx_E) (D : va_G) (A : Nat → Prop) (ad : Nat → Nat) (cA : Nat → ClassId) (N : Nat) (h : jx_ok K D clX (tysX cA) A 15 b_Types_make y_Types_make.cls ((Cond.code y_Types_make b_Types_make 15 (some .int)) :: tblG) rX_Types_make (some .int)) (k172 : Int32 → Int32 → Int32 → Int32 → Int32 → Int32 → Int32 → Int64 → Int64 → Int32 → SX → Option (Int32 × SX)) (hk172 : ∀ (v1 : Int32) (v2 : Int32) (v3 : Int32) (v4 : Int32) (v5 : Int32) (v7 : Int32) (v8 : Int32) (v9 : Int64) (v11 : Int64) (v13 : Int32) (σ : SX), J K D clX A 15 (wX ad cA) (jx_Qi K D clX (tysX cA) (wX ad cA) A) 0 0 172 [(0, .ref (ad 7)), (1, .int v1), (2, .int v2), (3, .int v3), (4, .int v4), (5, .int v5), (7, .int v7), (8, .int v8), (9, .long v9), (11, .long v11), (13, .int v13)] [] σ (k172 v1 v2 v3 v4 v5 v7 v8 v9 v11 v13 σ)) : ∀ (v1 : Int32) (v2 : Int32) (v3 : Int32) (v4 : Int32) (v5 : Int32) (v7 : Int32) (v8 : Int32) (v9 : Int64) (v11 : Int64) (v13 : Int32) (v14 : Int32) (σ : SX), J K D clX A 15 (wX ad cA) (jx_Qi K D clX (tysX cA) (wX ad cA) A) 0 0 234 [(0, .ref (ad 7)), (1, .int v1), (2, .int v2), (3, .int v3), (4, .int v4), (5, .int v5), (7, .int v7), (8, .int v8), (9, .long v9), (11, .long v11), (13, .int v13), (14, .int v14)] [] σ (X_Types_make_b234 N k172 v1 v2 v3 v4 v5 v7 v8 v9 v11 v13 v14 σ) := by
  intro v1 v2 v3 v4 v5 v7 v8 v9 v11 v13 v14 σ
  rw [X_Types_make_b234]
  refine J_iload (q := 11) h d_Types_make_234 rfl ?_
  refine J_if_lt (tgt := 310) h d_Types_make_236 (by decide) ?_ ?_
  · refine J_sub [0, 1, 2, 3, 4, 5, 6, 7, 8, 9, 10] rfl ?_
    exact J_X_Types_make_b310 K D A ad cA N h k172 hk172 v1 v2 v3 v4 v5 v7 v8 v9 v11 v13 σ
  · refine J_iload (q := 11) h d_Types_make_239 rfl ?_
    refine J_aload_n (q := 0) h d_Types_make_241 rfl rfl ?_
    refine J_getf h 7 (wX_7 ad cA σ) (tb_ups in_Types) rfl 10 (by decide) (tb_up q_1_71) rfl d_Types_make_242 ?_
    refine J_icmp_lt (tgt := 251) h d_Types_make_245 (by decide) ?_ ?_
    · refine J_iload (q := 6) h d_Types_make_251 rfl ?_
      refine J_aload_n (q := 0) h d_Types_make_253 rfl rfl ?_
      refine J_getf h 7 (wX_7 ad cA σ) (tb_ups in_Types) rfl 4 (by decide) (tb_up q_1_65) rfl d_Types_make_254 ?_
      refine J_iload (q := 11) h d_Types_make_257 rfl ?_
      refine J_iald h 12 9 (wX_12 ad cA σ) rfl d_Types_make_259 ?_
      refine J_icmp_gt (tgt := 274) h d_Types_make_260 (by decide) ?_ ?_
      · exact J_X_Types_make_b274 K D A ad cA N h k172 hk172 v1 v2 v3 v4 v5 v7 v8 v9 v11 v13 v14 σ
      · refine J_aload_n (q := 0) h d_Types_make_263 rfl rfl ?_
        refine J_getf h 7 (wX_7 ad cA σ) (tb_ups in_Types) rfl 4 (by decide) (tb_up q_1_65) rfl d_Types_make_264 ?_
        refine J_iload (q := 11) h d_Types_make_267 rfl ?_
        refine J_iald h 12 9 (wX_12 ad cA σ) rfl d_Types_make_269 ?_
        refine J_iconst (v := 1) h d_Types_make_270 (by decide) ?_
        refine J_iadd h d_Types_make_271 ?_
        refine J_nmi (fun y9 => ?_)
        refine J_istore (lv' := [(7, .int y9), (0, .ref (ad 7)), (1, .int v1), (2, .int v2), (3, .int v3), (4, .int v4), (5, .int v5), (8, .int v8), (9, .long v9), (11, .long v11), (13, .int v13), (14, .int v14)]) h d_Types_make_272 (by decide) rfl ?_
        refine J_sub [1, 2, 3, 4, 5, 6, 0, 7, 8, 9, 10, 11] rfl ?_
        exact J_X_Types_make_b274 K D A ad cA N h k172 hk172 v1 v2 v3 v4 v5 y9 v8 v9 v11 v13 v14 σ
    · refine J_goto (tgt := 310) h d_Types_make_248 (by decide) ?_
      refine J_sub [0, 1, 2, 3, 4, 5, 6, 7, 8, 9, 10] rfl ?_
      exact J_X_Types_make_b310 K D A ad cA N h k172 hk172 v1 v2 v3 v4 v5 v7 v8 v9 v11 v13 σ
def X_Types_make_b219 (N : Nat) (k172 : Int32 → Int32 → Int32 → Int32 → Int32 → Int32 → Int32 → Int64 → Int64 → Int32 → SX → Option (Int32 × SX)) (v1 : Int32) (v2 : Int32) (v3 : Int32) (v4 : Int32) (v5 : Int32) (v7 : Int32) (v8 : Int32) (v9 : Int64) (v11 : Int64) (v13 : Int32) (v14 : Int32) (σ : SX) : Option (Int32 × SX) := (if v13 = 2 then (if v1 = 1 then (X_Types_make_b234 N k172 v1 v2 v3 v4 v5 v7 v8 v9 v11 v13 v4 σ) else (X_Types_make_b234 N k172 v1 v2 v3 v4 v5 v7 v8 v9 v11 v13 v14 σ)) else (X_Types_make_b234 N k172 v1 v2 v3 v4 v5 v7 v8 v9 v11 v13 v14 σ))
set_option maxRecDepth 100000 in
set_option maxHeartbeats 4000000 in
theorem J_X_Types_make_b219 (K : jx_E) (D : va_G) (A : Nat → Prop) (ad : Nat → Nat) (cA : Nat → ClassId) (N : Nat) (h : jx_ok K D clX (tysX cA) A 15 b_Types_make y_Types_make.cls ((Cond.code y_Types_make b_Types_make 15 (some .int)) :: tblG) rX_Types_make (some .int)) (k172 : Int32 → Int32 → Int32 → Int32 → Int32 → Int32 → Int32 → Int64 → Int64 → Int32 → SX → Option (Int32 × SX)) (hk172 : ∀ (v1 : Int32) (v2 : Int32) (v3 : Int32) (v4 : Int32) (v5 : Int32) (v7 : Int32) (v8 : Int32) (v9 : Int64) (v11 : Int64) (v13 : Int32) (σ : SX), J K D clX A 15 (wX ad cA) (jx_Qi K D clX (tysX cA) (wX ad cA) A) 0 0 172 [(0, .ref (ad 7)), (1, .int v1), (2, .int v2), (3, .int v3), (4, .int v4), (5, .int v5), (7, .int v7), (8, .int v8), (9, .long v9), (11, .long v11), (13, .int v13)] [] σ (k172 v1 v2 v3 v4 v5 v7 v8 v9 v11 v13 σ)) : ∀ (v1 : Int32) (v2 : Int32) (v3 : Int32) (v4 : Int32) (v5 : Int32) (v7 : Int32) (v8 : Int32) (v9 : Int64) (v11 : Int64) (v13 : Int32) (v14 : Int32) (σ : SX), J K D clX A 15 (wX ad cA) (jx_Qi K D clX (tysX cA) (wX ad cA) A) 0 0 219 [(0, .ref (ad 7)), (1, .int v1), (2, .int v2), (3, .int v3), (4, .int v4), (5, .int v5), (7, .int v7), (8, .int v8), (9, .long v9), (11, .long v11), (13, .int v13), (14, .int v14)] [] σ (X_Types_make_b219 N k172 v1 v2 v3 v4 v5 v7 v8 v9 v11 v13 v14 σ) := by
  intro v1 v2 v3 v4 v5 v7 v8 v9 v11 v13 v14 σ
  rw [X_Types_make_b219]
  refine J_iload (q := 10) h d_Types_make_219 rfl ?_
  refine J_iconst (v := 2) h d_Types_make_221 (by decide) ?_
  refine J_icmp_ne (tgt := 234) h d_Types_make_222 (by decide) ?_ ?_
  · refine J_iload_n (q := 1) h d_Types_make_225 rfl rfl ?_
    refine J_iconst (v := 1) h d_Types_make_226 (by decide) ?_
    refine J_icmp_ne (tgt := 234) h d_Types_make_227 (by decide) ?_ ?_
    · refine J_iload (q := 4) h d_Types_make_230 rfl ?_
      refine J_istore (lv' := [(14, .int v4), (0, .ref (ad 7)), (1, .int v1), (2, .int v2), (3, .int v3), (4, .int v4), (5, .int v5), (7, .int v7), (8, .int v8), (9, .long v9), (11, .long v11), (13, .int v13)]) h d_Types_make_232 (by decide) rfl ?_
      refine J_sub [1, 2, 3, 4, 5, 6, 7, 8, 9, 10, 11, 0] rfl ?_
      exact J_X_Types_make_b234 K D A ad cA N h k172 hk172 v1 v2 v3 v4 v5 v7 v8 v9 v11 v13 v4 σ
    · exact J_X_Types_make_b234 K D A ad cA N h k172 hk172 v1 v2 v3 v4 v5 v7 v8 v9 v11 v13 v14 σ
  · exact J_X_Types_make_b234 K D A ad cA N h k172 hk172 v1 v2 v3 v4 v5 v7 v8 v9 v11 v13 v14 σ
def X_Types_make_b216 (N : Nat) (k172 : Int32 → Int32 → Int32 → Int32 → Int32 → Int32 → Int32 → Int64 → Int64 → Int32 → SX → Option (Int32 × SX)) (v1 : Int32) (v2 : Int32) (v3 : Int32) (v4 : Int32) (v5 : Int32) (v7 : Int32) (v8 : Int32) (v9 : Int64) (v11 : Int64) (v13 : Int32) (σ : SX) : Option (Int32 × SX) := (X_Types_make_b219 N k172 v1 v2 v3 v4 v5 v7 v8 v9 v11 v13 v3 σ)
set_option maxRecDepth 100000 in
set_option maxHeartbeats 4000000 in
theorem J_X_Types_make_b216 (K : jx_E) (D : va_G) (A : Nat → Prop) (ad : Nat → Nat) (cA : Nat → ClassId) (N : Nat) (h : jx_ok K D clX (tysX cA) A 15 b_Types_make y_Types_make.cls ((Cond.code y_Types_make b_Types_make 15 (some .int)) :: tblG) rX_Types_make (some .int)) (k172 : Int32 → Int32 → Int32 → Int32 → Int32 → Int32 → Int32 → Int64 → Int64 → Int32 → SX → Option (Int32 × SX)) (hk172 : ∀ (v1 : Int32) (v2 : Int32) (v3 : Int32) (v4 : Int32) (v5 : Int32) (v7 : Int32) (v8 : Int32) (v9 : Int64) (v11 : Int64) (v13 : Int32) (σ : SX), J K D clX A 15 (wX ad cA) (jx_Qi K D clX (tysX cA) (wX ad cA) A) 0 0 172 [(0, .ref (ad 7)), (1, .int v1), (2, .int v2), (3, .int v3), (4, .int v4), (5, .int v5), (7, .int v7), (8, .int v8), (9, .long v9), (11, .long v11), (13, .int v13)] [] σ (k172 v1 v2 v3 v4 v5 v7 v8 v9 v11 v13 σ)) : ∀ (v1 : Int32) (v2 : Int32) (v3 : Int32) (v4 : Int32) (v5 : Int32) (v7 : Int32) (v8 : Int32) (v9 : Int64) (v11 : Int64) (v13 : Int32) (σ : SX), J K D clX A 15 (wX ad cA) (jx_Qi K D clX (tysX cA) (wX ad cA) A) 0 0 216 [(0, .ref (ad 7)), (1, .int v1), (2, .int v2), (3, .int v3), (4, .int v4), (5, .int v5), (7, .int v7), (8, .int v8), (9, .long v9), (11, .long v11), (13, .int v13)] [] σ (X_Types_make_b216 N k172 v1 v2 v3 v4 v5 v7 v8 v9 v11 v13 σ) := by
  intro v1 v2 v3 v4 v5 v7 v8 v9 v11 v13 σ
  rw [X_Types_make_b216]
  refine J_iload_n (q := 3) h d_Types_make_216 rfl rfl ?_
  refine J_istore (lv' := [(14, .int v3), (0, .ref (ad 7)), (1, .int v1), (2, .int v2), (3, .int v3), (4, .int v4), (5, .int v5), (7, .int v7), (8, .int v8), (9, .long v9), (11, .long v11), (13, .int v13)]) h d_Types_make_217 (by decide) rfl ?_
  refine J_sub [1, 2, 3, 4, 5, 6, 7, 8, 9, 10, 11, 0] rfl ?_
  exact J_X_Types_make_b219 K D A ad cA N h k172 hk172 v1 v2 v3 v4 v5 v7 v8 v9 v11 v13 v3 σ
def X_Types_make_b200 (N : Nat) (k172 : Int32 → Int32 → Int32 → Int32 → Int32 → Int32 → Int32 → Int64 → Int64 → Int32 → SX → Option (Int32 × SX)) (v1 : Int32) (v2 : Int32) (v3 : Int32) (v4 : Int32) (v5 : Int32) (v7 : Int32) (v8 : Int32) (v9 : Int64) (v11 : Int64) (v13 : Int32) (v14 : Int32) (σ : SX) : Option (Int32 × SX) := (if v13 = 1 then (if v1 = 1 then (X_Types_make_b216 N k172 v1 v2 v3 v4 v5 v7 v8 v9 v11 v13 σ) else (if v1 = 2 then (X_Types_make_b216 N k172 v1 v2 v3 v4 v5 v7 v8 v9 v11 v13 σ) else (X_Types_make_b219 N k172 v1 v2 v3 v4 v5 v7 v8 v9 v11 v13 v14 σ))) else (X_Types_make_b219 N k172 v1 v2 v3 v4 v5 v7 v8 v9 v11 v13 v14 σ))
set_option maxRecDepth 100000 in
set_option maxHeartbeats 4000000 in
theorem J_X_Types_make_b200 (K : jx_E) (D : va_G) (A : Nat → Prop) (ad : Nat → Nat) (cA : Nat → ClassId) (N : Nat) (h : jx_ok K D clX (tysX cA) A 15 b_Types_make y_Types_make.cls ((Cond.code y_Types_make b_Types_make 15 (some .int)) :: tblG) rX_Types_make (some .int)) (k172 : Int32 → Int32 → Int32 → Int32 → Int32 → Int32 → Int32 → Int64 → Int64 → Int32 → SX → Option (Int32 × SX)) (hk172 : ∀ (v1 : Int32) (v2 : Int32) (v3 : Int32) (v4 : Int32) (v5 : Int32) (v7 : Int32) (v8 : Int32) (v9 : Int64) (v11 : Int64) (v13 : Int32) (σ : SX), J K D clX A 15 (wX ad cA) (jx_Qi K D clX (tysX cA) (wX ad cA) A) 0 0 172 [(0, .ref (ad 7)), (1, .int v1), (2, .int v2), (3, .int v3), (4, .int v4), (5, .int v5), (7, .int v7), (8, .int v8), (9, .long v9), (11, .long v11), (13, .int v13)] [] σ (k172 v1 v2 v3 v4 v5 v7 v8 v9 v11 v13 σ)) : ∀ (v1 : Int32) (v2 : Int32) (v3 : Int32) (v4 : Int32) (v5 : Int32) (v7 : Int32) (v8 : Int32) (v9 : Int64) (v11 : Int64) (v13 : Int32) (v14 : Int32) (σ : SX), J K D clX A 15 (wX ad cA) (jx_Qi K D clX (tysX cA) (wX ad cA) A) 0 0 200 [(0, .ref (ad 7)), (1, .int v1), (2, .int v2), (3, .int v3), (4, .int v4), (5, .int v5), (7, .int v7), (8, .int v8), (9, .long v9), (11, .long v11), (13, .int v13), (14, .int v14)] [] σ (X_Types_make_b200 N k172 v1 v2 v3 v4 v5 v7 v8 v9 v11 v13 v14 σ) := by
  intro v1 v2 v3 v4 v5 v7 v8 v9 v11 v13 v14 σ
  rw [X_Types_make_b200]
  refine J_iload (q := 10) h d_Types_make_200 rfl ?_
  refine J_iconst (v := 1) h d_Types_make_202 (by decide) ?_
  refine J_icmp_ne (tgt := 219) h d_Types_make_203 (by decide) ?_ ?_
  · refine J_iload_n (q := 1) h d_Types_make_206 rfl rfl ?_
    refine J_iconst (v := 1) h d_Types_make_207 (by decide) ?_
    refine J_icmp_eq (tgt := 216) h d_Types_make_208 (by decide) ?_ ?_
    · refine J_sub [0, 1, 2, 3, 4, 5, 6, 7, 8, 9, 10] rfl ?_
      exact J_X_Types_make_b216 K D A ad cA N h k172 hk172 v1 v2 v3 v4 v5 v7 v8 v9 v11 v13 σ
    · refine J_iload_n (q := 1) h d_Types_make_211 rfl rfl ?_
      refine J_iconst (v := 2) h d_Types_make_212 (by decide) ?_
      refine J_icmp_ne (tgt := 219) h d_Types_make_213 (by decide) ?_ ?_
      · refine J_sub [0, 1, 2, 3, 4, 5, 6, 7, 8, 9, 10] rfl ?_
        exact J_X_Types_make_b216 K D A ad cA N h k172 hk172 v1 v2 v3 v4 v5 v7 v8 v9 v11 v13 σ
      · exact J_X_Types_make_b219 K D A ad cA N h k172 hk172 v1 v2 v3 v4 v5 v7 v8 v9 v11 v13 v14 σ
  · exact J_X_Types_make_b219 K D A ad cA N h k172 hk172 v1 v2 v3 v4 v5 v7 v8 v9 v11 v13 v14 σ
def X_Types_make_b197 (N : Nat) (k172 : Int32 → Int32 → Int32 → Int32 → Int32 → Int32 → Int32 → Int64 → Int64 → Int32 → SX → Option (Int32 × SX)) (v1 : Int32) (v2 : Int32) (v3 : Int32) (v4 : Int32) (v5 : Int32) (v7 : Int32) (v8 : Int32) (v9 : Int64) (v11 : Int64) (v13 : Int32) (σ : SX) : Option (Int32 × SX) := (X_Types_make_b200 N k172 v1 v2 v3 v4 v5 v7 v8 v9 v11 v13 v2 σ)
set_option maxRecDepth 100000 in
set_option maxHeartbeats 4000000 in
theorem J_X_Types_make_b197 (K : jx_E) (D : va_G) (A : Nat → Prop) (ad : Nat → Nat) (cA : Nat → ClassId) (N : Nat) (h : jx_ok K D clX (tysX cA) A 15 b_Types_make y_Types_make.cls ((Cond.code y_Types_make b_Types_make 15 (some .int)) :: tblG) rX_Types_make (some .int)) (k172 : Int32 → Int32 → Int32 → Int32 → Int32 → Int32 → Int32 → Int64 → Int64 → Int32 → SX → Option (Int32 × SX)) (hk172 : ∀ (v1 : Int32) (v2 : Int32) (v3 : Int32) (v4 : Int32) (v5 : Int32) (v7 : Int32) (v8 : Int32) (v9 : Int64) (v11 : Int64) (v13 : Int32) (σ : SX), J K D clX A 15 (wX ad cA) (jx_Qi K D clX (tysX cA) (wX ad cA) A) 0 0 172 [(0, .ref (ad 7)), (1, .int v1), (2, .int v2), (3, .int v3), (4, .int v4), (5, .int v5), (7, .int v7), (8, .int v8), (9, .long v9), (11, .long v11), (13, .int v13)] [] σ (k172 v1 v2 v3 v4 v5 v7 v8 v9 v11 v13 σ)) : ∀ (v1 : Int32) (v2 : Int32) (v3 : Int32) (v4 : Int32) (v5 : Int32) (v7 : Int32) (v8 : Int32) (v9 : Int64) (v11 : Int64) (v13 : Int32) (σ : SX), J K D clX A 15 (wX ad cA) (jx_Qi K D clX (tysX cA) (wX ad cA) A) 0 0 197 [(0, .ref (ad 7)), (1, .int v1), (2, .int v2), (3, .int v3), (4, .int v4), (5, .int v5), (7, .int v7), (8, .int v8), (9, .long v9), (11, .long v11), (13, .int v13)] [] σ (X_Types_make_b197 N k172 v1 v2 v3 v4 v5 v7 v8 v9 v11 v13 σ) := by
  intro v1 v2 v3 v4 v5 v7 v8 v9 v11 v13 σ
  rw [X_Types_make_b197]
  refine J_iload_n (q := 2) h d_Types_make_197 rfl rfl ?_
  refine J_istore (lv' := [(14, .int v2), (0, .ref (ad 7)), (1, .int v1), (2, .int v2), (3, .int v3), (4, .int v4), (5, .int v5), (7, .int v7), (8, .int v8), (9, .long v9), (11, .long v11), (13, .int v13)]) h d_Types_make_198 (by decide) rfl ?_
  refine J_sub [1, 2, 3, 4, 5, 6, 7, 8, 9, 10, 11, 0] rfl ?_
  exact J_X_Types_make_b200 K D A ad cA N h k172 hk172 v1 v2 v3 v4 v5 v7 v8 v9 v11 v13 v2 σ
def X_Types_make_L172 (N : Nat) (k316 : Int32 → Int32 → Int32 → Int32 → Int32 → Int32 → Int32 → Int64 → Int64 → SX → Option (Int32 × SX)) : Nat → Int32 → Int32 → Int32 → Int32 → Int32 → Int32 → Int32 → Int64 → Int64 → Int32 → SX → Option (Int32 × SX)
  | 0, _, _, _, _, _, _, _, _, _, _, _ => none
  | n + 1, v1, v2, v3, v4, v5, v7, v8, v9, v11, v13, σ => (if (3 : Int32) ≤ v13 then (k316 v1 v2 v3 v4 v5 v7 v8 v9 v11 σ) else (if v13 = 0 then (if v1 = 4 then (X_Types_make_b197 N (X_Types_make_L172 N k316 n) v1 v2 v3 v4 v5 v7 v8 v9 v11 v13 σ) else (if v1 = 8 then (X_Types_make_b197 N (X_Types_make_L172 N k316 n) v1 v2 v3 v4 v5 v7 v8 v9 v11 v13 σ) else (X_Types_make_b200 N (X_Types_make_L172 N k316 n) v1 v2 v3 v4 v5 v7 v8 v9 v11 v13 (-1) σ))) else (X_Types_make_b200 N (X_Types_make_L172 N k316 n) v1 v2 v3 v4 v5 v7 v8 v9 v11 v13 (-1) σ)))
set_option maxRecDepth 100000 in
set_option maxHeartbeats 4000000 in
theorem J_X_Types_make_L172 (K : jx_E) (D : va_G) (A : Nat → Prop) (ad : Nat → Nat) (cA : Nat → ClassId) (N : Nat) (h : jx_ok K D clX (tysX cA) A 15 b_Types_make y_Types_make.cls ((Cond.code y_Types_make b_Types_make 15 (some .int)) :: tblG) rX_Types_make (some .int)) (k316 : Int32 → Int32 → Int32 → Int32 → Int32 → Int32 → Int32 → Int64 → Int64 → SX → Option (Int32 × SX)) (hk316 : ∀ (v1 : Int32) (v2 : Int32) (v3 : Int32) (v4 : Int32) (v5 : Int32) (v7 : Int32) (v8 : Int32) (v9 : Int64) (v11 : Int64) (σ : SX), J K D clX A 15 (wX ad cA) (jx_Qi K D clX (tysX cA) (wX ad cA) A) 0 0 316 [(0, .ref (ad 7)), (1, .int v1), (2, .int v2), (3, .int v3), (4, .int v4), (5, .int v5), (7, .int v7), (8, .int v8), (9, .long v9), (11, .long v11)] [] σ (k316 v1 v2 v3 v4 v5 v7 v8 v9 v11 σ)) : ∀ (n : Nat) (v1 : Int32) (v2 : Int32) (v3 : Int32) (v4 : Int32) (v5 : Int32) (v7 : Int32) (v8 : Int32) (v9 : Int64) (v11 : Int64) (v13 : Int32) (σ : SX), J K D clX A 15 (wX ad cA) (jx_Qi K D clX (tysX cA) (wX ad cA) A) 0 0 172 [(0, .ref (ad 7)), (1, .int v1), (2, .int v2), (3, .int v3), (4, .int v4), (5, .int v5), (7, .int v7), (8, .int v8), (9, .long v9), (11, .long v11), (13, .int v13)] [] σ (X_Types_make_L172 N k316 n v1 v2 v3 v4 v5 v7 v8 v9 v11 v13 σ) := by
  intro n
  induction n with
  | zero => intro v1 v2 v3 v4 v5 v7 v8 v9 v11 v13 σ; exact J_none
  | succ n ih =>
    intro v1 v2 v3 v4 v5 v7 v8 v9 v11 v13 σ
    rw [X_Types_make_L172]
    refine J_iload (q := 10) h d_Types_make_172 rfl ?_
    refine J_iconst (v := 3) h d_Types_make_174 (by decide) ?_
    refine J_icmp_ge (tgt := 316) h d_Types_make_175 (by decide) ?_ ?_
    · refine J_sub [0, 1, 2, 3, 4, 5, 6, 7, 8, 9] rfl ?_
      exact hk316 v1 v2 v3 v4 v5 v7 v8 v9 v11 σ
    · refine J_iconst (v := (-1)) h d_Types_make_178 (by decide) ?_
      refine J_istore (lv' := [(14, .int (-1)), (0, .ref (ad 7)), (1, .int v1), (2, .int v2), (3, .int v3), (4, .int v4), (5, .int v5), (7, .int v7), (8, .int v8), (9, .long v9), (11, .long v11), (13, .int v13)]) h d_Types_make_179 (by decide) rfl ?_
      refine J_iload (q := 11) h d_Types_make_181 rfl ?_
      refine J_if_ne (tgt := 200) h d_Types_make_183 (by decide) ?_ ?_
      · refine J_iload_n (q := 2) h d_Types_make_186 rfl rfl ?_
        refine J_iconst (v := 4) h d_Types_make_187 (by decide) ?_
        refine J_icmp_eq (tgt := 197) h d_Types_make_188 (by decide) ?_ ?_
        · refine J_sub [1, 2, 3, 4, 5, 6, 7, 8, 9, 10, 11] rfl ?_
          exact J_X_Types_make_b197 K D A ad cA N h (X_Types_make_L172 N k316 n) ih v1 v2 v3 v4 v5 v7 v8 v9 v11 v13 σ
        · refine J_iload_n (q := 2) h d_Types_make_191 rfl rfl ?_
          refine J_bipush (v := 8) h d_Types_make_192 (by decide) ?_
          refine J_icmp_ne (tgt := 200) h d_Types_make_194 (by decide) ?_ ?_
          · refine J_sub [1, 2, 3, 4, 5, 6, 7, 8, 9, 10, 11] rfl ?_
            exact J_X_Types_make_b197 K D A ad cA N h (X_Types_make_L172 N k316 n) ih v1 v2 v3 v4 v5 v7 v8 v9 v11 v13 σ
          · refine J_sub [1, 2, 3, 4, 5, 6, 7, 8, 9, 10, 11, 0] rfl ?_
            exact J_X_Types_make_b200 K D A ad cA N h (X_Types_make_L172 N k316 n) ih v1 v2 v3 v4 v5 v7 v8 v9 v11 v13 (-1) σ
      · refine J_sub [1, 2, 3, 4, 5, 6, 7, 8, 9, 10, 11, 0] rfl ?_
        exact J_X_Types_make_b200 K D A ad cA N h (X_Types_make_L172 N k316 n) ih v1 v2 v3 v4 v5 v7 v8 v9 v11 v13 (-1) σ
def X_Types_make_b316 (N : Nat) (v1 : Int32) (v2 : Int32) (v3 : Int32) (v4 : Int32) (v5 : Int32) (v7 : Int32) (v8 : Int32) (v9 : Int64) (v11 : Int64) (σ : SX) : Option (Int32 × SX) := (if (20 : Int32) < v7 then (some ((-3), σ)) else (if (gX_Types_size σ) < 0 then (some ((-3), σ)) else (if (gX_Types_size σ) < 500 then (nm ((gX_Types_size σ)) (fun (y10 : Int32) => (if ck y10 500 = true then (nm (tX_Types_kind σ (upd (aX_Types_kind σ) y10.toNatClampNeg v1)) (fun (σ11 : SX) => (if ck y10 500 = true then (nm (tX_Types_first σ11 (upd (aX_Types_first σ11) y10.toNatClampNeg v2)) (fun (σ12 : SX) => (if ck y10 500 = true then (nm (tX_Types_second σ12 (upd (aX_Types_second σ12) y10.toNatClampNeg v3)) (fun (σ13 : SX) => (if ck y10 500 = true then (nm (tX_Types_third σ13 (upd (aX_Types_third σ13) y10.toNatClampNeg v4)) (fun (σ14 : SX) => (if ck y10 500 = true then (nm (tX_Types_depth σ14 (upd (aX_Types_depth σ14) y10.toNatClampNeg v7)) (fun (σ15 : SX) => (if ck y10 500 = true then (nm (tX_Types_variables σ15 (upd (aX_Types_variables σ15) y10.toNatClampNeg v8)) (fun (σ16 : SX) => (if ck y10 500 = true then (nm (tX_Types_owners σ16 (vp_updL (aX_Types_owners σ16) y10.toNatClampNeg v9)) (fun (σ17 : SX) => (if ck y10 500 = true then (nm (tX_Types_named σ17 (vp_updL (aX_Types_named σ17) y10.toNatClampNeg v11)) (fun (σ18 : SX) => (if ck v5 128 = true then (if ck y10 500 = true then (nm (tX_Types_chainNext σ18 (upd (aX_Types_chainNext σ18) y10.toNatClampNeg (aX_Types_chainFirst σ18 v5.toNatClampNeg))) (fun (σ19 : SX) => (if ck v5 128 = true then (nm (tX_Types_chainFirst σ19 (upd (aX_Types_chainFirst σ19) v5.toNatClampNeg y10)) (fun (σ20 : SX) => (nm (sX_Types_size σ20 ((gX_Types_size σ20) + 1)) (fun (σ21 : SX) => (some (y10, σ21)))))) else none))) else none) else none))) else none))) else none))) else none))) else none))) else none))) else none))) else none))) else none))) else (some ((-3), σ)))))
set_option maxRecDepth 100000 in
set_option maxHeartbeats 4000000 in
theorem J_X_Types_make_b316 (K : jx_E) (D : va_G) (A : Nat → Prop) (ad : Nat → Nat) (cA : Nat → ClassId) (N : Nat) (h : jx_ok K D clX (tysX cA) A 15 b_Types_make y_Types_make.cls ((Cond.code y_Types_make b_Types_make 15 (some .int)) :: tblG) rX_Types_make (some .int)) : ∀ (v1 : Int32) (v2 : Int32) (v3 : Int32) (v4 : Int32) (v5 : Int32) (v7 : Int32) (v8 : Int32) (v9 : Int64) (v11 : Int64) (σ : SX), J K D clX A 15 (wX ad cA) (jx_Qi K D clX (tysX cA) (wX ad cA) A) 0 0 316 [(0, .ref (ad 7)), (1, .int v1), (2, .int v2), (3, .int v3), (4, .int v4), (5, .int v5), (7, .int v7), (8, .int v8), (9, .long v9), (11, .long v11)] [] σ (X_Types_make_b316 N v1 v2 v3 v4 v5 v7 v8 v9 v11 σ) := by
  intro v1 v2 v3 v4 v5 v7 v8 v9 v11 σ
  rw [X_Types_make_b316]
  refine J_iload (q := 6) h d_Types_make_316 rfl ?_
  refine J_bipush (v := 20) h d_Types_make_318 (by decide) ?_
  refine J_icmp_gt (tgt := 340) h d_Types_make_320 (by decide) ?_ ?_
  · refine J_bipush (v := (-3)) h d_Types_make_340 (by decide) ?_
    exact J_iret h rfl d_Types_make_342
  · refine J_aload_n (q := 0) h d_Types_make_323 rfl rfl ?_
    refine J_getf h 7 (wX_7 ad cA σ) (tb_ups in_Types) rfl 10 (by decide) (tb_up q_1_71) rfl d_Types_make_324 ?_
    refine J_if_lt (tgt := 340) h d_Types_make_327 (by decide) ?_ ?_
    · refine J_bipush (v := (-3)) h d_Types_make_340 (by decide) ?_
      exact J_iret h rfl d_Types_make_342
    · refine J_aload_n (q := 0) h d_Types_make_330 rfl rfl ?_
      refine J_getf h 7 (wX_7 ad cA σ) (tb_ups in_Types) rfl 10 (by decide) (tb_up q_1_71) rfl d_Types_make_331 ?_
      refine J_sipush (v := 500) h d_Types_make_334 (by decide) ?_
      refine J_icmp_lt (tgt := 343) h d_Types_make_337 (by decide) ?_ ?_
      · refine J_aload_n (q := 0) h d_Types_make_343 rfl rfl ?_
        refine J_getf h 7 (wX_7 ad cA σ) (tb_ups in_Types) rfl 10 (by decide) (tb_up q_1_71) rfl d_Types_make_344 ?_
        refine J_nmi (fun y10 => ?_)
        refine J_istore (lv' := [(6, .int y10), (0, .ref (ad 7)), (1, .int v1), (2, .int v2), (3, .int v3), (4, .int v4), (5, .int v5), (7, .int v7), (8, .int v8), (9, .long v9), (11, .long v11)]) h d_Types_make_347 (by decide) rfl ?_
        refine J_aload_n (q := 1) h d_Types_make_349 rfl rfl ?_
        refine J_getf h 7 (wX_7 ad cA σ) (tb_ups in_Types) rfl 0 (by decide) (tb_up q_1_61) rfl d_Types_make_350 ?_
        refine J_iload (q := 0) h d_Types_make_353 rfl ?_
        refine J_iload_n (q := 2) h d_Types_make_355 rfl rfl ?_
        refine J_iast h 8 5 (wX_8 ad cA σ) rfl (uX_8 ad cA σ _) d_Types_make_356 (fun σ11 => ?_)
        refine J_aload_n (q := 1) h d_Types_make_357 rfl rfl ?_
        refine J_getf h 7 (wX_7 ad cA σ11) (tb_ups in_Types) rfl 1 (by decide) (tb_up q_1_62) rfl d_Types_make_358 ?_
        refine J_iload (q := 0) h d_Types_make_361 rfl ?_
        refine J_iload_n (q := 3) h d_Types_make_363 rfl rfl ?_
        refine J_iast h 9 6 (wX_9 ad cA σ11) rfl (uX_9 ad cA σ11 _) d_Types_make_364 (fun σ12 => ?_)
        refine J_aload_n (q := 1) h d_Types_make_365 rfl rfl ?_
        refine J_getf h 7 (wX_7 ad cA σ12) (tb_ups in_Types) rfl 2 (by decide) (tb_up q_1_63) rfl d_Types_make_366 ?_
        refine J_iload (q := 0) h d_Types_make_369 rfl ?_
        refine J_iload_n (q := 4) h d_Types_make_371 rfl rfl ?_
        refine J_iast h 10 7 (wX_10 ad cA σ12) rfl (uX_10 ad cA σ12 _) d_Types_make_372 (fun σ13 => ?_)
        refine J_aload_n (q := 1) h d_Types_make_373 rfl rfl ?_
        refine J_getf h 7 (wX_7 ad cA σ13) (tb_ups in_Types) rfl 3 (by decide) (tb_up q_1_64) rfl d_Types_make_374 ?_
        refine J_iload (q := 0) h d_Types_make_377 rfl ?_
        refine J_iload (q := 5) h d_Types_make_379 rfl ?_
        refine J_iast h 11 8 (wX_11 ad cA σ13) rfl (uX_11 ad cA σ13 _) d_Types_make_381 (fun σ14 => ?_)
        refine J_aload_n (q := 1) h d_Types_make_382 rfl rfl ?_
        refine J_getf h 7 (wX_7 ad cA σ14) (tb_ups in_Types) rfl 4 (by decide) (tb_up q_1_65) rfl d_Types_make_383 ?_
        refine J_iload (q := 0) h d_Types_make_386 rfl ?_
        refine J_iload (q := 7) h d_Types_make_388 rfl ?_
        refine J_iast h 12 9 (wX_12 ad cA σ14) rfl (uX_12 ad cA σ14 _) d_Types_make_390 (fun σ15 => ?_)
        refine J_aload_n (q := 1) h d_Types_make_391 rfl rfl ?_
        refine J_getf h 7 (wX_7 ad cA σ15) (tb_ups in_Types) rfl 5 (by decide) (tb_up q_1_66) rfl d_Types_make_392 ?_
        refine J_iload (q := 0) h d_Types_make_395 rfl ?_
        refine J_iload (q := 8) h d_Types_make_397 rfl ?_
        refine J_iast h 13 10 (wX_13 ad cA σ15) rfl (uX_13 ad cA σ15 _) d_Types_make_399 (fun σ16 => ?_)
        refine J_aload_n (q := 1) h d_Types_make_400 rfl rfl ?_
        refine J_getf h 7 (wX_7 ad cA σ16) (tb_ups in_Types) rfl 6 (by decide) (tb_up q_1_67) rfl d_Types_make_401 ?_
        refine J_iload (q := 0) h d_Types_make_404 rfl ?_
        refine J_lload (q := 9) h d_Types_make_406 rfl ?_
        refine J_last h 14 11 (wX_14 ad cA σ16) rfl (uX_14 ad cA σ16 _) d_Types_make_408 (fun σ17 => ?_)
        refine J_aload_n (q := 1) h d_Types_make_409 rfl rfl ?_
        refine J_getf h 7 (wX_7 ad cA σ17) (tb_ups in_Types) rfl 7 (by decide) (tb_up q_1_68) rfl d_Types_make_410 ?_
        refine J_iload (q := 0) h d_Types_make_413 rfl ?_
        refine J_lload (q := 10) h d_Types_make_415 rfl ?_
        refine J_last h 15 12 (wX_15 ad cA σ17) rfl (uX_15 ad cA σ17 _) d_Types_make_417 (fun σ18 => ?_)
        refine J_aload_n (q := 1) h d_Types_make_418 rfl rfl ?_
        refine J_getf h 7 (wX_7 ad cA σ18) (tb_ups in_Types) rfl 9 (by decide) (tb_up q_1_70) rfl d_Types_make_419 ?_
        refine J_iload (q := 0) h d_Types_make_422 rfl ?_
        refine J_aload_n (q := 1) h d_Types_make_424 rfl rfl ?_
        refine J_getf h 7 (wX_7 ad cA σ18) (tb_ups in_Types) rfl 8 (by decide) (tb_up q_1_69) rfl d_Types_make_425 ?_
        refine J_iload (q := 6) h d_Types_make_428 rfl ?_
        refine J_iald h 16 13 (wX_16 ad cA σ18) rfl d_Types_make_430 ?_
        refine J_iast h 17 14 (wX_17 ad cA σ18) rfl (uX_17 ad cA σ18 _) d_Types_make_431 (fun σ19 => ?_)
        refine J_aload_n (q := 1) h d_Types_make_432 rfl rfl ?_
        refine J_getf h 7 (wX_7 ad cA σ19) (tb_ups in_Types) rfl 8 (by decide) (tb_up q_1_69) rfl d_Types_make_433 ?_
        refine J_iload (q := 6) h d_Types_make_436 rfl ?_
        refine J_iload (q := 0) h d_Types_make_438 rfl ?_
        refine J_iast h 16 13 (wX_16 ad cA σ19) rfl (uX_16 ad cA σ19 _) d_Types_make_440 (fun σ20 => ?_)
        refine J_aload_n (q := 1) h d_Types_make_441 rfl rfl ?_
        refine J_dup h d_Types_make_442 rfl ?_
        refine J_getf h 7 (wX_7 ad cA σ20) (tb_ups in_Types) rfl 10 (by decide) (tb_up q_1_71) rfl d_Types_make_443 ?_
        refine J_iconst (v := 1) h d_Types_make_446 (by decide) ?_
        refine J_iadd h d_Types_make_447 ?_
        refine J_putf h 7 (wX_7 ad cA σ20) (tb_ups in_Types) rfl ft_Types ft_Types_ok nm_Types 10 (by decide) (tb_up q_1_71) rfl rfl rfl (Nat.le_of_ble_eq_true rfl) (pX_7_10 ad cA σ20 ((gX_Types_size σ20) + 1)) d_Types_make_448 (fun σ21 => ?_)
        refine J_iload (q := 0) h d_Types_make_451 rfl ?_
        exact J_iret h rfl d_Types_make_453
      · refine J_bipush (v := (-3)) h d_Types_make_340 (by decide) ?_
        exact J_iret h rfl d_Types_make_342
def X_Types_make_b167 (N : Nat) (v1 : Int32) (v2 : Int32) (v3 : Int32) (v4 : Int32) (v5 : Int32) (v7 : Int32) (v8 : Int32) (v9 : Int64) (s0 : Int64) (σ : SX) : Option (Int32 × SX) := (X_Types_make_L172 N (X_Types_make_b316 N) N v1 v2 v3 v4 v5 v7 v8 v9 s0 0 σ)
set_option maxRecDepth 100000 in
set_option maxHeartbeats 4000000 in
theorem J_X_Types_make_b167 (K : jx_E) (D : va_G) (A : Nat → Prop) (ad : Nat → Nat) (cA : Nat → ClassId) (N : Nat) (h : jx_ok K D clX (tysX cA) A 15 b_Types_make y_Types_make.cls ((Cond.code y_Types_make b_Types_make 15 (some .int)) :: tblG) rX_Types_make (some .int)) : ∀ (v1 : Int32) (v2 : Int32) (v3 : Int32) (v4 : Int32) (v5 : Int32) (v7 : Int32) (v8 : Int32) (v9 : Int64) (s0 : Int64) (σ : SX), J K D clX A 15 (wX ad cA) (jx_Qi K D clX (tysX cA) (wX ad cA) A) 0 0 167 [(0, .ref (ad 7)), (1, .int v1), (2, .int v2), (3, .int v3), (4, .int v4), (5, .int v5), (7, .int v7), (8, .int v8), (9, .long v9)] [.long s0] σ (X_Types_make_b167 N v1 v2 v3 v4 v5 v7 v8 v9 s0 σ) := by
  intro v1 v2 v3 v4 v5 v7 v8 v9 s0 σ
  rw [X_Types_make_b167]
  refine J_lstore (lv' := [(11, .long s0), (0, .ref (ad 7)), (1, .int v1), (2, .int v2), (3, .int v3), (4, .int v4), (5, .int v5), (7, .int v7), (8, .int v8), (9, .long v9)]) h d_Types_make_167 (by decide) rfl ?_
  refine J_iconst (v := 0) h d_Types_make_169 (by decide) ?_
  refine J_istore (lv' := [(13, .int 0), (11, .long s0), (0, .ref (ad 7)), (1, .int v1), (2, .int v2), (3, .int v3), (4, .int v4), (5, .int v5), (7, .int v7), (8, .int v8), (9, .long v9)]) h d_Types_make_170 (by decide) rfl ?_
  refine J_sub [2, 3, 4, 5, 6, 7, 8, 9, 10, 1, 0] rfl ?_
  exact J_X_Types_make_L172 K D A ad cA N h (X_Types_make_b316 N) (J_X_Types_make_b316 K D A ad cA N h) N v1 v2 v3 v4 v5 v7 v8 v9 s0 0 σ
def X_Types_make_b160 (N : Nat) (v1 : Int32) (v2 : Int32) (v3 : Int32) (v4 : Int32) (v5 : Int32) (v7 : Int32) (v8 : Int32) (v9 : Int64) (σ : SX) : Option (Int32 × SX) := (X_Types_make_b167 N v1 v2 v3 v4 v5 v7 v8 v9 ((1 : Int64) <<< (v2.toInt64 &&& 63)) σ)
set_option maxRecDepth 100000 in
set_option maxHeartbeats 4000000 in
theorem J_X_Types_make_b160 (K : jx_E) (D : va_G) (A : Nat → Prop) (ad : Nat → Nat) (cA : Nat → ClassId) (N : Nat) (h : jx_ok K D clX (tysX cA) A 15 b_Types_make y_Types_make.cls ((Cond.code y_Types_make b_Types_make 15 (some .int)) :: tblG) rX_Types_make (some .int)) : ∀ (v1 : Int32) (v2 : Int32) (v3 : Int32) (v4 : Int32) (v5 : Int32) (v7 : Int32) (v8 : Int32) (v9 : Int64) (σ : SX), J K D clX A 15 (wX ad cA) (jx_Qi K D clX (tysX cA) (wX ad cA) A) 0 0 160 [(0, .ref (ad 7)), (1, .int v1), (2, .int v2), (3, .int v3), (4, .int v4), (5, .int v5), (7, .int v7), (8, .int v8), (9, .long v9)] [] σ (X_Types_make_b160 N v1 v2 v3 v4 v5 v7 v8 v9 σ) := by
  intro v1 v2 v3 v4 v5 v7 v8 v9 σ
  rw [X_Types_make_b160]
  refine J_lconst (v := 1) h d_Types_make_160 (by decide) ?_
  refine J_iload_n (q := 2) h d_Types_make_161 rfl rfl ?_
  refine J_lshl h d_Types_make_162 ?_
  refine J_goto (tgt := 167) h d_Types_make_163 (by decide) ?_
  exact J_X_Types_make_b167 K D A ad cA N h v1 v2 v3 v4 v5 v7 v8 v9 ((1 : Int64) <<< (v2.toInt64 &&& 63)) σ
def X_Types_make_b149 (N : Nat) (v1 : Int32) (v2 : Int32) (v3 : Int32) (v4 : Int32) (v5 : Int32) (v7 : Int32) (v8 : Int32) (s0 : Int64) (σ : SX) : Option (Int32 × SX) := (if v1 = 0 then (X_Types_make_b160 N v1 v2 v3 v4 v5 v7 v8 s0 σ) else (if v1 = 1 then (X_Types_make_b160 N v1 v2 v3 v4 v5 v7 v8 s0 σ) else (X_Types_make_b167 N v1 v2 v3 v4 v5 v7 v8 s0 0 σ)))
set_option maxRecDepth 100000 in
set_option maxHeartbeats 4000000 in
theorem J_X_Types_make_b149 (K : jx_E) (D : va_G) (A : Nat → Prop) (ad : Nat → Nat) (cA : Nat → ClassId) (N : Nat) (h : jx_ok K D clX (tysX cA) A 15 b_Types_make y_Types_make.cls ((Cond.code y_Types_make b_Types_make 15 (some .int)) :: tblG) rX_Types_make (some .int)) : ∀ (v1 : Int32) (v2 : Int32) (v3 : Int32) (v4 : Int32) (v5 : Int32) (v7 : Int32) (v8 : Int32) (s0 : Int64) (σ : SX), J K D clX A 15 (wX ad cA) (jx_Qi K D clX (tysX cA) (wX ad cA) A) 0 0 149 [(0, .ref (ad 7)), (1, .int v1), (2, .int v2), (3, .int v3), (4, .int v4), (5, .int v5), (7, .int v7), (8, .int v8)] [.long s0] σ (X_Types_make_b149 N v1 v2 v3 v4 v5 v7 v8 s0 σ) := by
  intro v1 v2 v3 v4 v5 v7 v8 s0 σ
  rw [X_Types_make_b149]
  refine J_lstore (lv' := [(9, .long s0), (0, .ref (ad 7)), (1, .int v1), (2, .int v2), (3, .int v3), (4, .int v4), (5, .int v5), (7, .int v7), (8, .int v8)]) h d_Types_make_149 (by decide) rfl ?_
  refine J_iload_n (q := 2) h d_Types_make_151 rfl rfl ?_
  refine J_if_eq (tgt := 160) h d_Types_make_152 (by decide) ?_ ?_
  · refine J_sub [1, 2, 3, 4, 5, 6, 7, 8, 0] rfl ?_
    exact J_X_Types_make_b160 K D A ad cA N h v1 v2 v3 v4 v5 v7 v8 s0 σ
  · refine J_iload_n (q := 2) h d_Types_make_155 rfl rfl ?_
    refine J_iconst (v := 1) h d_Types_make_156 (by decide) ?_
    refine J_icmp_ne (tgt := 166) h d_Types_make_157 (by decide) ?_ ?_
    · refine J_sub [1, 2, 3, 4, 5, 6, 7, 8, 0] rfl ?_
      exact J_X_Types_make_b160 K D A ad cA N h v1 v2 v3 v4 v5 v7 v8 s0 σ
    · refine J_lconst (v := 0) h d_Types_make_166 (by decide) ?_
      refine J_sub [1, 2, 3, 4, 5, 6, 7, 8, 0] rfl ?_
      exact J_X_Types_make_b167 K D A ad cA N h v1 v2 v3 v4 v5 v7 v8 s0 0 σ
def X_Types_make_b135 (N : Nat) (v1 : Int32) (v2 : Int32) (v3 : Int32) (v4 : Int32) (v5 : Int32) (v7 : Int32) (s0 : Int32) (σ : SX) : Option (Int32 × SX) := (if v1 = 3 then (X_Types_make_b149 N v1 v2 v3 v4 v5 v7 s0 ((1 : Int64) <<< (v2.toInt64 &&& 63)) σ) else (X_Types_make_b149 N v1 v2 v3 v4 v5 v7 s0 0 σ))
set_option maxRecDepth 100000 in
set_option maxHeartbeats 4000000 in
theorem J_X_Types_make_b135 (K : jx_E) (D : va_G) (A : Nat → Prop) (ad : Nat → Nat) (cA : Nat → ClassId) (N : Nat) (h : jx_ok K D clX (tysX cA) A 15 b_Types_make y_Types_make.cls ((Cond.code y_Types_make b_Types_make 15 (some .int)) :: tblG) rX_Types_make (some .int)) : ∀ (v1 : Int32) (v2 : Int32) (v3 : Int32) (v4 : Int32) (v5 : Int32) (v7 : Int32) (s0 : Int32) (σ : SX), J K D clX A 15 (wX ad cA) (jx_Qi K D clX (tysX cA) (wX ad cA) A) 0 0 135 [(0, .ref (ad 7)), (1, .int v1), (2, .int v2), (3, .int v3), (4, .int v4), (5, .int v5), (7, .int v7)] [.int s0] σ (X_Types_make_b135 N v1 v2 v3 v4 v5 v7 s0 σ) := by
  intro v1 v2 v3 v4 v5 v7 s0 σ
  rw [X_Types_make_b135]
  refine J_istore (lv' := [(8, .int s0), (0, .ref (ad 7)), (1, .int v1), (2, .int v2), (3, .int v3), (4, .int v4), (5, .int v5), (7, .int v7)]) h d_Types_make_135 (by decide) rfl ?_
  refine J_iload_n (q := 2) h d_Types_make_137 rfl rfl ?_
  refine J_iconst (v := 3) h d_Types_make_138 (by decide) ?_
  refine J_icmp_ne (tgt := 148) h d_Types_make_139 (by decide) ?_ ?_
  · refine J_lconst (v := 1) h d_Types_make_142 (by decide) ?_
    refine J_iload_n (q := 3) h d_Types_make_143 rfl rfl ?_
    refine J_lshl h d_Types_make_144 ?_
    refine J_goto (tgt := 149) h d_Types_make_145 (by decide) ?_
    refine J_sub [1, 2, 3, 4, 5, 6, 7, 0] rfl ?_
    exact J_X_Types_make_b149 K D A ad cA N h v1 v2 v3 v4 v5 v7 s0 ((1 : Int64) <<< (v2.toInt64 &&& 63)) σ
  · refine J_lconst (v := 0) h d_Types_make_148 (by decide) ?_
    refine J_sub [1, 2, 3, 4, 5, 6, 7, 0] rfl ?_
    exact J_X_Types_make_b149 K D A ad cA N h v1 v2 v3 v4 v5 v7 s0 0 σ
def X_Types_make_b119 (N : Nat) (v1 : Int32) (v2 : Int32) (v3 : Int32) (v4 : Int32) (v5 : Int32) (σ : SX) : Option (Int32 × SX) := (if v1 = 7 then (X_Types_make_b135 N v1 v2 v3 v4 v5 1 ((1 : Int32) <<< (v2 &&& 31)) σ) else (X_Types_make_b135 N v1 v2 v3 v4 v5 1 0 σ))
set_option maxRecDepth 100000 in
set_option maxHeartbeats 4000000 in
theorem J_X_Types_make_b119 (K : jx_E) (D : va_G) (A : Nat → Prop) (ad : Nat → Nat) (cA : Nat → ClassId) (N : Nat) (h : jx_ok K D clX (tysX cA) A 15 b_Types_make y_Types_make.cls ((Cond.code y_Types_make b_Types_make 15 (some .int)) :: tblG) rX_Types_make (some .int)) : ∀ (v1 : Int32) (v2 : Int32) (v3 : Int32) (v4 : Int32) (v5 : Int32) (σ : SX), J K D clX A 15 (wX ad cA) (jx_Qi K D clX (tysX cA) (wX ad cA) A) 0 0 119 [(0, .ref (ad 7)), (1, .int v1), (2, .int v2), (3, .int v3), (4, .int v4), (5, .int v5)] [] σ (X_Types_make_b119 N v1 v2 v3 v4 v5 σ) := by
  intro v1 v2 v3 v4 v5 σ
  rw [X_Types_make_b119]
  refine J_iconst (v := 1) h d_Types_make_119 (by decide) ?_
  refine J_istore (lv' := [(7, .int 1), (0, .ref (ad 7)), (1, .int v1), (2, .int v2), (3, .int v3), (4, .int v4), (5, .int v5)]) h d_Types_make_120 (by decide) rfl ?_
  refine J_iload_n (q := 2) h d_Types_make_122 rfl rfl ?_
  refine J_bipush (v := 7) h d_Types_make_123 (by decide) ?_
  refine J_icmp_ne (tgt := 134) h d_Types_make_125 (by decide) ?_ ?_
  · refine J_iconst (v := 1) h d_Types_make_128 (by decide) ?_
    refine J_iload_n (q := 3) h d_Types_make_129 rfl rfl ?_
    refine J_ishl h d_Types_make_130 ?_
    refine J_goto (tgt := 135) h d_Types_make_131 (by decide) ?_
    refine J_sub [1, 2, 3, 4, 5, 6, 0] rfl ?_
    exact J_X_Types_make_b135 K D A ad cA N h v1 v2 v3 v4 v5 1 ((1 : Int32) <<< (v2 &&& 31)) σ
  · refine J_iconst (v := 0) h d_Types_make_134 (by decide) ?_
    refine J_sub [1, 2, 3, 4, 5, 6, 0] rfl ?_
    exact J_X_Types_make_b135 K D A ad cA N h v1 v2 v3 v4 v5 1 0 σ
def X_Types_make (N : Nat) (x1 : Int32) (x2 : Int32) (x3 : Int32) (x4 : Int32) (σ : SX) : Option (Int32 × SX) := (nm ((((((((x1 * 31) + x2) * 31) + x3) * 31) + x4) &&& 127)) (fun (y1 : Int32) => (if ck y1 128 = true then (nm ((aX_Types_chainFirst σ y1.toNatClampNeg)) (fun (y2 : Int32) => (X_Types_make_L34 N (X_Types_make_b119 N) N x1 x2 x3 x4 y1 y2 0 σ))) else none)))
set_option maxRecDepth 100000 in
set_option maxHeartbeats 4000000 in
theorem J_X_Types_make (K : jx_E) (D : va_G) (A : Nat → Prop) (ad : Nat → Nat) (cA : Nat → ClassId) (N : Nat) (h : jx_ok K D clX (tysX cA) A 15 b_Types_make y_Types_make.cls ((Cond.code y_Types_make b_Types_make 15 (some .int)) :: tblG) rX_Types_make (some .int)) : ∀ (x1 : Int32) (x2 : Int32) (x3 : Int32) (x4 : Int32) (σ : SX), J K D clX A 15 (wX ad cA) (jx_Qi K D clX (tysX cA) (wX ad cA) A) 0 0 0 [(0, .ref (ad 7)), (1, .int x1), (2, .int x2), (3, .int x3), (4, .int x4)] [] σ (X_Types_make N x1 x2 x3 x4 σ) := by
  intro x1 x2 x3 x4 σ
  rw [X_Types_make]
  refine J_iload_n (q := 1) h d_Types_make_0 rfl rfl ?_
  refine J_bipush (v := 31) h d_Types_make_1 (by decide) ?_
  refine J_imul h d_Types_make_3 ?_
  refine J_iload_n (q := 2) h d_Types_make_4 rfl rfl ?_
  refine J_iadd h d_Types_make_5 ?_
  refine J_bipush (v := 31) h d_Types_make_6 (by decide) ?_
  refine J_imul h d_Types_make_8 ?_
  refine J_iload_n (q := 3) h d_Types_make_9 rfl rfl ?_
  refine J_iadd h d_Types_make_10 ?_
  refine J_bipush (v := 31) h d_Types_make_11 (by decide) ?_
  refine J_imul h d_Types_make_13 ?_
  refine J_iload (q := 4) h d_Types_make_14 rfl ?_
  refine J_iadd h d_Types_make_16 ?_
  refine J_bipush (v := 127) h d_Types_make_17 (by decide) ?_
  refine J_iand h d_Types_make_19 ?_
  refine J_nmi (fun y1 => ?_)
  refine J_istore (lv' := [(5, .int y1), (0, .ref (ad 7)), (1, .int x1), (2, .int x2), (3, .int x3), (4, .int x4)]) h d_Types_make_20 (by decide) rfl ?_
  refine J_aload_n (q := 1) h d_Types_make_22 rfl rfl ?_
  refine J_getf h 7 (wX_7 ad cA σ) (tb_ups in_Types) rfl 8 (by decide) (tb_up q_1_69) rfl d_Types_make_23 ?_
  refine J_iload (q := 0) h d_Types_make_26 rfl ?_
  refine J_iald h 16 13 (wX_16 ad cA σ) rfl d_Types_make_28 ?_
  refine J_nmi (fun y2 => ?_)
  refine J_istore (lv' := [(6, .int y2), (5, .int y1), (0, .ref (ad 7)), (1, .int x1), (2, .int x2), (3, .int x3), (4, .int x4)]) h d_Types_make_29 (by decide) rfl ?_
  refine J_iconst (v := 0) h d_Types_make_31 (by decide) ?_
  refine J_istore (lv' := [(7, .int 0), (6, .int y2), (5, .int y1), (0, .ref (ad 7)), (1, .int x1), (2, .int x2), (3, .int x3), (4, .int x4)]) h d_Types_make_32 (by decide) rfl ?_
  refine J_sub [3, 4, 5, 6, 7, 2, 1, 0] rfl ?_
  exact J_X_Types_make_L34 K D A ad cA N h (X_Types_make_b119 N) (J_X_Types_make_b119 K D A ad cA N h) N x1 x2 x3 x4 y1 y2 0 σ
set_option maxRecDepth 100000 in
theorem cX_Types_make (l : Launch) (D : va_G) (ad : Nat → Nat) (cA : Nat → ClassId) (N : Nat) (x1 : Int32) (x2 : Int32) (x3 : Int32) (x4 : Int32) (σ : SX) (r : Int32) (σ' : SX) (hf : X_Types_make N x1 x2 x3 x4 σ = some (r, σ')) : MetI l y_Types_make ((Cond.code y_Types_make b_Types_make 15 (some .int)) :: tblG) rX_Types_make D clX (tysX cA) (wX ad cA) [.ref (ad 7), .int x1, .int x2, .int x3, .int x4] σ r σ' :=
  jx_metI (by decide) rfl (Nat.le_of_ble_eq_true rfl) (fun K A h => J_X_Types_make K D A ad cA N h x1 x2 x3 x4 σ) hf
