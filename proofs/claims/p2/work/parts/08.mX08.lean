def rX_Told_hasRoom : Room := { frames := 0, cells := 0, slots := 0, locals := 0 }
theorem rm_ok_X_Told_hasRoom : rX_Told_hasRoom.cells = 0 ∧ rX_Told_hasRoom.slots = 0 := ⟨rfl, rfl⟩
def X_Told_hasRoom  (σ : SX) : Option (Int32 × SX) := (if (gX_Told_size σ) < 0 then (some (0, σ)) else (if (60 : Int32) ≤ (gX_Told_size σ) then (some (0, σ)) else (some (1, σ))))
set_option maxRecDepth 100000 in
set_option maxHeartbeats 4000000 in
theorem J_X_Told_hasRoom (K : jx_E) (D : va_G) (A : Nat → Prop) (ad : Nat → Nat) (cA : Nat → ClassId) (h : jx_ok K D clX (tysX cA) A 1 b_Told_hasRoom y_Told_hasRoom.cls ((Cond.code y_Told_hasRoom b_Told_hasRoom 1 (some .boolean)) :: tblG) rX_Told_hasRoom (some .boolean)) : ∀  (σ : SX), J K D clX A 1 (wX ad cA) (jx_Qi K D clX (tysX cA) (wX ad cA) A) 0 0 0 [(0, .ref (ad 40))] [] σ (X_Told_hasRoom  σ) := by
  intro  σ
  rw [X_Told_hasRoom]
  refine J_aload_n (q := 0) h d_Told_hasRoom_0 rfl rfl ?_
  refine J_getf h 40 (wX_40 ad cA σ) (tb_ups in_Told) rfl 4 (by decide) (tb_up q_2_58) rfl d_Told_hasRoom_1 ?_
  refine J_if_lt (tgt := 20) h d_Told_hasRoom_4 (by decide) ?_ ?_
  · refine J_iconst (v := 0) h d_Told_hasRoom_20 (by decide) ?_
    exact J_zret h rfl (by decide) d_Told_hasRoom_21
  · refine J_aload_n (q := 0) h d_Told_hasRoom_7 rfl rfl ?_
    refine J_getf h 40 (wX_40 ad cA σ) (tb_ups in_Told) rfl 4 (by decide) (tb_up q_2_58) rfl d_Told_hasRoom_8 ?_
    refine J_bipush (v := 60) h d_Told_hasRoom_11 (by decide) ?_
    refine J_icmp_ge (tgt := 20) h d_Told_hasRoom_13 (by decide) ?_ ?_
    · refine J_iconst (v := 0) h d_Told_hasRoom_20 (by decide) ?_
      exact J_zret h rfl (by decide) d_Told_hasRoom_21
    · refine J_iconst (v := 1) h d_Told_hasRoom_16 (by decide) ?_
      refine J_goto (tgt := 21) h d_Told_hasRoom_17 (by decide) ?_
      exact J_zret h rfl (by decide) d_Told_hasRoom_21
set_option maxRecDepth 100000 in
theorem cX_Told_hasRoom (l : Launch) (D : va_G) (ad : Nat → Nat) (cA : Nat → ClassId)  (σ : SX) (r : Int32) (σ' : SX) (hf : X_Told_hasRoom  σ = some (r, σ')) : MetI l y_Told_hasRoom ((Cond.code y_Told_hasRoom b_Told_hasRoom 1 (some .boolean)) :: tblG) rX_Told_hasRoom D clX (tysX cA) (wX ad cA) [.ref (ad 40)] σ r σ' :=
  jx_metI (by decide) rfl (Nat.le_of_ble_eq_true rfl) (fun K A h => J_X_Told_hasRoom K D A ad cA h  σ) hf
def rX_Told_add : Room := { frames := 1, cells := 0, slots := 0, locals := 20 }
theorem rm_ok_X_Told_add : rX_Told_add.cells = 0 ∧ rX_Told_add.slots = 0 := ⟨rfl, rfl⟩
def X_Told_add (x1 : Int32) (x2 : Int32) (x3 : Int32) (σ : SX) : Option (Int32 × SX) := (bd (X_Told_hasRoom σ) (fun (r1 : Int32) (σ2 : SX) => (if r1 = 0 then (some ((-1), σ2)) else (if ck (gX_Told_size σ2) 60 = true then (nm (tX_Told_sort σ2 (upd (aX_Told_sort σ2) (gX_Told_size σ2).toNatClampNeg x1)) (fun (σ3 : SX) => (if ck (gX_Told_size σ3) 60 = true then (nm (tX_Told_left σ3 (upd (aX_Told_left σ3) (gX_Told_size σ3).toNatClampNeg x2)) (fun (σ4 : SX) => (if ck (gX_Told_size σ4) 60 = true then (nm (tX_Told_right σ4 (upd (aX_Told_right σ4) (gX_Told_size σ4).toNatClampNeg x3)) (fun (σ5 : SX) => (if ck (gX_Told_size σ5) 60 = true then (nm (tX_Told_loose σ5 (upd (aX_Told_loose σ5) (gX_Told_size σ5).toNatClampNeg (vp_nar .boolean 0))) (fun (σ6 : SX) => (nm (sX_Told_size σ6 ((gX_Told_size σ6) + 1)) (fun (σ7 : SX) => (some (((gX_Told_size σ7) - 1), σ7)))))) else none))) else none))) else none))) else none))))
set_option maxRecDepth 100000 in
set_option maxHeartbeats 4000000 in
theorem J_X_Told_add (K : jx_E) (D : va_G) (A : Nat → Prop) (ad : Nat → Nat) (cA : Nat → ClassId) (h : jx_ok K D clX (tysX cA) A 4 b_Told_add y_Told_add.cls ((Cond.code y_Told_add b_Told_add 4 (some .int)) :: tblG) rX_Told_add (some .int)) : ∀ (x1 : Int32) (x2 : Int32) (x3 : Int32) (σ : SX), J K D clX A 4 (wX ad cA) (jx_Qi K D clX (tysX cA) (wX ad cA) A) 0 0 0 [(0, .ref (ad 40)), (1, .int x1), (2, .int x2), (3, .int x3)] [] σ (X_Told_add x1 x2 x3 σ) := by
  intro x1 x2 x3 σ
  rw [X_Told_add]
  refine J_aload_n (q := 0) h d_Told_add_0 rfl rfl ?_
  refine J_callVi (As := []) (st := []) (rmc := rX_Told_hasRoom) (q0 := 40) h (fun _ _ hf => cX_Told_hasRoom (jl K) D ad cA  σ _ _ hf) (gd_V q_2_232 q_2_225 q_2_226 q_1_11 q_2_227) rfl ⟨rfl, rfl⟩ dd_Told_hasRoom ⟨Nat.le_of_ble_eq_true rfl, Nat.le_of_ble_eq_true rfl⟩ rfl rfl (wX_40 ad cA σ) rfl rfl (Nat.le_of_ble_eq_true rfl) ⟨Nat.zero_le _, Nat.zero_le _⟩ d_Told_add_1 (fun r1 σ2 => ?_)
  refine J_if_ne (tgt := 9) h d_Told_add_4 (by decide) ?_ ?_
  · refine J_iconst (v := (-1)) h d_Told_add_7 (by decide) ?_
    exact J_iret h rfl d_Told_add_8
  · refine J_aload_n (q := 0) h d_Told_add_9 rfl rfl ?_
    refine J_getf h 40 (wX_40 ad cA σ2) (tb_ups in_Told) rfl 0 (by decide) (tb_up q_2_54) rfl d_Told_add_10 ?_
    refine J_aload_n (q := 0) h d_Told_add_13 rfl rfl ?_
    refine J_getf h 40 (wX_40 ad cA σ2) (tb_ups in_Told) rfl 4 (by decide) (tb_up q_2_58) rfl d_Told_add_14 ?_
    refine J_iload_n (q := 1) h d_Told_add_17 rfl rfl ?_
    refine J_iast h 41 31 (wX_41 ad cA σ2) rfl (uX_41 ad cA σ2 _) d_Told_add_18 (fun σ3 => ?_)
    refine J_aload_n (q := 0) h d_Told_add_19 rfl rfl ?_
    refine J_getf h 40 (wX_40 ad cA σ3) (tb_ups in_Told) rfl 1 (by decide) (tb_up q_2_55) rfl d_Told_add_20 ?_
    refine J_aload_n (q := 0) h d_Told_add_23 rfl rfl ?_
    refine J_getf h 40 (wX_40 ad cA σ3) (tb_ups in_Told) rfl 4 (by decide) (tb_up q_2_58) rfl d_Told_add_24 ?_
    refine J_iload_n (q := 2) h d_Told_add_27 rfl rfl ?_
    refine J_iast h 42 32 (wX_42 ad cA σ3) rfl (uX_42 ad cA σ3 _) d_Told_add_28 (fun σ4 => ?_)
    refine J_aload_n (q := 0) h d_Told_add_29 rfl rfl ?_
    refine J_getf h 40 (wX_40 ad cA σ4) (tb_ups in_Told) rfl 2 (by decide) (tb_up q_2_56) rfl d_Told_add_30 ?_
    refine J_aload_n (q := 0) h d_Told_add_33 rfl rfl ?_
    refine J_getf h 40 (wX_40 ad cA σ4) (tb_ups in_Told) rfl 4 (by decide) (tb_up q_2_58) rfl d_Told_add_34 ?_
    refine J_iload_n (q := 3) h d_Told_add_37 rfl rfl ?_
    refine J_iast h 43 33 (wX_43 ad cA σ4) rfl (uX_43 ad cA σ4 _) d_Told_add_38 (fun σ5 => ?_)
    refine J_aload_n (q := 0) h d_Told_add_39 rfl rfl ?_
    refine J_getf h 40 (wX_40 ad cA σ5) (tb_ups in_Told) rfl 3 (by decide) (tb_up q_2_57) rfl d_Told_add_40 ?_
    refine J_aload_n (q := 0) h d_Told_add_43 rfl rfl ?_
    refine J_getf h 40 (wX_40 ad cA σ5) (tb_ups in_Told) rfl 4 (by decide) (tb_up q_2_58) rfl d_Told_add_44 ?_
    refine J_iconst (v := 0) h d_Told_add_47 (by decide) ?_
    refine J_zast h 44 34 (wX_44 ad cA σ5) rfl (uX_44 ad cA σ5 _) d_Told_add_48 (fun σ6 => ?_)
    refine J_aload_n (q := 0) h d_Told_add_49 rfl rfl ?_
    refine J_dup h d_Told_add_50 rfl ?_
    refine J_getf h 40 (wX_40 ad cA σ6) (tb_ups in_Told) rfl 4 (by decide) (tb_up q_2_58) rfl d_Told_add_51 ?_
    refine J_iconst (v := 1) h d_Told_add_54 (by decide) ?_
    refine J_iadd h d_Told_add_55 ?_
    refine J_putf h 40 (wX_40 ad cA σ6) (tb_ups in_Told) rfl ft_Told ft_Told_ok nm_Told 4 (by decide) (tb_up q_2_58) rfl rfl rfl (Nat.le_of_ble_eq_true rfl) (pX_40_4 ad cA σ6 ((gX_Told_size σ6) + 1)) d_Told_add_56 (fun σ7 => ?_)
    refine J_aload_n (q := 0) h d_Told_add_59 rfl rfl ?_
    refine J_getf h 40 (wX_40 ad cA σ7) (tb_ups in_Told) rfl 4 (by decide) (tb_up q_2_58) rfl d_Told_add_60 ?_
    refine J_iconst (v := 1) h d_Told_add_63 (by decide) ?_
    refine J_isub h d_Told_add_64 ?_
    exact J_iret h rfl d_Told_add_65
set_option maxRecDepth 100000 in
theorem cX_Told_add (l : Launch) (D : va_G) (ad : Nat → Nat) (cA : Nat → ClassId) (x1 : Int32) (x2 : Int32) (x3 : Int32) (σ : SX) (r : Int32) (σ' : SX) (hf : X_Told_add x1 x2 x3 σ = some (r, σ')) : MetI l y_Told_add ((Cond.code y_Told_add b_Told_add 4 (some .int)) :: tblG) rX_Told_add D clX (tysX cA) (wX ad cA) [.ref (ad 40), .int x1, .int x2, .int x3] σ r σ' :=
  jx_metI (by decide) rfl (Nat.le_of_ble_eq_true rfl) (fun K A h => J_X_Told_add K D A ad cA h x1 x2 x3 σ) hf
def rX_Told_sortOf : Room := { frames := 1, cells := 0, slots := 0, locals := 21 }
theorem rm_ok_X_Told_sortOf : rX_Told_sortOf.cells = 0 ∧ rX_Told_sortOf.slots = 0 := ⟨rfl, rfl⟩
def X_Told_sortOf (x1 : Int32) (σ : SX) : Option (Int32 × SX) := (bd (X_Told_has x1 σ) (fun (r1 : Int32) (σ2 : SX) => (if r1 = 0 then (some ((-1), σ2)) else (if ck x1 60 = true then (some ((aX_Told_sort σ2 x1.toNatClampNeg), σ2)) else none))))
set_option maxRecDepth 100000 in
set_option maxHeartbeats 4000000 in
theorem J_X_Told_sortOf (K : jx_E) (D : va_G) (A : Nat → Prop) (ad : Nat → Nat) (cA : Nat → ClassId) (h : jx_ok K D clX (tysX cA) A 2 b_Told_sortOf y_Told_sortOf.cls ((Cond.code y_Told_sortOf b_Told_sortOf 2 (some .int)) :: tblG) rX_Told_sortOf (some .int)) : ∀ (x1 : Int32) (σ : SX), J K D clX A 2 (wX ad cA) (jx_Qi K D clX (tysX cA) (wX ad cA) A) 0 0 0 [(0, .ref (ad 40)), (1, .int x1)] [] σ (X_Told_sortOf x1 σ) := by
  intro x1 σ
  rw [X_Told_sortOf]
  refine J_aload_n (q := 0) h d_Told_sortOf_0 rfl rfl ?_
  refine J_iload_n (q := 1) h d_Told_sortOf_1 rfl rfl ?_
  refine J_callVi (As := [.int x1]) (st := []) (rmc := rX_Told_has) (q0 := 40) h (fun _ _ hf => cX_Told_has (jl K) D ad cA x1 σ _ _ hf) (gd_V q_3_161 q_3_162 q_3_163 q_1_11 q_3_164) rfl ⟨rfl, rfl⟩ dd_Told_has ⟨Nat.le_of_ble_eq_true rfl, Nat.le_of_ble_eq_true rfl⟩ rfl rfl (wX_40 ad cA σ) rfl rfl (Nat.le_of_ble_eq_true rfl) ⟨Nat.zero_le _, Nat.zero_le _⟩ d_Told_sortOf_2 (fun r1 σ2 => ?_)
  refine J_if_eq (tgt := 17) h d_Told_sortOf_5 (by decide) ?_ ?_
  · refine J_iconst (v := (-1)) h d_Told_sortOf_17 (by decide) ?_
    exact J_iret h rfl d_Told_sortOf_18
  · refine J_aload_n (q := 0) h d_Told_sortOf_8 rfl rfl ?_
    refine J_getf h 40 (wX_40 ad cA σ2) (tb_ups in_Told) rfl 0 (by decide) (tb_up q_2_54) rfl d_Told_sortOf_9 ?_
    refine J_iload_n (q := 1) h d_Told_sortOf_12 rfl rfl ?_
    refine J_iald h 41 31 (wX_41 ad cA σ2) rfl d_Told_sortOf_13 ?_
    refine J_goto (tgt := 18) h d_Told_sortOf_14 (by decide) ?_
    exact J_iret h rfl d_Told_sortOf_18
set_option maxRecDepth 100000 in
theorem cX_Told_sortOf (l : Launch) (D : va_G) (ad : Nat → Nat) (cA : Nat → ClassId) (x1 : Int32) (σ : SX) (r : Int32) (σ' : SX) (hf : X_Told_sortOf x1 σ = some (r, σ')) : MetI l y_Told_sortOf ((Cond.code y_Told_sortOf b_Told_sortOf 2 (some .int)) :: tblG) rX_Told_sortOf D clX (tysX cA) (wX ad cA) [.ref (ad 40), .int x1] σ r σ' :=
  jx_metI (by decide) rfl (Nat.le_of_ble_eq_true rfl) (fun K A h => J_X_Told_sortOf K D A ad cA h x1 σ) hf
def rX_Told_leftOf : Room := { frames := 1, cells := 0, slots := 0, locals := 21 }
theorem rm_ok_X_Told_leftOf : rX_Told_leftOf.cells = 0 ∧ rX_Told_leftOf.slots = 0 := ⟨rfl, rfl⟩
def X_Told_leftOf (x1 : Int32) (σ : SX) : Option (Int32 × SX) := (bd (X_Told_has x1 σ) (fun (r1 : Int32) (σ2 : SX) => (if r1 = 0 then (some ((-1), σ2)) else (if ck x1 60 = true then (some ((aX_Told_left σ2 x1.toNatClampNeg), σ2)) else none))))
set_option maxRecDepth 100000 in
set_option maxHeartbeats 4000000 in
theorem J_X_Told_leftOf (K : jx_E) (D : va_G) (A : Nat → Prop) (ad : Nat → Nat) (cA : Nat → ClassId) (h : jx_ok K D clX (tysX cA) A 2 b_Told_leftOf y_Told_leftOf.cls ((Cond.code y_Told_leftOf b_Told_leftOf 2 (some .int)) :: tblG) rX_Told_leftOf (some .int)) : ∀ (x1 : Int32) (σ : SX), J K D clX A 2 (wX ad cA) (jx_Qi K D clX (tysX cA) (wX ad cA) A) 0 0 0 [(0, .ref (ad 40)), (1, .int x1)] [] σ (X_Told_leftOf x1 σ) := by
  intro x1 σ
  rw [X_Told_leftOf]
  refine J_aload_n (q := 0) h d_Told_leftOf_0 rfl rfl ?_
  refine J_iload_n (q := 1) h d_Told_leftOf_1 rfl rfl ?_
  refine J_callVi (As := [.int x1]) (st := []) (rmc := rX_Told_has) (q0 := 40) h (fun _ _ hf => cX_Told_has (jl K) D ad cA x1 σ _ _ hf) (gd_V q_3_161 q_3_162 q_3_163 q_1_11 q_3_164) rfl ⟨rfl, rfl⟩ dd_Told_has ⟨Nat.le_of_ble_eq_true rfl, Nat.le_of_ble_eq_true rfl⟩ rfl rfl (wX_40 ad cA σ) rfl rfl (Nat.le_of_ble_eq_true rfl) ⟨Nat.zero_le _, Nat.zero_le _⟩ d_Told_leftOf_2 (fun r1 σ2 => ?_)
  refine J_if_eq (tgt := 17) h d_Told_leftOf_5 (by decide) ?_ ?_
  · refine J_iconst (v := (-1)) h d_Told_leftOf_17 (by decide) ?_
    exact J_iret h rfl d_Told_leftOf_18
  · refine J_aload_n (q := 0) h d_Told_leftOf_8 rfl rfl ?_
    refine J_getf h 40 (wX_40 ad cA σ2) (tb_ups in_Told) rfl 1 (by decide) (tb_up q_2_55) rfl d_Told_leftOf_9 ?_
    refine J_iload_n (q := 1) h d_Told_leftOf_12 rfl rfl ?_
    refine J_iald h 42 32 (wX_42 ad cA σ2) rfl d_Told_leftOf_13 ?_
    refine J_goto (tgt := 18) h d_Told_leftOf_14 (by decide) ?_
    exact J_iret h rfl d_Told_leftOf_18
set_option maxRecDepth 100000 in
theorem cX_Told_leftOf (l : Launch) (D : va_G) (ad : Nat → Nat) (cA : Nat → ClassId) (x1 : Int32) (σ : SX) (r : Int32) (σ' : SX) (hf : X_Told_leftOf x1 σ = some (r, σ')) : MetI l y_Told_leftOf ((Cond.code y_Told_leftOf b_Told_leftOf 2 (some .int)) :: tblG) rX_Told_leftOf D clX (tysX cA) (wX ad cA) [.ref (ad 40), .int x1] σ r σ' :=
  jx_metI (by decide) rfl (Nat.le_of_ble_eq_true rfl) (fun K A h => J_X_Told_leftOf K D A ad cA h x1 σ) hf
def rX_Told_rightOf : Room := { frames := 1, cells := 0, slots := 0, locals := 21 }
theorem rm_ok_X_Told_rightOf : rX_Told_rightOf.cells = 0 ∧ rX_Told_rightOf.slots = 0 := ⟨rfl, rfl⟩
def X_Told_rightOf (x1 : Int32) (σ : SX) : Option (Int32 × SX) := (bd (X_Told_has x1 σ) (fun (r1 : Int32) (σ2 : SX) => (if r1 = 0 then (some ((-1), σ2)) else (if ck x1 60 = true then (some ((aX_Told_right σ2 x1.toNatClampNeg), σ2)) else none))))
set_option maxRecDepth 100000 in
set_option maxHeartbeats 4000000 in
theorem J_X_Told_rightOf (K : jx_E) (D : va_G) (A : Nat → Prop) (ad : Nat → Nat) (cA : Nat → ClassId) (h : jx_ok K D clX (tysX cA) A 2 b_Told_rightOf y_Told_rightOf.cls ((Cond.code y_Told_rightOf b_Told_rightOf 2 (some .int)) :: tblG) rX_Told_rightOf (some .int)) : ∀ (x1 : Int32) (σ : SX), J K D clX A 2 (wX ad cA) (jx_Qi K D clX (tysX cA) (wX ad cA) A) 0 0 0 [(0, .ref (ad 40)), (1, .int x1)] [] σ (X_Told_rightOf x1 σ) := by
  intro x1 σ
  rw [X_Told_rightOf]
  refine J_aload_n (q := 0) h d_Told_rightOf_0 rfl rfl ?_
  refine J_iload_n (q := 1) h d_Told_rightOf_1 rfl rfl ?_
  refine J_callVi (As := [.int x1]) (st := []) (rmc := rX_Told_has) (q0 := 40) h (fun _ _ hf => cX_Told_has (jl K) D ad cA x1 σ _ _ hf) (gd_V q_3_161 q_3_162 q_3_163 q_1_11 q_3_164) rfl ⟨rfl, rfl⟩ dd_Told_has ⟨Nat.le_of_ble_eq_true rfl, Nat.le_of_ble_eq_true rfl⟩ rfl rfl (wX_40 ad cA σ) rfl rfl (Nat.le_of_ble_eq_true rfl) ⟨Nat.zero_le _, Nat.zero_le _⟩ d_Told_rightOf_2 (fun r1 σ2 => ?_)
  refine J_if_eq (tgt := 17) h d_Told_rightOf_5 (by decide) ?_ ?_
  · refine J_iconst (v := (-1)) h d_Told_rightOf_17 (by decide) ?_
    exact J_iret h rfl d_Told_rightOf_18
  · refine J_aload_n (q := 0) h d_Told_rightOf_8 rfl rfl ?_
    refine J_getf h 40 (wX_40 ad cA σ2) (tb_ups in_Told) rfl 2 (by decide) (tb_up q_2_56) rfl d_Told_rightOf_9 ?_
    refine J_iload_n (q := 1) h d_Told_rightOf_12 rfl rfl ?_
    refine J_iald h 43 33 (wX_43 ad cA σ2) rfl d_Told_rightOf_13 ?_
    refine J_goto (tgt := 18) h d_Told_rightOf_14 (by decide) ?_
    exact J_iret h rfl d_Told_rightOf_18
set_option maxRecDepth 100000 in
theorem cX_Told_rightOf (l : Launch) (D : va_G) (ad : Nat → Nat) (cA : Nat → ClassId) (x1 : Int32) (σ : SX) (r : Int32) (σ' : SX) (hf : X_Told_rightOf x1 σ = some (r, σ')) : MetI l y_Told_rightOf ((Cond.code y_Told_rightOf b_Told_rightOf 2 (some .int)) :: tblG) rX_Told_rightOf D clX (tysX cA) (wX ad cA) [.ref (ad 40), .int x1] σ r σ' :=
  jx_metI (by decide) rfl (Nat.le_of_ble_eq_true rfl) (fun K A h => J_X_Told_rightOf K D A ad cA h x1 σ) hf
def rX_Told_markUnchecked : Room := { frames := 1, cells := 0, slots := 0, locals := 21 }
theorem rm_ok_X_Told_markUnchecked : rX_Told_markUnchecked.cells = 0 ∧ rX_Told_markUnchecked.slots = 0 := ⟨rfl, rfl⟩
def X_Told_markUnchecked (x1 : Int32) (σ : SX) : Option (Unit × SX) := (bd (X_Told_has x1 σ) (fun (r1 : Int32) (σ2 : SX) => (if r1 = 0 then (some ((), σ2)) else (if ck x1 60 = true then (nm (tX_Told_loose σ2 (upd (aX_Told_loose σ2) x1.toNatClampNeg (vp_nar .boolean 1))) (fun (σ3 : SX) => (some ((), σ3)))) else none))))
set_option maxRecDepth 100000 in
set_option maxHeartbeats 4000000 in
theorem J_X_Told_markUnchecked (K : jx_E) (D : va_G) (A : Nat → Prop) (ad : Nat → Nat) (cA : Nat → ClassId) (h : jx_ok K D clX (tysX cA) A 2 b_Told_markUnchecked y_Told_markUnchecked.cls ((Cond.code y_Told_markUnchecked b_Told_markUnchecked 2 none) :: tblG) rX_Told_markUnchecked none) : ∀ (x1 : Int32) (σ : SX), J K D clX A 2 (wX ad cA) (jx_Qv K D clX (tysX cA) (wX ad cA) A) 0 0 0 [(0, .ref (ad 40)), (1, .int x1)] [] σ (X_Told_markUnchecked x1 σ) := by
  intro x1 σ
  rw [X_Told_markUnchecked]
  refine J_aload_n (q := 0) h d_Told_markUnchecked_0 rfl rfl ?_
  refine J_iload_n (q := 1) h d_Told_markUnchecked_1 rfl rfl ?_
  refine J_callVi (As := [.int x1]) (st := []) (rmc := rX_Told_has) (q0 := 40) h (fun _ _ hf => cX_Told_has (jl K) D ad cA x1 σ _ _ hf) (gd_V q_3_161 q_3_162 q_3_163 q_1_11 q_3_164) rfl ⟨rfl, rfl⟩ dd_Told_has ⟨Nat.le_of_ble_eq_true rfl, Nat.le_of_ble_eq_true rfl⟩ rfl rfl (wX_40 ad cA σ) rfl rfl (Nat.le_of_ble_eq_true rfl) ⟨Nat.zero_le _, Nat.zero_le _⟩ d_Told_markUnchecked_2 (fun r1 σ2 => ?_)
  refine J_if_eq (tgt := 15) h d_Told_markUnchecked_5 (by decide) ?_ ?_
  · exact J_vret h rfl d_Told_markUnchecked_15
  · refine J_aload_n (q := 0) h d_Told_markUnchecked_8 rfl rfl ?_
    refine J_getf h 40 (wX_40 ad cA σ2) (tb_ups in_Told) rfl 3 (by decide) (tb_up q_2_57) rfl d_Told_markUnchecked_9 ?_
    refine J_iload_n (q := 1) h d_Told_markUnchecked_12 rfl rfl ?_
    refine J_iconst (v := 1) h d_Told_markUnchecked_13 (by decide) ?_
    refine J_zast h 44 34 (wX_44 ad cA σ2) rfl (uX_44 ad cA σ2 _) d_Told_markUnchecked_14 (fun σ3 => ?_)
    exact J_vret h rfl d_Told_markUnchecked_15
set_option maxRecDepth 100000 in
theorem cX_Told_markUnchecked (l : Launch) (D : va_G) (ad : Nat → Nat) (cA : Nat → ClassId) (x1 : Int32) (σ : SX) (r : Unit) (σ' : SX) (hf : X_Told_markUnchecked x1 σ = some (r, σ')) : MetV l y_Told_markUnchecked ((Cond.code y_Told_markUnchecked b_Told_markUnchecked 2 none) :: tblG) rX_Told_markUnchecked D clX (tysX cA) (wX ad cA) [.ref (ad 40), .int x1] σ r σ' :=
  jx_metV (by decide) rfl (Nat.le_of_ble_eq_true rfl) (fun K A h => J_X_Told_markUnchecked K D A ad cA h x1 σ) hf
def rX_Told_isUnchecked : Room := { frames := 1, cells := 0, slots := 0, locals := 21 }
theorem rm_ok_X_Told_isUnchecked : rX_Told_isUnchecked.cells = 0 ∧ rX_Told_isUnchecked.slots = 0 := ⟨rfl, rfl⟩
def X_Told_isUnchecked (x1 : Int32) (σ : SX) : Option (Int32 × SX) := (bd (X_Told_has x1 σ) (fun (r1 : Int32) (σ2 : SX) => (if r1 = 0 then (some (0, σ2)) else (if ck x1 60 = true then (if (aX_Told_loose σ2 x1.toNatClampNeg) = 0 then (some (0, σ2)) else (some (1, σ2))) else none))))
set_option maxRecDepth 100000 in
set_option maxHeartbeats 4000000 in
theorem J_X_Told_isUnchecked (K : jx_E) (D : va_G) (A : Nat → Prop) (ad : Nat → Nat) (cA : Nat → ClassId) (h : jx_ok K D clX (tysX cA) A 2 b_Told_isUnchecked y_Told_isUnchecked.cls ((Cond.code y_Told_isUnchecked b_Told_isUnchecked 2 (some .boolean)) :: tblG) rX_Told_isUnchecked (some .boolean)) : ∀ (x1 : Int32) (σ : SX), J K D clX A 2 (wX ad cA) (jx_Qi K D clX (tysX cA) (wX ad cA) A) 0 0 0 [(0, .ref (ad 40)), (1, .int x1)] [] σ (X_Told_isUnchecked x1 σ) := by
  intro x1 σ
  rw [X_Told_isUnchecked]
  refine J_aload_n (q := 0) h d_Told_isUnchecked_0 rfl rfl ?_
  refine J_iload_n (q := 1) h d_Told_isUnchecked_1 rfl rfl ?_
  refine J_callVi (As := [.int x1]) (st := []) (rmc := rX_Told_has) (q0 := 40) h (fun _ _ hf => cX_Told_has (jl K) D ad cA x1 σ _ _ hf) (gd_V q_3_161 q_3_162 q_3_163 q_1_11 q_3_164) rfl ⟨rfl, rfl⟩ dd_Told_has ⟨Nat.le_of_ble_eq_true rfl, Nat.le_of_ble_eq_true rfl⟩ rfl rfl (wX_40 ad cA σ) rfl rfl (Nat.le_of_ble_eq_true rfl) ⟨Nat.zero_le _, Nat.zero_le _⟩ d_Told_isUnchecked_2 (fun r1 σ2 => ?_)
  refine J_if_eq (tgt := 21) h d_Told_isUnchecked_5 (by decide) ?_ ?_
  · refine J_iconst (v := 0) h d_Told_isUnchecked_21 (by decide) ?_
    exact J_zret h rfl (by decide) d_Told_isUnchecked_22
  · refine J_aload_n (q := 0) h d_Told_isUnchecked_8 rfl rfl ?_
    refine J_getf h 40 (wX_40 ad cA σ2) (tb_ups in_Told) rfl 3 (by decide) (tb_up q_2_57) rfl d_Told_isUnchecked_9 ?_
    refine J_iload_n (q := 1) h d_Told_isUnchecked_12 rfl rfl ?_
    refine J_zald h 44 34 (wX_44 ad cA σ2) rfl d_Told_isUnchecked_13 ?_
    refine J_if_eq (tgt := 21) h d_Told_isUnchecked_14 (by decide) ?_ ?_
    · refine J_iconst (v := 0) h d_Told_isUnchecked_21 (by decide) ?_
      exact J_zret h rfl (by decide) d_Told_isUnchecked_22
    · refine J_iconst (v := 1) h d_Told_isUnchecked_17 (by decide) ?_
      refine J_goto (tgt := 22) h d_Told_isUnchecked_18 (by decide) ?_
      exact J_zret h rfl (by decide) d_Told_isUnchecked_22
set_option maxRecDepth 100000 in
theorem cX_Told_isUnchecked (l : Launch) (D : va_G) (ad : Nat → Nat) (cA : Nat → ClassId) (x1 : Int32) (σ : SX) (r : Int32) (σ' : SX) (hf : X_Told_isUnchecked x1 σ = some (r, σ')) : MetI l y_Told_isUnchecked ((Cond.code y_Told_isUnchecked b_Told_isUnchecked 2 (some .boolean)) :: tblG) rX_Told_isUnchecked D clX (tysX cA) (wX ad cA) [.ref (ad 40), .int x1] σ r σ' :=
  jx_metI (by decide) rfl (Nat.le_of_ble_eq_true rfl) (fun K A h => J_X_Told_isUnchecked K D A ad cA h x1 σ) hf
def rX_Types_depthOf : Room := { frames := 0, cells := 0, slots := 0, locals := 0 }
theorem rm_ok_X_Types_depthOf : rX_Types_depthOf.cells = 0 ∧ rX_Types_depthOf.slots = 0 := ⟨rfl, rfl⟩
def X_Types_depthOf (x1 : Int32) (σ : SX) : Option (Int32 × SX) := (if x1 < 0 then (some ((-1), σ)) else (if (gX_Types_size σ) ≤ x1 then (some ((-1), σ)) else (if ck x1 500 = true then (some ((aX_Types_depth σ x1.toNatClampNeg), σ)) else none)))
set_option maxRecDepth 100000 in
set_option maxHeartbeats 4000000 in
theorem J_X_Types_depthOf (K : jx_E) (D : va_G) (A : Nat → Prop) (ad : Nat → Nat) (cA : Nat → ClassId) (h : jx_ok K D clX (tysX cA) A 2 b_Types_depthOf y_Types_depthOf.cls ((Cond.code y_Types_depthOf b_Types_depthOf 2 (some .int)) :: tblG) rX_Types_depthOf (some .int)) : ∀ (x1 : Int32) (σ : SX), J K D clX A 2 (wX ad cA) (jx_Qi K D clX (tysX cA) (wX ad cA) A) 0 0 0 [(0, .ref (ad 7)), (1, .int x1)] [] σ (X_Types_depthOf x1 σ) := by
  intro x1 σ
  rw [X_Types_depthOf]
  refine J_iload_n (q := 1) h d_Types_depthOf_0 rfl rfl ?_
  refine J_if_lt (tgt := 21) h d_Types_depthOf_1 (by decide) ?_ ?_
  · refine J_iconst (v := (-1)) h d_Types_depthOf_21 (by decide) ?_
    exact J_iret h rfl d_Types_depthOf_22
  · refine J_iload_n (q := 1) h d_Types_depthOf_4 rfl rfl ?_
    refine J_aload_n (q := 0) h d_Types_depthOf_5 rfl rfl ?_
    refine J_getf h 7 (wX_7 ad cA σ) (tb_ups in_Types) rfl 11 (by decide) (tb_up q_1_72) rfl d_Types_depthOf_6 ?_
    refine J_icmp_ge (tgt := 21) h d_Types_depthOf_9 (by decide) ?_ ?_
    · refine J_iconst (v := (-1)) h d_Types_depthOf_21 (by decide) ?_
      exact J_iret h rfl d_Types_depthOf_22
    · refine J_aload_n (q := 0) h d_Types_depthOf_12 rfl rfl ?_
      refine J_getf h 7 (wX_7 ad cA σ) (tb_ups in_Types) rfl 4 (by decide) (tb_up q_1_65) rfl d_Types_depthOf_13 ?_
      refine J_iload_n (q := 1) h d_Types_depthOf_16 rfl rfl ?_
      refine J_iald h 12 9 (wX_12 ad cA σ) rfl d_Types_depthOf_17 ?_
      refine J_goto (tgt := 22) h d_Types_depthOf_18 (by decide) ?_
      exact J_iret h rfl d_Types_depthOf_22
set_option maxRecDepth 100000 in
theorem cX_Types_depthOf (l : Launch) (D : va_G) (ad : Nat → Nat) (cA : Nat → ClassId) (x1 : Int32) (σ : SX) (r : Int32) (σ' : SX) (hf : X_Types_depthOf x1 σ = some (r, σ')) : MetI l y_Types_depthOf ((Cond.code y_Types_depthOf b_Types_depthOf 2 (some .int)) :: tblG) rX_Types_depthOf D clX (tysX cA) (wX ad cA) [.ref (ad 7), .int x1] σ r σ' :=
  jx_metI (by decide) rfl (Nat.le_of_ble_eq_true rfl) (fun K A h => J_X_Types_depthOf K D A ad cA h x1 σ) hf
def rX_Types_hasInIt : Room := { frames := 0, cells := 0, slots := 0, locals := 0 }
theorem rm_ok_X_Types_hasInIt : rX_Types_hasInIt.cells = 0 ∧ rX_Types_hasInIt.slots = 0 := ⟨rfl, rfl⟩
def X_Types_hasInIt (x1 : Int32) (x2 : Int32) (σ : SX) : Option (Int32 × SX) := (if x1 < 0 then (some (0, σ)) else (if (gX_Types_size σ) ≤ x1 then (some (0, σ)) else (if ck x1 500 = true then (if (((aX_Types_kinds σ x1.toNatClampNeg) >>> (x2 &&& 31)) &&& 1) = 0 then (some (0, σ)) else (some (1, σ))) else none)))
set_option maxRecDepth 100000 in
set_option maxHeartbeats 4000000 in
theorem J_X_Types_hasInIt (K : jx_E) (D : va_G) (A : Nat → Prop) (ad : Nat → Nat) (cA : Nat → ClassId) (h : jx_ok K D clX (tysX cA) A 3 b_Types_hasInIt y_Types_hasInIt.cls ((Cond.code y_Types_hasInIt b_Types_hasInIt 3 (some .boolean)) :: tblG) rX_Types_hasInIt (some .boolean)) : ∀ (x1 : Int32) (x2 : Int32) (σ : SX), J K D clX A 3 (wX ad cA) (jx_Qi K D clX (tysX cA) (wX ad cA) A) 0 0 0 [(0, .ref (ad 7)), (1, .int x1), (2, .int x2)] [] σ (X_Types_hasInIt x1 x2 σ) := by
  intro x1 x2 σ
  rw [X_Types_hasInIt]
  refine J_iload_n (q := 1) h d_Types_hasInIt_0 rfl rfl ?_
  refine J_if_lt (tgt := 29) h d_Types_hasInIt_1 (by decide) ?_ ?_
  · refine J_iconst (v := 0) h d_Types_hasInIt_29 (by decide) ?_
    exact J_zret h rfl (by decide) d_Types_hasInIt_30
  · refine J_iload_n (q := 1) h d_Types_hasInIt_4 rfl rfl ?_
    refine J_aload_n (q := 0) h d_Types_hasInIt_5 rfl rfl ?_
    refine J_getf h 7 (wX_7 ad cA σ) (tb_ups in_Types) rfl 11 (by decide) (tb_up q_1_72) rfl d_Types_hasInIt_6 ?_
    refine J_icmp_ge (tgt := 29) h d_Types_hasInIt_9 (by decide) ?_ ?_
    · refine J_iconst (v := 0) h d_Types_hasInIt_29 (by decide) ?_
      exact J_zret h rfl (by decide) d_Types_hasInIt_30
    · refine J_aload_n (q := 0) h d_Types_hasInIt_12 rfl rfl ?_
      refine J_getf h 7 (wX_7 ad cA σ) (tb_ups in_Types) rfl 5 (by decide) (tb_up q_1_66) rfl d_Types_hasInIt_13 ?_
      refine J_iload_n (q := 1) h d_Types_hasInIt_16 rfl rfl ?_
      refine J_iald h 13 10 (wX_13 ad cA σ) rfl d_Types_hasInIt_17 ?_
      refine J_iload_n (q := 2) h d_Types_hasInIt_18 rfl rfl ?_
      refine J_ishr h d_Types_hasInIt_19 ?_
      refine J_iconst (v := 1) h d_Types_hasInIt_20 (by decide) ?_
      refine J_iand h d_Types_hasInIt_21 ?_
      refine J_if_eq (tgt := 29) h d_Types_hasInIt_22 (by decide) ?_ ?_
      · refine J_iconst (v := 0) h d_Types_hasInIt_29 (by decide) ?_
        exact J_zret h rfl (by decide) d_Types_hasInIt_30
      · refine J_iconst (v := 1) h d_Types_hasInIt_25 (by decide) ?_
        refine J_goto (tgt := 30) h d_Types_hasInIt_26 (by decide) ?_
        exact J_zret h rfl (by decide) d_Types_hasInIt_30
set_option maxRecDepth 100000 in
theorem cX_Types_hasInIt (l : Launch) (D : va_G) (ad : Nat → Nat) (cA : Nat → ClassId) (x1 : Int32) (x2 : Int32) (σ : SX) (r : Int32) (σ' : SX) (hf : X_Types_hasInIt x1 x2 σ = some (r, σ')) : MetI l y_Types_hasInIt ((Cond.code y_Types_hasInIt b_Types_hasInIt 3 (some .boolean)) :: tblG) rX_Types_hasInIt D clX (tysX cA) (wX ad cA) [.ref (ad 7), .int x1, .int x2] σ r σ' :=
  jx_metI (by decide) rfl (Nat.le_of_ble_eq_true rfl) (fun K A h => J_X_Types_hasInIt K D A ad cA h x1 x2 σ) hf
def rX_Types_isOfClassesBefore : Room := { frames := 0, cells := 0, slots := 0, locals := 0 }
theorem rm_ok_X_Types_isOfClassesBefore : rX_Types_isOfClassesBefore.cells = 0 ∧ rX_Types_isOfClassesBefore.slots = 0 := ⟨rfl, rfl⟩
def X_Types_isOfClassesBefore (x1 : Int32) (x2 : Int32) (σ : SX) : Option (Int32 × SX) := (if x1 < 0 then (some (0, σ)) else (if (gX_Types_size σ) ≤ x1 then (some (0, σ)) else (if x2 < 0 then (some (0, σ)) else (if (40 : Int32) ≤ x2 then (some (0, σ)) else (if ck x1 500 = true then (if (lg_cmp ((aX_Types_named σ x1.toNatClampNeg) >>> (x2.toInt64 &&& 63)) 0) = 0 then (some (1, σ)) else (some (0, σ))) else none)))))
set_option maxRecDepth 100000 in
set_option maxHeartbeats 4000000 in
theorem J_X_Types_isOfClassesBefore (K : jx_E) (D : va_G) (A : Nat → Prop) (ad : Nat → Nat) (cA : Nat → ClassId) (h : jx_ok K D clX (tysX cA) A 3 b_Types_isOfClassesBefore y_Types_isOfClassesBefore.cls ((Cond.code y_Types_isOfClassesBefore b_Types_isOfClassesBefore 3 (some .boolean)) :: tblG) rX_Types_isOfClassesBefore (some .boolean)) : ∀ (x1 : Int32) (x2 : Int32) (σ : SX), J K D clX A 3 (wX ad cA) (jx_Qi K D clX (tysX cA) (wX ad cA) A) 0 0 0 [(0, .ref (ad 7)), (1, .int x1), (2, .int x2)] [] σ (X_Types_isOfClassesBefore x1 x2 σ) := by
  intro x1 x2 σ
  rw [X_Types_isOfClassesBefore]
  refine J_iload_n (q := 1) h d_Types_isOfClassesBefore_0 rfl rfl ?_
  refine J_if_lt (tgt := 39) h d_Types_isOfClassesBefore_1 (by decide) ?_ ?_
  · refine J_iconst (v := 0) h d_Types_isOfClassesBefore_39 (by decide) ?_
    exact J_zret h rfl (by decide) d_Types_isOfClassesBefore_40
  · refine J_iload_n (q := 1) h d_Types_isOfClassesBefore_4 rfl rfl ?_
    refine J_aload_n (q := 0) h d_Types_isOfClassesBefore_5 rfl rfl ?_
    refine J_getf h 7 (wX_7 ad cA σ) (tb_ups in_Types) rfl 11 (by decide) (tb_up q_1_72) rfl d_Types_isOfClassesBefore_6 ?_
    refine J_icmp_ge (tgt := 39) h d_Types_isOfClassesBefore_9 (by decide) ?_ ?_
    · refine J_iconst (v := 0) h d_Types_isOfClassesBefore_39 (by decide) ?_
      exact J_zret h rfl (by decide) d_Types_isOfClassesBefore_40
    · refine J_iload_n (q := 2) h d_Types_isOfClassesBefore_12 rfl rfl ?_
      refine J_if_lt (tgt := 39) h d_Types_isOfClassesBefore_13 (by decide) ?_ ?_
      · refine J_iconst (v := 0) h d_Types_isOfClassesBefore_39 (by decide) ?_
        exact J_zret h rfl (by decide) d_Types_isOfClassesBefore_40
      · refine J_iload_n (q := 2) h d_Types_isOfClassesBefore_16 rfl rfl ?_
        refine J_bipush (v := 40) h d_Types_isOfClassesBefore_17 (by decide) ?_
        refine J_icmp_ge (tgt := 39) h d_Types_isOfClassesBefore_19 (by decide) ?_ ?_
        · refine J_iconst (v := 0) h d_Types_isOfClassesBefore_39 (by decide) ?_
          exact J_zret h rfl (by decide) d_Types_isOfClassesBefore_40
        · refine J_aload_n (q := 0) h d_Types_isOfClassesBefore_22 rfl rfl ?_
          refine J_getf h 7 (wX_7 ad cA σ) (tb_ups in_Types) rfl 8 (by decide) (tb_up q_1_69) rfl d_Types_isOfClassesBefore_23 ?_
          refine J_iload_n (q := 1) h d_Types_isOfClassesBefore_26 rfl rfl ?_
          refine J_lald h 16 13 (wX_16 ad cA σ) rfl d_Types_isOfClassesBefore_27 ?_
          refine J_iload_n (q := 2) h d_Types_isOfClassesBefore_28 rfl rfl ?_
          refine J_lshr h d_Types_isOfClassesBefore_29 ?_
          refine J_lconst (v := 0) h d_Types_isOfClassesBefore_30 (by decide) ?_
          refine J_lcmp h d_Types_isOfClassesBefore_31 ?_
          refine J_if_ne (tgt := 39) h d_Types_isOfClassesBefore_32 (by decide) ?_ ?_
          · refine J_iconst (v := 1) h d_Types_isOfClassesBefore_35 (by decide) ?_
            refine J_goto (tgt := 40) h d_Types_isOfClassesBefore_36 (by decide) ?_
            exact J_zret h rfl (by decide) d_Types_isOfClassesBefore_40
          · refine J_iconst (v := 0) h d_Types_isOfClassesBefore_39 (by decide) ?_
            exact J_zret h rfl (by decide) d_Types_isOfClassesBefore_40
set_option maxRecDepth 100000 in
theorem cX_Types_isOfClassesBefore (l : Launch) (D : va_G) (ad : Nat → Nat) (cA : Nat → ClassId) (x1 : Int32) (x2 : Int32) (σ : SX) (r : Int32) (σ' : SX) (hf : X_Types_isOfClassesBefore x1 x2 σ = some (r, σ')) : MetI l y_Types_isOfClassesBefore ((Cond.code y_Types_isOfClassesBefore b_Types_isOfClassesBefore 3 (some .boolean)) :: tblG) rX_Types_isOfClassesBefore D clX (tysX cA) (wX ad cA) [.ref (ad 7), .int x1, .int x2] σ r σ' :=
  jx_metI (by decide) rfl (Nat.le_of_ble_eq_true rfl) (fun K A h => J_X_Types_isOfClassesBefore K D A ad cA h x1 x2 σ) hf
def rX_I_declare : Room := { frames := 1, cells := 0, slots := 0, locals := 21 }
theorem rm_ok_X_I_declare : rX_I_declare.cells = 0 ∧ rX_I_declare.slots = 0 := ⟨rfl, rfl⟩
def X_I_declare (x1 : Int32) (σ : SX) : Option (Int32 × SX) := (if x1 < 0 then (some ((-2), σ)) else (if x1 ≤ 2 then (bd (X_Classes_add x1 σ) (fun (r1 : Int32) (σ2 : SX) => (some (r1, σ2)))) else (some ((-2), σ))))
set_option maxRecDepth 100000 in
set_option maxHeartbeats 4000000 in
theorem J_X_I_declare (K : jx_E) (D : va_G) (A : Nat → Prop) (ad : Nat → Nat) (cA : Nat → ClassId) (h : jx_ok K D clX (tysX cA) A 2 b_I_declare y_I_declare.cls ((Cond.code y_I_declare b_I_declare 2 (some .int)) :: tblG) rX_I_declare (some .int)) : ∀ (x1 : Int32) (σ : SX), J K D clX A 2 (wX ad cA) (jx_Qi K D clX (tysX cA) (wX ad cA) A) 0 0 0 [(0, .ref (ad 0)), (1, .int x1)] [] σ (X_I_declare x1 σ) := by
  intro x1 σ
  rw [X_I_declare]
  refine J_iload_n (q := 1) h d_I_declare_0 rfl rfl ?_
  refine J_if_lt (tgt := 9) h d_I_declare_1 (by decide) ?_ ?_
  · refine J_bipush (v := (-2)) h d_I_declare_9 (by decide) ?_
    exact J_iret h rfl d_I_declare_11
  · refine J_iload_n (q := 1) h d_I_declare_4 rfl rfl ?_
    refine J_iconst (v := 2) h d_I_declare_5 (by decide) ?_
    refine J_icmp_le (tgt := 12) h d_I_declare_6 (by decide) ?_ ?_
    · refine J_aload_n (q := 0) h d_I_declare_12 rfl rfl ?_
      refine J_getf h 0 (wX_0 ad cA σ) (tb_ups in_I) rfl 0 (by decide) (tb_up q_2_72) rfl d_I_declare_13 ?_
      refine J_iload_n (q := 1) h d_I_declare_16 rfl rfl ?_
      refine J_callVi (As := [.int x1]) (st := []) (rmc := rX_Classes_add) (q0 := 1) h (fun _ _ hf => cX_Classes_add (jl K) D ad cA x1 σ _ _ hf) (gd_V q_2_110 q_2_111 q_2_112 q_1_2 q_2_113) rfl ⟨rfl, rfl⟩ dd_Classes_add ⟨Nat.le_of_ble_eq_true rfl, Nat.le_of_ble_eq_true rfl⟩ rfl rfl (wX_1 ad cA σ) rfl rfl (Nat.le_of_ble_eq_true rfl) ⟨Nat.zero_le _, Nat.zero_le _⟩ d_I_declare_17 (fun r1 σ2 => ?_)
      exact J_iret h rfl d_I_declare_20
    · refine J_bipush (v := (-2)) h d_I_declare_9 (by decide) ?_
      exact J_iret h rfl d_I_declare_11
set_option maxRecDepth 100000 in
theorem cX_I_declare (l : Launch) (D : va_G) (ad : Nat → Nat) (cA : Nat → ClassId) (x1 : Int32) (σ : SX) (r : Int32) (σ' : SX) (hf : X_I_declare x1 σ = some (r, σ')) : MetI l y_I_declare ((Cond.code y_I_declare b_I_declare 2 (some .int)) :: tblG) rX_I_declare D clX (tysX cA) (wX ad cA) [.ref (ad 0), .int x1] σ r σ' :=
  jx_metI (by decide) rfl (Nat.le_of_ble_eq_true rfl) (fun K A h => J_X_I_declare K D A ad cA h x1 σ) hf
def rX_I_canBeParent : Room := { frames := 2, cells := 0, slots := 0, locals := 42 }
theorem rm_ok_X_I_canBeParent : rX_I_canBeParent.cells = 0 ∧ rX_I_canBeParent.slots = 0 := ⟨rfl, rfl⟩
def X_I_canBeParent_b67 (v1 : Int32) (v2 : Int32) (σ : SX) : Option (Int32 × SX) := (bd (X_Types_secondOf v2 σ) (fun (r9 : Int32) (σ10 : SX) => (bd (X_Types_kindOf r9 σ10) (fun (r11 : Int32) (σ12 : SX) => (if r11 = 2 then (some (0, σ12)) else (bd (X_Types_thirdOf v2 σ12) (fun (r13 : Int32) (σ14 : SX) => (bd (X_Types_kindOf r13 σ14) (fun (r15 : Int32) (σ16 : SX) => (if r15 = 2 then (some (0, σ16)) else (bd (X_Types_hasInIt v2 7 σ16) (fun (r17 : Int32) (σ18 : SX) => (if r17 = 0 then (bd (X_Types_hasInIt v2 8 σ18) (fun (r19 : Int32) (σ20 : SX) => (if r19 = 0 then (bd (X_Types_ownersIn v2 v1 σ20) (fun (r21 : Int64) (σ22 : SX) => (if (lg_cmp r21 0) = 0 then (some (1, σ22)) else (some (0, σ22))))) else (some (0, σ20))))) else (some (0, σ18)))))))))))))))
set_option maxRecDepth 100000 in
set_option maxHeartbeats 4000000 in
theorem J_X_I_canBeParent_b67 (K : jx_E) (D : va_G) (A : Nat → Prop) (ad : Nat → Nat) (cA : Nat → ClassId) (h : jx_ok K D clX (tysX cA) A 5 b_I_canBeParent y_I_canBeParent.cls ((Cond.code y_I_canBeParent b_I_canBeParent 5 (some .boolean)) :: tblG) rX_I_canBeParent (some .boolean)) : ∀ (v1 : Int32) (v2 : Int32) (σ : SX), J K D clX A 5 (wX ad cA) (jx_Qi K D clX (tysX cA) (wX ad cA) A) 0 0 67 [(0, .ref (ad 0)), (1, .int v1), (2, .int v2)] [] σ (X_I_canBeParent_b67 v1 v2 σ) := by
  intro v1 v2 σ
  rw [X_I_canBeParent_b67]
  refine J_aload_n (q := 0) h d_I_canBeParent_67 rfl rfl ?_
  refine J_getf h 0 (wX_0 ad cA σ) (tb_ups in_I) rfl 1 (by decide) (tb_up q_2_73) rfl d_I_canBeParent_68 ?_
  refine J_aload_n (q := 0) h d_I_canBeParent_71 rfl rfl ?_
  refine J_getf h 0 (wX_0 ad cA σ) (tb_ups in_I) rfl 1 (by decide) (tb_up q_2_73) rfl d_I_canBeParent_72 ?_
  refine J_iload_n (q := 2) h d_I_canBeParent_75 rfl rfl ?_
  refine J_callVi (As := [.int v2]) (st := [.ref (ad 7)]) (rmc := rX_Types_secondOf) (q0 := 7) h (fun _ _ hf => cX_Types_secondOf (jl K) D ad cA v2 σ _ _ hf) (gd_V q_2_143 q_2_144 q_2_145 q_1_3 q_2_146) rfl ⟨rfl, rfl⟩ dd_Types_secondOf ⟨Nat.le_of_ble_eq_true rfl, Nat.le_of_ble_eq_true rfl⟩ rfl rfl (wX_7 ad cA σ) rfl rfl (Nat.le_of_ble_eq_true rfl) ⟨Nat.zero_le _, Nat.zero_le _⟩ d_I_canBeParent_76 (fun r9 σ10 => ?_)
  refine J_callVi (As := [.int r9]) (st := []) (rmc := rX_Types_kindOf) (q0 := 7) h (fun _ _ hf => cX_Types_kindOf (jl K) D ad cA r9 σ10 _ _ hf) (gd_V q_2_126 q_2_127 q_2_128 q_1_3 q_2_129) rfl ⟨rfl, rfl⟩ dd_Types_kindOf ⟨Nat.le_of_ble_eq_true rfl, Nat.le_of_ble_eq_true rfl⟩ rfl rfl (wX_7 ad cA σ10) rfl rfl (Nat.le_of_ble_eq_true rfl) ⟨Nat.zero_le _, Nat.zero_le _⟩ d_I_canBeParent_79 (fun r11 σ12 => ?_)
  refine J_iconst (v := 2) h d_I_canBeParent_82 (by decide) ?_
  refine J_icmp_ne (tgt := 88) h d_I_canBeParent_83 (by decide) ?_ ?_
  · refine J_iconst (v := 0) h d_I_canBeParent_86 (by decide) ?_
    exact J_zret h rfl (by decide) d_I_canBeParent_87
  · refine J_aload_n (q := 0) h d_I_canBeParent_88 rfl rfl ?_
    refine J_getf h 0 (wX_0 ad cA σ12) (tb_ups in_I) rfl 1 (by decide) (tb_up q_2_73) rfl d_I_canBeParent_89 ?_
    refine J_aload_n (q := 0) h d_I_canBeParent_92 rfl rfl ?_
    refine J_getf h 0 (wX_0 ad cA σ12) (tb_ups in_I) rfl 1 (by decide) (tb_up q_2_73) rfl d_I_canBeParent_93 ?_
    refine J_iload_n (q := 2) h d_I_canBeParent_96 rfl rfl ?_
    refine J_callVi (As := [.int v2]) (st := [.ref (ad 7)]) (rmc := rX_Types_thirdOf) (q0 := 7) h (fun _ _ hf => cX_Types_thirdOf (jl K) D ad cA v2 σ12 _ _ hf) (gd_V q_2_147 q_2_148 q_2_149 q_1_3 q_2_150) rfl ⟨rfl, rfl⟩ dd_Types_thirdOf ⟨Nat.le_of_ble_eq_true rfl, Nat.le_of_ble_eq_true rfl⟩ rfl rfl (wX_7 ad cA σ12) rfl rfl (Nat.le_of_ble_eq_true rfl) ⟨Nat.zero_le _, Nat.zero_le _⟩ d_I_canBeParent_97 (fun r13 σ14 => ?_)
    refine J_callVi (As := [.int r13]) (st := []) (rmc := rX_Types_kindOf) (q0 := 7) h (fun _ _ hf => cX_Types_kindOf (jl K) D ad cA r13 σ14 _ _ hf) (gd_V q_2_126 q_2_127 q_2_128 q_1_3 q_2_129) rfl ⟨rfl, rfl⟩ dd_Types_kindOf ⟨Nat.le_of_ble_eq_true rfl, Nat.le_of_ble_eq_true rfl⟩ rfl rfl (wX_7 ad cA σ14) rfl rfl (Nat.le_of_ble_eq_true rfl) ⟨Nat.zero_le _, Nat.zero_le _⟩ d_I_canBeParent_100 (fun r15 σ16 => ?_)
    refine J_iconst (v := 2) h d_I_canBeParent_103 (by decide) ?_
    refine J_icmp_ne (tgt := 109) h d_I_canBeParent_104 (by decide) ?_ ?_
    · refine J_iconst (v := 0) h d_I_canBeParent_107 (by decide) ?_
      exact J_zret h rfl (by decide) d_I_canBeParent_108
    · refine J_aload_n (q := 0) h d_I_canBeParent_109 rfl rfl ?_
      refine J_getf h 0 (wX_0 ad cA σ16) (tb_ups in_I) rfl 1 (by decide) (tb_up q_2_73) rfl d_I_canBeParent_110 ?_
      refine J_iload_n (q := 2) h d_I_canBeParent_113 rfl rfl ?_
      refine J_bipush (v := 7) h d_I_canBeParent_114 (by decide) ?_
      refine J_callVi (As := [.int v2, .int 7]) (st := []) (rmc := rX_Types_hasInIt) (q0 := 7) h (fun _ _ hf => cX_Types_hasInIt (jl K) D ad cA v2 7 σ16 _ _ hf) (gd_V q_2_151 q_2_152 q_2_153 q_1_3 q_2_154) rfl ⟨rfl, rfl⟩ dd_Types_hasInIt ⟨Nat.le_of_ble_eq_true rfl, Nat.le_of_ble_eq_true rfl⟩ rfl rfl (wX_7 ad cA σ16) rfl rfl (Nat.le_of_ble_eq_true rfl) ⟨Nat.zero_le _, Nat.zero_le _⟩ d_I_canBeParent_116 (fun r17 σ18 => ?_)
      refine J_if_ne (tgt := 135) h d_I_canBeParent_119 (by decide) ?_ ?_
      · refine J_aload_n (q := 0) h d_I_canBeParent_122 rfl rfl ?_
        refine J_getf h 0 (wX_0 ad cA σ18) (tb_ups in_I) rfl 1 (by decide) (tb_up q_2_73) rfl d_I_canBeParent_123 ?_
        refine J_iload_n (q := 2) h d_I_canBeParent_126 rfl rfl ?_
        refine J_bipush (v := 8) h d_I_canBeParent_127 (by decide) ?_
        refine J_callVi (As := [.int v2, .int 8]) (st := []) (rmc := rX_Types_hasInIt) (q0 := 7) h (fun _ _ hf => cX_Types_hasInIt (jl K) D ad cA v2 8 σ18 _ _ hf) (gd_V q_2_151 q_2_152 q_2_153 q_1_3 q_2_154) rfl ⟨rfl, rfl⟩ dd_Types_hasInIt ⟨Nat.le_of_ble_eq_true rfl, Nat.le_of_ble_eq_true rfl⟩ rfl rfl (wX_7 ad cA σ18) rfl rfl (Nat.le_of_ble_eq_true rfl) ⟨Nat.zero_le _, Nat.zero_le _⟩ d_I_canBeParent_129 (fun r19 σ20 => ?_)
        refine J_if_eq (tgt := 137) h d_I_canBeParent_132 (by decide) ?_ ?_
        · refine J_aload_n (q := 0) h d_I_canBeParent_137 rfl rfl ?_
          refine J_getf h 0 (wX_0 ad cA σ20) (tb_ups in_I) rfl 1 (by decide) (tb_up q_2_73) rfl d_I_canBeParent_138 ?_
          refine J_iload_n (q := 2) h d_I_canBeParent_141 rfl rfl ?_
          refine J_iload_n (q := 1) h d_I_canBeParent_142 rfl rfl ?_
          refine J_callVl (As := [.int v2, .int v1]) (st := []) (rmc := rX_Types_ownersIn) (q0 := 7) h (fun _ _ hf => cX_Types_ownersIn (jl K) D ad cA v2 v1 σ20 _ _ hf) (gd_V q_2_155 q_2_156 q_2_157 q_1_3 q_2_158) rfl ⟨rfl, rfl⟩ dd_Types_ownersIn ⟨Nat.le_of_ble_eq_true rfl, Nat.le_of_ble_eq_true rfl⟩ rfl rfl (wX_7 ad cA σ20) rfl rfl (Nat.le_of_ble_eq_true rfl) ⟨Nat.zero_le _, Nat.zero_le _⟩ d_I_canBeParent_143 (fun r21 σ22 => ?_)
          refine J_lconst (v := 0) h d_I_canBeParent_146 (by decide) ?_
          refine J_lcmp h d_I_canBeParent_147 ?_
          refine J_if_ne (tgt := 155) h d_I_canBeParent_148 (by decide) ?_ ?_
          · refine J_iconst (v := 1) h d_I_canBeParent_151 (by decide) ?_
            refine J_goto (tgt := 156) h d_I_canBeParent_152 (by decide) ?_
            exact J_zret h rfl (by decide) d_I_canBeParent_156
          · refine J_iconst (v := 0) h d_I_canBeParent_155 (by decide) ?_
            exact J_zret h rfl (by decide) d_I_canBeParent_156
        · refine J_iconst (v := 0) h d_I_canBeParent_135 (by decide) ?_
          exact J_zret h rfl (by decide) d_I_canBeParent_136
      · refine J_iconst (v := 0) h d_I_canBeParent_135 (by decide) ?_
        exact J_zret h rfl (by decide) d_I_canBeParent_136
def X_I_canBeParent_b20 (v1 : Int32) (v2 : Int32) (v3 : Int32) (σ : SX) : Option (Int32 × SX) := (bd (X_Types_firstOf v2 σ) (fun (r3 : Int32) (σ4 : SX) => (if r3 = 0 then (some (0, σ4)) else (bd (X_Types_isOfClassesBefore v2 v1 σ4) (fun (r5 : Int32) (σ6 : SX) => (if r5 = 0 then (some (0, σ6)) else (if v3 = 0 then (bd (X_Classes_parametersOf r3 σ6) (fun (r7 : Int32) (σ8 : SX) => (if r7 ≤ 0 then (X_I_canBeParent_b67 v1 v2 σ8) else (some (0, σ8))))) else (X_I_canBeParent_b67 v1 v2 σ6))))))))
set_option maxRecDepth 100000 in
set_option maxHeartbeats 4000000 in
theorem J_X_I_canBeParent_b20 (K : jx_E) (D : va_G) (A : Nat → Prop) (ad : Nat → Nat) (cA : Nat → ClassId) (h : jx_ok K D clX (tysX cA) A 5 b_I_canBeParent y_I_canBeParent.cls ((Cond.code y_I_canBeParent b_I_canBeParent 5 (some .boolean)) :: tblG) rX_I_canBeParent (some .boolean)) : ∀ (v1 : Int32) (v2 : Int32) (v3 : Int32) (σ : SX), J K D clX A 5 (wX ad cA) (jx_Qi K D clX (tysX cA) (wX ad cA) A) 0 0 20 [(0, .ref (ad 0)), (1, .int v1), (2, .int v2), (3, .int v3)] [] σ (X_I_canBeParent_b20 v1 v2 v3 σ) := by
  intro v1 v2 v3 σ
  rw [X_I_canBeParent_b20]
  refine J_aload_n (q := 0) h d_I_canBeParent_20 rfl rfl ?_
  refine J_getf h 0 (wX_0 ad cA σ) (tb_ups in_I) rfl 1 (by decide) (tb_up q_2_73) rfl d_I_canBeParent_21 ?_
  refine J_iload_n (q := 2) h d_I_canBeParent_24 rfl rfl ?_
  refine J_callVi (As := [.int v2]) (st := []) (rmc := rX_Types_firstOf) (q0 := 7) h (fun _ _ hf => cX_Types_firstOf (jl K) D ad cA v2 σ _ _ hf) (gd_V q_2_130 q_2_131 q_2_132 q_1_3 q_2_133) rfl ⟨rfl, rfl⟩ dd_Types_firstOf ⟨Nat.le_of_ble_eq_true rfl, Nat.le_of_ble_eq_true rfl⟩ rfl rfl (wX_7 ad cA σ) rfl rfl (Nat.le_of_ble_eq_true rfl) ⟨Nat.zero_le _, Nat.zero_le _⟩ d_I_canBeParent_25 (fun r3 σ4 => ?_)
  refine J_istore (lv' := [(4, .int r3), (0, .ref (ad 0)), (1, .int v1), (2, .int v2), (3, .int v3)]) h d_I_canBeParent_28 (by decide) rfl ?_
  refine J_iload (q := 0) h d_I_canBeParent_30 rfl ?_
  refine J_if_eq (tgt := 47) h d_I_canBeParent_32 (by decide) ?_ ?_
  · refine J_iconst (v := 0) h d_I_canBeParent_47 (by decide) ?_
    exact J_zret h rfl (by decide) d_I_canBeParent_48
  · refine J_aload_n (q := 1) h d_I_canBeParent_35 rfl rfl ?_
    refine J_getf h 0 (wX_0 ad cA σ4) (tb_ups in_I) rfl 1 (by decide) (tb_up q_2_73) rfl d_I_canBeParent_36 ?_
    refine J_iload_n (q := 3) h d_I_canBeParent_39 rfl rfl ?_
    refine J_iload_n (q := 2) h d_I_canBeParent_40 rfl rfl ?_
    refine J_callVi (As := [.int v2, .int v1]) (st := []) (rmc := rX_Types_isOfClassesBefore) (q0 := 7) h (fun _ _ hf => cX_Types_isOfClassesBefore (jl K) D ad cA v2 v1 σ4 _ _ hf) (gd_V q_2_134 q_2_135 q_2_136 q_1_3 q_2_137) rfl ⟨rfl, rfl⟩ dd_Types_isOfClassesBefore ⟨Nat.le_of_ble_eq_true rfl, Nat.le_of_ble_eq_true rfl⟩ rfl rfl (wX_7 ad cA σ4) rfl rfl (Nat.le_of_ble_eq_true rfl) ⟨Nat.zero_le _, Nat.zero_le _⟩ d_I_canBeParent_41 (fun r5 σ6 => ?_)
    refine J_if_ne (tgt := 49) h d_I_canBeParent_44 (by decide) ?_ ?_
    · refine J_iconst (v := 0) h d_I_canBeParent_47 (by decide) ?_
      exact J_zret h rfl (by decide) d_I_canBeParent_48
    · refine J_iload_n (q := 4) h d_I_canBeParent_49 rfl rfl ?_
      refine J_if_ne (tgt := 67) h d_I_canBeParent_50 (by decide) ?_ ?_
      · refine J_aload_n (q := 1) h d_I_canBeParent_53 rfl rfl ?_
        refine J_getf h 0 (wX_0 ad cA σ6) (tb_ups in_I) rfl 0 (by decide) (tb_up q_2_72) rfl d_I_canBeParent_54 ?_
        refine J_iload (q := 0) h d_I_canBeParent_57 rfl ?_
        refine J_callVi (As := [.int r3]) (st := []) (rmc := rX_Classes_parametersOf) (q0 := 1) h (fun _ _ hf => cX_Classes_parametersOf (jl K) D ad cA r3 σ6 _ _ hf) (gd_V q_2_138 q_2_139 q_2_140 q_1_2 q_2_141) rfl ⟨rfl, rfl⟩ dd_Classes_parametersOf ⟨Nat.le_of_ble_eq_true rfl, Nat.le_of_ble_eq_true rfl⟩ rfl rfl (wX_1 ad cA σ6) rfl rfl (Nat.le_of_ble_eq_true rfl) ⟨Nat.zero_le _, Nat.zero_le _⟩ d_I_canBeParent_59 (fun r7 σ8 => ?_)
        refine J_if_le (tgt := 67) h d_I_canBeParent_62 (by decide) ?_ ?_
        · refine J_sub [1, 2, 3] rfl ?_
          exact J_X_I_canBeParent_b67 K D A ad cA h v1 v2 σ8
        · refine J_iconst (v := 0) h d_I_canBeParent_65 (by decide) ?_
          exact J_zret h rfl (by decide) d_I_canBeParent_66
      · refine J_sub [1, 2, 3] rfl ?_
        exact J_X_I_canBeParent_b67 K D A ad cA h v1 v2 σ6
def X_I_canBeParent (x1 : Int32) (x2 : Int32) (σ : SX) : Option (Int32 × SX) := (bd (X_Types_kindOf x2 σ) (fun (r1 : Int32) (σ2 : SX) => (if r1 = 0 then (X_I_canBeParent_b20 x1 x2 r1 σ2) else (if r1 = 1 then (X_I_canBeParent_b20 x1 x2 r1 σ2) else (some (0, σ2))))))
set_option maxRecDepth 100000 in
set_option maxHeartbeats 4000000 in
theorem J_X_I_canBeParent (K : jx_E) (D : va_G) (A : Nat → Prop) (ad : Nat → Nat) (cA : Nat → ClassId) (h : jx_ok K D clX (tysX cA) A 5 b_I_canBeParent y_I_canBeParent.cls ((Cond.code y_I_canBeParent b_I_canBeParent 5 (some .boolean)) :: tblG) rX_I_canBeParent (some .boolean)) : ∀ (x1 : Int32) (x2 : Int32) (σ : SX), J K D clX A 5 (wX ad cA) (jx_Qi K D clX (tysX cA) (wX ad cA) A) 0 0 0 [(0, .ref (ad 0)), (1, .int x1), (2, .int x2)] [] σ (X_I_canBeParent x1 x2 σ) := by
  intro x1 x2 σ
  rw [X_I_canBeParent]
  refine J_aload_n (q := 0) h d_I_canBeParent_0 rfl rfl ?_
  refine J_getf h 0 (wX_0 ad cA σ) (tb_ups in_I) rfl 1 (by decide) (tb_up q_2_73) rfl d_I_canBeParent_1 ?_
  refine J_iload_n (q := 2) h d_I_canBeParent_4 rfl rfl ?_
  refine J_callVi (As := [.int x2]) (st := []) (rmc := rX_Types_kindOf) (q0 := 7) h (fun _ _ hf => cX_Types_kindOf (jl K) D ad cA x2 σ _ _ hf) (gd_V q_2_126 q_2_127 q_2_128 q_1_3 q_2_129) rfl ⟨rfl, rfl⟩ dd_Types_kindOf ⟨Nat.le_of_ble_eq_true rfl, Nat.le_of_ble_eq_true rfl⟩ rfl rfl (wX_7 ad cA σ) rfl rfl (Nat.le_of_ble_eq_true rfl) ⟨Nat.zero_le _, Nat.zero_le _⟩ d_I_canBeParent_5 (fun r1 σ2 => ?_)
  refine J_istore_n (lv' := [(3, .int r1), (0, .ref (ad 0)), (1, .int x1), (2, .int x2)]) h d_I_canBeParent_8 rfl (by decide) rfl ?_
  refine J_iload_n (q := 0) h d_I_canBeParent_9 rfl rfl ?_
  refine J_if_eq (tgt := 20) h d_I_canBeParent_10 (by decide) ?_ ?_
  · refine J_sub [1, 2, 3, 0] rfl ?_
    exact J_X_I_canBeParent_b20 K D A ad cA h x1 x2 r1 σ2
  · refine J_iload_n (q := 0) h d_I_canBeParent_13 rfl rfl ?_
    refine J_iconst (v := 1) h d_I_canBeParent_14 (by decide) ?_
    refine J_icmp_eq (tgt := 20) h d_I_canBeParent_15 (by decide) ?_ ?_
    · refine J_sub [1, 2, 3, 0] rfl ?_
      exact J_X_I_canBeParent_b20 K D A ad cA h x1 x2 r1 σ2
    · refine J_iconst (v := 0) h d_I_canBeParent_18 (by decide) ?_
      exact J_zret h rfl (by decide) d_I_canBeParent_19
set_option maxRecDepth 100000 in
theorem cX_I_canBeParent (l : Launch) (D : va_G) (ad : Nat → Nat) (cA : Nat → ClassId) (x1 : Int32) (x2 : Int32) (σ : SX) (r : Int32) (σ' : SX) (hf : X_I_canBeParent x1 x2 σ = some (r, σ')) : MetI l y_I_canBeParent ((Cond.code y_I_canBeParent b_I_canBeParent 5 (some .boolean)) :: tblG) rX_I_canBeParent D clX (tysX cA) (wX ad cA) [.ref (ad 0), .int x1, .int x2] σ r σ' :=
  jx_metI (by decide) rfl (Nat.le_of_ble_eq_true rfl) (fun K A h => J_X_I_canBeParent K D A ad cA h x1 x2 σ) hf
def rX_I_parent : Room := { frames := 3, cells := 0, slots := 0, locals := 70 }
theorem rm_ok_X_I_parent : rX_I_parent.cells = 0 ∧ rX_I_parent.slots = 0 := ⟨rfl, rfl⟩
def X_I_parent (N : Nat) (x1 : Int32) (x2 : Int32) (σ : SX) : Option (Int32 × SX) := (if x1 < 9 then (some ((-2), σ)) else (bd (X_Classes_has x1 σ) (fun (r1 : Int32) (σ2 : SX) => (if r1 = 0 then (some ((-2), σ2)) else (bd (X_I_canBeParent x1 x2 σ2) (fun (r3 : Int32) (σ4 : SX) => (if r3 = 0 then (some ((-2), σ4)) else (bd (X_Types_firstOf x2 σ4) (fun (r5 : Int32) (σ6 : SX) => (bd (X_Classes_addParent N x1 x2 r5 σ6) (fun (r7 : Int32) (σ8 : SX) => (some (r7, σ8)))))))))))))
set_option maxRecDepth 100000 in
set_option maxHeartbeats 4000000 in
theorem J_X_I_parent (K : jx_E) (D : va_G) (A : Nat → Prop) (ad : Nat → Nat) (cA : Nat → ClassId) (N : Nat) (h : jx_ok K D clX (tysX cA) A 3 b_I_parent y_I_parent.cls ((Cond.code y_I_parent b_I_parent 3 (some .int)) :: tblG) rX_I_parent (some .int)) : ∀ (x1 : Int32) (x2 : Int32) (σ : SX), J K D clX A 3 (wX ad cA) (jx_Qi K D clX (tysX cA) (wX ad cA) A) 0 0 0 [(0, .ref (ad 0)), (1, .int x1), (2, .int x2)] [] σ (X_I_parent N x1 x2 σ) := by
  intro x1 x2 σ
  rw [X_I_parent]
  refine J_iload_n (q := 1) h d_I_parent_0 rfl rfl ?_
  refine J_bipush (v := 9) h d_I_parent_1 (by decide) ?_
  refine J_icmp_lt (tgt := 26) h d_I_parent_3 (by decide) ?_ ?_
  · refine J_bipush (v := (-2)) h d_I_parent_26 (by decide) ?_
    exact J_iret h rfl d_I_parent_28
  · refine J_aload_n (q := 0) h d_I_parent_6 rfl rfl ?_
    refine J_getf h 0 (wX_0 ad cA σ) (tb_ups in_I) rfl 0 (by decide) (tb_up q_2_72) rfl d_I_parent_7 ?_
    refine J_iload_n (q := 1) h d_I_parent_10 rfl rfl ?_
    refine J_callVi (As := [.int x1]) (st := []) (rmc := rX_Classes_has) (q0 := 1) h (fun _ _ hf => cX_Classes_has (jl K) D ad cA x1 σ _ _ hf) (gd_V q_2_118 q_2_119 q_2_120 q_1_2 q_2_121) rfl ⟨rfl, rfl⟩ dd_Classes_has ⟨Nat.le_of_ble_eq_true rfl, Nat.le_of_ble_eq_true rfl⟩ rfl rfl (wX_1 ad cA σ) rfl rfl (Nat.le_of_ble_eq_true rfl) ⟨Nat.zero_le _, Nat.zero_le _⟩ d_I_parent_11 (fun r1 σ2 => ?_)
    refine J_if_eq (tgt := 26) h d_I_parent_14 (by decide) ?_ ?_
    · refine J_bipush (v := (-2)) h d_I_parent_26 (by decide) ?_
      exact J_iret h rfl d_I_parent_28
    · refine J_aload_n (q := 0) h d_I_parent_17 rfl rfl ?_
      refine J_iload_n (q := 1) h d_I_parent_18 rfl rfl ?_
      refine J_iload_n (q := 2) h d_I_parent_19 rfl rfl ?_
      refine J_callVi (As := [.int x1, .int x2]) (st := []) (rmc := rX_I_canBeParent) (q0 := 0) h (fun _ _ hf => cX_I_canBeParent (jl K) D ad cA x1 x2 σ2 _ _ hf) (gd_V q_2_122 q_2_124 q_s_0 q_1_1 q_2_125) rfl ⟨rfl, rfl⟩ dd_I_canBeParent ⟨Nat.le_of_ble_eq_true rfl, Nat.le_of_ble_eq_true rfl⟩ rfl rfl (wX_0 ad cA σ2) rfl rfl (Nat.le_of_ble_eq_true rfl) ⟨Nat.zero_le _, Nat.zero_le _⟩ d_I_parent_20 (fun r3 σ4 => ?_)
      refine J_if_ne (tgt := 29) h d_I_parent_23 (by decide) ?_ ?_
      · refine J_bipush (v := (-2)) h d_I_parent_26 (by decide) ?_
        exact J_iret h rfl d_I_parent_28
      · refine J_aload_n (q := 0) h d_I_parent_29 rfl rfl ?_
        refine J_getf h 0 (wX_0 ad cA σ4) (tb_ups in_I) rfl 0 (by decide) (tb_up q_2_72) rfl d_I_parent_30 ?_
        refine J_iload_n (q := 1) h d_I_parent_33 rfl rfl ?_
        refine J_iload_n (q := 2) h d_I_parent_34 rfl rfl ?_
        refine J_aload_n (q := 0) h d_I_parent_35 rfl rfl ?_
        refine J_getf h 0 (wX_0 ad cA σ4) (tb_ups in_I) rfl 1 (by decide) (tb_up q_2_73) rfl d_I_parent_36 ?_
        refine J_iload_n (q := 2) h d_I_parent_39 rfl rfl ?_
        refine J_callVi (As := [.int x2]) (st := [.int x2, .int x1, .ref (ad 1)]) (rmc := rX_Types_firstOf) (q0 := 7) h (fun _ _ hf => cX_Types_firstOf (jl K) D ad cA x2 σ4 _ _ hf) (gd_V q_2_130 q_2_131 q_2_132 q_1_3 q_2_133) rfl ⟨rfl, rfl⟩ dd_Types_firstOf ⟨Nat.le_of_ble_eq_true rfl, Nat.le_of_ble_eq_true rfl⟩ rfl rfl (wX_7 ad cA σ4) rfl rfl (Nat.le_of_ble_eq_true rfl) ⟨Nat.zero_le _, Nat.zero_le _⟩ d_I_parent_40 (fun r5 σ6 => ?_)
        refine J_callVi (As := [.int x1, .int x2, .int r5]) (st := []) (rmc := rX_Classes_addParent) (q0 := 1) h (fun _ _ hf => cX_Classes_addParent (jl K) D ad cA N x1 x2 r5 σ6 _ _ hf) (gd_V q_2_160 q_2_161 q_2_162 q_1_2 q_2_163) rfl ⟨rfl, rfl⟩ dd_Classes_addParent ⟨Nat.le_of_ble_eq_true rfl, Nat.le_of_ble_eq_true rfl⟩ rfl rfl (wX_1 ad cA σ6) rfl rfl (Nat.le_of_ble_eq_true rfl) ⟨Nat.zero_le _, Nat.zero_le _⟩ d_I_parent_43 (fun r7 σ8 => ?_)
        exact J_iret h rfl d_I_parent_46
set_option maxRecDepth 100000 in
theorem cX_I_parent (l : Launch) (D : va_G) (ad : Nat → Nat) (cA : Nat → ClassId) (N : Nat) (x1 : Int32) (x2 : Int32) (σ : SX) (r : Int32) (σ' : SX) (hf : X_I_parent N x1 x2 σ = some (r, σ')) : MetI l y_I_parent ((Cond.code y_I_parent b_I_parent 3 (some .int)) :: tblG) rX_I_parent D clX (tysX cA) (wX ad cA) [.ref (ad 0), .int x1, .int x2] σ r σ' :=
  jx_metI (by decide) rfl (Nat.le_of_ble_eq_true rfl) (fun K A h => J_X_I_parent K D A ad cA N h x1 x2 σ) hf
def rX_I_plain : Room := { frames := 1, cells := 0, slots := 0, locals := 35 }
theorem rm_ok_X_I_plain : rX_I_plain.cells = 0 ∧ rX_I_plain.slots = 0 := ⟨rfl, rfl⟩
def X_I_plain (N : Nat) (x1 : Int32) (σ : SX) : Option (Int32 × SX) := (bd (X_Classes_has x1 σ) (fun (r1 : Int32) (σ2 : SX) => (if r1 = 0 then (some ((-2), σ2)) else (bd (X_Types_make N 0 x1 (-1) (-1) σ2) (fun (r3 : Int32) (σ4 : SX) => (some (r3, σ4)))))))
set_option maxRecDepth 100000 in
set_option maxHeartbeats 4000000 in
theorem J_X_I_plain (K : jx_E) (D : va_G) (A : Nat → Prop) (ad : Nat → Nat) (cA : Nat → ClassId) (N : Nat) (h : jx_ok K D clX (tysX cA) A 2 b_I_plain y_I_plain.cls ((Cond.code y_I_plain b_I_plain 2 (some .int)) :: tblG) rX_I_plain (some .int)) : ∀ (x1 : Int32) (σ : SX), J K D clX A 2 (wX ad cA) (jx_Qi K D clX (tysX cA) (wX ad cA) A) 0 0 0 [(0, .ref (ad 0)), (1, .int x1)] [] σ (X_I_plain N x1 σ) := by
  intro x1 σ
  rw [X_I_plain]
  refine J_aload_n (q := 0) h d_I_plain_0 rfl rfl ?_
  refine J_getf h 0 (wX_0 ad cA σ) (tb_ups in_I) rfl 0 (by decide) (tb_up q_2_72) rfl d_I_plain_1 ?_
  refine J_iload_n (q := 1) h d_I_plain_4 rfl rfl ?_
  refine J_callVi (As := [.int x1]) (st := []) (rmc := rX_Classes_has) (q0 := 1) h (fun _ _ hf => cX_Classes_has (jl K) D ad cA x1 σ _ _ hf) (gd_V q_2_118 q_2_119 q_2_120 q_1_2 q_2_121) rfl ⟨rfl, rfl⟩ dd_Classes_has ⟨Nat.le_of_ble_eq_true rfl, Nat.le_of_ble_eq_true rfl⟩ rfl rfl (wX_1 ad cA σ) rfl rfl (Nat.le_of_ble_eq_true rfl) ⟨Nat.zero_le _, Nat.zero_le _⟩ d_I_plain_5 (fun r1 σ2 => ?_)
  refine J_if_ne (tgt := 14) h d_I_plain_8 (by decide) ?_ ?_
  · refine J_bipush (v := (-2)) h d_I_plain_11 (by decide) ?_
    exact J_iret h rfl d_I_plain_13
  · refine J_aload_n (q := 0) h d_I_plain_14 rfl rfl ?_
    refine J_getf h 0 (wX_0 ad cA σ2) (tb_ups in_I) rfl 1 (by decide) (tb_up q_2_73) rfl d_I_plain_15 ?_
    refine J_iconst (v := 0) h d_I_plain_18 (by decide) ?_
    refine J_iload_n (q := 1) h d_I_plain_19 rfl rfl ?_
    refine J_iconst (v := (-1)) h d_I_plain_20 (by decide) ?_
    refine J_iconst (v := (-1)) h d_I_plain_21 (by decide) ?_
    refine J_callVi (As := [.int 0, .int x1, .int (-1), .int (-1)]) (st := []) (rmc := rX_Types_make) (q0 := 7) h (fun _ _ hf => cX_Types_make (jl K) D ad cA N 0 x1 (-1) (-1) σ2 _ _ hf) (gd_V q_2_172 q_2_173 q_2_174 q_1_3 q_2_175) rfl ⟨rfl, rfl⟩ dd_Types_make ⟨Nat.le_of_ble_eq_true rfl, Nat.le_of_ble_eq_true rfl⟩ rfl rfl (wX_7 ad cA σ2) rfl rfl (Nat.le_of_ble_eq_true rfl) ⟨Nat.zero_le _, Nat.zero_le _⟩ d_I_plain_22 (fun r3 σ4 => ?_)
    exact J_iret h rfl d_I_plain_25
set_option maxRecDepth 100000 in
theorem cX_I_plain (l : Launch) (D : va_G) (ad : Nat → Nat) (cA : Nat → ClassId) (N : Nat) (x1 : Int32) (σ : SX) (r : Int32) (σ' : SX) (hf : X_I_plain N x1 σ = some (r, σ')) : MetI l y_I_plain ((Cond.code y_I_plain b_I_plain 2 (some .int)) :: tblG) rX_I_plain D clX (tysX cA) (wX ad cA) [.ref (ad 0), .int x1] σ r σ' :=
  jx_metI (by decide) rfl (Nat.le_of_ble_eq_true rfl) (fun K A h => J_X_I_plain K D A ad cA N h x1 σ) hf
def rX_I_canBeArgument : Room := { frames := 1, cells := 0, slots := 0, locals := 21 }
theorem rm_ok_X_I_canBeArgument : rX_I_canBeArgument.cells = 0 ∧ rX_I_canBeArgument.slots = 0 := ⟨rfl, rfl⟩
def X_I_canBeArgument (x1 : Int32) (σ : SX) : Option (Int32 × SX) := (bd (X_Types_kindOf x1 σ) (fun (r1 : Int32) (σ2 : SX) => (bd (X_Types_has x1 σ2) (fun (r3 : Int32) (σ4 : SX) => (if r3 = 0 then (some (0, σ4)) else (if r1 = 5 then (some (0, σ4)) else (if r1 = 6 then (some (0, σ4)) else (some (1, σ4)))))))))
set_option maxRecDepth 100000 in
set_option maxHeartbeats 4000000 in
theorem J_X_I_canBeArgument (K : jx_E) (D : va_G) (A : Nat → Prop) (ad : Nat → Nat) (cA : Nat → ClassId) (h : jx_ok K D clX (tysX cA) A 3 b_I_canBeArgument y_I_canBeArgument.cls ((Cond.code y_I_canBeArgument b_I_canBeArgument 3 (some .boolean)) :: tblG) rX_I_canBeArgument (some .boolean)) : ∀ (x1 : Int32) (σ : SX), J K D clX A 3 (wX ad cA) (jx_Qi K D clX (tysX cA) (wX ad cA) A) 0 0 0 [(0, .ref (ad 0)), (1, .int x1)] [] σ (X_I_canBeArgument x1 σ) := by
  intro x1 σ
  rw [X_I_canBeArgument]
  refine J_aload_n (q := 0) h d_I_canBeArgument_0 rfl rfl ?_
  refine J_getf h 0 (wX_0 ad cA σ) (tb_ups in_I) rfl 1 (by decide) (tb_up q_2_73) rfl d_I_canBeArgument_1 ?_
  refine J_iload_n (q := 1) h d_I_canBeArgument_4 rfl rfl ?_
  refine J_callVi (As := [.int x1]) (st := []) (rmc := rX_Types_kindOf) (q0 := 7) h (fun _ _ hf => cX_Types_kindOf (jl K) D ad cA x1 σ _ _ hf) (gd_V q_2_126 q_2_127 q_2_128 q_1_3 q_2_129) rfl ⟨rfl, rfl⟩ dd_Types_kindOf ⟨Nat.le_of_ble_eq_true rfl, Nat.le_of_ble_eq_true rfl⟩ rfl rfl (wX_7 ad cA σ) rfl rfl (Nat.le_of_ble_eq_true rfl) ⟨Nat.zero_le _, Nat.zero_le _⟩ d_I_canBeArgument_5 (fun r1 σ2 => ?_)
  refine J_istore_n (lv' := [(2, .int r1), (0, .ref (ad 0)), (1, .int x1)]) h d_I_canBeArgument_8 rfl (by decide) rfl ?_
  refine J_aload_n (q := 1) h d_I_canBeArgument_9 rfl rfl ?_
  refine J_getf h 0 (wX_0 ad cA σ2) (tb_ups in_I) rfl 1 (by decide) (tb_up q_2_73) rfl d_I_canBeArgument_10 ?_
  refine J_iload_n (q := 2) h d_I_canBeArgument_13 rfl rfl ?_
  refine J_callVi (As := [.int x1]) (st := []) (rmc := rX_Types_has) (q0 := 7) h (fun _ _ hf => cX_Types_has (jl K) D ad cA x1 σ2 _ _ hf) (gd_V q_2_184 q_2_185 q_2_186 q_1_3 q_2_187) rfl ⟨rfl, rfl⟩ dd_Types_has ⟨Nat.le_of_ble_eq_true rfl, Nat.le_of_ble_eq_true rfl⟩ rfl rfl (wX_7 ad cA σ2) rfl rfl (Nat.le_of_ble_eq_true rfl) ⟨Nat.zero_le _, Nat.zero_le _⟩ d_I_canBeArgument_14 (fun r3 σ4 => ?_)
  refine J_if_eq (tgt := 35) h d_I_canBeArgument_17 (by decide) ?_ ?_
  · refine J_iconst (v := 0) h d_I_canBeArgument_35 (by decide) ?_
    exact J_zret h rfl (by decide) d_I_canBeArgument_36
  · refine J_iload_n (q := 0) h d_I_canBeArgument_20 rfl rfl ?_
    refine J_iconst (v := 5) h d_I_canBeArgument_21 (by decide) ?_
    refine J_icmp_eq (tgt := 35) h d_I_canBeArgument_22 (by decide) ?_ ?_
    · refine J_iconst (v := 0) h d_I_canBeArgument_35 (by decide) ?_
      exact J_zret h rfl (by decide) d_I_canBeArgument_36
    · refine J_iload_n (q := 0) h d_I_canBeArgument_25 rfl rfl ?_
      refine J_bipush (v := 6) h d_I_canBeArgument_26 (by decide) ?_
      refine J_icmp_eq (tgt := 35) h d_I_canBeArgument_28 (by decide) ?_ ?_
      · refine J_iconst (v := 0) h d_I_canBeArgument_35 (by decide) ?_
        exact J_zret h rfl (by decide) d_I_canBeArgument_36
      · refine J_iconst (v := 1) h d_I_canBeArgument_31 (by decide) ?_
        refine J_goto (tgt := 36) h d_I_canBeArgument_32 (by decide) ?_
        exact J_zret h rfl (by decide) d_I_canBeArgument_36
set_option maxRecDepth 100000 in
theorem cX_I_canBeArgument (l : Launch) (D : va_G) (ad : Nat → Nat) (cA : Nat → ClassId) (x1 : Int32) (σ : SX) (r : Int32) (σ' : SX) (hf : X_I_canBeArgument x1 σ = some (r, σ')) : MetI l y_I_canBeArgument ((Cond.code y_I_canBeArgument b_I_canBeArgument 3 (some .boolean)) :: tblG) rX_I_canBeArgument D clX (tysX cA) (wX ad cA) [.ref (ad 0), .int x1] σ r σ' :=
  jx_metI (by decide) rfl (Nat.le_of_ble_eq_true rfl) (fun K A h => J_X_I_canBeArgument K D A ad cA h x1 σ) hf
def rX_I_of : Room := { frames := 2, cells := 0, slots := 0, locals := 43 }
theorem rm_ok_X_I_of : rX_I_of.cells = 0 ∧ rX_I_of.slots = 0 := ⟨rfl, rfl⟩
def X_I_of (N : Nat) (x1 : Int32) (x2 : Int32) (x3 : Int32) (σ : SX) : Option (Int32 × SX) := (bd (X_Classes_parametersOf x1 σ) (fun (r1 : Int32) (σ2 : SX) => (if r1 < 1 then (some ((-2), σ2)) else (bd (X_I_canBeArgument x2 σ2) (fun (r3 : Int32) (σ4 : SX) => (if r3 = 0 then (some ((-2), σ4)) else (if r1 = 1 then (bd (X_Types_make N 1 x1 x2 (-1) σ4) (fun (r5 : Int32) (σ6 : SX) => (some (r5, σ6)))) else (bd (X_I_canBeArgument x3 σ4) (fun (r7 : Int32) (σ8 : SX) => (if r7 = 0 then (some ((-2), σ8)) else (bd (X_Types_make N 1 x1 x2 x3 σ8) (fun (r9 : Int32) (σ10 : SX) => (some (r9, σ10))))))))))))))
set_option maxRecDepth 100000 in
set_option maxHeartbeats 4000000 in
theorem J_X_I_of (K : jx_E) (D : va_G) (A : Nat → Prop) (ad : Nat → Nat) (cA : Nat → ClassId) (N : Nat) (h : jx_ok K D clX (tysX cA) A 5 b_I_of y_I_of.cls ((Cond.code y_I_of b_I_of 5 (some .int)) :: tblG) rX_I_of (some .int)) : ∀ (x1 : Int32) (x2 : Int32) (x3 : Int32) (σ : SX), J K D clX A 5 (wX ad cA) (jx_Qi K D clX (tysX cA) (wX ad cA) A) 0 0 0 [(0, .ref (ad 0)), (1, .int x1), (2, .int x2), (3, .int x3)] [] σ (X_I_of N x1 x2 x3 σ) := by
  intro x1 x2 x3 σ
  rw [X_I_of]
  refine J_aload_n (q := 0) h d_I_of_0 rfl rfl ?_
  refine J_getf h 0 (wX_0 ad cA σ) (tb_ups in_I) rfl 0 (by decide) (tb_up q_2_72) rfl d_I_of_1 ?_
  refine J_iload_n (q := 1) h d_I_of_4 rfl rfl ?_
  refine J_callVi (As := [.int x1]) (st := []) (rmc := rX_Classes_parametersOf) (q0 := 1) h (fun _ _ hf => cX_Classes_parametersOf (jl K) D ad cA x1 σ _ _ hf) (gd_V q_2_138 q_2_139 q_2_140 q_1_2 q_2_141) rfl ⟨rfl, rfl⟩ dd_Classes_parametersOf ⟨Nat.le_of_ble_eq_true rfl, Nat.le_of_ble_eq_true rfl⟩ rfl rfl (wX_1 ad cA σ) rfl rfl (Nat.le_of_ble_eq_true rfl) ⟨Nat.zero_le _, Nat.zero_le _⟩ d_I_of_5 (fun r1 σ2 => ?_)
  refine J_istore (lv' := [(4, .int r1), (0, .ref (ad 0)), (1, .int x1), (2, .int x2), (3, .int x3)]) h d_I_of_8 (by decide) rfl ?_
  refine J_iload (q := 0) h d_I_of_10 rfl ?_
  refine J_iconst (v := 1) h d_I_of_12 (by decide) ?_
  refine J_icmp_lt (tgt := 24) h d_I_of_13 (by decide) ?_ ?_
  · refine J_bipush (v := (-2)) h d_I_of_24 (by decide) ?_
    exact J_iret h rfl d_I_of_26
  · refine J_aload_n (q := 1) h d_I_of_16 rfl rfl ?_
    refine J_iload_n (q := 3) h d_I_of_17 rfl rfl ?_
    refine J_callVi (As := [.int x2]) (st := []) (rmc := rX_I_canBeArgument) (q0 := 0) h (fun _ _ hf => cX_I_canBeArgument (jl K) D ad cA x2 σ2 _ _ hf) (gd_V q_2_180 q_2_182 q_s_2 q_1_1 q_2_183) rfl ⟨rfl, rfl⟩ dd_I_canBeArgument ⟨Nat.le_of_ble_eq_true rfl, Nat.le_of_ble_eq_true rfl⟩ rfl rfl (wX_0 ad cA σ2) rfl rfl (Nat.le_of_ble_eq_true rfl) ⟨Nat.zero_le _, Nat.zero_le _⟩ d_I_of_18 (fun r3 σ4 => ?_)
    refine J_if_ne (tgt := 27) h d_I_of_21 (by decide) ?_ ?_
    · refine J_bipush (v := (-2)) h d_I_of_24 (by decide) ?_
      exact J_iret h rfl d_I_of_26
    · refine J_iload (q := 0) h d_I_of_27 rfl ?_
      refine J_iconst (v := 1) h d_I_of_29 (by decide) ?_
      refine J_icmp_ne (tgt := 45) h d_I_of_30 (by decide) ?_ ?_
      · refine J_aload_n (q := 1) h d_I_of_33 rfl rfl ?_
        refine J_getf h 0 (wX_0 ad cA σ4) (tb_ups in_I) rfl 1 (by decide) (tb_up q_2_73) rfl d_I_of_34 ?_
        refine J_iconst (v := 1) h d_I_of_37 (by decide) ?_
        refine J_iload_n (q := 2) h d_I_of_38 rfl rfl ?_
        refine J_iload_n (q := 3) h d_I_of_39 rfl rfl ?_
        refine J_iconst (v := (-1)) h d_I_of_40 (by decide) ?_
        refine J_callVi (As := [.int 1, .int x1, .int x2, .int (-1)]) (st := []) (rmc := rX_Types_make) (q0 := 7) h (fun _ _ hf => cX_Types_make (jl K) D ad cA N 1 x1 x2 (-1) σ4 _ _ hf) (gd_V q_2_172 q_2_173 q_2_174 q_1_3 q_2_175) rfl ⟨rfl, rfl⟩ dd_Types_make ⟨Nat.le_of_ble_eq_true rfl, Nat.le_of_ble_eq_true rfl⟩ rfl rfl (wX_7 ad cA σ4) rfl rfl (Nat.le_of_ble_eq_true rfl) ⟨Nat.zero_le _, Nat.zero_le _⟩ d_I_of_41 (fun r5 σ6 => ?_)
        exact J_iret h rfl d_I_of_44
      · refine J_aload_n (q := 1) h d_I_of_45 rfl rfl ?_
        refine J_iload_n (q := 4) h d_I_of_46 rfl rfl ?_
        refine J_callVi (As := [.int x3]) (st := []) (rmc := rX_I_canBeArgument) (q0 := 0) h (fun _ _ hf => cX_I_canBeArgument (jl K) D ad cA x3 σ4 _ _ hf) (gd_V q_2_180 q_2_182 q_s_2 q_1_1 q_2_183) rfl ⟨rfl, rfl⟩ dd_I_canBeArgument ⟨Nat.le_of_ble_eq_true rfl, Nat.le_of_ble_eq_true rfl⟩ rfl rfl (wX_0 ad cA σ4) rfl rfl (Nat.le_of_ble_eq_true rfl) ⟨Nat.zero_le _, Nat.zero_le _⟩ d_I_of_47 (fun r7 σ8 => ?_)
        refine J_if_ne (tgt := 56) h d_I_of_50 (by decide) ?_ ?_
        · refine J_bipush (v := (-2)) h d_I_of_53 (by decide) ?_
          exact J_iret h rfl d_I_of_55
        · refine J_aload_n (q := 1) h d_I_of_56 rfl rfl ?_
          refine J_getf h 0 (wX_0 ad cA σ8) (tb_ups in_I) rfl 1 (by decide) (tb_up q_2_73) rfl d_I_of_57 ?_
          refine J_iconst (v := 1) h d_I_of_60 (by decide) ?_
          refine J_iload_n (q := 2) h d_I_of_61 rfl rfl ?_
          refine J_iload_n (q := 3) h d_I_of_62 rfl rfl ?_
          refine J_iload_n (q := 4) h d_I_of_63 rfl rfl ?_
          refine J_callVi (As := [.int 1, .int x1, .int x2, .int x3]) (st := []) (rmc := rX_Types_make) (q0 := 7) h (fun _ _ hf => cX_Types_make (jl K) D ad cA N 1 x1 x2 x3 σ8 _ _ hf) (gd_V q_2_172 q_2_173 q_2_174 q_1_3 q_2_175) rfl ⟨rfl, rfl⟩ dd_Types_make ⟨Nat.le_of_ble_eq_true rfl, Nat.le_of_ble_eq_true rfl⟩ rfl rfl (wX_7 ad cA σ8) rfl rfl (Nat.le_of_ble_eq_true rfl) ⟨Nat.zero_le _, Nat.zero_le _⟩ d_I_of_64 (fun r9 σ10 => ?_)
          exact J_iret h rfl d_I_of_67
set_option maxRecDepth 100000 in
theorem cX_I_of (l : Launch) (D : va_G) (ad : Nat → Nat) (cA : Nat → ClassId) (N : Nat) (x1 : Int32) (x2 : Int32) (x3 : Int32) (σ : SX) (r : Int32) (σ' : SX) (hf : X_I_of N x1 x2 x3 σ = some (r, σ')) : MetI l y_I_of ((Cond.code y_I_of b_I_of 5 (some .int)) :: tblG) rX_I_of D clX (tysX cA) (wX ad cA) [.ref (ad 0), .int x1, .int x2, .int x3] σ r σ' :=
  jx_metI (by decide) rfl (Nat.le_of_ble_eq_true rfl) (fun K A h => J_X_I_of K D A ad cA N h x1 x2 x3 σ) hf
def rX_I_wild : Room := { frames := 2, cells := 0, slots := 0, locals := 43 }
theorem rm_ok_X_I_wild : rX_I_wild.cells = 0 ∧ rX_I_wild.slots = 0 := ⟨rfl, rfl⟩
def X_I_wild (N : Nat) (x1 : Int32) (x2 : Int32) (σ : SX) : Option (Int32 × SX) := (if x1 < 0 then (some ((-2), σ)) else (if x1 ≤ 2 then (if x1 = 0 then (bd (X_Types_make N 2 0 (-1) (-1) σ) (fun (r1 : Int32) (σ2 : SX) => (some (r1, σ2)))) else (bd (X_I_canBeArgument x2 σ) (fun (r3 : Int32) (σ4 : SX) => (if r3 = 0 then (some ((-2), σ4)) else (bd (X_Types_kindOf x2 σ4) (fun (r5 : Int32) (σ6 : SX) => (if r5 = 2 then (some ((-2), σ6)) else (bd (X_Types_make N 2 x1 x2 (-1) σ6) (fun (r7 : Int32) (σ8 : SX) => (some (r7, σ8))))))))))) else (some ((-2), σ))))
set_option maxRecDepth 100000 in
set_option maxHeartbeats 4000000 in
theorem J_X_I_wild (K : jx_E) (D : va_G) (A : Nat → Prop) (ad : Nat → Nat) (cA : Nat → ClassId) (N : Nat) (h : jx_ok K D clX (tysX cA) A 3 b_I_wild y_I_wild.cls ((Cond.code y_I_wild b_I_wild 3 (some .int)) :: tblG) rX_I_wild (some .int)) : ∀ (x1 : Int32) (x2 : Int32) (σ : SX), J K D clX A 3 (wX ad cA) (jx_Qi K D clX (tysX cA) (wX ad cA) A) 0 0 0 [(0, .ref (ad 0)), (1, .int x1), (2, .int x2)] [] σ (X_I_wild N x1 x2 σ) := by
  intro x1 x2 σ
  rw [X_I_wild]
  refine J_iload_n (q := 1) h d_I_wild_0 rfl rfl ?_
  refine J_if_lt (tgt := 9) h d_I_wild_1 (by decide) ?_ ?_
  · refine J_bipush (v := (-2)) h d_I_wild_9 (by decide) ?_
    exact J_iret h rfl d_I_wild_11
  · refine J_iload_n (q := 1) h d_I_wild_4 rfl rfl ?_
    refine J_iconst (v := 2) h d_I_wild_5 (by decide) ?_
    refine J_icmp_le (tgt := 12) h d_I_wild_6 (by decide) ?_ ?_
    · refine J_iload_n (q := 1) h d_I_wild_12 rfl rfl ?_
      refine J_if_ne (tgt := 28) h d_I_wild_13 (by decide) ?_ ?_
      · refine J_aload_n (q := 0) h d_I_wild_16 rfl rfl ?_
        refine J_getf h 0 (wX_0 ad cA σ) (tb_ups in_I) rfl 1 (by decide) (tb_up q_2_73) rfl d_I_wild_17 ?_
        refine J_iconst (v := 2) h d_I_wild_20 (by decide) ?_
        refine J_iconst (v := 0) h d_I_wild_21 (by decide) ?_
        refine J_iconst (v := (-1)) h d_I_wild_22 (by decide) ?_
        refine J_iconst (v := (-1)) h d_I_wild_23 (by decide) ?_
        refine J_callVi (As := [.int 2, .int 0, .int (-1), .int (-1)]) (st := []) (rmc := rX_Types_make) (q0 := 7) h (fun _ _ hf => cX_Types_make (jl K) D ad cA N 2 0 (-1) (-1) σ _ _ hf) (gd_V q_2_172 q_2_173 q_2_174 q_1_3 q_2_175) rfl ⟨rfl, rfl⟩ dd_Types_make ⟨Nat.le_of_ble_eq_true rfl, Nat.le_of_ble_eq_true rfl⟩ rfl rfl (wX_7 ad cA σ) rfl rfl (Nat.le_of_ble_eq_true rfl) ⟨Nat.zero_le _, Nat.zero_le _⟩ d_I_wild_24 (fun r1 σ2 => ?_)
        exact J_iret h rfl d_I_wild_27
      · refine J_aload_n (q := 0) h d_I_wild_28 rfl rfl ?_
        refine J_iload_n (q := 2) h d_I_wild_29 rfl rfl ?_
        refine J_callVi (As := [.int x2]) (st := []) (rmc := rX_I_canBeArgument) (q0 := 0) h (fun _ _ hf => cX_I_canBeArgument (jl K) D ad cA x2 σ _ _ hf) (gd_V q_2_180 q_2_182 q_s_2 q_1_1 q_2_183) rfl ⟨rfl, rfl⟩ dd_I_canBeArgument ⟨Nat.le_of_ble_eq_true rfl, Nat.le_of_ble_eq_true rfl⟩ rfl rfl (wX_0 ad cA σ) rfl rfl (Nat.le_of_ble_eq_true rfl) ⟨Nat.zero_le _, Nat.zero_le _⟩ d_I_wild_30 (fun r3 σ4 => ?_)
        refine J_if_eq (tgt := 48) h d_I_wild_33 (by decide) ?_ ?_
        · refine J_bipush (v := (-2)) h d_I_wild_48 (by decide) ?_
          exact J_iret h rfl d_I_wild_50
        · refine J_aload_n (q := 0) h d_I_wild_36 rfl rfl ?_
          refine J_getf h 0 (wX_0 ad cA σ4) (tb_ups in_I) rfl 1 (by decide) (tb_up q_2_73) rfl d_I_wild_37 ?_
          refine J_iload_n (q := 2) h d_I_wild_40 rfl rfl ?_
          refine J_callVi (As := [.int x2]) (st := []) (rmc := rX_Types_kindOf) (q0 := 7) h (fun _ _ hf => cX_Types_kindOf (jl K) D ad cA x2 σ4 _ _ hf) (gd_V q_2_126 q_2_127 q_2_128 q_1_3 q_2_129) rfl ⟨rfl, rfl⟩ dd_Types_kindOf ⟨Nat.le_of_ble_eq_true rfl, Nat.le_of_ble_eq_true rfl⟩ rfl rfl (wX_7 ad cA σ4) rfl rfl (Nat.le_of_ble_eq_true rfl) ⟨Nat.zero_le _, Nat.zero_le _⟩ d_I_wild_41 (fun r5 σ6 => ?_)
          refine J_iconst (v := 2) h d_I_wild_44 (by decide) ?_
          refine J_icmp_ne (tgt := 51) h d_I_wild_45 (by decide) ?_ ?_
          · refine J_bipush (v := (-2)) h d_I_wild_48 (by decide) ?_
            exact J_iret h rfl d_I_wild_50
          · refine J_aload_n (q := 0) h d_I_wild_51 rfl rfl ?_
            refine J_getf h 0 (wX_0 ad cA σ6) (tb_ups in_I) rfl 1 (by decide) (tb_up q_2_73) rfl d_I_wild_52 ?_
            refine J_iconst (v := 2) h d_I_wild_55 (by decide) ?_
            refine J_iload_n (q := 1) h d_I_wild_56 rfl rfl ?_
            refine J_iload_n (q := 2) h d_I_wild_57 rfl rfl ?_
            refine J_iconst (v := (-1)) h d_I_wild_58 (by decide) ?_
            refine J_callVi (As := [.int 2, .int x1, .int x2, .int (-1)]) (st := []) (rmc := rX_Types_make) (q0 := 7) h (fun _ _ hf => cX_Types_make (jl K) D ad cA N 2 x1 x2 (-1) σ6 _ _ hf) (gd_V q_2_172 q_2_173 q_2_174 q_1_3 q_2_175) rfl ⟨rfl, rfl⟩ dd_Types_make ⟨Nat.le_of_ble_eq_true rfl, Nat.le_of_ble_eq_true rfl⟩ rfl rfl (wX_7 ad cA σ6) rfl rfl (Nat.le_of_ble_eq_true rfl) ⟨Nat.zero_le _, Nat.zero_le _⟩ d_I_wild_59 (fun r7 σ8 => ?_)
            exact J_iret h rfl d_I_wild_62
    · refine J_bipush (v := (-2)) h d_I_wild_9 (by decide) ?_
      exact J_iret h rfl d_I_wild_11
set_option maxRecDepth 100000 in
theorem cX_I_wild (l : Launch) (D : va_G) (ad : Nat → Nat) (cA : Nat → ClassId) (N : Nat) (x1 : Int32) (x2 : Int32) (σ : SX) (r : Int32) (σ' : SX) (hf : X_I_wild N x1 x2 σ = some (r, σ')) : MetI l y_I_wild ((Cond.code y_I_wild b_I_wild 3 (some .int)) :: tblG) rX_I_wild D clX (tysX cA) (wX ad cA) [.ref (ad 0), .int x1, .int x2] σ r σ' :=
  jx_metI (by decide) rfl (Nat.le_of_ble_eq_true rfl) (fun K A h => J_X_I_wild K D A ad cA N h x1 x2 σ) hf
def rX_I_parameter : Room := { frames := 2, cells := 0, slots := 0, locals := 42 }
theorem rm_ok_X_I_parameter : rX_I_parameter.cells = 0 ∧ rX_I_parameter.slots = 0 := ⟨rfl, rfl⟩
def X_I_parameter (N : Nat) (x1 : Int32) (x2 : Int32) (σ : SX) : Option (Int32 × SX) := (if x2 < 0 then (some ((-2), σ)) else (bd (X_Classes_parametersOf x1 σ) (fun (r1 : Int32) (σ2 : SX) => (if x2 < r1 then (bd (X_Types_make N 3 x1 x2 (-1) σ2) (fun (r3 : Int32) (σ4 : SX) => (some (r3, σ4)))) else (some ((-2), σ2))))))
set_option maxRecDepth 100000 in
set_option maxHeartbeats 4000000 in
theorem J_X_I_parameter (K : jx_E) (D : va_G) (A : Nat → Prop) (ad : Nat → Nat) (cA : Nat → ClassId) (N : Nat) (h : jx_ok K D clX (tysX cA) A 3 b_I_parameter y_I_parameter.cls ((Cond.code y_I_parameter b_I_parameter 3 (some .int)) :: tblG) rX_I_parameter (some .int)) : ∀ (x1 : Int32) (x2 : Int32) (σ : SX), J K D clX A 3 (wX ad cA) (jx_Qi K D clX (tysX cA) (wX ad cA) A) 0 0 0 [(0, .ref (ad 0)), (1, .int x1), (2, .int x2)] [] σ (X_I_parameter N x1 x2 σ) := by
  intro x1 x2 σ
  rw [X_I_parameter]
  refine J_iload_n (q := 2) h d_I_parameter_0 rfl rfl ?_
  refine J_if_lt (tgt := 16) h d_I_parameter_1 (by decide) ?_ ?_
  · refine J_bipush (v := (-2)) h d_I_parameter_16 (by decide) ?_
    exact J_iret h rfl d_I_parameter_18
  · refine J_iload_n (q := 2) h d_I_parameter_4 rfl rfl ?_
    refine J_aload_n (q := 0) h d_I_parameter_5 rfl rfl ?_
    refine J_getf h 0 (wX_0 ad cA σ) (tb_ups in_I) rfl 0 (by decide) (tb_up q_2_72) rfl d_I_parameter_6 ?_
    refine J_iload_n (q := 1) h d_I_parameter_9 rfl rfl ?_
    refine J_callVi (As := [.int x1]) (st := [.int x2]) (rmc := rX_Classes_parametersOf) (q0 := 1) h (fun _ _ hf => cX_Classes_parametersOf (jl K) D ad cA x1 σ _ _ hf) (gd_V q_2_138 q_2_139 q_2_140 q_1_2 q_2_141) rfl ⟨rfl, rfl⟩ dd_Classes_parametersOf ⟨Nat.le_of_ble_eq_true rfl, Nat.le_of_ble_eq_true rfl⟩ rfl rfl (wX_1 ad cA σ) rfl rfl (Nat.le_of_ble_eq_true rfl) ⟨Nat.zero_le _, Nat.zero_le _⟩ d_I_parameter_10 (fun r1 σ2 => ?_)
    refine J_icmp_lt (tgt := 19) h d_I_parameter_13 (by decide) ?_ ?_
    · refine J_aload_n (q := 0) h d_I_parameter_19 rfl rfl ?_
      refine J_getf h 0 (wX_0 ad cA σ2) (tb_ups in_I) rfl 1 (by decide) (tb_up q_2_73) rfl d_I_parameter_20 ?_
      refine J_iconst (v := 3) h d_I_parameter_23 (by decide) ?_
      refine J_iload_n (q := 1) h d_I_parameter_24 rfl rfl ?_
      refine J_iload_n (q := 2) h d_I_parameter_25 rfl rfl ?_
      refine J_iconst (v := (-1)) h d_I_parameter_26 (by decide) ?_
      refine J_callVi (As := [.int 3, .int x1, .int x2, .int (-1)]) (st := []) (rmc := rX_Types_make) (q0 := 7) h (fun _ _ hf => cX_Types_make (jl K) D ad cA N 3 x1 x2 (-1) σ2 _ _ hf) (gd_V q_2_172 q_2_173 q_2_174 q_1_3 q_2_175) rfl ⟨rfl, rfl⟩ dd_Types_make ⟨Nat.le_of_ble_eq_true rfl, Nat.le_of_ble_eq_true rfl⟩ rfl rfl (wX_7 ad cA σ2) rfl rfl (Nat.le_of_ble_eq_true rfl) ⟨Nat.zero_le _, Nat.zero_le _⟩ d_I_parameter_27 (fun r3 σ4 => ?_)
      exact J_iret h rfl d_I_parameter_30
    · refine J_bipush (v := (-2)) h d_I_parameter_16 (by decide) ?_
      exact J_iret h rfl d_I_parameter_18
set_option maxRecDepth 100000 in
theorem cX_I_parameter (l : Launch) (D : va_G) (ad : Nat → Nat) (cA : Nat → ClassId) (N : Nat) (x1 : Int32) (x2 : Int32) (σ : SX) (r : Int32) (σ' : SX) (hf : X_I_parameter N x1 x2 σ = some (r, σ')) : MetI l y_I_parameter ((Cond.code y_I_parameter b_I_parameter 3 (some .int)) :: tblG) rX_I_parameter D clX (tysX cA) (wX ad cA) [.ref (ad 0), .int x1, .int x2] σ r σ' :=
  jx_metI (by decide) rfl (Nat.le_of_ble_eq_true rfl) (fun K A h => J_X_I_parameter K D A ad cA N h x1 x2 σ) hf
def rX_I_array : Room := { frames := 1, cells := 0, slots := 0, locals := 35 }
theorem rm_ok_X_I_array : rX_I_array.cells = 0 ∧ rX_I_array.slots = 0 := ⟨rfl, rfl⟩
def X_I_array (N : Nat) (x1 : Int32) (σ : SX) : Option (Int32 × SX) := (bd (X_Types_has x1 σ) (fun (r1 : Int32) (σ2 : SX) => (if r1 = 0 then (some ((-2), σ2)) else (bd (X_Types_kindOf x1 σ2) (fun (r3 : Int32) (σ4 : SX) => (if r3 = 2 then (some ((-2), σ4)) else (if r3 = 6 then (some ((-2), σ4)) else (bd (X_Types_make N 4 x1 (-1) (-1) σ4) (fun (r5 : Int32) (σ6 : SX) => (some (r5, σ6)))))))))))
set_option maxRecDepth 100000 in
set_option maxHeartbeats 4000000 in
theorem J_X_I_array (K : jx_E) (D : va_G) (A : Nat → Prop) (ad : Nat → Nat) (cA : Nat → ClassId) (N : Nat) (h : jx_ok K D clX (tysX cA) A 3 b_I_array y_I_array.cls ((Cond.code y_I_array b_I_array 3 (some .int)) :: tblG) rX_I_array (some .int)) : ∀ (x1 : Int32) (σ : SX), J K D clX A 3 (wX ad cA) (jx_Qi K D clX (tysX cA) (wX ad cA) A) 0 0 0 [(0, .ref (ad 0)), (1, .int x1)] [] σ (X_I_array N x1 σ) := by
  intro x1 σ
  rw [X_I_array]
  refine J_aload_n (q := 0) h d_I_array_0 rfl rfl ?_
  refine J_getf h 0 (wX_0 ad cA σ) (tb_ups in_I) rfl 1 (by decide) (tb_up q_2_73) rfl d_I_array_1 ?_
  refine J_iload_n (q := 1) h d_I_array_4 rfl rfl ?_
  refine J_callVi (As := [.int x1]) (st := []) (rmc := rX_Types_has) (q0 := 7) h (fun _ _ hf => cX_Types_has (jl K) D ad cA x1 σ _ _ hf) (gd_V q_2_184 q_2_185 q_2_186 q_1_3 q_2_187) rfl ⟨rfl, rfl⟩ dd_Types_has ⟨Nat.le_of_ble_eq_true rfl, Nat.le_of_ble_eq_true rfl⟩ rfl rfl (wX_7 ad cA σ) rfl rfl (Nat.le_of_ble_eq_true rfl) ⟨Nat.zero_le _, Nat.zero_le _⟩ d_I_array_5 (fun r1 σ2 => ?_)
  refine J_if_ne (tgt := 14) h d_I_array_8 (by decide) ?_ ?_
  · refine J_bipush (v := (-2)) h d_I_array_11 (by decide) ?_
    exact J_iret h rfl d_I_array_13
  · refine J_aload_n (q := 0) h d_I_array_14 rfl rfl ?_
    refine J_getf h 0 (wX_0 ad cA σ2) (tb_ups in_I) rfl 1 (by decide) (tb_up q_2_73) rfl d_I_array_15 ?_
    refine J_iload_n (q := 1) h d_I_array_18 rfl rfl ?_
    refine J_callVi (As := [.int x1]) (st := []) (rmc := rX_Types_kindOf) (q0 := 7) h (fun _ _ hf => cX_Types_kindOf (jl K) D ad cA x1 σ2 _ _ hf) (gd_V q_2_126 q_2_127 q_2_128 q_1_3 q_2_129) rfl ⟨rfl, rfl⟩ dd_Types_kindOf ⟨Nat.le_of_ble_eq_true rfl, Nat.le_of_ble_eq_true rfl⟩ rfl rfl (wX_7 ad cA σ2) rfl rfl (Nat.le_of_ble_eq_true rfl) ⟨Nat.zero_le _, Nat.zero_le _⟩ d_I_array_19 (fun r3 σ4 => ?_)
    refine J_istore_n (lv' := [(2, .int r3), (0, .ref (ad 0)), (1, .int x1)]) h d_I_array_22 rfl (by decide) rfl ?_
    refine J_iload_n (q := 0) h d_I_array_23 rfl rfl ?_
    refine J_iconst (v := 2) h d_I_array_24 (by decide) ?_
    refine J_icmp_eq (tgt := 34) h d_I_array_25 (by decide) ?_ ?_
    · refine J_bipush (v := (-2)) h d_I_array_34 (by decide) ?_
      exact J_iret h rfl d_I_array_36
    · refine J_iload_n (q := 0) h d_I_array_28 rfl rfl ?_
      refine J_bipush (v := 6) h d_I_array_29 (by decide) ?_
      refine J_icmp_ne (tgt := 37) h d_I_array_31 (by decide) ?_ ?_
      · refine J_bipush (v := (-2)) h d_I_array_34 (by decide) ?_
        exact J_iret h rfl d_I_array_36
      · refine J_aload_n (q := 1) h d_I_array_37 rfl rfl ?_
        refine J_getf h 0 (wX_0 ad cA σ4) (tb_ups in_I) rfl 1 (by decide) (tb_up q_2_73) rfl d_I_array_38 ?_
        refine J_iconst (v := 4) h d_I_array_41 (by decide) ?_
        refine J_iload_n (q := 2) h d_I_array_42 rfl rfl ?_
        refine J_iconst (v := (-1)) h d_I_array_43 (by decide) ?_
        refine J_iconst (v := (-1)) h d_I_array_44 (by decide) ?_
        refine J_callVi (As := [.int 4, .int x1, .int (-1), .int (-1)]) (st := []) (rmc := rX_Types_make) (q0 := 7) h (fun _ _ hf => cX_Types_make (jl K) D ad cA N 4 x1 (-1) (-1) σ4 _ _ hf) (gd_V q_2_172 q_2_173 q_2_174 q_1_3 q_2_175) rfl ⟨rfl, rfl⟩ dd_Types_make ⟨Nat.le_of_ble_eq_true rfl, Nat.le_of_ble_eq_true rfl⟩ rfl rfl (wX_7 ad cA σ4) rfl rfl (Nat.le_of_ble_eq_true rfl) ⟨Nat.zero_le _, Nat.zero_le _⟩ d_I_array_45 (fun r5 σ6 => ?_)
        exact J_iret h rfl d_I_array_48
set_option maxRecDepth 100000 in
theorem cX_I_array (l : Launch) (D : va_G) (ad : Nat → Nat) (cA : Nat → ClassId) (N : Nat) (x1 : Int32) (σ : SX) (r : Int32) (σ' : SX) (hf : X_I_array N x1 σ = some (r, σ')) : MetI l y_I_array ((Cond.code y_I_array b_I_array 3 (some .int)) :: tblG) rX_I_array D clX (tysX cA) (wX ad cA) [.ref (ad 0), .int x1] σ r σ' :=
  jx_metI (by decide) rfl (Nat.le_of_ble_eq_true rfl) (fun K A h => J_X_I_array K D A ad cA N h x1 σ) hf
def rX_I_primitive : Room := { frames := 1, cells := 0, slots := 0, locals := 35 }
theorem rm_ok_X_I_primitive : rX_I_primitive.cells = 0 ∧ rX_I_primitive.slots = 0 := ⟨rfl, rfl⟩
def X_I_primitive (N : Nat) (x1 : Int32) (σ : SX) : Option (Int32 × SX) := (if x1 < 0 then (some ((-2), σ)) else (if x1 < 8 then (bd (X_Types_make N 5 x1 (-1) (-1) σ) (fun (r1 : Int32) (σ2 : SX) => (some (r1, σ2)))) else (some ((-2), σ))))
set_option maxRecDepth 100000 in
set_option maxHeartbeats 4000000 in
theorem J_X_I_primitive (K : jx_E) (D : va_G) (A : Nat → Prop) (ad : Nat → Nat) (cA : Nat → ClassId) (N : Nat) (h : jx_ok K D clX (tysX cA) A 2 b_I_primitive y_I_primitive.cls ((Cond.code y_I_primitive b_I_primitive 2 (some .int)) :: tblG) rX_I_primitive (some .int)) : ∀ (x1 : Int32) (σ : SX), J K D clX A 2 (wX ad cA) (jx_Qi K D clX (tysX cA) (wX ad cA) A) 0 0 0 [(0, .ref (ad 0)), (1, .int x1)] [] σ (X_I_primitive N x1 σ) := by
  intro x1 σ
  rw [X_I_primitive]
  refine J_iload_n (q := 1) h d_I_primitive_0 rfl rfl ?_
  refine J_if_lt (tgt := 10) h d_I_primitive_1 (by decide) ?_ ?_
  · refine J_bipush (v := (-2)) h d_I_primitive_10 (by decide) ?_
    exact J_iret h rfl d_I_primitive_12
  · refine J_iload_n (q := 1) h d_I_primitive_4 rfl rfl ?_
    refine J_bipush (v := 8) h d_I_primitive_5 (by decide) ?_
    refine J_icmp_lt (tgt := 13) h d_I_primitive_7 (by decide) ?_ ?_
    · refine J_aload_n (q := 0) h d_I_primitive_13 rfl rfl ?_
      refine J_getf h 0 (wX_0 ad cA σ) (tb_ups in_I) rfl 1 (by decide) (tb_up q_2_73) rfl d_I_primitive_14 ?_
      refine J_iconst (v := 5) h d_I_primitive_17 (by decide) ?_
      refine J_iload_n (q := 1) h d_I_primitive_18 rfl rfl ?_
      refine J_iconst (v := (-1)) h d_I_primitive_19 (by decide) ?_
      refine J_iconst (v := (-1)) h d_I_primitive_20 (by decide) ?_
      refine J_callVi (As := [.int 5, .int x1, .int (-1), .int (-1)]) (st := []) (rmc := rX_Types_make) (q0 := 7) h (fun _ _ hf => cX_Types_make (jl K) D ad cA N 5 x1 (-1) (-1) σ _ _ hf) (gd_V q_2_172 q_2_173 q_2_174 q_1_3 q_2_175) rfl ⟨rfl, rfl⟩ dd_Types_make ⟨Nat.le_of_ble_eq_true rfl, Nat.le_of_ble_eq_true rfl⟩ rfl rfl (wX_7 ad cA σ) rfl rfl (Nat.le_of_ble_eq_true rfl) ⟨Nat.zero_le _, Nat.zero_le _⟩ d_I_primitive_21 (fun r1 σ2 => ?_)
      exact J_iret h rfl d_I_primitive_24
    · refine J_bipush (v := (-2)) h d_I_primitive_10 (by decide) ?_
      exact J_iret h rfl d_I_primitive_12
set_option maxRecDepth 100000 in
theorem cX_I_primitive (l : Launch) (D : va_G) (ad : Nat → Nat) (cA : Nat → ClassId) (N : Nat) (x1 : Int32) (σ : SX) (r : Int32) (σ' : SX) (hf : X_I_primitive N x1 σ = some (r, σ')) : MetI l y_I_primitive ((Cond.code y_I_primitive b_I_primitive 2 (some .int)) :: tblG) rX_I_primitive D clX (tysX cA) (wX ad cA) [.ref (ad 0), .int x1] σ r σ' :=
  jx_metI (by decide) rfl (Nat.le_of_ble_eq_true rfl) (fun K A h => J_X_I_primitive K D A ad cA N h x1 σ) hf
def rX_I_nothing : Room := { frames := 1, cells := 0, slots := 0, locals := 35 }
theorem rm_ok_X_I_nothing : rX_I_nothing.cells = 0 ∧ rX_I_nothing.slots = 0 := ⟨rfl, rfl⟩
def X_I_nothing (N : Nat)  (σ : SX) : Option (Int32 × SX) := (bd (X_Types_make N 6 0 (-1) (-1) σ) (fun (r1 : Int32) (σ2 : SX) => (some (r1, σ2))))
set_option maxRecDepth 100000 in
set_option maxHeartbeats 4000000 in
theorem J_X_I_nothing (K : jx_E) (D : va_G) (A : Nat → Prop) (ad : Nat → Nat) (cA : Nat → ClassId) (N : Nat) (h : jx_ok K D clX (tysX cA) A 1 b_I_nothing y_I_nothing.cls ((Cond.code y_I_nothing b_I_nothing 1 (some .int)) :: tblG) rX_I_nothing (some .int)) : ∀  (σ : SX), J K D clX A 1 (wX ad cA) (jx_Qi K D clX (tysX cA) (wX ad cA) A) 0 0 0 [(0, .ref (ad 0))] [] σ (X_I_nothing N  σ) := by
  intro  σ
  rw [X_I_nothing]
  refine J_aload_n (q := 0) h d_I_nothing_0 rfl rfl ?_
  refine J_getf h 0 (wX_0 ad cA σ) (tb_ups in_I) rfl 1 (by decide) (tb_up q_2_73) rfl d_I_nothing_1 ?_
  refine J_bipush (v := 6) h d_I_nothing_4 (by decide) ?_
  refine J_iconst (v := 0) h d_I_nothing_6 (by decide) ?_
  refine J_iconst (v := (-1)) h d_I_nothing_7 (by decide) ?_
  refine J_iconst (v := (-1)) h d_I_nothing_8 (by decide) ?_
  refine J_callVi (As := [.int 6, .int 0, .int (-1), .int (-1)]) (st := []) (rmc := rX_Types_make) (q0 := 7) h (fun _ _ hf => cX_Types_make (jl K) D ad cA N 6 0 (-1) (-1) σ _ _ hf) (gd_V q_2_172 q_2_173 q_2_174 q_1_3 q_2_175) rfl ⟨rfl, rfl⟩ dd_Types_make ⟨Nat.le_of_ble_eq_true rfl, Nat.le_of_ble_eq_true rfl⟩ rfl rfl (wX_7 ad cA σ) rfl rfl (Nat.le_of_ble_eq_true rfl) ⟨Nat.zero_le _, Nat.zero_le _⟩ d_I_nothing_9 (fun r1 σ2 => ?_)
  exact J_iret h rfl d_I_nothing_12
set_option maxRecDepth 100000 in
theorem cX_I_nothing (l : Launch) (D : va_G) (ad : Nat → Nat) (cA : Nat → ClassId) (N : Nat)  (σ : SX) (r : Int32) (σ' : SX) (hf : X_I_nothing N  σ = some (r, σ')) : MetI l y_I_nothing ((Cond.code y_I_nothing b_I_nothing 1 (some .int)) :: tblG) rX_I_nothing D clX (tysX cA) (wX ad cA) [.ref (ad 0)] σ r σ' :=
  jx_metI (by decide) rfl (Nat.le_of_ble_eq_true rfl) (fun K A h => J_X_I_nothing K D A ad cA N h  σ) hf
def rX_I_variable : Room := { frames := 1, cells := 0, slots := 0, locals := 35 }
theorem rm_ok_X_I_variable : rX_I_variable.cells = 0 ∧ rX_I_variable.slots = 0 := ⟨rfl, rfl⟩
def X_I_variable (N : Nat)  (σ : SX) : Option (Int32 × SX) := (if (gX_I_variables σ) < 0 then (some ((-3), σ)) else (if (gX_I_variables σ) < 12 then (bd (X_Types_make N 7 (gX_I_variables σ) (-1) (-1) σ) (fun (r1 : Int32) (σ2 : SX) => (if (0 : Int32) ≤ r1 then (if ck (gX_I_variables σ2) 12 = true then (nm (tX_I_variableTypes σ2 (upd (aX_I_variableTypes σ2) (gX_I_variables σ2).toNatClampNeg r1)) (fun (σ3 : SX) => (nm (sX_I_variables σ3 ((gX_I_variables σ3) + 1)) (fun (σ4 : SX) => (some (r1, σ4)))))) else none) else (some ((-3), σ2))))) else (some ((-3), σ))))
set_option maxRecDepth 100000 in
set_option maxHeartbeats 4000000 in
theorem J_X_I_variable (K : jx_E) (D : va_G) (A : Nat → Prop) (ad : Nat → Nat) (cA : Nat → ClassId) (N : Nat) (h : jx_ok K D clX (tysX cA) A 2 b_I_variable y_I_variable.cls ((Cond.code y_I_variable b_I_variable 2 (some .int)) :: tblG) rX_I_variable (some .int)) : ∀  (σ : SX), J K D clX A 2 (wX ad cA) (jx_Qi K D clX (tysX cA) (wX ad cA) A) 0 0 0 [(0, .ref (ad 0))] [] σ (X_I_variable N  σ) := by
  intro  σ
  rw [X_I_variable]
  refine J_aload_n (q := 0) h d_I_variable_0 rfl rfl ?_
  refine J_getf h 0 (wX_0 ad cA σ) (tb_ups in_I) rfl 8 (by decide) (tb_up q_2_80) rfl d_I_variable_1 ?_
  refine J_if_lt (tgt := 16) h d_I_variable_4 (by decide) ?_ ?_
  · refine J_bipush (v := (-3)) h d_I_variable_16 (by decide) ?_
    exact J_iret h rfl d_I_variable_18
  · refine J_aload_n (q := 0) h d_I_variable_7 rfl rfl ?_
    refine J_getf h 0 (wX_0 ad cA σ) (tb_ups in_I) rfl 8 (by decide) (tb_up q_2_80) rfl d_I_variable_8 ?_
    refine J_bipush (v := 12) h d_I_variable_11 (by decide) ?_
    refine J_icmp_lt (tgt := 19) h d_I_variable_13 (by decide) ?_ ?_
    · refine J_aload_n (q := 0) h d_I_variable_19 rfl rfl ?_
      refine J_getf h 0 (wX_0 ad cA σ) (tb_ups in_I) rfl 1 (by decide) (tb_up q_2_73) rfl d_I_variable_20 ?_
      refine J_bipush (v := 7) h d_I_variable_23 (by decide) ?_
      refine J_aload_n (q := 0) h d_I_variable_25 rfl rfl ?_
      refine J_getf h 0 (wX_0 ad cA σ) (tb_ups in_I) rfl 8 (by decide) (tb_up q_2_80) rfl d_I_variable_26 ?_
      refine J_iconst (v := (-1)) h d_I_variable_29 (by decide) ?_
      refine J_iconst (v := (-1)) h d_I_variable_30 (by decide) ?_
      refine J_callVi (As := [.int 7, .int (gX_I_variables σ), .int (-1), .int (-1)]) (st := []) (rmc := rX_Types_make) (q0 := 7) h (fun _ _ hf => cX_Types_make (jl K) D ad cA N 7 (gX_I_variables σ) (-1) (-1) σ _ _ hf) (gd_V q_2_172 q_2_173 q_2_174 q_1_3 q_2_175) rfl ⟨rfl, rfl⟩ dd_Types_make ⟨Nat.le_of_ble_eq_true rfl, Nat.le_of_ble_eq_true rfl⟩ rfl rfl (wX_7 ad cA σ) rfl rfl (Nat.le_of_ble_eq_true rfl) ⟨Nat.zero_le _, Nat.zero_le _⟩ d_I_variable_31 (fun r1 σ2 => ?_)
      refine J_istore_n (lv' := [(1, .int r1), (0, .ref (ad 0))]) h d_I_variable_34 rfl (by decide) rfl ?_
      refine J_iload_n (q := 0) h d_I_variable_35 rfl rfl ?_
      refine J_if_ge (tgt := 42) h d_I_variable_36 (by decide) ?_ ?_
      · refine J_aload_n (q := 1) h d_I_variable_42 rfl rfl ?_
        refine J_getf h 0 (wX_0 ad cA σ2) (tb_ups in_I) rfl 7 (by decide) (tb_up q_2_79) rfl d_I_variable_43 ?_
        refine J_aload_n (q := 1) h d_I_variable_46 rfl rfl ?_
        refine J_getf h 0 (wX_0 ad cA σ2) (tb_ups in_I) rfl 8 (by decide) (tb_up q_2_80) rfl d_I_variable_47 ?_
        refine J_iload_n (q := 0) h d_I_variable_50 rfl rfl ?_
        refine J_iast h 24 20 (wX_24 ad cA σ2) rfl (uX_24 ad cA σ2 _) d_I_variable_51 (fun σ3 => ?_)
        refine J_aload_n (q := 1) h d_I_variable_52 rfl rfl ?_
        refine J_dup h d_I_variable_53 rfl ?_
        refine J_getf h 0 (wX_0 ad cA σ3) (tb_ups in_I) rfl 8 (by decide) (tb_up q_2_80) rfl d_I_variable_54 ?_
        refine J_iconst (v := 1) h d_I_variable_57 (by decide) ?_
        refine J_iadd h d_I_variable_58 ?_
        refine J_putf h 0 (wX_0 ad cA σ3) (tb_ups in_I) rfl ft_I ft_I_ok nm_I 8 (by decide) (tb_up q_2_80) rfl rfl rfl (Nat.le_of_ble_eq_true rfl) (pX_0_8 ad cA σ3 ((gX_I_variables σ3) + 1)) d_I_variable_59 (fun σ4 => ?_)
        refine J_iload_n (q := 0) h d_I_variable_62 rfl rfl ?_
        exact J_iret h rfl d_I_variable_63
      · refine J_bipush (v := (-3)) h d_I_variable_39 (by decide) ?_
        exact J_iret h rfl d_I_variable_41
    · refine J_bipush (v := (-3)) h d_I_variable_16 (by decide) ?_
      exact J_iret h rfl d_I_variable_18
set_option maxRecDepth 100000 in
theorem cX_I_variable (l : Launch) (D : va_G) (ad : Nat → Nat) (cA : Nat → ClassId) (N : Nat)  (σ : SX) (r : Int32) (σ' : SX) (hf : X_I_variable N  σ = some (r, σ')) : MetI l y_I_variable ((Cond.code y_I_variable b_I_variable 2 (some .int)) :: tblG) rX_I_variable D clX (tysX cA) (wX ad cA) [.ref (ad 0)] σ r σ' :=
  jx_metI (by decide) rfl (Nat.le_of_ble_eq_true rfl) (fun K A h => J_X_I_variable K D A ad cA N h  σ) hf
