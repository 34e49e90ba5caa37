def rX_Bounds_has : Room := { frames := 0, cells := 0, slots := 0, locals := 0 }
theorem rm_ok_X_Bounds_has : rX_Bounds_has.cells = 0 ∧ rX_Bounds_has.slots = 0 := ⟨rfl, rfl⟩
def X_Bounds_has (x1 : Int32) (σ : SX) : Option (Int32 × SX) := (if x1 < 0 then (some (0, σ)) else (if (gX_Bounds_size σ) ≤ x1 then (some (0, σ)) else (some (1, σ))))
set_option maxRecDepth 100000 in
set_option maxHeartbeats 4000000 in
theorem J_X_Bounds_has (K : jx_E) (D : va_G) (A : Nat → Prop) (ad : Nat → Nat) (cA : Nat → ClassId) (h : jx_ok K D clX (tysX cA) A 2 b_Bounds_has y_Bounds_has.cls ((Cond.code y_Bounds_has b_Bounds_has 2 (some .boolean)) :: tblG) rX_Bounds_has (some .boolean)) : ∀ (x1 : Int32) (σ : SX), J K D clX A 2 (wX ad cA) (jx_Qi K D clX (tysX cA) (wX ad cA) A) 0 0 0 [(0, .ref (ad 19)), (1, .int x1)] [] σ (X_Bounds_has x1 σ) := by
  intro x1 σ
  rw [X_Bounds_has]
  refine J_iload_n (q := 1) h d_Bounds_has_0 rfl rfl ?_
  refine J_if_lt (tgt := 16) h d_Bounds_has_1 (by decide) ?_ ?_
  · refine J_iconst (v := 0) h d_Bounds_has_16 (by decide) ?_
    exact J_zret h rfl (by decide) d_Bounds_has_17
  · refine J_iload_n (q := 1) h d_Bounds_has_4 rfl rfl ?_
    refine J_aload_n (q := 0) h d_Bounds_has_5 rfl rfl ?_
    refine J_getf h 19 (wX_19 ad cA σ) (tb_ups in_Bounds) rfl 4 (by decide) (tb_up q_1_109) rfl d_Bounds_has_6 ?_
    refine J_icmp_ge (tgt := 16) h d_Bounds_has_9 (by decide) ?_ ?_
    · refine J_iconst (v := 0) h d_Bounds_has_16 (by decide) ?_
      exact J_zret h rfl (by decide) d_Bounds_has_17
    · refine J_iconst (v := 1) h d_Bounds_has_12 (by decide) ?_
      refine J_goto (tgt := 17) h d_Bounds_has_13 (by decide) ?_
      exact J_zret h rfl (by decide) d_Bounds_has_17
set_option maxRecDepth 100000 in
theorem cX_Bounds_has (l : Launch) (D : va_G) (ad : Nat → Nat) (cA : Nat → ClassId) (x1 : Int32) (σ : SX) (r : Int32) (σ' : SX) (hf : X_Bounds_has x1 σ = some (r, σ')) : MetI l y_Bounds_has ((Cond.code y_Bounds_has b_Bounds_has 2 (some .boolean)) :: tblG) rX_Bounds_has D clX (tysX cA) (wX ad cA) [.ref (ad 19), .int x1] σ r σ' :=
  jx_metI (by decide) rfl (Nat.le_of_ble_eq_true rfl) (fun K A h => J_X_Bounds_has K D A ad cA h x1 σ) hf
def rX_Bounds_sortOf : Room := { frames := 0, cells := 0, slots := 0, locals := 0 }
theorem rm_ok_X_Bounds_sortOf : rX_Bounds_sortOf.cells = 0 ∧ rX_Bounds_sortOf.slots = 0 := ⟨rfl, rfl⟩
def X_Bounds_sortOf (x1 : Int32) (σ : SX) : Option (Int32 × SX) := (if x1 < 0 then (some ((-1), σ)) else (if (gX_Bounds_size σ) ≤ x1 then (some ((-1), σ)) else (if ck x1 200 = true then (some ((aX_Bounds_sort σ x1.toNatClampNeg), σ)) else none)))
set_option maxRecDepth 100000 in
set_option maxHeartbeats 4000000 in
theorem J_X_Bounds_sortOf (K : jx_E) (D : va_G) (A : Nat → Prop) (ad : Nat → Nat) (cA : Nat → ClassId) (h : jx_ok K D clX (tysX cA) A 2 b_Bounds_sortOf y_Bounds_sortOf.cls ((Cond.code y_Bounds_sortOf b_Bounds_sortOf 2 (some .int)) :: tblG) rX_Bounds_sortOf (some .int)) : ∀ (x1 : Int32) (σ : SX), J K D clX A 2 (wX ad cA) (jx_Qi K D clX (tysX cA) (wX ad cA) A) 0 0 0 [(0, .ref (ad 19)), (1, .int x1)] [] σ (X_Bounds_sortOf x1 σ) := by
  intro x1 σ
  rw [X_Bounds_sortOf]
  refine J_iload_n (q := 1) h d_Bounds_sortOf_0 rfl rfl ?_
  refine J_if_lt (tgt := 21) h d_Bounds_sortOf_1 (by decide) ?_ ?_
  · refine J_iconst (v := (-1)) h d_Bounds_sortOf_21 (by decide) ?_
    exact J_iret h rfl d_Bounds_sortOf_22
  · refine J_iload_n (q := 1) h d_Bounds_sortOf_4 rfl rfl ?_
    refine J_aload_n (q := 0) h d_Bounds_sortOf_5 rfl rfl ?_
    refine J_getf h 19 (wX_19 ad cA σ) (tb_ups in_Bounds) rfl 4 (by decide) (tb_up q_1_109) rfl d_Bounds_sortOf_6 ?_
    refine J_icmp_ge (tgt := 21) h d_Bounds_sortOf_9 (by decide) ?_ ?_
    · refine J_iconst (v := (-1)) h d_Bounds_sortOf_21 (by decide) ?_
      exact J_iret h rfl d_Bounds_sortOf_22
    · refine J_aload_n (q := 0) h d_Bounds_sortOf_12 rfl rfl ?_
      refine J_getf h 19 (wX_19 ad cA σ) (tb_ups in_Bounds) rfl 0 (by decide) (tb_up q_1_105) rfl d_Bounds_sortOf_13 ?_
      refine J_iload_n (q := 1) h d_Bounds_sortOf_16 rfl rfl ?_
      refine J_iald h 20 16 (wX_20 ad cA σ) rfl d_Bounds_sortOf_17 ?_
      refine J_goto (tgt := 22) h d_Bounds_sortOf_18 (by decide) ?_
      exact J_iret h rfl d_Bounds_sortOf_22
set_option maxRecDepth 100000 in
theorem cX_Bounds_sortOf (l : Launch) (D : va_G) (ad : Nat → Nat) (cA : Nat → ClassId) (x1 : Int32) (σ : SX) (r : Int32) (σ' : SX) (hf : X_Bounds_sortOf x1 σ = some (r, σ')) : MetI l y_Bounds_sortOf ((Cond.code y_Bounds_sortOf b_Bounds_sortOf 2 (some .int)) :: tblG) rX_Bounds_sortOf D clX (tysX cA) (wX ad cA) [.ref (ad 19), .int x1] σ r σ' :=
  jx_metI (by decide) rfl (Nat.le_of_ble_eq_true rfl) (fun K A h => J_X_Bounds_sortOf K D A ad cA h x1 σ) hf
def rX_Bounds_variableOf : Room := { frames := 0, cells := 0, slots := 0, locals := 0 }
theorem rm_ok_X_Bounds_variableOf : rX_Bounds_variableOf.cells = 0 ∧ rX_Bounds_variableOf.slots = 0 := ⟨rfl, rfl⟩
def X_Bounds_variableOf (x1 : Int32) (σ : SX) : Option (Int32 × SX) := (if x1 < 0 then (some ((-1), σ)) else (if (gX_Bounds_size σ) ≤ x1 then (some ((-1), σ)) else (if ck x1 200 = true then (some ((aX_Bounds_variable σ x1.toNatClampNeg), σ)) else none)))
set_option maxRecDepth 100000 in
set_option maxHeartbeats 4000000 in
theorem J_X_Bounds_variableOf (K : jx_E) (D : va_G) (A : Nat → Prop) (ad : Nat → Nat) (cA : Nat → ClassId) (h : jx_ok K D clX (tysX cA) A 2 b_Bounds_variableOf y_Bounds_variableOf.cls ((Cond.code y_Bounds_variableOf b_Bounds_variableOf 2 (some .int)) :: tblG) rX_Bounds_variableOf (some .int)) : ∀ (x1 : Int32) (σ : SX), J K D clX A 2 (wX ad cA) (jx_Qi K D clX (tysX cA) (wX ad cA) A) 0 0 0 [(0, .ref (ad 19)), (1, .int x1)] [] σ (X_Bounds_variableOf x1 σ) := by
  intro x1 σ
  rw [X_Bounds_variableOf]
  refine J_iload_n (q := 1) h d_Bounds_variableOf_0 rfl rfl ?_
  refine J_if_lt (tgt := 21) h d_Bounds_variableOf_1 (by decide) ?_ ?_
  · refine J_iconst (v := (-1)) h d_Bounds_variableOf_21 (by decide) ?_
    exact J_iret h rfl d_Bounds_variableOf_22
  · refine J_iload_n (q := 1) h d_Bounds_variableOf_4 rfl rfl ?_
    refine J_aload_n (q := 0) h d_Bounds_variableOf_5 rfl rfl ?_
    refine J_getf h 19 (wX_19 ad cA σ) (tb_ups in_Bounds) rfl 4 (by decide) (tb_up q_1_109) rfl d_Bounds_variableOf_6 ?_
    refine J_icmp_ge (tgt := 21) h d_Bounds_variableOf_9 (by decide) ?_ ?_
    · refine J_iconst (v := (-1)) h d_Bounds_variableOf_21 (by decide) ?_
      exact J_iret h rfl d_Bounds_variableOf_22
    · refine J_aload_n (q := 0) h d_Bounds_variableOf_12 rfl rfl ?_
      refine J_getf h 19 (wX_19 ad cA σ) (tb_ups in_Bounds) rfl 1 (by decide) (tb_up q_1_106) rfl d_Bounds_variableOf_13 ?_
      refine J_iload_n (q := 1) h d_Bounds_variableOf_16 rfl rfl ?_
      refine J_iald h 21 17 (wX_21 ad cA σ) rfl d_Bounds_variableOf_17 ?_
      refine J_goto (tgt := 22) h d_Bounds_variableOf_18 (by decide) ?_
      exact J_iret h rfl d_Bounds_variableOf_22
set_option maxRecDepth 100000 in
theorem cX_Bounds_variableOf (l : Launch) (D : va_G) (ad : Nat → Nat) (cA : Nat → ClassId) (x1 : Int32) (σ : SX) (r : Int32) (σ' : SX) (hf : X_Bounds_variableOf x1 σ = some (r, σ')) : MetI l y_Bounds_variableOf ((Cond.code y_Bounds_variableOf b_Bounds_variableOf 2 (some .int)) :: tblG) rX_Bounds_variableOf D clX (tysX cA) (wX ad cA) [.ref (ad 19), .int x1] σ r σ' :=
  jx_metI (by decide) rfl (Nat.le_of_ble_eq_true rfl) (fun K A h => J_X_Bounds_variableOf K D A ad cA h x1 σ) hf
def rX_Bounds_typeOf : Room := { frames := 0, cells := 0, slots := 0, locals := 0 }
theorem rm_ok_X_Bounds_typeOf : rX_Bounds_typeOf.cells = 0 ∧ rX_Bounds_typeOf.slots = 0 := ⟨rfl, rfl⟩
def X_Bounds_typeOf (x1 : Int32) (σ : SX) : Option (Int32 × SX) := (if x1 < 0 then (some ((-1), σ)) else (if (gX_Bounds_size σ) ≤ x1 then (some ((-1), σ)) else (if ck x1 200 = true then (some ((aX_Bounds_type σ x1.toNatClampNeg), σ)) else none)))
set_option maxRecDepth 100000 in
set_option maxHeartbeats 4000000 in
theorem J_X_Bounds_typeOf (K : jx_E) (D : va_G) (A : Nat → Prop) (ad : Nat → Nat) (cA : Nat → ClassId) (h : jx_ok K D clX (tysX cA) A 2 b_Bounds_typeOf y_Bounds_typeOf.cls ((Cond.code y_Bounds_typeOf b_Bounds_typeOf 2 (some .int)) :: tblG) rX_Bounds_typeOf (some .int)) : ∀ (x1 : Int32) (σ : SX), J K D clX A 2 (wX ad cA) (jx_Qi K D clX (tysX cA) (wX ad cA) A) 0 0 0 [(0, .ref (ad 19)), (1, .int x1)] [] σ (X_Bounds_typeOf x1 σ) := by
  intro x1 σ
  rw [X_Bounds_typeOf]
  refine J_iload_n (q := 1) h d_Bounds_typeOf_0 rfl rfl ?_
  refine J_if_lt (tgt := 21) h d_Bounds_typeOf_1 (by decide) ?_ ?_
  · refine J_iconst (v := (-1)) h d_Bounds_typeOf_21 (by decide) ?_
    exact J_iret h rfl d_Bounds_typeOf_22
  · refine J_iload_n (q := 1) h d_Bounds_typeOf_4 rfl rfl ?_
    refine J_aload_n (q := 0) h d_Bounds_typeOf_5 rfl rfl ?_
    refine J_getf h 19 (wX_19 ad cA σ) (tb_ups in_Bounds) rfl 4 (by decide) (tb_up q_1_109) rfl d_Bounds_typeOf_6 ?_
    refine J_icmp_ge (tgt := 21) h d_Bounds_typeOf_9 (by decide) ?_ ?_
    · refine J_iconst (v := (-1)) h d_Bounds_typeOf_21 (by decide) ?_
      exact J_iret h rfl d_Bounds_typeOf_22
    · refine J_aload_n (q := 0) h d_Bounds_typeOf_12 rfl rfl ?_
      refine J_getf h 19 (wX_19 ad cA σ) (tb_ups in_Bounds) rfl 2 (by decide) (tb_up q_1_107) rfl d_Bounds_typeOf_13 ?_
      refine J_iload_n (q := 1) h d_Bounds_typeOf_16 rfl rfl ?_
      refine J_iald h 22 18 (wX_22 ad cA σ) rfl d_Bounds_typeOf_17 ?_
      refine J_goto (tgt := 22) h d_Bounds_typeOf_18 (by decide) ?_
      exact J_iret h rfl d_Bounds_typeOf_22
set_option maxRecDepth 100000 in
theorem cX_Bounds_typeOf (l : Launch) (D : va_G) (ad : Nat → Nat) (cA : Nat → ClassId) (x1 : Int32) (σ : SX) (r : Int32) (σ' : SX) (hf : X_Bounds_typeOf x1 σ = some (r, σ')) : MetI l y_Bounds_typeOf ((Cond.code y_Bounds_typeOf b_Bounds_typeOf 2 (some .int)) :: tblG) rX_Bounds_typeOf D clX (tysX cA) (wX ad cA) [.ref (ad 19), .int x1] σ r σ' :=
  jx_metI (by decide) rfl (Nat.le_of_ble_eq_true rfl) (fun K A h => J_X_Bounds_typeOf K D A ad cA h x1 σ) hf
def rX_Bounds_originOf : Room := { frames := 0, cells := 0, slots := 0, locals := 0 }
theorem rm_ok_X_Bounds_originOf : rX_Bounds_originOf.cells = 0 ∧ rX_Bounds_originOf.slots = 0 := ⟨rfl, rfl⟩
def X_Bounds_originOf (x1 : Int32) (σ : SX) : Option (Int32 × SX) := (if x1 < 0 then (some ((-1), σ)) else (if (gX_Bounds_size σ) ≤ x1 then (some ((-1), σ)) else (if ck x1 200 = true then (some ((aX_Bounds_origin σ x1.toNatClampNeg), σ)) else none)))
set_option maxRecDepth 100000 in
set_option maxHeartbeats 4000000 in
theorem J_X_Bounds_originOf (K : jx_E) (D : va_G) (A : Nat → Prop) (ad : Nat → Nat) (cA : Nat → ClassId) (h : jx_ok K D clX (tysX cA) A 2 b_Bounds_originOf y_Bounds_originOf.cls ((Cond.code y_Bounds_originOf b_Bounds_originOf 2 (some .int)) :: tblG) rX_Bounds_originOf (some .int)) : ∀ (x1 : Int32) (σ : SX), J K D clX A 2 (wX ad cA) (jx_Qi K D clX (tysX cA) (wX ad cA) A) 0 0 0 [(0, .ref (ad 19)), (1, .int x1)] [] σ (X_Bounds_originOf x1 σ) := by
  intro x1 σ
  rw [X_Bounds_originOf]
  refine J_iload_n (q := 1) h d_Bounds_originOf_0 rfl rfl ?_
  refine J_if_lt (tgt := 21) h d_Bounds_originOf_1 (by decide) ?_ ?_
  · refine J_iconst (v := (-1)) h d_Bounds_originOf_21 (by decide) ?_
    exact J_iret h rfl d_Bounds_originOf_22
  · refine J_iload_n (q := 1) h d_Bounds_originOf_4 rfl rfl ?_
    refine J_aload_n (q := 0) h d_Bounds_originOf_5 rfl rfl ?_
    refine J_getf h 19 (wX_19 ad cA σ) (tb_ups in_Bounds) rfl 4 (by decide) (tb_up q_1_109) rfl d_Bounds_originOf_6 ?_
    refine J_icmp_ge (tgt := 21) h d_Bounds_originOf_9 (by decide) ?_ ?_
    · refine J_iconst (v := (-1)) h d_Bounds_originOf_21 (by decide) ?_
      exact J_iret h rfl d_Bounds_originOf_22
    · refine J_aload_n (q := 0) h d_Bounds_originOf_12 rfl rfl ?_
      refine J_getf h 19 (wX_19 ad cA σ) (tb_ups in_Bounds) rfl 3 (by decide) (tb_up q_1_108) rfl d_Bounds_originOf_13 ?_
      refine J_iload_n (q := 1) h d_Bounds_originOf_16 rfl rfl ?_
      refine J_iald h 23 19 (wX_23 ad cA σ) rfl d_Bounds_originOf_17 ?_
      refine J_goto (tgt := 22) h d_Bounds_originOf_18 (by decide) ?_
      exact J_iret h rfl d_Bounds_originOf_22
set_option maxRecDepth 100000 in
theorem cX_Bounds_originOf (l : Launch) (D : va_G) (ad : Nat → Nat) (cA : Nat → ClassId) (x1 : Int32) (σ : SX) (r : Int32) (σ' : SX) (hf : X_Bounds_originOf x1 σ = some (r, σ')) : MetI l y_Bounds_originOf ((Cond.code y_Bounds_originOf b_Bounds_originOf 2 (some .int)) :: tblG) rX_Bounds_originOf D clX (tysX cA) (wX ad cA) [.ref (ad 19), .int x1] σ r σ' :=
  jx_metI (by decide) rfl (Nat.le_of_ble_eq_true rfl) (fun K A h => J_X_Bounds_originOf K D A ad cA h x1 σ) hf
def rX_Bounds_add : Room := { frames := 0, cells := 0, slots := 0, locals := 0 }
theorem rm_ok_X_Bounds_add : rX_Bounds_add.cells = 0 ∧ rX_Bounds_add.slots = 0 := ⟨rfl, rfl⟩
def X_Bounds_add_b47 (N : Nat) (k3 : Int32 → Int32 → Int32 → Int32 → Int32 → SX → Option (Int32 × SX)) (v1 : Int32) (v2 : Int32) (v3 : Int32) (v4 : Int32) (v5 : Int32) (σ : SX) : Option (Int32 × SX) := (nm (v5 + 1) (fun (y1 : Int32) => (k3 v1 v2 v3 v4 y1 σ)))
set_option maxRecDepth 100000 in
set_option maxHeartbeats 4000000 in
theorem J_X_Bounds_add_b47 (K : jx_E) (D : va_G) (A : Nat → Prop) (ad : Nat → Nat) (cA : Nat → ClassId) (N : Nat) (h : jx_ok K D clX (tysX cA) A 6 b_Bounds_add y_Bounds_add.cls ((Cond.code y_Bounds_add b_Bounds_add 6 (some .int)) :: tblG) rX_Bounds_add (some .int)) (k3 : Int32 → Int32 → Int32 → Int32 → Int32 → SX → Option (Int32 × SX)) (hk3 : ∀ (v1 : Int32) (v2 : Int32) (v3 : Int32) (v4 : Int32) (v5 : Int32) (σ : SX), J K D clX A 6 (wX ad cA) (jx_Qi K D clX (tysX cA) (wX ad cA) A) 0 0 3 [(0, .ref (ad 19)), (1, .int v1), (2, .int v2), (3, .int v3), (4, .int v4), (5, .int v5)] [] σ (k3 v1 v2 v3 v4 v5 σ)) : ∀ (v1 : Int32) (v2 : Int32) (v3 : Int32) (v4 : Int32) (v5 : Int32) (σ : SX), J K D clX A 6 (wX ad cA) (jx_Qi K D clX (tysX cA) (wX ad cA) A) 0 0 47 [(0, .ref (ad 19)), (1, .int v1), (2, .int v2), (3, .int v3), (4, .int v4), (5, .int v5)] [] σ (X_Bounds_add_b47 N k3 v1 v2 v3 v4 v5 σ) := by
  intro v1 v2 v3 v4 v5 σ
  rw [X_Bounds_add_b47]
  refine J_iinc (q := 5) (c := 1) (lv' := fun y1 => [(5, .int y1), (0, .ref (ad 19)), (1, .int v1), (2, .int v2), (3, .int v3), (4, .int v4)]) h d_Bounds_add_47 rfl (by decide) (by decide) (fun _ => rfl) (fun y1 => ?_)
  refine J_goto (tgt := 3) h d_Bounds_add_50 (by decide) ?_
  refine J_sub [1, 2, 3, 4, 5, 0] rfl ?_
  exact hk3 v1 v2 v3 v4 y1 σ
def X_Bounds_add_L3 (N : Nat) (k53 : Int32 → Int32 → Int32 → Int32 → SX → Option (Int32 × SX)) : Nat → Int32 → Int32 → Int32 → Int32 → Int32 → SX → Option (Int32 × SX)
  | 0, _, _, _, _, _, _ => none
  | n + 1, v1, v2, v3, v4, v5, σ => (if (gX_Bounds_size σ) ≤ v5 then (k53 v1 v2 v3 v4 σ) else (if ck v5 200 = true then (if (aX_Bounds_sort σ v5.toNatClampNeg) = v1 then (if ck v5 200 = true then (if (aX_Bounds_variable σ v5.toNatClampNeg) = v2 then (if ck v5 200 = true then (if (aX_Bounds_type σ v5.toNatClampNeg) = v3 then (some (1, σ)) else (X_Bounds_add_b47 N (X_Bounds_add_L3 N k53 n) v1 v2 v3 v4 v5 σ)) else none) else (X_Bounds_add_b47 N (X_Bounds_add_L3 N k53 n) v1 v2 v3 v4 v5 σ)) else none) else (X_Bounds_add_b47 N (X_Bounds_add_L3 N k53 n) v1 v2 v3 v4 v5 σ)) else none))
set_option maxRecDepth 100000 in
set_option maxHeartbeats 4000000 in
theorem J_X_Bounds_add_L3 (K : jx_E) (D : va_G) (A : Nat → Prop) (ad : Nat → Nat) (cA : Nat → ClassId) (N : Nat) (h : jx_ok K D clX (tysX cA) A 6 b_Bounds_add y_Bounds_add.cls ((Cond.code y_Bounds_add b_Bounds_add 6 (some .int)) :: tblG) rX_Bounds_add (some .int)) (k53 : Int32 → Int32 → Int32 → Int32 → SX → Option (Int32 × SX)) (hk53 : ∀ (v1 : Int32) (v2 : Int32) (v3 : Int32) (v4 : Int32) (σ : SX), J K D clX A 6 (wX ad cA) (jx_Qi K D clX (tysX cA) (wX ad cA) A) 0 0 53 [(0, .ref (ad 19)), (1, .int v1), (2, .int v2), (3, .int v3), (4, .int v4)] [] σ (k53 v1 v2 v3 v4 σ)) : ∀ (n : Nat) (v1 : Int32) (v2 : Int32) (v3 : Int32) (v4 : Int32) (v5 : Int32) (σ : SX), J K D clX A 6 (wX ad cA) (jx_Qi K D clX (tysX cA) (wX ad cA) A) 0 0 3 [(0, .ref (ad 19)), (1, .int v1), (2, .int v2), (3, .int v3), (4, .int v4), (5, .int v5)] [] σ (X_Bounds_add_L3 N k53 n v1 v2 v3 v4 v5 σ) := by
  intro n
  induction n with
  | zero => intro v1 v2 v3 v4 v5 σ; exact J_none
  | succ n ih =>
    intro v1 v2 v3 v4 v5 σ
    rw [X_Bounds_add_L3]
    refine J_iload (q := 5) h d_Bounds_add_3 rfl ?_
    refine J_aload_n (q := 0) h d_Bounds_add_5 rfl rfl ?_
    refine J_getf h 19 (wX_19 ad cA σ) (tb_ups in_Bounds) rfl 4 (by decide) (tb_up q_1_109) rfl d_Bounds_add_6 ?_
    refine J_icmp_ge (tgt := 53) h d_Bounds_add_9 (by decide) ?_ ?_
    · refine J_sub [0, 1, 2, 3, 4] rfl ?_
      exact hk53 v1 v2 v3 v4 σ
    · refine J_aload_n (q := 0) h d_Bounds_add_12 rfl rfl ?_
      refine J_getf h 19 (wX_19 ad cA σ) (tb_ups in_Bounds) rfl 0 (by decide) (tb_up q_1_105) rfl d_Bounds_add_13 ?_
      refine J_iload (q := 5) h d_Bounds_add_16 rfl ?_
      refine J_iald h 20 16 (wX_20 ad cA σ) rfl d_Bounds_add_18 ?_
      refine J_iload_n (q := 1) h d_Bounds_add_19 rfl rfl ?_
      refine J_icmp_ne (tgt := 47) h d_Bounds_add_20 (by decide) ?_ ?_
      · refine J_aload_n (q := 0) h d_Bounds_add_23 rfl rfl ?_
        refine J_getf h 19 (wX_19 ad cA σ) (tb_ups in_Bounds) rfl 1 (by decide) (tb_up q_1_106) rfl d_Bounds_add_24 ?_
        refine J_iload (q := 5) h d_Bounds_add_27 rfl ?_
        refine J_iald h 21 17 (wX_21 ad cA σ) rfl d_Bounds_add_29 ?_
        refine J_iload_n (q := 2) h d_Bounds_add_30 rfl rfl ?_
        refine J_icmp_ne (tgt := 47) h d_Bounds_add_31 (by decide) ?_ ?_
        · refine J_aload_n (q := 0) h d_Bounds_add_34 rfl rfl ?_
          refine J_getf h 19 (wX_19 ad cA σ) (tb_ups in_Bounds) rfl 2 (by decide) (tb_up q_1_107) rfl d_Bounds_add_35 ?_
          refine J_iload (q := 5) h d_Bounds_add_38 rfl ?_
          refine J_iald h 22 18 (wX_22 ad cA σ) rfl d_Bounds_add_40 ?_
          refine J_iload_n (q := 3) h d_Bounds_add_41 rfl rfl ?_
          refine J_icmp_ne (tgt := 47) h d_Bounds_add_42 (by decide) ?_ ?_
          · refine J_iconst (v := 1) h d_Bounds_add_45 (by decide) ?_
            exact J_iret h rfl d_Bounds_add_46
          · exact J_X_Bounds_add_b47 K D A ad cA N h (X_Bounds_add_L3 N k53 n) ih v1 v2 v3 v4 v5 σ
        · exact J_X_Bounds_add_b47 K D A ad cA N h (X_Bounds_add_L3 N k53 n) ih v1 v2 v3 v4 v5 σ
      · exact J_X_Bounds_add_b47 K D A ad cA N h (X_Bounds_add_L3 N k53 n) ih v1 v2 v3 v4 v5 σ
def X_Bounds_add_b53 (N : Nat) (v1 : Int32) (v2 : Int32) (v3 : Int32) (v4 : Int32) (σ : SX) : Option (Int32 × SX) := (if (gX_Bounds_size σ) < 0 then (some ((-3), σ)) else (if (gX_Bounds_size σ) < 200 then (if ck (gX_Bounds_size σ) 200 = true then (nm (tX_Bounds_sort σ (upd (aX_Bounds_sort σ) (gX_Bounds_size σ).toNatClampNeg v1)) (fun (σ2 : SX) => (if ck (gX_Bounds_size σ2) 200 = true then (nm (tX_Bounds_variable σ2 (upd (aX_Bounds_variable σ2) (gX_Bounds_size σ2).toNatClampNeg v2)) (fun (σ3 : SX) => (if ck (gX_Bounds_size σ3) 200 = true then (nm (tX_Bounds_type σ3 (upd (aX_Bounds_type σ3) (gX_Bounds_size σ3).toNatClampNeg v3)) (fun (σ4 : SX) => (if ck (gX_Bounds_size σ4) 200 = true then (nm (tX_Bounds_origin σ4 (upd (aX_Bounds_origin σ4) (gX_Bounds_size σ4).toNatClampNeg v4)) (fun (σ5 : SX) => (nm (sX_Bounds_size σ5 ((gX_Bounds_size σ5) + 1)) (fun (σ6 : SX) => (some (1, σ6)))))) else none))) else none))) else none))) else none) else (some ((-3), σ))))
set_option maxRecDepth 100000 in
set_option maxHeartbeats 4000000 in
theorem J_X_Bounds_add_b53 (K : jx_E) (D : va_G) (A : Nat → Prop) (ad : Nat → Nat) (cA : Nat → ClassId) (N : Nat) (h : jx_ok K D clX (tysX cA) A 6 b_Bounds_add y_Bounds_add.cls ((Cond.code y_Bounds_add b_Bounds_add 6 (some .int)) :: tblG) rX_Bounds_add (some .int)) : ∀ (v1 : Int32) (v2 : Int32) (v3 : Int32) (v4 : Int32) (σ : SX), J K D clX A 6 (wX ad cA) (jx_Qi K D clX (tysX cA) (wX ad cA) A) 0 0 53 [(0, .ref (ad 19)), (1, .int v1), (2, .int v2), (3, .int v3), (4, .int v4)] [] σ (X_Bounds_add_b53 N v1 v2 v3 v4 σ) := by
  intro v1 v2 v3 v4 σ
  rw [X_Bounds_add_b53]
  refine J_aload_n (q := 0) h d_Bounds_add_53 rfl rfl ?_
  refine J_getf h 19 (wX_19 ad cA σ) (tb_ups in_Bounds) rfl 4 (by decide) (tb_up q_1_109) rfl d_Bounds_add_54 ?_
  refine J_if_lt (tgt := 70) h d_Bounds_add_57 (by decide) ?_ ?_
  · refine J_bipush (v := (-3)) h d_Bounds_add_70 (by decide) ?_
    exact J_iret h rfl d_Bounds_add_72
  · refine J_aload_n (q := 0) h d_Bounds_add_60 rfl rfl ?_
    refine J_getf h 19 (wX_19 ad cA σ) (tb_ups in_Bounds) rfl 4 (by decide) (tb_up q_1_109) rfl d_Bounds_add_61 ?_
    refine J_sipush (v := 200) h d_Bounds_add_64 (by decide) ?_
    refine J_icmp_lt (tgt := 73) h d_Bounds_add_67 (by decide) ?_ ?_
    · refine J_aload_n (q := 0) h d_Bounds_add_73 rfl rfl ?_
      refine J_getf h 19 (wX_19 ad cA σ) (tb_ups in_Bounds) rfl 0 (by decide) (tb_up q_1_105) rfl d_Bounds_add_74 ?_
      refine J_aload_n (q := 0) h d_Bounds_add_77 rfl rfl ?_
      refine J_getf h 19 (wX_19 ad cA σ) (tb_ups in_Bounds) rfl 4 (by decide) (tb_up q_1_109) rfl d_Bounds_add_78 ?_
      refine J_iload_n (q := 1) h d_Bounds_add_81 rfl rfl ?_
      refine J_iast h 20 16 (wX_20 ad cA σ) rfl (uX_20 ad cA σ _) d_Bounds_add_82 (fun σ2 => ?_)
      refine J_aload_n (q := 0) h d_Bounds_add_83 rfl rfl ?_
      refine J_getf h 19 (wX_19 ad cA σ2) (tb_ups in_Bounds) rfl 1 (by decide) (tb_up q_1_106) rfl d_Bounds_add_84 ?_
      refine J_aload_n (q := 0) h d_Bounds_add_87 rfl rfl ?_
      refine J_getf h 19 (wX_19 ad cA σ2) (tb_ups in_Bounds) rfl 4 (by decide) (tb_up q_1_109) rfl d_Bounds_add_88 ?_
      refine J_iload_n (q := 2) h d_Bounds_add_91 rfl rfl ?_
      refine J_iast h 21 17 (wX_21 ad cA σ2) rfl (uX_21 ad cA σ2 _) d_Bounds_add_92 (fun σ3 => ?_)
      refine J_aload_n (q := 0) h d_Bounds_add_93 rfl rfl ?_
      refine J_getf h 19 (wX_19 ad cA σ3) (tb_ups in_Bounds) rfl 2 (by decide) (tb_up q_1_107) rfl d_Bounds_add_94 ?_
      refine J_aload_n (q := 0) h d_Bounds_add_97 rfl rfl ?_
      refine J_getf h 19 (wX_19 ad cA σ3) (tb_ups in_Bounds) rfl 4 (by decide) (tb_up q_1_109) rfl d_Bounds_add_98 ?_
      refine J_iload_n (q := 3) h d_Bounds_add_101 rfl rfl ?_
      refine J_iast h 22 18 (wX_22 ad cA σ3) rfl (uX_22 ad cA σ3 _) d_Bounds_add_102 (fun σ4 => ?_)
      refine J_aload_n (q := 0) h d_Bounds_add_103 rfl rfl ?_
      refine J_getf h 19 (wX_19 ad cA σ4) (tb_ups in_Bounds) rfl 3 (by decide) (tb_up q_1_108) rfl d_Bounds_add_104 ?_
      refine J_aload_n (q := 0) h d_Bounds_add_107 rfl rfl ?_
      refine J_getf h 19 (wX_19 ad cA σ4) (tb_ups in_Bounds) rfl 4 (by decide) (tb_up q_1_109) rfl d_Bounds_add_108 ?_
      refine J_iload (q := 4) h d_Bounds_add_111 rfl ?_
      refine J_iast h 23 19 (wX_23 ad cA σ4) rfl (uX_23 ad cA σ4 _) d_Bounds_add_113 (fun σ5 => ?_)
      refine J_aload_n (q := 0) h d_Bounds_add_114 rfl rfl ?_
      refine J_dup h d_Bounds_add_115 rfl ?_
      refine J_getf h 19 (wX_19 ad cA σ5) (tb_ups in_Bounds) rfl 4 (by decide) (tb_up q_1_109) rfl d_Bounds_add_116 ?_
      refine J_iconst (v := 1) h d_Bounds_add_119 (by decide) ?_
      refine J_iadd h d_Bounds_add_120 ?_
      refine J_putf h 19 (wX_19 ad cA σ5) (tb_ups in_Bounds) rfl ft_Bounds ft_Bounds_ok nm_Bounds 4 (by decide) (tb_up q_1_109) rfl rfl rfl (Nat.le_of_ble_eq_true rfl) (pX_19_4 ad cA σ5 ((gX_Bounds_size σ5) + 1)) d_Bounds_add_121 (fun σ6 => ?_)
      refine J_iconst (v := 1) h d_Bounds_add_124 (by decide) ?_
      exact J_iret h rfl d_Bounds_add_125
    · refine J_bipush (v := (-3)) h d_Bounds_add_70 (by decide) ?_
      exact J_iret h rfl d_Bounds_add_72
def X_Bounds_add (N : Nat) (x1 : Int32) (x2 : Int32) (x3 : Int32) (x4 : Int32) (σ : SX) : Option (Int32 × SX) := (X_Bounds_add_L3 N (X_Bounds_add_b53 N) N x1 x2 x3 x4 0 σ)
set_option maxRecDepth 100000 in
set_option maxHeartbeats 4000000 in
theorem J_X_Bounds_add (K : jx_E) (D : va_G) (A : Nat → Prop) (ad : Nat → Nat) (cA : Nat → ClassId) (N : Nat) (h : jx_ok K D clX (tysX cA) A 6 b_Bounds_add y_Bounds_add.cls ((Cond.code y_Bounds_add b_Bounds_add 6 (some .int)) :: tblG) rX_Bounds_add (some .int)) : ∀ (x1 : Int32) (x2 : Int32) (x3 : Int32) (x4 : Int32) (σ : SX), J K D clX A 6 (wX ad cA) (jx_Qi K D clX (tysX cA) (wX ad cA) A) 0 0 0 [(0, .ref (ad 19)), (1, .int x1), (2, .int x2), (3, .int x3), (4, .int x4)] [] σ (X_Bounds_add N x1 x2 x3 x4 σ) := by
  intro x1 x2 x3 x4 σ
  rw [X_Bounds_add]
  refine J_iconst (v := 0) h d_Bounds_add_0 (by decide) ?_
  refine J_istore (lv' := [(5, .int 0), (0, .ref (ad 19)), (1, .int x1), (2, .int x2), (3, .int x3), (4, .int x4)]) h d_Bounds_add_1 (by decide) rfl ?_
  refine J_sub [1, 2, 3, 4, 5, 0] rfl ?_
  exact J_X_Bounds_add_L3 K D A ad cA N h (X_Bounds_add_b53 N) (J_X_Bounds_add_b53 K D A ad cA N h) N x1 x2 x3 x4 0 σ
set_option maxRecDepth 100000 in
theorem cX_Bounds_add (l : Launch) (D : va_G) (ad : Nat → Nat) (cA : Nat → ClassId) (N : Nat) (x1 : Int32) (x2 : Int32) (x3 : Int32) (x4 : Int32) (σ : SX) (r : Int32) (σ' : SX) (hf : X_Bounds_add N x1 x2 x3 x4 σ = some (r, σ')) : MetI l y_Bounds_add ((Cond.code y_Bounds_add b_Bounds_add 6 (some .int)) :: tblG) rX_Bounds_add D clX (tysX cA) (wX ad cA) [.ref (ad 19), .int x1, .int x2, .int x3, .int x4] σ r σ' :=
  jx_metI (by decide) rfl (Nat.le_of_ble_eq_true rfl) (fun K A h => J_X_Bounds_add K D A ad cA N h x1 x2 x3 x4 σ) hf
def rX_Types_isProper : Room := { frames := 0, cells := 0, slots := 0, locals := 0 }
theorem rm_ok_X_Types_isProper : rX_Types_isProper.cells = 0 ∧ rX_Types_isProper.slots = 0 := ⟨rfl, rfl⟩
def X_Types_isProper (x1 : Int32) (σ : SX) : Option (Int32 × SX) := (if x1 < 0 then (some (0, σ)) else (if (gX_Types_size σ) ≤ x1 then (some (0, σ)) else (if ck x1 500 = true then (if (aX_Types_variables σ x1.toNatClampNeg) = 0 then (some (1, σ)) else (some (0, σ))) else none)))
set_option maxRecDepth 100000 in
set_option maxHeartbeats 4000000 in
theorem J_X_Types_isProper (K : jx_E) (D : va_G) (A : Nat → Prop) (ad : Nat → Nat) (cA : Nat → ClassId) (h : jx_ok K D clX (tysX cA) A 2 b_Types_isProper y_Types_isProper.cls ((Cond.code y_Types_isProper b_Types_isProper 2 (some .boolean)) :: tblG) rX_Types_isProper (some .boolean)) : ∀ (x1 : Int32) (σ : SX), J K D clX A 2 (wX ad cA) (jx_Qi K D clX (tysX cA) (wX ad cA) A) 0 0 0 [(0, .ref (ad 7)), (1, .int x1)] [] σ (X_Types_isProper x1 σ) := by
  intro x1 σ
  rw [X_Types_isProper]
  refine J_iload_n (q := 1) h d_Types_isProper_0 rfl rfl ?_
  refine J_if_lt (tgt := 25) h d_Types_isProper_1 (by decide) ?_ ?_
  · refine J_iconst (v := 0) h d_Types_isProper_25 (by decide) ?_
    exact J_zret h rfl (by decide) d_Types_isProper_26
  · refine J_iload_n (q := 1) h d_Types_isProper_4 rfl rfl ?_
    refine J_aload_n (q := 0) h d_Types_isProper_5 rfl rfl ?_
    refine J_getf h 7 (wX_7 ad cA σ) (tb_ups in_Types) rfl 11 (by decide) (tb_up q_1_72) rfl d_Types_isProper_6 ?_
    refine J_icmp_ge (tgt := 25) h d_Types_isProper_9 (by decide) ?_ ?_
    · refine J_iconst (v := 0) h d_Types_isProper_25 (by decide) ?_
      exact J_zret h rfl (by decide) d_Types_isProper_26
    · refine J_aload_n (q := 0) h d_Types_isProper_12 rfl rfl ?_
      refine J_getf h 7 (wX_7 ad cA σ) (tb_ups in_Types) rfl 6 (by decide) (tb_up q_1_67) rfl d_Types_isProper_13 ?_
      refine J_iload_n (q := 1) h d_Types_isProper_16 rfl rfl ?_
      refine J_iald h 14 11 (wX_14 ad cA σ) rfl d_Types_isProper_17 ?_
      refine J_if_ne (tgt := 25) h d_Types_isProper_18 (by decide) ?_ ?_
      · refine J_iconst (v := 1) h d_Types_isProper_21 (by decide) ?_
        refine J_goto (tgt := 26) h d_Types_isProper_22 (by decide) ?_
        exact J_zret h rfl (by decide) d_Types_isProper_26
      · refine J_iconst (v := 0) h d_Types_isProper_25 (by decide) ?_
        exact J_zret h rfl (by decide) d_Types_isProper_26
set_option maxRecDepth 100000 in
theorem cX_Types_isProper (l : Launch) (D : va_G) (ad : Nat → Nat) (cA : Nat → ClassId) (x1 : Int32) (σ : SX) (r : Int32) (σ' : SX) (hf : X_Types_isProper x1 σ = some (r, σ')) : MetI l y_Types_isProper ((Cond.code y_Types_isProper b_Types_isProper 2 (some .boolean)) :: tblG) rX_Types_isProper D clX (tysX cA) (wX ad cA) [.ref (ad 7), .int x1] σ r σ' :=
  jx_metI (by decide) rfl (Nat.le_of_ble_eq_true rfl) (fun K A h => J_X_Types_isProper K D A ad cA h x1 σ) hf
def rX_Bounds_settledAs : Room := { frames := 1, cells := 0, slots := 0, locals := 21 }
theorem rm_ok_X_Bounds_settledAs : rX_Bounds_settledAs.cells = 0 ∧ rX_Bounds_settledAs.slots = 0 := ⟨rfl, rfl⟩
def X_Bounds_settledAs_b49 (N : Nat) (k2 : Int32 → Int32 → SX → Option (Int32 × SX)) (v1 : Int32) (v3 : Int32) (σ : SX) : Option (Int32 × SX) := (nm (v3 + 1) (fun (y3 : Int32) => (k2 v1 y3 σ)))
set_option maxRecDepth 100000 in
set_option maxHeartbeats 4000000 in
theorem J_X_Bounds_settledAs_b49 (K : jx_E) (D : va_G) (A : Nat → Prop) (ad : Nat → Nat) (cA : Nat → ClassId) (N : Nat) (h : jx_ok K D clX (tysX cA) A 4 b_Bounds_settledAs y_Bounds_settledAs.cls ((Cond.code y_Bounds_settledAs b_Bounds_settledAs 4 (some .int)) :: tblG) rX_Bounds_settledAs (some .int)) (k2 : Int32 → Int32 → SX → Option (Int32 × SX)) (hk2 : ∀ (v1 : Int32) (v3 : Int32) (σ : SX), J K D clX A 4 (wX ad cA) (jx_Qi K D clX (tysX cA) (wX ad cA) A) 0 0 2 [(0, .ref (ad 19)), (1, .int v1), (2, .ref (ad 7)), (3, .int v3)] [] σ (k2 v1 v3 σ)) : ∀ (v1 : Int32) (v3 : Int32) (σ : SX), J K D clX A 4 (wX ad cA) (jx_Qi K D clX (tysX cA) (wX ad cA) A) 0 0 49 [(0, .ref (ad 19)), (1, .int v1), (2, .ref (ad 7)), (3, .int v3)] [] σ (X_Bounds_settledAs_b49 N k2 v1 v3 σ) := by
  intro v1 v3 σ
  rw [X_Bounds_settledAs_b49]
  refine J_iinc (q := 3) (c := 1) (lv' := fun y3 => [(3, .int y3), (0, .ref (ad 19)), (1, .int v1), (2, .ref (ad 7))]) h d_Bounds_settledAs_49 rfl (by decide) (by decide) (fun _ => rfl) (fun y3 => ?_)
  refine J_goto (tgt := 2) h d_Bounds_settledAs_52 (by decide) ?_
  refine J_sub [1, 2, 3, 0] rfl ?_
  exact hk2 v1 y3 σ
def X_Bounds_settledAs_L2 (N : Nat) : Nat → Int32 → Int32 → SX → Option (Int32 × SX)
  | 0, _, _, _ => none
  | n + 1, v1, v3, σ => (if (gX_Bounds_size σ) ≤ v3 then (some ((-1), σ)) else (if ck v3 200 = true then (if (aX_Bounds_sort σ v3.toNatClampNeg) = 0 then (if ck v3 200 = true then (if (aX_Bounds_variable σ v3.toNatClampNeg) = v1 then (if ck v3 200 = true then (bd (X_Types_isProper (aX_Bounds_type σ v3.toNatClampNeg) σ) (fun (r1 : Int32) (σ2 : SX) => (if r1 = 0 then (X_Bounds_settledAs_b49 N (X_Bounds_settledAs_L2 N  n) v1 v3 σ2) else (if ck v3 200 = true then (some ((aX_Bounds_type σ2 v3.toNatClampNeg), σ2)) else none)))) else none) else (X_Bounds_settledAs_b49 N (X_Bounds_settledAs_L2 N  n) v1 v3 σ)) else none) else (X_Bounds_settledAs_b49 N (X_Bounds_settledAs_L2 N  n) v1 v3 σ)) else none))
set_option maxRecDepth 100000 in
set_option maxHeartbeats 4000000 in
theorem J_X_Bounds_settledAs_L2 (K : jx_E) (D : va_G) (A : Nat → Prop) (ad : Nat → Nat) (cA : Nat → ClassId) (N : Nat) (h : jx_ok K D clX (tysX cA) A 4 b_Bounds_settledAs y_Bounds_settledAs.cls ((Cond.code y_Bounds_settledAs b_Bounds_settledAs 4 (some .int)) :: tblG) rX_Bounds_settledAs (some .int)) : ∀ (n : Nat) (v1 : Int32) (v3 : Int32) (σ : SX), J K D clX A 4 (wX ad cA) (jx_Qi K D clX (tysX cA) (wX ad cA) A) 0 0 2 [(0, .ref (ad 19)), (1, .int v1), (2, .ref (ad 7)), (3, .int v3)] [] σ (X_Bounds_settledAs_L2 N n v1 v3 σ) := by
  intro n
  induction n with
  | zero => intro v1 v3 σ; exact J_none
  | succ n ih =>
    intro v1 v3 σ
    rw [X_Bounds_settledAs_L2]
    refine J_iload_n (q := 3) h d_Bounds_settledAs_2 rfl rfl ?_
    refine J_aload_n (q := 0) h d_Bounds_settledAs_3 rfl rfl ?_
    refine J_getf h 19 (wX_19 ad cA σ) (tb_ups in_Bounds) rfl 4 (by decide) (tb_up q_1_109) rfl d_Bounds_settledAs_4 ?_
    refine J_icmp_ge (tgt := 55) h d_Bounds_settledAs_7 (by decide) ?_ ?_
    · refine J_iconst (v := (-1)) h d_Bounds_settledAs_55 (by decide) ?_
      exact J_iret h rfl d_Bounds_settledAs_56
    · refine J_aload_n (q := 0) h d_Bounds_settledAs_10 rfl rfl ?_
      refine J_getf h 19 (wX_19 ad cA σ) (tb_ups in_Bounds) rfl 0 (by decide) (tb_up q_1_105) rfl d_Bounds_settledAs_11 ?_
      refine J_iload_n (q := 3) h d_Bounds_settledAs_14 rfl rfl ?_
      refine J_iald h 20 16 (wX_20 ad cA σ) rfl d_Bounds_settledAs_15 ?_
      refine J_if_ne (tgt := 49) h d_Bounds_settledAs_16 (by decide) ?_ ?_
      · refine J_aload_n (q := 0) h d_Bounds_settledAs_19 rfl rfl ?_
        refine J_getf h 19 (wX_19 ad cA σ) (tb_ups in_Bounds) rfl 1 (by decide) (tb_up q_1_106) rfl d_Bounds_settledAs_20 ?_
        refine J_iload_n (q := 3) h d_Bounds_settledAs_23 rfl rfl ?_
        refine J_iald h 21 17 (wX_21 ad cA σ) rfl d_Bounds_settledAs_24 ?_
        refine J_iload_n (q := 1) h d_Bounds_settledAs_25 rfl rfl ?_
        refine J_icmp_ne (tgt := 49) h d_Bounds_settledAs_26 (by decide) ?_ ?_
        · refine J_aload_n (q := 2) h d_Bounds_settledAs_29 rfl rfl ?_
          refine J_aload_n (q := 0) h d_Bounds_settledAs_30 rfl rfl ?_
          refine J_getf h 19 (wX_19 ad cA σ) (tb_ups in_Bounds) rfl 2 (by decide) (tb_up q_1_107) rfl d_Bounds_settledAs_31 ?_
          refine J_iload_n (q := 3) h d_Bounds_settledAs_34 rfl rfl ?_
          refine J_iald h 22 18 (wX_22 ad cA σ) rfl d_Bounds_settledAs_35 ?_
          refine J_callVi (As := [.int (aX_Bounds_type σ v3.toNatClampNeg)]) (st := []) (rmc := rX_Types_isProper) (q0 := 7) h (fun _ _ hf => cX_Types_isProper (jl K) D ad cA (aX_Bounds_type σ v3.toNatClampNeg) σ _ _ hf) (gd_V q_3_181 q_3_23 q_3_24 q_1_3 q_3_25) rfl ⟨rfl, rfl⟩ dd_Types_isProper ⟨Nat.le_of_ble_eq_true rfl, Nat.le_of_ble_eq_true rfl⟩ rfl rfl (wX_7 ad cA σ) rfl rfl (Nat.le_of_ble_eq_true rfl) ⟨Nat.zero_le _, Nat.zero_le _⟩ d_Bounds_settledAs_36 (fun r1 σ2 => ?_)
          refine J_if_eq (tgt := 49) h d_Bounds_settledAs_39 (by decide) ?_ ?_
          · exact J_X_Bounds_settledAs_b49 K D A ad cA N h (X_Bounds_settledAs_L2 N  n) ih v1 v3 σ2
          · refine J_aload_n (q := 0) h d_Bounds_settledAs_42 rfl rfl ?_
            refine J_getf h 19 (wX_19 ad cA σ2) (tb_ups in_Bounds) rfl 2 (by decide) (tb_up q_1_107) rfl d_Bounds_settledAs_43 ?_
            refine J_iload_n (q := 3) h d_Bounds_settledAs_46 rfl rfl ?_
            refine J_iald h 22 18 (wX_22 ad cA σ2) rfl d_Bounds_settledAs_47 ?_
            exact J_iret h rfl d_Bounds_settledAs_48
        · exact J_X_Bounds_settledAs_b49 K D A ad cA N h (X_Bounds_settledAs_L2 N  n) ih v1 v3 σ
      · exact J_X_Bounds_settledAs_b49 K D A ad cA N h (X_Bounds_settledAs_L2 N  n) ih v1 v3 σ
def X_Bounds_settledAs (N : Nat) (x1 : Int32) (σ : SX) : Option (Int32 × SX) := (X_Bounds_settledAs_L2 N N x1 0 σ)
set_option maxRecDepth 100000 in
set_option maxHeartbeats 4000000 in
theorem J_X_Bounds_settledAs (K : jx_E) (D : va_G) (A : Nat → Prop) (ad : Nat → Nat) (cA : Nat → ClassId) (N : Nat) (h : jx_ok K D clX (tysX cA) A 4 b_Bounds_settledAs y_Bounds_settledAs.cls ((Cond.code y_Bounds_settledAs b_Bounds_settledAs 4 (some .int)) :: tblG) rX_Bounds_settledAs (some .int)) : ∀ (x1 : Int32) (σ : SX), J K D clX A 4 (wX ad cA) (jx_Qi K D clX (tysX cA) (wX ad cA) A) 0 0 0 [(0, .ref (ad 19)), (1, .int x1), (2, .ref (ad 7))] [] σ (X_Bounds_settledAs N x1 σ) := by
  intro x1 σ
  rw [X_Bounds_settledAs]
  refine J_iconst (v := 0) h d_Bounds_settledAs_0 (by decide) ?_
  refine J_istore_n (lv' := [(3, .int 0), (0, .ref (ad 19)), (1, .int x1), (2, .ref (ad 7))]) h d_Bounds_settledAs_1 rfl (by decide) rfl ?_
  refine J_sub [1, 2, 3, 0] rfl ?_
  exact J_X_Bounds_settledAs_L2 K D A ad cA N h N x1 0 σ
set_option maxRecDepth 100000 in
theorem cX_Bounds_settledAs (l : Launch) (D : va_G) (ad : Nat → Nat) (cA : Nat → ClassId) (N : Nat) (x1 : Int32) (σ : SX) (r : Int32) (σ' : SX) (hf : X_Bounds_settledAs N x1 σ = some (r, σ')) : MetI l y_Bounds_settledAs ((Cond.code y_Bounds_settledAs b_Bounds_settledAs 4 (some .int)) :: tblG) rX_Bounds_settledAs D clX (tysX cA) (wX ad cA) [.ref (ad 19), .int x1, .ref (ad 7)] σ r σ' :=
  jx_metI (by decide) rfl (Nat.le_of_ble_eq_true rfl) (fun K A h => J_X_Bounds_settledAs K D A ad cA N h x1 σ) hf
def rX_Classes_has : Room := { frames := 0, cells := 0, slots := 0, locals := 0 }
theorem rm_ok_X_Classes_has : rX_Classes_has.cells = 0 ∧ rX_Classes_has.slots = 0 := ⟨rfl, rfl⟩
def X_Classes_has (x1 : Int32) (σ : SX) : Option (Int32 × SX) := (if x1 < 0 then (some (0, σ)) else (if (gX_Classes_size σ) ≤ x1 then (some (0, σ)) else (some (1, σ))))
set_option maxRecDepth 100000 in
set_option maxHeartbeats 4000000 in
theorem J_X_Classes_has (K : jx_E) (D : va_G) (A : Nat → Prop) (ad : Nat → Nat) (cA : Nat → ClassId) (h : jx_ok K D clX (tysX cA) A 2 b_Classes_has y_Classes_has.cls ((Cond.code y_Classes_has b_Classes_has 2 (some .boolean)) :: tblG) rX_Classes_has (some .boolean)) : ∀ (x1 : Int32) (σ : SX), J K D clX A 2 (wX ad cA) (jx_Qi K D clX (tysX cA) (wX ad cA) A) 0 0 0 [(0, .ref (ad 1)), (1, .int x1)] [] σ (X_Classes_has x1 σ) := by
  intro x1 σ
  rw [X_Classes_has]
  refine J_iload_n (q := 1) h d_Classes_has_0 rfl rfl ?_
  refine J_if_lt (tgt := 16) h d_Classes_has_1 (by decide) ?_ ?_
  · refine J_iconst (v := 0) h d_Classes_has_16 (by decide) ?_
    exact J_zret h rfl (by decide) d_Classes_has_17
  · refine J_iload_n (q := 1) h d_Classes_has_4 rfl rfl ?_
    refine J_aload_n (q := 0) h d_Classes_has_5 rfl rfl ?_
    refine J_getf h 1 (wX_1 ad cA σ) (tb_ups in_Classes) rfl 5 (by decide) (tb_up q_1_33) rfl d_Classes_has_6 ?_
    refine J_icmp_ge (tgt := 16) h d_Classes_has_9 (by decide) ?_ ?_
    · refine J_iconst (v := 0) h d_Classes_has_16 (by decide) ?_
      exact J_zret h rfl (by decide) d_Classes_has_17
    · refine J_iconst (v := 1) h d_Classes_has_12 (by decide) ?_
      refine J_goto (tgt := 17) h d_Classes_has_13 (by decide) ?_
      exact J_zret h rfl (by decide) d_Classes_has_17
set_option maxRecDepth 100000 in
theorem cX_Classes_has (l : Launch) (D : va_G) (ad : Nat → Nat) (cA : Nat → ClassId) (x1 : Int32) (σ : SX) (r : Int32) (σ' : SX) (hf : X_Classes_has x1 σ = some (r, σ')) : MetI l y_Classes_has ((Cond.code y_Classes_has b_Classes_has 2 (some .boolean)) :: tblG) rX_Classes_has D clX (tysX cA) (wX ad cA) [.ref (ad 1), .int x1] σ r σ' :=
  jx_metI (by decide) rfl (Nat.le_of_ble_eq_true rfl) (fun K A h => J_X_Classes_has K D A ad cA h x1 σ) hf
def rX_Classes_add : Room := { frames := 0, cells := 0, slots := 0, locals := 0 }
theorem rm_ok_X_Classes_add : rX_Classes_add.cells = 0 ∧ rX_Classes_add.slots = 0 := ⟨rfl, rfl⟩
def X_Classes_add (x1 : Int32) (σ : SX) : Option (Int32 × SX) := (if (gX_Classes_size σ) < 0 then (some ((-3), σ)) else (if (gX_Classes_size σ) < 40 then (if ck (gX_Classes_size σ) 40 = true then (nm (tX_Classes_parameters σ (upd (aX_Classes_parameters σ) (gX_Classes_size σ).toNatClampNeg x1)) (fun (σ1 : SX) => (if ck (gX_Classes_size σ1) 40 = true then (nm (tX_Classes_reach σ1 (vp_updL (aX_Classes_reach σ1) (gX_Classes_size σ1).toNatClampNeg ((1 : Int64) <<< ((gX_Classes_size σ1).toInt64 &&& 63)))) (fun (σ2 : SX) => (nm (sX_Classes_size σ2 ((gX_Classes_size σ2) + 1)) (fun (σ3 : SX) => (some (((gX_Classes_size σ3) - 1), σ3)))))) else none))) else none) else (some ((-3), σ))))
set_option maxRecDepth 100000 in
set_option maxHeartbeats 4000000 in
theorem J_X_Classes_add (K : jx_E) (D : va_G) (A : Nat → Prop) (ad : Nat → Nat) (cA : Nat → ClassId) (h : jx_ok K D clX (tysX cA) A 2 b_Classes_add y_Classes_add.cls ((Cond.code y_Classes_add b_Classes_add 2 (some .int)) :: tblG) rX_Classes_add (some .int)) : ∀ (x1 : Int32) (σ : SX), J K D clX A 2 (wX ad cA) (jx_Qi K D clX (tysX cA) (wX ad cA) A) 0 0 0 [(0, .ref (ad 1)), (1, .int x1)] [] σ (X_Classes_add x1 σ) := by
  intro x1 σ
  rw [X_Classes_add]
  refine J_aload_n (q := 0) h d_Classes_add_0 rfl rfl ?_
  refine J_getf h 1 (wX_1 ad cA σ) (tb_ups in_Classes) rfl 5 (by decide) (tb_up q_1_33) rfl d_Classes_add_1 ?_
  refine J_if_lt (tgt := 16) h d_Classes_add_4 (by decide) ?_ ?_
  · refine J_bipush (v := (-3)) h d_Classes_add_16 (by decide) ?_
    exact J_iret h rfl d_Classes_add_18
  · refine J_aload_n (q := 0) h d_Classes_add_7 rfl rfl ?_
    refine J_getf h 1 (wX_1 ad cA σ) (tb_ups in_Classes) rfl 5 (by decide) (tb_up q_1_33) rfl d_Classes_add_8 ?_
    refine J_bipush (v := 40) h d_Classes_add_11 (by decide) ?_
    refine J_icmp_lt (tgt := 19) h d_Classes_add_13 (by decide) ?_ ?_
    · refine J_aload_n (q := 0) h d_Classes_add_19 rfl rfl ?_
      refine J_getf h 1 (wX_1 ad cA σ) (tb_ups in_Classes) rfl 0 (by decide) (tb_up q_1_28) rfl d_Classes_add_20 ?_
      refine J_aload_n (q := 0) h d_Classes_add_23 rfl rfl ?_
      refine J_getf h 1 (wX_1 ad cA σ) (tb_ups in_Classes) rfl 5 (by decide) (tb_up q_1_33) rfl d_Classes_add_24 ?_
      refine J_iload_n (q := 1) h d_Classes_add_27 rfl rfl ?_
      refine J_iast h 2 0 (wX_2 ad cA σ) rfl (uX_2 ad cA σ _) d_Classes_add_28 (fun σ1 => ?_)
      refine J_aload_n (q := 0) h d_Classes_add_29 rfl rfl ?_
      refine J_getf h 1 (wX_1 ad cA σ1) (tb_ups in_Classes) rfl 4 (by decide) (tb_up q_1_32) rfl d_Classes_add_30 ?_
      refine J_aload_n (q := 0) h d_Classes_add_33 rfl rfl ?_
      refine J_getf h 1 (wX_1 ad cA σ1) (tb_ups in_Classes) rfl 5 (by decide) (tb_up q_1_33) rfl d_Classes_add_34 ?_
      refine J_lconst (v := 1) h d_Classes_add_37 (by decide) ?_
      refine J_aload_n (q := 0) h d_Classes_add_38 rfl rfl ?_
      refine J_getf h 1 (wX_1 ad cA σ1) (tb_ups in_Classes) rfl 5 (by decide) (tb_up q_1_33) rfl d_Classes_add_39 ?_
      refine J_lshl h d_Classes_add_42 ?_
      refine J_last h 6 4 (wX_6 ad cA σ1) rfl (uX_6 ad cA σ1 _) d_Classes_add_43 (fun σ2 => ?_)
      refine J_aload_n (q := 0) h d_Classes_add_44 rfl rfl ?_
      refine J_dup h d_Classes_add_45 rfl ?_
      refine J_getf h 1 (wX_1 ad cA σ2) (tb_ups in_Classes) rfl 5 (by decide) (tb_up q_1_33) rfl d_Classes_add_46 ?_
      refine J_iconst (v := 1) h d_Classes_add_49 (by decide) ?_
      refine J_iadd h d_Classes_add_50 ?_
      refine J_putf h 1 (wX_1 ad cA σ2) (tb_ups in_Classes) rfl ft_Classes ft_Classes_ok nm_Classes 5 (by decide) (tb_up q_1_33) rfl rfl rfl (Nat.le_of_ble_eq_true rfl) (pX_1_5 ad cA σ2 ((gX_Classes_size σ2) + 1)) d_Classes_add_51 (fun σ3 => ?_)
      refine J_aload_n (q := 0) h d_Classes_add_54 rfl rfl ?_
      refine J_getf h 1 (wX_1 ad cA σ3) (tb_ups in_Classes) rfl 5 (by decide) (tb_up q_1_33) rfl d_Classes_add_55 ?_
      refine J_iconst (v := 1) h d_Classes_add_58 (by decide) ?_
      refine J_isub h d_Classes_add_59 ?_
      exact J_iret h rfl d_Classes_add_60
    · refine J_bipush (v := (-3)) h d_Classes_add_16 (by decide) ?_
      exact J_iret h rfl d_Classes_add_18
set_option maxRecDepth 100000 in
theorem cX_Classes_add (l : Launch) (D : va_G) (ad : Nat → Nat) (cA : Nat → ClassId) (x1 : Int32) (σ : SX) (r : Int32) (σ' : SX) (hf : X_Classes_add x1 σ = some (r, σ')) : MetI l y_Classes_add ((Cond.code y_Classes_add b_Classes_add 2 (some .int)) :: tblG) rX_Classes_add D clX (tysX cA) (wX ad cA) [.ref (ad 1), .int x1] σ r σ' :=
  jx_metI (by decide) rfl (Nat.le_of_ble_eq_true rfl) (fun K A h => J_X_Classes_add K D A ad cA h x1 σ) hf
def rX_Classes_parametersOf : Room := { frames := 1, cells := 0, slots := 0, locals := 21 }
theorem rm_ok_X_Classes_parametersOf : rX_Classes_parametersOf.cells = 0 ∧ rX_Classes_parametersOf.slots = 0 := ⟨rfl, rfl⟩
def X_Classes_parametersOf (x1 : Int32) (σ : SX) : Option (Int32 × SX) := (bd (X_Classes_has x1 σ) (fun (r1 : Int32) (σ2 : SX) => (if r1 = 0 then (some (0, σ2)) else (if ck x1 40 = true then (some ((aX_Classes_parameters σ2 x1.toNatClampNeg), σ2)) else none))))
set_option maxRecDepth 100000 in
set_option maxHeartbeats 4000000 in
theorem J_X_Classes_parametersOf (K : jx_E) (D : va_G) (A : Nat → Prop) (ad : Nat → Nat) (cA : Nat → ClassId) (h : jx_ok K D clX (tysX cA) A 2 b_Classes_parametersOf y_Classes_parametersOf.cls ((Cond.code y_Classes_parametersOf b_Classes_parametersOf 2 (some .int)) :: tblG) rX_Classes_parametersOf (some .int)) : ∀ (x1 : Int32) (σ : SX), J K D clX A 2 (wX ad cA) (jx_Qi K D clX (tysX cA) (wX ad cA) A) 0 0 0 [(0, .ref (ad 1)), (1, .int x1)] [] σ (X_Classes_parametersOf x1 σ) := by
  intro x1 σ
  rw [X_Classes_parametersOf]
  refine J_aload_n (q := 0) h d_Classes_parametersOf_0 rfl rfl ?_
  refine J_iload_n (q := 1) h d_Classes_parametersOf_1 rfl rfl ?_
  refine J_callVi (As := [.int x1]) (st := []) (rmc := rX_Classes_has) (q0 := 1) h (fun _ _ hf => cX_Classes_has (jl K) D ad cA x1 σ _ _ hf) (gd_V q_2_142 q_2_119 q_2_120 q_1_2 q_2_121) rfl ⟨rfl, rfl⟩ dd_Classes_has ⟨Nat.le_of_ble_eq_true rfl, Nat.le_of_ble_eq_true rfl⟩ rfl rfl (wX_1 ad cA σ) rfl rfl (Nat.le_of_ble_eq_true rfl) ⟨Nat.zero_le _, Nat.zero_le _⟩ d_Classes_parametersOf_2 (fun r1 σ2 => ?_)
  refine J_if_eq (tgt := 17) h d_Classes_parametersOf_5 (by decide) ?_ ?_
  · refine J_iconst (v := 0) h d_Classes_parametersOf_17 (by decide) ?_
    exact J_iret h rfl d_Classes_parametersOf_18
  · refine J_aload_n (q := 0) h d_Classes_parametersOf_8 rfl rfl ?_
    refine J_getf h 1 (wX_1 ad cA σ2) (tb_ups in_Classes) rfl 0 (by decide) (tb_up q_1_28) rfl d_Classes_parametersOf_9 ?_
    refine J_iload_n (q := 1) h d_Classes_parametersOf_12 rfl rfl ?_
    refine J_iald h 2 0 (wX_2 ad cA σ2) rfl d_Classes_parametersOf_13 ?_
    refine J_goto (tgt := 18) h d_Classes_parametersOf_14 (by decide) ?_
    exact J_iret h rfl d_Classes_parametersOf_18
set_option maxRecDepth 100000 in
theorem cX_Classes_parametersOf (l : Launch) (D : va_G) (ad : Nat → Nat) (cA : Nat → ClassId) (x1 : Int32) (σ : SX) (r : Int32) (σ' : SX) (hf : X_Classes_parametersOf x1 σ = some (r, σ')) : MetI l y_Classes_parametersOf ((Cond.code y_Classes_parametersOf b_Classes_parametersOf 2 (some .int)) :: tblG) rX_Classes_parametersOf D clX (tysX cA) (wX ad cA) [.ref (ad 1), .int x1] σ r σ' :=
  jx_metI (by decide) rfl (Nat.le_of_ble_eq_true rfl) (fun K A h => J_X_Classes_parametersOf K D A ad cA h x1 σ) hf
def rX_Classes_renewReach : Room := { frames := 1, cells := 0, slots := 0, locals := 21 }
theorem rm_ok_X_Classes_renewReach : rX_Classes_renewReach.cells = 0 ∧ rX_Classes_renewReach.slots = 0 := ⟨rfl, rfl⟩
def X_Classes_renewReach_b67 (N : Nat) (k18 : Int32 → Int64 → Int32 → SX → Option (Unit × SX)) (v1 : Int32) (v2 : Int64) (v4 : Int32) (σ : SX) : Option (Unit × SX) := (nm (v4 + 1) (fun (y5 : Int32) => (k18 v1 v2 y5 σ)))
set_option maxRecDepth 100000 in
set_option maxHeartbeats 4000000 in
theorem J_X_Classes_renewReach_b67 (K : jx_E) (D : va_G) (A : Nat → Prop) (ad : Nat → Nat) (cA : Nat → ClassId) (N : Nat) (h : jx_ok K D clX (tysX cA) A 6 b_Classes_renewReach y_Classes_renewReach.cls ((Cond.code y_Classes_renewReach b_Classes_renewReach 6 none) :: tblG) rX_Classes_renewReach none) (k18 : Int32 → Int64 → Int32 → SX → Option (Unit × SX)) (hk18 : ∀ (v1 : Int32) (v2 : Int64) (v4 : Int32) (σ : SX), J K D clX A 6 (wX ad cA) (jx_Qv K D clX (tysX cA) (wX ad cA) A) 0 0 18 [(0, .ref (ad 1)), (1, .int v1), (2, .long v2), (4, .int v4)] [] σ (k18 v1 v2 v4 σ)) : ∀ (v1 : Int32) (v2 : Int64) (v4 : Int32) (σ : SX), J K D clX A 6 (wX ad cA) (jx_Qv K D clX (tysX cA) (wX ad cA) A) 0 0 67 [(0, .ref (ad 1)), (1, .int v1), (2, .long v2), (4, .int v4)] [] σ (X_Classes_renewReach_b67 N k18 v1 v2 v4 σ) := by
  intro v1 v2 v4 σ
  rw [X_Classes_renewReach_b67]
  refine J_iinc (q := 3) (c := 1) (lv' := fun y5 => [(4, .int y5), (0, .ref (ad 1)), (1, .int v1), (2, .long v2)]) h d_Classes_renewReach_67 rfl (by decide) (by decide) (fun _ => rfl) (fun y5 => ?_)
  refine J_goto (tgt := 18) h d_Classes_renewReach_70 (by decide) ?_
  refine J_sub [1, 2, 3, 0] rfl ?_
  exact hk18 v1 v2 y5 σ
def X_Classes_renewReach_L18 (N : Nat) (k73 : Int32 → Int64 → SX → Option (Unit × SX)) : Nat → Int32 → Int64 → Int32 → SX → Option (Unit × SX)
  | 0, _, _, _, _ => none
  | n + 1, v1, v2, v4, σ => (if ck v1 40 = true then (if (aX_Classes_parentCount σ v1.toNatClampNeg) ≤ v4 then (k73 v1 v2 σ) else (if (3 : Int32) ≤ v4 then (k73 v1 v2 σ) else (if ck ((v1 * 3) + v4) 120 = true then (nm ((aX_Classes_parentClass σ ((v1 * 3) + v4).toNatClampNeg)) (fun (y2 : Int32) => (bd (X_Classes_has y2 σ) (fun (r3 : Int32) (σ4 : SX) => (if r3 = 0 then (X_Classes_renewReach_b67 N (X_Classes_renewReach_L18 N k73 n) v1 v2 v4 σ4) else (if ck y2 40 = true then (nm ((v2 ||| (aX_Classes_reach σ4 y2.toNatClampNeg))) (fun (y6 : Int64) => (X_Classes_renewReach_b67 N (X_Classes_renewReach_L18 N k73 n) v1 y6 v4 σ4))) else none)))))) else none))) else none)
set_option maxRecDepth 100000 in
set_option maxHeartbeats 4000000 in
theorem J_X_Classes_renewReach_L18 (K : jx_E) (D : va_G) (A : Nat → Prop) (ad : Nat → Nat) (cA : Nat → ClassId) (N : Nat) (h : jx_ok K D clX (tysX cA) A 6 b_Classes_renewReach y_Classes_renewReach.cls ((Cond.code y_Classes_renewReach b_Classes_renewReach 6 none) :: tblG) rX_Classes_renewReach none) (k73 : Int32 → Int64 → SX → Option (Unit × SX)) (hk73 : ∀ (v1 : Int32) (v2 : Int64) (σ : SX), J K D clX A 6 (wX ad cA) (jx_Qv K D clX (tysX cA) (wX ad cA) A) 0 0 73 [(0, .ref (ad 1)), (1, .int v1), (2, .long v2)] [] σ (k73 v1 v2 σ)) : ∀ (n : Nat) (v1 : Int32) (v2 : Int64) (v4 : Int32) (σ : SX), J K D clX A 6 (wX ad cA) (jx_Qv K D clX (tysX cA) (wX ad cA) A) 0 0 18 [(0, .ref (ad 1)), (1, .int v1), (2, .long v2), (4, .int v4)] [] σ (X_Classes_renewReach_L18 N k73 n v1 v2 v4 σ) := by
  intro n
  induction n with
  | zero => intro v1 v2 v4 σ; exact J_none
  | succ n ih =>
    intro v1 v2 v4 σ
    rw [X_Classes_renewReach_L18]
    refine J_iload (q := 3) h d_Classes_renewReach_18 rfl ?_
    refine J_aload_n (q := 0) h d_Classes_renewReach_20 rfl rfl ?_
    refine J_getf h 1 (wX_1 ad cA σ) (tb_ups in_Classes) rfl 1 (by decide) (tb_up q_1_29) rfl d_Classes_renewReach_21 ?_
    refine J_iload_n (q := 1) h d_Classes_renewReach_24 rfl rfl ?_
    refine J_iald h 3 1 (wX_3 ad cA σ) rfl d_Classes_renewReach_25 ?_
    refine J_icmp_ge (tgt := 73) h d_Classes_renewReach_26 (by decide) ?_ ?_
    · refine J_sub [0, 1, 2] rfl ?_
      exact hk73 v1 v2 σ
    · refine J_iload (q := 3) h d_Classes_renewReach_29 rfl ?_
      refine J_iconst (v := 3) h d_Classes_renewReach_31 (by decide) ?_
      refine J_icmp_ge (tgt := 73) h d_Classes_renewReach_32 (by decide) ?_ ?_
      · refine J_sub [0, 1, 2] rfl ?_
        exact hk73 v1 v2 σ
      · refine J_aload_n (q := 0) h d_Classes_renewReach_35 rfl rfl ?_
        refine J_getf h 1 (wX_1 ad cA σ) (tb_ups in_Classes) rfl 3 (by decide) (tb_up q_1_31) rfl d_Classes_renewReach_36 ?_
        refine J_iload_n (q := 1) h d_Classes_renewReach_39 rfl rfl ?_
        refine J_iconst (v := 3) h d_Classes_renewReach_40 (by decide) ?_
        refine J_imul h d_Classes_renewReach_41 ?_
        refine J_iload (q := 3) h d_Classes_renewReach_42 rfl ?_
        refine J_iadd h d_Classes_renewReach_44 ?_
        refine J_iald h 5 3 (wX_5 ad cA σ) rfl d_Classes_renewReach_45 ?_
        refine J_nmi (fun y2 => ?_)
        refine J_istore (lv' := [(5, .int y2), (0, .ref (ad 1)), (1, .int v1), (2, .long v2), (4, .int v4)]) h d_Classes_renewReach_46 (by decide) rfl ?_
        refine J_aload_n (q := 1) h d_Classes_renewReach_48 rfl rfl ?_
        refine J_iload (q := 0) h d_Classes_renewReach_49 rfl ?_
        refine J_callVi (As := [.int y2]) (st := []) (rmc := rX_Classes_has) (q0 := 1) h (fun _ _ hf => cX_Classes_has (jl K) D ad cA y2 σ _ _ hf) (gd_V q_2_142 q_2_119 q_2_120 q_1_2 q_2_121) rfl ⟨rfl, rfl⟩ dd_Classes_has ⟨Nat.le_of_ble_eq_true rfl, Nat.le_of_ble_eq_true rfl⟩ rfl rfl (wX_1 ad cA σ) rfl rfl (Nat.le_of_ble_eq_true rfl) ⟨Nat.zero_le _, Nat.zero_le _⟩ d_Classes_renewReach_51 (fun r3 σ4 => ?_)
        refine J_if_eq (tgt := 67) h d_Classes_renewReach_54 (by decide) ?_ ?_
        · refine J_sub [1, 2, 3, 4] rfl ?_
          exact J_X_Classes_renewReach_b67 K D A ad cA N h (X_Classes_renewReach_L18 N k73 n) ih v1 v2 v4 σ4
        · refine J_lload_n (q := 3) h d_Classes_renewReach_57 rfl rfl ?_
          refine J_aload_n (q := 1) h d_Classes_renewReach_58 rfl rfl ?_
          refine J_getf h 1 (wX_1 ad cA σ4) (tb_ups in_Classes) rfl 4 (by decide) (tb_up q_1_32) rfl d_Classes_renewReach_59 ?_
          refine J_iload (q := 0) h d_Classes_renewReach_62 rfl ?_
          refine J_lald h 6 4 (wX_6 ad cA σ4) rfl d_Classes_renewReach_64 ?_
          refine J_lor h d_Classes_renewReach_65 ?_
          refine J_nml (fun y6 => ?_)
          refine J_lstore_n (lv' := [(2, .long y6), (5, .int y2), (0, .ref (ad 1)), (1, .int v1), (4, .int v4)]) h d_Classes_renewReach_66 rfl (by decide) rfl ?_
          refine J_sub [2, 3, 0, 4] rfl ?_
          exact J_X_Classes_renewReach_b67 K D A ad cA N h (X_Classes_renewReach_L18 N k73 n) ih v1 y6 v4 σ4
def X_Classes_renewReach_b73 (N : Nat) (k3 : Int32 → SX → Option (Unit × SX)) (v1 : Int32) (v2 : Int64) (σ : SX) : Option (Unit × SX) := (if ck v1 40 = true then (nm (tX_Classes_reach σ (vp_updL (aX_Classes_reach σ) v1.toNatClampNeg v2)) (fun (σ7 : SX) => (nm (v1 + 1) (fun (y8 : Int32) => (k3 y8 σ7))))) else none)
set_option maxRecDepth 100000 in
set_option maxHeartbeats 4000000 in
theorem J_X_Classes_renewReach_b73 (K : jx_E) (D : va_G) (A : Nat → Prop) (ad : Nat → Nat) (cA : Nat → ClassId) (N : Nat) (h : jx_ok K D clX (tysX cA) A 6 b_Classes_renewReach y_Classes_renewReach.cls ((Cond.code y_Classes_renewReach b_Classes_renewReach 6 none) :: tblG) rX_Classes_renewReach none) (k3 : Int32 → SX → Option (Unit × SX)) (hk3 : ∀ (v1 : Int32) (σ : SX), J K D clX A 6 (wX ad cA) (jx_Qv K D clX (tysX cA) (wX ad cA) A) 0 0 3 [(0, .ref (ad 1)), (1, .int v1)] [] σ (k3 v1 σ)) : ∀ (v1 : Int32) (v2 : Int64) (σ : SX), J K D clX A 6 (wX ad cA) (jx_Qv K D clX (tysX cA) (wX ad cA) A) 0 0 73 [(0, .ref (ad 1)), (1, .int v1), (2, .long v2)] [] σ (X_Classes_renewReach_b73 N k3 v1 v2 σ) := by
  intro v1 v2 σ
  rw [X_Classes_renewReach_b73]
  refine J_aload_n (q := 0) h d_Classes_renewReach_73 rfl rfl ?_
  refine J_getf h 1 (wX_1 ad cA σ) (tb_ups in_Classes) rfl 4 (by decide) (tb_up q_1_32) rfl d_Classes_renewReach_74 ?_
  refine J_iload_n (q := 1) h d_Classes_renewReach_77 rfl rfl ?_
  refine J_lload_n (q := 2) h d_Classes_renewReach_78 rfl rfl ?_
  refine J_last h 6 4 (wX_6 ad cA σ) rfl (uX_6 ad cA σ _) d_Classes_renewReach_79 (fun σ7 => ?_)
  refine J_iinc (q := 1) (c := 1) (lv' := fun y8 => [(1, .int y8), (0, .ref (ad 1)), (2, .long v2)]) h d_Classes_renewReach_80 rfl (by decide) (by decide) (fun _ => rfl) (fun y8 => ?_)
  refine J_goto (tgt := 3) h d_Classes_renewReach_83 (by decide) ?_
  refine J_sub [1, 0] rfl ?_
  exact hk3 y8 σ7
def X_Classes_renewReach_L3 (N : Nat) : Nat → Int32 → SX → Option (Unit × SX)
  | 0, _, _ => none
  | n + 1, v1, σ => (if (gX_Classes_size σ) ≤ v1 then (some ((), σ)) else (nm (((1 : Int64) <<< (v1.toInt64 &&& 63))) (fun (y1 : Int64) => (X_Classes_renewReach_L18 N (X_Classes_renewReach_b73 N (X_Classes_renewReach_L3 N  n)) N v1 y1 0 σ))))
set_option maxRecDepth 100000 in
set_option maxHeartbeats 4000000 in
theorem J_X_Classes_renewReach_L3 (K : jx_E) (D : va_G) (A : Nat → Prop) (ad : Nat → Nat) (cA : Nat → ClassId) (N : Nat) (h : jx_ok K D clX (tysX cA) A 6 b_Classes_renewReach y_Classes_renewReach.cls ((Cond.code y_Classes_renewReach b_Classes_renewReach 6 none) :: tblG) rX_Classes_renewReach none) : ∀ (n : Nat) (v1 : Int32) (σ : SX), J K D clX A 6 (wX ad cA) (jx_Qv K D clX (tysX cA) (wX ad cA) A) 0 0 3 [(0, .ref (ad 1)), (1, .int v1)] [] σ (X_Classes_renewReach_L3 N n v1 σ) := by
  intro n
  induction n with
  | zero => intro v1 σ; exact J_none
  | succ n ih =>
    intro v1 σ
    rw [X_Classes_renewReach_L3]
    refine J_iload_n (q := 1) h d_Classes_renewReach_3 rfl rfl ?_
    refine J_aload_n (q := 0) h d_Classes_renewReach_4 rfl rfl ?_
    refine J_getf h 1 (wX_1 ad cA σ) (tb_ups in_Classes) rfl 5 (by decide) (tb_up q_1_33) rfl d_Classes_renewReach_5 ?_
    refine J_icmp_ge (tgt := 86) h d_Classes_renewReach_8 (by decide) ?_ ?_
    · exact J_vret h rfl d_Classes_renewReach_86
    · refine J_lconst (v := 1) h d_Classes_renewReach_11 (by decide) ?_
      refine J_iload_n (q := 1) h d_Classes_renewReach_12 rfl rfl ?_
      refine J_lshl h d_Classes_renewReach_13 ?_
      refine J_nml (fun y1 => ?_)
      refine J_lstore_n (lv' := [(2, .long y1), (0, .ref (ad 1)), (1, .int v1)]) h d_Classes_renewReach_14 rfl (by decide) rfl ?_
      refine J_iconst (v := 0) h d_Classes_renewReach_15 (by decide) ?_
      refine J_istore (lv' := [(4, .int 0), (2, .long y1), (0, .ref (ad 1)), (1, .int v1)]) h d_Classes_renewReach_16 (by decide) rfl ?_
      refine J_sub [2, 3, 1, 0] rfl ?_
      exact J_X_Classes_renewReach_L18 K D A ad cA N h (X_Classes_renewReach_b73 N (X_Classes_renewReach_L3 N  n)) (J_X_Classes_renewReach_b73 K D A ad cA N h (X_Classes_renewReach_L3 N  n) ih) N v1 y1 0 σ
def X_Classes_renewReach (N : Nat)  (σ : SX) : Option (Unit × SX) := (X_Classes_renewReach_L3 N N 9 σ)
set_option maxRecDepth 100000 in
set_option maxHeartbeats 4000000 in
theorem J_X_Classes_renewReach (K : jx_E) (D : va_G) (A : Nat → Prop) (ad : Nat → Nat) (cA : Nat → ClassId) (N : Nat) (h : jx_ok K D clX (tysX cA) A 6 b_Classes_renewReach y_Classes_renewReach.cls ((Cond.code y_Classes_renewReach b_Classes_renewReach 6 none) :: tblG) rX_Classes_renewReach none) : ∀  (σ : SX), J K D clX A 6 (wX ad cA) (jx_Qv K D clX (tysX cA) (wX ad cA) A) 0 0 0 [(0, .ref (ad 1))] [] σ (X_Classes_renewReach N  σ) := by
  intro  σ
  rw [X_Classes_renewReach]
  refine J_bipush (v := 9) h d_Classes_renewReach_0 (by decide) ?_
  refine J_istore_n (lv' := [(1, .int 9), (0, .ref (ad 1))]) h d_Classes_renewReach_2 rfl (by decide) rfl ?_
  refine J_sub [1, 0] rfl ?_
  exact J_X_Classes_renewReach_L3 K D A ad cA N h N 9 σ
set_option maxRecDepth 100000 in
theorem cX_Classes_renewReach (l : Launch) (D : va_G) (ad : Nat → Nat) (cA : Nat → ClassId) (N : Nat)  (σ : SX) (r : Unit) (σ' : SX) (hf : X_Classes_renewReach N  σ = some (r, σ')) : MetV l y_Classes_renewReach ((Cond.code y_Classes_renewReach b_Classes_renewReach 6 none) :: tblG) rX_Classes_renewReach D clX (tysX cA) (wX ad cA) [.ref (ad 1)] σ r σ' :=
  jx_metV (by decide) rfl (Nat.le_of_ble_eq_true rfl) (fun K A h => J_X_Classes_renewReach K D A ad cA N h  σ) hf
def rX_Classes_addParent : Room := { frames := 2, cells := 0, slots := 0, locals := 46 }
theorem rm_ok_X_Classes_addParent : rX_Classes_addParent.cells = 0 ∧ rX_Classes_addParent.slots = 0 := ⟨rfl, rfl⟩
def X_Classes_addParent (N : Nat) (x1 : Int32) (x2 : Int32) (x3 : Int32) (σ : SX) : Option (Int32 × SX) := (bd (X_Classes_has x1 σ) (fun (r1 : Int32) (σ2 : SX) => (if r1 = 0 then (some ((-2), σ2)) else (bd (X_Classes_has x3 σ2) (fun (r3 : Int32) (σ4 : SX) => (if r3 = 0 then (some ((-2), σ4)) else (if ck x1 40 = true then (nm ((aX_Classes_parentCount σ4 x1.toNatClampNeg)) (fun (y5 : Int32) => (if y5 < 0 then (some ((-3), σ4)) else (if y5 < 3 then (if ck ((x1 * 3) + y5) 120 = true then (nm (tX_Classes_parentType σ4 (upd (aX_Classes_parentType σ4) ((x1 * 3) + y5).toNatClampNeg x2)) (fun (σ6 : SX) => (if ck ((x1 * 3) + y5) 120 = true then (nm (tX_Classes_parentClass σ6 (upd (aX_Classes_parentClass σ6) ((x1 * 3) + y5).toNatClampNeg x3)) (fun (σ7 : SX) => (if ck x1 40 = true then (nm (tX_Classes_parentCount σ7 (upd (aX_Classes_parentCount σ7) x1.toNatClampNeg (y5 + 1))) (fun (σ8 : SX) => (bd (X_Classes_renewReach N σ8) (fun (r9 : Unit) (σ10 : SX) => (some ((y5 + 1), σ10)))))) else none))) else none))) else none) else (some ((-3), σ4)))))) else none)))))))
set_option maxRecDepth 100000 in
set_option maxHeartbeats 4000000 in
theorem J_X_Classes_addParent (K : jx_E) (D : va_G) (A : Nat → Prop) (ad : Nat → Nat) (cA : Nat → ClassId) (N : Nat) (h : jx_ok K D clX (tysX cA) A 5 b_Classes_addParent y_Classes_addParent.cls ((Cond.code y_Classes_addParent b_Classes_addParent 5 (some .int)) :: tblG) rX_Classes_addParent (some .int)) : ∀ (x1 : Int32) (x2 : Int32) (x3 : Int32) (σ : SX), J K D clX A 5 (wX ad cA) (jx_Qi K D clX (tysX cA) (wX ad cA) A) 0 0 0 [(0, .ref (ad 1)), (1, .int x1), (2, .int x2), (3, .int x3)] [] σ (X_Classes_addParent N x1 x2 x3 σ) := by
  intro x1 x2 x3 σ
  rw [X_Classes_addParent]
  refine J_aload_n (q := 0) h d_Classes_addParent_0 rfl rfl ?_
  refine J_iload_n (q := 1) h d_Classes_addParent_1 rfl rfl ?_
  refine J_callVi (As := [.int x1]) (st := []) (rmc := rX_Classes_has) (q0 := 1) h (fun _ _ hf => cX_Classes_has (jl K) D ad cA x1 σ _ _ hf) (gd_V q_2_142 q_2_119 q_2_120 q_1_2 q_2_121) rfl ⟨rfl, rfl⟩ dd_Classes_has ⟨Nat.le_of_ble_eq_true rfl, Nat.le_of_ble_eq_true rfl⟩ rfl rfl (wX_1 ad cA σ) rfl rfl (Nat.le_of_ble_eq_true rfl) ⟨Nat.zero_le _, Nat.zero_le _⟩ d_Classes_addParent_2 (fun r1 σ2 => ?_)
  refine J_if_eq (tgt := 16) h d_Classes_addParent_5 (by decide) ?_ ?_
  · refine J_bipush (v := (-2)) h d_Classes_addParent_16 (by decide) ?_
    exact J_iret h rfl d_Classes_addParent_18
  · refine J_aload_n (q := 0) h d_Classes_addParent_8 rfl rfl ?_
    refine J_iload_n (q := 3) h d_Classes_addParent_9 rfl rfl ?_
    refine J_callVi (As := [.int x3]) (st := []) (rmc := rX_Classes_has) (q0 := 1) h (fun _ _ hf => cX_Classes_has (jl K) D ad cA x3 σ2 _ _ hf) (gd_V q_2_142 q_2_119 q_2_120 q_1_2 q_2_121) rfl ⟨rfl, rfl⟩ dd_Classes_has ⟨Nat.le_of_ble_eq_true rfl, Nat.le_of_ble_eq_true rfl⟩ rfl rfl (wX_1 ad cA σ2) rfl rfl (Nat.le_of_ble_eq_true rfl) ⟨Nat.zero_le _, Nat.zero_le _⟩ d_Classes_addParent_10 (fun r3 σ4 => ?_)
    refine J_if_ne (tgt := 19) h d_Classes_addParent_13 (by decide) ?_ ?_
    · refine J_bipush (v := (-2)) h d_Classes_addParent_16 (by decide) ?_
      exact J_iret h rfl d_Classes_addParent_18
    · refine J_aload_n (q := 0) h d_Classes_addParent_19 rfl rfl ?_
      refine J_getf h 1 (wX_1 ad cA σ4) (tb_ups in_Classes) rfl 1 (by decide) (tb_up q_1_29) rfl d_Classes_addParent_20 ?_
      refine J_iload_n (q := 1) h d_Classes_addParent_23 rfl rfl ?_
      refine J_iald h 3 1 (wX_3 ad cA σ4) rfl d_Classes_addParent_24 ?_
      refine J_nmi (fun y5 => ?_)
      refine J_istore (lv' := [(4, .int y5), (0, .ref (ad 1)), (1, .int x1), (2, .int x2), (3, .int x3)]) h d_Classes_addParent_25 (by decide) rfl ?_
      refine J_iload (q := 0) h d_Classes_addParent_27 rfl ?_
      refine J_if_lt (tgt := 38) h d_Classes_addParent_29 (by decide) ?_ ?_
      · refine J_bipush (v := (-3)) h d_Classes_addParent_38 (by decide) ?_
        exact J_iret h rfl d_Classes_addParent_40
      · refine J_iload (q := 0) h d_Classes_addParent_32 rfl ?_
        refine J_iconst (v := 3) h d_Classes_addParent_34 (by decide) ?_
        refine J_icmp_lt (tgt := 41) h d_Classes_addParent_35 (by decide) ?_ ?_
        · refine J_aload_n (q := 1) h d_Classes_addParent_41 rfl rfl ?_
          refine J_getf h 1 (wX_1 ad cA σ4) (tb_ups in_Classes) rfl 2 (by decide) (tb_up q_1_30) rfl d_Classes_addParent_42 ?_
          refine J_iload_n (q := 2) h d_Classes_addParent_45 rfl rfl ?_
          refine J_iconst (v := 3) h d_Classes_addParent_46 (by decide) ?_
          refine J_imul h d_Classes_addParent_47 ?_
          refine J_iload (q := 0) h d_Classes_addParent_48 rfl ?_
          refine J_iadd h d_Classes_addParent_50 ?_
          refine J_iload_n (q := 3) h d_Classes_addParent_51 rfl rfl ?_
          refine J_iast h 4 2 (wX_4 ad cA σ4) rfl (uX_4 ad cA σ4 _) d_Classes_addParent_52 (fun σ6 => ?_)
          refine J_aload_n (q := 1) h d_Classes_addParent_53 rfl rfl ?_
          refine J_getf h 1 (wX_1 ad cA σ6) (tb_ups in_Classes) rfl 3 (by decide) (tb_up q_1_31) rfl d_Classes_addParent_54 ?_
          refine J_iload_n (q := 2) h d_Classes_addParent_57 rfl rfl ?_
          refine J_iconst (v := 3) h d_Classes_addParent_58 (by decide) ?_
          refine J_imul h d_Classes_addParent_59 ?_
          refine J_iload (q := 0) h d_Classes_addParent_60 rfl ?_
          refine J_iadd h d_Classes_addParent_62 ?_
          refine J_iload_n (q := 4) h d_Classes_addParent_63 rfl rfl ?_
          refine J_iast h 5 3 (wX_5 ad cA σ6) rfl (uX_5 ad cA σ6 _) d_Classes_addParent_64 (fun σ7 => ?_)
          refine J_aload_n (q := 1) h d_Classes_addParent_65 rfl rfl ?_
          refine J_getf h 1 (wX_1 ad cA σ7) (tb_ups in_Classes) rfl 1 (by decide) (tb_up q_1_29) rfl d_Classes_addParent_66 ?_
          refine J_iload_n (q := 2) h d_Classes_addParent_69 rfl rfl ?_
          refine J_iload (q := 0) h d_Classes_addParent_70 rfl ?_
          refine J_iconst (v := 1) h d_Classes_addParent_72 (by decide) ?_
          refine J_iadd h d_Classes_addParent_73 ?_
          refine J_iast h 3 1 (wX_3 ad cA σ7) rfl (uX_3 ad cA σ7 _) d_Classes_addParent_74 (fun σ8 => ?_)
          refine J_aload_n (q := 1) h d_Classes_addParent_75 rfl rfl ?_
          refine J_callVv (As := []) (st := []) (rmc := rX_Classes_renewReach) (q0 := 1) h (fun _ _ hf => cX_Classes_renewReach (jl K) D ad cA N  σ8 _ _ hf) (gd_V q_2_164 q_2_166 q_s_1 q_1_2 q_2_167) rfl ⟨rfl, rfl⟩ dd_Classes_renewReach ⟨Nat.le_of_ble_eq_true rfl, Nat.le_of_ble_eq_true rfl⟩ rfl rfl (wX_1 ad cA σ8) rfl rfl (Nat.le_of_ble_eq_true rfl) ⟨Nat.zero_le _, Nat.zero_le _⟩ d_Classes_addParent_76 (fun r9 σ10 => ?_)
          refine J_iload (q := 0) h d_Classes_addParent_79 rfl ?_
          refine J_iconst (v := 1) h d_Classes_addParent_81 (by decide) ?_
          refine J_iadd h d_Classes_addParent_82 ?_
          exact J_iret h rfl d_Classes_addParent_83
        · refine J_bipush (v := (-3)) h d_Classes_addParent_38 (by decide) ?_
          exact J_iret h rfl d_Classes_addParent_40
set_option maxRecDepth 100000 in
theorem cX_Classes_addParent (l : Launch) (D : va_G) (ad : Nat → Nat) (cA : Nat → ClassId) (N : Nat) (x1 : Int32) (x2 : Int32) (x3 : Int32) (σ : SX) (r : Int32) (σ' : SX) (hf : X_Classes_addParent N x1 x2 x3 σ = some (r, σ')) : MetI l y_Classes_addParent ((Cond.code y_Classes_addParent b_Classes_addParent 5 (some .int)) :: tblG) rX_Classes_addParent D clX (tysX cA) (wX ad cA) [.ref (ad 1), .int x1, .int x2, .int x3] σ r σ' :=
  jx_metI (by decide) rfl (Nat.le_of_ble_eq_true rfl) (fun K A h => J_X_Classes_addParent K D A ad cA N h x1 x2 x3 σ) hf
def rX_Classes_reaches : Room := { frames := 1, cells := 0, slots := 0, locals := 21 }
theorem rm_ok_X_Classes_reaches : rX_Classes_reaches.cells = 0 ∧ rX_Classes_reaches.slots = 0 := ⟨rfl, rfl⟩
def X_Classes_reaches (x1 : Int32) (x2 : Int32) (σ : SX) : Option (Int32 × SX) := (bd (X_Classes_has x1 σ) (fun (r1 : Int32) (σ2 : SX) => (if r1 = 0 then (some (0, σ2)) else (bd (X_Classes_has x2 σ2) (fun (r3 : Int32) (σ4 : SX) => (if r3 = 0 then (some (0, σ4)) else (if ck x1 40 = true then (if (lg_cmp (((aX_Classes_reach σ4 x1.toNatClampNeg) >>> (x2.toInt64 &&& 63)) &&& 1) 0) = 0 then (some (0, σ4)) else (some (1, σ4))) else none)))))))
set_option maxRecDepth 100000 in
set_option maxHeartbeats 4000000 in
theorem J_X_Classes_reaches (K : jx_E) (D : va_G) (A : Nat → Prop) (ad : Nat → Nat) (cA : Nat → ClassId) (h : jx_ok K D clX (tysX cA) A 3 b_Classes_reaches y_Classes_reaches.cls ((Cond.code y_Classes_reaches b_Classes_reaches 3 (some .boolean)) :: tblG) rX_Classes_reaches (some .boolean)) : ∀ (x1 : Int32) (x2 : Int32) (σ : SX), J K D clX A 3 (wX ad cA) (jx_Qi K D clX (tysX cA) (wX ad cA) A) 0 0 0 [(0, .ref (ad 1)), (1, .int x1), (2, .int x2)] [] σ (X_Classes_reaches x1 x2 σ) := by
  intro x1 x2 σ
  rw [X_Classes_reaches]
  refine J_aload_n (q := 0) h d_Classes_reaches_0 rfl rfl ?_
  refine J_iload_n (q := 1) h d_Classes_reaches_1 rfl rfl ?_
  refine J_callVi (As := [.int x1]) (st := []) (rmc := rX_Classes_has) (q0 := 1) h (fun _ _ hf => cX_Classes_has (jl K) D ad cA x1 σ _ _ hf) (gd_V q_2_142 q_2_119 q_2_120 q_1_2 q_2_121) rfl ⟨rfl, rfl⟩ dd_Classes_has ⟨Nat.le_of_ble_eq_true rfl, Nat.le_of_ble_eq_true rfl⟩ rfl rfl (wX_1 ad cA σ) rfl rfl (Nat.le_of_ble_eq_true rfl) ⟨Nat.zero_le _, Nat.zero_le _⟩ d_Classes_reaches_2 (fun r1 σ2 => ?_)
  refine J_if_eq (tgt := 35) h d_Classes_reaches_5 (by decide) ?_ ?_
  · refine J_iconst (v := 0) h d_Classes_reaches_35 (by decide) ?_
    exact J_zret h rfl (by decide) d_Classes_reaches_36
  · refine J_aload_n (q := 0) h d_Classes_reaches_8 rfl rfl ?_
    refine J_iload_n (q := 2) h d_Classes_reaches_9 rfl rfl ?_
    refine J_callVi (As := [.int x2]) (st := []) (rmc := rX_Classes_has) (q0 := 1) h (fun _ _ hf => cX_Classes_has (jl K) D ad cA x2 σ2 _ _ hf) (gd_V q_2_142 q_2_119 q_2_120 q_1_2 q_2_121) rfl ⟨rfl, rfl⟩ dd_Classes_has ⟨Nat.le_of_ble_eq_true rfl, Nat.le_of_ble_eq_true rfl⟩ rfl rfl (wX_1 ad cA σ2) rfl rfl (Nat.le_of_ble_eq_true rfl) ⟨Nat.zero_le _, Nat.zero_le _⟩ d_Classes_reaches_10 (fun r3 σ4 => ?_)
    refine J_if_eq (tgt := 35) h d_Classes_reaches_13 (by decide) ?_ ?_
    · refine J_iconst (v := 0) h d_Classes_reaches_35 (by decide) ?_
      exact J_zret h rfl (by decide) d_Classes_reaches_36
    · refine J_aload_n (q := 0) h d_Classes_reaches_16 rfl rfl ?_
      refine J_getf h 1 (wX_1 ad cA σ4) (tb_ups in_Classes) rfl 4 (by decide) (tb_up q_1_32) rfl d_Classes_reaches_17 ?_
      refine J_iload_n (q := 1) h d_Classes_reaches_20 rfl rfl ?_
      refine J_lald h 6 4 (wX_6 ad cA σ4) rfl d_Classes_reaches_21 ?_
      refine J_iload_n (q := 2) h d_Classes_reaches_22 rfl rfl ?_
      refine J_lshr h d_Classes_reaches_23 ?_
      refine J_lconst (v := 1) h d_Classes_reaches_24 (by decide) ?_
      refine J_land h d_Classes_reaches_25 ?_
      refine J_lconst (v := 0) h d_Classes_reaches_26 (by decide) ?_
      refine J_lcmp h d_Classes_reaches_27 ?_
      refine J_if_eq (tgt := 35) h d_Classes_reaches_28 (by decide) ?_ ?_
      · refine J_iconst (v := 0) h d_Classes_reaches_35 (by decide) ?_
        exact J_zret h rfl (by decide) d_Classes_reaches_36
      · refine J_iconst (v := 1) h d_Classes_reaches_31 (by decide) ?_
        refine J_goto (tgt := 36) h d_Classes_reaches_32 (by decide) ?_
        exact J_zret h rfl (by decide) d_Classes_reaches_36
set_option maxRecDepth 100000 in
theorem cX_Classes_reaches (l : Launch) (D : va_G) (ad : Nat → Nat) (cA : Nat → ClassId) (x1 : Int32) (x2 : Int32) (σ : SX) (r : Int32) (σ' : SX) (hf : X_Classes_reaches x1 x2 σ = some (r, σ')) : MetI l y_Classes_reaches ((Cond.code y_Classes_reaches b_Classes_reaches 3 (some .boolean)) :: tblG) rX_Classes_reaches D clX (tysX cA) (wX ad cA) [.ref (ad 1), .int x1, .int x2] σ r σ' :=
  jx_metI (by decide) rfl (Nat.le_of_ble_eq_true rfl) (fun K A h => J_X_Classes_reaches K D A ad cA h x1 x2 σ) hf
def rX_Classes_parentTowards : Room := { frames := 1, cells := 0, slots := 0, locals := 21 }
theorem rm_ok_X_Classes_parentTowards : rX_Classes_parentTowards.cells = 0 ∧ rX_Classes_parentTowards.slots = 0 := ⟨rfl, rfl⟩
def X_Classes_parentTowards_b75 (N : Nat) (k12 : Int32 → Int32 → Int32 → SX → Option (Int32 × SX)) (v1 : Int32) (v2 : Int32) (v3 : Int32) (σ : SX) : Option (Int32 × SX) := (nm (v3 + 1) (fun (y6 : Int32) => (k12 v1 v2 y6 σ)))
set_option maxRecDepth 100000 in
set_option maxHeartbeats 4000000 in
theorem J_X_Classes_parentTowards_b75 (K : jx_E) (D : va_G) (A : Nat → Prop) (ad : Nat → Nat) (cA : Nat → ClassId) (N : Nat) (h : jx_ok K D clX (tysX cA) A 5 b_Classes_parentTowards y_Classes_parentTowards.cls ((Cond.code y_Classes_parentTowards b_Classes_parentTowards 5 (some .int)) :: tblG) rX_Classes_parentTowards (some .int)) (k12 : Int32 → Int32 → Int32 → SX → Option (Int32 × SX)) (hk12 : ∀ (v1 : Int32) (v2 : Int32) (v3 : Int32) (σ : SX), J K D clX A 5 (wX ad cA) (jx_Qi K D clX (tysX cA) (wX ad cA) A) 0 0 12 [(0, .ref (ad 1)), (1, .int v1), (2, .int v2), (3, .int v3)] [] σ (k12 v1 v2 v3 σ)) : ∀ (v1 : Int32) (v2 : Int32) (v3 : Int32) (σ : SX), J K D clX A 5 (wX ad cA) (jx_Qi K D clX (tysX cA) (wX ad cA) A) 0 0 75 [(0, .ref (ad 1)), (1, .int v1), (2, .int v2), (3, .int v3)] [] σ (X_Classes_parentTowards_b75 N k12 v1 v2 v3 σ) := by
  intro v1 v2 v3 σ
  rw [X_Classes_parentTowards_b75]
  refine J_iinc (q := 3) (c := 1) (lv' := fun y6 => [(3, .int y6), (0, .ref (ad 1)), (1, .int v1), (2, .int v2)]) h d_Classes_parentTowards_75 rfl (by decide) (by decide) (fun _ => rfl) (fun y6 => ?_)
  refine J_goto (tgt := 12) h d_Classes_parentTowards_78 (by decide) ?_
  refine J_sub [1, 2, 3, 0] rfl ?_
  exact hk12 v1 v2 y6 σ
def X_Classes_parentTowards_L12 (N : Nat) (k64 : Int32 → Int32 → SX → Option (Int32 × SX)) : Nat → Int32 → Int32 → Int32 → SX → Option (Int32 × SX)
  | 0, _, _, _, _ => none
  | n + 1, v1, v2, v3, σ => (if ck v1 40 = true then (if (aX_Classes_parentCount σ v1.toNatClampNeg) ≤ v3 then (some ((-1), σ)) else (if (3 : Int32) ≤ v3 then (some ((-1), σ)) else (if ck ((v1 * 3) + v3) 120 = true then (nm ((aX_Classes_parentClass σ ((v1 * 3) + v3).toNatClampNeg)) (fun (y3 : Int32) => (bd (X_Classes_has y3 σ) (fun (r4 : Int32) (σ5 : SX) => (if r4 = 0 then (X_Classes_parentTowards_b75 N (X_Classes_parentTowards_L12 N k64 n) v1 v2 v3 σ5) else (if ck y3 40 = true then (if (lg_cmp (((aX_Classes_reach σ5 y3.toNatClampNeg) >>> (v2.toInt64 &&& 63)) &&& 1) 0) = 0 then (X_Classes_parentTowards_b75 N (X_Classes_parentTowards_L12 N k64 n) v1 v2 v3 σ5) else (k64 v1 v3 σ5)) else none)))))) else none))) else none)
set_option maxRecDepth 100000 in
set_option maxHeartbeats 4000000 in
theorem J_X_Classes_parentTowards_L12 (K : jx_E) (D : va_G) (A : Nat → Prop) (ad : Nat → Nat) (cA : Nat → ClassId) (N : Nat) (h : jx_ok K D clX (tysX cA) A 5 b_Classes_parentTowards y_Classes_parentTowards.cls ((Cond.code y_Classes_parentTowards b_Classes_parentTowards 5 (some .int)) :: tblG) rX_Classes_parentTowards (some .int)) (k64 : Int32 → Int32 → SX → Option (Int32 × SX)) (hk64 : ∀ (v1 : Int32) (v3 : Int32) (σ : SX), J K D clX A 5 (wX ad cA) (jx_Qi K D clX (tysX cA) (wX ad cA) A) 0 0 64 [(0, .ref (ad 1)), (1, .int v1), (3, .int v3)] [] σ (k64 v1 v3 σ)) : ∀ (n : Nat) (v1 : Int32) (v2 : Int32) (v3 : Int32) (σ : SX), J K D clX A 5 (wX ad cA) (jx_Qi K D clX (tysX cA) (wX ad cA) A) 0 0 12 [(0, .ref (ad 1)), (1, .int v1), (2, .int v2), (3, .int v3)] [] σ (X_Classes_parentTowards_L12 N k64 n v1 v2 v3 σ) := by
  intro n
  induction n with
  | zero => intro v1 v2 v3 σ; exact J_none
  | succ n ih =>
    intro v1 v2 v3 σ
    rw [X_Classes_parentTowards_L12]
    refine J_iload_n (q := 3) h d_Classes_parentTowards_12 rfl rfl ?_
    refine J_aload_n (q := 0) h d_Classes_parentTowards_13 rfl rfl ?_
    refine J_getf h 1 (wX_1 ad cA σ) (tb_ups in_Classes) rfl 1 (by decide) (tb_up q_1_29) rfl d_Classes_parentTowards_14 ?_
    refine J_iload_n (q := 1) h d_Classes_parentTowards_17 rfl rfl ?_
    refine J_iald h 3 1 (wX_3 ad cA σ) rfl d_Classes_parentTowards_18 ?_
    refine J_icmp_ge (tgt := 81) h d_Classes_parentTowards_19 (by decide) ?_ ?_
    · refine J_iconst (v := (-1)) h d_Classes_parentTowards_81 (by decide) ?_
      exact J_iret h rfl d_Classes_parentTowards_82
    · refine J_iload_n (q := 3) h d_Classes_parentTowards_22 rfl rfl ?_
      refine J_iconst (v := 3) h d_Classes_parentTowards_23 (by decide) ?_
      refine J_icmp_ge (tgt := 81) h d_Classes_parentTowards_24 (by decide) ?_ ?_
      · refine J_iconst (v := (-1)) h d_Classes_parentTowards_81 (by decide) ?_
        exact J_iret h rfl d_Classes_parentTowards_82
      · refine J_aload_n (q := 0) h d_Classes_parentTowards_27 rfl rfl ?_
        refine J_getf h 1 (wX_1 ad cA σ) (tb_ups in_Classes) rfl 3 (by decide) (tb_up q_1_31) rfl d_Classes_parentTowards_28 ?_
        refine J_iload_n (q := 1) h d_Classes_parentTowards_31 rfl rfl ?_
        refine J_iconst (v := 3) h d_Classes_parentTowards_32 (by decide) ?_
        refine J_imul h d_Classes_parentTowards_33 ?_
        refine J_iload_n (q := 3) h d_Classes_parentTowards_34 rfl rfl ?_
        refine J_iadd h d_Classes_parentTowards_35 ?_
        refine J_iald h 5 3 (wX_5 ad cA σ) rfl d_Classes_parentTowards_36 ?_
        refine J_nmi (fun y3 => ?_)
        refine J_istore (lv' := [(4, .int y3), (0, .ref (ad 1)), (1, .int v1), (2, .int v2), (3, .int v3)]) h d_Classes_parentTowards_37 (by decide) rfl ?_
        refine J_aload_n (q := 1) h d_Classes_parentTowards_39 rfl rfl ?_
        refine J_iload (q := 0) h d_Classes_parentTowards_40 rfl ?_
        refine J_callVi (As := [.int y3]) (st := []) (rmc := rX_Classes_has) (q0 := 1) h (fun _ _ hf => cX_Classes_has (jl K) D ad cA y3 σ _ _ hf) (gd_V q_2_142 q_2_119 q_2_120 q_1_2 q_2_121) rfl ⟨rfl, rfl⟩ dd_Classes_has ⟨Nat.le_of_ble_eq_true rfl, Nat.le_of_ble_eq_true rfl⟩ rfl rfl (wX_1 ad cA σ) rfl rfl (Nat.le_of_ble_eq_true rfl) ⟨Nat.zero_le _, Nat.zero_le _⟩ d_Classes_parentTowards_42 (fun r4 σ5 => ?_)
        refine J_if_eq (tgt := 75) h d_Classes_parentTowards_45 (by decide) ?_ ?_
        · refine J_sub [1, 2, 3, 4] rfl ?_
          exact J_X_Classes_parentTowards_b75 K D A ad cA N h (X_Classes_parentTowards_L12 N k64 n) ih v1 v2 v3 σ5
        · refine J_aload_n (q := 1) h d_Classes_parentTowards_48 rfl rfl ?_
          refine J_getf h 1 (wX_1 ad cA σ5) (tb_ups in_Classes) rfl 4 (by decide) (tb_up q_1_32) rfl d_Classes_parentTowards_49 ?_
          refine J_iload (q := 0) h d_Classes_parentTowards_52 rfl ?_
          refine J_lald h 6 4 (wX_6 ad cA σ5) rfl d_Classes_parentTowards_54 ?_
          refine J_iload_n (q := 3) h d_Classes_parentTowards_55 rfl rfl ?_
          refine J_lshr h d_Classes_parentTowards_56 ?_
          refine J_lconst (v := 1) h d_Classes_parentTowards_57 (by decide) ?_
          refine J_land h d_Classes_parentTowards_58 ?_
          refine J_lconst (v := 0) h d_Classes_parentTowards_59 (by decide) ?_
          refine J_lcmp h d_Classes_parentTowards_60 ?_
          refine J_if_eq (tgt := 75) h d_Classes_parentTowards_61 (by decide) ?_ ?_
          · refine J_sub [1, 2, 3, 4] rfl ?_
            exact J_X_Classes_parentTowards_b75 K D A ad cA N h (X_Classes_parentTowards_L12 N k64 n) ih v1 v2 v3 σ5
          · refine J_sub [1, 2, 4] rfl ?_
            exact hk64 v1 v3 σ5
def X_Classes_parentTowards_b64 (N : Nat) (v1 : Int32) (v3 : Int32) (σ : SX) : Option (Int32 × SX) := (if ck ((v1 * 3) + v3) 120 = true then (some ((aX_Classes_parentType σ ((v1 * 3) + v3).toNatClampNeg), σ)) else none)
set_option maxRecDepth 100000 in
set_option maxHeartbeats 4000000 in
theorem J_X_Classes_parentTowards_b64 (K : jx_E) (D : va_G) (A : Nat → Prop) (ad : Nat → Nat) (cA : Nat → ClassId) (N : Nat) (h : jx_ok K D clX (tysX cA) A 5 b_Classes_parentTowards y_Classes_parentTowards.cls ((Cond.code y_Classes_parentTowards b_Classes_parentTowards 5 (some .int)) :: tblG) rX_Classes_parentTowards (some .int)) : ∀ (v1 : Int32) (v3 : Int32) (σ : SX), J K D clX A 5 (wX ad cA) (jx_Qi K D clX (tysX cA) (wX ad cA) A) 0 0 64 [(0, .ref (ad 1)), (1, .int v1), (3, .int v3)] [] σ (X_Classes_parentTowards_b64 N v1 v3 σ) := by
  intro v1 v3 σ
  rw [X_Classes_parentTowards_b64]
  refine J_aload_n (q := 0) h d_Classes_parentTowards_64 rfl rfl ?_
  refine J_getf h 1 (wX_1 ad cA σ) (tb_ups in_Classes) rfl 2 (by decide) (tb_up q_1_30) rfl d_Classes_parentTowards_65 ?_
  refine J_iload_n (q := 1) h d_Classes_parentTowards_68 rfl rfl ?_
  refine J_iconst (v := 3) h d_Classes_parentTowards_69 (by decide) ?_
  refine J_imul h d_Classes_parentTowards_70 ?_
  refine J_iload_n (q := 2) h d_Classes_parentTowards_71 rfl rfl ?_
  refine J_iadd h d_Classes_parentTowards_72 ?_
  refine J_iald h 4 2 (wX_4 ad cA σ) rfl d_Classes_parentTowards_73 ?_
  exact J_iret h rfl d_Classes_parentTowards_74
def X_Classes_parentTowards (N : Nat) (x1 : Int32) (x2 : Int32) (σ : SX) : Option (Int32 × SX) := (bd (X_Classes_has x1 σ) (fun (r1 : Int32) (σ2 : SX) => (if r1 = 0 then (some ((-1), σ2)) else (X_Classes_parentTowards_L12 N (X_Classes_parentTowards_b64 N) N x1 x2 0 σ2))))
set_option maxRecDepth 100000 in
set_option maxHeartbeats 4000000 in
theorem J_X_Classes_parentTowards (K : jx_E) (D : va_G) (A : Nat → Prop) (ad : Nat → Nat) (cA : Nat → ClassId) (N : Nat) (h : jx_ok K D clX (tysX cA) A 5 b_Classes_parentTowards y_Classes_parentTowards.cls ((Cond.code y_Classes_parentTowards b_Classes_parentTowards 5 (some .int)) :: tblG) rX_Classes_parentTowards (some .int)) : ∀ (x1 : Int32) (x2 : Int32) (σ : SX), J K D clX A 5 (wX ad cA) (jx_Qi K D clX (tysX cA) (wX ad cA) A) 0 0 0 [(0, .ref (ad 1)), (1, .int x1), (2, .int x2)] [] σ (X_Classes_parentTowards N x1 x2 σ) := by
  intro x1 x2 σ
  rw [X_Classes_parentTowards]
  refine J_aload_n (q := 0) h d_Classes_parentTowards_0 rfl rfl ?_
  refine J_iload_n (q := 1) h d_Classes_parentTowards_1 rfl rfl ?_
  refine J_callVi (As := [.int x1]) (st := []) (rmc := rX_Classes_has) (q0 := 1) h (fun _ _ hf => cX_Classes_has (jl K) D ad cA x1 σ _ _ hf) (gd_V q_2_142 q_2_119 q_2_120 q_1_2 q_2_121) rfl ⟨rfl, rfl⟩ dd_Classes_has ⟨Nat.le_of_ble_eq_true rfl, Nat.le_of_ble_eq_true rfl⟩ rfl rfl (wX_1 ad cA σ) rfl rfl (Nat.le_of_ble_eq_true rfl) ⟨Nat.zero_le _, Nat.zero_le _⟩ d_Classes_parentTowards_2 (fun r1 σ2 => ?_)
  refine J_if_ne (tgt := 10) h d_Classes_parentTowards_5 (by decide) ?_ ?_
  · refine J_iconst (v := (-1)) h d_Classes_parentTowards_8 (by decide) ?_
    exact J_iret h rfl d_Classes_parentTowards_9
  · refine J_iconst (v := 0) h d_Classes_parentTowards_10 (by decide) ?_
    refine J_istore_n (lv' := [(3, .int 0), (0, .ref (ad 1)), (1, .int x1), (2, .int x2)]) h d_Classes_parentTowards_11 rfl (by decide) rfl ?_
    refine J_sub [1, 2, 3, 0] rfl ?_
    exact J_X_Classes_parentTowards_L12 K D A ad cA N h (X_Classes_parentTowards_b64 N) (J_X_Classes_parentTowards_b64 K D A ad cA N h) N x1 x2 0 σ2
set_option maxRecDepth 100000 in
theorem cX_Classes_parentTowards (l : Launch) (D : va_G) (ad : Nat → Nat) (cA : Nat → ClassId) (N : Nat) (x1 : Int32) (x2 : Int32) (σ : SX) (r : Int32) (σ' : SX) (hf : X_Classes_parentTowards N x1 x2 σ = some (r, σ')) : MetI l y_Classes_parentTowards ((Cond.code y_Classes_parentTowards b_Classes_parentTowards 5 (some .int)) :: tblG) rX_Classes_parentTowards D clX (tysX cA) (wX ad cA) [.ref (ad 1), .int x1, .int x2] σ r σ' :=
  jx_metI (by decide) rfl (Nat.le_of_ble_eq_true rfl) (fun K A h => J_X_Classes_parentTowards K D A ad cA N h x1 x2 σ) hf
def rX_Exchange_forVariables : Room := { frames := 0, cells := 0, slots := 0, locals := 0 }
theorem rm_ok_X_Exchange_forVariables : rX_Exchange_forVariables.cells = 0 ∧ rX_Exchange_forVariables.slots = 0 := ⟨rfl, rfl⟩
def X_Exchange_forVariables  (σ : SX) : Option (Unit × SX) := (nm (sX_Exchange_stamp σ ((gX_Exchange_stamp σ) + 1)) (fun (σ1 : SX) => (nm (sX_Exchange_variables σ1 0) (fun (σ2 : SX) => (nm (sX_Exchange_owner σ2 (-1)) (fun (σ3 : SX) => (some ((), σ3))))))))
set_option maxRecDepth 100000 in
set_option maxHeartbeats 4000000 in
theorem J_X_Exchange_forVariables (K : jx_E) (D : va_G) (A : Nat → Prop) (ad : Nat → Nat) (cA : Nat → ClassId) (h : jx_ok K D clX (tysX cA) A 1 b_Exchange_forVariables y_Exchange_forVariables.cls ((Cond.code y_Exchange_forVariables b_Exchange_forVariables 1 none) :: tblG) rX_Exchange_forVariables none) : ∀  (σ : SX), J K D clX A 1 (wX ad cA) (jx_Qv K D clX (tysX cA) (wX ad cA) A) 0 0 0 [(0, .ref (ad 25))] [] σ (X_Exchange_forVariables  σ) := by
  intro  σ
  rw [X_Exchange_forVariables]
  refine J_aload_n (q := 0) h d_Exchange_forVariables_0 rfl rfl ?_
  refine J_dup h d_Exchange_forVariables_1 rfl ?_
  refine J_getf h 25 (wX_25 ad cA σ) (tb_ups in_Exchange) rfl 4 (by decide) (tb_up q_1_134) rfl d_Exchange_forVariables_2 ?_
  refine J_iconst (v := 1) h d_Exchange_forVariables_5 (by decide) ?_
  refine J_iadd h d_Exchange_forVariables_6 ?_
  refine J_putf h 25 (wX_25 ad cA σ) (tb_ups in_Exchange) rfl ft_Exchange ft_Exchange_ok nm_Exchange 4 (by decide) (tb_up q_1_134) rfl rfl rfl (Nat.le_of_ble_eq_true rfl) (pX_25_4 ad cA σ ((gX_Exchange_stamp σ) + 1)) d_Exchange_forVariables_7 (fun σ1 => ?_)
  refine J_aload_n (q := 0) h d_Exchange_forVariables_10 rfl rfl ?_
  refine J_iconst (v := 0) h d_Exchange_forVariables_11 (by decide) ?_
  refine J_putf h 25 (wX_25 ad cA σ1) (tb_ups in_Exchange) rfl ft_Exchange ft_Exchange_ok nm_Exchange 5 (by decide) (tb_up q_1_135) rfl rfl rfl (Nat.le_of_ble_eq_true rfl) (pX_25_5 ad cA σ1 0) d_Exchange_forVariables_12 (fun σ2 => ?_)
  refine J_aload_n (q := 0) h d_Exchange_forVariables_15 rfl rfl ?_
  refine J_iconst (v := (-1)) h d_Exchange_forVariables_16 (by decide) ?_
  refine J_putf h 25 (wX_25 ad cA σ2) (tb_ups in_Exchange) rfl ft_Exchange ft_Exchange_ok nm_Exchange 6 (by decide) (tb_up q_1_136) rfl rfl rfl (Nat.le_of_ble_eq_true rfl) (pX_25_6 ad cA σ2 (-1)) d_Exchange_forVariables_17 (fun σ3 => ?_)
  exact J_vret h rfl d_Exchange_forVariables_20
set_option maxRecDepth 100000 in
theorem cX_Exchange_forVariables (l : Launch) (D : va_G) (ad : Nat → Nat) (cA : Nat → ClassId)  (σ : SX) (r : Unit) (σ' : SX) (hf : X_Exchange_forVariables  σ = some (r, σ')) : MetV l y_Exchange_forVariables ((Cond.code y_Exchange_forVariables b_Exchange_forVariables 1 none) :: tblG) rX_Exchange_forVariables D clX (tysX cA) (wX ad cA) [.ref (ad 25)] σ r σ' :=
  jx_metV (by decide) rfl (Nat.le_of_ble_eq_true rfl) (fun K A h => J_X_Exchange_forVariables K D A ad cA h  σ) hf
def rX_Exchange_setInstead : Room := { frames := 0, cells := 0, slots := 0, locals := 0 }
theorem rm_ok_X_Exchange_setInstead : rX_Exchange_setInstead.cells = 0 ∧ rX_Exchange_setInstead.slots = 0 := ⟨rfl, rfl⟩
def X_Exchange_setInstead (x1 : Int32) (x2 : Int32) (σ : SX) : Option (Unit × SX) := (if x1 < 0 then (some ((), σ)) else (if x1 < 12 then (if ck x1 12 = true then (nm (tX_Exchange_instead σ (upd (aX_Exchange_instead σ) x1.toNatClampNeg x2)) (fun (σ1 : SX) => (nm (sX_Exchange_variables σ1 ((gX_Exchange_variables σ1) ||| ((1 : Int32) <<< (x1 &&& 31)))) (fun (σ2 : SX) => (some ((), σ2)))))) else none) else (some ((), σ))))
set_option maxRecDepth 100000 in
set_option maxHeartbeats 4000000 in
theorem J_X_Exchange_setInstead (K : jx_E) (D : va_G) (A : Nat → Prop) (ad : Nat → Nat) (cA : Nat → ClassId) (h : jx_ok K D clX (tysX cA) A 3 b_Exchange_setInstead y_Exchange_setInstead.cls ((Cond.code y_Exchange_setInstead b_Exchange_setInstead 3 none) :: tblG) rX_Exchange_setInstead none) : ∀ (x1 : Int32) (x2 : Int32) (σ : SX), J K D clX A 3 (wX ad cA) (jx_Qv K D clX (tysX cA) (wX ad cA) A) 0 0 0 [(0, .ref (ad 25)), (1, .int x1), (2, .int x2)] [] σ (X_Exchange_setInstead x1 x2 σ) := by
  intro x1 x2 σ
  rw [X_Exchange_setInstead]
  refine J_iload_n (q := 1) h d_Exchange_setInstead_0 rfl rfl ?_
  refine J_if_lt (tgt := 10) h d_Exchange_setInstead_1 (by decide) ?_ ?_
  · exact J_vret h rfl d_Exchange_setInstead_10
  · refine J_iload_n (q := 1) h d_Exchange_setInstead_4 rfl rfl ?_
    refine J_bipush (v := 12) h d_Exchange_setInstead_5 (by decide) ?_
    refine J_icmp_lt (tgt := 11) h d_Exchange_setInstead_7 (by decide) ?_ ?_
    · refine J_aload_n (q := 0) h d_Exchange_setInstead_11 rfl rfl ?_
      refine J_getf h 25 (wX_25 ad cA σ) (tb_ups in_Exchange) rfl 1 (by decide) (tb_up q_1_131) rfl d_Exchange_setInstead_12 ?_
      refine J_iload_n (q := 1) h d_Exchange_setInstead_15 rfl rfl ?_
      refine J_iload_n (q := 2) h d_Exchange_setInstead_16 rfl rfl ?_
      refine J_iast h 26 21 (wX_26 ad cA σ) rfl (uX_26 ad cA σ _) d_Exchange_setInstead_17 (fun σ1 => ?_)
      refine J_aload_n (q := 0) h d_Exchange_setInstead_18 rfl rfl ?_
      refine J_dup h d_Exchange_setInstead_19 rfl ?_
      refine J_getf h 25 (wX_25 ad cA σ1) (tb_ups in_Exchange) rfl 5 (by decide) (tb_up q_1_135) rfl d_Exchange_setInstead_20 ?_
      refine J_iconst (v := 1) h d_Exchange_setInstead_23 (by decide) ?_
      refine J_iload_n (q := 1) h d_Exchange_setInstead_24 rfl rfl ?_
      refine J_ishl h d_Exchange_setInstead_25 ?_
      refine J_ior h d_Exchange_setInstead_26 ?_
      refine J_putf h 25 (wX_25 ad cA σ1) (tb_ups in_Exchange) rfl ft_Exchange ft_Exchange_ok nm_Exchange 5 (by decide) (tb_up q_1_135) rfl rfl rfl (Nat.le_of_ble_eq_true rfl) (pX_25_5 ad cA σ1 ((gX_Exchange_variables σ1) ||| ((1 : Int32) <<< (x1 &&& 31)))) d_Exchange_setInstead_27 (fun σ2 => ?_)
      exact J_vret h rfl d_Exchange_setInstead_30
    · exact J_vret h rfl d_Exchange_setInstead_10
set_option maxRecDepth 100000 in
theorem cX_Exchange_setInstead (l : Launch) (D : va_G) (ad : Nat → Nat) (cA : Nat → ClassId) (x1 : Int32) (x2 : Int32) (σ : SX) (r : Unit) (σ' : SX) (hf : X_Exchange_setInstead x1 x2 σ = some (r, σ')) : MetV l y_Exchange_setInstead ((Cond.code y_Exchange_setInstead b_Exchange_setInstead 3 none) :: tblG) rX_Exchange_setInstead D clX (tysX cA) (wX ad cA) [.ref (ad 25), .int x1, .int x2] σ r σ' :=
  jx_metV (by decide) rfl (Nat.le_of_ble_eq_true rfl) (fun K A h => J_X_Exchange_setInstead K D A ad cA h x1 x2 σ) hf
