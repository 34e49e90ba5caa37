def rX_Resolver_outermost : Room := { frames := 27, cells := 0, slots := 0, locals := 799 }
theorem rm_ok_X_Resolver_outermost : rX_Resolver_outermost.cells = 0 ∧ rX_Resolver_outermost.slots = 0 := ⟨rfl, rfl⟩
def X_Resolver_outermost_b102 (N : Nat) (k15 : Int32 → Int32 → Int32 → Int32 → SX → Option (Int32 × SX)) (v1 : Int32) (v2 : Int32) (v3 : Int32) (v4 : Int32) (σ : SX) : Option (Int32 × SX) := (nm (v4 + 1) (fun (y1 : Int32) => (k15 v1 v2 v3 y1 σ)))
set_option maxRecDepth 100000 in
set_option maxHeartbeats 4000000 in
theorem J_X_Resolver_outermost_b102 (K : jx_E) (D : va_G) (A : Nat → Prop) (ad : Nat → Nat) (cA : Nat → ClassId) (N : Nat) (h : jx_ok K D clX (tysX cA) A 5 b_Resolver_outermost y_Resolver_outermost.cls ((Cond.code y_Resolver_outermost b_Resolver_outermost 5 (some .int)) :: tblG) rX_Resolver_outermost (some .int)) (k15 : Int32 → Int32 → Int32 → Int32 → SX → Option (Int32 × SX)) (hk15 : ∀ (v1 : Int32) (v2 : Int32) (v3 : Int32) (v4 : Int32) (σ : SX), J K D clX A 5 (wX ad cA) (jx_Qi K D clX (tysX cA) (wX ad cA) A) 0 0 15 [(0, .ref (ad 36)), (1, .int v1), (2, .int v2), (3, .int v3), (4, .int v4)] [] σ (k15 v1 v2 v3 v4 σ)) : ∀ (v1 : Int32) (v2 : Int32) (v3 : Int32) (v4 : Int32) (σ : SX), J K D clX A 5 (wX ad cA) (jx_Qi K D clX (tysX cA) (wX ad cA) A) 0 0 102 [(0, .ref (ad 36)), (1, .int v1), (2, .int v2), (3, .int v3), (4, .int v4)] [] σ (X_Resolver_outermost_b102 N k15 v1 v2 v3 v4 σ) := by
  intro v1 v2 v3 v4 σ
  rw [X_Resolver_outermost_b102]
  refine J_iinc (q := 4) (c := 1) (lv' := fun y1 => [(4, .int y1), (0, .ref (ad 36)), (1, .int v1), (2, .int v2), (3, .int v3)]) h d_Resolver_outermost_102 rfl (by decide) (by decide) (fun _ => rfl) (fun y1 => ?_)
  refine J_goto (tgt := 15) h d_Resolver_outermost_105 (by decide) ?_
  refine J_sub [1, 2, 3, 4, 0] rfl ?_
  exact hk15 v1 v2 v3 y1 σ
def X_Resolver_outermost_b88 (N : Nat) (k15 : Int32 → Int32 → Int32 → Int32 → SX → Option (Int32 × SX)) (v1 : Int32) (v2 : Int32) (v4 : Int32) (s0 : Int32) (σ : SX) : Option (Int32 × SX) := (if s0 = 1 then (bd (X_Reducer_less N σ) (fun (r4 : Int32) (σ5 : SX) => (X_Resolver_outermost_b102 N k15 v1 v2 r4 v4 σ5))) else (X_Resolver_outermost_b102 N k15 v1 v2 s0 v4 σ))
set_option maxRecDepth 100000 in
set_option maxHeartbeats 4000000 in
theorem J_X_Resolver_outermost_b88 (K : jx_E) (D : va_G) (A : Nat → Prop) (ad : Nat → Nat) (cA : Nat → ClassId) (N : Nat) (h : jx_ok K D clX (tysX cA) A 5 b_Resolver_outermost y_Resolver_outermost.cls ((Cond.code y_Resolver_outermost b_Resolver_outermost 5 (some .int)) :: tblG) rX_Resolver_outermost (some .int)) (k15 : Int32 → Int32 → Int32 → Int32 → SX → Option (Int32 × SX)) (hk15 : ∀ (v1 : Int32) (v2 : Int32) (v3 : Int32) (v4 : Int32) (σ : SX), J K D clX A 5 (wX ad cA) (jx_Qi K D clX (tysX cA) (wX ad cA) A) 0 0 15 [(0, .ref (ad 36)), (1, .int v1), (2, .int v2), (3, .int v3), (4, .int v4)] [] σ (k15 v1 v2 v3 v4 σ)) : ∀ (v1 : Int32) (v2 : Int32) (v4 : Int32) (s0 : Int32) (σ : SX), J K D clX A 5 (wX ad cA) (jx_Qi K D clX (tysX cA) (wX ad cA) A) 0 0 88 [(0, .ref (ad 36)), (1, .int v1), (2, .int v2), (4, .int v4)] [.int s0] σ (X_Resolver_outermost_b88 N k15 v1 v2 v4 s0 σ) := by
  intro v1 v2 v4 s0 σ
  rw [X_Resolver_outermost_b88]
  refine J_istore_n (lv' := [(3, .int s0), (0, .ref (ad 36)), (1, .int v1), (2, .int v2), (4, .int v4)]) h d_Resolver_outermost_88 rfl (by decide) rfl ?_
  refine J_iload_n (q := 0) h d_Resolver_outermost_89 rfl rfl ?_
  refine J_iconst (v := 1) h d_Resolver_outermost_90 (by decide) ?_
  refine J_icmp_ne (tgt := 102) h d_Resolver_outermost_91 (by decide) ?_ ?_
  · refine J_aload_n (q := 1) h d_Resolver_outermost_94 rfl rfl ?_
    refine J_getf h 36 (wX_36 ad cA σ) (tb_ups in_Resolver) rfl 3 (by decide) (tb_up q_2_26) rfl d_Resolver_outermost_95 ?_
    refine J_callVi (As := []) (st := []) (rmc := rX_Reducer_less) (q0 := 29) h (fun _ _ hf => cX_Reducer_less (jl K) D ad cA N  σ _ _ hf) (gd_V q_3_215 q_3_10 q_3_11 q_1_7 q_3_12) rfl ⟨rfl, rfl⟩ dd_Reducer_less ⟨Nat.le_of_ble_eq_true rfl, Nat.le_of_ble_eq_true rfl⟩ rfl rfl (wX_29 ad cA σ) rfl rfl (Nat.le_of_ble_eq_true rfl) ⟨Nat.zero_le _, Nat.zero_le _⟩ d_Resolver_outermost_98 (fun r4 σ5 => ?_)
    refine J_istore_n (lv' := [(3, .int r4), (0, .ref (ad 36)), (1, .int v1), (2, .int v2), (4, .int v4)]) h d_Resolver_outermost_101 rfl (by decide) rfl ?_
    refine J_sub [1, 2, 3, 0, 4] rfl ?_
    exact J_X_Resolver_outermost_b102 K D A ad cA N h k15 hk15 v1 v2 r4 v4 σ5
  · refine J_sub [1, 2, 3, 0, 4] rfl ?_
    exact J_X_Resolver_outermost_b102 K D A ad cA N h k15 hk15 v1 v2 s0 v4 σ
def X_Resolver_outermost_L15 (N : Nat) (k108 : Int32 → Int32 → Int32 → SX → Option (Int32 × SX)) : Nat → Int32 → Int32 → Int32 → Int32 → SX → Option (Int32 × SX)
  | 0, _, _, _, _, _ => none
  | n + 1, v1, v2, v3, v4, σ => (if (gX_Resolver_nearSize σ) ≤ v4 then (k108 v1 v2 v3 σ) else (if v3 = 1 then (if v4 = v2 then (X_Resolver_outermost_b102 N (X_Resolver_outermost_L15 N k108 n) v1 v2 v3 v4 σ) else (if v1 = 2 then (if ck v4 200 = true then (if ck v2 200 = true then (bd (X_Reducer_ask 1 (aX_Resolver_near σ v4.toNatClampNeg) (aX_Resolver_near σ v2.toNatClampNeg) σ) (fun (r2 : Int32) (σ3 : SX) => (X_Resolver_outermost_b88 N (X_Resolver_outermost_L15 N k108 n) v1 v2 v4 r2 σ3))) else none) else none) else (if ck v2 200 = true then (if ck v4 200 = true then (bd (X_Reducer_ask 1 (aX_Resolver_near σ v2.toNatClampNeg) (aX_Resolver_near σ v4.toNatClampNeg) σ) (fun (r6 : Int32) (σ7 : SX) => (X_Resolver_outermost_b88 N (X_Resolver_outermost_L15 N k108 n) v1 v2 v4 r6 σ7))) else none) else none))) else (k108 v1 v2 v3 σ)))
set_option maxRecDepth 100000 in
set_option maxHeartbeats 4000000 in
theorem J_X_Resolver_outermost_L15 (K : jx_E) (D : va_G) (A : Nat → Prop) (ad : Nat → Nat) (cA : Nat → ClassId) (N : Nat) (h : jx_ok K D clX (tysX cA) A 5 b_Resolver_outermost y_Resolver_outermost.cls ((Cond.code y_Resolver_outermost b_Resolver_outermost 5 (some .int)) :: tblG) rX_Resolver_outermost (some .int)) (k108 : Int32 → Int32 → Int32 → SX → Option (Int32 × SX)) (hk108 : ∀ (v1 : Int32) (v2 : Int32) (v3 : Int32) (σ : SX), J K D clX A 5 (wX ad cA) (jx_Qi K D clX (tysX cA) (wX ad cA) A) 0 0 108 [(0, .ref (ad 36)), (1, .int v1), (2, .int v2), (3, .int v3)] [] σ (k108 v1 v2 v3 σ)) : ∀ (n : Nat) (v1 : Int32) (v2 : Int32) (v3 : Int32) (v4 : Int32) (σ : SX), J K D clX A 5 (wX ad cA) (jx_Qi K D clX (tysX cA) (wX ad cA) A) 0 0 15 [(0, .ref (ad 36)), (1, .int v1), (2, .int v2), (3, .int v3), (4, .int v4)] [] σ (X_Resolver_outermost_L15 N k108 n v1 v2 v3 v4 σ) := by
  intro n
  induction n with
  | zero => intro v1 v2 v3 v4 σ; exact J_none
  | succ n ih =>
    intro v1 v2 v3 v4 σ
    rw [X_Resolver_outermost_L15]
    refine J_iload (q := 4) h d_Resolver_outermost_15 rfl ?_
    refine J_aload_n (q := 0) h d_Resolver_outermost_17 rfl rfl ?_
    refine J_getf h 36 (wX_36 ad cA σ) (tb_ups in_Resolver) rfl 5 (by decide) (tb_up q_2_28) rfl d_Resolver_outermost_18 ?_
    refine J_icmp_ge (tgt := 108) h d_Resolver_outermost_21 (by decide) ?_ ?_
    · refine J_sub [0, 1, 2, 3] rfl ?_
      exact hk108 v1 v2 v3 σ
    · refine J_iload_n (q := 3) h d_Resolver_outermost_24 rfl rfl ?_
      refine J_iconst (v := 1) h d_Resolver_outermost_25 (by decide) ?_
      refine J_icmp_ne (tgt := 108) h d_Resolver_outermost_26 (by decide) ?_ ?_
      · refine J_iload (q := 4) h d_Resolver_outermost_29 rfl ?_
        refine J_iload_n (q := 2) h d_Resolver_outermost_31 rfl rfl ?_
        refine J_icmp_ne (tgt := 38) h d_Resolver_outermost_32 (by decide) ?_ ?_
        · refine J_goto (tgt := 102) h d_Resolver_outermost_35 (by decide) ?_
          exact J_X_Resolver_outermost_b102 K D A ad cA N h (X_Resolver_outermost_L15 N k108 n) ih v1 v2 v3 v4 σ
        · refine J_iload_n (q := 1) h d_Resolver_outermost_38 rfl rfl ?_
          refine J_iconst (v := 2) h d_Resolver_outermost_39 (by decide) ?_
          refine J_icmp_ne (tgt := 67) h d_Resolver_outermost_40 (by decide) ?_ ?_
          · refine J_aload_n (q := 0) h d_Resolver_outermost_43 rfl rfl ?_
            refine J_getf h 36 (wX_36 ad cA σ) (tb_ups in_Resolver) rfl 3 (by decide) (tb_up q_2_26) rfl d_Resolver_outermost_44 ?_
            refine J_iconst (v := 1) h d_Resolver_outermost_47 (by decide) ?_
            refine J_aload_n (q := 0) h d_Resolver_outermost_48 rfl rfl ?_
            refine J_getf h 36 (wX_36 ad cA σ) (tb_ups in_Resolver) rfl 4 (by decide) (tb_up q_2_27) rfl d_Resolver_outermost_49 ?_
            refine J_iload (q := 4) h d_Resolver_outermost_52 rfl ?_
            refine J_iald h 37 28 (wX_37 ad cA σ) rfl d_Resolver_outermost_54 ?_
            refine J_aload_n (q := 0) h d_Resolver_outermost_55 rfl rfl ?_
            refine J_getf h 36 (wX_36 ad cA σ) (tb_ups in_Resolver) rfl 4 (by decide) (tb_up q_2_27) rfl d_Resolver_outermost_56 ?_
            refine J_iload_n (q := 2) h d_Resolver_outermost_59 rfl rfl ?_
            refine J_iald h 37 28 (wX_37 ad cA σ) rfl d_Resolver_outermost_60 ?_
            refine J_callVi (As := [.int 1, .int (aX_Resolver_near σ v4.toNatClampNeg), .int (aX_Resolver_near σ v2.toNatClampNeg)]) (st := []) (rmc := rX_Reducer_ask) (q0 := 29) h (fun _ _ hf => cX_Reducer_ask (jl K) D ad cA 1 (aX_Resolver_near σ v4.toNatClampNeg) (aX_Resolver_near σ v2.toNatClampNeg) σ _ _ hf) (gd_V q_3_214 q_2_238 q_2_239 q_1_7 q_3_0) rfl ⟨rfl, rfl⟩ dd_Reducer_ask ⟨Nat.le_of_ble_eq_true rfl, Nat.le_of_ble_eq_true rfl⟩ rfl rfl (wX_29 ad cA σ) rfl rfl (Nat.le_of_ble_eq_true rfl) ⟨Nat.zero_le _, Nat.zero_le _⟩ d_Resolver_outermost_61 (fun r2 σ3 => ?_)
            refine J_goto (tgt := 88) h d_Resolver_outermost_64 (by decide) ?_
            refine J_sub [0, 1, 2, 4] rfl ?_
            exact J_X_Resolver_outermost_b88 K D A ad cA N h (X_Resolver_outermost_L15 N k108 n) ih v1 v2 v4 r2 σ3
          · refine J_aload_n (q := 0) h d_Resolver_outermost_67 rfl rfl ?_
            refine J_getf h 36 (wX_36 ad cA σ) (tb_ups in_Resolver) rfl 3 (by decide) (tb_up q_2_26) rfl d_Resolver_outermost_68 ?_
            refine J_iconst (v := 1) h d_Resolver_outermost_71 (by decide) ?_
            refine J_aload_n (q := 0) h d_Resolver_outermost_72 rfl rfl ?_
            refine J_getf h 36 (wX_36 ad cA σ) (tb_ups in_Resolver) rfl 4 (by decide) (tb_up q_2_27) rfl d_Resolver_outermost_73 ?_
            refine J_iload_n (q := 2) h d_Resolver_outermost_76 rfl rfl ?_
            refine J_iald h 37 28 (wX_37 ad cA σ) rfl d_Resolver_outermost_77 ?_
            refine J_aload_n (q := 0) h d_Resolver_outermost_78 rfl rfl ?_
            refine J_getf h 36 (wX_36 ad cA σ) (tb_ups in_Resolver) rfl 4 (by decide) (tb_up q_2_27) rfl d_Resolver_outermost_79 ?_
            refine J_iload (q := 4) h d_Resolver_outermost_82 rfl ?_
            refine J_iald h 37 28 (wX_37 ad cA σ) rfl d_Resolver_outermost_84 ?_
            refine J_callVi (As := [.int 1, .int (aX_Resolver_near σ v2.toNatClampNeg), .int (aX_Resolver_near σ v4.toNatClampNeg)]) (st := []) (rmc := rX_Reducer_ask) (q0 := 29) h (fun _ _ hf => cX_Reducer_ask (jl K) D ad cA 1 (aX_Resolver_near σ v2.toNatClampNeg) (aX_Resolver_near σ v4.toNatClampNeg) σ _ _ hf) (gd_V q_3_214 q_2_238 q_2_239 q_1_7 q_3_0) rfl ⟨rfl, rfl⟩ dd_Reducer_ask ⟨Nat.le_of_ble_eq_true rfl, Nat.le_of_ble_eq_true rfl⟩ rfl rfl (wX_29 ad cA σ) rfl rfl (Nat.le_of_ble_eq_true rfl) ⟨Nat.zero_le _, Nat.zero_le _⟩ d_Resolver_outermost_85 (fun r6 σ7 => ?_)
            refine J_sub [0, 1, 2, 4] rfl ?_
            exact J_X_Resolver_outermost_b88 K D A ad cA N h (X_Resolver_outermost_L15 N k108 n) ih v1 v2 v4 r6 σ7
      · refine J_sub [0, 1, 2, 3] rfl ?_
        exact hk108 v1 v2 v3 σ
def X_Resolver_outermost_b108 (N : Nat) (k2 : Int32 → Int32 → SX → Option (Int32 × SX)) (v1 : Int32) (v2 : Int32) (v3 : Int32) (σ : SX) : Option (Int32 × SX) := (if v3 = (-3) then (some ((-3), σ)) else (if v3 = 1 then (if ck v2 200 = true then (some ((aX_Resolver_near σ v2.toNatClampNeg), σ)) else none) else (nm (v2 + 1) (fun (y8 : Int32) => (k2 v1 y8 σ)))))
set_option maxRecDepth 100000 in
set_option maxHeartbeats 4000000 in
theorem J_X_Resolver_outermost_b108 (K : jx_E) (D : va_G) (A : Nat → Prop) (ad : Nat → Nat) (cA : Nat → ClassId) (N : Nat) (h : jx_ok K D clX (tysX cA) A 5 b_Resolver_outermost y_Resolver_outermost.cls ((Cond.code y_Resolver_outermost b_Resolver_outermost 5 (some .int)) :: tblG) rX_Resolver_outermost (some .int)) (k2 : Int32 → Int32 → SX → Option (Int32 × SX)) (hk2 : ∀ (v1 : Int32) (v2 : Int32) (σ : SX), J K D clX A 5 (wX ad cA) (jx_Qi K D clX (tysX cA) (wX ad cA) A) 0 0 2 [(0, .ref (ad 36)), (1, .int v1), (2, .int v2)] [] σ (k2 v1 v2 σ)) : ∀ (v1 : Int32) (v2 : Int32) (v3 : Int32) (σ : SX), J K D clX A 5 (wX ad cA) (jx_Qi K D clX (tysX cA) (wX ad cA) A) 0 0 108 [(0, .ref (ad 36)), (1, .int v1), (2, .int v2), (3, .int v3)] [] σ (X_Resolver_outermost_b108 N k2 v1 v2 v3 σ) := by
  intro v1 v2 v3 σ
  rw [X_Resolver_outermost_b108]
  refine J_iload_n (q := 3) h d_Resolver_outermost_108 rfl rfl ?_
  refine J_bipush (v := (-3)) h d_Resolver_outermost_109 (by decide) ?_
  refine J_icmp_ne (tgt := 117) h d_Resolver_outermost_111 (by decide) ?_ ?_
  · refine J_bipush (v := (-3)) h d_Resolver_outermost_114 (by decide) ?_
    exact J_iret h rfl d_Resolver_outermost_116
  · refine J_iload_n (q := 3) h d_Resolver_outermost_117 rfl rfl ?_
    refine J_iconst (v := 1) h d_Resolver_outermost_118 (by decide) ?_
    refine J_icmp_ne (tgt := 129) h d_Resolver_outermost_119 (by decide) ?_ ?_
    · refine J_aload_n (q := 0) h d_Resolver_outermost_122 rfl rfl ?_
      refine J_getf h 36 (wX_36 ad cA σ) (tb_ups in_Resolver) rfl 4 (by decide) (tb_up q_2_27) rfl d_Resolver_outermost_123 ?_
      refine J_iload_n (q := 2) h d_Resolver_outermost_126 rfl rfl ?_
      refine J_iald h 37 28 (wX_37 ad cA σ) rfl d_Resolver_outermost_127 ?_
      exact J_iret h rfl d_Resolver_outermost_128
    · refine J_iinc (q := 2) (c := 1) (lv' := fun y8 => [(2, .int y8), (0, .ref (ad 36)), (1, .int v1), (3, .int v3)]) h d_Resolver_outermost_129 rfl (by decide) (by decide) (fun _ => rfl) (fun y8 => ?_)
      refine J_goto (tgt := 2) h d_Resolver_outermost_132 (by decide) ?_
      refine J_sub [1, 2, 0] rfl ?_
      exact hk2 v1 y8 σ
def X_Resolver_outermost_L2 (N : Nat) : Nat → Int32 → Int32 → SX → Option (Int32 × SX)
  | 0, _, _, _ => none
  | n + 1, v1, v2, σ => (if (gX_Resolver_nearSize σ) ≤ v2 then (some ((-1), σ)) else (X_Resolver_outermost_L15 N (X_Resolver_outermost_b108 N (X_Resolver_outermost_L2 N  n)) N v1 v2 1 0 σ))
set_option maxRecDepth 100000 in
set_option maxHeartbeats 4000000 in
theorem J_X_Resolver_outermost_L2 (K : jx_E) (D : va_G) (A : Nat → Prop) (ad : Nat → Nat) (cA : Nat → ClassId) (N : Nat) (h : jx_ok K D clX (tysX cA) A 5 b_Resolver_outermost y_Resolver_outermost.cls ((Cond.code y_Resolver_outermost b_Resolver_outermost 5 (some .int)) :: tblG) rX_Resolver_outermost (some .int)) : ∀ (n : Nat) (v1 : Int32) (v2 : Int32) (σ : SX), J K D clX A 5 (wX ad cA) (jx_Qi K D clX (tysX cA) (wX ad cA) A) 0 0 2 [(0, .ref (ad 36)), (1, .int v1), (2, .int v2)] [] σ (X_Resolver_outermost_L2 N n v1 v2 σ) := by
  intro n
  induction n with
  | zero => intro v1 v2 σ; exact J_none
  | succ n ih =>
    intro v1 v2 σ
    rw [X_Resolver_outermost_L2]
    refine J_iload_n (q := 2) h d_Resolver_outermost_2 rfl rfl ?_
    refine J_aload_n (q := 0) h d_Resolver_outermost_3 rfl rfl ?_
    refine J_getf h 36 (wX_36 ad cA σ) (tb_ups in_Resolver) rfl 5 (by decide) (tb_up q_2_28) rfl d_Resolver_outermost_4 ?_
    refine J_icmp_ge (tgt := 135) h d_Resolver_outermost_7 (by decide) ?_ ?_
    · refine J_iconst (v := (-1)) h d_Resolver_outermost_135 (by decide) ?_
      exact J_iret h rfl d_Resolver_outermost_136
    · refine J_iconst (v := 1) h d_Resolver_outermost_10 (by decide) ?_
      refine J_istore_n (lv' := [(3, .int 1), (0, .ref (ad 36)), (1, .int v1), (2, .int v2)]) h d_Resolver_outermost_11 rfl (by decide) rfl ?_
      refine J_iconst (v := 0) h d_Resolver_outermost_12 (by decide) ?_
      refine J_istore (lv' := [(4, .int 0), (3, .int 1), (0, .ref (ad 36)), (1, .int v1), (2, .int v2)]) h d_Resolver_outermost_13 (by decide) rfl ?_
      refine J_sub [2, 3, 4, 1, 0] rfl ?_
      exact J_X_Resolver_outermost_L15 K D A ad cA N h (X_Resolver_outermost_b108 N (X_Resolver_outermost_L2 N  n)) (J_X_Resolver_outermost_b108 K D A ad cA N h (X_Resolver_outermost_L2 N  n) ih) N v1 v2 1 0 σ
def X_Resolver_outermost (N : Nat) (x1 : Int32) (σ : SX) : Option (Int32 × SX) := (X_Resolver_outermost_L2 N N x1 0 σ)
set_option maxRecDepth 100000 in
set_option maxHeartbeats 4000000 in
theorem J_X_Resolver_outermost (K : jx_E) (D : va_G) (A : Nat → Prop) (ad : Nat → Nat) (cA : Nat → ClassId) (N : Nat) (h : jx_ok K D clX (tysX cA) A 5 b_Resolver_outermost y_Resolver_outermost.cls ((Cond.code y_Resolver_outermost b_Resolver_outermost 5 (some .int)) :: tblG) rX_Resolver_outermost (some .int)) : ∀ (x1 : Int32) (σ : SX), J K D clX A 5 (wX ad cA) (jx_Qi K D clX (tysX cA) (wX ad cA) A) 0 0 0 [(0, .ref (ad 36)), (1, .int x1)] [] σ (X_Resolver_outermost N x1 σ) := by
  intro x1 σ
  rw [X_Resolver_outermost]
  refine J_iconst (v := 0) h d_Resolver_outermost_0 (by decide) ?_
  refine J_istore_n (lv' := [(2, .int 0), (0, .ref (ad 36)), (1, .int x1)]) h d_Resolver_outermost_1 rfl (by decide) rfl ?_
  refine J_sub [1, 2, 0] rfl ?_
  exact J_X_Resolver_outermost_L2 K D A ad cA N h N x1 0 σ
set_option maxRecDepth 100000 in
theorem cX_Resolver_outermost (l : Launch) (D : va_G) (ad : Nat → Nat) (cA : Nat → ClassId) (N : Nat) (x1 : Int32) (σ : SX) (r : Int32) (σ' : SX) (hf : X_Resolver_outermost N x1 σ = some (r, σ')) : MetI l y_Resolver_outermost ((Cond.code y_Resolver_outermost b_Resolver_outermost 5 (some .int)) :: tblG) rX_Resolver_outermost D clX (tysX cA) (wX ad cA) [.ref (ad 36), .int x1] σ r σ' :=
  jx_metI (by decide) rfl (Nat.le_of_ble_eq_true rfl) (fun K A h => J_X_Resolver_outermost K D A ad cA N h x1 σ) hf
def rX_Resolver_isAboveAll : Room := { frames := 25, cells := 0, slots := 0, locals := 751 }
theorem rm_ok_X_Resolver_isAboveAll : rX_Resolver_isAboveAll.cells = 0 ∧ rX_Resolver_isAboveAll.slots = 0 := ⟨rfl, rfl⟩
def X_Resolver_isAboveAll_L2 (N : Nat) : Nat → Int32 → Int32 → SX → Option (Int32 × SX)
  | 0, _, _, _ => none
  | n + 1, v1, v2, σ => (if (gX_Resolver_nearSize σ) ≤ v2 then (some (1, σ)) else (if ck v2 200 = true then (bd (X_Reducer_aboveOf N (aX_Resolver_near σ v2.toNatClampNeg) v1 σ) (fun (r1 : Int32) (σ2 : SX) => (if r1 = (-3) then (some ((-3), σ2)) else (if (0 : Int32) ≤ r1 then (nm (v2 + 1) (fun (y3 : Int32) => (X_Resolver_isAboveAll_L2 N  n v1 y3 σ2))) else (some (0, σ2)))))) else none))
set_option maxRecDepth 100000 in
set_option maxHeartbeats 4000000 in
theorem J_X_Resolver_isAboveAll_L2 (K : jx_E) (D : va_G) (A : Nat → Prop) (ad : Nat → Nat) (cA : Nat → ClassId) (N : Nat) (h : jx_ok K D clX (tysX cA) A 4 b_Resolver_isAboveAll y_Resolver_isAboveAll.cls ((Cond.code y_Resolver_isAboveAll b_Resolver_isAboveAll 4 (some .int)) :: tblG) rX_Resolver_isAboveAll (some .int)) : ∀ (n : Nat) (v1 : Int32) (v2 : Int32) (σ : SX), J K D clX A 4 (wX ad cA) (jx_Qi K D clX (tysX cA) (wX ad cA) A) 0 0 2 [(0, .ref (ad 36)), (1, .int v1), (2, .int v2)] [] σ (X_Resolver_isAboveAll_L2 N n v1 v2 σ) := by
  intro n
  induction n with
  | zero => intro v1 v2 σ; exact J_none
  | succ n ih =>
    intro v1 v2 σ
    rw [X_Resolver_isAboveAll_L2]
    refine J_iload_n (q := 2) h d_Resolver_isAboveAll_2 rfl rfl ?_
    refine J_aload_n (q := 0) h d_Resolver_isAboveAll_3 rfl rfl ?_
    refine J_getf h 36 (wX_36 ad cA σ) (tb_ups in_Resolver) rfl 5 (by decide) (tb_up q_2_28) rfl d_Resolver_isAboveAll_4 ?_
    refine J_icmp_ge (tgt := 46) h d_Resolver_isAboveAll_7 (by decide) ?_ ?_
    · refine J_iconst (v := 1) h d_Resolver_isAboveAll_46 (by decide) ?_
      exact J_iret h rfl d_Resolver_isAboveAll_47
    · refine J_aload_n (q := 0) h d_Resolver_isAboveAll_10 rfl rfl ?_
      refine J_getf h 36 (wX_36 ad cA σ) (tb_ups in_Resolver) rfl 3 (by decide) (tb_up q_2_26) rfl d_Resolver_isAboveAll_11 ?_
      refine J_aload_n (q := 0) h d_Resolver_isAboveAll_14 rfl rfl ?_
      refine J_getf h 36 (wX_36 ad cA σ) (tb_ups in_Resolver) rfl 4 (by decide) (tb_up q_2_27) rfl d_Resolver_isAboveAll_15 ?_
      refine J_iload_n (q := 2) h d_Resolver_isAboveAll_18 rfl rfl ?_
      refine J_iald h 37 28 (wX_37 ad cA σ) rfl d_Resolver_isAboveAll_19 ?_
      refine J_iload_n (q := 1) h d_Resolver_isAboveAll_20 rfl rfl ?_
      refine J_callVi (As := [.int (aX_Resolver_near σ v2.toNatClampNeg), .int v1]) (st := []) (rmc := rX_Reducer_aboveOf) (q0 := 29) h (fun _ _ hf => cX_Reducer_aboveOf (jl K) D ad cA N (aX_Resolver_near σ v2.toNatClampNeg) v1 σ _ _ hf) (gd_V q_3_224 q_3_47 q_3_48 q_1_7 q_3_49) rfl ⟨rfl, rfl⟩ dd_Reducer_aboveOf ⟨Nat.le_of_ble_eq_true rfl, Nat.le_of_ble_eq_true rfl⟩ rfl rfl (wX_29 ad cA σ) rfl rfl (Nat.le_of_ble_eq_true rfl) ⟨Nat.zero_le _, Nat.zero_le _⟩ d_Resolver_isAboveAll_21 (fun r1 σ2 => ?_)
      refine J_istore_n (lv' := [(3, .int r1), (0, .ref (ad 36)), (1, .int v1), (2, .int v2)]) h d_Resolver_isAboveAll_24 rfl (by decide) rfl ?_
      refine J_iload_n (q := 0) h d_Resolver_isAboveAll_25 rfl rfl ?_
      refine J_bipush (v := (-3)) h d_Resolver_isAboveAll_26 (by decide) ?_
      refine J_icmp_ne (tgt := 34) h d_Resolver_isAboveAll_28 (by decide) ?_ ?_
      · refine J_bipush (v := (-3)) h d_Resolver_isAboveAll_31 (by decide) ?_
        exact J_iret h rfl d_Resolver_isAboveAll_33
      · refine J_iload_n (q := 0) h d_Resolver_isAboveAll_34 rfl rfl ?_
        refine J_if_ge (tgt := 40) h d_Resolver_isAboveAll_35 (by decide) ?_ ?_
        · refine J_iinc (q := 3) (c := 1) (lv' := fun y3 => [(2, .int y3), (3, .int r1), (0, .ref (ad 36)), (1, .int v1)]) h d_Resolver_isAboveAll_40 rfl (by decide) (by decide) (fun _ => rfl) (fun y3 => ?_)
          refine J_goto (tgt := 2) h d_Resolver_isAboveAll_43 (by decide) ?_
          refine J_sub [2, 3, 0] rfl ?_
          exact ih v1 y3 σ2
        · refine J_iconst (v := 0) h d_Resolver_isAboveAll_38 (by decide) ?_
          exact J_iret h rfl d_Resolver_isAboveAll_39
def X_Resolver_isAboveAll (N : Nat) (x1 : Int32) (σ : SX) : Option (Int32 × SX) := (X_Resolver_isAboveAll_L2 N N x1 0 σ)
set_option maxRecDepth 100000 in
set_option maxHeartbeats 4000000 in
theorem J_X_Resolver_isAboveAll (K : jx_E) (D : va_G) (A : Nat → Prop) (ad : Nat → Nat) (cA : Nat → ClassId) (N : Nat) (h : jx_ok K D clX (tysX cA) A 4 b_Resolver_isAboveAll y_Resolver_isAboveAll.cls ((Cond.code y_Resolver_isAboveAll b_Resolver_isAboveAll 4 (some .int)) :: tblG) rX_Resolver_isAboveAll (some .int)) : ∀ (x1 : Int32) (σ : SX), J K D clX A 4 (wX ad cA) (jx_Qi K D clX (tysX cA) (wX ad cA) A) 0 0 0 [(0, .ref (ad 36)), (1, .int x1)] [] σ (X_Resolver_isAboveAll N x1 σ) := by
  intro x1 σ
  rw [X_Resolver_isAboveAll]
  refine J_iconst (v := 0) h d_Resolver_isAboveAll_0 (by decide) ?_
  refine J_istore_n (lv' := [(2, .int 0), (0, .ref (ad 36)), (1, .int x1)]) h d_Resolver_isAboveAll_1 rfl (by decide) rfl ?_
  refine J_sub [1, 2, 0] rfl ?_
  exact J_X_Resolver_isAboveAll_L2 K D A ad cA N h N x1 0 σ
set_option maxRecDepth 100000 in
theorem cX_Resolver_isAboveAll (l : Launch) (D : va_G) (ad : Nat → Nat) (cA : Nat → ClassId) (N : Nat) (x1 : Int32) (σ : SX) (r : Int32) (σ' : SX) (hf : X_Resolver_isAboveAll N x1 σ = some (r, σ')) : MetI l y_Resolver_isAboveAll ((Cond.code y_Resolver_isAboveAll b_Resolver_isAboveAll 4 (some .int)) :: tblG) rX_Resolver_isAboveAll D clX (tysX cA) (wX ad cA) [.ref (ad 36), .int x1] σ r σ' :=
  jx_metI (by decide) rfl (Nat.le_of_ble_eq_true rfl) (fun K A h => J_X_Resolver_isAboveAll K D A ad cA N h x1 σ) hf
def rX_Resolver_isAboveAnother : Room := { frames := 25, cells := 0, slots := 0, locals := 751 }
theorem rm_ok_X_Resolver_isAboveAnother : rX_Resolver_isAboveAnother.cells = 0 ∧ rX_Resolver_isAboveAnother.slots = 0 := ⟨rfl, rfl⟩
def X_Resolver_isAboveAnother_b88 (N : Nat) (k3 : Int32 → Int64 → Int32 → SX → Option (Int32 × SX)) (v1 : Int32) (v2 : Int64) (v4 : Int32) (σ : SX) : Option (Int32 × SX) := (nm (v4 + 1) (fun (y1 : Int32) => (k3 v1 v2 y1 σ)))
set_option maxRecDepth 100000 in
set_option maxHeartbeats 4000000 in
theorem J_X_Resolver_isAboveAnother_b88 (K : jx_E) (D : va_G) (A : Nat → Prop) (ad : Nat → Nat) (cA : Nat → ClassId) (N : Nat) (h : jx_ok K D clX (tysX cA) A 7 b_Resolver_isAboveAnother y_Resolver_isAboveAnother.cls ((Cond.code y_Resolver_isAboveAnother b_Resolver_isAboveAnother 7 (some .int)) :: tblG) rX_Resolver_isAboveAnother (some .int)) (k3 : Int32 → Int64 → Int32 → SX → Option (Int32 × SX)) (hk3 : ∀ (v1 : Int32) (v2 : Int64) (v4 : Int32) (σ : SX), J K D clX A 7 (wX ad cA) (jx_Qi K D clX (tysX cA) (wX ad cA) A) 0 0 3 [(0, .ref (ad 36)), (1, .int v1), (2, .long v2), (4, .int v4)] [] σ (k3 v1 v2 v4 σ)) : ∀ (v1 : Int32) (v2 : Int64) (v4 : Int32) (σ : SX), J K D clX A 7 (wX ad cA) (jx_Qi K D clX (tysX cA) (wX ad cA) A) 0 0 88 [(0, .ref (ad 36)), (1, .int v1), (2, .long v2), (4, .int v4)] [] σ (X_Resolver_isAboveAnother_b88 N k3 v1 v2 v4 σ) := by
  intro v1 v2 v4 σ
  rw [X_Resolver_isAboveAnother_b88]
  refine J_iinc (q := 3) (c := 1) (lv' := fun y1 => [(4, .int y1), (0, .ref (ad 36)), (1, .int v1), (2, .long v2)]) h d_Resolver_isAboveAnother_88 rfl (by decide) (by decide) (fun _ => rfl) (fun y1 => ?_)
  refine J_goto (tgt := 3) h d_Resolver_isAboveAnother_91 (by decide) ?_
  refine J_sub [1, 2, 3, 0] rfl ?_
  exact hk3 v1 v2 y1 σ
def X_Resolver_isAboveAnother_b69 (N : Nat) (k3 : Int32 → Int64 → Int32 → SX → Option (Int32 × SX)) (v1 : Int32) (v2 : Int64) (v4 : Int32) (s0 : Int32) (σ : SX) : Option (Int32 × SX) := (if s0 = (-3) then (some ((-3), σ)) else (if s0 < 0 then (X_Resolver_isAboveAnother_b88 N k3 v1 v2 v4 σ) else (some (1, σ))))
set_option maxRecDepth 100000 in
set_option maxHeartbeats 4000000 in
theorem J_X_Resolver_isAboveAnother_b69 (K : jx_E) (D : va_G) (A : Nat → Prop) (ad : Nat → Nat) (cA : Nat → ClassId) (N : Nat) (h : jx_ok K D clX (tysX cA) A 7 b_Resolver_isAboveAnother y_Resolver_isAboveAnother.cls ((Cond.code y_Resolver_isAboveAnother b_Resolver_isAboveAnother 7 (some .int)) :: tblG) rX_Resolver_isAboveAnother (some .int)) (k3 : Int32 → Int64 → Int32 → SX → Option (Int32 × SX)) (hk3 : ∀ (v1 : Int32) (v2 : Int64) (v4 : Int32) (σ : SX), J K D clX A 7 (wX ad cA) (jx_Qi K D clX (tysX cA) (wX ad cA) A) 0 0 3 [(0, .ref (ad 36)), (1, .int v1), (2, .long v2), (4, .int v4)] [] σ (k3 v1 v2 v4 σ)) : ∀ (v1 : Int32) (v2 : Int64) (v4 : Int32) (s0 : Int32) (σ : SX), J K D clX A 7 (wX ad cA) (jx_Qi K D clX (tysX cA) (wX ad cA) A) 0 0 69 [(0, .ref (ad 36)), (1, .int v1), (2, .long v2), (4, .int v4)] [.int s0] σ (X_Resolver_isAboveAnother_b69 N k3 v1 v2 v4 s0 σ) := by
  intro v1 v2 v4 s0 σ
  rw [X_Resolver_isAboveAnother_b69]
  refine J_istore (lv' := [(6, .int s0), (0, .ref (ad 36)), (1, .int v1), (2, .long v2), (4, .int v4)]) h d_Resolver_isAboveAnother_69 (by decide) rfl ?_
  refine J_iload (q := 0) h d_Resolver_isAboveAnother_71 rfl ?_
  refine J_bipush (v := (-3)) h d_Resolver_isAboveAnother_73 (by decide) ?_
  refine J_icmp_ne (tgt := 81) h d_Resolver_isAboveAnother_75 (by decide) ?_ ?_
  · refine J_bipush (v := (-3)) h d_Resolver_isAboveAnother_78 (by decide) ?_
    exact J_iret h rfl d_Resolver_isAboveAnother_80
  · refine J_iload (q := 0) h d_Resolver_isAboveAnother_81 rfl ?_
    refine J_if_lt (tgt := 88) h d_Resolver_isAboveAnother_83 (by decide) ?_ ?_
    · refine J_sub [1, 2, 3, 4] rfl ?_
      exact J_X_Resolver_isAboveAnother_b88 K D A ad cA N h k3 hk3 v1 v2 v4 σ
    · refine J_iconst (v := 1) h d_Resolver_isAboveAnother_86 (by decide) ?_
      exact J_iret h rfl d_Resolver_isAboveAnother_87
def X_Resolver_isAboveAnother_L3 (N : Nat) : Nat → Int32 → Int64 → Int32 → SX → Option (Int32 × SX)
  | 0, _, _, _, _ => none
  | n + 1, v1, v2, v4, σ => (if (gX_Classes_size σ) ≤ v4 then (some (0, σ)) else (if v4 = v1 then (X_Resolver_isAboveAnother_b88 N (X_Resolver_isAboveAnother_L3 N  n) v1 v2 v4 σ) else (if (lg_cmp ((v2 >>> (v4.toInt64 &&& 63)) &&& 1) 0) = 0 then (X_Resolver_isAboveAnother_b88 N (X_Resolver_isAboveAnother_L3 N  n) v1 v2 v4 σ) else (bd (X_Types_make N 0 v4 (-1) (-1) σ) (fun (r2 : Int32) (σ3 : SX) => (if (0 : Int32) ≤ r2 then (bd (X_Reducer_aboveOf N r2 v1 σ3) (fun (r4 : Int32) (σ5 : SX) => (X_Resolver_isAboveAnother_b69 N (X_Resolver_isAboveAnother_L3 N  n) v1 v2 v4 r4 σ5))) else (X_Resolver_isAboveAnother_b69 N (X_Resolver_isAboveAnother_L3 N  n) v1 v2 v4 (-3) σ3)))))))
set_option maxRecDepth 100000 in
set_option maxHeartbeats 4000000 in
theorem J_X_Resolver_isAboveAnother_L3 (K : jx_E) (D : va_G) (A : Nat → Prop) (ad : Nat → Nat) (cA : Nat → ClassId) (N : Nat) (h : jx_ok K D clX (tysX cA) A 7 b_Resolver_isAboveAnother y_Resolver_isAboveAnother.cls ((Cond.code y_Resolver_isAboveAnother b_Resolver_isAboveAnother 7 (some .int)) :: tblG) rX_Resolver_isAboveAnother (some .int)) : ∀ (n : Nat) (v1 : Int32) (v2 : Int64) (v4 : Int32) (σ : SX), J K D clX A 7 (wX ad cA) (jx_Qi K D clX (tysX cA) (wX ad cA) A) 0 0 3 [(0, .ref (ad 36)), (1, .int v1), (2, .long v2), (4, .int v4)] [] σ (X_Resolver_isAboveAnother_L3 N n v1 v2 v4 σ) := by
  intro n
  induction n with
  | zero => intro v1 v2 v4 σ; exact J_none
  | succ n ih =>
    intro v1 v2 v4 σ
    rw [X_Resolver_isAboveAnother_L3]
    refine J_iload (q := 3) h d_Resolver_isAboveAnother_3 rfl ?_
    refine J_aload_n (q := 0) h d_Resolver_isAboveAnother_5 rfl rfl ?_
    refine J_getf h 36 (wX_36 ad cA σ) (tb_ups in_Resolver) rfl 0 (by decide) (tb_up q_2_23) rfl d_Resolver_isAboveAnother_6 ?_
    refine J_getf h 1 (wX_1 ad cA σ) (tb_ups in_Classes) rfl 5 (by decide) (tb_up q_1_35) rfl d_Resolver_isAboveAnother_9 ?_
    refine J_icmp_ge (tgt := 94) h d_Resolver_isAboveAnother_12 (by decide) ?_ ?_
    · refine J_iconst (v := 0) h d_Resolver_isAboveAnother_94 (by decide) ?_
      exact J_iret h rfl d_Resolver_isAboveAnother_95
    · refine J_iload (q := 3) h d_Resolver_isAboveAnother_15 rfl ?_
      refine J_iload_n (q := 1) h d_Resolver_isAboveAnother_17 rfl rfl ?_
      refine J_icmp_eq (tgt := 88) h d_Resolver_isAboveAnother_18 (by decide) ?_ ?_
      · exact J_X_Resolver_isAboveAnother_b88 K D A ad cA N h (X_Resolver_isAboveAnother_L3 N  n) ih v1 v2 v4 σ
      · refine J_lload_n (q := 2) h d_Resolver_isAboveAnother_21 rfl rfl ?_
        refine J_iload (q := 3) h d_Resolver_isAboveAnother_22 rfl ?_
        refine J_lshr h d_Resolver_isAboveAnother_24 ?_
        refine J_lconst (v := 1) h d_Resolver_isAboveAnother_25 (by decide) ?_
        refine J_land h d_Resolver_isAboveAnother_26 ?_
        refine J_lconst (v := 0) h d_Resolver_isAboveAnother_27 (by decide) ?_
        refine J_lcmp h d_Resolver_isAboveAnother_28 ?_
        refine J_if_ne (tgt := 35) h d_Resolver_isAboveAnother_29 (by decide) ?_ ?_
        · refine J_goto (tgt := 88) h d_Resolver_isAboveAnother_32 (by decide) ?_
          exact J_X_Resolver_isAboveAnother_b88 K D A ad cA N h (X_Resolver_isAboveAnother_L3 N  n) ih v1 v2 v4 σ
        · refine J_aload_n (q := 0) h d_Resolver_isAboveAnother_35 rfl rfl ?_
          refine J_getf h 36 (wX_36 ad cA σ) (tb_ups in_Resolver) rfl 1 (by decide) (tb_up q_2_24) rfl d_Resolver_isAboveAnother_36 ?_
          refine J_iconst (v := 0) h d_Resolver_isAboveAnother_39 (by decide) ?_
          refine J_iload (q := 3) h d_Resolver_isAboveAnother_40 rfl ?_
          refine J_iconst (v := (-1)) h d_Resolver_isAboveAnother_42 (by decide) ?_
          refine J_iconst (v := (-1)) h d_Resolver_isAboveAnother_43 (by decide) ?_
          refine J_callVi (As := [.int 0, .int v4, .int (-1), .int (-1)]) (st := []) (rmc := rX_Types_make) (q0 := 7) h (fun _ _ hf => cX_Types_make (jl K) D ad cA N 0 v4 (-1) (-1) σ _ _ hf) (gd_V q_3_229 q_2_173 q_2_174 q_1_3 q_2_175) rfl ⟨rfl, rfl⟩ dd_Types_make ⟨Nat.le_of_ble_eq_true rfl, Nat.le_of_ble_eq_true rfl⟩ rfl rfl (wX_7 ad cA σ) rfl rfl (Nat.le_of_ble_eq_true rfl) ⟨Nat.zero_le _, Nat.zero_le _⟩ d_Resolver_isAboveAnother_44 (fun r2 σ3 => ?_)
          refine J_istore (lv' := [(5, .int r2), (0, .ref (ad 36)), (1, .int v1), (2, .long v2), (4, .int v4)]) h d_Resolver_isAboveAnother_47 (by decide) rfl ?_
          refine J_iload (q := 0) h d_Resolver_isAboveAnother_49 rfl ?_
          refine J_if_ge (tgt := 59) h d_Resolver_isAboveAnother_51 (by decide) ?_ ?_
          · refine J_aload_n (q := 1) h d_Resolver_isAboveAnother_59 rfl rfl ?_
            refine J_getf h 36 (wX_36 ad cA σ3) (tb_ups in_Resolver) rfl 3 (by decide) (tb_up q_2_26) rfl d_Resolver_isAboveAnother_60 ?_
            refine J_iload (q := 0) h d_Resolver_isAboveAnother_63 rfl ?_
            refine J_iload_n (q := 2) h d_Resolver_isAboveAnother_65 rfl rfl ?_
            refine J_callVi (As := [.int r2, .int v1]) (st := []) (rmc := rX_Reducer_aboveOf) (q0 := 29) h (fun _ _ hf => cX_Reducer_aboveOf (jl K) D ad cA N r2 v1 σ3 _ _ hf) (gd_V q_3_224 q_3_47 q_3_48 q_1_7 q_3_49) rfl ⟨rfl, rfl⟩ dd_Reducer_aboveOf ⟨Nat.le_of_ble_eq_true rfl, Nat.le_of_ble_eq_true rfl⟩ rfl rfl (wX_29 ad cA σ3) rfl rfl (Nat.le_of_ble_eq_true rfl) ⟨Nat.zero_le _, Nat.zero_le _⟩ d_Resolver_isAboveAnother_66 (fun r4 σ5 => ?_)
            refine J_sub [1, 2, 3, 4] rfl ?_
            exact J_X_Resolver_isAboveAnother_b69 K D A ad cA N h (X_Resolver_isAboveAnother_L3 N  n) ih v1 v2 v4 r4 σ5
          · refine J_bipush (v := (-3)) h d_Resolver_isAboveAnother_54 (by decide) ?_
            refine J_goto (tgt := 69) h d_Resolver_isAboveAnother_56 (by decide) ?_
            refine J_sub [1, 2, 3, 4] rfl ?_
            exact J_X_Resolver_isAboveAnother_b69 K D A ad cA N h (X_Resolver_isAboveAnother_L3 N  n) ih v1 v2 v4 (-3) σ3
def X_Resolver_isAboveAnother (N : Nat) (x1 : Int32) (x2 : Int64) (σ : SX) : Option (Int32 × SX) := (X_Resolver_isAboveAnother_L3 N N x1 x2 0 σ)
set_option maxRecDepth 100000 in
set_option maxHeartbeats 4000000 in
theorem J_X_Resolver_isAboveAnother (K : jx_E) (D : va_G) (A : Nat → Prop) (ad : Nat → Nat) (cA : Nat → ClassId) (N : Nat) (h : jx_ok K D clX (tysX cA) A 7 b_Resolver_isAboveAnother y_Resolver_isAboveAnother.cls ((Cond.code y_Resolver_isAboveAnother b_Resolver_isAboveAnother 7 (some .int)) :: tblG) rX_Resolver_isAboveAnother (some .int)) : ∀ (x1 : Int32) (x2 : Int64) (σ : SX), J K D clX A 7 (wX ad cA) (jx_Qi K D clX (tysX cA) (wX ad cA) A) 0 0 0 [(0, .ref (ad 36)), (1, .int x1), (2, .long x2)] [] σ (X_Resolver_isAboveAnother N x1 x2 σ) := by
  intro x1 x2 σ
  rw [X_Resolver_isAboveAnother]
  refine J_iconst (v := 0) h d_Resolver_isAboveAnother_0 (by decide) ?_
  refine J_istore (lv' := [(4, .int 0), (0, .ref (ad 36)), (1, .int x1), (2, .long x2)]) h d_Resolver_isAboveAnother_1 (by decide) rfl ?_
  refine J_sub [1, 2, 3, 0] rfl ?_
  exact J_X_Resolver_isAboveAnother_L3 K D A ad cA N h N x1 x2 0 σ
set_option maxRecDepth 100000 in
theorem cX_Resolver_isAboveAnother (l : Launch) (D : va_G) (ad : Nat → Nat) (cA : Nat → ClassId) (N : Nat) (x1 : Int32) (x2 : Int64) (σ : SX) (r : Int32) (σ' : SX) (hf : X_Resolver_isAboveAnother N x1 x2 σ = some (r, σ')) : MetI l y_Resolver_isAboveAnother ((Cond.code y_Resolver_isAboveAnother b_Resolver_isAboveAnother 7 (some .int)) :: tblG) rX_Resolver_isAboveAnother D clX (tysX cA) (wX ad cA) [.ref (ad 36), .int x1, .long x2] σ r σ' :=
  jx_metI (by decide) rfl (Nat.le_of_ble_eq_true rfl) (fun K A h => J_X_Resolver_isAboveAnother K D A ad cA N h x1 x2 σ) hf
def rX_Resolver_sharedArgument : Room := { frames := 25, cells := 0, slots := 0, locals := 751 }
theorem rm_ok_X_Resolver_sharedArgument : rX_Resolver_sharedArgument.cells = 0 ∧ rX_Resolver_sharedArgument.slots = 0 := ⟨rfl, rfl⟩
def X_Resolver_sharedArgument_b62 (N : Nat) (k5 : Int32 → Int32 → Int32 → Int32 → SX → Option (Int32 × SX)) (v1 : Int32) (v2 : Int32) (v4 : Int32) (v5 : Int32) (σ : SX) : Option (Int32 × SX) := (nm (v4 + 1) (fun (y5 : Int32) => (k5 v1 v2 v5 y5 σ)))
set_option maxRecDepth 100000 in
set_option maxHeartbeats 4000000 in
theorem J_X_Resolver_sharedArgument_b62 (K : jx_E) (D : va_G) (A : Nat → Prop) (ad : Nat → Nat) (cA : Nat → ClassId) (N : Nat) (h : jx_ok K D clX (tysX cA) A 6 b_Resolver_sharedArgument y_Resolver_sharedArgument.cls ((Cond.code y_Resolver_sharedArgument b_Resolver_sharedArgument 6 (some .int)) :: tblG) rX_Resolver_sharedArgument (some .int)) (k5 : Int32 → Int32 → Int32 → Int32 → SX → Option (Int32 × SX)) (hk5 : ∀ (v1 : Int32) (v2 : Int32) (v3 : Int32) (v4 : Int32) (σ : SX), J K D clX A 6 (wX ad cA) (jx_Qi K D clX (tysX cA) (wX ad cA) A) 0 0 5 [(0, .ref (ad 36)), (1, .int v1), (2, .int v2), (3, .int v3), (4, .int v4)] [] σ (k5 v1 v2 v3 v4 σ)) : ∀ (v1 : Int32) (v2 : Int32) (v4 : Int32) (v5 : Int32) (σ : SX), J K D clX A 6 (wX ad cA) (jx_Qi K D clX (tysX cA) (wX ad cA) A) 0 0 62 [(0, .ref (ad 36)), (1, .int v1), (2, .int v2), (4, .int v4), (5, .int v5)] [] σ (X_Resolver_sharedArgument_b62 N k5 v1 v2 v4 v5 σ) := by
  intro v1 v2 v4 v5 σ
  rw [X_Resolver_sharedArgument_b62]
  refine J_iload (q := 4) h d_Resolver_sharedArgument_62 rfl ?_
  refine J_istore_n (lv' := [(3, .int v5), (0, .ref (ad 36)), (1, .int v1), (2, .int v2), (4, .int v4), (5, .int v5)]) h d_Resolver_sharedArgument_64 rfl (by decide) rfl ?_
  refine J_iinc (q := 4) (c := 1) (lv' := fun y5 => [(4, .int y5), (3, .int v5), (0, .ref (ad 36)), (1, .int v1), (2, .int v2), (5, .int v5)]) h d_Resolver_sharedArgument_65 rfl (by decide) (by decide) (fun _ => rfl) (fun y5 => ?_)
  refine J_goto (tgt := 5) h d_Resolver_sharedArgument_68 (by decide) ?_
  refine J_sub [2, 3, 4, 1, 0] rfl ?_
  exact hk5 v1 v2 v5 y5 σ
def X_Resolver_sharedArgument_L5 (N : Nat) (k50 : SX → Option (Int32 × SX)) : Nat → Int32 → Int32 → Int32 → Int32 → SX → Option (Int32 × SX)
  | 0, _, _, _, _, _ => none
  | n + 1, v1, v2, v3, v4, σ => (if (gX_Resolver_nearSize σ) ≤ v4 then (some (v3, σ)) else (if ck v4 200 = true then (bd (X_Reducer_aboveOf N (aX_Resolver_near σ v4.toNatClampNeg) v1 σ) (fun (r1 : Int32) (σ2 : SX) => (bd (X_Types_argumentOf r1 v2 σ2) (fun (r3 : Int32) (σ4 : SX) => (if v4 ≤ 0 then (X_Resolver_sharedArgument_b62 N (X_Resolver_sharedArgument_L5 N k50 n) v1 v2 v4 r3 σ4) else (if r3 = v3 then (X_Resolver_sharedArgument_b62 N (X_Resolver_sharedArgument_L5 N k50 n) v1 v2 v4 r3 σ4) else (k50  σ4))))))) else none))
set_option maxRecDepth 100000 in
set_option maxHeartbeats 4000000 in
theorem J_X_Resolver_sharedArgument_L5 (K : jx_E) (D : va_G) (A : Nat → Prop) (ad : Nat → Nat) (cA : Nat → ClassId) (N : Nat) (h : jx_ok K D clX (tysX cA) A 6 b_Resolver_sharedArgument y_Resolver_sharedArgument.cls ((Cond.code y_Resolver_sharedArgument b_Resolver_sharedArgument 6 (some .int)) :: tblG) rX_Resolver_sharedArgument (some .int)) (k50 : SX → Option (Int32 × SX)) (hk50 : ∀  (σ : SX), J K D clX A 6 (wX ad cA) (jx_Qi K D clX (tysX cA) (wX ad cA) A) 0 0 50 [(0, .ref (ad 36))] [] σ (k50  σ)) : ∀ (n : Nat) (v1 : Int32) (v2 : Int32) (v3 : Int32) (v4 : Int32) (σ : SX), J K D clX A 6 (wX ad cA) (jx_Qi K D clX (tysX cA) (wX ad cA) A) 0 0 5 [(0, .ref (ad 36)), (1, .int v1), (2, .int v2), (3, .int v3), (4, .int v4)] [] σ (X_Resolver_sharedArgument_L5 N k50 n v1 v2 v3 v4 σ) := by
  intro n
  induction n with
  | zero => intro v1 v2 v3 v4 σ; exact J_none
  | succ n ih =>
    intro v1 v2 v3 v4 σ
    rw [X_Resolver_sharedArgument_L5]
    refine J_iload (q := 4) h d_Resolver_sharedArgument_5 rfl ?_
    refine J_aload_n (q := 0) h d_Resolver_sharedArgument_7 rfl rfl ?_
    refine J_getf h 36 (wX_36 ad cA σ) (tb_ups in_Resolver) rfl 5 (by decide) (tb_up q_2_28) rfl d_Resolver_sharedArgument_8 ?_
    refine J_icmp_ge (tgt := 71) h d_Resolver_sharedArgument_11 (by decide) ?_ ?_
    · refine J_iload_n (q := 3) h d_Resolver_sharedArgument_71 rfl rfl ?_
      exact J_iret h rfl d_Resolver_sharedArgument_72
    · refine J_aload_n (q := 0) h d_Resolver_sharedArgument_14 rfl rfl ?_
      refine J_getf h 36 (wX_36 ad cA σ) (tb_ups in_Resolver) rfl 1 (by decide) (tb_up q_2_24) rfl d_Resolver_sharedArgument_15 ?_
      refine J_aload_n (q := 0) h d_Resolver_sharedArgument_18 rfl rfl ?_
      refine J_getf h 36 (wX_36 ad cA σ) (tb_ups in_Resolver) rfl 3 (by decide) (tb_up q_2_26) rfl d_Resolver_sharedArgument_19 ?_
      refine J_aload_n (q := 0) h d_Resolver_sharedArgument_22 rfl rfl ?_
      refine J_getf h 36 (wX_36 ad cA σ) (tb_ups in_Resolver) rfl 4 (by decide) (tb_up q_2_27) rfl d_Resolver_sharedArgument_23 ?_
      refine J_iload (q := 4) h d_Resolver_sharedArgument_26 rfl ?_
      refine J_iald h 37 28 (wX_37 ad cA σ) rfl d_Resolver_sharedArgument_28 ?_
      refine J_iload_n (q := 1) h d_Resolver_sharedArgument_29 rfl rfl ?_
      refine J_callVi (As := [.int (aX_Resolver_near σ v4.toNatClampNeg), .int v1]) (st := [.ref (ad 7)]) (rmc := rX_Reducer_aboveOf) (q0 := 29) h (fun _ _ hf => cX_Reducer_aboveOf (jl K) D ad cA N (aX_Resolver_near σ v4.toNatClampNeg) v1 σ _ _ hf) (gd_V q_3_224 q_3_47 q_3_48 q_1_7 q_3_49) rfl ⟨rfl, rfl⟩ dd_Reducer_aboveOf ⟨Nat.le_of_ble_eq_true rfl, Nat.le_of_ble_eq_true rfl⟩ rfl rfl (wX_29 ad cA σ) rfl rfl (Nat.le_of_ble_eq_true rfl) ⟨Nat.zero_le _, Nat.zero_le _⟩ d_Resolver_sharedArgument_30 (fun r1 σ2 => ?_)
      refine J_iload_n (q := 2) h d_Resolver_sharedArgument_33 rfl rfl ?_
      refine J_callVi (As := [.int r1, .int v2]) (st := []) (rmc := rX_Types_argumentOf) (q0 := 7) h (fun _ _ hf => cX_Types_argumentOf (jl K) D ad cA r1 v2 σ2 _ _ hf) (gd_V q_3_239 q_3_55 q_3_56 q_1_3 q_3_57) rfl ⟨rfl, rfl⟩ dd_Types_argumentOf ⟨Nat.le_of_ble_eq_true rfl, Nat.le_of_ble_eq_true rfl⟩ rfl rfl (wX_7 ad cA σ2) rfl rfl (Nat.le_of_ble_eq_true rfl) ⟨Nat.zero_le _, Nat.zero_le _⟩ d_Resolver_sharedArgument_34 (fun r3 σ4 => ?_)
      refine J_istore (lv' := [(5, .int r3), (0, .ref (ad 36)), (1, .int v1), (2, .int v2), (3, .int v3), (4, .int v4)]) h d_Resolver_sharedArgument_37 (by decide) rfl ?_
      refine J_iload (q := 5) h d_Resolver_sharedArgument_39 rfl ?_
      refine J_if_le (tgt := 62) h d_Resolver_sharedArgument_41 (by decide) ?_ ?_
      · refine J_sub [1, 2, 3, 5, 0] rfl ?_
        exact J_X_Resolver_sharedArgument_b62 K D A ad cA N h (X_Resolver_sharedArgument_L5 N k50 n) ih v1 v2 v4 r3 σ4
      · refine J_iload (q := 0) h d_Resolver_sharedArgument_44 rfl ?_
        refine J_iload_n (q := 4) h d_Resolver_sharedArgument_46 rfl rfl ?_
        refine J_icmp_eq (tgt := 62) h d_Resolver_sharedArgument_47 (by decide) ?_ ?_
        · refine J_sub [1, 2, 3, 5, 0] rfl ?_
          exact J_X_Resolver_sharedArgument_b62 K D A ad cA N h (X_Resolver_sharedArgument_L5 N k50 n) ih v1 v2 v4 r3 σ4
        · refine J_sub [1] rfl ?_
          exact hk50  σ4
def X_Resolver_sharedArgument_b50 (N : Nat)  (σ : SX) : Option (Int32 × SX) := (bd (X_Types_make N 2 0 (-1) (-1) σ) (fun (r6 : Int32) (σ7 : SX) => (some (r6, σ7))))
set_option maxRecDepth 100000 in
set_option maxHeartbeats 4000000 in
theorem J_X_Resolver_sharedArgument_b50 (K : jx_E) (D : va_G) (A : Nat → Prop) (ad : Nat → Nat) (cA : Nat → ClassId) (N : Nat) (h : jx_ok K D clX (tysX cA) A 6 b_Resolver_sharedArgument y_Resolver_sharedArgument.cls ((Cond.code y_Resolver_sharedArgument b_Resolver_sharedArgument 6 (some .int)) :: tblG) rX_Resolver_sharedArgument (some .int)) : ∀  (σ : SX), J K D clX A 6 (wX ad cA) (jx_Qi K D clX (tysX cA) (wX ad cA) A) 0 0 50 [(0, .ref (ad 36))] [] σ (X_Resolver_sharedArgument_b50 N  σ) := by
  intro  σ
  rw [X_Resolver_sharedArgument_b50]
  refine J_aload_n (q := 0) h d_Resolver_sharedArgument_50 rfl rfl ?_
  refine J_getf h 36 (wX_36 ad cA σ) (tb_ups in_Resolver) rfl 1 (by decide) (tb_up q_2_24) rfl d_Resolver_sharedArgument_51 ?_
  refine J_iconst (v := 2) h d_Resolver_sharedArgument_54 (by decide) ?_
  refine J_iconst (v := 0) h d_Resolver_sharedArgument_55 (by decide) ?_
  refine J_iconst (v := (-1)) h d_Resolver_sharedArgument_56 (by decide) ?_
  refine J_iconst (v := (-1)) h d_Resolver_sharedArgument_57 (by decide) ?_
  refine J_callVi (As := [.int 2, .int 0, .int (-1), .int (-1)]) (st := []) (rmc := rX_Types_make) (q0 := 7) h (fun _ _ hf => cX_Types_make (jl K) D ad cA N 2 0 (-1) (-1) σ _ _ hf) (gd_V q_3_229 q_2_173 q_2_174 q_1_3 q_2_175) rfl ⟨rfl, rfl⟩ dd_Types_make ⟨Nat.le_of_ble_eq_true rfl, Nat.le_of_ble_eq_true rfl⟩ rfl rfl (wX_7 ad cA σ) rfl rfl (Nat.le_of_ble_eq_true rfl) ⟨Nat.zero_le _, Nat.zero_le _⟩ d_Resolver_sharedArgument_58 (fun r6 σ7 => ?_)
  exact J_iret h rfl d_Resolver_sharedArgument_61
def X_Resolver_sharedArgument (N : Nat) (x1 : Int32) (x2 : Int32) (σ : SX) : Option (Int32 × SX) := (X_Resolver_sharedArgument_L5 N (X_Resolver_sharedArgument_b50 N) N x1 x2 (-1) 0 σ)
set_option maxRecDepth 100000 in
set_option maxHeartbeats 4000000 in
theorem J_X_Resolver_sharedArgument (K : jx_E) (D : va_G) (A : Nat → Prop) (ad : Nat → Nat) (cA : Nat → ClassId) (N : Nat) (h : jx_ok K D clX (tysX cA) A 6 b_Resolver_sharedArgument y_Resolver_sharedArgument.cls ((Cond.code y_Resolver_sharedArgument b_Resolver_sharedArgument 6 (some .int)) :: tblG) rX_Resolver_sharedArgument (some .int)) : ∀ (x1 : Int32) (x2 : Int32) (σ : SX), J K D clX A 6 (wX ad cA) (jx_Qi K D clX (tysX cA) (wX ad cA) A) 0 0 0 [(0, .ref (ad 36)), (1, .int x1), (2, .int x2)] [] σ (X_Resolver_sharedArgument N x1 x2 σ) := by
  intro x1 x2 σ
  rw [X_Resolver_sharedArgument]
  refine J_iconst (v := (-1)) h d_Resolver_sharedArgument_0 (by decide) ?_
  refine J_istore_n (lv' := [(3, .int (-1)), (0, .ref (ad 36)), (1, .int x1), (2, .int x2)]) h d_Resolver_sharedArgument_1 rfl (by decide) rfl ?_
  refine J_iconst (v := 0) h d_Resolver_sharedArgument_2 (by decide) ?_
  refine J_istore (lv' := [(4, .int 0), (3, .int (-1)), (0, .ref (ad 36)), (1, .int x1), (2, .int x2)]) h d_Resolver_sharedArgument_3 (by decide) rfl ?_
  refine J_sub [2, 3, 4, 1, 0] rfl ?_
  exact J_X_Resolver_sharedArgument_L5 K D A ad cA N h (X_Resolver_sharedArgument_b50 N) (J_X_Resolver_sharedArgument_b50 K D A ad cA N h) N x1 x2 (-1) 0 σ
set_option maxRecDepth 100000 in
theorem cX_Resolver_sharedArgument (l : Launch) (D : va_G) (ad : Nat → Nat) (cA : Nat → ClassId) (N : Nat) (x1 : Int32) (x2 : Int32) (σ : SX) (r : Int32) (σ' : SX) (hf : X_Resolver_sharedArgument N x1 x2 σ = some (r, σ')) : MetI l y_Resolver_sharedArgument ((Cond.code y_Resolver_sharedArgument b_Resolver_sharedArgument 6 (some .int)) :: tblG) rX_Resolver_sharedArgument D clX (tysX cA) (wX ad cA) [.ref (ad 36), .int x1, .int x2] σ r σ' :=
  jx_metI (by decide) rfl (Nat.le_of_ble_eq_true rfl) (fun K A h => J_X_Resolver_sharedArgument K D A ad cA N h x1 x2 σ) hf
def rX_Resolver_joinAs : Room := { frames := 26, cells := 0, slots := 0, locals := 776 }
theorem rm_ok_X_Resolver_joinAs : rX_Resolver_joinAs.cells = 0 ∧ rX_Resolver_joinAs.slots = 0 := ⟨rfl, rfl⟩
def X_Resolver_joinAs_L2 (N : Nat) (k64 : Int32 → SX → Option (Int32 × SX)) (k46 : Int32 → SX → Option (Int32 × SX)) : Nat → Int32 → Int32 → SX → Option (Int32 × SX)
  | 0, _, _, _ => none
  | n + 1, v1, v2, σ => (if (gX_Resolver_nearSize σ) ≤ v2 then (k64 v1 σ) else (if ck v2 200 = true then (bd (X_Reducer_aboveOf N (aX_Resolver_near σ v2.toNatClampNeg) v1 σ) (fun (r1 : Int32) (σ2 : SX) => (if r1 = (-3) then (some ((-3), σ2)) else (bd (X_Types_kindOf r1 σ2) (fun (r3 : Int32) (σ4 : SX) => (if r3 = 1 then (nm (v2 + 1) (fun (y5 : Int32) => (X_Resolver_joinAs_L2 N k64 k46 n v1 y5 σ4))) else (k46 v1 σ4))))))) else none))
set_option maxRecDepth 100000 in
set_option maxHeartbeats 4000000 in
theorem J_X_Resolver_joinAs_L2 (K : jx_E) (D : va_G) (A : Nat → Prop) (ad : Nat → Nat) (cA : Nat → ClassId) (N : Nat) (h : jx_ok K D clX (tysX cA) A 4 b_Resolver_joinAs y_Resolver_joinAs.cls ((Cond.code y_Resolver_joinAs b_Resolver_joinAs 4 (some .int)) :: tblG) rX_Resolver_joinAs (some .int)) (k64 : Int32 → SX → Option (Int32 × SX)) (hk64 : ∀ (v1 : Int32) (σ : SX), J K D clX A 4 (wX ad cA) (jx_Qi K D clX (tysX cA) (wX ad cA) A) 0 0 64 [(0, .ref (ad 36)), (1, .int v1)] [] σ (k64 v1 σ)) (k46 : Int32 → SX → Option (Int32 × SX)) (hk46 : ∀ (v1 : Int32) (σ : SX), J K D clX A 4 (wX ad cA) (jx_Qi K D clX (tysX cA) (wX ad cA) A) 0 0 46 [(0, .ref (ad 36)), (1, .int v1)] [] σ (k46 v1 σ)) : ∀ (n : Nat) (v1 : Int32) (v2 : Int32) (σ : SX), J K D clX A 4 (wX ad cA) (jx_Qi K D clX (tysX cA) (wX ad cA) A) 0 0 2 [(0, .ref (ad 36)), (1, .int v1), (2, .int v2)] [] σ (X_Resolver_joinAs_L2 N k64 k46 n v1 v2 σ) := by
  intro n
  induction n with
  | zero => intro v1 v2 σ; exact J_none
  | succ n ih =>
    intro v1 v2 σ
    rw [X_Resolver_joinAs_L2]
    refine J_iload_n (q := 2) h d_Resolver_joinAs_2 rfl rfl ?_
    refine J_aload_n (q := 0) h d_Resolver_joinAs_3 rfl rfl ?_
    refine J_getf h 36 (wX_36 ad cA σ) (tb_ups in_Resolver) rfl 5 (by decide) (tb_up q_2_28) rfl d_Resolver_joinAs_4 ?_
    refine J_icmp_ge (tgt := 64) h d_Resolver_joinAs_7 (by decide) ?_ ?_
    · refine J_sub [0, 1] rfl ?_
      exact hk64 v1 σ
    · refine J_aload_n (q := 0) h d_Resolver_joinAs_10 rfl rfl ?_
      refine J_getf h 36 (wX_36 ad cA σ) (tb_ups in_Resolver) rfl 3 (by decide) (tb_up q_2_26) rfl d_Resolver_joinAs_11 ?_
      refine J_aload_n (q := 0) h d_Resolver_joinAs_14 rfl rfl ?_
      refine J_getf h 36 (wX_36 ad cA σ) (tb_ups in_Resolver) rfl 4 (by decide) (tb_up q_2_27) rfl d_Resolver_joinAs_15 ?_
      refine J_iload_n (q := 2) h d_Resolver_joinAs_18 rfl rfl ?_
      refine J_iald h 37 28 (wX_37 ad cA σ) rfl d_Resolver_joinAs_19 ?_
      refine J_iload_n (q := 1) h d_Resolver_joinAs_20 rfl rfl ?_
      refine J_callVi (As := [.int (aX_Resolver_near σ v2.toNatClampNeg), .int v1]) (st := []) (rmc := rX_Reducer_aboveOf) (q0 := 29) h (fun _ _ hf => cX_Reducer_aboveOf (jl K) D ad cA N (aX_Resolver_near σ v2.toNatClampNeg) v1 σ _ _ hf) (gd_V q_3_224 q_3_47 q_3_48 q_1_7 q_3_49) rfl ⟨rfl, rfl⟩ dd_Reducer_aboveOf ⟨Nat.le_of_ble_eq_true rfl, Nat.le_of_ble_eq_true rfl⟩ rfl rfl (wX_29 ad cA σ) rfl rfl (Nat.le_of_ble_eq_true rfl) ⟨Nat.zero_le _, Nat.zero_le _⟩ d_Resolver_joinAs_21 (fun r1 σ2 => ?_)
      refine J_istore_n (lv' := [(3, .int r1), (0, .ref (ad 36)), (1, .int v1), (2, .int v2)]) h d_Resolver_joinAs_24 rfl (by decide) rfl ?_
      refine J_iload_n (q := 0) h d_Resolver_joinAs_25 rfl rfl ?_
      refine J_bipush (v := (-3)) h d_Resolver_joinAs_26 (by decide) ?_
      refine J_icmp_ne (tgt := 34) h d_Resolver_joinAs_28 (by decide) ?_ ?_
      · refine J_bipush (v := (-3)) h d_Resolver_joinAs_31 (by decide) ?_
        exact J_iret h rfl d_Resolver_joinAs_33
      · refine J_aload_n (q := 1) h d_Resolver_joinAs_34 rfl rfl ?_
        refine J_getf h 36 (wX_36 ad cA σ2) (tb_ups in_Resolver) rfl 1 (by decide) (tb_up q_2_24) rfl d_Resolver_joinAs_35 ?_
        refine J_iload_n (q := 0) h d_Resolver_joinAs_38 rfl rfl ?_
        refine J_callVi (As := [.int r1]) (st := []) (rmc := rX_Types_kindOf) (q0 := 7) h (fun _ _ hf => cX_Types_kindOf (jl K) D ad cA r1 σ2 _ _ hf) (gd_V q_3_234 q_2_127 q_2_128 q_1_3 q_2_129) rfl ⟨rfl, rfl⟩ dd_Types_kindOf ⟨Nat.le_of_ble_eq_true rfl, Nat.le_of_ble_eq_true rfl⟩ rfl rfl (wX_7 ad cA σ2) rfl rfl (Nat.le_of_ble_eq_true rfl) ⟨Nat.zero_le _, Nat.zero_le _⟩ d_Resolver_joinAs_39 (fun r3 σ4 => ?_)
        refine J_iconst (v := 1) h d_Resolver_joinAs_42 (by decide) ?_
        refine J_icmp_eq (tgt := 58) h d_Resolver_joinAs_43 (by decide) ?_ ?_
        · refine J_iinc (q := 3) (c := 1) (lv' := fun y5 => [(2, .int y5), (3, .int r1), (0, .ref (ad 36)), (1, .int v1)]) h d_Resolver_joinAs_58 rfl (by decide) (by decide) (fun _ => rfl) (fun y5 => ?_)
          refine J_goto (tgt := 2) h d_Resolver_joinAs_61 (by decide) ?_
          refine J_sub [2, 3, 0] rfl ?_
          exact ih v1 y5 σ4
        · refine J_sub [1, 2] rfl ?_
          exact hk46 v1 σ4
def X_Resolver_joinAs_b46 (N : Nat) (v1 : Int32) (σ : SX) : Option (Int32 × SX) := (bd (X_Types_make N 0 v1 (-1) (-1) σ) (fun (r6 : Int32) (σ7 : SX) => (some (r6, σ7))))
set_option maxRecDepth 100000 in
set_option maxHeartbeats 4000000 in
theorem J_X_Resolver_joinAs_b46 (K : jx_E) (D : va_G) (A : Nat → Prop) (ad : Nat → Nat) (cA : Nat → ClassId) (N : Nat) (h : jx_ok K D clX (tysX cA) A 4 b_Resolver_joinAs y_Resolver_joinAs.cls ((Cond.code y_Resolver_joinAs b_Resolver_joinAs 4 (some .int)) :: tblG) rX_Resolver_joinAs (some .int)) : ∀ (v1 : Int32) (σ : SX), J K D clX A 4 (wX ad cA) (jx_Qi K D clX (tysX cA) (wX ad cA) A) 0 0 46 [(0, .ref (ad 36)), (1, .int v1)] [] σ (X_Resolver_joinAs_b46 N v1 σ) := by
  intro v1 σ
  rw [X_Resolver_joinAs_b46]
  refine J_aload_n (q := 0) h d_Resolver_joinAs_46 rfl rfl ?_
  refine J_getf h 36 (wX_36 ad cA σ) (tb_ups in_Resolver) rfl 1 (by decide) (tb_up q_2_24) rfl d_Resolver_joinAs_47 ?_
  refine J_iconst (v := 0) h d_Resolver_joinAs_50 (by decide) ?_
  refine J_iload_n (q := 1) h d_Resolver_joinAs_51 rfl rfl ?_
  refine J_iconst (v := (-1)) h d_Resolver_joinAs_52 (by decide) ?_
  refine J_iconst (v := (-1)) h d_Resolver_joinAs_53 (by decide) ?_
  refine J_callVi (As := [.int 0, .int v1, .int (-1), .int (-1)]) (st := []) (rmc := rX_Types_make) (q0 := 7) h (fun _ _ hf => cX_Types_make (jl K) D ad cA N 0 v1 (-1) (-1) σ _ _ hf) (gd_V q_3_229 q_2_173 q_2_174 q_1_3 q_2_175) rfl ⟨rfl, rfl⟩ dd_Types_make ⟨Nat.le_of_ble_eq_true rfl, Nat.le_of_ble_eq_true rfl⟩ rfl rfl (wX_7 ad cA σ) rfl rfl (Nat.le_of_ble_eq_true rfl) ⟨Nat.zero_le _, Nat.zero_le _⟩ d_Resolver_joinAs_54 (fun r6 σ7 => ?_)
  exact J_iret h rfl d_Resolver_joinAs_57
def X_Resolver_joinAs_b93 (N : Nat) (v1 : Int32) (v2 : Int32) (s0 : Int32) (σ : SX) : Option (Int32 × SX) := (if v2 = (-3) then (some ((-3), σ)) else (if s0 = (-3) then (some ((-3), σ)) else (bd (X_Types_make N 1 v1 v2 s0 σ) (fun (r12 : Int32) (σ13 : SX) => (some (r12, σ13))))))
set_option maxRecDepth 100000 in
set_option maxHeartbeats 4000000 in
theorem J_X_Resolver_joinAs_b93 (K : jx_E) (D : va_G) (A : Nat → Prop) (ad : Nat → Nat) (cA : Nat → ClassId) (N : Nat) (h : jx_ok K D clX (tysX cA) A 4 b_Resolver_joinAs y_Resolver_joinAs.cls ((Cond.code y_Resolver_joinAs b_Resolver_joinAs 4 (some .int)) :: tblG) rX_Resolver_joinAs (some .int)) : ∀ (v1 : Int32) (v2 : Int32) (s0 : Int32) (σ : SX), J K D clX A 4 (wX ad cA) (jx_Qi K D clX (tysX cA) (wX ad cA) A) 0 0 93 [(0, .ref (ad 36)), (1, .int v1), (2, .int v2)] [.int s0] σ (X_Resolver_joinAs_b93 N v1 v2 s0 σ) := by
  intro v1 v2 s0 σ
  rw [X_Resolver_joinAs_b93]
  refine J_istore_n (lv' := [(3, .int s0), (0, .ref (ad 36)), (1, .int v1), (2, .int v2)]) h d_Resolver_joinAs_93 rfl (by decide) rfl ?_
  refine J_iload_n (q := 3) h d_Resolver_joinAs_94 rfl rfl ?_
  refine J_bipush (v := (-3)) h d_Resolver_joinAs_95 (by decide) ?_
  refine J_icmp_eq (tgt := 106) h d_Resolver_joinAs_97 (by decide) ?_ ?_
  · refine J_bipush (v := (-3)) h d_Resolver_joinAs_106 (by decide) ?_
    refine J_goto (tgt := 122) h d_Resolver_joinAs_108 (by decide) ?_
    exact J_iret h rfl d_Resolver_joinAs_122
  · refine J_iload_n (q := 0) h d_Resolver_joinAs_100 rfl rfl ?_
    refine J_bipush (v := (-3)) h d_Resolver_joinAs_101 (by decide) ?_
    refine J_icmp_ne (tgt := 111) h d_Resolver_joinAs_103 (by decide) ?_ ?_
    · refine J_bipush (v := (-3)) h d_Resolver_joinAs_106 (by decide) ?_
      refine J_goto (tgt := 122) h d_Resolver_joinAs_108 (by decide) ?_
      exact J_iret h rfl d_Resolver_joinAs_122
    · refine J_aload_n (q := 1) h d_Resolver_joinAs_111 rfl rfl ?_
      refine J_getf h 36 (wX_36 ad cA σ) (tb_ups in_Resolver) rfl 1 (by decide) (tb_up q_2_24) rfl d_Resolver_joinAs_112 ?_
      refine J_iconst (v := 1) h d_Resolver_joinAs_115 (by decide) ?_
      refine J_iload_n (q := 2) h d_Resolver_joinAs_116 rfl rfl ?_
      refine J_iload_n (q := 3) h d_Resolver_joinAs_117 rfl rfl ?_
      refine J_iload_n (q := 0) h d_Resolver_joinAs_118 rfl rfl ?_
      refine J_callVi (As := [.int 1, .int v1, .int v2, .int s0]) (st := []) (rmc := rX_Types_make) (q0 := 7) h (fun _ _ hf => cX_Types_make (jl K) D ad cA N 1 v1 v2 s0 σ _ _ hf) (gd_V q_3_229 q_2_173 q_2_174 q_1_3 q_2_175) rfl ⟨rfl, rfl⟩ dd_Types_make ⟨Nat.le_of_ble_eq_true rfl, Nat.le_of_ble_eq_true rfl⟩ rfl rfl (wX_7 ad cA σ) rfl rfl (Nat.le_of_ble_eq_true rfl) ⟨Nat.zero_le _, Nat.zero_le _⟩ d_Resolver_joinAs_119 (fun r12 σ13 => ?_)
      exact J_iret h rfl d_Resolver_joinAs_122
def X_Resolver_joinAs_b64 (N : Nat) (v1 : Int32) (σ : SX) : Option (Int32 × SX) := (bd (X_Resolver_sharedArgument N v1 0 σ) (fun (r8 : Int32) (σ9 : SX) => (bd (X_Classes_parametersOf v1 σ9) (fun (r10 : Int32) (σ11 : SX) => (if r10 ≤ 1 then (X_Resolver_joinAs_b93 N v1 r8 (-1) σ11) else (bd (X_Resolver_sharedArgument N v1 1 σ11) (fun (r14 : Int32) (σ15 : SX) => (X_Resolver_joinAs_b93 N v1 r8 r14 σ15))))))))
set_option maxRecDepth 100000 in
set_option maxHeartbeats 4000000 in
theorem J_X_Resolver_joinAs_b64 (K : jx_E) (D : va_G) (A : Nat → Prop) (ad : Nat → Nat) (cA : Nat → ClassId) (N : Nat) (h : jx_ok K D clX (tysX cA) A 4 b_Resolver_joinAs y_Resolver_joinAs.cls ((Cond.code y_Resolver_joinAs b_Resolver_joinAs 4 (some .int)) :: tblG) rX_Resolver_joinAs (some .int)) : ∀ (v1 : Int32) (σ : SX), J K D clX A 4 (wX ad cA) (jx_Qi K D clX (tysX cA) (wX ad cA) A) 0 0 64 [(0, .ref (ad 36)), (1, .int v1)] [] σ (X_Resolver_joinAs_b64 N v1 σ) := by
  intro v1 σ
  rw [X_Resolver_joinAs_b64]
  refine J_aload_n (q := 0) h d_Resolver_joinAs_64 rfl rfl ?_
  refine J_iload_n (q := 1) h d_Resolver_joinAs_65 rfl rfl ?_
  refine J_iconst (v := 0) h d_Resolver_joinAs_66 (by decide) ?_
  refine J_callVi (As := [.int v1, .int 0]) (st := []) (rmc := rX_Resolver_sharedArgument) (q0 := 36) h (fun _ _ hf => cX_Resolver_sharedArgument (jl K) D ad cA N v1 0 σ _ _ hf) (gd_V q_3_235 q_3_237 q_s_25 q_1_10 q_3_238) rfl ⟨rfl, rfl⟩ dd_Resolver_sharedArgument ⟨Nat.le_of_ble_eq_true rfl, Nat.le_of_ble_eq_true rfl⟩ rfl rfl (wX_36 ad cA σ) rfl rfl (Nat.le_of_ble_eq_true rfl) ⟨Nat.zero_le _, Nat.zero_le _⟩ d_Resolver_joinAs_67 (fun r8 σ9 => ?_)
  refine J_istore_n (lv' := [(2, .int r8), (0, .ref (ad 36)), (1, .int v1)]) h d_Resolver_joinAs_70 rfl (by decide) rfl ?_
  refine J_aload_n (q := 1) h d_Resolver_joinAs_71 rfl rfl ?_
  refine J_getf h 36 (wX_36 ad cA σ9) (tb_ups in_Resolver) rfl 0 (by decide) (tb_up q_2_23) rfl d_Resolver_joinAs_72 ?_
  refine J_iload_n (q := 2) h d_Resolver_joinAs_75 rfl rfl ?_
  refine J_callVi (As := [.int v1]) (st := []) (rmc := rX_Classes_parametersOf) (q0 := 1) h (fun _ _ hf => cX_Classes_parametersOf (jl K) D ad cA v1 σ9 _ _ hf) (gd_V q_4_0 q_2_139 q_2_140 q_1_2 q_2_141) rfl ⟨rfl, rfl⟩ dd_Classes_parametersOf ⟨Nat.le_of_ble_eq_true rfl, Nat.le_of_ble_eq_true rfl⟩ rfl rfl (wX_1 ad cA σ9) rfl rfl (Nat.le_of_ble_eq_true rfl) ⟨Nat.zero_le _, Nat.zero_le _⟩ d_Resolver_joinAs_76 (fun r10 σ11 => ?_)
  refine J_iconst (v := 1) h d_Resolver_joinAs_79 (by decide) ?_
  refine J_icmp_le (tgt := 92) h d_Resolver_joinAs_80 (by decide) ?_ ?_
  · refine J_iconst (v := (-1)) h d_Resolver_joinAs_92 (by decide) ?_
    refine J_sub [1, 2, 0] rfl ?_
    exact J_X_Resolver_joinAs_b93 K D A ad cA N h v1 r8 (-1) σ11
  · refine J_aload_n (q := 1) h d_Resolver_joinAs_83 rfl rfl ?_
    refine J_iload_n (q := 2) h d_Resolver_joinAs_84 rfl rfl ?_
    refine J_iconst (v := 1) h d_Resolver_joinAs_85 (by decide) ?_
    refine J_callVi (As := [.int v1, .int 1]) (st := []) (rmc := rX_Resolver_sharedArgument) (q0 := 36) h (fun _ _ hf => cX_Resolver_sharedArgument (jl K) D ad cA N v1 1 σ11 _ _ hf) (gd_V q_3_235 q_3_237 q_s_25 q_1_10 q_3_238) rfl ⟨rfl, rfl⟩ dd_Resolver_sharedArgument ⟨Nat.le_of_ble_eq_true rfl, Nat.le_of_ble_eq_true rfl⟩ rfl rfl (wX_36 ad cA σ11) rfl rfl (Nat.le_of_ble_eq_true rfl) ⟨Nat.zero_le _, Nat.zero_le _⟩ d_Resolver_joinAs_86 (fun r14 σ15 => ?_)
    refine J_goto (tgt := 93) h d_Resolver_joinAs_89 (by decide) ?_
    refine J_sub [1, 2, 0] rfl ?_
    exact J_X_Resolver_joinAs_b93 K D A ad cA N h v1 r8 r14 σ15
def X_Resolver_joinAs (N : Nat) (x1 : Int32) (σ : SX) : Option (Int32 × SX) := (X_Resolver_joinAs_L2 N (X_Resolver_joinAs_b64 N) (X_Resolver_joinAs_b46 N) N x1 0 σ)
set_option maxRecDepth 100000 in
set_option maxHeartbeats 4000000 in
theorem J_X_Resolver_joinAs (K : jx_E) (D : va_G) (A : Nat → Prop) (ad : Nat → Nat) (cA : Nat → ClassId) (N : Nat) (h : jx_ok K D clX (tysX cA) A 4 b_Resolver_joinAs y_Resolver_joinAs.cls ((Cond.code y_Resolver_joinAs b_Resolver_joinAs 4 (some .int)) :: tblG) rX_Resolver_joinAs (some .int)) : ∀ (x1 : Int32) (σ : SX), J K D clX A 4 (wX ad cA) (jx_Qi K D clX (tysX cA) (wX ad cA) A) 0 0 0 [(0, .ref (ad 36)), (1, .int x1)] [] σ (X_Resolver_joinAs N x1 σ) := by
  intro x1 σ
  rw [X_Resolver_joinAs]
  refine J_iconst (v := 0) h d_Resolver_joinAs_0 (by decide) ?_
  refine J_istore_n (lv' := [(2, .int 0), (0, .ref (ad 36)), (1, .int x1)]) h d_Resolver_joinAs_1 rfl (by decide) rfl ?_
  refine J_sub [1, 2, 0] rfl ?_
  exact J_X_Resolver_joinAs_L2 K D A ad cA N h (X_Resolver_joinAs_b64 N) (J_X_Resolver_joinAs_b64 K D A ad cA N h) (X_Resolver_joinAs_b46 N) (J_X_Resolver_joinAs_b46 K D A ad cA N h) N x1 0 σ
set_option maxRecDepth 100000 in
theorem cX_Resolver_joinAs (l : Launch) (D : va_G) (ad : Nat → Nat) (cA : Nat → ClassId) (N : Nat) (x1 : Int32) (σ : SX) (r : Int32) (σ' : SX) (hf : X_Resolver_joinAs N x1 σ = some (r, σ')) : MetI l y_Resolver_joinAs ((Cond.code y_Resolver_joinAs b_Resolver_joinAs 4 (some .int)) :: tblG) rX_Resolver_joinAs D clX (tysX cA) (wX ad cA) [.ref (ad 36), .int x1] σ r σ' :=
  jx_metI (by decide) rfl (Nat.le_of_ble_eq_true rfl) (fun K A h => J_X_Resolver_joinAs K D A ad cA N h x1 σ) hf
def rX_Resolver_joinOfClasses : Room := { frames := 27, cells := 0, slots := 0, locals := 799 }
theorem rm_ok_X_Resolver_joinOfClasses : rX_Resolver_joinOfClasses.cells = 0 ∧ rX_Resolver_joinOfClasses.slots = 0 := ⟨rfl, rfl⟩
def X_Resolver_joinOfClasses_b44 (N : Nat) (k4 : Int64 → Int32 → SX → Option (Int32 × SX)) (v1 : Int64) (v3 : Int32) (σ : SX) : Option (Int32 × SX) := (nm (v3 + 1) (fun (y4 : Int32) => (k4 v1 y4 σ)))
set_option maxRecDepth 100000 in
set_option maxHeartbeats 4000000 in
theorem J_X_Resolver_joinOfClasses_b44 (K : jx_E) (D : va_G) (A : Nat → Prop) (ad : Nat → Nat) (cA : Nat → ClassId) (N : Nat) (h : jx_ok K D clX (tysX cA) A 5 b_Resolver_joinOfClasses y_Resolver_joinOfClasses.cls ((Cond.code y_Resolver_joinOfClasses b_Resolver_joinOfClasses 5 (some .int)) :: tblG) rX_Resolver_joinOfClasses (some .int)) (k4 : Int64 → Int32 → SX → Option (Int32 × SX)) (hk4 : ∀ (v1 : Int64) (v3 : Int32) (σ : SX), J K D clX A 5 (wX ad cA) (jx_Qi K D clX (tysX cA) (wX ad cA) A) 0 0 4 [(0, .ref (ad 36)), (1, .long v1), (3, .int v3)] [] σ (k4 v1 v3 σ)) : ∀ (v1 : Int64) (v3 : Int32) (σ : SX), J K D clX A 5 (wX ad cA) (jx_Qi K D clX (tysX cA) (wX ad cA) A) 0 0 44 [(0, .ref (ad 36)), (1, .long v1), (3, .int v3)] [] σ (X_Resolver_joinOfClasses_b44 N k4 v1 v3 σ) := by
  intro v1 v3 σ
  rw [X_Resolver_joinOfClasses_b44]
  refine J_iinc (q := 2) (c := 1) (lv' := fun y4 => [(3, .int y4), (0, .ref (ad 36)), (1, .long v1)]) h d_Resolver_joinOfClasses_44 rfl (by decide) (by decide) (fun _ => rfl) (fun y4 => ?_)
  refine J_goto (tgt := 4) h d_Resolver_joinOfClasses_47 (by decide) ?_
  refine J_sub [1, 2, 0] rfl ?_
  exact hk4 v1 y4 σ
def X_Resolver_joinOfClasses_L4 (N : Nat) (k50 : Int64 → SX → Option (Int32 × SX)) : Nat → Int64 → Int32 → SX → Option (Int32 × SX)
  | 0, _, _, _ => none
  | n + 1, v1, v3, σ => (if (gX_Classes_size σ) ≤ v3 then (k50 v1 σ) else (bd (X_Resolver_isAboveAll N v3 σ) (fun (r1 : Int32) (σ2 : SX) => (if r1 = (-3) then (some ((-3), σ2)) else (if r1 = 1 then (nm ((v1 ||| ((1 : Int64) <<< (v3.toInt64 &&& 63)))) (fun (y3 : Int64) => (X_Resolver_joinOfClasses_b44 N (X_Resolver_joinOfClasses_L4 N k50 n) y3 v3 σ2))) else (X_Resolver_joinOfClasses_b44 N (X_Resolver_joinOfClasses_L4 N k50 n) v1 v3 σ2))))))
set_option maxRecDepth 100000 in
set_option maxHeartbeats 4000000 in
theorem J_X_Resolver_joinOfClasses_L4 (K : jx_E) (D : va_G) (A : Nat → Prop) (ad : Nat → Nat) (cA : Nat → ClassId) (N : Nat) (h : jx_ok K D clX (tysX cA) A 5 b_Resolver_joinOfClasses y_Resolver_joinOfClasses.cls ((Cond.code y_Resolver_joinOfClasses b_Resolver_joinOfClasses 5 (some .int)) :: tblG) rX_Resolver_joinOfClasses (some .int)) (k50 : Int64 → SX → Option (Int32 × SX)) (hk50 : ∀ (v1 : Int64) (σ : SX), J K D clX A 5 (wX ad cA) (jx_Qi K D clX (tysX cA) (wX ad cA) A) 0 0 50 [(0, .ref (ad 36)), (1, .long v1)] [] σ (k50 v1 σ)) : ∀ (n : Nat) (v1 : Int64) (v3 : Int32) (σ : SX), J K D clX A 5 (wX ad cA) (jx_Qi K D clX (tysX cA) (wX ad cA) A) 0 0 4 [(0, .ref (ad 36)), (1, .long v1), (3, .int v3)] [] σ (X_Resolver_joinOfClasses_L4 N k50 n v1 v3 σ) := by
  intro n
  induction n with
  | zero => intro v1 v3 σ; exact J_none
  | succ n ih =>
    intro v1 v3 σ
    rw [X_Resolver_joinOfClasses_L4]
    refine J_iload_n (q := 2) h d_Resolver_joinOfClasses_4 rfl rfl ?_
    refine J_aload_n (q := 0) h d_Resolver_joinOfClasses_5 rfl rfl ?_
    refine J_getf h 36 (wX_36 ad cA σ) (tb_ups in_Resolver) rfl 0 (by decide) (tb_up q_2_23) rfl d_Resolver_joinOfClasses_6 ?_
    refine J_getf h 1 (wX_1 ad cA σ) (tb_ups in_Classes) rfl 5 (by decide) (tb_up q_1_35) rfl d_Resolver_joinOfClasses_9 ?_
    refine J_icmp_ge (tgt := 50) h d_Resolver_joinOfClasses_12 (by decide) ?_ ?_
    · refine J_sub [0, 1] rfl ?_
      exact hk50 v1 σ
    · refine J_aload_n (q := 0) h d_Resolver_joinOfClasses_15 rfl rfl ?_
      refine J_iload_n (q := 2) h d_Resolver_joinOfClasses_16 rfl rfl ?_
      refine J_callVi (As := [.int v3]) (st := []) (rmc := rX_Resolver_isAboveAll) (q0 := 36) h (fun _ _ hf => cX_Resolver_isAboveAll (jl K) D ad cA N v3 σ _ _ hf) (gd_V q_3_220 q_3_222 q_s_22 q_1_10 q_3_223) rfl ⟨rfl, rfl⟩ dd_Resolver_isAboveAll ⟨Nat.le_of_ble_eq_true rfl, Nat.le_of_ble_eq_true rfl⟩ rfl rfl (wX_36 ad cA σ) rfl rfl (Nat.le_of_ble_eq_true rfl) ⟨Nat.zero_le _, Nat.zero_le _⟩ d_Resolver_joinOfClasses_17 (fun r1 σ2 => ?_)
      refine J_istore (lv' := [(4, .int r1), (0, .ref (ad 36)), (1, .long v1), (3, .int v3)]) h d_Resolver_joinOfClasses_20 (by decide) rfl ?_
      refine J_iload (q := 0) h d_Resolver_joinOfClasses_22 rfl ?_
      refine J_bipush (v := (-3)) h d_Resolver_joinOfClasses_24 (by decide) ?_
      refine J_icmp_ne (tgt := 32) h d_Resolver_joinOfClasses_26 (by decide) ?_ ?_
      · refine J_bipush (v := (-3)) h d_Resolver_joinOfClasses_29 (by decide) ?_
        exact J_iret h rfl d_Resolver_joinOfClasses_31
      · refine J_iload (q := 0) h d_Resolver_joinOfClasses_32 rfl ?_
        refine J_iconst (v := 1) h d_Resolver_joinOfClasses_34 (by decide) ?_
        refine J_icmp_ne (tgt := 44) h d_Resolver_joinOfClasses_35 (by decide) ?_ ?_
        · refine J_lload_n (q := 2) h d_Resolver_joinOfClasses_38 rfl rfl ?_
          refine J_lconst (v := 1) h d_Resolver_joinOfClasses_39 (by decide) ?_
          refine J_iload_n (q := 3) h d_Resolver_joinOfClasses_40 rfl rfl ?_
          refine J_lshl h d_Resolver_joinOfClasses_41 ?_
          refine J_lor h d_Resolver_joinOfClasses_42 ?_
          refine J_nml (fun y3 => ?_)
          refine J_lstore_n (lv' := [(1, .long y3), (4, .int r1), (0, .ref (ad 36)), (3, .int v3)]) h d_Resolver_joinOfClasses_43 rfl (by decide) rfl ?_
          refine J_sub [2, 0, 3] rfl ?_
          exact J_X_Resolver_joinOfClasses_b44 K D A ad cA N h (X_Resolver_joinOfClasses_L4 N k50 n) ih y3 v3 σ2
        · refine J_sub [1, 2, 3] rfl ?_
          exact J_X_Resolver_joinOfClasses_b44 K D A ad cA N h (X_Resolver_joinOfClasses_L4 N k50 n) ih v1 v3 σ2
def X_Resolver_joinOfClasses_b105 (N : Nat) (k52 : Int64 → Int32 → SX → Option (Int32 × SX)) (v1 : Int64) (v3 : Int32) (σ : SX) : Option (Int32 × SX) := (nm (v3 + 1) (fun (y5 : Int32) => (k52 v1 y5 σ)))
set_option maxRecDepth 100000 in
set_option maxHeartbeats 4000000 in
theorem J_X_Resolver_joinOfClasses_b105 (K : jx_E) (D : va_G) (A : Nat → Prop) (ad : Nat → Nat) (cA : Nat → ClassId) (N : Nat) (h : jx_ok K D clX (tysX cA) A 5 b_Resolver_joinOfClasses y_Resolver_joinOfClasses.cls ((Cond.code y_Resolver_joinOfClasses b_Resolver_joinOfClasses 5 (some .int)) :: tblG) rX_Resolver_joinOfClasses (some .int)) (k52 : Int64 → Int32 → SX → Option (Int32 × SX)) (hk52 : ∀ (v1 : Int64) (v3 : Int32) (σ : SX), J K D clX A 5 (wX ad cA) (jx_Qi K D clX (tysX cA) (wX ad cA) A) 0 0 52 [(0, .ref (ad 36)), (1, .long v1), (3, .int v3)] [] σ (k52 v1 v3 σ)) : ∀ (v1 : Int64) (v3 : Int32) (σ : SX), J K D clX A 5 (wX ad cA) (jx_Qi K D clX (tysX cA) (wX ad cA) A) 0 0 105 [(0, .ref (ad 36)), (1, .long v1), (3, .int v3)] [] σ (X_Resolver_joinOfClasses_b105 N k52 v1 v3 σ) := by
  intro v1 v3 σ
  rw [X_Resolver_joinOfClasses_b105]
  refine J_iinc (q := 2) (c := 1) (lv' := fun y5 => [(3, .int y5), (0, .ref (ad 36)), (1, .long v1)]) h d_Resolver_joinOfClasses_105 rfl (by decide) (by decide) (fun _ => rfl) (fun y5 => ?_)
  refine J_goto (tgt := 52) h d_Resolver_joinOfClasses_108 (by decide) ?_
  refine J_sub [1, 2, 0] rfl ?_
  exact hk52 v1 y5 σ
def X_Resolver_joinOfClasses_L52 (N : Nat) (k99 : Int32 → SX → Option (Int32 × SX)) : Nat → Int64 → Int32 → SX → Option (Int32 × SX)
  | 0, _, _, _ => none
  | n + 1, v1, v3, σ => (if (gX_Classes_size σ) ≤ v3 then (some ((-1), σ)) else (if (lg_cmp ((v1 >>> (v3.toInt64 &&& 63)) &&& 1) 0) = 0 then (X_Resolver_joinOfClasses_b105 N (X_Resolver_joinOfClasses_L52 N k99 n) v1 v3 σ) else (bd (X_Resolver_isAboveAnother N v3 v1 σ) (fun (r6 : Int32) (σ7 : SX) => (if r6 = (-3) then (some ((-3), σ7)) else (if r6 = 0 then (k99 v3 σ7) else (X_Resolver_joinOfClasses_b105 N (X_Resolver_joinOfClasses_L52 N k99 n) v1 v3 σ7)))))))
set_option maxRecDepth 100000 in
set_option maxHeartbeats 4000000 in
theorem J_X_Resolver_joinOfClasses_L52 (K : jx_E) (D : va_G) (A : Nat → Prop) (ad : Nat → Nat) (cA : Nat → ClassId) (N : Nat) (h : jx_ok K D clX (tysX cA) A 5 b_Resolver_joinOfClasses y_Resolver_joinOfClasses.cls ((Cond.code y_Resolver_joinOfClasses b_Resolver_joinOfClasses 5 (some .int)) :: tblG) rX_Resolver_joinOfClasses (some .int)) (k99 : Int32 → SX → Option (Int32 × SX)) (hk99 : ∀ (v3 : Int32) (σ : SX), J K D clX A 5 (wX ad cA) (jx_Qi K D clX (tysX cA) (wX ad cA) A) 0 0 99 [(0, .ref (ad 36)), (3, .int v3)] [] σ (k99 v3 σ)) : ∀ (n : Nat) (v1 : Int64) (v3 : Int32) (σ : SX), J K D clX A 5 (wX ad cA) (jx_Qi K D clX (tysX cA) (wX ad cA) A) 0 0 52 [(0, .ref (ad 36)), (1, .long v1), (3, .int v3)] [] σ (X_Resolver_joinOfClasses_L52 N k99 n v1 v3 σ) := by
  intro n
  induction n with
  | zero => intro v1 v3 σ; exact J_none
  | succ n ih =>
    intro v1 v3 σ
    rw [X_Resolver_joinOfClasses_L52]
    refine J_iload_n (q := 2) h d_Resolver_joinOfClasses_52 rfl rfl ?_
    refine J_aload_n (q := 0) h d_Resolver_joinOfClasses_53 rfl rfl ?_
    refine J_getf h 36 (wX_36 ad cA σ) (tb_ups in_Resolver) rfl 0 (by decide) (tb_up q_2_23) rfl d_Resolver_joinOfClasses_54 ?_
    refine J_getf h 1 (wX_1 ad cA σ) (tb_ups in_Classes) rfl 5 (by decide) (tb_up q_1_35) rfl d_Resolver_joinOfClasses_57 ?_
    refine J_icmp_ge (tgt := 111) h d_Resolver_joinOfClasses_60 (by decide) ?_ ?_
    · refine J_iconst (v := (-1)) h d_Resolver_joinOfClasses_111 (by decide) ?_
      exact J_iret h rfl d_Resolver_joinOfClasses_112
    · refine J_lload_n (q := 1) h d_Resolver_joinOfClasses_63 rfl rfl ?_
      refine J_iload_n (q := 2) h d_Resolver_joinOfClasses_64 rfl rfl ?_
      refine J_lshr h d_Resolver_joinOfClasses_65 ?_
      refine J_lconst (v := 1) h d_Resolver_joinOfClasses_66 (by decide) ?_
      refine J_land h d_Resolver_joinOfClasses_67 ?_
      refine J_lconst (v := 0) h d_Resolver_joinOfClasses_68 (by decide) ?_
      refine J_lcmp h d_Resolver_joinOfClasses_69 ?_
      refine J_if_ne (tgt := 76) h d_Resolver_joinOfClasses_70 (by decide) ?_ ?_
      · refine J_goto (tgt := 105) h d_Resolver_joinOfClasses_73 (by decide) ?_
        exact J_X_Resolver_joinOfClasses_b105 K D A ad cA N h (X_Resolver_joinOfClasses_L52 N k99 n) ih v1 v3 σ
      · refine J_aload_n (q := 0) h d_Resolver_joinOfClasses_76 rfl rfl ?_
        refine J_iload_n (q := 2) h d_Resolver_joinOfClasses_77 rfl rfl ?_
        refine J_lload_n (q := 1) h d_Resolver_joinOfClasses_78 rfl rfl ?_
        refine J_callVi (As := [.int v3, .long v1]) (st := []) (rmc := rX_Resolver_isAboveAnother) (q0 := 36) h (fun _ _ hf => cX_Resolver_isAboveAnother (jl K) D ad cA N v3 v1 σ _ _ hf) (gd_V q_3_225 q_3_227 q_s_23 q_1_10 q_3_228) rfl ⟨rfl, rfl⟩ dd_Resolver_isAboveAnother ⟨Nat.le_of_ble_eq_true rfl, Nat.le_of_ble_eq_true rfl⟩ rfl rfl (wX_36 ad cA σ) rfl rfl (Nat.le_of_ble_eq_true rfl) ⟨Nat.zero_le _, Nat.zero_le _⟩ d_Resolver_joinOfClasses_79 (fun r6 σ7 => ?_)
        refine J_istore (lv' := [(4, .int r6), (0, .ref (ad 36)), (1, .long v1), (3, .int v3)]) h d_Resolver_joinOfClasses_82 (by decide) rfl ?_
        refine J_iload (q := 0) h d_Resolver_joinOfClasses_84 rfl ?_
        refine J_bipush (v := (-3)) h d_Resolver_joinOfClasses_86 (by decide) ?_
        refine J_icmp_ne (tgt := 94) h d_Resolver_joinOfClasses_88 (by decide) ?_ ?_
        · refine J_bipush (v := (-3)) h d_Resolver_joinOfClasses_91 (by decide) ?_
          exact J_iret h rfl d_Resolver_joinOfClasses_93
        · refine J_iload (q := 0) h d_Resolver_joinOfClasses_94 rfl ?_
          refine J_if_ne (tgt := 105) h d_Resolver_joinOfClasses_96 (by decide) ?_ ?_
          · refine J_sub [1, 3] rfl ?_
            exact hk99 v3 σ7
          · refine J_sub [1, 2, 3] rfl ?_
            exact J_X_Resolver_joinOfClasses_b105 K D A ad cA N h (X_Resolver_joinOfClasses_L52 N k99 n) ih v1 v3 σ7
def X_Resolver_joinOfClasses_b99 (N : Nat) (v3 : Int32) (σ : SX) : Option (Int32 × SX) := (bd (X_Resolver_joinAs N v3 σ) (fun (r8 : Int32) (σ9 : SX) => (some (r8, σ9))))
set_option maxRecDepth 100000 in
set_option maxHeartbeats 4000000 in
theorem J_X_Resolver_joinOfClasses_b99 (K : jx_E) (D : va_G) (A : Nat → Prop) (ad : Nat → Nat) (cA : Nat → ClassId) (N : Nat) (h : jx_ok K D clX (tysX cA) A 5 b_Resolver_joinOfClasses y_Resolver_joinOfClasses.cls ((Cond.code y_Resolver_joinOfClasses b_Resolver_joinOfClasses 5 (some .int)) :: tblG) rX_Resolver_joinOfClasses (some .int)) : ∀ (v3 : Int32) (σ : SX), J K D clX A 5 (wX ad cA) (jx_Qi K D clX (tysX cA) (wX ad cA) A) 0 0 99 [(0, .ref (ad 36)), (3, .int v3)] [] σ (X_Resolver_joinOfClasses_b99 N v3 σ) := by
  intro v3 σ
  rw [X_Resolver_joinOfClasses_b99]
  refine J_aload_n (q := 0) h d_Resolver_joinOfClasses_99 rfl rfl ?_
  refine J_iload_n (q := 1) h d_Resolver_joinOfClasses_100 rfl rfl ?_
  refine J_callVi (As := [.int v3]) (st := []) (rmc := rX_Resolver_joinAs) (q0 := 36) h (fun _ _ hf => cX_Resolver_joinAs (jl K) D ad cA N v3 σ _ _ hf) (gd_V q_3_230 q_3_232 q_s_24 q_1_10 q_3_233) rfl ⟨rfl, rfl⟩ dd_Resolver_joinAs ⟨Nat.le_of_ble_eq_true rfl, Nat.le_of_ble_eq_true rfl⟩ rfl rfl (wX_36 ad cA σ) rfl rfl (Nat.le_of_ble_eq_true rfl) ⟨Nat.zero_le _, Nat.zero_le _⟩ d_Resolver_joinOfClasses_101 (fun r8 σ9 => ?_)
  exact J_iret h rfl d_Resolver_joinOfClasses_104
def X_Resolver_joinOfClasses_b50 (N : Nat) (v1 : Int64) (σ : SX) : Option (Int32 × SX) := (X_Resolver_joinOfClasses_L52 N (X_Resolver_joinOfClasses_b99 N) N v1 0 σ)
set_option maxRecDepth 100000 in
set_option maxHeartbeats 4000000 in
theorem J_X_Resolver_joinOfClasses_b50 (K : jx_E) (D : va_G) (A : Nat → Prop) (ad : Nat → Nat) (cA : Nat → ClassId) (N : Nat) (h : jx_ok K D clX (tysX cA) A 5 b_Resolver_joinOfClasses y_Resolver_joinOfClasses.cls ((Cond.code y_Resolver_joinOfClasses b_Resolver_joinOfClasses 5 (some .int)) :: tblG) rX_Resolver_joinOfClasses (some .int)) : ∀ (v1 : Int64) (σ : SX), J K D clX A 5 (wX ad cA) (jx_Qi K D clX (tysX cA) (wX ad cA) A) 0 0 50 [(0, .ref (ad 36)), (1, .long v1)] [] σ (X_Resolver_joinOfClasses_b50 N v1 σ) := by
  intro v1 σ
  rw [X_Resolver_joinOfClasses_b50]
  refine J_iconst (v := 0) h d_Resolver_joinOfClasses_50 (by decide) ?_
  refine J_istore_n (lv' := [(3, .int 0), (0, .ref (ad 36)), (1, .long v1)]) h d_Resolver_joinOfClasses_51 rfl (by decide) rfl ?_
  refine J_sub [1, 2, 0] rfl ?_
  exact J_X_Resolver_joinOfClasses_L52 K D A ad cA N h (X_Resolver_joinOfClasses_b99 N) (J_X_Resolver_joinOfClasses_b99 K D A ad cA N h) N v1 0 σ
def X_Resolver_joinOfClasses (N : Nat)  (σ : SX) : Option (Int32 × SX) := (X_Resolver_joinOfClasses_L4 N (X_Resolver_joinOfClasses_b50 N) N 0 0 σ)
set_option maxRecDepth 100000 in
set_option maxHeartbeats 4000000 in
theorem J_X_Resolver_joinOfClasses (K : jx_E) (D : va_G) (A : Nat → Prop) (ad : Nat → Nat) (cA : Nat → ClassId) (N : Nat) (h : jx_ok K D clX (tysX cA) A 5 b_Resolver_joinOfClasses y_Resolver_joinOfClasses.cls ((Cond.code y_Resolver_joinOfClasses b_Resolver_joinOfClasses 5 (some .int)) :: tblG) rX_Resolver_joinOfClasses (some .int)) : ∀  (σ : SX), J K D clX A 5 (wX ad cA) (jx_Qi K D clX (tysX cA) (wX ad cA) A) 0 0 0 [(0, .ref (ad 36))] [] σ (X_Resolver_joinOfClasses N  σ) := by
  intro  σ
  rw [X_Resolver_joinOfClasses]
  refine J_lconst (v := 0) h d_Resolver_joinOfClasses_0 (by decide) ?_
  refine J_lstore_n (lv' := [(1, .long 0), (0, .ref (ad 36))]) h d_Resolver_joinOfClasses_1 rfl (by decide) rfl ?_
  refine J_iconst (v := 0) h d_Resolver_joinOfClasses_2 (by decide) ?_
  refine J_istore_n (lv' := [(3, .int 0), (1, .long 0), (0, .ref (ad 36))]) h d_Resolver_joinOfClasses_3 rfl (by decide) rfl ?_
  refine J_sub [2, 1, 0] rfl ?_
  exact J_X_Resolver_joinOfClasses_L4 K D A ad cA N h (X_Resolver_joinOfClasses_b50 N) (J_X_Resolver_joinOfClasses_b50 K D A ad cA N h) N 0 0 σ
set_option maxRecDepth 100000 in
theorem cX_Resolver_joinOfClasses (l : Launch) (D : va_G) (ad : Nat → Nat) (cA : Nat → ClassId) (N : Nat)  (σ : SX) (r : Int32) (σ' : SX) (hf : X_Resolver_joinOfClasses N  σ = some (r, σ')) : MetI l y_Resolver_joinOfClasses ((Cond.code y_Resolver_joinOfClasses b_Resolver_joinOfClasses 5 (some .int)) :: tblG) rX_Resolver_joinOfClasses D clX (tysX cA) (wX ad cA) [.ref (ad 36)] σ r σ' :=
  jx_metI (by decide) rfl (Nat.le_of_ble_eq_true rfl) (fun K A h => J_X_Resolver_joinOfClasses K D A ad cA N h  σ) hf
def rX_Resolver_choose : Room := { frames := 28, cells := 0, slots := 0, locals := 823 }
theorem rm_ok_X_Resolver_choose : rX_Resolver_choose.cells = 0 ∧ rX_Resolver_choose.slots = 0 := ⟨rfl, rfl⟩
def X_Resolver_choose_b77 (N : Nat) (v1 : Int32) (v2 : Int32) (σ : SX) : Option (Int32 × SX) := (if ck v1 12 = true then (nm (tX_Resolver_choices σ (upd (aX_Resolver_choices σ) v1.toNatClampNeg v2)) (fun (σ7 : SX) => (if v2 < 0 then (if v2 = (-3) then (some ((-3), σ7)) else (some (0, σ7))) else (some (1, σ7))))) else none)
set_option maxRecDepth 100000 in
set_option maxHeartbeats 4000000 in
theorem J_X_Resolver_choose_b77 (K : jx_E) (D : va_G) (A : Nat → Prop) (ad : Nat → Nat) (cA : Nat → ClassId) (N : Nat) (h : jx_ok K D clX (tysX cA) A 3 b_Resolver_choose y_Resolver_choose.cls ((Cond.code y_Resolver_choose b_Resolver_choose 3 (some .int)) :: tblG) rX_Resolver_choose (some .int)) : ∀ (v1 : Int32) (v2 : Int32) (σ : SX), J K D clX A 3 (wX ad cA) (jx_Qi K D clX (tysX cA) (wX ad cA) A) 0 0 77 [(0, .ref (ad 36)), (1, .int v1), (2, .int v2)] [] σ (X_Resolver_choose_b77 N v1 v2 σ) := by
  intro v1 v2 σ
  rw [X_Resolver_choose_b77]
  refine J_aload_n (q := 0) h d_Resolver_choose_77 rfl rfl ?_
  refine J_getf h 36 (wX_36 ad cA σ) (tb_ups in_Resolver) rfl 7 (by decide) (tb_up q_2_30) rfl d_Resolver_choose_78 ?_
  refine J_iload_n (q := 1) h d_Resolver_choose_81 rfl rfl ?_
  refine J_iload_n (q := 2) h d_Resolver_choose_82 rfl rfl ?_
  refine J_iast h 39 30 (wX_39 ad cA σ) rfl (uX_39 ad cA σ _) d_Resolver_choose_83 (fun σ7 => ?_)
  refine J_iload_n (q := 2) h d_Resolver_choose_84 rfl rfl ?_
  refine J_if_lt (tgt := 90) h d_Resolver_choose_85 (by decide) ?_ ?_
  · refine J_iload_n (q := 2) h d_Resolver_choose_90 rfl rfl ?_
    refine J_bipush (v := (-3)) h d_Resolver_choose_91 (by decide) ?_
    refine J_icmp_ne (tgt := 101) h d_Resolver_choose_93 (by decide) ?_ ?_
    · refine J_bipush (v := (-3)) h d_Resolver_choose_96 (by decide) ?_
      refine J_goto (tgt := 102) h d_Resolver_choose_98 (by decide) ?_
      exact J_iret h rfl d_Resolver_choose_102
    · refine J_iconst (v := 0) h d_Resolver_choose_101 (by decide) ?_
      exact J_iret h rfl d_Resolver_choose_102
  · refine J_iconst (v := 1) h d_Resolver_choose_88 (by decide) ?_
    exact J_iret h rfl d_Resolver_choose_89
def X_Resolver_choose_b76 (N : Nat) (v1 : Int32) (s0 : Int32) (σ : SX) : Option (Int32 × SX) := (X_Resolver_choose_b77 N v1 s0 σ)
set_option maxRecDepth 100000 in
set_option maxHeartbeats 4000000 in
theorem J_X_Resolver_choose_b76 (K : jx_E) (D : va_G) (A : Nat → Prop) (ad : Nat → Nat) (cA : Nat → ClassId) (N : Nat) (h : jx_ok K D clX (tysX cA) A 3 b_Resolver_choose y_Resolver_choose.cls ((Cond.code y_Resolver_choose b_Resolver_choose 3 (some .int)) :: tblG) rX_Resolver_choose (some .int)) : ∀ (v1 : Int32) (s0 : Int32) (σ : SX), J K D clX A 3 (wX ad cA) (jx_Qi K D clX (tysX cA) (wX ad cA) A) 0 0 76 [(0, .ref (ad 36)), (1, .int v1)] [.int s0] σ (X_Resolver_choose_b76 N v1 s0 σ) := by
  intro v1 s0 σ
  rw [X_Resolver_choose_b76]
  refine J_istore_n (lv' := [(2, .int s0), (0, .ref (ad 36)), (1, .int v1)]) h d_Resolver_choose_76 rfl (by decide) rfl ?_
  refine J_sub [1, 2, 0] rfl ?_
  exact J_X_Resolver_choose_b77 K D A ad cA N h v1 s0 σ
def X_Resolver_choose (N : Nat) (x1 : Int32) (σ : SX) : Option (Int32 × SX) := (if x1 < 0 then (some (0, σ)) else (if x1 < 12 then (bd (X_Resolver_gather N 2 x1 σ) (fun (r1 : Unit) (σ2 : SX) => (if (gX_Resolver_nearSize σ2) ≤ 0 then (bd (X_Resolver_gather N 1 x1 σ2) (fun (r3 : Unit) (σ4 : SX) => (if (gX_Resolver_nearSize σ4) ≤ 0 then (bd (X_Types_make N 0 0 (-1) (-1) σ4) (fun (r5 : Int32) (σ6 : SX) => (X_Resolver_choose_b76 N x1 r5 σ6))) else (bd (X_Resolver_outermost N 1 σ4) (fun (r8 : Int32) (σ9 : SX) => (X_Resolver_choose_b76 N x1 r8 σ9)))))) else (bd (X_Resolver_outermost N 2 σ2) (fun (r10 : Int32) (σ11 : SX) => (if r10 = (-1) then (bd (X_Resolver_joinOfClasses N σ11) (fun (r12 : Int32) (σ13 : SX) => (X_Resolver_choose_b77 N x1 r12 σ13))) else (X_Resolver_choose_b77 N x1 r10 σ11))))))) else (some (0, σ))))
set_option maxRecDepth 100000 in
set_option maxHeartbeats 4000000 in
theorem J_X_Resolver_choose (K : jx_E) (D : va_G) (A : Nat → Prop) (ad : Nat → Nat) (cA : Nat → ClassId) (N : Nat) (h : jx_ok K D clX (tysX cA) A 3 b_Resolver_choose y_Resolver_choose.cls ((Cond.code y_Resolver_choose b_Resolver_choose 3 (some .int)) :: tblG) rX_Resolver_choose (some .int)) : ∀ (x1 : Int32) (σ : SX), J K D clX A 3 (wX ad cA) (jx_Qi K D clX (tysX cA) (wX ad cA) A) 0 0 0 [(0, .ref (ad 36)), (1, .int x1)] [] σ (X_Resolver_choose N x1 σ) := by
  intro x1 σ
  rw [X_Resolver_choose]
  refine J_iload_n (q := 1) h d_Resolver_choose_0 rfl rfl ?_
  refine J_if_lt (tgt := 10) h d_Resolver_choose_1 (by decide) ?_ ?_
  · refine J_iconst (v := 0) h d_Resolver_choose_10 (by decide) ?_
    exact J_iret h rfl d_Resolver_choose_11
  · refine J_iload_n (q := 1) h d_Resolver_choose_4 rfl rfl ?_
    refine J_bipush (v := 12) h d_Resolver_choose_5 (by decide) ?_
    refine J_icmp_lt (tgt := 12) h d_Resolver_choose_7 (by decide) ?_ ?_
    · refine J_aload_n (q := 0) h d_Resolver_choose_12 rfl rfl ?_
      refine J_iconst (v := 2) h d_Resolver_choose_13 (by decide) ?_
      refine J_iload_n (q := 1) h d_Resolver_choose_14 rfl rfl ?_
      refine J_callVv (As := [.int 2, .int x1]) (st := []) (rmc := rX_Resolver_gather) (q0 := 36) h (fun _ _ hf => cX_Resolver_gather (jl K) D ad cA N 2 x1 σ _ _ hf) (gd_V q_3_204 q_3_206 q_s_19 q_1_10 q_3_207) rfl ⟨rfl, rfl⟩ dd_Resolver_gather ⟨Nat.le_of_ble_eq_true rfl, Nat.le_of_ble_eq_true rfl⟩ rfl rfl (wX_36 ad cA σ) rfl rfl (Nat.le_of_ble_eq_true rfl) ⟨Nat.zero_le _, Nat.zero_le _⟩ d_Resolver_choose_15 (fun r1 σ2 => ?_)
      refine J_aload_n (q := 0) h d_Resolver_choose_18 rfl rfl ?_
      refine J_getf h 36 (wX_36 ad cA σ2) (tb_ups in_Resolver) rfl 5 (by decide) (tb_up q_2_28) rfl d_Resolver_choose_19 ?_
      refine J_if_le (tgt := 44) h d_Resolver_choose_22 (by decide) ?_ ?_
      · refine J_aload_n (q := 0) h d_Resolver_choose_44 rfl rfl ?_
        refine J_iconst (v := 1) h d_Resolver_choose_45 (by decide) ?_
        refine J_iload_n (q := 1) h d_Resolver_choose_46 rfl rfl ?_
        refine J_callVv (As := [.int 1, .int x1]) (st := []) (rmc := rX_Resolver_gather) (q0 := 36) h (fun _ _ hf => cX_Resolver_gather (jl K) D ad cA N 1 x1 σ2 _ _ hf) (gd_V q_3_204 q_3_206 q_s_19 q_1_10 q_3_207) rfl ⟨rfl, rfl⟩ dd_Resolver_gather ⟨Nat.le_of_ble_eq_true rfl, Nat.le_of_ble_eq_true rfl⟩ rfl rfl (wX_36 ad cA σ2) rfl rfl (Nat.le_of_ble_eq_true rfl) ⟨Nat.zero_le _, Nat.zero_le _⟩ d_Resolver_choose_47 (fun r3 σ4 => ?_)
        refine J_aload_n (q := 0) h d_Resolver_choose_50 rfl rfl ?_
        refine J_getf h 36 (wX_36 ad cA σ4) (tb_ups in_Resolver) rfl 5 (by decide) (tb_up q_2_28) rfl d_Resolver_choose_51 ?_
        refine J_if_le (tgt := 65) h d_Resolver_choose_54 (by decide) ?_ ?_
        · refine J_aload_n (q := 0) h d_Resolver_choose_65 rfl rfl ?_
          refine J_getf h 36 (wX_36 ad cA σ4) (tb_ups in_Resolver) rfl 1 (by decide) (tb_up q_2_24) rfl d_Resolver_choose_66 ?_
          refine J_iconst (v := 0) h d_Resolver_choose_69 (by decide) ?_
          refine J_iconst (v := 0) h d_Resolver_choose_70 (by decide) ?_
          refine J_iconst (v := (-1)) h d_Resolver_choose_71 (by decide) ?_
          refine J_iconst (v := (-1)) h d_Resolver_choose_72 (by decide) ?_
          refine J_callVi (As := [.int 0, .int 0, .int (-1), .int (-1)]) (st := []) (rmc := rX_Types_make) (q0 := 7) h (fun _ _ hf => cX_Types_make (jl K) D ad cA N 0 0 (-1) (-1) σ4 _ _ hf) (gd_V q_3_229 q_2_173 q_2_174 q_1_3 q_2_175) rfl ⟨rfl, rfl⟩ dd_Types_make ⟨Nat.le_of_ble_eq_true rfl, Nat.le_of_ble_eq_true rfl⟩ rfl rfl (wX_7 ad cA σ4) rfl rfl (Nat.le_of_ble_eq_true rfl) ⟨Nat.zero_le _, Nat.zero_le _⟩ d_Resolver_choose_73 (fun r5 σ6 => ?_)
          exact J_X_Resolver_choose_b76 K D A ad cA N h x1 r5 σ6
        · refine J_aload_n (q := 0) h d_Resolver_choose_57 rfl rfl ?_
          refine J_iconst (v := 1) h d_Resolver_choose_58 (by decide) ?_
          refine J_callVi (As := [.int 1]) (st := []) (rmc := rX_Resolver_outermost) (q0 := 36) h (fun _ _ hf => cX_Resolver_outermost (jl K) D ad cA N 1 σ4 _ _ hf) (gd_V q_3_210 q_3_212 q_s_20 q_1_10 q_3_213) rfl ⟨rfl, rfl⟩ dd_Resolver_outermost ⟨Nat.le_of_ble_eq_true rfl, Nat.le_of_ble_eq_true rfl⟩ rfl rfl (wX_36 ad cA σ4) rfl rfl (Nat.le_of_ble_eq_true rfl) ⟨Nat.zero_le _, Nat.zero_le _⟩ d_Resolver_choose_59 (fun r8 σ9 => ?_)
          refine J_goto (tgt := 76) h d_Resolver_choose_62 (by decide) ?_
          exact J_X_Resolver_choose_b76 K D A ad cA N h x1 r8 σ9
      · refine J_aload_n (q := 0) h d_Resolver_choose_25 rfl rfl ?_
        refine J_iconst (v := 2) h d_Resolver_choose_26 (by decide) ?_
        refine J_callVi (As := [.int 2]) (st := []) (rmc := rX_Resolver_outermost) (q0 := 36) h (fun _ _ hf => cX_Resolver_outermost (jl K) D ad cA N 2 σ2 _ _ hf) (gd_V q_3_210 q_3_212 q_s_20 q_1_10 q_3_213) rfl ⟨rfl, rfl⟩ dd_Resolver_outermost ⟨Nat.le_of_ble_eq_true rfl, Nat.le_of_ble_eq_true rfl⟩ rfl rfl (wX_36 ad cA σ2) rfl rfl (Nat.le_of_ble_eq_true rfl) ⟨Nat.zero_le _, Nat.zero_le _⟩ d_Resolver_choose_27 (fun r10 σ11 => ?_)
        refine J_istore_n (lv' := [(2, .int r10), (0, .ref (ad 36)), (1, .int x1)]) h d_Resolver_choose_30 rfl (by decide) rfl ?_
        refine J_iload_n (q := 0) h d_Resolver_choose_31 rfl rfl ?_
        refine J_iconst (v := (-1)) h d_Resolver_choose_32 (by decide) ?_
        refine J_icmp_ne (tgt := 77) h d_Resolver_choose_33 (by decide) ?_ ?_
        · refine J_aload_n (q := 1) h d_Resolver_choose_36 rfl rfl ?_
          refine J_callVi (As := []) (st := []) (rmc := rX_Resolver_joinOfClasses) (q0 := 36) h (fun _ _ hf => cX_Resolver_joinOfClasses (jl K) D ad cA N  σ11 _ _ hf) (gd_V q_3_216 q_3_218 q_s_21 q_1_10 q_3_219) rfl ⟨rfl, rfl⟩ dd_Resolver_joinOfClasses ⟨Nat.le_of_ble_eq_true rfl, Nat.le_of_ble_eq_true rfl⟩ rfl rfl (wX_36 ad cA σ11) rfl rfl (Nat.le_of_ble_eq_true rfl) ⟨Nat.zero_le _, Nat.zero_le _⟩ d_Resolver_choose_37 (fun r12 σ13 => ?_)
          refine J_istore_n (lv' := [(2, .int r12), (0, .ref (ad 36)), (1, .int x1)]) h d_Resolver_choose_40 rfl (by decide) rfl ?_
          refine J_goto (tgt := 77) h d_Resolver_choose_41 (by decide) ?_
          refine J_sub [1, 2, 0] rfl ?_
          exact J_X_Resolver_choose_b77 K D A ad cA N h x1 r12 σ13
        · refine J_sub [1, 2, 0] rfl ?_
          exact J_X_Resolver_choose_b77 K D A ad cA N h x1 r10 σ11
    · refine J_iconst (v := 0) h d_Resolver_choose_10 (by decide) ?_
      exact J_iret h rfl d_Resolver_choose_11
set_option maxRecDepth 100000 in
theorem cX_Resolver_choose (l : Launch) (D : va_G) (ad : Nat → Nat) (cA : Nat → ClassId) (N : Nat) (x1 : Int32) (σ : SX) (r : Int32) (σ' : SX) (hf : X_Resolver_choose N x1 σ = some (r, σ')) : MetI l y_Resolver_choose ((Cond.code y_Resolver_choose b_Resolver_choose 3 (some .int)) :: tblG) rX_Resolver_choose D clX (tysX cA) (wX ad cA) [.ref (ad 36), .int x1] σ r σ' :=
  jx_metI (by decide) rfl (Nat.le_of_ble_eq_true rfl) (fun K A h => J_X_Resolver_choose K D A ad cA N h x1 σ) hf
def rX_Told_has : Room := { frames := 0, cells := 0, slots := 0, locals := 0 }
theorem rm_ok_X_Told_has : rX_Told_has.cells = 0 ∧ rX_Told_has.slots = 0 := ⟨rfl, rfl⟩
def X_Told_has (x1 : Int32) (σ : SX) : Option (Int32 × SX) := (if x1 < 0 then (some (0, σ)) else (if (gX_Told_size σ) ≤ x1 then (some (0, σ)) else (some (1, σ))))
set_option maxRecDepth 100000 in
set_option maxHeartbeats 4000000 in
theorem J_X_Told_has (K : jx_E) (D : va_G) (A : Nat → Prop) (ad : Nat → Nat) (cA : Nat → ClassId) (h : jx_ok K D clX (tysX cA) A 2 b_Told_has y_Told_has.cls ((Cond.code y_Told_has b_Told_has 2 (some .boolean)) :: tblG) rX_Told_has (some .boolean)) : ∀ (x1 : Int32) (σ : SX), J K D clX A 2 (wX ad cA) (jx_Qi K D clX (tysX cA) (wX ad cA) A) 0 0 0 [(0, .ref (ad 40)), (1, .int x1)] [] σ (X_Told_has x1 σ) := by
  intro x1 σ
  rw [X_Told_has]
  refine J_iload_n (q := 1) h d_Told_has_0 rfl rfl ?_
  refine J_if_lt (tgt := 16) h d_Told_has_1 (by decide) ?_ ?_
  · refine J_iconst (v := 0) h d_Told_has_16 (by decide) ?_
    exact J_zret h rfl (by decide) d_Told_has_17
  · refine J_iload_n (q := 1) h d_Told_has_4 rfl rfl ?_
    refine J_aload_n (q := 0) h d_Told_has_5 rfl rfl ?_
    refine J_getf h 40 (wX_40 ad cA σ) (tb_ups in_Told) rfl 4 (by decide) (tb_up q_2_58) rfl d_Told_has_6 ?_
    refine J_icmp_ge (tgt := 16) h d_Told_has_9 (by decide) ?_ ?_
    · refine J_iconst (v := 0) h d_Told_has_16 (by decide) ?_
      exact J_zret h rfl (by decide) d_Told_has_17
    · refine J_iconst (v := 1) h d_Told_has_12 (by decide) ?_
      refine J_goto (tgt := 17) h d_Told_has_13 (by decide) ?_
      exact J_zret h rfl (by decide) d_Told_has_17
set_option maxRecDepth 100000 in
theorem cX_Told_has (l : Launch) (D : va_G) (ad : Nat → Nat) (cA : Nat → ClassId) (x1 : Int32) (σ : SX) (r : Int32) (σ' : SX) (hf : X_Told_has x1 σ = some (r, σ')) : MetI l y_Told_has ((Cond.code y_Told_has b_Told_has 2 (some .boolean)) :: tblG) rX_Told_has D clX (tysX cA) (wX ad cA) [.ref (ad 40), .int x1] σ r σ' :=
  jx_metI (by decide) rfl (Nat.le_of_ble_eq_true rfl) (fun K A h => J_X_Told_has K D A ad cA h x1 σ) hf
