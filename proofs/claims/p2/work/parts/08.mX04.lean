def rX_Reducer_lessSub : Room := { frames := 25, cells := 0, slots := 0, locals := 751 }
theorem rm_ok_X_Reducer_lessSub : rX_Reducer_lessSub.cells = 0 ∧ rX_Reducer_lessSub.slots = 0 := ⟨rfl, rfl⟩
def X_Reducer_lessSub_b43 (N : Nat) (s0 : Int32) (σ : SX) : Option (Int32 × SX) := (bd (X_Reducer_truth s0 σ) (fun (r5 : Int32) (σ6 : SX) => (some (r5, σ6))))
set_option maxRecDepth 100000 in
set_option maxHeartbeats 4000000 in
theorem J_X_Reducer_lessSub_b43 (K : jx_E) (D : va_G) (A : Nat → Prop) (ad : Nat → Nat) (cA : Nat → ClassId) (N : Nat) (h : jx_ok K D clX (tysX cA) A 7 b_Reducer_lessSub y_Reducer_lessSub.cls ((Cond.code y_Reducer_lessSub b_Reducer_lessSub 7 (some .int)) :: tblG) rX_Reducer_lessSub (some .int)) : ∀ (s0 : Int32) (σ : SX), J K D clX A 7 (wX ad cA) (jx_Qi K D clX (tysX cA) (wX ad cA) A) 0 0 43 [] [.int s0] σ (X_Reducer_lessSub_b43 N s0 σ) := by
  intro s0 σ
  rw [X_Reducer_lessSub_b43]
  refine J_callTi (As := [.int s0]) (st := []) (rmc := rX_Reducer_truth) h (fun _ _ hf => cX_Reducer_truth (jl K) D ad cA s0 σ _ _ hf) (gd_all q_3_32) (tb_up q_3_30) (tb_up q_3_31) (tb_up q_1_7) rfl ⟨rfl, rfl⟩ dd_Reducer_truth ⟨Nat.le_of_ble_eq_true rfl, Nat.le_of_ble_eq_true rfl⟩ rfl rfl (Nat.le_of_ble_eq_true rfl) ⟨Nat.zero_le _, Nat.zero_le _⟩ d_Reducer_lessSub_43 (fun r5 σ6 => ?_)
  exact J_iret h rfl d_Reducer_lessSub_46
def X_Reducer_lessSub_b80 (N : Nat) (v1 : Int32) (v2 : Int32) (σ : SX) : Option (Int32 × SX) := (bd (X_Reducer_bind N 1 2 v1 v2 σ) (fun (r7 : Int32) (σ8 : SX) => (some (r7, σ8))))
set_option maxRecDepth 100000 in
set_option maxHeartbeats 4000000 in
theorem J_X_Reducer_lessSub_b80 (K : jx_E) (D : va_G) (A : Nat → Prop) (ad : Nat → Nat) (cA : Nat → ClassId) (N : Nat) (h : jx_ok K D clX (tysX cA) A 7 b_Reducer_lessSub y_Reducer_lessSub.cls ((Cond.code y_Reducer_lessSub b_Reducer_lessSub 7 (some .int)) :: tblG) rX_Reducer_lessSub (some .int)) : ∀ (v1 : Int32) (v2 : Int32) (σ : SX), J K D clX A 7 (wX ad cA) (jx_Qi K D clX (tysX cA) (wX ad cA) A) 0 0 80 [(0, .ref (ad 29)), (1, .int v1), (2, .int v2)] [] σ (X_Reducer_lessSub_b80 N v1 v2 σ) := by
  intro v1 v2 σ
  rw [X_Reducer_lessSub_b80]
  refine J_aload_n (q := 0) h d_Reducer_lessSub_80 rfl rfl ?_
  refine J_iconst (v := 1) h d_Reducer_lessSub_81 (by decide) ?_
  refine J_iconst (v := 2) h d_Reducer_lessSub_82 (by decide) ?_
  refine J_iload_n (q := 1) h d_Reducer_lessSub_83 rfl rfl ?_
  refine J_iload_n (q := 2) h d_Reducer_lessSub_84 rfl rfl ?_
  refine J_callVi (As := [.int 1, .int 2, .int v1, .int v2]) (st := []) (rmc := rX_Reducer_bind) (q0 := 29) h (fun _ _ hf => cX_Reducer_bind (jl K) D ad cA N 1 2 v1 v2 σ _ _ hf) (gd_V q_3_95 q_3_97 q_s_9 q_1_7 q_3_98) rfl ⟨rfl, rfl⟩ dd_Reducer_bind ⟨Nat.le_of_ble_eq_true rfl, Nat.le_of_ble_eq_true rfl⟩ rfl rfl (wX_29 ad cA σ) rfl rfl (Nat.le_of_ble_eq_true rfl) ⟨Nat.zero_le _, Nat.zero_le _⟩ d_Reducer_lessSub_85 (fun r7 σ8 => ?_)
  exact J_iret h rfl d_Reducer_lessSub_88
def X_Reducer_lessSub_b144 (N : Nat) (s0 : Int32) (σ : SX) : Option (Int32 × SX) := (bd (X_Reducer_truth s0 σ) (fun (r15 : Int32) (σ16 : SX) => (some (r15, σ16))))
set_option maxRecDepth 100000 in
set_option maxHeartbeats 4000000 in
theorem J_X_Reducer_lessSub_b144 (K : jx_E) (D : va_G) (A : Nat → Prop) (ad : Nat → Nat) (cA : Nat → ClassId) (N : Nat) (h : jx_ok K D clX (tysX cA) A 7 b_Reducer_lessSub y_Reducer_lessSub.cls ((Cond.code y_Reducer_lessSub b_Reducer_lessSub 7 (some .int)) :: tblG) rX_Reducer_lessSub (some .int)) : ∀ (s0 : Int32) (σ : SX), J K D clX A 7 (wX ad cA) (jx_Qi K D clX (tysX cA) (wX ad cA) A) 0 0 144 [] [.int s0] σ (X_Reducer_lessSub_b144 N s0 σ) := by
  intro s0 σ
  rw [X_Reducer_lessSub_b144]
  refine J_callTi (As := [.int s0]) (st := []) (rmc := rX_Reducer_truth) h (fun _ _ hf => cX_Reducer_truth (jl K) D ad cA s0 σ _ _ hf) (gd_all q_3_32) (tb_up q_3_30) (tb_up q_3_31) (tb_up q_1_7) rfl ⟨rfl, rfl⟩ dd_Reducer_truth ⟨Nat.le_of_ble_eq_true rfl, Nat.le_of_ble_eq_true rfl⟩ rfl rfl (Nat.le_of_ble_eq_true rfl) ⟨Nat.zero_le _, Nat.zero_le _⟩ d_Reducer_lessSub_144 (fun r15 σ16 => ?_)
  exact J_iret h rfl d_Reducer_lessSub_147
def X_Reducer_lessSub_b274 (N : Nat) (s0 : Int32) (σ : SX) : Option (Int32 × SX) := (bd (X_Reducer_truth s0 σ) (fun (r31 : Int32) (σ32 : SX) => (some (r31, σ32))))
set_option maxRecDepth 100000 in
set_option maxHeartbeats 4000000 in
theorem J_X_Reducer_lessSub_b274 (K : jx_E) (D : va_G) (A : Nat → Prop) (ad : Nat → Nat) (cA : Nat → ClassId) (N : Nat) (h : jx_ok K D clX (tysX cA) A 7 b_Reducer_lessSub y_Reducer_lessSub.cls ((Cond.code y_Reducer_lessSub b_Reducer_lessSub 7 (some .int)) :: tblG) rX_Reducer_lessSub (some .int)) : ∀ (s0 : Int32) (σ : SX), J K D clX A 7 (wX ad cA) (jx_Qi K D clX (tysX cA) (wX ad cA) A) 0 0 274 [] [.int s0] σ (X_Reducer_lessSub_b274 N s0 σ) := by
  intro s0 σ
  rw [X_Reducer_lessSub_b274]
  refine J_callTi (As := [.int s0]) (st := []) (rmc := rX_Reducer_truth) h (fun _ _ hf => cX_Reducer_truth (jl K) D ad cA s0 σ _ _ hf) (gd_all q_3_32) (tb_up q_3_30) (tb_up q_3_31) (tb_up q_1_7) rfl ⟨rfl, rfl⟩ dd_Reducer_truth ⟨Nat.le_of_ble_eq_true rfl, Nat.le_of_ble_eq_true rfl⟩ rfl rfl (Nat.le_of_ble_eq_true rfl) ⟨Nat.zero_le _, Nat.zero_le _⟩ d_Reducer_lessSub_274 (fun r31 σ32 => ?_)
  exact J_iret h rfl d_Reducer_lessSub_277
def X_Reducer_lessSub_b262 (N : Nat) (v5 : Int32) (v6 : Int32) (σ : SX) : Option (Int32 × SX) := (if v5 = v6 then (X_Reducer_lessSub_b274 N 1 σ) else (X_Reducer_lessSub_b274 N 0 σ))
set_option maxRecDepth 100000 in
set_option maxHeartbeats 4000000 in
theorem J_X_Reducer_lessSub_b262 (K : jx_E) (D : va_G) (A : Nat → Prop) (ad : Nat → Nat) (cA : Nat → ClassId) (N : Nat) (h : jx_ok K D clX (tysX cA) A 7 b_Reducer_lessSub y_Reducer_lessSub.cls ((Cond.code y_Reducer_lessSub b_Reducer_lessSub 7 (some .int)) :: tblG) rX_Reducer_lessSub (some .int)) : ∀ (v5 : Int32) (v6 : Int32) (σ : SX), J K D clX A 7 (wX ad cA) (jx_Qi K D clX (tysX cA) (wX ad cA) A) 0 0 262 [(5, .int v5), (6, .int v6)] [] σ (X_Reducer_lessSub_b262 N v5 v6 σ) := by
  intro v5 v6 σ
  rw [X_Reducer_lessSub_b262]
  refine J_iload (q := 0) h d_Reducer_lessSub_262 rfl ?_
  refine J_iload (q := 1) h d_Reducer_lessSub_264 rfl ?_
  refine J_icmp_ne (tgt := 273) h d_Reducer_lessSub_266 (by decide) ?_ ?_
  · refine J_iconst (v := 1) h d_Reducer_lessSub_269 (by decide) ?_
    refine J_goto (tgt := 274) h d_Reducer_lessSub_270 (by decide) ?_
    refine J_sub [] rfl ?_
    exact J_X_Reducer_lessSub_b274 K D A ad cA N h 1 σ
  · refine J_iconst (v := 0) h d_Reducer_lessSub_273 (by decide) ?_
    refine J_sub [] rfl ?_
    exact J_X_Reducer_lessSub_b274 K D A ad cA N h 0 σ
def X_Reducer_lessSub_b288 (N : Nat) (v1 : Int32) (v2 : Int32) (σ : SX) : Option (Int32 × SX) := (bd (X_Types_captureBound v2 2 σ) (fun (r37 : Int32) (σ38 : SX) => (if r37 < 0 then (some (0, σ38)) else (bd (X_Reducer_within 1 v1 r37 σ38) (fun (r39 : Int32) (σ40 : SX) => (some (r39, σ40)))))))
set_option maxRecDepth 100000 in
set_option maxHeartbeats 4000000 in
theorem J_X_Reducer_lessSub_b288 (K : jx_E) (D : va_G) (A : Nat → Prop) (ad : Nat → Nat) (cA : Nat → ClassId) (N : Nat) (h : jx_ok K D clX (tysX cA) A 7 b_Reducer_lessSub y_Reducer_lessSub.cls ((Cond.code y_Reducer_lessSub b_Reducer_lessSub 7 (some .int)) :: tblG) rX_Reducer_lessSub (some .int)) : ∀ (v1 : Int32) (v2 : Int32) (σ : SX), J K D clX A 7 (wX ad cA) (jx_Qi K D clX (tysX cA) (wX ad cA) A) 0 0 288 [(0, .ref (ad 29)), (1, .int v1), (2, .int v2)] [] σ (X_Reducer_lessSub_b288 N v1 v2 σ) := by
  intro v1 v2 σ
  rw [X_Reducer_lessSub_b288]
  refine J_aload_n (q := 0) h d_Reducer_lessSub_288 rfl rfl ?_
  refine J_getf h 29 (wX_29 ad cA σ) (tb_ups in_Reducer) rfl 1 (by decide) (tb_up q_1_198) rfl d_Reducer_lessSub_289 ?_
  refine J_iload_n (q := 2) h d_Reducer_lessSub_292 rfl rfl ?_
  refine J_iconst (v := 2) h d_Reducer_lessSub_293 (by decide) ?_
  refine J_callVi (As := [.int v2, .int 2]) (st := []) (rmc := rX_Types_captureBound) (q0 := 7) h (fun _ _ hf => cX_Types_captureBound (jl K) D ad cA v2 2 σ _ _ hf) (gd_V q_3_50 q_3_51 q_3_52 q_1_3 q_3_53) rfl ⟨rfl, rfl⟩ dd_Types_captureBound ⟨Nat.le_of_ble_eq_true rfl, Nat.le_of_ble_eq_true rfl⟩ rfl rfl (wX_7 ad cA σ) rfl rfl (Nat.le_of_ble_eq_true rfl) ⟨Nat.zero_le _, Nat.zero_le _⟩ d_Reducer_lessSub_294 (fun r37 σ38 => ?_)
  refine J_istore (lv' := [(5, .int r37), (0, .ref (ad 29)), (1, .int v1), (2, .int v2)]) h d_Reducer_lessSub_297 (by decide) rfl ?_
  refine J_iload (q := 0) h d_Reducer_lessSub_299 rfl ?_
  refine J_if_lt (tgt := 315) h d_Reducer_lessSub_301 (by decide) ?_ ?_
  · refine J_iconst (v := 0) h d_Reducer_lessSub_315 (by decide) ?_
    exact J_iret h rfl d_Reducer_lessSub_316
  · refine J_aload_n (q := 1) h d_Reducer_lessSub_304 rfl rfl ?_
    refine J_iconst (v := 1) h d_Reducer_lessSub_305 (by decide) ?_
    refine J_iload_n (q := 2) h d_Reducer_lessSub_306 rfl rfl ?_
    refine J_iload (q := 0) h d_Reducer_lessSub_307 rfl ?_
    refine J_callVi (As := [.int 1, .int v1, .int r37]) (st := []) (rmc := rX_Reducer_within) (q0 := 29) h (fun _ _ hf => cX_Reducer_within (jl K) D ad cA 1 v1 r37 σ38 _ _ hf) (gd_V q_3_38 q_3_40 q_s_6 q_1_7 q_3_41) rfl ⟨rfl, rfl⟩ dd_Reducer_within ⟨Nat.le_of_ble_eq_true rfl, Nat.le_of_ble_eq_true rfl⟩ rfl rfl (wX_29 ad cA σ38) rfl rfl (Nat.le_of_ble_eq_true rfl) ⟨Nat.zero_le _, Nat.zero_le _⟩ d_Reducer_lessSub_309 (fun r39 σ40 => ?_)
    refine J_goto (tgt := 316) h d_Reducer_lessSub_312 (by decide) ?_
    exact J_iret h rfl d_Reducer_lessSub_316
def X_Reducer_lessSub (N : Nat) (x1 : Int32) (x2 : Int32) (σ : SX) : Option (Int32 × SX) := (if x1 = x2 then (some (1, σ)) else (bd (X_Types_kindOf x1 σ) (fun (r1 : Int32) (σ2 : SX) => (bd (X_Types_kindOf x2 σ2) (fun (r3 : Int32) (σ4 : SX) => (if r1 = 6 then (if r3 = 5 then (X_Reducer_lessSub_b43 N 0 σ4) else (X_Reducer_lessSub_b43 N 1 σ4)) else (if r3 = 6 then (some (0, σ4)) else (if r1 = 5 then (some (0, σ4)) else (if r3 = 5 then (some (0, σ4)) else (if r1 = 7 then (X_Reducer_lessSub_b80 N x1 x2 σ4) else (if r3 = 7 then (X_Reducer_lessSub_b80 N x1 x2 σ4) else (if r3 = 0 then (bd (X_Types_firstOf x2 σ4) (fun (r9 : Int32) (σ10 : SX) => (if r9 = 0 then (some (1, σ10)) else (bd (X_Types_firstOf x2 σ10) (fun (r11 : Int32) (σ12 : SX) => (bd (X_Reducer_aboveOf N x1 r11 σ12) (fun (r13 : Int32) (σ14 : SX) => (if r13 = (-3) then (some ((-3), σ14)) else (if r13 < 0 then (X_Reducer_lessSub_b144 N 0 σ14) else (X_Reducer_lessSub_b144 N 1 σ14)))))))))) else (if r3 = 1 then (bd (X_Types_firstOf x2 σ4) (fun (r17 : Int32) (σ18 : SX) => (bd (X_Reducer_aboveOf N x1 r17 σ18) (fun (r19 : Int32) (σ20 : SX) => (if r19 = (-3) then (some ((-3), σ20)) else (bd (X_Types_kindOf r19 σ20) (fun (r21 : Int32) (σ22 : SX) => (if r21 = 1 then (bd (X_Reducer_withinArguments N 2 r19 x2 σ22) (fun (r23 : Int32) (σ24 : SX) => (some (r23, σ24)))) else (some (0, σ22)))))))))) else (if r3 = 4 then (if r1 = 4 then (bd (X_Types_firstOf x1 σ4) (fun (r25 : Int32) (σ26 : SX) => (bd (X_Types_firstOf x2 σ26) (fun (r27 : Int32) (σ28 : SX) => (bd (X_Types_kindOf r25 σ28) (fun (r29 : Int32) (σ30 : SX) => (if r29 = 5 then (X_Reducer_lessSub_b262 N r25 r27 σ30) else (bd (X_Types_kindOf r27 σ30) (fun (r33 : Int32) (σ34 : SX) => (if r33 = 5 then (X_Reducer_lessSub_b262 N r25 r27 σ34) else (bd (X_Reducer_within 1 r25 r27 σ34) (fun (r35 : Int32) (σ36 : SX) => (some (r35, σ36)))))))))))))) else (X_Reducer_lessSub_b288 N x1 x2 σ4)) else (X_Reducer_lessSub_b288 N x1 x2 σ4)))))))))))))))
set_option maxRecDepth 100000 in
set_option maxHeartbeats 4000000 in
theorem J_X_Reducer_lessSub (K : jx_E) (D : va_G) (A : Nat → Prop) (ad : Nat → Nat) (cA : Nat → ClassId) (N : Nat) (h : jx_ok K D clX (tysX cA) A 7 b_Reducer_lessSub y_Reducer_lessSub.cls ((Cond.code y_Reducer_lessSub b_Reducer_lessSub 7 (some .int)) :: tblG) rX_Reducer_lessSub (some .int)) : ∀ (x1 : Int32) (x2 : Int32) (σ : SX), J K D clX A 7 (wX ad cA) (jx_Qi K D clX (tysX cA) (wX ad cA) A) 0 0 0 [(0, .ref (ad 29)), (1, .int x1), (2, .int x2)] [] σ (X_Reducer_lessSub N x1 x2 σ) := by
  intro x1 x2 σ
  rw [X_Reducer_lessSub]
  refine J_iload_n (q := 1) h d_Reducer_lessSub_0 rfl rfl ?_
  refine J_iload_n (q := 2) h d_Reducer_lessSub_1 rfl rfl ?_
  refine J_icmp_ne (tgt := 7) h d_Reducer_lessSub_2 (by decide) ?_ ?_
  · refine J_iconst (v := 1) h d_Reducer_lessSub_5 (by decide) ?_
    exact J_iret h rfl d_Reducer_lessSub_6
  · refine J_aload_n (q := 0) h d_Reducer_lessSub_7 rfl rfl ?_
    refine J_getf h 29 (wX_29 ad cA σ) (tb_ups in_Reducer) rfl 1 (by decide) (tb_up q_1_198) rfl d_Reducer_lessSub_8 ?_
    refine J_iload_n (q := 1) h d_Reducer_lessSub_11 rfl rfl ?_
    refine J_callVi (As := [.int x1]) (st := []) (rmc := rX_Types_kindOf) (q0 := 7) h (fun _ _ hf => cX_Types_kindOf (jl K) D ad cA x1 σ _ _ hf) (gd_V q_3_21 q_2_127 q_2_128 q_1_3 q_2_129) rfl ⟨rfl, rfl⟩ dd_Types_kindOf ⟨Nat.le_of_ble_eq_true rfl, Nat.le_of_ble_eq_true rfl⟩ rfl rfl (wX_7 ad cA σ) rfl rfl (Nat.le_of_ble_eq_true rfl) ⟨Nat.zero_le _, Nat.zero_le _⟩ d_Reducer_lessSub_12 (fun r1 σ2 => ?_)
    refine J_istore_n (lv' := [(3, .int r1), (0, .ref (ad 29)), (1, .int x1), (2, .int x2)]) h d_Reducer_lessSub_15 rfl (by decide) rfl ?_
    refine J_aload_n (q := 1) h d_Reducer_lessSub_16 rfl rfl ?_
    refine J_getf h 29 (wX_29 ad cA σ2) (tb_ups in_Reducer) rfl 1 (by decide) (tb_up q_1_198) rfl d_Reducer_lessSub_17 ?_
    refine J_iload_n (q := 3) h d_Reducer_lessSub_20 rfl rfl ?_
    refine J_callVi (As := [.int x2]) (st := []) (rmc := rX_Types_kindOf) (q0 := 7) h (fun _ _ hf => cX_Types_kindOf (jl K) D ad cA x2 σ2 _ _ hf) (gd_V q_3_21 q_2_127 q_2_128 q_1_3 q_2_129) rfl ⟨rfl, rfl⟩ dd_Types_kindOf ⟨Nat.le_of_ble_eq_true rfl, Nat.le_of_ble_eq_true rfl⟩ rfl rfl (wX_7 ad cA σ2) rfl rfl (Nat.le_of_ble_eq_true rfl) ⟨Nat.zero_le _, Nat.zero_le _⟩ d_Reducer_lessSub_21 (fun r3 σ4 => ?_)
    refine J_istore (lv' := [(4, .int r3), (3, .int r1), (0, .ref (ad 29)), (1, .int x1), (2, .int x2)]) h d_Reducer_lessSub_24 (by decide) rfl ?_
    refine J_iload_n (q := 1) h d_Reducer_lessSub_26 rfl rfl ?_
    refine J_bipush (v := 6) h d_Reducer_lessSub_27 (by decide) ?_
    refine J_icmp_ne (tgt := 47) h d_Reducer_lessSub_29 (by decide) ?_ ?_
    · refine J_iload (q := 0) h d_Reducer_lessSub_32 rfl ?_
      refine J_iconst (v := 5) h d_Reducer_lessSub_34 (by decide) ?_
      refine J_icmp_eq (tgt := 42) h d_Reducer_lessSub_35 (by decide) ?_ ?_
      · refine J_iconst (v := 0) h d_Reducer_lessSub_42 (by decide) ?_
        refine J_sub [] rfl ?_
        exact J_X_Reducer_lessSub_b43 K D A ad cA N h 0 σ4
      · refine J_iconst (v := 1) h d_Reducer_lessSub_38 (by decide) ?_
        refine J_goto (tgt := 43) h d_Reducer_lessSub_39 (by decide) ?_
        refine J_sub [] rfl ?_
        exact J_X_Reducer_lessSub_b43 K D A ad cA N h 1 σ4
    · refine J_iload (q := 0) h d_Reducer_lessSub_47 rfl ?_
      refine J_bipush (v := 6) h d_Reducer_lessSub_49 (by decide) ?_
      refine J_icmp_eq (tgt := 65) h d_Reducer_lessSub_51 (by decide) ?_ ?_
      · refine J_iconst (v := 0) h d_Reducer_lessSub_65 (by decide) ?_
        exact J_iret h rfl d_Reducer_lessSub_66
      · refine J_iload_n (q := 1) h d_Reducer_lessSub_54 rfl rfl ?_
        refine J_iconst (v := 5) h d_Reducer_lessSub_55 (by decide) ?_
        refine J_icmp_eq (tgt := 65) h d_Reducer_lessSub_56 (by decide) ?_ ?_
        · refine J_iconst (v := 0) h d_Reducer_lessSub_65 (by decide) ?_
          exact J_iret h rfl d_Reducer_lessSub_66
        · refine J_iload (q := 0) h d_Reducer_lessSub_59 rfl ?_
          refine J_iconst (v := 5) h d_Reducer_lessSub_61 (by decide) ?_
          refine J_icmp_ne (tgt := 67) h d_Reducer_lessSub_62 (by decide) ?_ ?_
          · refine J_iconst (v := 0) h d_Reducer_lessSub_65 (by decide) ?_
            exact J_iret h rfl d_Reducer_lessSub_66
          · refine J_iload_n (q := 1) h d_Reducer_lessSub_67 rfl rfl ?_
            refine J_bipush (v := 7) h d_Reducer_lessSub_68 (by decide) ?_
            refine J_icmp_eq (tgt := 80) h d_Reducer_lessSub_70 (by decide) ?_ ?_
            · refine J_sub [2, 3, 4] rfl ?_
              exact J_X_Reducer_lessSub_b80 K D A ad cA N h x1 x2 σ4
            · refine J_iload (q := 0) h d_Reducer_lessSub_73 rfl ?_
              refine J_bipush (v := 7) h d_Reducer_lessSub_75 (by decide) ?_
              refine J_icmp_ne (tgt := 89) h d_Reducer_lessSub_77 (by decide) ?_ ?_
              · refine J_sub [2, 3, 4] rfl ?_
                exact J_X_Reducer_lessSub_b80 K D A ad cA N h x1 x2 σ4
              · refine J_iload (q := 0) h d_Reducer_lessSub_89 rfl ?_
                refine J_if_ne (tgt := 148) h d_Reducer_lessSub_91 (by decide) ?_ ?_
                · refine J_aload_n (q := 2) h d_Reducer_lessSub_94 rfl rfl ?_
                  refine J_getf h 29 (wX_29 ad cA σ4) (tb_ups in_Reducer) rfl 1 (by decide) (tb_up q_1_198) rfl d_Reducer_lessSub_95 ?_
                  refine J_iload_n (q := 4) h d_Reducer_lessSub_98 rfl rfl ?_
                  refine J_callVi (As := [.int x2]) (st := []) (rmc := rX_Types_firstOf) (q0 := 7) h (fun _ _ hf => cX_Types_firstOf (jl K) D ad cA x2 σ4 _ _ hf) (gd_V q_3_26 q_2_131 q_2_132 q_1_3 q_2_133) rfl ⟨rfl, rfl⟩ dd_Types_firstOf ⟨Nat.le_of_ble_eq_true rfl, Nat.le_of_ble_eq_true rfl⟩ rfl rfl (wX_7 ad cA σ4) rfl rfl (Nat.le_of_ble_eq_true rfl) ⟨Nat.zero_le _, Nat.zero_le _⟩ d_Reducer_lessSub_99 (fun r9 σ10 => ?_)
                  refine J_if_ne (tgt := 107) h d_Reducer_lessSub_102 (by decide) ?_ ?_
                  · refine J_iconst (v := 1) h d_Reducer_lessSub_105 (by decide) ?_
                    exact J_iret h rfl d_Reducer_lessSub_106
                  · refine J_aload_n (q := 2) h d_Reducer_lessSub_107 rfl rfl ?_
                    refine J_iload_n (q := 3) h d_Reducer_lessSub_108 rfl rfl ?_
                    refine J_aload_n (q := 2) h d_Reducer_lessSub_109 rfl rfl ?_
                    refine J_getf h 29 (wX_29 ad cA σ10) (tb_ups in_Reducer) rfl 1 (by decide) (tb_up q_1_198) rfl d_Reducer_lessSub_110 ?_
                    refine J_iload_n (q := 4) h d_Reducer_lessSub_113 rfl rfl ?_
                    refine J_callVi (As := [.int x2]) (st := [.int x1, .ref (ad 29)]) (rmc := rX_Types_firstOf) (q0 := 7) h (fun _ _ hf => cX_Types_firstOf (jl K) D ad cA x2 σ10 _ _ hf) (gd_V q_3_26 q_2_131 q_2_132 q_1_3 q_2_133) rfl ⟨rfl, rfl⟩ dd_Types_firstOf ⟨Nat.le_of_ble_eq_true rfl, Nat.le_of_ble_eq_true rfl⟩ rfl rfl (wX_7 ad cA σ10) rfl rfl (Nat.le_of_ble_eq_true rfl) ⟨Nat.zero_le _, Nat.zero_le _⟩ d_Reducer_lessSub_114 (fun r11 σ12 => ?_)
                    refine J_callVi (As := [.int x1, .int r11]) (st := []) (rmc := rX_Reducer_aboveOf) (q0 := 29) h (fun _ _ hf => cX_Reducer_aboveOf (jl K) D ad cA N x1 r11 σ12 _ _ hf) (gd_V q_3_46 q_3_47 q_3_48 q_1_7 q_3_49) rfl ⟨rfl, rfl⟩ dd_Reducer_aboveOf ⟨Nat.le_of_ble_eq_true rfl, Nat.le_of_ble_eq_true rfl⟩ rfl rfl (wX_29 ad cA σ12) rfl rfl (Nat.le_of_ble_eq_true rfl) ⟨Nat.zero_le _, Nat.zero_le _⟩ d_Reducer_lessSub_117 (fun r13 σ14 => ?_)
                    refine J_istore (lv' := [(5, .int r13), (4, .int r3), (3, .int r1), (0, .ref (ad 29)), (1, .int x1), (2, .int x2)]) h d_Reducer_lessSub_120 (by decide) rfl ?_
                    refine J_iload (q := 0) h d_Reducer_lessSub_122 rfl ?_
                    refine J_bipush (v := (-3)) h d_Reducer_lessSub_124 (by decide) ?_
                    refine J_icmp_ne (tgt := 134) h d_Reducer_lessSub_126 (by decide) ?_ ?_
                    · refine J_bipush (v := (-3)) h d_Reducer_lessSub_129 (by decide) ?_
                      refine J_goto (tgt := 147) h d_Reducer_lessSub_131 (by decide) ?_
                      exact J_iret h rfl d_Reducer_lessSub_147
                    · refine J_iload (q := 0) h d_Reducer_lessSub_134 rfl ?_
                      refine J_if_lt (tgt := 143) h d_Reducer_lessSub_136 (by decide) ?_ ?_
                      · refine J_iconst (v := 0) h d_Reducer_lessSub_143 (by decide) ?_
                        refine J_sub [] rfl ?_
                        exact J_X_Reducer_lessSub_b144 K D A ad cA N h 0 σ14
                      · refine J_iconst (v := 1) h d_Reducer_lessSub_139 (by decide) ?_
                        refine J_goto (tgt := 144) h d_Reducer_lessSub_140 (by decide) ?_
                        refine J_sub [] rfl ?_
                        exact J_X_Reducer_lessSub_b144 K D A ad cA N h 1 σ14
                · refine J_iload (q := 0) h d_Reducer_lessSub_148 rfl ?_
                  refine J_iconst (v := 1) h d_Reducer_lessSub_150 (by decide) ?_
                  refine J_icmp_ne (tgt := 205) h d_Reducer_lessSub_151 (by decide) ?_ ?_
                  · refine J_aload_n (q := 2) h d_Reducer_lessSub_154 rfl rfl ?_
                    refine J_iload_n (q := 3) h d_Reducer_lessSub_155 rfl rfl ?_
                    refine J_aload_n (q := 2) h d_Reducer_lessSub_156 rfl rfl ?_
                    refine J_getf h 29 (wX_29 ad cA σ4) (tb_ups in_Reducer) rfl 1 (by decide) (tb_up q_1_198) rfl d_Reducer_lessSub_157 ?_
                    refine J_iload_n (q := 4) h d_Reducer_lessSub_160 rfl rfl ?_
                    refine J_callVi (As := [.int x2]) (st := [.int x1, .ref (ad 29)]) (rmc := rX_Types_firstOf) (q0 := 7) h (fun _ _ hf => cX_Types_firstOf (jl K) D ad cA x2 σ4 _ _ hf) (gd_V q_3_26 q_2_131 q_2_132 q_1_3 q_2_133) rfl ⟨rfl, rfl⟩ dd_Types_firstOf ⟨Nat.le_of_ble_eq_true rfl, Nat.le_of_ble_eq_true rfl⟩ rfl rfl (wX_7 ad cA σ4) rfl rfl (Nat.le_of_ble_eq_true rfl) ⟨Nat.zero_le _, Nat.zero_le _⟩ d_Reducer_lessSub_161 (fun r17 σ18 => ?_)
                    refine J_callVi (As := [.int x1, .int r17]) (st := []) (rmc := rX_Reducer_aboveOf) (q0 := 29) h (fun _ _ hf => cX_Reducer_aboveOf (jl K) D ad cA N x1 r17 σ18 _ _ hf) (gd_V q_3_46 q_3_47 q_3_48 q_1_7 q_3_49) rfl ⟨rfl, rfl⟩ dd_Reducer_aboveOf ⟨Nat.le_of_ble_eq_true rfl, Nat.le_of_ble_eq_true rfl⟩ rfl rfl (wX_29 ad cA σ18) rfl rfl (Nat.le_of_ble_eq_true rfl) ⟨Nat.zero_le _, Nat.zero_le _⟩ d_Reducer_lessSub_164 (fun r19 σ20 => ?_)
                    refine J_istore (lv' := [(5, .int r19), (4, .int r3), (3, .int r1), (0, .ref (ad 29)), (1, .int x1), (2, .int x2)]) h d_Reducer_lessSub_167 (by decide) rfl ?_
                    refine J_iload (q := 0) h d_Reducer_lessSub_169 rfl ?_
                    refine J_bipush (v := (-3)) h d_Reducer_lessSub_171 (by decide) ?_
                    refine J_icmp_ne (tgt := 179) h d_Reducer_lessSub_173 (by decide) ?_ ?_
                    · refine J_bipush (v := (-3)) h d_Reducer_lessSub_176 (by decide) ?_
                      exact J_iret h rfl d_Reducer_lessSub_178
                    · refine J_aload_n (q := 3) h d_Reducer_lessSub_179 rfl rfl ?_
                      refine J_getf h 29 (wX_29 ad cA σ20) (tb_ups in_Reducer) rfl 1 (by decide) (tb_up q_1_198) rfl d_Reducer_lessSub_180 ?_
                      refine J_iload (q := 0) h d_Reducer_lessSub_183 rfl ?_
                      refine J_callVi (As := [.int r19]) (st := []) (rmc := rX_Types_kindOf) (q0 := 7) h (fun _ _ hf => cX_Types_kindOf (jl K) D ad cA r19 σ20 _ _ hf) (gd_V q_3_21 q_2_127 q_2_128 q_1_3 q_2_129) rfl ⟨rfl, rfl⟩ dd_Types_kindOf ⟨Nat.le_of_ble_eq_true rfl, Nat.le_of_ble_eq_true rfl⟩ rfl rfl (wX_7 ad cA σ20) rfl rfl (Nat.le_of_ble_eq_true rfl) ⟨Nat.zero_le _, Nat.zero_le _⟩ d_Reducer_lessSub_185 (fun r21 σ22 => ?_)
                      refine J_iconst (v := 1) h d_Reducer_lessSub_188 (by decide) ?_
                      refine J_icmp_ne (tgt := 203) h d_Reducer_lessSub_189 (by decide) ?_ ?_
                      · refine J_aload_n (q := 3) h d_Reducer_lessSub_192 rfl rfl ?_
                        refine J_iconst (v := 2) h d_Reducer_lessSub_193 (by decide) ?_
                        refine J_iload (q := 0) h d_Reducer_lessSub_194 rfl ?_
                        refine J_iload_n (q := 5) h d_Reducer_lessSub_196 rfl rfl ?_
                        refine J_callVi (As := [.int 2, .int r19, .int x2]) (st := []) (rmc := rX_Reducer_withinArguments) (q0 := 29) h (fun _ _ hf => cX_Reducer_withinArguments (jl K) D ad cA N 2 r19 x2 σ22 _ _ hf) (gd_V q_3_103 q_3_105 q_s_10 q_1_7 q_3_106) rfl ⟨rfl, rfl⟩ dd_Reducer_withinArguments ⟨Nat.le_of_ble_eq_true rfl, Nat.le_of_ble_eq_true rfl⟩ rfl rfl (wX_29 ad cA σ22) rfl rfl (Nat.le_of_ble_eq_true rfl) ⟨Nat.zero_le _, Nat.zero_le _⟩ d_Reducer_lessSub_197 (fun r23 σ24 => ?_)
                        refine J_goto (tgt := 204) h d_Reducer_lessSub_200 (by decide) ?_
                        exact J_iret h rfl d_Reducer_lessSub_204
                      · refine J_iconst (v := 0) h d_Reducer_lessSub_203 (by decide) ?_
                        exact J_iret h rfl d_Reducer_lessSub_204
                  · refine J_iload (q := 0) h d_Reducer_lessSub_205 rfl ?_
                    refine J_iconst (v := 4) h d_Reducer_lessSub_207 (by decide) ?_
                    refine J_icmp_ne (tgt := 288) h d_Reducer_lessSub_208 (by decide) ?_ ?_
                    · refine J_iload_n (q := 1) h d_Reducer_lessSub_211 rfl rfl ?_
                      refine J_iconst (v := 4) h d_Reducer_lessSub_212 (by decide) ?_
                      refine J_icmp_ne (tgt := 288) h d_Reducer_lessSub_213 (by decide) ?_ ?_
                      · refine J_aload_n (q := 2) h d_Reducer_lessSub_216 rfl rfl ?_
                        refine J_getf h 29 (wX_29 ad cA σ4) (tb_ups in_Reducer) rfl 1 (by decide) (tb_up q_1_198) rfl d_Reducer_lessSub_217 ?_
                        refine J_iload_n (q := 3) h d_Reducer_lessSub_220 rfl rfl ?_
                        refine J_callVi (As := [.int x1]) (st := []) (rmc := rX_Types_firstOf) (q0 := 7) h (fun _ _ hf => cX_Types_firstOf (jl K) D ad cA x1 σ4 _ _ hf) (gd_V q_3_26 q_2_131 q_2_132 q_1_3 q_2_133) rfl ⟨rfl, rfl⟩ dd_Types_firstOf ⟨Nat.le_of_ble_eq_true rfl, Nat.le_of_ble_eq_true rfl⟩ rfl rfl (wX_7 ad cA σ4) rfl rfl (Nat.le_of_ble_eq_true rfl) ⟨Nat.zero_le _, Nat.zero_le _⟩ d_Reducer_lessSub_221 (fun r25 σ26 => ?_)
                        refine J_istore (lv' := [(5, .int r25), (4, .int r3), (3, .int r1), (0, .ref (ad 29)), (1, .int x1), (2, .int x2)]) h d_Reducer_lessSub_224 (by decide) rfl ?_
                        refine J_aload_n (q := 3) h d_Reducer_lessSub_226 rfl rfl ?_
                        refine J_getf h 29 (wX_29 ad cA σ26) (tb_ups in_Reducer) rfl 1 (by decide) (tb_up q_1_198) rfl d_Reducer_lessSub_227 ?_
                        refine J_iload_n (q := 5) h d_Reducer_lessSub_230 rfl rfl ?_
                        refine J_callVi (As := [.int x2]) (st := []) (rmc := rX_Types_firstOf) (q0 := 7) h (fun _ _ hf => cX_Types_firstOf (jl K) D ad cA x2 σ26 _ _ hf) (gd_V q_3_26 q_2_131 q_2_132 q_1_3 q_2_133) rfl ⟨rfl, rfl⟩ dd_Types_firstOf ⟨Nat.le_of_ble_eq_true rfl, Nat.le_of_ble_eq_true rfl⟩ rfl rfl (wX_7 ad cA σ26) rfl rfl (Nat.le_of_ble_eq_true rfl) ⟨Nat.zero_le _, Nat.zero_le _⟩ d_Reducer_lessSub_231 (fun r27 σ28 => ?_)
                        refine J_istore (lv' := [(6, .int r27), (5, .int r25), (4, .int r3), (3, .int r1), (0, .ref (ad 29)), (1, .int x1), (2, .int x2)]) h d_Reducer_lessSub_234 (by decide) rfl ?_
                        refine J_aload_n (q := 4) h d_Reducer_lessSub_236 rfl rfl ?_
                        refine J_getf h 29 (wX_29 ad cA σ28) (tb_ups in_Reducer) rfl 1 (by decide) (tb_up q_1_198) rfl d_Reducer_lessSub_237 ?_
                        refine J_iload (q := 1) h d_Reducer_lessSub_240 rfl ?_
                        refine J_callVi (As := [.int r25]) (st := []) (rmc := rX_Types_kindOf) (q0 := 7) h (fun _ _ hf => cX_Types_kindOf (jl K) D ad cA r25 σ28 _ _ hf) (gd_V q_3_21 q_2_127 q_2_128 q_1_3 q_2_129) rfl ⟨rfl, rfl⟩ dd_Types_kindOf ⟨Nat.le_of_ble_eq_true rfl, Nat.le_of_ble_eq_true rfl⟩ rfl rfl (wX_7 ad cA σ28) rfl rfl (Nat.le_of_ble_eq_true rfl) ⟨Nat.zero_le _, Nat.zero_le _⟩ d_Reducer_lessSub_242 (fun r29 σ30 => ?_)
                        refine J_iconst (v := 5) h d_Reducer_lessSub_245 (by decide) ?_
                        refine J_icmp_eq (tgt := 262) h d_Reducer_lessSub_246 (by decide) ?_ ?_
                        · refine J_sub [1, 0] rfl ?_
                          exact J_X_Reducer_lessSub_b262 K D A ad cA N h r25 r27 σ30
                        · refine J_aload_n (q := 4) h d_Reducer_lessSub_249 rfl rfl ?_
                          refine J_getf h 29 (wX_29 ad cA σ30) (tb_ups in_Reducer) rfl 1 (by decide) (tb_up q_1_198) rfl d_Reducer_lessSub_250 ?_
                          refine J_iload (q := 0) h d_Reducer_lessSub_253 rfl ?_
                          refine J_callVi (As := [.int r27]) (st := []) (rmc := rX_Types_kindOf) (q0 := 7) h (fun _ _ hf => cX_Types_kindOf (jl K) D ad cA r27 σ30 _ _ hf) (gd_V q_3_21 q_2_127 q_2_128 q_1_3 q_2_129) rfl ⟨rfl, rfl⟩ dd_Types_kindOf ⟨Nat.le_of_ble_eq_true rfl, Nat.le_of_ble_eq_true rfl⟩ rfl rfl (wX_7 ad cA σ30) rfl rfl (Nat.le_of_ble_eq_true rfl) ⟨Nat.zero_le _, Nat.zero_le _⟩ d_Reducer_lessSub_255 (fun r33 σ34 => ?_)
                          refine J_iconst (v := 5) h d_Reducer_lessSub_258 (by decide) ?_
                          refine J_icmp_ne (tgt := 278) h d_Reducer_lessSub_259 (by decide) ?_ ?_
                          · refine J_sub [1, 0] rfl ?_
                            exact J_X_Reducer_lessSub_b262 K D A ad cA N h r25 r27 σ34
                          · refine J_aload_n (q := 4) h d_Reducer_lessSub_278 rfl rfl ?_
                            refine J_iconst (v := 1) h d_Reducer_lessSub_279 (by decide) ?_
                            refine J_iload (q := 1) h d_Reducer_lessSub_280 rfl ?_
                            refine J_iload (q := 0) h d_Reducer_lessSub_282 rfl ?_
                            refine J_callVi (As := [.int 1, .int r25, .int r27]) (st := []) (rmc := rX_Reducer_within) (q0 := 29) h (fun _ _ hf => cX_Reducer_within (jl K) D ad cA 1 r25 r27 σ34 _ _ hf) (gd_V q_3_38 q_3_40 q_s_6 q_1_7 q_3_41) rfl ⟨rfl, rfl⟩ dd_Reducer_within ⟨Nat.le_of_ble_eq_true rfl, Nat.le_of_ble_eq_true rfl⟩ rfl rfl (wX_29 ad cA σ34) rfl rfl (Nat.le_of_ble_eq_true rfl) ⟨Nat.zero_le _, Nat.zero_le _⟩ d_Reducer_lessSub_284 (fun r35 σ36 => ?_)
                            exact J_iret h rfl d_Reducer_lessSub_287
                      · refine J_sub [2, 3, 4] rfl ?_
                        exact J_X_Reducer_lessSub_b288 K D A ad cA N h x1 x2 σ4
                    · refine J_sub [2, 3, 4] rfl ?_
                      exact J_X_Reducer_lessSub_b288 K D A ad cA N h x1 x2 σ4
set_option maxRecDepth 100000 in
theorem cX_Reducer_lessSub (l : Launch) (D : va_G) (ad : Nat → Nat) (cA : Nat → ClassId) (N : Nat) (x1 : Int32) (x2 : Int32) (σ : SX) (r : Int32) (σ' : SX) (hf : X_Reducer_lessSub N x1 x2 σ = some (r, σ')) : MetI l y_Reducer_lessSub ((Cond.code y_Reducer_lessSub b_Reducer_lessSub 7 (some .int)) :: tblG) rX_Reducer_lessSub D clX (tysX cA) (wX ad cA) [.ref (ad 29), .int x1, .int x2] σ r σ' :=
  jx_metI (by decide) rfl (Nat.le_of_ble_eq_true rfl) (fun K A h => J_X_Reducer_lessSub K D A ad cA N h x1 x2 σ) hf
def rX_Reducer_lessContained : Room := { frames := 2, cells := 0, slots := 0, locals := 47 }
theorem rm_ok_X_Reducer_lessContained : rX_Reducer_lessContained.cells = 0 ∧ rX_Reducer_lessContained.slots = 0 := ⟨rfl, rfl⟩
def X_Reducer_lessContained_b143 (N : Nat) (v5 : Int32) (s0 : Int32) (σ : SX) : Option (Int32 × SX) := (bd (X_Types_make N 0 0 (-1) (-1) σ) (fun (r15 : Int32) (σ16 : SX) => (bd (X_Reducer_within s0 r15 v5 σ16) (fun (r17 : Int32) (σ18 : SX) => (some (r17, σ18))))))
set_option maxRecDepth 100000 in
set_option maxHeartbeats 4000000 in
theorem J_X_Reducer_lessContained_b143 (K : jx_E) (D : va_G) (A : Nat → Prop) (ad : Nat → Nat) (cA : Nat → ClassId) (N : Nat) (h : jx_ok K D clX (tysX cA) A 7 b_Reducer_lessContained y_Reducer_lessContained.cls ((Cond.code y_Reducer_lessContained b_Reducer_lessContained 7 (some .int)) :: tblG) rX_Reducer_lessContained (some .int)) : ∀ (v5 : Int32) (s0 : Int32) (σ : SX), J K D clX A 7 (wX ad cA) (jx_Qi K D clX (tysX cA) (wX ad cA) A) 0 0 143 [(0, .ref (ad 29)), (5, .int v5)] [.int s0, .ref (ad 29)] σ (X_Reducer_lessContained_b143 N v5 s0 σ) := by
  intro v5 s0 σ
  rw [X_Reducer_lessContained_b143]
  refine J_aload_n (q := 0) h d_Reducer_lessContained_143 rfl rfl ?_
  refine J_getf h 29 (wX_29 ad cA σ) (tb_ups in_Reducer) rfl 1 (by decide) (tb_up q_1_198) rfl d_Reducer_lessContained_144 ?_
  refine J_iconst (v := 0) h d_Reducer_lessContained_147 (by decide) ?_
  refine J_iconst (v := 0) h d_Reducer_lessContained_148 (by decide) ?_
  refine J_iconst (v := (-1)) h d_Reducer_lessContained_149 (by decide) ?_
  refine J_iconst (v := (-1)) h d_Reducer_lessContained_150 (by decide) ?_
  refine J_callVi (As := [.int 0, .int 0, .int (-1), .int (-1)]) (st := [.int s0, .ref (ad 29)]) (rmc := rX_Types_make) (q0 := 7) h (fun _ _ hf => cX_Types_make (jl K) D ad cA N 0 0 (-1) (-1) σ _ _ hf) (gd_V q_3_37 q_2_173 q_2_174 q_1_3 q_2_175) rfl ⟨rfl, rfl⟩ dd_Types_make ⟨Nat.le_of_ble_eq_true rfl, Nat.le_of_ble_eq_true rfl⟩ rfl rfl (wX_7 ad cA σ) rfl rfl (Nat.le_of_ble_eq_true rfl) ⟨Nat.zero_le _, Nat.zero_le _⟩ d_Reducer_lessContained_151 (fun r15 σ16 => ?_)
  refine J_iload (q := 1) h d_Reducer_lessContained_154 rfl ?_
  refine J_callVi (As := [.int s0, .int r15, .int v5]) (st := []) (rmc := rX_Reducer_within) (q0 := 29) h (fun _ _ hf => cX_Reducer_within (jl K) D ad cA s0 r15 v5 σ16 _ _ hf) (gd_V q_3_38 q_3_40 q_s_6 q_1_7 q_3_41) rfl ⟨rfl, rfl⟩ dd_Reducer_within ⟨Nat.le_of_ble_eq_true rfl, Nat.le_of_ble_eq_true rfl⟩ rfl rfl (wX_29 ad cA σ16) rfl rfl (Nat.le_of_ble_eq_true rfl) ⟨Nat.zero_le _, Nat.zero_le _⟩ d_Reducer_lessContained_156 (fun r17 σ18 => ?_)
  exact J_iret h rfl d_Reducer_lessContained_159
def X_Reducer_lessContained_b89 (N : Nat) (v1 : Int32) (v3 : Int32) (v4 : Int32) (v5 : Int32) (s0 : Int32) (σ : SX) : Option (Int32 × SX) := (if v4 = 1 then (if v3 = 0 then (bd (X_Reducer_within 1 v1 v5 σ) (fun (r9 : Int32) (σ10 : SX) => (some (r9, σ10)))) else (if s0 = 1 then (bd (X_Types_secondOf v1 σ) (fun (r11 : Int32) (σ12 : SX) => (bd (X_Reducer_within 1 r11 v5 σ12) (fun (r13 : Int32) (σ14 : SX) => (some (r13, σ14)))))) else (if s0 = 0 then (X_Reducer_lessContained_b143 N v5 1 σ) else (X_Reducer_lessContained_b143 N v5 3 σ)))) else (if v3 = 0 then (bd (X_Reducer_within 1 v5 v1 σ) (fun (r19 : Int32) (σ20 : SX) => (some (r19, σ20)))) else (if s0 = 2 then (bd (X_Types_secondOf v1 σ) (fun (r21 : Int32) (σ22 : SX) => (bd (X_Reducer_within 1 v5 r21 σ22) (fun (r23 : Int32) (σ24 : SX) => (some (r23, σ24)))))) else (some (0, σ)))))
set_option maxRecDepth 100000 in
set_option maxHeartbeats 4000000 in
theorem J_X_Reducer_lessContained_b89 (K : jx_E) (D : va_G) (A : Nat → Prop) (ad : Nat → Nat) (cA : Nat → ClassId) (N : Nat) (h : jx_ok K D clX (tysX cA) A 7 b_Reducer_lessContained y_Reducer_lessContained.cls ((Cond.code y_Reducer_lessContained b_Reducer_lessContained 7 (some .int)) :: tblG) rX_Reducer_lessContained (some .int)) : ∀ (v1 : Int32) (v3 : Int32) (v4 : Int32) (v5 : Int32) (s0 : Int32) (σ : SX), J K D clX A 7 (wX ad cA) (jx_Qi K D clX (tysX cA) (wX ad cA) A) 0 0 89 [(0, .ref (ad 29)), (1, .int v1), (3, .int v3), (4, .int v4), (5, .int v5)] [.int s0] σ (X_Reducer_lessContained_b89 N v1 v3 v4 v5 s0 σ) := by
  intro v1 v3 v4 v5 s0 σ
  rw [X_Reducer_lessContained_b89]
  refine J_istore (lv' := [(6, .int s0), (0, .ref (ad 29)), (1, .int v1), (3, .int v3), (4, .int v4), (5, .int v5)]) h d_Reducer_lessContained_89 (by decide) rfl ?_
  refine J_iload (q := 4) h d_Reducer_lessContained_91 rfl ?_
  refine J_iconst (v := 1) h d_Reducer_lessContained_93 (by decide) ?_
  refine J_icmp_ne (tgt := 160) h d_Reducer_lessContained_94 (by decide) ?_ ?_
  · refine J_iload_n (q := 3) h d_Reducer_lessContained_97 rfl rfl ?_
    refine J_if_ne (tgt := 110) h d_Reducer_lessContained_98 (by decide) ?_ ?_
    · refine J_aload_n (q := 1) h d_Reducer_lessContained_101 rfl rfl ?_
      refine J_iconst (v := 1) h d_Reducer_lessContained_102 (by decide) ?_
      refine J_iload_n (q := 2) h d_Reducer_lessContained_103 rfl rfl ?_
      refine J_iload (q := 5) h d_Reducer_lessContained_104 rfl ?_
      refine J_callVi (As := [.int 1, .int v1, .int v5]) (st := []) (rmc := rX_Reducer_within) (q0 := 29) h (fun _ _ hf => cX_Reducer_within (jl K) D ad cA 1 v1 v5 σ _ _ hf) (gd_V q_3_38 q_3_40 q_s_6 q_1_7 q_3_41) rfl ⟨rfl, rfl⟩ dd_Reducer_within ⟨Nat.le_of_ble_eq_true rfl, Nat.le_of_ble_eq_true rfl⟩ rfl rfl (wX_29 ad cA σ) rfl rfl (Nat.le_of_ble_eq_true rfl) ⟨Nat.zero_le _, Nat.zero_le _⟩ d_Reducer_lessContained_106 (fun r9 σ10 => ?_)
      exact J_iret h rfl d_Reducer_lessContained_109
    · refine J_iload (q := 0) h d_Reducer_lessContained_110 rfl ?_
      refine J_iconst (v := 1) h d_Reducer_lessContained_112 (by decide) ?_
      refine J_icmp_ne (tgt := 132) h d_Reducer_lessContained_113 (by decide) ?_ ?_
      · refine J_aload_n (q := 1) h d_Reducer_lessContained_116 rfl rfl ?_
        refine J_iconst (v := 1) h d_Reducer_lessContained_117 (by decide) ?_
        refine J_aload_n (q := 1) h d_Reducer_lessContained_118 rfl rfl ?_
        refine J_getf h 29 (wX_29 ad cA σ) (tb_ups in_Reducer) rfl 1 (by decide) (tb_up q_1_198) rfl d_Reducer_lessContained_119 ?_
        refine J_iload_n (q := 2) h d_Reducer_lessContained_122 rfl rfl ?_
        refine J_callVi (As := [.int v1]) (st := [.int 1, .ref (ad 29)]) (rmc := rX_Types_secondOf) (q0 := 7) h (fun _ _ hf => cX_Types_secondOf (jl K) D ad cA v1 σ _ _ hf) (gd_V q_3_112 q_2_144 q_2_145 q_1_3 q_2_146) rfl ⟨rfl, rfl⟩ dd_Types_secondOf ⟨Nat.le_of_ble_eq_true rfl, Nat.le_of_ble_eq_true rfl⟩ rfl rfl (wX_7 ad cA σ) rfl rfl (Nat.le_of_ble_eq_true rfl) ⟨Nat.zero_le _, Nat.zero_le _⟩ d_Reducer_lessContained_123 (fun r11 σ12 => ?_)
        refine J_iload (q := 5) h d_Reducer_lessContained_126 rfl ?_
        refine J_callVi (As := [.int 1, .int r11, .int v5]) (st := []) (rmc := rX_Reducer_within) (q0 := 29) h (fun _ _ hf => cX_Reducer_within (jl K) D ad cA 1 r11 v5 σ12 _ _ hf) (gd_V q_3_38 q_3_40 q_s_6 q_1_7 q_3_41) rfl ⟨rfl, rfl⟩ dd_Reducer_within ⟨Nat.le_of_ble_eq_true rfl, Nat.le_of_ble_eq_true rfl⟩ rfl rfl (wX_29 ad cA σ12) rfl rfl (Nat.le_of_ble_eq_true rfl) ⟨Nat.zero_le _, Nat.zero_le _⟩ d_Reducer_lessContained_128 (fun r13 σ14 => ?_)
        exact J_iret h rfl d_Reducer_lessContained_131
      · refine J_aload_n (q := 1) h d_Reducer_lessContained_132 rfl rfl ?_
        refine J_iload (q := 0) h d_Reducer_lessContained_133 rfl ?_
        refine J_if_ne (tgt := 142) h d_Reducer_lessContained_135 (by decide) ?_ ?_
        · refine J_iconst (v := 1) h d_Reducer_lessContained_138 (by decide) ?_
          refine J_goto (tgt := 143) h d_Reducer_lessContained_139 (by decide) ?_
          refine J_sub [1, 5] rfl ?_
          exact J_X_Reducer_lessContained_b143 K D A ad cA N h v5 1 σ
        · refine J_iconst (v := 3) h d_Reducer_lessContained_142 (by decide) ?_
          refine J_sub [1, 5] rfl ?_
          exact J_X_Reducer_lessContained_b143 K D A ad cA N h v5 3 σ
  · refine J_iload_n (q := 3) h d_Reducer_lessContained_160 rfl rfl ?_
    refine J_if_ne (tgt := 173) h d_Reducer_lessContained_161 (by decide) ?_ ?_
    · refine J_aload_n (q := 1) h d_Reducer_lessContained_164 rfl rfl ?_
      refine J_iconst (v := 1) h d_Reducer_lessContained_165 (by decide) ?_
      refine J_iload (q := 5) h d_Reducer_lessContained_166 rfl ?_
      refine J_iload_n (q := 2) h d_Reducer_lessContained_168 rfl rfl ?_
      refine J_callVi (As := [.int 1, .int v5, .int v1]) (st := []) (rmc := rX_Reducer_within) (q0 := 29) h (fun _ _ hf => cX_Reducer_within (jl K) D ad cA 1 v5 v1 σ _ _ hf) (gd_V q_3_38 q_3_40 q_s_6 q_1_7 q_3_41) rfl ⟨rfl, rfl⟩ dd_Reducer_within ⟨Nat.le_of_ble_eq_true rfl, Nat.le_of_ble_eq_true rfl⟩ rfl rfl (wX_29 ad cA σ) rfl rfl (Nat.le_of_ble_eq_true rfl) ⟨Nat.zero_le _, Nat.zero_le _⟩ d_Reducer_lessContained_169 (fun r19 σ20 => ?_)
      exact J_iret h rfl d_Reducer_lessContained_172
    · refine J_iload (q := 0) h d_Reducer_lessContained_173 rfl ?_
      refine J_iconst (v := 2) h d_Reducer_lessContained_175 (by decide) ?_
      refine J_icmp_ne (tgt := 197) h d_Reducer_lessContained_176 (by decide) ?_ ?_
      · refine J_aload_n (q := 1) h d_Reducer_lessContained_179 rfl rfl ?_
        refine J_iconst (v := 1) h d_Reducer_lessContained_180 (by decide) ?_
        refine J_iload (q := 5) h d_Reducer_lessContained_181 rfl ?_
        refine J_aload_n (q := 1) h d_Reducer_lessContained_183 rfl rfl ?_
        refine J_getf h 29 (wX_29 ad cA σ) (tb_ups in_Reducer) rfl 1 (by decide) (tb_up q_1_198) rfl d_Reducer_lessContained_184 ?_
        refine J_iload_n (q := 2) h d_Reducer_lessContained_187 rfl rfl ?_
        refine J_callVi (As := [.int v1]) (st := [.int v5, .int 1, .ref (ad 29)]) (rmc := rX_Types_secondOf) (q0 := 7) h (fun _ _ hf => cX_Types_secondOf (jl K) D ad cA v1 σ _ _ hf) (gd_V q_3_112 q_2_144 q_2_145 q_1_3 q_2_146) rfl ⟨rfl, rfl⟩ dd_Types_secondOf ⟨Nat.le_of_ble_eq_true rfl, Nat.le_of_ble_eq_true rfl⟩ rfl rfl (wX_7 ad cA σ) rfl rfl (Nat.le_of_ble_eq_true rfl) ⟨Nat.zero_le _, Nat.zero_le _⟩ d_Reducer_lessContained_188 (fun r21 σ22 => ?_)
        refine J_callVi (As := [.int 1, .int v5, .int r21]) (st := []) (rmc := rX_Reducer_within) (q0 := 29) h (fun _ _ hf => cX_Reducer_within (jl K) D ad cA 1 v5 r21 σ22 _ _ hf) (gd_V q_3_38 q_3_40 q_s_6 q_1_7 q_3_41) rfl ⟨rfl, rfl⟩ dd_Reducer_within ⟨Nat.le_of_ble_eq_true rfl, Nat.le_of_ble_eq_true rfl⟩ rfl rfl (wX_29 ad cA σ22) rfl rfl (Nat.le_of_ble_eq_true rfl) ⟨Nat.zero_le _, Nat.zero_le _⟩ d_Reducer_lessContained_191 (fun r23 σ24 => ?_)
        refine J_goto (tgt := 198) h d_Reducer_lessContained_194 (by decide) ?_
        exact J_iret h rfl d_Reducer_lessContained_198
      · refine J_iconst (v := 0) h d_Reducer_lessContained_197 (by decide) ?_
        exact J_iret h rfl d_Reducer_lessContained_198
def X_Reducer_lessContained_b17 (N : Nat) (v1 : Int32) (v2 : Int32) (s0 : Int32) (σ : SX) : Option (Int32 × SX) := (bd (X_Types_kindOf v2 σ) (fun (r3 : Int32) (σ4 : SX) => (if r3 = 2 then (bd (X_Types_firstOf v2 σ4) (fun (r5 : Int32) (σ6 : SX) => (bd (X_Types_secondOf v2 σ6) (fun (r7 : Int32) (σ8 : SX) => (if r5 = 0 then (some (1, σ8)) else (if s0 = 0 then (X_Reducer_lessContained_b89 N v1 s0 r5 r7 (-1) σ8) else (bd (X_Types_firstOf v1 σ8) (fun (r25 : Int32) (σ26 : SX) => (X_Reducer_lessContained_b89 N v1 s0 r5 r7 r25 σ26))))))))) else (if s0 = 0 then (bd (X_Reducer_within 3 v1 v2 σ4) (fun (r27 : Int32) (σ28 : SX) => (some (r27, σ28)))) else (some (0, σ4))))))
set_option maxRecDepth 100000 in
set_option maxHeartbeats 4000000 in
theorem J_X_Reducer_lessContained_b17 (K : jx_E) (D : va_G) (A : Nat → Prop) (ad : Nat → Nat) (cA : Nat → ClassId) (N : Nat) (h : jx_ok K D clX (tysX cA) A 7 b_Reducer_lessContained y_Reducer_lessContained.cls ((Cond.code y_Reducer_lessContained b_Reducer_lessContained 7 (some .int)) :: tblG) rX_Reducer_lessContained (some .int)) : ∀ (v1 : Int32) (v2 : Int32) (s0 : Int32) (σ : SX), J K D clX A 7 (wX ad cA) (jx_Qi K D clX (tysX cA) (wX ad cA) A) 0 0 17 [(0, .ref (ad 29)), (1, .int v1), (2, .int v2)] [.int s0] σ (X_Reducer_lessContained_b17 N v1 v2 s0 σ) := by
  intro v1 v2 s0 σ
  rw [X_Reducer_lessContained_b17]
  refine J_istore_n (lv' := [(3, .int s0), (0, .ref (ad 29)), (1, .int v1), (2, .int v2)]) h d_Reducer_lessContained_17 rfl (by decide) rfl ?_
  refine J_aload_n (q := 1) h d_Reducer_lessContained_18 rfl rfl ?_
  refine J_getf h 29 (wX_29 ad cA σ) (tb_ups in_Reducer) rfl 1 (by decide) (tb_up q_1_198) rfl d_Reducer_lessContained_19 ?_
  refine J_iload_n (q := 3) h d_Reducer_lessContained_22 rfl rfl ?_
  refine J_callVi (As := [.int v2]) (st := []) (rmc := rX_Types_kindOf) (q0 := 7) h (fun _ _ hf => cX_Types_kindOf (jl K) D ad cA v2 σ _ _ hf) (gd_V q_3_21 q_2_127 q_2_128 q_1_3 q_2_129) rfl ⟨rfl, rfl⟩ dd_Types_kindOf ⟨Nat.le_of_ble_eq_true rfl, Nat.le_of_ble_eq_true rfl⟩ rfl rfl (wX_7 ad cA σ) rfl rfl (Nat.le_of_ble_eq_true rfl) ⟨Nat.zero_le _, Nat.zero_le _⟩ d_Reducer_lessContained_23 (fun r3 σ4 => ?_)
  refine J_iconst (v := 2) h d_Reducer_lessContained_26 (by decide) ?_
  refine J_icmp_eq (tgt := 46) h d_Reducer_lessContained_27 (by decide) ?_ ?_
  · refine J_aload_n (q := 1) h d_Reducer_lessContained_46 rfl rfl ?_
    refine J_getf h 29 (wX_29 ad cA σ4) (tb_ups in_Reducer) rfl 1 (by decide) (tb_up q_1_198) rfl d_Reducer_lessContained_47 ?_
    refine J_iload_n (q := 3) h d_Reducer_lessContained_50 rfl rfl ?_
    refine J_callVi (As := [.int v2]) (st := []) (rmc := rX_Types_firstOf) (q0 := 7) h (fun _ _ hf => cX_Types_firstOf (jl K) D ad cA v2 σ4 _ _ hf) (gd_V q_3_26 q_2_131 q_2_132 q_1_3 q_2_133) rfl ⟨rfl, rfl⟩ dd_Types_firstOf ⟨Nat.le_of_ble_eq_true rfl, Nat.le_of_ble_eq_true rfl⟩ rfl rfl (wX_7 ad cA σ4) rfl rfl (Nat.le_of_ble_eq_true rfl) ⟨Nat.zero_le _, Nat.zero_le _⟩ d_Reducer_lessContained_51 (fun r5 σ6 => ?_)
    refine J_istore (lv' := [(4, .int r5), (3, .int s0), (0, .ref (ad 29)), (1, .int v1), (2, .int v2)]) h d_Reducer_lessContained_54 (by decide) rfl ?_
    refine J_aload_n (q := 2) h d_Reducer_lessContained_56 rfl rfl ?_
    refine J_getf h 29 (wX_29 ad cA σ6) (tb_ups in_Reducer) rfl 1 (by decide) (tb_up q_1_198) rfl d_Reducer_lessContained_57 ?_
    refine J_iload_n (q := 4) h d_Reducer_lessContained_60 rfl rfl ?_
    refine J_callVi (As := [.int v2]) (st := []) (rmc := rX_Types_secondOf) (q0 := 7) h (fun _ _ hf => cX_Types_secondOf (jl K) D ad cA v2 σ6 _ _ hf) (gd_V q_3_112 q_2_144 q_2_145 q_1_3 q_2_146) rfl ⟨rfl, rfl⟩ dd_Types_secondOf ⟨Nat.le_of_ble_eq_true rfl, Nat.le_of_ble_eq_true rfl⟩ rfl rfl (wX_7 ad cA σ6) rfl rfl (Nat.le_of_ble_eq_true rfl) ⟨Nat.zero_le _, Nat.zero_le _⟩ d_Reducer_lessContained_61 (fun r7 σ8 => ?_)
    refine J_istore (lv' := [(5, .int r7), (4, .int r5), (3, .int s0), (0, .ref (ad 29)), (1, .int v1), (2, .int v2)]) h d_Reducer_lessContained_64 (by decide) rfl ?_
    refine J_iload (q := 1) h d_Reducer_lessContained_66 rfl ?_
    refine J_if_ne (tgt := 73) h d_Reducer_lessContained_68 (by decide) ?_ ?_
    · refine J_iconst (v := 1) h d_Reducer_lessContained_71 (by decide) ?_
      exact J_iret h rfl d_Reducer_lessContained_72
    · refine J_iload_n (q := 2) h d_Reducer_lessContained_73 rfl rfl ?_
      refine J_if_eq (tgt := 88) h d_Reducer_lessContained_74 (by decide) ?_ ?_
      · refine J_iconst (v := (-1)) h d_Reducer_lessContained_88 (by decide) ?_
        refine J_sub [3, 4, 2, 1, 0] rfl ?_
        exact J_X_Reducer_lessContained_b89 K D A ad cA N h v1 s0 r5 r7 (-1) σ8
      · refine J_aload_n (q := 3) h d_Reducer_lessContained_77 rfl rfl ?_
        refine J_getf h 29 (wX_29 ad cA σ8) (tb_ups in_Reducer) rfl 1 (by decide) (tb_up q_1_198) rfl d_Reducer_lessContained_78 ?_
        refine J_iload_n (q := 4) h d_Reducer_lessContained_81 rfl rfl ?_
        refine J_callVi (As := [.int v1]) (st := []) (rmc := rX_Types_firstOf) (q0 := 7) h (fun _ _ hf => cX_Types_firstOf (jl K) D ad cA v1 σ8 _ _ hf) (gd_V q_3_26 q_2_131 q_2_132 q_1_3 q_2_133) rfl ⟨rfl, rfl⟩ dd_Types_firstOf ⟨Nat.le_of_ble_eq_true rfl, Nat.le_of_ble_eq_true rfl⟩ rfl rfl (wX_7 ad cA σ8) rfl rfl (Nat.le_of_ble_eq_true rfl) ⟨Nat.zero_le _, Nat.zero_le _⟩ d_Reducer_lessContained_82 (fun r25 σ26 => ?_)
        refine J_goto (tgt := 89) h d_Reducer_lessContained_85 (by decide) ?_
        refine J_sub [3, 4, 2, 1, 0] rfl ?_
        exact J_X_Reducer_lessContained_b89 K D A ad cA N h v1 s0 r5 r7 r25 σ26
  · refine J_iload_n (q := 0) h d_Reducer_lessContained_30 rfl rfl ?_
    refine J_if_eq (tgt := 38) h d_Reducer_lessContained_31 (by decide) ?_ ?_
    · refine J_aload_n (q := 1) h d_Reducer_lessContained_38 rfl rfl ?_
      refine J_iconst (v := 3) h d_Reducer_lessContained_39 (by decide) ?_
      refine J_iload_n (q := 2) h d_Reducer_lessContained_40 rfl rfl ?_
      refine J_iload_n (q := 3) h d_Reducer_lessContained_41 rfl rfl ?_
      refine J_callVi (As := [.int 3, .int v1, .int v2]) (st := []) (rmc := rX_Reducer_within) (q0 := 29) h (fun _ _ hf => cX_Reducer_within (jl K) D ad cA 3 v1 v2 σ4 _ _ hf) (gd_V q_3_38 q_3_40 q_s_6 q_1_7 q_3_41) rfl ⟨rfl, rfl⟩ dd_Reducer_within ⟨Nat.le_of_ble_eq_true rfl, Nat.le_of_ble_eq_true rfl⟩ rfl rfl (wX_29 ad cA σ4) rfl rfl (Nat.le_of_ble_eq_true rfl) ⟨Nat.zero_le _, Nat.zero_le _⟩ d_Reducer_lessContained_42 (fun r27 σ28 => ?_)
      exact J_iret h rfl d_Reducer_lessContained_45
    · refine J_iconst (v := 0) h d_Reducer_lessContained_34 (by decide) ?_
      refine J_goto (tgt := 45) h d_Reducer_lessContained_35 (by decide) ?_
      exact J_iret h rfl d_Reducer_lessContained_45
def X_Reducer_lessContained (N : Nat) (x1 : Int32) (x2 : Int32) (σ : SX) : Option (Int32 × SX) := (bd (X_Types_kindOf x1 σ) (fun (r1 : Int32) (σ2 : SX) => (if r1 = 2 then (X_Reducer_lessContained_b17 N x1 x2 1 σ2) else (X_Reducer_lessContained_b17 N x1 x2 0 σ2))))
set_option maxRecDepth 100000 in
set_option maxHeartbeats 4000000 in
theorem J_X_Reducer_lessContained (K : jx_E) (D : va_G) (A : Nat → Prop) (ad : Nat → Nat) (cA : Nat → ClassId) (N : Nat) (h : jx_ok K D clX (tysX cA) A 7 b_Reducer_lessContained y_Reducer_lessContained.cls ((Cond.code y_Reducer_lessContained b_Reducer_lessContained 7 (some .int)) :: tblG) rX_Reducer_lessContained (some .int)) : ∀ (x1 : Int32) (x2 : Int32) (σ : SX), J K D clX A 7 (wX ad cA) (jx_Qi K D clX (tysX cA) (wX ad cA) A) 0 0 0 [(0, .ref (ad 29)), (1, .int x1), (2, .int x2)] [] σ (X_Reducer_lessContained N x1 x2 σ) := by
  intro x1 x2 σ
  rw [X_Reducer_lessContained]
  refine J_aload_n (q := 0) h d_Reducer_lessContained_0 rfl rfl ?_
  refine J_getf h 29 (wX_29 ad cA σ) (tb_ups in_Reducer) rfl 1 (by decide) (tb_up q_1_198) rfl d_Reducer_lessContained_1 ?_
  refine J_iload_n (q := 1) h d_Reducer_lessContained_4 rfl rfl ?_
  refine J_callVi (As := [.int x1]) (st := []) (rmc := rX_Types_kindOf) (q0 := 7) h (fun _ _ hf => cX_Types_kindOf (jl K) D ad cA x1 σ _ _ hf) (gd_V q_3_21 q_2_127 q_2_128 q_1_3 q_2_129) rfl ⟨rfl, rfl⟩ dd_Types_kindOf ⟨Nat.le_of_ble_eq_true rfl, Nat.le_of_ble_eq_true rfl⟩ rfl rfl (wX_7 ad cA σ) rfl rfl (Nat.le_of_ble_eq_true rfl) ⟨Nat.zero_le _, Nat.zero_le _⟩ d_Reducer_lessContained_5 (fun r1 σ2 => ?_)
  refine J_iconst (v := 2) h d_Reducer_lessContained_8 (by decide) ?_
  refine J_icmp_ne (tgt := 16) h d_Reducer_lessContained_9 (by decide) ?_ ?_
  · refine J_iconst (v := 1) h d_Reducer_lessContained_12 (by decide) ?_
    refine J_goto (tgt := 17) h d_Reducer_lessContained_13 (by decide) ?_
    exact J_X_Reducer_lessContained_b17 K D A ad cA N h x1 x2 1 σ2
  · refine J_iconst (v := 0) h d_Reducer_lessContained_16 (by decide) ?_
    exact J_X_Reducer_lessContained_b17 K D A ad cA N h x1 x2 0 σ2
set_option maxRecDepth 100000 in
theorem cX_Reducer_lessContained (l : Launch) (D : va_G) (ad : Nat → Nat) (cA : Nat → ClassId) (N : Nat) (x1 : Int32) (x2 : Int32) (σ : SX) (r : Int32) (σ' : SX) (hf : X_Reducer_lessContained N x1 x2 σ = some (r, σ')) : MetI l y_Reducer_lessContained ((Cond.code y_Reducer_lessContained b_Reducer_lessContained 7 (some .int)) :: tblG) rX_Reducer_lessContained D clX (tysX cA) (wX ad cA) [.ref (ad 29), .int x1, .int x2] σ r σ' :=
  jx_metI (by decide) rfl (Nat.le_of_ble_eq_true rfl) (fun K A h => J_X_Reducer_lessContained K D A ad cA N h x1 x2 σ) hf
def rX_Reducer_lessEqual : Room := { frames := 3, cells := 0, slots := 0, locals := 72 }
theorem rm_ok_X_Reducer_lessEqual : rX_Reducer_lessEqual.cells = 0 ∧ rX_Reducer_lessEqual.slots = 0 := ⟨rfl, rfl⟩
def X_Reducer_lessEqual_b89 (N : Nat) (v1 : Int32) (v2 : Int32) (σ : SX) : Option (Int32 × SX) := (bd (X_Reducer_bind N 0 0 v1 v2 σ) (fun (r7 : Int32) (σ8 : SX) => (some (r7, σ8))))
set_option maxRecDepth 100000 in
set_option maxHeartbeats 4000000 in
theorem J_X_Reducer_lessEqual_b89 (K : jx_E) (D : va_G) (A : Nat → Prop) (ad : Nat → Nat) (cA : Nat → ClassId) (N : Nat) (h : jx_ok K D clX (tysX cA) A 9 b_Reducer_lessEqual y_Reducer_lessEqual.cls ((Cond.code y_Reducer_lessEqual b_Reducer_lessEqual 9 (some .int)) :: tblG) rX_Reducer_lessEqual (some .int)) : ∀ (v1 : Int32) (v2 : Int32) (σ : SX), J K D clX A 9 (wX ad cA) (jx_Qi K D clX (tysX cA) (wX ad cA) A) 0 0 89 [(0, .ref (ad 29)), (1, .int v1), (2, .int v2)] [] σ (X_Reducer_lessEqual_b89 N v1 v2 σ) := by
  intro v1 v2 σ
  rw [X_Reducer_lessEqual_b89]
  refine J_aload_n (q := 0) h d_Reducer_lessEqual_89 rfl rfl ?_
  refine J_iconst (v := 0) h d_Reducer_lessEqual_90 (by decide) ?_
  refine J_iconst (v := 0) h d_Reducer_lessEqual_91 (by decide) ?_
  refine J_iload_n (q := 1) h d_Reducer_lessEqual_92 rfl rfl ?_
  refine J_iload_n (q := 2) h d_Reducer_lessEqual_93 rfl rfl ?_
  refine J_callVi (As := [.int 0, .int 0, .int v1, .int v2]) (st := []) (rmc := rX_Reducer_bind) (q0 := 29) h (fun _ _ hf => cX_Reducer_bind (jl K) D ad cA N 0 0 v1 v2 σ _ _ hf) (gd_V q_3_95 q_3_97 q_s_9 q_1_7 q_3_98) rfl ⟨rfl, rfl⟩ dd_Reducer_bind ⟨Nat.le_of_ble_eq_true rfl, Nat.le_of_ble_eq_true rfl⟩ rfl rfl (wX_29 ad cA σ) rfl rfl (Nat.le_of_ble_eq_true rfl) ⟨Nat.zero_le _, Nat.zero_le _⟩ d_Reducer_lessEqual_94 (fun r7 σ8 => ?_)
  exact J_iret h rfl d_Reducer_lessEqual_97
def X_Reducer_lessEqual_b31 (N : Nat) (v1 : Int32) (v2 : Int32) (σ : SX) : Option (Int32 × SX) := (bd (X_Types_kindOf v1 σ) (fun (r3 : Int32) (σ4 : SX) => (bd (X_Types_kindOf v2 σ4) (fun (r5 : Int32) (σ6 : SX) => (if r3 = 6 then (some (0, σ6)) else (if r3 = 5 then (some (0, σ6)) else (if r5 = 6 then (some (0, σ6)) else (if r5 = 5 then (some (0, σ6)) else (if r3 = 7 then (X_Reducer_lessEqual_b89 N v1 v2 σ6) else (if r5 = 7 then (X_Reducer_lessEqual_b89 N v1 v2 σ6) else (if r3 = r5 then (bd (X_Types_firstOf v1 σ6) (fun (r9 : Int32) (σ10 : SX) => (bd (X_Types_firstOf v2 σ10) (fun (r11 : Int32) (σ12 : SX) => (if r3 = 1 then (if r9 = r11 then (bd (X_Reducer_withinArguments N 3 v1 v2 σ12) (fun (r13 : Int32) (σ14 : SX) => (some (r13, σ14)))) else (some (0, σ12))) else (if r3 = 4 then (bd (X_Reducer_within 3 r9 r11 σ12) (fun (r15 : Int32) (σ16 : SX) => (some (r15, σ16)))) else (bd (X_Types_secondOf v1 σ12) (fun (r17 : Int32) (σ18 : SX) => (bd (X_Types_secondOf v2 σ18) (fun (r19 : Int32) (σ20 : SX) => (if r3 = 8 then (if r17 = r19 then (bd (X_Reducer_within 3 r9 r11 σ20) (fun (r21 : Int32) (σ22 : SX) => (some (r21, σ22)))) else (some (0, σ20))) else (if r3 = 2 then (if r9 = r11 then (bd (X_Reducer_within 3 r17 r19 σ20) (fun (r23 : Int32) (σ24 : SX) => (some (r23, σ24)))) else (some (0, σ20))) else (some (0, σ20)))))))))))))) else (some (0, σ6)))))))))))))
set_option maxRecDepth 100000 in
set_option maxHeartbeats 4000000 in
theorem J_X_Reducer_lessEqual_b31 (K : jx_E) (D : va_G) (A : Nat → Prop) (ad : Nat → Nat) (cA : Nat → ClassId) (N : Nat) (h : jx_ok K D clX (tysX cA) A 9 b_Reducer_lessEqual y_Reducer_lessEqual.cls ((Cond.code y_Reducer_lessEqual b_Reducer_lessEqual 9 (some .int)) :: tblG) rX_Reducer_lessEqual (some .int)) : ∀ (v1 : Int32) (v2 : Int32) (σ : SX), J K D clX A 9 (wX ad cA) (jx_Qi K D clX (tysX cA) (wX ad cA) A) 0 0 31 [(0, .ref (ad 29)), (1, .int v1), (2, .int v2)] [] σ (X_Reducer_lessEqual_b31 N v1 v2 σ) := by
  intro v1 v2 σ
  rw [X_Reducer_lessEqual_b31]
  refine J_aload_n (q := 0) h d_Reducer_lessEqual_31 rfl rfl ?_
  refine J_getf h 29 (wX_29 ad cA σ) (tb_ups in_Reducer) rfl 1 (by decide) (tb_up q_1_198) rfl d_Reducer_lessEqual_32 ?_
  refine J_iload_n (q := 1) h d_Reducer_lessEqual_35 rfl rfl ?_
  refine J_callVi (As := [.int v1]) (st := []) (rmc := rX_Types_kindOf) (q0 := 7) h (fun _ _ hf => cX_Types_kindOf (jl K) D ad cA v1 σ _ _ hf) (gd_V q_3_21 q_2_127 q_2_128 q_1_3 q_2_129) rfl ⟨rfl, rfl⟩ dd_Types_kindOf ⟨Nat.le_of_ble_eq_true rfl, Nat.le_of_ble_eq_true rfl⟩ rfl rfl (wX_7 ad cA σ) rfl rfl (Nat.le_of_ble_eq_true rfl) ⟨Nat.zero_le _, Nat.zero_le _⟩ d_Reducer_lessEqual_36 (fun r3 σ4 => ?_)
  refine J_istore_n (lv' := [(3, .int r3), (0, .ref (ad 29)), (1, .int v1), (2, .int v2)]) h d_Reducer_lessEqual_39 rfl (by decide) rfl ?_
  refine J_aload_n (q := 1) h d_Reducer_lessEqual_40 rfl rfl ?_
  refine J_getf h 29 (wX_29 ad cA σ4) (tb_ups in_Reducer) rfl 1 (by decide) (tb_up q_1_198) rfl d_Reducer_lessEqual_41 ?_
  refine J_iload_n (q := 3) h d_Reducer_lessEqual_44 rfl rfl ?_
  refine J_callVi (As := [.int v2]) (st := []) (rmc := rX_Types_kindOf) (q0 := 7) h (fun _ _ hf => cX_Types_kindOf (jl K) D ad cA v2 σ4 _ _ hf) (gd_V q_3_21 q_2_127 q_2_128 q_1_3 q_2_129) rfl ⟨rfl, rfl⟩ dd_Types_kindOf ⟨Nat.le_of_ble_eq_true rfl, Nat.le_of_ble_eq_true rfl⟩ rfl rfl (wX_7 ad cA σ4) rfl rfl (Nat.le_of_ble_eq_true rfl) ⟨Nat.zero_le _, Nat.zero_le _⟩ d_Reducer_lessEqual_45 (fun r5 σ6 => ?_)
  refine J_istore (lv' := [(4, .int r5), (3, .int r3), (0, .ref (ad 29)), (1, .int v1), (2, .int v2)]) h d_Reducer_lessEqual_48 (by decide) rfl ?_
  refine J_iload_n (q := 1) h d_Reducer_lessEqual_50 rfl rfl ?_
  refine J_bipush (v := 6) h d_Reducer_lessEqual_51 (by decide) ?_
  refine J_icmp_eq (tgt := 74) h d_Reducer_lessEqual_53 (by decide) ?_ ?_
  · refine J_iconst (v := 0) h d_Reducer_lessEqual_74 (by decide) ?_
    exact J_iret h rfl d_Reducer_lessEqual_75
  · refine J_iload_n (q := 1) h d_Reducer_lessEqual_56 rfl rfl ?_
    refine J_iconst (v := 5) h d_Reducer_lessEqual_57 (by decide) ?_
    refine J_icmp_eq (tgt := 74) h d_Reducer_lessEqual_58 (by decide) ?_ ?_
    · refine J_iconst (v := 0) h d_Reducer_lessEqual_74 (by decide) ?_
      exact J_iret h rfl d_Reducer_lessEqual_75
    · refine J_iload (q := 0) h d_Reducer_lessEqual_61 rfl ?_
      refine J_bipush (v := 6) h d_Reducer_lessEqual_63 (by decide) ?_
      refine J_icmp_eq (tgt := 74) h d_Reducer_lessEqual_65 (by decide) ?_ ?_
      · refine J_iconst (v := 0) h d_Reducer_lessEqual_74 (by decide) ?_
        exact J_iret h rfl d_Reducer_lessEqual_75
      · refine J_iload (q := 0) h d_Reducer_lessEqual_68 rfl ?_
        refine J_iconst (v := 5) h d_Reducer_lessEqual_70 (by decide) ?_
        refine J_icmp_ne (tgt := 76) h d_Reducer_lessEqual_71 (by decide) ?_ ?_
        · refine J_iconst (v := 0) h d_Reducer_lessEqual_74 (by decide) ?_
          exact J_iret h rfl d_Reducer_lessEqual_75
        · refine J_iload_n (q := 1) h d_Reducer_lessEqual_76 rfl rfl ?_
          refine J_bipush (v := 7) h d_Reducer_lessEqual_77 (by decide) ?_
          refine J_icmp_eq (tgt := 89) h d_Reducer_lessEqual_79 (by decide) ?_ ?_
          · refine J_sub [2, 3, 4] rfl ?_
            exact J_X_Reducer_lessEqual_b89 K D A ad cA N h v1 v2 σ6
          · refine J_iload (q := 0) h d_Reducer_lessEqual_82 rfl ?_
            refine J_bipush (v := 7) h d_Reducer_lessEqual_84 (by decide) ?_
            refine J_icmp_ne (tgt := 98) h d_Reducer_lessEqual_86 (by decide) ?_ ?_
            · refine J_sub [2, 3, 4] rfl ?_
              exact J_X_Reducer_lessEqual_b89 K D A ad cA N h v1 v2 σ6
            · refine J_iload_n (q := 1) h d_Reducer_lessEqual_98 rfl rfl ?_
              refine J_iload (q := 0) h d_Reducer_lessEqual_99 rfl ?_
              refine J_icmp_eq (tgt := 106) h d_Reducer_lessEqual_101 (by decide) ?_ ?_
              · refine J_aload_n (q := 2) h d_Reducer_lessEqual_106 rfl rfl ?_
                refine J_getf h 29 (wX_29 ad cA σ6) (tb_ups in_Reducer) rfl 1 (by decide) (tb_up q_1_198) rfl d_Reducer_lessEqual_107 ?_
                refine J_iload_n (q := 3) h d_Reducer_lessEqual_110 rfl rfl ?_
                refine J_callVi (As := [.int v1]) (st := []) (rmc := rX_Types_firstOf) (q0 := 7) h (fun _ _ hf => cX_Types_firstOf (jl K) D ad cA v1 σ6 _ _ hf) (gd_V q_3_26 q_2_131 q_2_132 q_1_3 q_2_133) rfl ⟨rfl, rfl⟩ dd_Types_firstOf ⟨Nat.le_of_ble_eq_true rfl, Nat.le_of_ble_eq_true rfl⟩ rfl rfl (wX_7 ad cA σ6) rfl rfl (Nat.le_of_ble_eq_true rfl) ⟨Nat.zero_le _, Nat.zero_le _⟩ d_Reducer_lessEqual_111 (fun r9 σ10 => ?_)
                refine J_istore (lv' := [(5, .int r9), (4, .int r5), (3, .int r3), (0, .ref (ad 29)), (1, .int v1), (2, .int v2)]) h d_Reducer_lessEqual_114 (by decide) rfl ?_
                refine J_aload_n (q := 3) h d_Reducer_lessEqual_116 rfl rfl ?_
                refine J_getf h 29 (wX_29 ad cA σ10) (tb_ups in_Reducer) rfl 1 (by decide) (tb_up q_1_198) rfl d_Reducer_lessEqual_117 ?_
                refine J_iload_n (q := 5) h d_Reducer_lessEqual_120 rfl rfl ?_
                refine J_callVi (As := [.int v2]) (st := []) (rmc := rX_Types_firstOf) (q0 := 7) h (fun _ _ hf => cX_Types_firstOf (jl K) D ad cA v2 σ10 _ _ hf) (gd_V q_3_26 q_2_131 q_2_132 q_1_3 q_2_133) rfl ⟨rfl, rfl⟩ dd_Types_firstOf ⟨Nat.le_of_ble_eq_true rfl, Nat.le_of_ble_eq_true rfl⟩ rfl rfl (wX_7 ad cA σ10) rfl rfl (Nat.le_of_ble_eq_true rfl) ⟨Nat.zero_le _, Nat.zero_le _⟩ d_Reducer_lessEqual_121 (fun r11 σ12 => ?_)
                refine J_istore (lv' := [(6, .int r11), (5, .int r9), (4, .int r5), (3, .int r3), (0, .ref (ad 29)), (1, .int v1), (2, .int v2)]) h d_Reducer_lessEqual_124 (by decide) rfl ?_
                refine J_iload_n (q := 3) h d_Reducer_lessEqual_126 rfl rfl ?_
                refine J_iconst (v := 1) h d_Reducer_lessEqual_127 (by decide) ?_
                refine J_icmp_ne (tgt := 150) h d_Reducer_lessEqual_128 (by decide) ?_ ?_
                · refine J_iload (q := 1) h d_Reducer_lessEqual_131 rfl ?_
                  refine J_iload (q := 0) h d_Reducer_lessEqual_133 rfl ?_
                  refine J_icmp_ne (tgt := 148) h d_Reducer_lessEqual_135 (by decide) ?_ ?_
                  · refine J_aload_n (q := 4) h d_Reducer_lessEqual_138 rfl rfl ?_
                    refine J_iconst (v := 3) h d_Reducer_lessEqual_139 (by decide) ?_
                    refine J_iload_n (q := 5) h d_Reducer_lessEqual_140 rfl rfl ?_
                    refine J_iload_n (q := 6) h d_Reducer_lessEqual_141 rfl rfl ?_
                    refine J_callVi (As := [.int 3, .int v1, .int v2]) (st := []) (rmc := rX_Reducer_withinArguments) (q0 := 29) h (fun _ _ hf => cX_Reducer_withinArguments (jl K) D ad cA N 3 v1 v2 σ12 _ _ hf) (gd_V q_3_103 q_3_105 q_s_10 q_1_7 q_3_106) rfl ⟨rfl, rfl⟩ dd_Reducer_withinArguments ⟨Nat.le_of_ble_eq_true rfl, Nat.le_of_ble_eq_true rfl⟩ rfl rfl (wX_29 ad cA σ12) rfl rfl (Nat.le_of_ble_eq_true rfl) ⟨Nat.zero_le _, Nat.zero_le _⟩ d_Reducer_lessEqual_142 (fun r13 σ14 => ?_)
                    refine J_goto (tgt := 149) h d_Reducer_lessEqual_145 (by decide) ?_
                    exact J_iret h rfl d_Reducer_lessEqual_149
                  · refine J_iconst (v := 0) h d_Reducer_lessEqual_148 (by decide) ?_
                    exact J_iret h rfl d_Reducer_lessEqual_149
                · refine J_iload_n (q := 3) h d_Reducer_lessEqual_150 rfl rfl ?_
                  refine J_iconst (v := 4) h d_Reducer_lessEqual_151 (by decide) ?_
                  refine J_icmp_ne (tgt := 165) h d_Reducer_lessEqual_152 (by decide) ?_ ?_
                  · refine J_aload_n (q := 4) h d_Reducer_lessEqual_155 rfl rfl ?_
                    refine J_iconst (v := 3) h d_Reducer_lessEqual_156 (by decide) ?_
                    refine J_iload (q := 1) h d_Reducer_lessEqual_157 rfl ?_
                    refine J_iload (q := 0) h d_Reducer_lessEqual_159 rfl ?_
                    refine J_callVi (As := [.int 3, .int r9, .int r11]) (st := []) (rmc := rX_Reducer_within) (q0 := 29) h (fun _ _ hf => cX_Reducer_within (jl K) D ad cA 3 r9 r11 σ12 _ _ hf) (gd_V q_3_38 q_3_40 q_s_6 q_1_7 q_3_41) rfl ⟨rfl, rfl⟩ dd_Reducer_within ⟨Nat.le_of_ble_eq_true rfl, Nat.le_of_ble_eq_true rfl⟩ rfl rfl (wX_29 ad cA σ12) rfl rfl (Nat.le_of_ble_eq_true rfl) ⟨Nat.zero_le _, Nat.zero_le _⟩ d_Reducer_lessEqual_161 (fun r15 σ16 => ?_)
                    exact J_iret h rfl d_Reducer_lessEqual_164
                  · refine J_aload_n (q := 4) h d_Reducer_lessEqual_165 rfl rfl ?_
                    refine J_getf h 29 (wX_29 ad cA σ12) (tb_ups in_Reducer) rfl 1 (by decide) (tb_up q_1_198) rfl d_Reducer_lessEqual_166 ?_
                    refine J_iload_n (q := 5) h d_Reducer_lessEqual_169 rfl rfl ?_
                    refine J_callVi (As := [.int v1]) (st := []) (rmc := rX_Types_secondOf) (q0 := 7) h (fun _ _ hf => cX_Types_secondOf (jl K) D ad cA v1 σ12 _ _ hf) (gd_V q_3_112 q_2_144 q_2_145 q_1_3 q_2_146) rfl ⟨rfl, rfl⟩ dd_Types_secondOf ⟨Nat.le_of_ble_eq_true rfl, Nat.le_of_ble_eq_true rfl⟩ rfl rfl (wX_7 ad cA σ12) rfl rfl (Nat.le_of_ble_eq_true rfl) ⟨Nat.zero_le _, Nat.zero_le _⟩ d_Reducer_lessEqual_170 (fun r17 σ18 => ?_)
                    refine J_istore (lv' := [(7, .int r17), (6, .int r11), (5, .int r9), (4, .int r5), (3, .int r3), (0, .ref (ad 29)), (1, .int v1), (2, .int v2)]) h d_Reducer_lessEqual_173 (by decide) rfl ?_
                    refine J_aload_n (q := 5) h d_Reducer_lessEqual_175 rfl rfl ?_
                    refine J_getf h 29 (wX_29 ad cA σ18) (tb_ups in_Reducer) rfl 1 (by decide) (tb_up q_1_198) rfl d_Reducer_lessEqual_176 ?_
                    refine J_iload_n (q := 7) h d_Reducer_lessEqual_179 rfl rfl ?_
                    refine J_callVi (As := [.int v2]) (st := []) (rmc := rX_Types_secondOf) (q0 := 7) h (fun _ _ hf => cX_Types_secondOf (jl K) D ad cA v2 σ18 _ _ hf) (gd_V q_3_112 q_2_144 q_2_145 q_1_3 q_2_146) rfl ⟨rfl, rfl⟩ dd_Types_secondOf ⟨Nat.le_of_ble_eq_true rfl, Nat.le_of_ble_eq_true rfl⟩ rfl rfl (wX_7 ad cA σ18) rfl rfl (Nat.le_of_ble_eq_true rfl) ⟨Nat.zero_le _, Nat.zero_le _⟩ d_Reducer_lessEqual_180 (fun r19 σ20 => ?_)
                    refine J_istore (lv' := [(8, .int r19), (7, .int r17), (6, .int r11), (5, .int r9), (4, .int r5), (3, .int r3), (0, .ref (ad 29)), (1, .int v1), (2, .int v2)]) h d_Reducer_lessEqual_183 (by decide) rfl ?_
                    refine J_iload_n (q := 5) h d_Reducer_lessEqual_185 rfl rfl ?_
                    refine J_bipush (v := 8) h d_Reducer_lessEqual_186 (by decide) ?_
                    refine J_icmp_ne (tgt := 212) h d_Reducer_lessEqual_188 (by decide) ?_ ?_
                    · refine J_iload (q := 1) h d_Reducer_lessEqual_191 rfl ?_
                      refine J_iload (q := 0) h d_Reducer_lessEqual_193 rfl ?_
                      refine J_icmp_ne (tgt := 210) h d_Reducer_lessEqual_195 (by decide) ?_ ?_
                      · refine J_aload_n (q := 6) h d_Reducer_lessEqual_198 rfl rfl ?_
                        refine J_iconst (v := 3) h d_Reducer_lessEqual_199 (by decide) ?_
                        refine J_iload (q := 3) h d_Reducer_lessEqual_200 rfl ?_
                        refine J_iload (q := 2) h d_Reducer_lessEqual_202 rfl ?_
                        refine J_callVi (As := [.int 3, .int r9, .int r11]) (st := []) (rmc := rX_Reducer_within) (q0 := 29) h (fun _ _ hf => cX_Reducer_within (jl K) D ad cA 3 r9 r11 σ20 _ _ hf) (gd_V q_3_38 q_3_40 q_s_6 q_1_7 q_3_41) rfl ⟨rfl, rfl⟩ dd_Reducer_within ⟨Nat.le_of_ble_eq_true rfl, Nat.le_of_ble_eq_true rfl⟩ rfl rfl (wX_29 ad cA σ20) rfl rfl (Nat.le_of_ble_eq_true rfl) ⟨Nat.zero_le _, Nat.zero_le _⟩ d_Reducer_lessEqual_204 (fun r21 σ22 => ?_)
                        refine J_goto (tgt := 211) h d_Reducer_lessEqual_207 (by decide) ?_
                        exact J_iret h rfl d_Reducer_lessEqual_211
                      · refine J_iconst (v := 0) h d_Reducer_lessEqual_210 (by decide) ?_
                        exact J_iret h rfl d_Reducer_lessEqual_211
                    · refine J_iload_n (q := 5) h d_Reducer_lessEqual_212 rfl rfl ?_
                      refine J_iconst (v := 2) h d_Reducer_lessEqual_213 (by decide) ?_
                      refine J_icmp_ne (tgt := 236) h d_Reducer_lessEqual_214 (by decide) ?_ ?_
                      · refine J_iload (q := 3) h d_Reducer_lessEqual_217 rfl ?_
                        refine J_iload (q := 2) h d_Reducer_lessEqual_219 rfl ?_
                        refine J_icmp_ne (tgt := 236) h d_Reducer_lessEqual_221 (by decide) ?_ ?_
                        · refine J_aload_n (q := 6) h d_Reducer_lessEqual_224 rfl rfl ?_
                          refine J_iconst (v := 3) h d_Reducer_lessEqual_225 (by decide) ?_
                          refine J_iload (q := 1) h d_Reducer_lessEqual_226 rfl ?_
                          refine J_iload (q := 0) h d_Reducer_lessEqual_228 rfl ?_
                          refine J_callVi (As := [.int 3, .int r17, .int r19]) (st := []) (rmc := rX_Reducer_within) (q0 := 29) h (fun _ _ hf => cX_Reducer_within (jl K) D ad cA 3 r17 r19 σ20 _ _ hf) (gd_V q_3_38 q_3_40 q_s_6 q_1_7 q_3_41) rfl ⟨rfl, rfl⟩ dd_Reducer_within ⟨Nat.le_of_ble_eq_true rfl, Nat.le_of_ble_eq_true rfl⟩ rfl rfl (wX_29 ad cA σ20) rfl rfl (Nat.le_of_ble_eq_true rfl) ⟨Nat.zero_le _, Nat.zero_le _⟩ d_Reducer_lessEqual_230 (fun r23 σ24 => ?_)
                          refine J_goto (tgt := 237) h d_Reducer_lessEqual_233 (by decide) ?_
                          exact J_iret h rfl d_Reducer_lessEqual_237
                        · refine J_iconst (v := 0) h d_Reducer_lessEqual_236 (by decide) ?_
                          exact J_iret h rfl d_Reducer_lessEqual_237
                      · refine J_iconst (v := 0) h d_Reducer_lessEqual_236 (by decide) ?_
                        exact J_iret h rfl d_Reducer_lessEqual_237
              · refine J_iconst (v := 0) h d_Reducer_lessEqual_104 (by decide) ?_
                exact J_iret h rfl d_Reducer_lessEqual_105
def X_Reducer_lessEqual (N : Nat) (x1 : Int32) (x2 : Int32) (σ : SX) : Option (Int32 × SX) := (if x1 = x2 then (some (1, σ)) else (bd (X_Types_isProper x1 σ) (fun (r1 : Int32) (σ2 : SX) => (if r1 = 0 then (X_Reducer_lessEqual_b31 N x1 x2 σ2) else (bd (X_Types_isProper x2 σ2) (fun (r25 : Int32) (σ26 : SX) => (if r25 = 0 then (X_Reducer_lessEqual_b31 N x1 x2 σ26) else (some (0, σ26)))))))))
set_option maxRecDepth 100000 in
set_option maxHeartbeats 4000000 in
theorem J_X_Reducer_lessEqual (K : jx_E) (D : va_G) (A : Nat → Prop) (ad : Nat → Nat) (cA : Nat → ClassId) (N : Nat) (h : jx_ok K D clX (tysX cA) A 9 b_Reducer_lessEqual y_Reducer_lessEqual.cls ((Cond.code y_Reducer_lessEqual b_Reducer_lessEqual 9 (some .int)) :: tblG) rX_Reducer_lessEqual (some .int)) : ∀ (x1 : Int32) (x2 : Int32) (σ : SX), J K D clX A 9 (wX ad cA) (jx_Qi K D clX (tysX cA) (wX ad cA) A) 0 0 0 [(0, .ref (ad 29)), (1, .int x1), (2, .int x2)] [] σ (X_Reducer_lessEqual N x1 x2 σ) := by
  intro x1 x2 σ
  rw [X_Reducer_lessEqual]
  refine J_iload_n (q := 1) h d_Reducer_lessEqual_0 rfl rfl ?_
  refine J_iload_n (q := 2) h d_Reducer_lessEqual_1 rfl rfl ?_
  refine J_icmp_ne (tgt := 7) h d_Reducer_lessEqual_2 (by decide) ?_ ?_
  · refine J_iconst (v := 1) h d_Reducer_lessEqual_5 (by decide) ?_
    exact J_iret h rfl d_Reducer_lessEqual_6
  · refine J_aload_n (q := 0) h d_Reducer_lessEqual_7 rfl rfl ?_
    refine J_getf h 29 (wX_29 ad cA σ) (tb_ups in_Reducer) rfl 1 (by decide) (tb_up q_1_198) rfl d_Reducer_lessEqual_8 ?_
    refine J_iload_n (q := 1) h d_Reducer_lessEqual_11 rfl rfl ?_
    refine J_callVi (As := [.int x1]) (st := []) (rmc := rX_Types_isProper) (q0 := 7) h (fun _ _ hf => cX_Types_isProper (jl K) D ad cA x1 σ _ _ hf) (gd_V q_3_22 q_3_23 q_3_24 q_1_3 q_3_25) rfl ⟨rfl, rfl⟩ dd_Types_isProper ⟨Nat.le_of_ble_eq_true rfl, Nat.le_of_ble_eq_true rfl⟩ rfl rfl (wX_7 ad cA σ) rfl rfl (Nat.le_of_ble_eq_true rfl) ⟨Nat.zero_le _, Nat.zero_le _⟩ d_Reducer_lessEqual_12 (fun r1 σ2 => ?_)
    refine J_if_eq (tgt := 31) h d_Reducer_lessEqual_15 (by decide) ?_ ?_
    · exact J_X_Reducer_lessEqual_b31 K D A ad cA N h x1 x2 σ2
    · refine J_aload_n (q := 0) h d_Reducer_lessEqual_18 rfl rfl ?_
      refine J_getf h 29 (wX_29 ad cA σ2) (tb_ups in_Reducer) rfl 1 (by decide) (tb_up q_1_198) rfl d_Reducer_lessEqual_19 ?_
      refine J_iload_n (q := 2) h d_Reducer_lessEqual_22 rfl rfl ?_
      refine J_callVi (As := [.int x2]) (st := []) (rmc := rX_Types_isProper) (q0 := 7) h (fun _ _ hf => cX_Types_isProper (jl K) D ad cA x2 σ2 _ _ hf) (gd_V q_3_22 q_3_23 q_3_24 q_1_3 q_3_25) rfl ⟨rfl, rfl⟩ dd_Types_isProper ⟨Nat.le_of_ble_eq_true rfl, Nat.le_of_ble_eq_true rfl⟩ rfl rfl (wX_7 ad cA σ2) rfl rfl (Nat.le_of_ble_eq_true rfl) ⟨Nat.zero_le _, Nat.zero_le _⟩ d_Reducer_lessEqual_23 (fun r25 σ26 => ?_)
      refine J_if_eq (tgt := 31) h d_Reducer_lessEqual_26 (by decide) ?_ ?_
      · exact J_X_Reducer_lessEqual_b31 K D A ad cA N h x1 x2 σ26
      · refine J_iconst (v := 0) h d_Reducer_lessEqual_29 (by decide) ?_
        exact J_iret h rfl d_Reducer_lessEqual_30
set_option maxRecDepth 100000 in
theorem cX_Reducer_lessEqual (l : Launch) (D : va_G) (ad : Nat → Nat) (cA : Nat → ClassId) (N : Nat) (x1 : Int32) (x2 : Int32) (σ : SX) (r : Int32) (σ' : SX) (hf : X_Reducer_lessEqual N x1 x2 σ = some (r, σ')) : MetI l y_Reducer_lessEqual ((Cond.code y_Reducer_lessEqual b_Reducer_lessEqual 9 (some .int)) :: tblG) rX_Reducer_lessEqual D clX (tysX cA) (wX ad cA) [.ref (ad 29), .int x1, .int x2] σ r σ' :=
  jx_metI (by decide) rfl (Nat.le_of_ble_eq_true rfl) (fun K A h => J_X_Reducer_lessEqual K D A ad cA N h x1 x2 σ) hf
