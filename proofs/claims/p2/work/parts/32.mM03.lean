def rM_M_isWidened : Room := { frames := 0, cells := 0, slots := 0, locals := 0 }
theorem rm_ok_M_M_isWidened : rM_M_isWidened.cells = 0 ∧ rM_M_isWidened.slots = 0 := ⟨rfl, rfl⟩
def M_M_isWidened (x0 : Int32) (x1 : Int32) (σ : SM) : Option (Int32 × SM) := (if x0 = x1 then (some (1, σ)) else (if x0 < 1 then (some (0, σ)) else (if x1 ≤ x0 then (some (0, σ)) else (if x1 = 3 then (some (0, σ)) else (some (1, σ))))))
set_option maxRecDepth 100000 in
set_option maxHeartbeats 4000000 in
theorem J_M_M_isWidened (K : jx_E) (D : va_G) (A : Nat → Prop) (ad : Nat → Nat) (cA : Nat → ClassId) (h : jx_ok K D clM (tysM cA) A 2 b_M_isWidened y_M_isWidened.cls ((Cond.code y_M_isWidened b_M_isWidened 2 (some .boolean)) :: tblG) rM_M_isWidened (some .boolean)) : ∀ (x0 : Int32) (x1 : Int32) (σ : SM), J K D clM A 2 (wM ad cA) (jx_Qi K D clM (tysM cA) (wM ad cA) A) 0 0 0 [(0, .int x0), (1, .int x1)] [] σ (M_M_isWidened x0 x1 σ) := by
  intro x0 x1 σ
  rw [M_M_isWidened]
  refine J_iload_n (q := 0) h d_M_isWidened_0 rfl rfl ?_
  refine J_iload_n (q := 1) h d_M_isWidened_1 rfl rfl ?_
  refine J_icmp_eq (tgt := 20) h d_M_isWidened_2 (by decide) ?_ ?_
  · refine J_iconst (v := 1) h d_M_isWidened_20 (by decide) ?_
    refine J_goto (tgt := 25) h d_M_isWidened_21 (by decide) ?_
    exact J_zret h rfl (by decide) d_M_isWidened_25
  · refine J_iload_n (q := 0) h d_M_isWidened_5 rfl rfl ?_
    refine J_iconst (v := 1) h d_M_isWidened_6 (by decide) ?_
    refine J_icmp_lt (tgt := 24) h d_M_isWidened_7 (by decide) ?_ ?_
    · refine J_iconst (v := 0) h d_M_isWidened_24 (by decide) ?_
      exact J_zret h rfl (by decide) d_M_isWidened_25
    · refine J_iload_n (q := 1) h d_M_isWidened_10 rfl rfl ?_
      refine J_iload_n (q := 0) h d_M_isWidened_11 rfl rfl ?_
      refine J_icmp_le (tgt := 24) h d_M_isWidened_12 (by decide) ?_ ?_
      · refine J_iconst (v := 0) h d_M_isWidened_24 (by decide) ?_
        exact J_zret h rfl (by decide) d_M_isWidened_25
      · refine J_iload_n (q := 1) h d_M_isWidened_15 rfl rfl ?_
        refine J_iconst (v := 3) h d_M_isWidened_16 (by decide) ?_
        refine J_icmp_eq (tgt := 24) h d_M_isWidened_17 (by decide) ?_ ?_
        · refine J_iconst (v := 0) h d_M_isWidened_24 (by decide) ?_
          exact J_zret h rfl (by decide) d_M_isWidened_25
        · refine J_iconst (v := 1) h d_M_isWidened_20 (by decide) ?_
          refine J_goto (tgt := 25) h d_M_isWidened_21 (by decide) ?_
          exact J_zret h rfl (by decide) d_M_isWidened_25
set_option maxRecDepth 100000 in
theorem cM_M_isWidened (l : Launch) (D : va_G) (ad : Nat → Nat) (cA : Nat → ClassId) (x0 : Int32) (x1 : Int32) (σ : SM) (r : Int32) (σ' : SM) (hf : M_M_isWidened x0 x1 σ = some (r, σ')) : MetI l y_M_isWidened ((Cond.code y_M_isWidened b_M_isWidened 2 (some .boolean)) :: tblG) rM_M_isWidened D clM (tysM cA) (wM ad cA) [.int x0, .int x1] σ r σ' :=
  jx_metI (by decide) rfl (Nat.le_of_ble_eq_true rfl) (fun K A h => J_M_M_isWidened K D A ad cA h x0 x1 σ) hf
def rM_M_boxOf : Room := { frames := 2, cells := 0, slots := 0, locals := 47 }
theorem rm_ok_M_M_boxOf : rM_M_boxOf.cells = 0 ∧ rM_M_boxOf.slots = 0 := ⟨rfl, rfl⟩
def M_M_boxOf (N : Nat) (x1 : Int32) (σ : SM) : Option (Int32 × SM) := (if ck x1 500 = true then (bd (M_M_plainOf N ((aM_M_one σ x1.toNatClampNeg) + 1) σ) (fun (r1 : Int32) (σ2 : SM) => (some (r1, σ2)))) else none)
set_option maxRecDepth 100000 in
set_option maxHeartbeats 4000000 in
theorem J_M_M_boxOf (K : jx_E) (D : va_G) (A : Nat → Prop) (ad : Nat → Nat) (cA : Nat → ClassId) (N : Nat) (h : jx_ok K D clM (tysM cA) A 2 b_M_boxOf y_M_boxOf.cls ((Cond.code y_M_boxOf b_M_boxOf 2 (some .int)) :: tblG) rM_M_boxOf (some .int)) : ∀ (x1 : Int32) (σ : SM), J K D clM A 2 (wM ad cA) (jx_Qi K D clM (tysM cA) (wM ad cA) A) 0 0 0 [(0, .ref (ad 0)), (1, .int x1)] [] σ (M_M_boxOf N x1 σ) := by
  intro x1 σ
  rw [M_M_boxOf]
  refine J_aload_n (q := 0) h d_M_boxOf_0 rfl rfl ?_
  refine J_aload_n (q := 0) h d_M_boxOf_1 rfl rfl ?_
  refine J_getf h 0 (wM_0 ad cA σ) (tb_ups in_M) rfl 6 (by decide) (tb_up q_4_88) rfl d_M_boxOf_2 ?_
  refine J_iload_n (q := 1) h d_M_boxOf_5 rfl rfl ?_
  refine J_iald h 6 5 (wM_6 ad cA σ) rfl d_M_boxOf_6 ?_
  refine J_iconst (v := 1) h d_M_boxOf_7 (by decide) ?_
  refine J_iadd h d_M_boxOf_8 ?_
  refine J_callVi (As := [.int ((aM_M_one σ x1.toNatClampNeg) + 1)]) (st := []) (rmc := rM_M_plainOf) (q0 := 0) h (fun _ _ hf => cM_M_plainOf (jl K) D ad cA N ((aM_M_one σ x1.toNatClampNeg) + 1) σ _ _ hf) (gd_V q_5_70 q_5_72 q_s_31 q_1_12 q_5_73) rfl ⟨rfl, rfl⟩ dd_M_plainOf ⟨Nat.le_of_ble_eq_true rfl, Nat.le_of_ble_eq_true rfl⟩ rfl rfl (wM_0 ad cA σ) rfl rfl (Nat.le_of_ble_eq_true rfl) ⟨Nat.zero_le _, Nat.zero_le _⟩ d_M_boxOf_9 (fun r1 σ2 => ?_)
  exact J_iret h rfl d_M_boxOf_12
set_option maxRecDepth 100000 in
theorem cM_M_boxOf (l : Launch) (D : va_G) (ad : Nat → Nat) (cA : Nat → ClassId) (N : Nat) (x1 : Int32) (σ : SM) (r : Int32) (σ' : SM) (hf : M_M_boxOf N x1 σ = some (r, σ')) : MetI l y_M_boxOf ((Cond.code y_M_boxOf b_M_boxOf 2 (some .int)) :: tblG) rM_M_boxOf D clM (tysM cA) (wM ad cA) [.ref (ad 0), .int x1] σ r σ' :=
  jx_metI (by decide) rfl (Nat.le_of_ble_eq_true rfl) (fun K A h => J_M_M_boxOf K D A ad cA N h x1 σ) hf
def rM_M_compatible : Room := { frames := 4, cells := 0, slots := 0, locals := 104 }
theorem rm_ok_M_M_compatible : rM_M_compatible.cells = 0 ∧ rM_M_compatible.slots = 0 := ⟨rfl, rfl⟩
def M_M_compatible_b232 (N : Nat) (v1 : Int32) (v2 : Int32) (σ : SM) : Option (Int32 × SM) := (bd (M_M_then 1 v1 v2 σ) (fun (r3 : Int32) (σ4 : SM) => (if zb r3 = true then some (r3, σ4) else none)))
set_option maxRecDepth 100000 in
set_option maxHeartbeats 4000000 in
theorem J_M_M_compatible_b232 (K : jx_E) (D : va_G) (A : Nat → Prop) (ad : Nat → Nat) (cA : Nat → ClassId) (N : Nat) (h : jx_ok K D clM (tysM cA) A 6 b_M_compatible y_M_compatible.cls ((Cond.code y_M_compatible b_M_compatible 6 (some .boolean)) :: tblG) rM_M_compatible (some .boolean)) : ∀ (v1 : Int32) (v2 : Int32) (σ : SM), J K D clM A 6 (wM ad cA) (jx_Qi K D clM (tysM cA) (wM ad cA) A) 0 0 232 [(0, .ref (ad 0)), (1, .int v1), (2, .int v2)] [] σ (M_M_compatible_b232 N v1 v2 σ) := by
  intro v1 v2 σ
  rw [M_M_compatible_b232]
  refine J_aload_n (q := 0) h d_M_compatible_232 rfl rfl ?_
  refine J_iconst (v := 1) h d_M_compatible_233 (by decide) ?_
  refine J_iload_n (q := 1) h d_M_compatible_234 rfl rfl ?_
  refine J_iload_n (q := 2) h d_M_compatible_235 rfl rfl ?_
  refine J_callVi (As := [.int 1, .int v1, .int v2]) (st := []) (rmc := rM_M_then) (q0 := 0) h (fun _ _ hf => cM_M_then (jl K) D ad cA 1 v1 v2 σ _ _ hf) (gd_V q_5_173 q_5_175 q_s_47 q_1_12 q_5_176) rfl ⟨rfl, rfl⟩ dd_M_then ⟨Nat.le_of_ble_eq_true rfl, Nat.le_of_ble_eq_true rfl⟩ rfl rfl (wM_0 ad cA σ) rfl rfl (Nat.le_of_ble_eq_true rfl) ⟨Nat.zero_le _, Nat.zero_le _⟩ d_M_compatible_236 (fun r3 σ4 => ?_)
  exact J_zretc h rfl d_M_compatible_239
def M_M_compatible_b186 (N : Nat) (v1 : Int32) (v2 : Int32) (σ : SM) : Option (Int32 × SM) := (if ck v2 500 = true then (if (aM_M_kind σ v2.toNatClampNeg) = 1 then (if ck v2 500 = true then (bd (M_M_aboveOf N v1 (aM_M_one σ v2.toNatClampNeg) σ) (fun (r1 : Int32) (σ2 : SM) => (if r1 = (-1) then (M_M_compatible_b232 N v1 v2 σ2) else (if ck r1 500 = true then (if (aM_M_kind σ2 r1.toNatClampNeg) = 0 then (nm (sM_M_isUnchecked σ2 1) (fun (σ5 : SM) => (some (1, σ5)))) else (M_M_compatible_b232 N v1 v2 σ2)) else none)))) else none) else (M_M_compatible_b232 N v1 v2 σ)) else none)
set_option maxRecDepth 100000 in
set_option maxHeartbeats 4000000 in
theorem J_M_M_compatible_b186 (K : jx_E) (D : va_G) (A : Nat → Prop) (ad : Nat → Nat) (cA : Nat → ClassId) (N : Nat) (h : jx_ok K D clM (tysM cA) A 6 b_M_compatible y_M_compatible.cls ((Cond.code y_M_compatible b_M_compatible 6 (some .boolean)) :: tblG) rM_M_compatible (some .boolean)) : ∀ (v1 : Int32) (v2 : Int32) (σ : SM), J K D clM A 6 (wM ad cA) (jx_Qi K D clM (tysM cA) (wM ad cA) A) 0 0 186 [(0, .ref (ad 0)), (1, .int v1), (2, .int v2)] [] σ (M_M_compatible_b186 N v1 v2 σ) := by
  intro v1 v2 σ
  rw [M_M_compatible_b186]
  refine J_aload_n (q := 0) h d_M_compatible_186 rfl rfl ?_
  refine J_getf h 0 (wM_0 ad cA σ) (tb_ups in_M) rfl 5 (by decide) (tb_up q_4_87) rfl d_M_compatible_187 ?_
  refine J_iload_n (q := 2) h d_M_compatible_190 rfl rfl ?_
  refine J_iald h 5 4 (wM_5 ad cA σ) rfl d_M_compatible_191 ?_
  refine J_iconst (v := 1) h d_M_compatible_192 (by decide) ?_
  refine J_icmp_ne (tgt := 232) h d_M_compatible_193 (by decide) ?_ ?_
  · refine J_aload_n (q := 0) h d_M_compatible_196 rfl rfl ?_
    refine J_iload_n (q := 1) h d_M_compatible_197 rfl rfl ?_
    refine J_aload_n (q := 0) h d_M_compatible_198 rfl rfl ?_
    refine J_getf h 0 (wM_0 ad cA σ) (tb_ups in_M) rfl 6 (by decide) (tb_up q_4_88) rfl d_M_compatible_199 ?_
    refine J_iload_n (q := 2) h d_M_compatible_202 rfl rfl ?_
    refine J_iald h 6 5 (wM_6 ad cA σ) rfl d_M_compatible_203 ?_
    refine J_callVi (As := [.int v1, .int (aM_M_one σ v2.toNatClampNeg)]) (st := []) (rmc := rM_M_aboveOf) (q0 := 0) h (fun _ _ hf => cM_M_aboveOf (jl K) D ad cA N v1 (aM_M_one σ v2.toNatClampNeg) σ _ _ hf) (gd_V q_5_118 q_5_120 q_s_35 q_1_12 q_5_121) rfl ⟨rfl, rfl⟩ dd_M_aboveOf ⟨Nat.le_of_ble_eq_true rfl, Nat.le_of_ble_eq_true rfl⟩ rfl rfl (wM_0 ad cA σ) rfl rfl (Nat.le_of_ble_eq_true rfl) ⟨Nat.zero_le _, Nat.zero_le _⟩ d_M_compatible_204 (fun r1 σ2 => ?_)
    refine J_istore (lv' := [(5, .int r1), (0, .ref (ad 0)), (1, .int v1), (2, .int v2)]) h d_M_compatible_207 (by decide) rfl ?_
    refine J_iload (q := 0) h d_M_compatible_209 rfl ?_
    refine J_iconst (v := (-1)) h d_M_compatible_211 (by decide) ?_
    refine J_icmp_eq (tgt := 232) h d_M_compatible_212 (by decide) ?_ ?_
    · refine J_sub [1, 2, 3] rfl ?_
      exact J_M_M_compatible_b232 K D A ad cA N h v1 v2 σ2
    · refine J_aload_n (q := 1) h d_M_compatible_215 rfl rfl ?_
      refine J_getf h 0 (wM_0 ad cA σ2) (tb_ups in_M) rfl 5 (by decide) (tb_up q_4_87) rfl d_M_compatible_216 ?_
      refine J_iload (q := 0) h d_M_compatible_219 rfl ?_
      refine J_iald h 5 4 (wM_5 ad cA σ2) rfl d_M_compatible_221 ?_
      refine J_if_ne (tgt := 232) h d_M_compatible_222 (by decide) ?_ ?_
      · refine J_aload_n (q := 1) h d_M_compatible_225 rfl rfl ?_
        refine J_iconst (v := 1) h d_M_compatible_226 (by decide) ?_
        refine J_putf h 0 (wM_0 ad cA σ2) (tb_ups in_M) rfl ft_M ft_M_ok nm_M 39 (by decide) (tb_up q_4_121) rfl (by decide) (by decide) (Nat.le_of_ble_eq_true rfl) (pM_0_39 ad cA σ2 1) d_M_compatible_227 (fun σ5 => ?_)
        refine J_iconst (v := 1) h d_M_compatible_230 (by decide) ?_
        exact J_zret h rfl (by decide) d_M_compatible_231
      · refine J_sub [1, 2, 3] rfl ?_
        exact J_M_M_compatible_b232 K D A ad cA N h v1 v2 σ2
  · exact J_M_M_compatible_b232 K D A ad cA N h v1 v2 σ
def M_M_compatible_b153 (N : Nat) (v1 : Int32) (v2 : Int32) (v3 : Int32) (v4 : Int32) (σ : SM) : Option (Int32 × SM) := (if v3 = 0 then (if v4 = 0 then (M_M_compatible_b186 N v1 v2 σ) else (bd (M_M_boxOf N v2 σ) (fun (r6 : Int32) (σ7 : SM) => (bd (M_M_then 3 v1 r6 σ7) (fun (r8 : Int32) (σ9 : SM) => (if zb r8 = true then some (r8, σ9) else none)))))) else (bd (M_M_boxOf N v1 σ) (fun (r10 : Int32) (σ11 : SM) => (bd (M_M_then 0 r10 v2 σ11) (fun (r12 : Int32) (σ13 : SM) => (if zb r12 = true then some (r12, σ13) else none))))))
set_option maxRecDepth 100000 in
set_option maxHeartbeats 4000000 in
theorem J_M_M_compatible_b153 (K : jx_E) (D : va_G) (A : Nat → Prop) (ad : Nat → Nat) (cA : Nat → ClassId) (N : Nat) (h : jx_ok K D clM (tysM cA) A 6 b_M_compatible y_M_compatible.cls ((Cond.code y_M_compatible b_M_compatible 6 (some .boolean)) :: tblG) rM_M_compatible (some .boolean)) : ∀ (v1 : Int32) (v2 : Int32) (v3 : Int32) (v4 : Int32) (σ : SM), J K D clM A 6 (wM ad cA) (jx_Qi K D clM (tysM cA) (wM ad cA) A) 0 0 153 [(0, .ref (ad 0)), (1, .int v1), (2, .int v2), (3, .int v3), (4, .int v4)] [] σ (M_M_compatible_b153 N v1 v2 v3 v4 σ) := by
  intro v1 v2 v3 v4 σ
  rw [M_M_compatible_b153]
  refine J_iload_n (q := 3) h d_M_compatible_153 rfl rfl ?_
  refine J_if_eq (tgt := 169) h d_M_compatible_154 (by decide) ?_ ?_
  · refine J_iload (q := 4) h d_M_compatible_169 rfl ?_
    refine J_if_eq (tgt := 186) h d_M_compatible_171 (by decide) ?_ ?_
    · refine J_sub [0, 1, 2] rfl ?_
      exact J_M_M_compatible_b186 K D A ad cA N h v1 v2 σ
    · refine J_aload_n (q := 0) h d_M_compatible_174 rfl rfl ?_
      refine J_iconst (v := 3) h d_M_compatible_175 (by decide) ?_
      refine J_iload_n (q := 1) h d_M_compatible_176 rfl rfl ?_
      refine J_aload_n (q := 0) h d_M_compatible_177 rfl rfl ?_
      refine J_iload_n (q := 2) h d_M_compatible_178 rfl rfl ?_
      refine J_callVi (As := [.int v2]) (st := [.int v1, .int 3, .ref (ad 0)]) (rmc := rM_M_boxOf) (q0 := 0) h (fun _ _ hf => cM_M_boxOf (jl K) D ad cA N v2 σ _ _ hf) (gd_V q_5_169 q_5_171 q_s_46 q_1_12 q_5_172) rfl ⟨rfl, rfl⟩ dd_M_boxOf ⟨Nat.le_of_ble_eq_true rfl, Nat.le_of_ble_eq_true rfl⟩ rfl rfl (wM_0 ad cA σ) rfl rfl (Nat.le_of_ble_eq_true rfl) ⟨Nat.zero_le _, Nat.zero_le _⟩ d_M_compatible_179 (fun r6 σ7 => ?_)
      refine J_callVi (As := [.int 3, .int v1, .int r6]) (st := []) (rmc := rM_M_then) (q0 := 0) h (fun _ _ hf => cM_M_then (jl K) D ad cA 3 v1 r6 σ7 _ _ hf) (gd_V q_5_173 q_5_175 q_s_47 q_1_12 q_5_176) rfl ⟨rfl, rfl⟩ dd_M_then ⟨Nat.le_of_ble_eq_true rfl, Nat.le_of_ble_eq_true rfl⟩ rfl rfl (wM_0 ad cA σ7) rfl rfl (Nat.le_of_ble_eq_true rfl) ⟨Nat.zero_le _, Nat.zero_le _⟩ d_M_compatible_182 (fun r8 σ9 => ?_)
      exact J_zretc h rfl d_M_compatible_185
  · refine J_aload_n (q := 0) h d_M_compatible_157 rfl rfl ?_
    refine J_iconst (v := 0) h d_M_compatible_158 (by decide) ?_
    refine J_aload_n (q := 0) h d_M_compatible_159 rfl rfl ?_
    refine J_iload_n (q := 1) h d_M_compatible_160 rfl rfl ?_
    refine J_callVi (As := [.int v1]) (st := [.int 0, .ref (ad 0)]) (rmc := rM_M_boxOf) (q0 := 0) h (fun _ _ hf => cM_M_boxOf (jl K) D ad cA N v1 σ _ _ hf) (gd_V q_5_169 q_5_171 q_s_46 q_1_12 q_5_172) rfl ⟨rfl, rfl⟩ dd_M_boxOf ⟨Nat.le_of_ble_eq_true rfl, Nat.le_of_ble_eq_true rfl⟩ rfl rfl (wM_0 ad cA σ) rfl rfl (Nat.le_of_ble_eq_true rfl) ⟨Nat.zero_le _, Nat.zero_le _⟩ d_M_compatible_161 (fun r10 σ11 => ?_)
    refine J_iload_n (q := 2) h d_M_compatible_164 rfl rfl ?_
    refine J_callVi (As := [.int 0, .int r10, .int v2]) (st := []) (rmc := rM_M_then) (q0 := 0) h (fun _ _ hf => cM_M_then (jl K) D ad cA 0 r10 v2 σ11 _ _ hf) (gd_V q_5_173 q_5_175 q_s_47 q_1_12 q_5_176) rfl ⟨rfl, rfl⟩ dd_M_then ⟨Nat.le_of_ble_eq_true rfl, Nat.le_of_ble_eq_true rfl⟩ rfl rfl (wM_0 ad cA σ11) rfl rfl (Nat.le_of_ble_eq_true rfl) ⟨Nat.zero_le _, Nat.zero_le _⟩ d_M_compatible_165 (fun r12 σ13 => ?_)
    exact J_zretc h rfl d_M_compatible_168
def M_M_compatible_b76 (N : Nat) (v1 : Int32) (v2 : Int32) (v3 : Int32) (v4 : Int32) (σ : SM) : Option (Int32 × SM) := (if v3 = 0 then (if v4 = 0 then (M_M_compatible_b186 N v1 v2 σ) else (if ck v1 500 = true then (if (aM_M_kind σ v1.toNatClampNeg) = 0 then (if ck v1 500 = true then (if (aM_M_one σ v1.toNatClampNeg) < 1 then (some (0, σ)) else (if ck v1 500 = true then (if (8 : Int32) < (aM_M_one σ v1.toNatClampNeg) then (some (0, σ)) else (if ck v1 500 = true then (if ck v2 500 = true then (bd (M_M_isWidened ((aM_M_one σ v1.toNatClampNeg) - 1) (aM_M_one σ v2.toNatClampNeg) σ) (fun (r14 : Int32) (σ15 : SM) => (if r14 = 0 then (some (0, σ15)) else (some (1, σ15))))) else none) else none)) else none)) else none) else (some (0, σ))) else none)) else (bd (M_M_boxOf N v1 σ) (fun (r16 : Int32) (σ17 : SM) => (bd (M_M_then 1 r16 v2 σ17) (fun (r18 : Int32) (σ19 : SM) => (if zb r18 = true then some (r18, σ19) else none))))))
set_option maxRecDepth 100000 in
set_option maxHeartbeats 4000000 in
theorem J_M_M_compatible_b76 (K : jx_E) (D : va_G) (A : Nat → Prop) (ad : Nat → Nat) (cA : Nat → ClassId) (N : Nat) (h : jx_ok K D clM (tysM cA) A 6 b_M_compatible y_M_compatible.cls ((Cond.code y_M_compatible b_M_compatible 6 (some .boolean)) :: tblG) rM_M_compatible (some .boolean)) : ∀ (v1 : Int32) (v2 : Int32) (v3 : Int32) (v4 : Int32) (σ : SM), J K D clM A 6 (wM ad cA) (jx_Qi K D clM (tysM cA) (wM ad cA) A) 0 0 76 [(0, .ref (ad 0)), (1, .int v1), (2, .int v2), (3, .int v3), (4, .int v4)] [] σ (M_M_compatible_b76 N v1 v2 v3 v4 σ) := by
  intro v1 v2 v3 v4 σ
  rw [M_M_compatible_b76]
  refine J_iload_n (q := 3) h d_M_compatible_76 rfl rfl ?_
  refine J_if_eq (tgt := 92) h d_M_compatible_77 (by decide) ?_ ?_
  · refine J_iload (q := 4) h d_M_compatible_92 rfl ?_
    refine J_if_eq (tgt := 186) h d_M_compatible_94 (by decide) ?_ ?_
    · refine J_sub [0, 1, 2] rfl ?_
      exact J_M_M_compatible_b186 K D A ad cA N h v1 v2 σ
    · refine J_aload_n (q := 0) h d_M_compatible_97 rfl rfl ?_
      refine J_getf h 0 (wM_0 ad cA σ) (tb_ups in_M) rfl 5 (by decide) (tb_up q_4_87) rfl d_M_compatible_98 ?_
      refine J_iload_n (q := 1) h d_M_compatible_101 rfl rfl ?_
      refine J_iald h 5 4 (wM_5 ad cA σ) rfl d_M_compatible_102 ?_
      refine J_if_ne (tgt := 151) h d_M_compatible_103 (by decide) ?_ ?_
      · refine J_aload_n (q := 0) h d_M_compatible_106 rfl rfl ?_
        refine J_getf h 0 (wM_0 ad cA σ) (tb_ups in_M) rfl 6 (by decide) (tb_up q_4_88) rfl d_M_compatible_107 ?_
        refine J_iload_n (q := 1) h d_M_compatible_110 rfl rfl ?_
        refine J_iald h 6 5 (wM_6 ad cA σ) rfl d_M_compatible_111 ?_
        refine J_iconst (v := 1) h d_M_compatible_112 (by decide) ?_
        refine J_icmp_lt (tgt := 151) h d_M_compatible_113 (by decide) ?_ ?_
        · refine J_iconst (v := 0) h d_M_compatible_151 (by decide) ?_
          exact J_zret h rfl (by decide) d_M_compatible_152
        · refine J_aload_n (q := 0) h d_M_compatible_116 rfl rfl ?_
          refine J_getf h 0 (wM_0 ad cA σ) (tb_ups in_M) rfl 6 (by decide) (tb_up q_4_88) rfl d_M_compatible_117 ?_
          refine J_iload_n (q := 1) h d_M_compatible_120 rfl rfl ?_
          refine J_iald h 6 5 (wM_6 ad cA σ) rfl d_M_compatible_121 ?_
          refine J_bipush (v := 8) h d_M_compatible_122 (by decide) ?_
          refine J_icmp_gt (tgt := 151) h d_M_compatible_124 (by decide) ?_ ?_
          · refine J_iconst (v := 0) h d_M_compatible_151 (by decide) ?_
            exact J_zret h rfl (by decide) d_M_compatible_152
          · refine J_aload_n (q := 0) h d_M_compatible_127 rfl rfl ?_
            refine J_getf h 0 (wM_0 ad cA σ) (tb_ups in_M) rfl 6 (by decide) (tb_up q_4_88) rfl d_M_compatible_128 ?_
            refine J_iload_n (q := 1) h d_M_compatible_131 rfl rfl ?_
            refine J_iald h 6 5 (wM_6 ad cA σ) rfl d_M_compatible_132 ?_
            refine J_iconst (v := 1) h d_M_compatible_133 (by decide) ?_
            refine J_isub h d_M_compatible_134 ?_
            refine J_aload_n (q := 0) h d_M_compatible_135 rfl rfl ?_
            refine J_getf h 0 (wM_0 ad cA σ) (tb_ups in_M) rfl 6 (by decide) (tb_up q_4_88) rfl d_M_compatible_136 ?_
            refine J_iload_n (q := 2) h d_M_compatible_139 rfl rfl ?_
            refine J_iald h 6 5 (wM_6 ad cA σ) rfl d_M_compatible_140 ?_
            refine J_callTi (As := [.int ((aM_M_one σ v1.toNatClampNeg) - 1), .int (aM_M_one σ v2.toNatClampNeg)]) (st := []) (rmc := rM_M_isWidened) h (fun _ _ hf => cM_M_isWidened (jl K) D ad cA ((aM_M_one σ v1.toNatClampNeg) - 1) (aM_M_one σ v2.toNatClampNeg) σ _ _ hf) (gd_all q_5_168) (tb_up q_5_166) (tb_up q_5_167) (tb_up q_1_12) rfl ⟨rfl, rfl⟩ dd_M_isWidened ⟨Nat.le_of_ble_eq_true rfl, Nat.le_of_ble_eq_true rfl⟩ rfl rfl (Nat.le_of_ble_eq_true rfl) ⟨Nat.zero_le _, Nat.zero_le _⟩ d_M_compatible_141 (fun r14 σ15 => ?_)
            refine J_if_eq (tgt := 151) h d_M_compatible_144 (by decide) ?_ ?_
            · refine J_iconst (v := 0) h d_M_compatible_151 (by decide) ?_
              exact J_zret h rfl (by decide) d_M_compatible_152
            · refine J_iconst (v := 1) h d_M_compatible_147 (by decide) ?_
              refine J_goto (tgt := 152) h d_M_compatible_148 (by decide) ?_
              exact J_zret h rfl (by decide) d_M_compatible_152
      · refine J_iconst (v := 0) h d_M_compatible_151 (by decide) ?_
        exact J_zret h rfl (by decide) d_M_compatible_152
  · refine J_aload_n (q := 0) h d_M_compatible_80 rfl rfl ?_
    refine J_iconst (v := 1) h d_M_compatible_81 (by decide) ?_
    refine J_aload_n (q := 0) h d_M_compatible_82 rfl rfl ?_
    refine J_iload_n (q := 1) h d_M_compatible_83 rfl rfl ?_
    refine J_callVi (As := [.int v1]) (st := [.int 1, .ref (ad 0)]) (rmc := rM_M_boxOf) (q0 := 0) h (fun _ _ hf => cM_M_boxOf (jl K) D ad cA N v1 σ _ _ hf) (gd_V q_5_169 q_5_171 q_s_46 q_1_12 q_5_172) rfl ⟨rfl, rfl⟩ dd_M_boxOf ⟨Nat.le_of_ble_eq_true rfl, Nat.le_of_ble_eq_true rfl⟩ rfl rfl (wM_0 ad cA σ) rfl rfl (Nat.le_of_ble_eq_true rfl) ⟨Nat.zero_le _, Nat.zero_le _⟩ d_M_compatible_84 (fun r16 σ17 => ?_)
    refine J_iload_n (q := 2) h d_M_compatible_87 rfl rfl ?_
    refine J_callVi (As := [.int 1, .int r16, .int v2]) (st := []) (rmc := rM_M_then) (q0 := 0) h (fun _ _ hf => cM_M_then (jl K) D ad cA 1 r16 v2 σ17 _ _ hf) (gd_V q_5_173 q_5_175 q_s_47 q_1_12 q_5_176) rfl ⟨rfl, rfl⟩ dd_M_then ⟨Nat.le_of_ble_eq_true rfl, Nat.le_of_ble_eq_true rfl⟩ rfl rfl (wM_0 ad cA σ17) rfl rfl (Nat.le_of_ble_eq_true rfl) ⟨Nat.zero_le _, Nat.zero_le _⟩ d_M_compatible_88 (fun r18 σ19 => ?_)
    exact J_zretc h rfl d_M_compatible_91
def M_M_compatible_b31 (N : Nat) (v1 : Int32) (v2 : Int32) (v3 : Int32) (s0 : Int32) (σ : SM) : Option (Int32 × SM) := (if ck v1 500 = true then (if (aM_M_proper σ v1.toNatClampNeg) = 0 then (M_M_compatible_b153 N v1 v2 v3 s0 σ) else (if ck v2 500 = true then (if (aM_M_proper σ v2.toNatClampNeg) = 0 then (M_M_compatible_b153 N v1 v2 v3 s0 σ) else (if v3 = 0 then (M_M_compatible_b76 N v1 v2 v3 s0 σ) else (if s0 = 0 then (M_M_compatible_b76 N v1 v2 v3 s0 σ) else (if ck v1 500 = true then (if ck v2 500 = true then (bd (M_M_isWidened (aM_M_one σ v1.toNatClampNeg) (aM_M_one σ v2.toNatClampNeg) σ) (fun (r20 : Int32) (σ21 : SM) => (if zb r20 = true then some (r20, σ21) else none))) else none) else none)))) else none)) else none)
set_option maxRecDepth 100000 in
set_option maxHeartbeats 4000000 in
theorem J_M_M_compatible_b31 (K : jx_E) (D : va_G) (A : Nat → Prop) (ad : Nat → Nat) (cA : Nat → ClassId) (N : Nat) (h : jx_ok K D clM (tysM cA) A 6 b_M_compatible y_M_compatible.cls ((Cond.code y_M_compatible b_M_compatible 6 (some .boolean)) :: tblG) rM_M_compatible (some .boolean)) : ∀ (v1 : Int32) (v2 : Int32) (v3 : Int32) (s0 : Int32) (σ : SM), J K D clM A 6 (wM ad cA) (jx_Qi K D clM (tysM cA) (wM ad cA) A) 0 0 31 [(0, .ref (ad 0)), (1, .int v1), (2, .int v2), (3, .int v3)] [.int s0] σ (M_M_compatible_b31 N v1 v2 v3 s0 σ) := by
  intro v1 v2 v3 s0 σ
  rw [M_M_compatible_b31]
  refine J_istore (lv' := [(4, .int s0), (0, .ref (ad 0)), (1, .int v1), (2, .int v2), (3, .int v3)]) h d_M_compatible_31 (by decide) rfl ?_
  refine J_aload_n (q := 1) h d_M_compatible_33 rfl rfl ?_
  refine J_getf h 0 (wM_0 ad cA σ) (tb_ups in_M) rfl 10 (by decide) (tb_up q_4_92) rfl d_M_compatible_34 ?_
  refine J_iload_n (q := 2) h d_M_compatible_37 rfl rfl ?_
  refine J_zald h 10 9 (wM_10 ad cA σ) rfl d_M_compatible_38 ?_
  refine J_if_eq (tgt := 153) h d_M_compatible_39 (by decide) ?_ ?_
  · refine J_sub [1, 2, 3, 4, 0] rfl ?_
    exact J_M_M_compatible_b153 K D A ad cA N h v1 v2 v3 s0 σ
  · refine J_aload_n (q := 1) h d_M_compatible_42 rfl rfl ?_
    refine J_getf h 0 (wM_0 ad cA σ) (tb_ups in_M) rfl 10 (by decide) (tb_up q_4_92) rfl d_M_compatible_43 ?_
    refine J_iload_n (q := 3) h d_M_compatible_46 rfl rfl ?_
    refine J_zald h 10 9 (wM_10 ad cA σ) rfl d_M_compatible_47 ?_
    refine J_if_eq (tgt := 153) h d_M_compatible_48 (by decide) ?_ ?_
    · refine J_sub [1, 2, 3, 4, 0] rfl ?_
      exact J_M_M_compatible_b153 K D A ad cA N h v1 v2 v3 s0 σ
    · refine J_iload_n (q := 4) h d_M_compatible_51 rfl rfl ?_
      refine J_if_eq (tgt := 76) h d_M_compatible_52 (by decide) ?_ ?_
      · refine J_sub [1, 2, 3, 4, 0] rfl ?_
        exact J_M_M_compatible_b76 K D A ad cA N h v1 v2 v3 s0 σ
      · refine J_iload (q := 0) h d_M_compatible_55 rfl ?_
        refine J_if_eq (tgt := 76) h d_M_compatible_57 (by decide) ?_ ?_
        · refine J_sub [1, 2, 3, 4, 0] rfl ?_
          exact J_M_M_compatible_b76 K D A ad cA N h v1 v2 v3 s0 σ
        · refine J_aload_n (q := 1) h d_M_compatible_60 rfl rfl ?_
          refine J_getf h 0 (wM_0 ad cA σ) (tb_ups in_M) rfl 6 (by decide) (tb_up q_4_88) rfl d_M_compatible_61 ?_
          refine J_iload_n (q := 2) h d_M_compatible_64 rfl rfl ?_
          refine J_iald h 6 5 (wM_6 ad cA σ) rfl d_M_compatible_65 ?_
          refine J_aload_n (q := 1) h d_M_compatible_66 rfl rfl ?_
          refine J_getf h 0 (wM_0 ad cA σ) (tb_ups in_M) rfl 6 (by decide) (tb_up q_4_88) rfl d_M_compatible_67 ?_
          refine J_iload_n (q := 3) h d_M_compatible_70 rfl rfl ?_
          refine J_iald h 6 5 (wM_6 ad cA σ) rfl d_M_compatible_71 ?_
          refine J_callTi (As := [.int (aM_M_one σ v1.toNatClampNeg), .int (aM_M_one σ v2.toNatClampNeg)]) (st := []) (rmc := rM_M_isWidened) h (fun _ _ hf => cM_M_isWidened (jl K) D ad cA (aM_M_one σ v1.toNatClampNeg) (aM_M_one σ v2.toNatClampNeg) σ _ _ hf) (gd_all q_5_168) (tb_up q_5_166) (tb_up q_5_167) (tb_up q_1_12) rfl ⟨rfl, rfl⟩ dd_M_isWidened ⟨Nat.le_of_ble_eq_true rfl, Nat.le_of_ble_eq_true rfl⟩ rfl rfl (Nat.le_of_ble_eq_true rfl) ⟨Nat.zero_le _, Nat.zero_le _⟩ d_M_compatible_72 (fun r20 σ21 => ?_)
          exact J_zretc h rfl d_M_compatible_75
def M_M_compatible_b15 (N : Nat) (v1 : Int32) (v2 : Int32) (s0 : Int32) (σ : SM) : Option (Int32 × SM) := (if ck v2 500 = true then (if (aM_M_kind σ v2.toNatClampNeg) = 5 then (M_M_compatible_b31 N v1 v2 s0 1 σ) else (M_M_compatible_b31 N v1 v2 s0 0 σ)) else none)
set_option maxRecDepth 100000 in
set_option maxHeartbeats 4000000 in
theorem J_M_M_compatible_b15 (K : jx_E) (D : va_G) (A : Nat → Prop) (ad : Nat → Nat) (cA : Nat → ClassId) (N : Nat) (h : jx_ok K D clM (tysM cA) A 6 b_M_compatible y_M_compatible.cls ((Cond.code y_M_compatible b_M_compatible 6 (some .boolean)) :: tblG) rM_M_compatible (some .boolean)) : ∀ (v1 : Int32) (v2 : Int32) (s0 : Int32) (σ : SM), J K D clM A 6 (wM ad cA) (jx_Qi K D clM (tysM cA) (wM ad cA) A) 0 0 15 [(0, .ref (ad 0)), (1, .int v1), (2, .int v2)] [.int s0] σ (M_M_compatible_b15 N v1 v2 s0 σ) := by
  intro v1 v2 s0 σ
  rw [M_M_compatible_b15]
  refine J_istore_n (lv' := [(3, .int s0), (0, .ref (ad 0)), (1, .int v1), (2, .int v2)]) h d_M_compatible_15 rfl (by decide) rfl ?_
  refine J_aload_n (q := 1) h d_M_compatible_16 rfl rfl ?_
  refine J_getf h 0 (wM_0 ad cA σ) (tb_ups in_M) rfl 5 (by decide) (tb_up q_4_87) rfl d_M_compatible_17 ?_
  refine J_iload_n (q := 3) h d_M_compatible_20 rfl rfl ?_
  refine J_iald h 5 4 (wM_5 ad cA σ) rfl d_M_compatible_21 ?_
  refine J_iconst (v := 5) h d_M_compatible_22 (by decide) ?_
  refine J_icmp_ne (tgt := 30) h d_M_compatible_23 (by decide) ?_ ?_
  · refine J_iconst (v := 1) h d_M_compatible_26 (by decide) ?_
    refine J_goto (tgt := 31) h d_M_compatible_27 (by decide) ?_
    refine J_sub [1, 2, 3, 0] rfl ?_
    exact J_M_M_compatible_b31 K D A ad cA N h v1 v2 s0 1 σ
  · refine J_iconst (v := 0) h d_M_compatible_30 (by decide) ?_
    refine J_sub [1, 2, 3, 0] rfl ?_
    exact J_M_M_compatible_b31 K D A ad cA N h v1 v2 s0 0 σ
def M_M_compatible (N : Nat) (x1 : Int32) (x2 : Int32) (σ : SM) : Option (Int32 × SM) := (if ck x1 500 = true then (if (aM_M_kind σ x1.toNatClampNeg) = 5 then (M_M_compatible_b15 N x1 x2 1 σ) else (M_M_compatible_b15 N x1 x2 0 σ)) else none)
set_option maxRecDepth 100000 in
set_option maxHeartbeats 4000000 in
theorem J_M_M_compatible (K : jx_E) (D : va_G) (A : Nat → Prop) (ad : Nat → Nat) (cA : Nat → ClassId) (N : Nat) (h : jx_ok K D clM (tysM cA) A 6 b_M_compatible y_M_compatible.cls ((Cond.code y_M_compatible b_M_compatible 6 (some .boolean)) :: tblG) rM_M_compatible (some .boolean)) : ∀ (x1 : Int32) (x2 : Int32) (σ : SM), J K D clM A 6 (wM ad cA) (jx_Qi K D clM (tysM cA) (wM ad cA) A) 0 0 0 [(0, .ref (ad 0)), (1, .int x1), (2, .int x2)] [] σ (M_M_compatible N x1 x2 σ) := by
  intro x1 x2 σ
  rw [M_M_compatible]
  refine J_aload_n (q := 0) h d_M_compatible_0 rfl rfl ?_
  refine J_getf h 0 (wM_0 ad cA σ) (tb_ups in_M) rfl 5 (by decide) (tb_up q_4_87) rfl d_M_compatible_1 ?_
  refine J_iload_n (q := 1) h d_M_compatible_4 rfl rfl ?_
  refine J_iald h 5 4 (wM_5 ad cA σ) rfl d_M_compatible_5 ?_
  refine J_iconst (v := 5) h d_M_compatible_6 (by decide) ?_
  refine J_icmp_ne (tgt := 14) h d_M_compatible_7 (by decide) ?_ ?_
  · refine J_iconst (v := 1) h d_M_compatible_10 (by decide) ?_
    refine J_goto (tgt := 15) h d_M_compatible_11 (by decide) ?_
    exact J_M_M_compatible_b15 K D A ad cA N h x1 x2 1 σ
  · refine J_iconst (v := 0) h d_M_compatible_14 (by decide) ?_
    exact J_M_M_compatible_b15 K D A ad cA N h x1 x2 0 σ
set_option maxRecDepth 100000 in
theorem cM_M_compatible (l : Launch) (D : va_G) (ad : Nat → Nat) (cA : Nat → ClassId) (N : Nat) (x1 : Int32) (x2 : Int32) (σ : SM) (r : Int32) (σ' : SM) (hf : M_M_compatible N x1 x2 σ = some (r, σ')) : MetI l y_M_compatible ((Cond.code y_M_compatible b_M_compatible 6 (some .boolean)) :: tblG) rM_M_compatible D clM (tysM cA) (wM ad cA) [.ref (ad 0), .int x1, .int x2] σ r σ' :=
  jx_metI (by decide) rfl (Nat.le_of_ble_eq_true rfl) (fun K A h => J_M_M_compatible K D A ad cA N h x1 x2 σ) hf
def rM_M_bind : Room := { frames := 0, cells := 0, slots := 0, locals := 0 }
theorem rm_ok_M_M_bind : rM_M_bind.cells = 0 ∧ rM_M_bind.slots = 0 := ⟨rfl, rfl⟩
def M_M_bind_b51 (N : Nat) (k3 : Int32 → Int32 → Int32 → Int32 → SM → Option (Unit × SM)) (v1 : Int32) (v2 : Int32) (v3 : Int32) (v4 : Int32) (σ : SM) : Option (Unit × SM) := (nm (v4 + 1) (fun (y1 : Int32) => (k3 v1 v2 v3 y1 σ)))
set_option maxRecDepth 100000 in
set_option maxHeartbeats 4000000 in
theorem J_M_M_bind_b51 (K : jx_E) (D : va_G) (A : Nat → Prop) (ad : Nat → Nat) (cA : Nat → ClassId) (N : Nat) (h : jx_ok K D clM (tysM cA) A 5 b_M_bind y_M_bind.cls ((Cond.code y_M_bind b_M_bind 5 none) :: tblG) rM_M_bind none) (k3 : Int32 → Int32 → Int32 → Int32 → SM → Option (Unit × SM)) (hk3 : ∀ (v1 : Int32) (v2 : Int32) (v3 : Int32) (v4 : Int32) (σ : SM), J K D clM A 5 (wM ad cA) (jx_Qv K D clM (tysM cA) (wM ad cA) A) 0 0 3 [(0, .ref (ad 0)), (1, .int v1), (2, .int v2), (3, .int v3), (4, .int v4)] [] σ (k3 v1 v2 v3 v4 σ)) : ∀ (v1 : Int32) (v2 : Int32) (v3 : Int32) (v4 : Int32) (σ : SM), J K D clM A 5 (wM ad cA) (jx_Qv K D clM (tysM cA) (wM ad cA) A) 0 0 51 [(0, .ref (ad 0)), (1, .int v1), (2, .int v2), (3, .int v3), (4, .int v4)] [] σ (M_M_bind_b51 N k3 v1 v2 v3 v4 σ) := by
  intro v1 v2 v3 v4 σ
  rw [M_M_bind_b51]
  refine J_iinc (q := 4) (c := 1) (lv' := fun y1 => [(4, .int y1), (0, .ref (ad 0)), (1, .int v1), (2, .int v2), (3, .int v3)]) h d_M_bind_51 rfl (by decide) (by decide) (fun _ => rfl) (fun y1 => ?_)
  refine J_goto (tgt := 3) h d_M_bind_54 (by decide) ?_
  refine J_sub [1, 2, 3, 4, 0] rfl ?_
  exact hk3 v1 v2 v3 y1 σ
def M_M_bind_L3 (N : Nat) (k57 : Int32 → Int32 → Int32 → SM → Option (Unit × SM)) : Nat → Int32 → Int32 → Int32 → Int32 → SM → Option (Unit × SM)
  | 0, _, _, _, _, _ => none
  | n + 1, v1, v2, v3, v4, σ => (if (gM_M_bounds σ) ≤ v4 then (k57 v1 v2 v3 σ) else (if ck v4 200 = true then (if (aM_M_boundSort σ v4.toNatClampNeg) = v1 then (if ck v4 200 = true then (if ck v2 500 = true then (if (aM_M_boundOf σ v4.toNatClampNeg) = (aM_M_one σ v2.toNatClampNeg) then (if ck v4 200 = true then (if (aM_M_boundType σ v4.toNatClampNeg) = v3 then (some ((), σ)) else (M_M_bind_b51 N (M_M_bind_L3 N k57 n) v1 v2 v3 v4 σ)) else none) else (M_M_bind_b51 N (M_M_bind_L3 N k57 n) v1 v2 v3 v4 σ)) else none) else none) else (M_M_bind_b51 N (M_M_bind_L3 N k57 n) v1 v2 v3 v4 σ)) else none))
set_option maxRecDepth 100000 in
set_option maxHeartbeats 4000000 in
theorem J_M_M_bind_L3 (K : jx_E) (D : va_G) (A : Nat → Prop) (ad : Nat → Nat) (cA : Nat → ClassId) (N : Nat) (h : jx_ok K D clM (tysM cA) A 5 b_M_bind y_M_bind.cls ((Cond.code y_M_bind b_M_bind 5 none) :: tblG) rM_M_bind none) (k57 : Int32 → Int32 → Int32 → SM → Option (Unit × SM)) (hk57 : ∀ (v1 : Int32) (v2 : Int32) (v3 : Int32) (σ : SM), J K D clM A 5 (wM ad cA) (jx_Qv K D clM (tysM cA) (wM ad cA) A) 0 0 57 [(0, .ref (ad 0)), (1, .int v1), (2, .int v2), (3, .int v3)] [] σ (k57 v1 v2 v3 σ)) : ∀ (n : Nat) (v1 : Int32) (v2 : Int32) (v3 : Int32) (v4 : Int32) (σ : SM), J K D clM A 5 (wM ad cA) (jx_Qv K D clM (tysM cA) (wM ad cA) A) 0 0 3 [(0, .ref (ad 0)), (1, .int v1), (2, .int v2), (3, .int v3), (4, .int v4)] [] σ (M_M_bind_L3 N k57 n v1 v2 v3 v4 σ) := by
  intro n
  induction n with
  | zero => intro v1 v2 v3 v4 σ; exact J_none
  | succ n ih =>
    intro v1 v2 v3 v4 σ
    rw [M_M_bind_L3]
    refine J_iload (q := 4) h d_M_bind_3 rfl ?_
    refine J_aload_n (q := 0) h d_M_bind_5 rfl rfl ?_
    refine J_getf h 0 (wM_0 ad cA σ) (tb_ups in_M) rfl 49 (by decide) (tb_up q_4_131) rfl d_M_bind_6 ?_
    refine J_icmp_ge (tgt := 57) h d_M_bind_9 (by decide) ?_ ?_
    · refine J_sub [0, 1, 2, 3] rfl ?_
      exact hk57 v1 v2 v3 σ
    · refine J_aload_n (q := 0) h d_M_bind_12 rfl rfl ?_
      refine J_getf h 0 (wM_0 ad cA σ) (tb_ups in_M) rfl 45 (by decide) (tb_up q_4_127) rfl d_M_bind_13 ?_
      refine J_iload (q := 4) h d_M_bind_16 rfl ?_
      refine J_iald h 30 29 (wM_30 ad cA σ) rfl d_M_bind_18 ?_
      refine J_iload_n (q := 1) h d_M_bind_19 rfl rfl ?_
      refine J_icmp_ne (tgt := 51) h d_M_bind_20 (by decide) ?_ ?_
      · refine J_aload_n (q := 0) h d_M_bind_23 rfl rfl ?_
        refine J_getf h 0 (wM_0 ad cA σ) (tb_ups in_M) rfl 46 (by decide) (tb_up q_4_128) rfl d_M_bind_24 ?_
        refine J_iload (q := 4) h d_M_bind_27 rfl ?_
        refine J_iald h 31 30 (wM_31 ad cA σ) rfl d_M_bind_29 ?_
        refine J_aload_n (q := 0) h d_M_bind_30 rfl rfl ?_
        refine J_getf h 0 (wM_0 ad cA σ) (tb_ups in_M) rfl 6 (by decide) (tb_up q_4_88) rfl d_M_bind_31 ?_
        refine J_iload_n (q := 2) h d_M_bind_34 rfl rfl ?_
        refine J_iald h 6 5 (wM_6 ad cA σ) rfl d_M_bind_35 ?_
        refine J_icmp_ne (tgt := 51) h d_M_bind_36 (by decide) ?_ ?_
        · refine J_aload_n (q := 0) h d_M_bind_39 rfl rfl ?_
          refine J_getf h 0 (wM_0 ad cA σ) (tb_ups in_M) rfl 47 (by decide) (tb_up q_4_129) rfl d_M_bind_40 ?_
          refine J_iload (q := 4) h d_M_bind_43 rfl ?_
          refine J_iald h 32 31 (wM_32 ad cA σ) rfl d_M_bind_45 ?_
          refine J_iload_n (q := 3) h d_M_bind_46 rfl rfl ?_
          refine J_icmp_ne (tgt := 51) h d_M_bind_47 (by decide) ?_ ?_
          · exact J_vret h rfl d_M_bind_50
          · exact J_M_M_bind_b51 K D A ad cA N h (M_M_bind_L3 N k57 n) ih v1 v2 v3 v4 σ
        · exact J_M_M_bind_b51 K D A ad cA N h (M_M_bind_L3 N k57 n) ih v1 v2 v3 v4 σ
      · exact J_M_M_bind_b51 K D A ad cA N h (M_M_bind_L3 N k57 n) ih v1 v2 v3 v4 σ
def M_M_bind_b57 (N : Nat) (v1 : Int32) (v2 : Int32) (v3 : Int32) (σ : SM) : Option (Unit × SM) := (if (gM_M_bounds σ) = 200 then (nm (sM_M_full σ 1) (fun (σ2 : SM) => (some ((), σ2)))) else (if ck (gM_M_bounds σ) 200 = true then (nm (tM_M_boundSort σ (upd (aM_M_boundSort σ) (gM_M_bounds σ).toNatClampNeg v1)) (fun (σ3 : SM) => (if ck v2 500 = true then (if ck (gM_M_bounds σ3) 200 = true then (nm (tM_M_boundOf σ3 (upd (aM_M_boundOf σ3) (gM_M_bounds σ3).toNatClampNeg (aM_M_one σ3 v2.toNatClampNeg))) (fun (σ4 : SM) => (if ck (gM_M_bounds σ4) 200 = true then (nm (tM_M_boundType σ4 (upd (aM_M_boundType σ4) (gM_M_bounds σ4).toNatClampNeg v3)) (fun (σ5 : SM) => (if ck (gM_M_bounds σ5) 200 = true then (nm (tM_M_boundFrom σ5 (upd (aM_M_boundFrom σ5) (gM_M_bounds σ5).toNatClampNeg (gM_M_origin σ5))) (fun (σ6 : SM) => (nm (sM_M_bounds σ6 ((gM_M_bounds σ6) + 1)) (fun (σ7 : SM) => (some ((), σ7)))))) else none))) else none))) else none) else none))) else none))
set_option maxRecDepth 100000 in
set_option maxHeartbeats 4000000 in
theorem J_M_M_bind_b57 (K : jx_E) (D : va_G) (A : Nat → Prop) (ad : Nat → Nat) (cA : Nat → ClassId) (N : Nat) (h : jx_ok K D clM (tysM cA) A 5 b_M_bind y_M_bind.cls ((Cond.code y_M_bind b_M_bind 5 none) :: tblG) rM_M_bind none) : ∀ (v1 : Int32) (v2 : Int32) (v3 : Int32) (σ : SM), J K D clM A 5 (wM ad cA) (jx_Qv K D clM (tysM cA) (wM ad cA) A) 0 0 57 [(0, .ref (ad 0)), (1, .int v1), (2, .int v2), (3, .int v3)] [] σ (M_M_bind_b57 N v1 v2 v3 σ) := by
  intro v1 v2 v3 σ
  rw [M_M_bind_b57]
  refine J_aload_n (q := 0) h d_M_bind_57 rfl rfl ?_
  refine J_getf h 0 (wM_0 ad cA σ) (tb_ups in_M) rfl 49 (by decide) (tb_up q_4_131) rfl d_M_bind_58 ?_
  refine J_sipush (v := 200) h d_M_bind_61 (by decide) ?_
  refine J_icmp_ne (tgt := 73) h d_M_bind_64 (by decide) ?_ ?_
  · refine J_aload_n (q := 0) h d_M_bind_67 rfl rfl ?_
    refine J_iconst (v := 1) h d_M_bind_68 (by decide) ?_
    refine J_putf h 0 (wM_0 ad cA σ) (tb_ups in_M) rfl ft_M ft_M_ok nm_M 12 (by decide) (tb_up q_4_94) rfl (by decide) (by decide) (Nat.le_of_ble_eq_true rfl) (pM_0_12 ad cA σ 1) d_M_bind_69 (fun σ2 => ?_)
    exact J_vret h rfl d_M_bind_72
  · refine J_aload_n (q := 0) h d_M_bind_73 rfl rfl ?_
    refine J_getf h 0 (wM_0 ad cA σ) (tb_ups in_M) rfl 45 (by decide) (tb_up q_4_127) rfl d_M_bind_74 ?_
    refine J_aload_n (q := 0) h d_M_bind_77 rfl rfl ?_
    refine J_getf h 0 (wM_0 ad cA σ) (tb_ups in_M) rfl 49 (by decide) (tb_up q_4_131) rfl d_M_bind_78 ?_
    refine J_iload_n (q := 1) h d_M_bind_81 rfl rfl ?_
    refine J_iast h 30 29 (wM_30 ad cA σ) rfl (uM_30 ad cA σ _) d_M_bind_82 (fun σ3 => ?_)
    refine J_aload_n (q := 0) h d_M_bind_83 rfl rfl ?_
    refine J_getf h 0 (wM_0 ad cA σ3) (tb_ups in_M) rfl 46 (by decide) (tb_up q_4_128) rfl d_M_bind_84 ?_
    refine J_aload_n (q := 0) h d_M_bind_87 rfl rfl ?_
    refine J_getf h 0 (wM_0 ad cA σ3) (tb_ups in_M) rfl 49 (by decide) (tb_up q_4_131) rfl d_M_bind_88 ?_
    refine J_aload_n (q := 0) h d_M_bind_91 rfl rfl ?_
    refine J_getf h 0 (wM_0 ad cA σ3) (tb_ups in_M) rfl 6 (by decide) (tb_up q_4_88) rfl d_M_bind_92 ?_
    refine J_iload_n (q := 2) h d_M_bind_95 rfl rfl ?_
    refine J_iald h 6 5 (wM_6 ad cA σ3) rfl d_M_bind_96 ?_
    refine J_iast h 31 30 (wM_31 ad cA σ3) rfl (uM_31 ad cA σ3 _) d_M_bind_97 (fun σ4 => ?_)
    refine J_aload_n (q := 0) h d_M_bind_98 rfl rfl ?_
    refine J_getf h 0 (wM_0 ad cA σ4) (tb_ups in_M) rfl 47 (by decide) (tb_up q_4_129) rfl d_M_bind_99 ?_
    refine J_aload_n (q := 0) h d_M_bind_102 rfl rfl ?_
    refine J_getf h 0 (wM_0 ad cA σ4) (tb_ups in_M) rfl 49 (by decide) (tb_up q_4_131) rfl d_M_bind_103 ?_
    refine J_iload_n (q := 3) h d_M_bind_106 rfl rfl ?_
    refine J_iast h 32 31 (wM_32 ad cA σ4) rfl (uM_32 ad cA σ4 _) d_M_bind_107 (fun σ5 => ?_)
    refine J_aload_n (q := 0) h d_M_bind_108 rfl rfl ?_
    refine J_getf h 0 (wM_0 ad cA σ5) (tb_ups in_M) rfl 48 (by decide) (tb_up q_4_130) rfl d_M_bind_109 ?_
    refine J_aload_n (q := 0) h d_M_bind_112 rfl rfl ?_
    refine J_getf h 0 (wM_0 ad cA σ5) (tb_ups in_M) rfl 49 (by decide) (tb_up q_4_131) rfl d_M_bind_113 ?_
    refine J_aload_n (q := 0) h d_M_bind_116 rfl rfl ?_
    refine J_getf h 0 (wM_0 ad cA σ5) (tb_ups in_M) rfl 40 (by decide) (tb_up q_4_122) rfl d_M_bind_117 ?_
    refine J_iast h 33 32 (wM_33 ad cA σ5) rfl (uM_33 ad cA σ5 _) d_M_bind_120 (fun σ6 => ?_)
    refine J_aload_n (q := 0) h d_M_bind_121 rfl rfl ?_
    refine J_dup h d_M_bind_122 rfl ?_
    refine J_getf h 0 (wM_0 ad cA σ6) (tb_ups in_M) rfl 49 (by decide) (tb_up q_4_131) rfl d_M_bind_123 ?_
    refine J_iconst (v := 1) h d_M_bind_126 (by decide) ?_
    refine J_iadd h d_M_bind_127 ?_
    refine J_putf h 0 (wM_0 ad cA σ6) (tb_ups in_M) rfl ft_M ft_M_ok nm_M 49 (by decide) (tb_up q_4_131) rfl rfl rfl (Nat.le_of_ble_eq_true rfl) (pM_0_49 ad cA σ6 ((gM_M_bounds σ6) + 1)) d_M_bind_128 (fun σ7 => ?_)
    exact J_vret h rfl d_M_bind_131
def M_M_bind (N : Nat) (x1 : Int32) (x2 : Int32) (x3 : Int32) (σ : SM) : Option (Unit × SM) := (M_M_bind_L3 N (M_M_bind_b57 N) N x1 x2 x3 0 σ)
set_option maxRecDepth 100000 in
set_option maxHeartbeats 4000000 in
theorem J_M_M_bind (K : jx_E) (D : va_G) (A : Nat → Prop) (ad : Nat → Nat) (cA : Nat → ClassId) (N : Nat) (h : jx_ok K D clM (tysM cA) A 5 b_M_bind y_M_bind.cls ((Cond.code y_M_bind b_M_bind 5 none) :: tblG) rM_M_bind none) : ∀ (x1 : Int32) (x2 : Int32) (x3 : Int32) (σ : SM), J K D clM A 5 (wM ad cA) (jx_Qv K D clM (tysM cA) (wM ad cA) A) 0 0 0 [(0, .ref (ad 0)), (1, .int x1), (2, .int x2), (3, .int x3)] [] σ (M_M_bind N x1 x2 x3 σ) := by
  intro x1 x2 x3 σ
  rw [M_M_bind]
  refine J_iconst (v := 0) h d_M_bind_0 (by decide) ?_
  refine J_istore (lv' := [(4, .int 0), (0, .ref (ad 0)), (1, .int x1), (2, .int x2), (3, .int x3)]) h d_M_bind_1 (by decide) rfl ?_
  refine J_sub [1, 2, 3, 4, 0] rfl ?_
  exact J_M_M_bind_L3 K D A ad cA N h (M_M_bind_b57 N) (J_M_M_bind_b57 K D A ad cA N h) N x1 x2 x3 0 σ
set_option maxRecDepth 100000 in
theorem cM_M_bind (l : Launch) (D : va_G) (ad : Nat → Nat) (cA : Nat → ClassId) (N : Nat) (x1 : Int32) (x2 : Int32) (x3 : Int32) (σ : SM) (r : Unit) (σ' : SM) (hf : M_M_bind N x1 x2 x3 σ = some (r, σ')) : MetV l y_M_bind ((Cond.code y_M_bind b_M_bind 5 none) :: tblG) rM_M_bind D clM (tysM cA) (wM ad cA) [.ref (ad 0), .int x1, .int x2, .int x3] σ r σ' :=
  jx_metV (by decide) rfl (Nat.le_of_ble_eq_true rfl) (fun K A h => J_M_M_bind K D A ad cA N h x1 x2 x3 σ) hf
def rM_M_isBelow : Room := { frames := 1, cells := 0, slots := 0, locals := 24 }
theorem rm_ok_M_M_isBelow : rM_M_isBelow.cells = 0 ∧ rM_M_isBelow.slots = 0 := ⟨rfl, rfl⟩
def M_M_isBelow_b32 (N : Nat) (v1 : Int32) (v2 : Int32) (σ : SM) : Option (Int32 × SM) := (if ck v2 500 = true then (if (aM_M_kind σ v2.toNatClampNeg) = 7 then (if (gM_M_full σ) = 0 then (bd (M_M_bind N 2 v2 v1 σ) (fun (r3 : Unit) (σ4 : SM) => (some (1, σ4)))) else (some (1, σ))) else (some (1, σ))) else none)
set_option maxRecDepth 100000 in
set_option maxHeartbeats 4000000 in
theorem J_M_M_isBelow_b32 (K : jx_E) (D : va_G) (A : Nat → Prop) (ad : Nat → Nat) (cA : Nat → ClassId) (N : Nat) (h : jx_ok K D clM (tysM cA) A 3 b_M_isBelow y_M_isBelow.cls ((Cond.code y_M_isBelow b_M_isBelow 3 (some .boolean)) :: tblG) rM_M_isBelow (some .boolean)) : ∀ (v1 : Int32) (v2 : Int32) (σ : SM), J K D clM A 3 (wM ad cA) (jx_Qi K D clM (tysM cA) (wM ad cA) A) 0 0 32 [(0, .ref (ad 0)), (1, .int v1), (2, .int v2)] [] σ (M_M_isBelow_b32 N v1 v2 σ) := by
  intro v1 v2 σ
  rw [M_M_isBelow_b32]
  refine J_aload_n (q := 0) h d_M_isBelow_32 rfl rfl ?_
  refine J_getf h 0 (wM_0 ad cA σ) (tb_ups in_M) rfl 5 (by decide) (tb_up q_4_87) rfl d_M_isBelow_33 ?_
  refine J_iload_n (q := 2) h d_M_isBelow_36 rfl rfl ?_
  refine J_iald h 5 4 (wM_5 ad cA σ) rfl d_M_isBelow_37 ?_
  refine J_bipush (v := 7) h d_M_isBelow_38 (by decide) ?_
  refine J_icmp_ne (tgt := 57) h d_M_isBelow_40 (by decide) ?_ ?_
  · refine J_aload_n (q := 0) h d_M_isBelow_43 rfl rfl ?_
    refine J_getf h 0 (wM_0 ad cA σ) (tb_ups in_M) rfl 12 (by decide) (tb_up q_4_94) rfl d_M_isBelow_44 ?_
    refine J_if_ne (tgt := 57) h d_M_isBelow_47 (by decide) ?_ ?_
    · refine J_aload_n (q := 0) h d_M_isBelow_50 rfl rfl ?_
      refine J_iconst (v := 2) h d_M_isBelow_51 (by decide) ?_
      refine J_iload_n (q := 2) h d_M_isBelow_52 rfl rfl ?_
      refine J_iload_n (q := 1) h d_M_isBelow_53 rfl rfl ?_
      refine J_callVv (As := [.int 2, .int v2, .int v1]) (st := []) (rmc := rM_M_bind) (q0 := 0) h (fun _ _ hf => cM_M_bind (jl K) D ad cA N 2 v2 v1 σ _ _ hf) (gd_V q_5_185 q_5_187 q_s_50 q_1_12 q_5_188) rfl ⟨rfl, rfl⟩ dd_M_bind ⟨Nat.le_of_ble_eq_true rfl, Nat.le_of_ble_eq_true rfl⟩ rfl rfl (wM_0 ad cA σ) rfl rfl (Nat.le_of_ble_eq_true rfl) ⟨Nat.zero_le _, Nat.zero_le _⟩ d_M_isBelow_54 (fun r3 σ4 => ?_)
      refine J_iconst (v := 1) h d_M_isBelow_57 (by decide) ?_
      exact J_zret h rfl (by decide) d_M_isBelow_58
    · refine J_iconst (v := 1) h d_M_isBelow_57 (by decide) ?_
      exact J_zret h rfl (by decide) d_M_isBelow_58
  · refine J_iconst (v := 1) h d_M_isBelow_57 (by decide) ?_
    exact J_zret h rfl (by decide) d_M_isBelow_58
def M_M_isBelow (N : Nat) (x1 : Int32) (x2 : Int32) (σ : SM) : Option (Int32 × SM) := (if (gM_M_judging σ) = 0 then (if ck x1 500 = true then (if (aM_M_kind σ x1.toNatClampNeg) = 7 then (bd (M_M_bind N 1 x1 x2 σ) (fun (r1 : Unit) (σ2 : SM) => (M_M_isBelow_b32 N x1 x2 σ2))) else (M_M_isBelow_b32 N x1 x2 σ)) else none) else (nm (sM_M_metVariable σ 1) (fun (σ5 : SM) => (some (0, σ5)))))
set_option maxRecDepth 100000 in
set_option maxHeartbeats 4000000 in
theorem J_M_M_isBelow (K : jx_E) (D : va_G) (A : Nat → Prop) (ad : Nat → Nat) (cA : Nat → ClassId) (N : Nat) (h : jx_ok K D clM (tysM cA) A 3 b_M_isBelow y_M_isBelow.cls ((Cond.code y_M_isBelow b_M_isBelow 3 (some .boolean)) :: tblG) rM_M_isBelow (some .boolean)) : ∀ (x1 : Int32) (x2 : Int32) (σ : SM), J K D clM A 3 (wM ad cA) (jx_Qi K D clM (tysM cA) (wM ad cA) A) 0 0 0 [(0, .ref (ad 0)), (1, .int x1), (2, .int x2)] [] σ (M_M_isBelow N x1 x2 σ) := by
  intro x1 x2 σ
  rw [M_M_isBelow]
  refine J_aload_n (q := 0) h d_M_isBelow_0 rfl rfl ?_
  refine J_getf h 0 (wM_0 ad cA σ) (tb_ups in_M) rfl 37 (by decide) (tb_up q_4_119) rfl d_M_isBelow_1 ?_
  refine J_if_eq (tgt := 14) h d_M_isBelow_4 (by decide) ?_ ?_
  · refine J_aload_n (q := 0) h d_M_isBelow_14 rfl rfl ?_
    refine J_getf h 0 (wM_0 ad cA σ) (tb_ups in_M) rfl 5 (by decide) (tb_up q_4_87) rfl d_M_isBelow_15 ?_
    refine J_iload_n (q := 1) h d_M_isBelow_18 rfl rfl ?_
    refine J_iald h 5 4 (wM_5 ad cA σ) rfl d_M_isBelow_19 ?_
    refine J_bipush (v := 7) h d_M_isBelow_20 (by decide) ?_
    refine J_icmp_ne (tgt := 32) h d_M_isBelow_22 (by decide) ?_ ?_
    · refine J_aload_n (q := 0) h d_M_isBelow_25 rfl rfl ?_
      refine J_iconst (v := 1) h d_M_isBelow_26 (by decide) ?_
      refine J_iload_n (q := 1) h d_M_isBelow_27 rfl rfl ?_
      refine J_iload_n (q := 2) h d_M_isBelow_28 rfl rfl ?_
      refine J_callVv (As := [.int 1, .int x1, .int x2]) (st := []) (rmc := rM_M_bind) (q0 := 0) h (fun _ _ hf => cM_M_bind (jl K) D ad cA N 1 x1 x2 σ _ _ hf) (gd_V q_5_185 q_5_187 q_s_50 q_1_12 q_5_188) rfl ⟨rfl, rfl⟩ dd_M_bind ⟨Nat.le_of_ble_eq_true rfl, Nat.le_of_ble_eq_true rfl⟩ rfl rfl (wM_0 ad cA σ) rfl rfl (Nat.le_of_ble_eq_true rfl) ⟨Nat.zero_le _, Nat.zero_le _⟩ d_M_isBelow_29 (fun r1 σ2 => ?_)
      exact J_M_M_isBelow_b32 K D A ad cA N h x1 x2 σ2
    · exact J_M_M_isBelow_b32 K D A ad cA N h x1 x2 σ
  · refine J_aload_n (q := 0) h d_M_isBelow_7 rfl rfl ?_
    refine J_iconst (v := 1) h d_M_isBelow_8 (by decide) ?_
    refine J_putf h 0 (wM_0 ad cA σ) (tb_ups in_M) rfl ft_M ft_M_ok nm_M 38 (by decide) (tb_up q_4_120) rfl (by decide) (by decide) (Nat.le_of_ble_eq_true rfl) (pM_0_38 ad cA σ 1) d_M_isBelow_9 (fun σ5 => ?_)
    refine J_iconst (v := 0) h d_M_isBelow_12 (by decide) ?_
    exact J_zret h rfl (by decide) d_M_isBelow_13
set_option maxRecDepth 100000 in
theorem cM_M_isBelow (l : Launch) (D : va_G) (ad : Nat → Nat) (cA : Nat → ClassId) (N : Nat) (x1 : Int32) (x2 : Int32) (σ : SM) (r : Int32) (σ' : SM) (hf : M_M_isBelow N x1 x2 σ = some (r, σ')) : MetI l y_M_isBelow ((Cond.code y_M_isBelow b_M_isBelow 3 (some .boolean)) :: tblG) rM_M_isBelow D clM (tysM cA) (wM ad cA) [.ref (ad 0), .int x1, .int x2] σ r σ' :=
  jx_metI (by decide) rfl (Nat.le_of_ble_eq_true rfl) (fun K A h => J_M_M_isBelow K D A ad cA N h x1 x2 σ) hf
def rM_M_sub : Room := { frames := 4, cells := 0, slots := 0, locals := 104 }
theorem rm_ok_M_M_sub : rM_M_sub.cells = 0 ∧ rM_M_sub.slots = 0 := ⟨rfl, rfl⟩
def M_M_sub_b89 (N : Nat) (v1 : Int32) (v2 : Int32) (σ : SM) : Option (Int32 × SM) := (bd (M_M_isBelow N v1 v2 σ) (fun (r1 : Int32) (σ2 : SM) => (if zb r1 = true then some (r1, σ2) else none)))
set_option maxRecDepth 100000 in
set_option maxHeartbeats 4000000 in
theorem J_M_M_sub_b89 (K : jx_E) (D : va_G) (A : Nat → Prop) (ad : Nat → Nat) (cA : Nat → ClassId) (N : Nat) (h : jx_ok K D clM (tysM cA) A 5 b_M_sub y_M_sub.cls ((Cond.code y_M_sub b_M_sub 5 (some .boolean)) :: tblG) rM_M_sub (some .boolean)) : ∀ (v1 : Int32) (v2 : Int32) (σ : SM), J K D clM A 5 (wM ad cA) (jx_Qi K D clM (tysM cA) (wM ad cA) A) 0 0 89 [(0, .ref (ad 0)), (1, .int v1), (2, .int v2)] [] σ (M_M_sub_b89 N v1 v2 σ) := by
  intro v1 v2 σ
  rw [M_M_sub_b89]
  refine J_aload_n (q := 0) h d_M_sub_89 rfl rfl ?_
  refine J_iload_n (q := 1) h d_M_sub_90 rfl rfl ?_
  refine J_iload_n (q := 2) h d_M_sub_91 rfl rfl ?_
  refine J_callVi (As := [.int v1, .int v2]) (st := []) (rmc := rM_M_isBelow) (q0 := 0) h (fun _ _ hf => cM_M_isBelow (jl K) D ad cA N v1 v2 σ _ _ hf) (gd_V q_5_181 q_5_183 q_s_49 q_1_12 q_5_184) rfl ⟨rfl, rfl⟩ dd_M_isBelow ⟨Nat.le_of_ble_eq_true rfl, Nat.le_of_ble_eq_true rfl⟩ rfl rfl (wM_0 ad cA σ) rfl rfl (Nat.le_of_ble_eq_true rfl) ⟨Nat.zero_le _, Nat.zero_le _⟩ d_M_sub_92 (fun r1 σ2 => ?_)
  exact J_zretc h rfl d_M_sub_95
def M_M_sub_b286 (N : Nat) (v1 : Int32) (v2 : Int32) (s0 : Int32) (σ : SM) : Option (Int32 × SM) := (if s0 = 0 then (if ck v1 500 = true then (if ck v2 500 = true then (bd (M_M_then 1 (aM_M_one σ v1.toNatClampNeg) (aM_M_one σ v2.toNatClampNeg) σ) (fun (r11 : Int32) (σ12 : SM) => (if zb r11 = true then some (r11, σ12) else none))) else none) else none) else (if ck v1 500 = true then (if ck v2 500 = true then (if (aM_M_one σ v1.toNatClampNeg) = (aM_M_one σ v2.toNatClampNeg) then (some (1, σ)) else (some (0, σ))) else none) else none))
set_option maxRecDepth 100000 in
set_option maxHeartbeats 4000000 in
theorem J_M_M_sub_b286 (K : jx_E) (D : va_G) (A : Nat → Prop) (ad : Nat → Nat) (cA : Nat → ClassId) (N : Nat) (h : jx_ok K D clM (tysM cA) A 5 b_M_sub y_M_sub.cls ((Cond.code y_M_sub b_M_sub 5 (some .boolean)) :: tblG) rM_M_sub (some .boolean)) : ∀ (v1 : Int32) (v2 : Int32) (s0 : Int32) (σ : SM), J K D clM A 5 (wM ad cA) (jx_Qi K D clM (tysM cA) (wM ad cA) A) 0 0 286 [(0, .ref (ad 0)), (1, .int v1), (2, .int v2)] [.int s0] σ (M_M_sub_b286 N v1 v2 s0 σ) := by
  intro v1 v2 s0 σ
  rw [M_M_sub_b286]
  refine J_istore_n (lv' := [(3, .int s0), (0, .ref (ad 0)), (1, .int v1), (2, .int v2)]) h d_M_sub_286 rfl (by decide) rfl ?_
  refine J_iload_n (q := 0) h d_M_sub_287 rfl rfl ?_
  refine J_if_eq (tgt := 314) h d_M_sub_288 (by decide) ?_ ?_
  · refine J_aload_n (q := 1) h d_M_sub_314 rfl rfl ?_
    refine J_iconst (v := 1) h d_M_sub_315 (by decide) ?_
    refine J_aload_n (q := 1) h d_M_sub_316 rfl rfl ?_
    refine J_getf h 0 (wM_0 ad cA σ) (tb_ups in_M) rfl 6 (by decide) (tb_up q_4_88) rfl d_M_sub_317 ?_
    refine J_iload_n (q := 2) h d_M_sub_320 rfl rfl ?_
    refine J_iald h 6 5 (wM_6 ad cA σ) rfl d_M_sub_321 ?_
    refine J_aload_n (q := 1) h d_M_sub_322 rfl rfl ?_
    refine J_getf h 0 (wM_0 ad cA σ) (tb_ups in_M) rfl 6 (by decide) (tb_up q_4_88) rfl d_M_sub_323 ?_
    refine J_iload_n (q := 3) h d_M_sub_326 rfl rfl ?_
    refine J_iald h 6 5 (wM_6 ad cA σ) rfl d_M_sub_327 ?_
    refine J_callVi (As := [.int 1, .int (aM_M_one σ v1.toNatClampNeg), .int (aM_M_one σ v2.toNatClampNeg)]) (st := []) (rmc := rM_M_then) (q0 := 0) h (fun _ _ hf => cM_M_then (jl K) D ad cA 1 (aM_M_one σ v1.toNatClampNeg) (aM_M_one σ v2.toNatClampNeg) σ _ _ hf) (gd_V q_5_173 q_5_175 q_s_47 q_1_12 q_5_176) rfl ⟨rfl, rfl⟩ dd_M_then ⟨Nat.le_of_ble_eq_true rfl, Nat.le_of_ble_eq_true rfl⟩ rfl rfl (wM_0 ad cA σ) rfl rfl (Nat.le_of_ble_eq_true rfl) ⟨Nat.zero_le _, Nat.zero_le _⟩ d_M_sub_328 (fun r11 σ12 => ?_)
    exact J_zretc h rfl d_M_sub_331
  · refine J_aload_n (q := 1) h d_M_sub_291 rfl rfl ?_
    refine J_getf h 0 (wM_0 ad cA σ) (tb_ups in_M) rfl 6 (by decide) (tb_up q_4_88) rfl d_M_sub_292 ?_
    refine J_iload_n (q := 2) h d_M_sub_295 rfl rfl ?_
    refine J_iald h 6 5 (wM_6 ad cA σ) rfl d_M_sub_296 ?_
    refine J_aload_n (q := 1) h d_M_sub_297 rfl rfl ?_
    refine J_getf h 0 (wM_0 ad cA σ) (tb_ups in_M) rfl 6 (by decide) (tb_up q_4_88) rfl d_M_sub_298 ?_
    refine J_iload_n (q := 3) h d_M_sub_301 rfl rfl ?_
    refine J_iald h 6 5 (wM_6 ad cA σ) rfl d_M_sub_302 ?_
    refine J_icmp_ne (tgt := 310) h d_M_sub_303 (by decide) ?_ ?_
    · refine J_iconst (v := 1) h d_M_sub_306 (by decide) ?_
      refine J_goto (tgt := 331) h d_M_sub_307 (by decide) ?_
      exact J_zret h rfl (by decide) d_M_sub_331
    · refine J_iconst (v := 0) h d_M_sub_310 (by decide) ?_
      refine J_goto (tgt := 331) h d_M_sub_311 (by decide) ?_
      exact J_zret h rfl (by decide) d_M_sub_331
def M_M_sub_b281 (N : Nat) (v1 : Int32) (v2 : Int32) (σ : SM) : Option (Int32 × SM) := (M_M_sub_b286 N v1 v2 1 σ)
set_option maxRecDepth 100000 in
set_option maxHeartbeats 4000000 in
theorem J_M_M_sub_b281 (K : jx_E) (D : va_G) (A : Nat → Prop) (ad : Nat → Nat) (cA : Nat → ClassId) (N : Nat) (h : jx_ok K D clM (tysM cA) A 5 b_M_sub y_M_sub.cls ((Cond.code y_M_sub b_M_sub 5 (some .boolean)) :: tblG) rM_M_sub (some .boolean)) : ∀ (v1 : Int32) (v2 : Int32) (σ : SM), J K D clM A 5 (wM ad cA) (jx_Qi K D clM (tysM cA) (wM ad cA) A) 0 0 281 [(0, .ref (ad 0)), (1, .int v1), (2, .int v2)] [] σ (M_M_sub_b281 N v1 v2 σ) := by
  intro v1 v2 σ
  rw [M_M_sub_b281]
  refine J_iconst (v := 1) h d_M_sub_281 (by decide) ?_
  refine J_goto (tgt := 286) h d_M_sub_282 (by decide) ?_
  exact J_M_M_sub_b286 K D A ad cA N h v1 v2 1 σ
def M_M_sub_b377 (N : Nat) (v1 : Int32) (s0 : Int32) (σ : SM) : Option (Int32 × SM) := (if ck s0 500 = true then (if (aM_M_one σ s0.toNatClampNeg) = 2 then (if ck s0 500 = true then (bd (M_M_then 1 v1 (aM_M_two σ s0.toNatClampNeg) σ) (fun (r13 : Int32) (σ14 : SM) => (if r13 = 0 then (some (0, σ14)) else (some (1, σ14))))) else none) else (some (0, σ))) else none)
set_option maxRecDepth 100000 in
set_option maxHeartbeats 4000000 in
theorem J_M_M_sub_b377 (K : jx_E) (D : va_G) (A : Nat → Prop) (ad : Nat → Nat) (cA : Nat → ClassId) (N : Nat) (h : jx_ok K D clM (tysM cA) A 5 b_M_sub y_M_sub.cls ((Cond.code y_M_sub b_M_sub 5 (some .boolean)) :: tblG) rM_M_sub (some .boolean)) : ∀ (v1 : Int32) (s0 : Int32) (σ : SM), J K D clM A 5 (wM ad cA) (jx_Qi K D clM (tysM cA) (wM ad cA) A) 0 0 377 [(0, .ref (ad 0)), (1, .int v1)] [.int s0] σ (M_M_sub_b377 N v1 s0 σ) := by
  intro v1 s0 σ
  rw [M_M_sub_b377]
  refine J_istore_n (lv' := [(3, .int s0), (0, .ref (ad 0)), (1, .int v1)]) h d_M_sub_377 rfl (by decide) rfl ?_
  refine J_aload_n (q := 1) h d_M_sub_378 rfl rfl ?_
  refine J_getf h 0 (wM_0 ad cA σ) (tb_ups in_M) rfl 6 (by decide) (tb_up q_4_88) rfl d_M_sub_379 ?_
  refine J_iload_n (q := 0) h d_M_sub_382 rfl rfl ?_
  refine J_iald h 6 5 (wM_6 ad cA σ) rfl d_M_sub_383 ?_
  refine J_iconst (v := 2) h d_M_sub_384 (by decide) ?_
  refine J_icmp_ne (tgt := 407) h d_M_sub_385 (by decide) ?_ ?_
  · refine J_aload_n (q := 1) h d_M_sub_388 rfl rfl ?_
    refine J_iconst (v := 1) h d_M_sub_389 (by decide) ?_
    refine J_iload_n (q := 2) h d_M_sub_390 rfl rfl ?_
    refine J_aload_n (q := 1) h d_M_sub_391 rfl rfl ?_
    refine J_getf h 0 (wM_0 ad cA σ) (tb_ups in_M) rfl 7 (by decide) (tb_up q_4_89) rfl d_M_sub_392 ?_
    refine J_iload_n (q := 0) h d_M_sub_395 rfl rfl ?_
    refine J_iald h 7 6 (wM_7 ad cA σ) rfl d_M_sub_396 ?_
    refine J_callVi (As := [.int 1, .int v1, .int (aM_M_two σ s0.toNatClampNeg)]) (st := []) (rmc := rM_M_then) (q0 := 0) h (fun _ _ hf => cM_M_then (jl K) D ad cA 1 v1 (aM_M_two σ s0.toNatClampNeg) σ _ _ hf) (gd_V q_5_173 q_5_175 q_s_47 q_1_12 q_5_176) rfl ⟨rfl, rfl⟩ dd_M_then ⟨Nat.le_of_ble_eq_true rfl, Nat.le_of_ble_eq_true rfl⟩ rfl rfl (wM_0 ad cA σ) rfl rfl (Nat.le_of_ble_eq_true rfl) ⟨Nat.zero_le _, Nat.zero_le _⟩ d_M_sub_397 (fun r13 σ14 => ?_)
    refine J_if_eq (tgt := 407) h d_M_sub_400 (by decide) ?_ ?_
    · refine J_iconst (v := 0) h d_M_sub_407 (by decide) ?_
      exact J_zret h rfl (by decide) d_M_sub_408
    · refine J_iconst (v := 1) h d_M_sub_403 (by decide) ?_
      refine J_goto (tgt := 408) h d_M_sub_404 (by decide) ?_
      exact J_zret h rfl (by decide) d_M_sub_408
  · refine J_iconst (v := 0) h d_M_sub_407 (by decide) ?_
    exact J_zret h rfl (by decide) d_M_sub_408
def M_M_sub (N : Nat) (x1 : Int32) (x2 : Int32) (σ : SM) : Option (Int32 × SM) := (if x1 = x2 then (some (1, σ)) else (if ck x1 500 = true then (if (aM_M_kind σ x1.toNatClampNeg) = 6 then (if ck x2 500 = true then (if (aM_M_kind σ x2.toNatClampNeg) = 5 then (some (0, σ)) else (some (1, σ))) else none) else (if ck x2 500 = true then (if (aM_M_kind σ x2.toNatClampNeg) = 6 then (some (0, σ)) else (if ck x1 500 = true then (if (aM_M_kind σ x1.toNatClampNeg) = 5 then (some (0, σ)) else (if ck x2 500 = true then (if (aM_M_kind σ x2.toNatClampNeg) = 5 then (some (0, σ)) else (if ck x1 500 = true then (if (aM_M_kind σ x1.toNatClampNeg) = 7 then (M_M_sub_b89 N x1 x2 σ) else (if ck x2 500 = true then (if (aM_M_kind σ x2.toNatClampNeg) = 7 then (M_M_sub_b89 N x1 x2 σ) else (if ck x2 500 = true then (if (aM_M_kind σ x2.toNatClampNeg) = 0 then (if ck x2 500 = true then (if (aM_M_one σ x2.toNatClampNeg) = 0 then (some (1, σ)) else (if ck x2 500 = true then (bd (M_M_aboveOf N x1 (aM_M_one σ x2.toNatClampNeg) σ) (fun (r3 : Int32) (σ4 : SM) => (if r3 = (-1) then (some (0, σ4)) else (some (1, σ4))))) else none)) else none) else (if ck x2 500 = true then (if (aM_M_kind σ x2.toNatClampNeg) = 1 then (if ck x2 500 = true then (bd (M_M_aboveOf N x1 (aM_M_one σ x2.toNatClampNeg) σ) (fun (r5 : Int32) (σ6 : SM) => (if r5 = (-1) then (some (0, σ6)) else (if ck r5 500 = true then (if (aM_M_kind σ6 r5.toNatClampNeg) = 1 then (if ck r5 500 = true then (if ck x2 500 = true then (bd (M_M_then 2 (aM_M_two σ6 r5.toNatClampNeg) (aM_M_two σ6 x2.toNatClampNeg) σ6) (fun (r7 : Int32) (σ8 : SM) => (if ck x2 500 = true then (if (aM_M_three σ8 x2.toNatClampNeg) = (-1) then (some (1, σ8)) else (if ck r5 500 = true then (if ck x2 500 = true then (bd (M_M_then 2 (aM_M_three σ8 r5.toNatClampNeg) (aM_M_three σ8 x2.toNatClampNeg) σ8) (fun (r9 : Int32) (σ10 : SM) => (if r9 = 0 then (some (0, σ10)) else (some (1, σ10))))) else none) else none)) else none))) else none) else none) else (some (0, σ6))) else none)))) else none) else (if ck x2 500 = true then (if (aM_M_kind σ x2.toNatClampNeg) = 4 then (if ck x1 500 = true then (if (aM_M_kind σ x1.toNatClampNeg) = 4 then (if ck x1 500 = true then (if ck (aM_M_one σ x1.toNatClampNeg) 500 = true then (if (aM_M_kind σ (aM_M_one σ x1.toNatClampNeg).toNatClampNeg) = 5 then (M_M_sub_b281 N x1 x2 σ) else (if ck x2 500 = true then (if ck (aM_M_one σ x2.toNatClampNeg) 500 = true then (if (aM_M_kind σ (aM_M_one σ x2.toNatClampNeg).toNatClampNeg) = 5 then (M_M_sub_b281 N x1 x2 σ) else (M_M_sub_b286 N x1 x2 0 σ)) else none) else none)) else none) else none) else (some (0, σ))) else none) else (if ck x2 500 = true then (if (aM_M_kind σ x2.toNatClampNeg) = 8 then (if ck x2 500 = true then (if (aM_M_two σ x2.toNatClampNeg) = 0 then (if ck x2 500 = true then (if ck (aM_M_one σ x2.toNatClampNeg) 500 = true then (M_M_sub_b377 N x1 (aM_M_two σ (aM_M_one σ x2.toNatClampNeg).toNatClampNeg) σ) else none) else none) else (if ck x2 500 = true then (if ck (aM_M_one σ x2.toNatClampNeg) 500 = true then (M_M_sub_b377 N x1 (aM_M_three σ (aM_M_one σ x2.toNatClampNeg).toNatClampNeg) σ) else none) else none)) else none) else (some (0, σ))) else none)) else none)) else none)) else none)) else none)) else none)) else none)) else none)) else none)) else none))
set_option maxRecDepth 100000 in
set_option maxHeartbeats 4000000 in
theorem J_M_M_sub (K : jx_E) (D : va_G) (A : Nat → Prop) (ad : Nat → Nat) (cA : Nat → ClassId) (N : Nat) (h : jx_ok K D clM (tysM cA) A 5 b_M_sub y_M_sub.cls ((Cond.code y_M_sub b_M_sub 5 (some .boolean)) :: tblG) rM_M_sub (some .boolean)) : ∀ (x1 : Int32) (x2 : Int32) (σ : SM), J K D clM A 5 (wM ad cA) (jx_Qi K D clM (tysM cA) (wM ad cA) A) 0 0 0 [(0, .ref (ad 0)), (1, .int x1), (2, .int x2)] [] σ (M_M_sub N x1 x2 σ) := by
  intro x1 x2 σ
  rw [M_M_sub]
  refine J_iload_n (q := 1) h d_M_sub_0 rfl rfl ?_
  refine J_iload_n (q := 2) h d_M_sub_1 rfl rfl ?_
  refine J_icmp_ne (tgt := 7) h d_M_sub_2 (by decide) ?_ ?_
  · refine J_iconst (v := 1) h d_M_sub_5 (by decide) ?_
    exact J_zret h rfl (by decide) d_M_sub_6
  · refine J_aload_n (q := 0) h d_M_sub_7 rfl rfl ?_
    refine J_getf h 0 (wM_0 ad cA σ) (tb_ups in_M) rfl 5 (by decide) (tb_up q_4_87) rfl d_M_sub_8 ?_
    refine J_iload_n (q := 1) h d_M_sub_11 rfl rfl ?_
    refine J_iald h 5 4 (wM_5 ad cA σ) rfl d_M_sub_12 ?_
    refine J_bipush (v := 6) h d_M_sub_13 (by decide) ?_
    refine J_icmp_ne (tgt := 34) h d_M_sub_15 (by decide) ?_ ?_
    · refine J_aload_n (q := 0) h d_M_sub_18 rfl rfl ?_
      refine J_getf h 0 (wM_0 ad cA σ) (tb_ups in_M) rfl 5 (by decide) (tb_up q_4_87) rfl d_M_sub_19 ?_
      refine J_iload_n (q := 2) h d_M_sub_22 rfl rfl ?_
      refine J_iald h 5 4 (wM_5 ad cA σ) rfl d_M_sub_23 ?_
      refine J_iconst (v := 5) h d_M_sub_24 (by decide) ?_
      refine J_icmp_eq (tgt := 32) h d_M_sub_25 (by decide) ?_ ?_
      · refine J_iconst (v := 0) h d_M_sub_32 (by decide) ?_
        exact J_zret h rfl (by decide) d_M_sub_33
      · refine J_iconst (v := 1) h d_M_sub_28 (by decide) ?_
        refine J_goto (tgt := 33) h d_M_sub_29 (by decide) ?_
        exact J_zret h rfl (by decide) d_M_sub_33
    · refine J_aload_n (q := 0) h d_M_sub_34 rfl rfl ?_
      refine J_getf h 0 (wM_0 ad cA σ) (tb_ups in_M) rfl 5 (by decide) (tb_up q_4_87) rfl d_M_sub_35 ?_
      refine J_iload_n (q := 2) h d_M_sub_38 rfl rfl ?_
      refine J_iald h 5 4 (wM_5 ad cA σ) rfl d_M_sub_39 ?_
      refine J_bipush (v := 6) h d_M_sub_40 (by decide) ?_
      refine J_icmp_eq (tgt := 65) h d_M_sub_42 (by decide) ?_ ?_
      · refine J_iconst (v := 0) h d_M_sub_65 (by decide) ?_
        exact J_zret h rfl (by decide) d_M_sub_66
      · refine J_aload_n (q := 0) h d_M_sub_45 rfl rfl ?_
        refine J_getf h 0 (wM_0 ad cA σ) (tb_ups in_M) rfl 5 (by decide) (tb_up q_4_87) rfl d_M_sub_46 ?_
        refine J_iload_n (q := 1) h d_M_sub_49 rfl rfl ?_
        refine J_iald h 5 4 (wM_5 ad cA σ) rfl d_M_sub_50 ?_
        refine J_iconst (v := 5) h d_M_sub_51 (by decide) ?_
        refine J_icmp_eq (tgt := 65) h d_M_sub_52 (by decide) ?_ ?_
        · refine J_iconst (v := 0) h d_M_sub_65 (by decide) ?_
          exact J_zret h rfl (by decide) d_M_sub_66
        · refine J_aload_n (q := 0) h d_M_sub_55 rfl rfl ?_
          refine J_getf h 0 (wM_0 ad cA σ) (tb_ups in_M) rfl 5 (by decide) (tb_up q_4_87) rfl d_M_sub_56 ?_
          refine J_iload_n (q := 2) h d_M_sub_59 rfl rfl ?_
          refine J_iald h 5 4 (wM_5 ad cA σ) rfl d_M_sub_60 ?_
          refine J_iconst (v := 5) h d_M_sub_61 (by decide) ?_
          refine J_icmp_ne (tgt := 67) h d_M_sub_62 (by decide) ?_ ?_
          · refine J_iconst (v := 0) h d_M_sub_65 (by decide) ?_
            exact J_zret h rfl (by decide) d_M_sub_66
          · refine J_aload_n (q := 0) h d_M_sub_67 rfl rfl ?_
            refine J_getf h 0 (wM_0 ad cA σ) (tb_ups in_M) rfl 5 (by decide) (tb_up q_4_87) rfl d_M_sub_68 ?_
            refine J_iload_n (q := 1) h d_M_sub_71 rfl rfl ?_
            refine J_iald h 5 4 (wM_5 ad cA σ) rfl d_M_sub_72 ?_
            refine J_bipush (v := 7) h d_M_sub_73 (by decide) ?_
            refine J_icmp_eq (tgt := 89) h d_M_sub_75 (by decide) ?_ ?_
            · exact J_M_M_sub_b89 K D A ad cA N h x1 x2 σ
            · refine J_aload_n (q := 0) h d_M_sub_78 rfl rfl ?_
              refine J_getf h 0 (wM_0 ad cA σ) (tb_ups in_M) rfl 5 (by decide) (tb_up q_4_87) rfl d_M_sub_79 ?_
              refine J_iload_n (q := 2) h d_M_sub_82 rfl rfl ?_
              refine J_iald h 5 4 (wM_5 ad cA σ) rfl d_M_sub_83 ?_
              refine J_bipush (v := 7) h d_M_sub_84 (by decide) ?_
              refine J_icmp_ne (tgt := 96) h d_M_sub_86 (by decide) ?_ ?_
              · exact J_M_M_sub_b89 K D A ad cA N h x1 x2 σ
              · refine J_aload_n (q := 0) h d_M_sub_96 rfl rfl ?_
                refine J_getf h 0 (wM_0 ad cA σ) (tb_ups in_M) rfl 5 (by decide) (tb_up q_4_87) rfl d_M_sub_97 ?_
                refine J_iload_n (q := 2) h d_M_sub_100 rfl rfl ?_
                refine J_iald h 5 4 (wM_5 ad cA σ) rfl d_M_sub_101 ?_
                refine J_if_ne (tgt := 135) h d_M_sub_102 (by decide) ?_ ?_
                · refine J_aload_n (q := 0) h d_M_sub_105 rfl rfl ?_
                  refine J_getf h 0 (wM_0 ad cA σ) (tb_ups in_M) rfl 6 (by decide) (tb_up q_4_88) rfl d_M_sub_106 ?_
                  refine J_iload_n (q := 2) h d_M_sub_109 rfl rfl ?_
                  refine J_iald h 6 5 (wM_6 ad cA σ) rfl d_M_sub_110 ?_
                  refine J_if_eq (tgt := 129) h d_M_sub_111 (by decide) ?_ ?_
                  · refine J_iconst (v := 1) h d_M_sub_129 (by decide) ?_
                    refine J_goto (tgt := 134) h d_M_sub_130 (by decide) ?_
                    exact J_zret h rfl (by decide) d_M_sub_134
                  · refine J_aload_n (q := 0) h d_M_sub_114 rfl rfl ?_
                    refine J_iload_n (q := 1) h d_M_sub_115 rfl rfl ?_
                    refine J_aload_n (q := 0) h d_M_sub_116 rfl rfl ?_
                    refine J_getf h 0 (wM_0 ad cA σ) (tb_ups in_M) rfl 6 (by decide) (tb_up q_4_88) rfl d_M_sub_117 ?_
                    refine J_iload_n (q := 2) h d_M_sub_120 rfl rfl ?_
                    refine J_iald h 6 5 (wM_6 ad cA σ) rfl d_M_sub_121 ?_
                    refine J_callVi (As := [.int x1, .int (aM_M_one σ x2.toNatClampNeg)]) (st := []) (rmc := rM_M_aboveOf) (q0 := 0) h (fun _ _ hf => cM_M_aboveOf (jl K) D ad cA N x1 (aM_M_one σ x2.toNatClampNeg) σ _ _ hf) (gd_V q_5_118 q_5_120 q_s_35 q_1_12 q_5_121) rfl ⟨rfl, rfl⟩ dd_M_aboveOf ⟨Nat.le_of_ble_eq_true rfl, Nat.le_of_ble_eq_true rfl⟩ rfl rfl (wM_0 ad cA σ) rfl rfl (Nat.le_of_ble_eq_true rfl) ⟨Nat.zero_le _, Nat.zero_le _⟩ d_M_sub_122 (fun r3 σ4 => ?_)
                    refine J_iconst (v := (-1)) h d_M_sub_125 (by decide) ?_
                    refine J_icmp_eq (tgt := 133) h d_M_sub_126 (by decide) ?_ ?_
                    · refine J_iconst (v := 0) h d_M_sub_133 (by decide) ?_
                      exact J_zret h rfl (by decide) d_M_sub_134
                    · refine J_iconst (v := 1) h d_M_sub_129 (by decide) ?_
                      refine J_goto (tgt := 134) h d_M_sub_130 (by decide) ?_
                      exact J_zret h rfl (by decide) d_M_sub_134
                · refine J_aload_n (q := 0) h d_M_sub_135 rfl rfl ?_
                  refine J_getf h 0 (wM_0 ad cA σ) (tb_ups in_M) rfl 5 (by decide) (tb_up q_4_87) rfl d_M_sub_136 ?_
                  refine J_iload_n (q := 2) h d_M_sub_139 rfl rfl ?_
                  refine J_iald h 5 4 (wM_5 ad cA σ) rfl d_M_sub_140 ?_
                  refine J_iconst (v := 1) h d_M_sub_141 (by decide) ?_
                  refine J_icmp_ne (tgt := 229) h d_M_sub_142 (by decide) ?_ ?_
                  · refine J_aload_n (q := 0) h d_M_sub_145 rfl rfl ?_
                    refine J_iload_n (q := 1) h d_M_sub_146 rfl rfl ?_
                    refine J_aload_n (q := 0) h d_M_sub_147 rfl rfl ?_
                    refine J_getf h 0 (wM_0 ad cA σ) (tb_ups in_M) rfl 6 (by decide) (tb_up q_4_88) rfl d_M_sub_148 ?_
                    refine J_iload_n (q := 2) h d_M_sub_151 rfl rfl ?_
                    refine J_iald h 6 5 (wM_6 ad cA σ) rfl d_M_sub_152 ?_
                    refine J_callVi (As := [.int x1, .int (aM_M_one σ x2.toNatClampNeg)]) (st := []) (rmc := rM_M_aboveOf) (q0 := 0) h (fun _ _ hf => cM_M_aboveOf (jl K) D ad cA N x1 (aM_M_one σ x2.toNatClampNeg) σ _ _ hf) (gd_V q_5_118 q_5_120 q_s_35 q_1_12 q_5_121) rfl ⟨rfl, rfl⟩ dd_M_aboveOf ⟨Nat.le_of_ble_eq_true rfl, Nat.le_of_ble_eq_true rfl⟩ rfl rfl (wM_0 ad cA σ) rfl rfl (Nat.le_of_ble_eq_true rfl) ⟨Nat.zero_le _, Nat.zero_le _⟩ d_M_sub_153 (fun r5 σ6 => ?_)
                    refine J_istore_n (lv' := [(3, .int r5), (0, .ref (ad 0)), (1, .int x1), (2, .int x2)]) h d_M_sub_156 rfl (by decide) rfl ?_
                    refine J_iload_n (q := 0) h d_M_sub_157 rfl rfl ?_
                    refine J_iconst (v := (-1)) h d_M_sub_158 (by decide) ?_
                    refine J_icmp_eq (tgt := 172) h d_M_sub_159 (by decide) ?_ ?_
                    · refine J_iconst (v := 0) h d_M_sub_172 (by decide) ?_
                      exact J_zret h rfl (by decide) d_M_sub_173
                    · refine J_aload_n (q := 1) h d_M_sub_162 rfl rfl ?_
                      refine J_getf h 0 (wM_0 ad cA σ6) (tb_ups in_M) rfl 5 (by decide) (tb_up q_4_87) rfl d_M_sub_163 ?_
                      refine J_iload_n (q := 0) h d_M_sub_166 rfl rfl ?_
                      refine J_iald h 5 4 (wM_5 ad cA σ6) rfl d_M_sub_167 ?_
                      refine J_iconst (v := 1) h d_M_sub_168 (by decide) ?_
                      refine J_icmp_eq (tgt := 174) h d_M_sub_169 (by decide) ?_ ?_
                      · refine J_aload_n (q := 1) h d_M_sub_174 rfl rfl ?_
                        refine J_iconst (v := 2) h d_M_sub_175 (by decide) ?_
                        refine J_aload_n (q := 1) h d_M_sub_176 rfl rfl ?_
                        refine J_getf h 0 (wM_0 ad cA σ6) (tb_ups in_M) rfl 7 (by decide) (tb_up q_4_89) rfl d_M_sub_177 ?_
                        refine J_iload_n (q := 0) h d_M_sub_180 rfl rfl ?_
                        refine J_iald h 7 6 (wM_7 ad cA σ6) rfl d_M_sub_181 ?_
                        refine J_aload_n (q := 1) h d_M_sub_182 rfl rfl ?_
                        refine J_getf h 0 (wM_0 ad cA σ6) (tb_ups in_M) rfl 7 (by decide) (tb_up q_4_89) rfl d_M_sub_183 ?_
                        refine J_iload_n (q := 3) h d_M_sub_186 rfl rfl ?_
                        refine J_iald h 7 6 (wM_7 ad cA σ6) rfl d_M_sub_187 ?_
                        refine J_callVi (As := [.int 2, .int (aM_M_two σ6 r5.toNatClampNeg), .int (aM_M_two σ6 x2.toNatClampNeg)]) (st := []) (rmc := rM_M_then) (q0 := 0) h (fun _ _ hf => cM_M_then (jl K) D ad cA 2 (aM_M_two σ6 r5.toNatClampNeg) (aM_M_two σ6 x2.toNatClampNeg) σ6 _ _ hf) (gd_V q_5_173 q_5_175 q_s_47 q_1_12 q_5_176) rfl ⟨rfl, rfl⟩ dd_M_then ⟨Nat.le_of_ble_eq_true rfl, Nat.le_of_ble_eq_true rfl⟩ rfl rfl (wM_0 ad cA σ6) rfl rfl (Nat.le_of_ble_eq_true rfl) ⟨Nat.zero_le _, Nat.zero_le _⟩ d_M_sub_188 (fun r7 σ8 => ?_)
                        refine J_istore (lv' := [(4, .int r7), (3, .int r5), (0, .ref (ad 0)), (1, .int x1), (2, .int x2)]) h d_M_sub_191 (by decide) rfl ?_
                        refine J_aload_n (q := 2) h d_M_sub_193 rfl rfl ?_
                        refine J_getf h 0 (wM_0 ad cA σ8) (tb_ups in_M) rfl 8 (by decide) (tb_up q_4_90) rfl d_M_sub_194 ?_
                        refine J_iload_n (q := 4) h d_M_sub_197 rfl rfl ?_
                        refine J_iald h 8 7 (wM_8 ad cA σ8) rfl d_M_sub_198 ?_
                        refine J_iconst (v := (-1)) h d_M_sub_199 (by decide) ?_
                        refine J_icmp_eq (tgt := 223) h d_M_sub_200 (by decide) ?_ ?_
                        · refine J_iconst (v := 1) h d_M_sub_223 (by decide) ?_
                          refine J_goto (tgt := 228) h d_M_sub_224 (by decide) ?_
                          exact J_zret h rfl (by decide) d_M_sub_228
                        · refine J_aload_n (q := 2) h d_M_sub_203 rfl rfl ?_
                          refine J_iconst (v := 2) h d_M_sub_204 (by decide) ?_
                          refine J_aload_n (q := 2) h d_M_sub_205 rfl rfl ?_
                          refine J_getf h 0 (wM_0 ad cA σ8) (tb_ups in_M) rfl 8 (by decide) (tb_up q_4_90) rfl d_M_sub_206 ?_
                          refine J_iload_n (q := 1) h d_M_sub_209 rfl rfl ?_
                          refine J_iald h 8 7 (wM_8 ad cA σ8) rfl d_M_sub_210 ?_
                          refine J_aload_n (q := 2) h d_M_sub_211 rfl rfl ?_
                          refine J_getf h 0 (wM_0 ad cA σ8) (tb_ups in_M) rfl 8 (by decide) (tb_up q_4_90) rfl d_M_sub_212 ?_
                          refine J_iload_n (q := 4) h d_M_sub_215 rfl rfl ?_
                          refine J_iald h 8 7 (wM_8 ad cA σ8) rfl d_M_sub_216 ?_
                          refine J_callVi (As := [.int 2, .int (aM_M_three σ8 r5.toNatClampNeg), .int (aM_M_three σ8 x2.toNatClampNeg)]) (st := []) (rmc := rM_M_then) (q0 := 0) h (fun _ _ hf => cM_M_then (jl K) D ad cA 2 (aM_M_three σ8 r5.toNatClampNeg) (aM_M_three σ8 x2.toNatClampNeg) σ8 _ _ hf) (gd_V q_5_173 q_5_175 q_s_47 q_1_12 q_5_176) rfl ⟨rfl, rfl⟩ dd_M_then ⟨Nat.le_of_ble_eq_true rfl, Nat.le_of_ble_eq_true rfl⟩ rfl rfl (wM_0 ad cA σ8) rfl rfl (Nat.le_of_ble_eq_true rfl) ⟨Nat.zero_le _, Nat.zero_le _⟩ d_M_sub_217 (fun r9 σ10 => ?_)
                          refine J_if_eq (tgt := 227) h d_M_sub_220 (by decide) ?_ ?_
                          · refine J_iconst (v := 0) h d_M_sub_227 (by decide) ?_
                            exact J_zret h rfl (by decide) d_M_sub_228
                          · refine J_iconst (v := 1) h d_M_sub_223 (by decide) ?_
                            refine J_goto (tgt := 228) h d_M_sub_224 (by decide) ?_
                            exact J_zret h rfl (by decide) d_M_sub_228
                      · refine J_iconst (v := 0) h d_M_sub_172 (by decide) ?_
                        exact J_zret h rfl (by decide) d_M_sub_173
                  · refine J_aload_n (q := 0) h d_M_sub_229 rfl rfl ?_
                    refine J_getf h 0 (wM_0 ad cA σ) (tb_ups in_M) rfl 5 (by decide) (tb_up q_4_87) rfl d_M_sub_230 ?_
                    refine J_iload_n (q := 2) h d_M_sub_233 rfl rfl ?_
                    refine J_iald h 5 4 (wM_5 ad cA σ) rfl d_M_sub_234 ?_
                    refine J_iconst (v := 4) h d_M_sub_235 (by decide) ?_
                    refine J_icmp_ne (tgt := 332) h d_M_sub_236 (by decide) ?_ ?_
                    · refine J_aload_n (q := 0) h d_M_sub_239 rfl rfl ?_
                      refine J_getf h 0 (wM_0 ad cA σ) (tb_ups in_M) rfl 5 (by decide) (tb_up q_4_87) rfl d_M_sub_240 ?_
                      refine J_iload_n (q := 1) h d_M_sub_243 rfl rfl ?_
                      refine J_iald h 5 4 (wM_5 ad cA σ) rfl d_M_sub_244 ?_
                      refine J_iconst (v := 4) h d_M_sub_245 (by decide) ?_
                      refine J_icmp_eq (tgt := 251) h d_M_sub_246 (by decide) ?_ ?_
                      · refine J_aload_n (q := 0) h d_M_sub_251 rfl rfl ?_
                        refine J_getf h 0 (wM_0 ad cA σ) (tb_ups in_M) rfl 5 (by decide) (tb_up q_4_87) rfl d_M_sub_252 ?_
                        refine J_aload_n (q := 0) h d_M_sub_255 rfl rfl ?_
                        refine J_getf h 0 (wM_0 ad cA σ) (tb_ups in_M) rfl 6 (by decide) (tb_up q_4_88) rfl d_M_sub_256 ?_
                        refine J_iload_n (q := 1) h d_M_sub_259 rfl rfl ?_
                        refine J_iald h 6 5 (wM_6 ad cA σ) rfl d_M_sub_260 ?_
                        refine J_iald h 5 4 (wM_5 ad cA σ) rfl d_M_sub_261 ?_
                        refine J_iconst (v := 5) h d_M_sub_262 (by decide) ?_
                        refine J_icmp_eq (tgt := 281) h d_M_sub_263 (by decide) ?_ ?_
                        · exact J_M_M_sub_b281 K D A ad cA N h x1 x2 σ
                        · refine J_aload_n (q := 0) h d_M_sub_266 rfl rfl ?_
                          refine J_getf h 0 (wM_0 ad cA σ) (tb_ups in_M) rfl 5 (by decide) (tb_up q_4_87) rfl d_M_sub_267 ?_
                          refine J_aload_n (q := 0) h d_M_sub_270 rfl rfl ?_
                          refine J_getf h 0 (wM_0 ad cA σ) (tb_ups in_M) rfl 6 (by decide) (tb_up q_4_88) rfl d_M_sub_271 ?_
                          refine J_iload_n (q := 2) h d_M_sub_274 rfl rfl ?_
                          refine J_iald h 6 5 (wM_6 ad cA σ) rfl d_M_sub_275 ?_
                          refine J_iald h 5 4 (wM_5 ad cA σ) rfl d_M_sub_276 ?_
                          refine J_iconst (v := 5) h d_M_sub_277 (by decide) ?_
                          refine J_icmp_ne (tgt := 285) h d_M_sub_278 (by decide) ?_ ?_
                          · exact J_M_M_sub_b281 K D A ad cA N h x1 x2 σ
                          · refine J_iconst (v := 0) h d_M_sub_285 (by decide) ?_
                            exact J_M_M_sub_b286 K D A ad cA N h x1 x2 0 σ
                      · refine J_iconst (v := 0) h d_M_sub_249 (by decide) ?_
                        exact J_zret h rfl (by decide) d_M_sub_250
                    · refine J_aload_n (q := 0) h d_M_sub_332 rfl rfl ?_
                      refine J_getf h 0 (wM_0 ad cA σ) (tb_ups in_M) rfl 5 (by decide) (tb_up q_4_87) rfl d_M_sub_333 ?_
                      refine J_iload_n (q := 2) h d_M_sub_336 rfl rfl ?_
                      refine J_iald h 5 4 (wM_5 ad cA σ) rfl d_M_sub_337 ?_
                      refine J_bipush (v := 8) h d_M_sub_338 (by decide) ?_
                      refine J_icmp_ne (tgt := 409) h d_M_sub_340 (by decide) ?_ ?_
                      · refine J_aload_n (q := 0) h d_M_sub_343 rfl rfl ?_
                        refine J_getf h 0 (wM_0 ad cA σ) (tb_ups in_M) rfl 7 (by decide) (tb_up q_4_89) rfl d_M_sub_344 ?_
                        refine J_iload_n (q := 2) h d_M_sub_347 rfl rfl ?_
                        refine J_iald h 7 6 (wM_7 ad cA σ) rfl d_M_sub_348 ?_
                        refine J_if_ne (tgt := 366) h d_M_sub_349 (by decide) ?_ ?_
                        · refine J_aload_n (q := 0) h d_M_sub_352 rfl rfl ?_
                          refine J_getf h 0 (wM_0 ad cA σ) (tb_ups in_M) rfl 7 (by decide) (tb_up q_4_89) rfl d_M_sub_353 ?_
                          refine J_aload_n (q := 0) h d_M_sub_356 rfl rfl ?_
                          refine J_getf h 0 (wM_0 ad cA σ) (tb_ups in_M) rfl 6 (by decide) (tb_up q_4_88) rfl d_M_sub_357 ?_
                          refine J_iload_n (q := 2) h d_M_sub_360 rfl rfl ?_
                          refine J_iald h 6 5 (wM_6 ad cA σ) rfl d_M_sub_361 ?_
                          refine J_iald h 7 6 (wM_7 ad cA σ) rfl d_M_sub_362 ?_
                          refine J_goto (tgt := 377) h d_M_sub_363 (by decide) ?_
                          refine J_sub [0, 1] rfl ?_
                          exact J_M_M_sub_b377 K D A ad cA N h x1 (aM_M_two σ (aM_M_one σ x2.toNatClampNeg).toNatClampNeg) σ
                        · refine J_aload_n (q := 0) h d_M_sub_366 rfl rfl ?_
                          refine J_getf h 0 (wM_0 ad cA σ) (tb_ups in_M) rfl 8 (by decide) (tb_up q_4_90) rfl d_M_sub_367 ?_
                          refine J_aload_n (q := 0) h d_M_sub_370 rfl rfl ?_
                          refine J_getf h 0 (wM_0 ad cA σ) (tb_ups in_M) rfl 6 (by decide) (tb_up q_4_88) rfl d_M_sub_371 ?_
                          refine J_iload_n (q := 2) h d_M_sub_374 rfl rfl ?_
                          refine J_iald h 6 5 (wM_6 ad cA σ) rfl d_M_sub_375 ?_
                          refine J_iald h 8 7 (wM_8 ad cA σ) rfl d_M_sub_376 ?_
                          refine J_sub [0, 1] rfl ?_
                          exact J_M_M_sub_b377 K D A ad cA N h x1 (aM_M_three σ (aM_M_one σ x2.toNatClampNeg).toNatClampNeg) σ
                      · refine J_iconst (v := 0) h d_M_sub_409 (by decide) ?_
                        exact J_zret h rfl (by decide) d_M_sub_410
set_option maxRecDepth 100000 in
theorem cM_M_sub (l : Launch) (D : va_G) (ad : Nat → Nat) (cA : Nat → ClassId) (N : Nat) (x1 : Int32) (x2 : Int32) (σ : SM) (r : Int32) (σ' : SM) (hf : M_M_sub N x1 x2 σ = some (r, σ')) : MetI l y_M_sub ((Cond.code y_M_sub b_M_sub 5 (some .boolean)) :: tblG) rM_M_sub D clM (tysM cA) (wM ad cA) [.ref (ad 0), .int x1, .int x2] σ r σ' :=
  jx_metI (by decide) rfl (Nat.le_of_ble_eq_true rfl) (fun K A h => J_M_M_sub K D A ad cA N h x1 x2 σ) hf
