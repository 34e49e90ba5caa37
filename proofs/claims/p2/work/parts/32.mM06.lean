def rM_M_isThere : Room := { frames := 2, cells := 0, slots := 0, locals := 46 }
theorem rm_ok_M_M_isThere : rM_M_isThere.cells = 0 ∧ rM_M_isThere.slots = 0 := ⟨rfl, rfl⟩
def M_M_isThere_b35 (N : Nat) (k11 : Int32 → Int32 → Int32 → SM → Option (Int32 × SM)) (v1 : Int32) (v3 : Int32) (s0 : Int32) (σ : SM) : Option (Int32 × SM) := (nm (v3 + 1) (fun (y6 : Int32) => (k11 v1 s0 y6 σ)))
set_option maxRecDepth 100000 in
set_option maxHeartbeats 4000000 in
theorem J_M_M_isThere_b35 (K : jx_E) (D : va_G) (A : Nat → Prop) (ad : Nat → Nat) (cA : Nat → ClassId) (N : Nat) (h : jx_ok K D clM (tysM cA) A 4 b_M_isThere y_M_isThere.cls ((Cond.code y_M_isThere b_M_isThere 4 (some .boolean)) :: tblG) rM_M_isThere (some .boolean)) (k11 : Int32 → Int32 → Int32 → SM → Option (Int32 × SM)) (hk11 : ∀ (v1 : Int32) (v2 : Int32) (v3 : Int32) (σ : SM), J K D clM A 4 (wM ad cA) (jx_Qi K D clM (tysM cA) (wM ad cA) A) 0 0 11 [(0, .ref (ad 0)), (1, .int v1), (2, .int v2), (3, .int v3)] [] σ (k11 v1 v2 v3 σ)) : ∀ (v1 : Int32) (v3 : Int32) (s0 : Int32) (σ : SM), J K D clM A 4 (wM ad cA) (jx_Qi K D clM (tysM cA) (wM ad cA) A) 0 0 35 [(0, .ref (ad 0)), (1, .int v1), (3, .int v3)] [.int s0] σ (M_M_isThere_b35 N k11 v1 v3 s0 σ) := by
  intro v1 v3 s0 σ
  rw [M_M_isThere_b35]
  refine J_istore_n (lv' := [(2, .int s0), (0, .ref (ad 0)), (1, .int v1), (3, .int v3)]) h d_M_isThere_35 rfl (by decide) rfl ?_
  refine J_iinc (q := 3) (c := 1) (lv' := fun y6 => [(3, .int y6), (2, .int s0), (0, .ref (ad 0)), (1, .int v1)]) h d_M_isThere_36 rfl (by decide) (by decide) (fun _ => rfl) (fun y6 => ?_)
  refine J_goto (tgt := 11) h d_M_isThere_39 (by decide) ?_
  refine J_sub [2, 3, 1, 0] rfl ?_
  exact hk11 v1 s0 y6 σ
def M_M_isThere_L11 (N : Nat) : Nat → Int32 → Int32 → Int32 → SM → Option (Int32 × SM)
  | 0, _, _, _, _ => none
  | n + 1, v1, v2, v3, σ => (if (12 : Int32) ≤ v3 then (if zb v2 = true then some (v2, σ) else none) else (if v2 = 0 then (if zb v2 = true then some (v2, σ) else none) else (bd (M_M_isIn N v3 v1 σ) (fun (r4 : Int32) (σ5 : SM) => (if r4 = 0 then (M_M_isThere_b35 N (M_M_isThere_L11 N  n) v1 v3 1 σ5) else (M_M_isThere_b35 N (M_M_isThere_L11 N  n) v1 v3 0 σ5))))))
set_option maxRecDepth 100000 in
set_option maxHeartbeats 4000000 in
theorem J_M_M_isThere_L11 (K : jx_E) (D : va_G) (A : Nat → Prop) (ad : Nat → Nat) (cA : Nat → ClassId) (N : Nat) (h : jx_ok K D clM (tysM cA) A 4 b_M_isThere y_M_isThere.cls ((Cond.code y_M_isThere b_M_isThere 4 (some .boolean)) :: tblG) rM_M_isThere (some .boolean)) : ∀ (n : Nat) (v1 : Int32) (v2 : Int32) (v3 : Int32) (σ : SM), J K D clM A 4 (wM ad cA) (jx_Qi K D clM (tysM cA) (wM ad cA) A) 0 0 11 [(0, .ref (ad 0)), (1, .int v1), (2, .int v2), (3, .int v3)] [] σ (M_M_isThere_L11 N n v1 v2 v3 σ) := by
  intro n
  induction n with
  | zero => intro v1 v2 v3 σ; exact J_none
  | succ n ih =>
    intro v1 v2 v3 σ
    rw [M_M_isThere_L11]
    refine J_iload_n (q := 3) h d_M_isThere_11 rfl rfl ?_
    refine J_bipush (v := 12) h d_M_isThere_12 (by decide) ?_
    refine J_icmp_ge (tgt := 42) h d_M_isThere_14 (by decide) ?_ ?_
    · refine J_iload_n (q := 2) h d_M_isThere_42 rfl rfl ?_
      exact J_zretc h rfl d_M_isThere_43
    · refine J_iload_n (q := 2) h d_M_isThere_17 rfl rfl ?_
      refine J_if_eq (tgt := 42) h d_M_isThere_18 (by decide) ?_ ?_
      · refine J_iload_n (q := 2) h d_M_isThere_42 rfl rfl ?_
        exact J_zretc h rfl d_M_isThere_43
      · refine J_aload_n (q := 0) h d_M_isThere_21 rfl rfl ?_
        refine J_iload_n (q := 3) h d_M_isThere_22 rfl rfl ?_
        refine J_iload_n (q := 1) h d_M_isThere_23 rfl rfl ?_
        refine J_callVi (As := [.int v3, .int v1]) (st := []) (rmc := rM_M_isIn) (q0 := 0) h (fun _ _ hf => cM_M_isIn (jl K) D ad cA N v3 v1 σ _ _ hf) (gd_V q_5_146 q_5_148 q_s_41 q_1_12 q_5_149) rfl ⟨rfl, rfl⟩ dd_M_isIn ⟨Nat.le_of_ble_eq_true rfl, Nat.le_of_ble_eq_true rfl⟩ rfl rfl (wM_0 ad cA σ) rfl rfl (Nat.le_of_ble_eq_true rfl) ⟨Nat.zero_le _, Nat.zero_le _⟩ d_M_isThere_24 (fun r4 σ5 => ?_)
        refine J_if_ne (tgt := 34) h d_M_isThere_27 (by decide) ?_ ?_
        · refine J_iconst (v := 1) h d_M_isThere_30 (by decide) ?_
          refine J_goto (tgt := 35) h d_M_isThere_31 (by decide) ?_
          refine J_sub [0, 1, 3] rfl ?_
          exact J_M_M_isThere_b35 K D A ad cA N h (M_M_isThere_L11 N  n) ih v1 v3 1 σ5
        · refine J_iconst (v := 0) h d_M_isThere_34 (by decide) ?_
          refine J_sub [0, 1, 3] rfl ?_
          exact J_M_M_isThere_b35 K D A ad cA N h (M_M_isThere_L11 N  n) ih v1 v3 0 σ5
def M_M_isThere (N : Nat) (x1 : Int32) (σ : SM) : Option (Int32 × SM) := (bd (M_M_isType x1 σ) (fun (r1 : Int32) (σ2 : SM) => (nm ((gM_M_variables σ2)) (fun (y3 : Int32) => (M_M_isThere_L11 N N x1 r1 y3 σ2)))))
set_option maxRecDepth 100000 in
set_option maxHeartbeats 4000000 in
theorem J_M_M_isThere (K : jx_E) (D : va_G) (A : Nat → Prop) (ad : Nat → Nat) (cA : Nat → ClassId) (N : Nat) (h : jx_ok K D clM (tysM cA) A 4 b_M_isThere y_M_isThere.cls ((Cond.code y_M_isThere b_M_isThere 4 (some .boolean)) :: tblG) rM_M_isThere (some .boolean)) : ∀ (x1 : Int32) (σ : SM), J K D clM A 4 (wM ad cA) (jx_Qi K D clM (tysM cA) (wM ad cA) A) 0 0 0 [(0, .ref (ad 0)), (1, .int x1)] [] σ (M_M_isThere N x1 σ) := by
  intro x1 σ
  rw [M_M_isThere]
  refine J_aload_n (q := 0) h d_M_isThere_0 rfl rfl ?_
  refine J_iload_n (q := 1) h d_M_isThere_1 rfl rfl ?_
  refine J_callVi (As := [.int x1]) (st := []) (rmc := rM_M_isType) (q0 := 0) h (fun _ _ hf => cM_M_isType (jl K) D ad cA x1 σ _ _ hf) (gd_V q_5_54 q_5_56 q_s_28 q_1_12 q_5_57) rfl ⟨rfl, rfl⟩ dd_M_isType ⟨Nat.le_of_ble_eq_true rfl, Nat.le_of_ble_eq_true rfl⟩ rfl rfl (wM_0 ad cA σ) rfl rfl (Nat.le_of_ble_eq_true rfl) ⟨Nat.zero_le _, Nat.zero_le _⟩ d_M_isThere_2 (fun r1 σ2 => ?_)
  refine J_istore_n (lv' := [(2, .int r1), (0, .ref (ad 0)), (1, .int x1)]) h d_M_isThere_5 rfl (by decide) rfl ?_
  refine J_aload_n (q := 1) h d_M_isThere_6 rfl rfl ?_
  refine J_getf h 0 (wM_0 ad cA σ2) (tb_ups in_M) rfl 17 (by decide) (tb_up q_4_99) rfl d_M_isThere_7 ?_
  refine J_nmi (fun y3 => ?_)
  refine J_istore_n (lv' := [(3, .int y3), (2, .int r1), (0, .ref (ad 0)), (1, .int x1)]) h d_M_isThere_10 rfl (by decide) rfl ?_
  refine J_sub [2, 3, 1, 0] rfl ?_
  exact J_M_M_isThere_L11 K D A ad cA N h N x1 r1 y3 σ2
set_option maxRecDepth 100000 in
theorem cM_M_isThere (l : Launch) (D : va_G) (ad : Nat → Nat) (cA : Nat → ClassId) (N : Nat) (x1 : Int32) (σ : SM) (r : Int32) (σ' : SM) (hf : M_M_isThere N x1 σ = some (r, σ')) : MetI l y_M_isThere ((Cond.code y_M_isThere b_M_isThere 4 (some .boolean)) :: tblG) rM_M_isThere D clM (tysM cA) (wM ad cA) [.ref (ad 0), .int x1] σ r σ' :=
  jx_metI (by decide) rfl (Nat.le_of_ble_eq_true rfl) (fun K A h => J_M_M_isThere K D A ad cA N h x1 σ) hf
def rM_M_begin : Room := { frames := 0, cells := 0, slots := 0, locals := 0 }
theorem rm_ok_M_M_begin : rM_M_begin.cells = 0 ∧ rM_M_begin.slots = 0 := ⟨rfl, rfl⟩
def M_M_begin (x1 : Int32) (σ : SM) : Option (Unit × SM) := (nm (sM_M_inCall σ 0) (fun (σ1 : SM) => (nm (sM_M_judging σ1 0) (fun (σ2 : SM) => (nm (sM_M_isUnchecked σ2 0) (fun (σ3 : SM) => (nm (sM_M_origin σ3 x1) (fun (σ4 : SM) => (nm (sM_M_full σ4 0) (fun (σ5 : SM) => (some ((), σ5))))))))))))
set_option maxRecDepth 100000 in
set_option maxHeartbeats 4000000 in
theorem J_M_M_begin (K : jx_E) (D : va_G) (A : Nat → Prop) (ad : Nat → Nat) (cA : Nat → ClassId) (h : jx_ok K D clM (tysM cA) A 2 b_M_begin y_M_begin.cls ((Cond.code y_M_begin b_M_begin 2 none) :: tblG) rM_M_begin none) : ∀ (x1 : Int32) (σ : SM), J K D clM A 2 (wM ad cA) (jx_Qv K D clM (tysM cA) (wM ad cA) A) 0 0 0 [(0, .ref (ad 0)), (1, .int x1)] [] σ (M_M_begin x1 σ) := by
  intro x1 σ
  rw [M_M_begin]
  refine J_aload_n (q := 0) h d_M_begin_0 rfl rfl ?_
  refine J_iconst (v := 0) h d_M_begin_1 (by decide) ?_
  refine J_putf h 0 (wM_0 ad cA σ) (tb_ups in_M) rfl ft_M ft_M_ok nm_M 35 (by decide) (tb_up q_4_117) rfl rfl rfl (Nat.le_of_ble_eq_true rfl) (pM_0_35 ad cA σ 0) d_M_begin_2 (fun σ1 => ?_)
  refine J_aload_n (q := 0) h d_M_begin_5 rfl rfl ?_
  refine J_iconst (v := 0) h d_M_begin_6 (by decide) ?_
  refine J_putf h 0 (wM_0 ad cA σ1) (tb_ups in_M) rfl ft_M ft_M_ok nm_M 37 (by decide) (tb_up q_4_119) rfl (by decide) (by decide) (Nat.le_of_ble_eq_true rfl) (pM_0_37 ad cA σ1 0) d_M_begin_7 (fun σ2 => ?_)
  refine J_aload_n (q := 0) h d_M_begin_10 rfl rfl ?_
  refine J_iconst (v := 0) h d_M_begin_11 (by decide) ?_
  refine J_putf h 0 (wM_0 ad cA σ2) (tb_ups in_M) rfl ft_M ft_M_ok nm_M 39 (by decide) (tb_up q_4_121) rfl (by decide) (by decide) (Nat.le_of_ble_eq_true rfl) (pM_0_39 ad cA σ2 0) d_M_begin_12 (fun σ3 => ?_)
  refine J_aload_n (q := 0) h d_M_begin_15 rfl rfl ?_
  refine J_iload_n (q := 1) h d_M_begin_16 rfl rfl ?_
  refine J_putf h 0 (wM_0 ad cA σ3) (tb_ups in_M) rfl ft_M ft_M_ok nm_M 40 (by decide) (tb_up q_4_122) rfl rfl rfl (Nat.le_of_ble_eq_true rfl) (pM_0_40 ad cA σ3 x1) d_M_begin_17 (fun σ4 => ?_)
  refine J_aload_n (q := 0) h d_M_begin_20 rfl rfl ?_
  refine J_iconst (v := 0) h d_M_begin_21 (by decide) ?_
  refine J_putf h 0 (wM_0 ad cA σ4) (tb_ups in_M) rfl ft_M ft_M_ok nm_M 12 (by decide) (tb_up q_4_94) rfl (by decide) (by decide) (Nat.le_of_ble_eq_true rfl) (pM_0_12 ad cA σ4 0) d_M_begin_22 (fun σ5 => ?_)
  exact J_vret h rfl d_M_begin_25
set_option maxRecDepth 100000 in
theorem cM_M_begin (l : Launch) (D : va_G) (ad : Nat → Nat) (cA : Nat → ClassId) (x1 : Int32) (σ : SM) (r : Unit) (σ' : SM) (hf : M_M_begin x1 σ = some (r, σ')) : MetV l y_M_begin ((Cond.code y_M_begin b_M_begin 2 none) :: tblG) rM_M_begin D clM (tysM cA) (wM ad cA) [.ref (ad 0), .int x1] σ r σ' :=
  jx_metV (by decide) rfl (Nat.le_of_ble_eq_true rfl) (fun K A h => J_M_M_begin K D A ad cA h x1 σ) hf
def rM_M_settle : Room := { frames := 0, cells := 0, slots := 0, locals := 0 }
theorem rm_ok_M_M_settle : rM_M_settle.cells = 0 ∧ rM_M_settle.slots = 0 := ⟨rfl, rfl⟩
def M_M_settle_b21 (v2 : Int32) (s0 : Int32) (σ : SM) : Option (Unit × SM) := (nm (sM_M_state σ s0) (fun (σ1 : SM) => (if (gM_M_state σ1) = 0 then (nm (sM_M_stateAt σ1 (-1)) (fun (σ2 : SM) => (nm (sM_M_full σ2 0) (fun (σ3 : SM) => (some ((), σ3)))))) else (nm (sM_M_stateAt σ1 v2) (fun (σ4 : SM) => (nm (sM_M_full σ4 0) (fun (σ5 : SM) => (some ((), σ5)))))))))
set_option maxRecDepth 100000 in
set_option maxHeartbeats 4000000 in
theorem J_M_M_settle_b21 (K : jx_E) (D : va_G) (A : Nat → Prop) (ad : Nat → Nat) (cA : Nat → ClassId) (h : jx_ok K D clM (tysM cA) A 3 b_M_settle y_M_settle.cls ((Cond.code y_M_settle b_M_settle 3 none) :: tblG) rM_M_settle none) : ∀ (v2 : Int32) (s0 : Int32) (σ : SM), J K D clM A 3 (wM ad cA) (jx_Qv K D clM (tysM cA) (wM ad cA) A) 0 0 21 [(0, .ref (ad 0)), (2, .int v2)] [.int s0, .ref (ad 0)] σ (M_M_settle_b21 v2 s0 σ) := by
  intro v2 s0 σ
  rw [M_M_settle_b21]
  refine J_putf h 0 (wM_0 ad cA σ) (tb_ups in_M) rfl ft_M ft_M_ok nm_M 56 (by decide) (tb_up q_4_138) rfl rfl rfl (Nat.le_of_ble_eq_true rfl) (pM_0_56 ad cA σ s0) d_M_settle_21 (fun σ1 => ?_)
  refine J_aload_n (q := 0) h d_M_settle_24 rfl rfl ?_
  refine J_aload_n (q := 0) h d_M_settle_25 rfl rfl ?_
  refine J_getf h 0 (wM_0 ad cA σ1) (tb_ups in_M) rfl 56 (by decide) (tb_up q_4_138) rfl d_M_settle_26 ?_
  refine J_if_ne (tgt := 36) h d_M_settle_29 (by decide) ?_ ?_
  · refine J_iconst (v := (-1)) h d_M_settle_32 (by decide) ?_
    refine J_goto (tgt := 37) h d_M_settle_33 (by decide) ?_
    refine J_putf h 0 (wM_0 ad cA σ1) (tb_ups in_M) rfl ft_M ft_M_ok nm_M 57 (by decide) (tb_up q_4_139) rfl rfl rfl (Nat.le_of_ble_eq_true rfl) (pM_0_57 ad cA σ1 (-1)) d_M_settle_37 (fun σ2 => ?_)
    refine J_aload_n (q := 0) h d_M_settle_40 rfl rfl ?_
    refine J_iconst (v := 0) h d_M_settle_41 (by decide) ?_
    refine J_putf h 0 (wM_0 ad cA σ2) (tb_ups in_M) rfl ft_M ft_M_ok nm_M 12 (by decide) (tb_up q_4_94) rfl (by decide) (by decide) (Nat.le_of_ble_eq_true rfl) (pM_0_12 ad cA σ2 0) d_M_settle_42 (fun σ3 => ?_)
    exact J_vret h rfl d_M_settle_45
  · refine J_iload_n (q := 1) h d_M_settle_36 rfl rfl ?_
    refine J_putf h 0 (wM_0 ad cA σ1) (tb_ups in_M) rfl ft_M ft_M_ok nm_M 57 (by decide) (tb_up q_4_139) rfl rfl rfl (Nat.le_of_ble_eq_true rfl) (pM_0_57 ad cA σ1 v2) d_M_settle_37 (fun σ4 => ?_)
    refine J_aload_n (q := 0) h d_M_settle_40 rfl rfl ?_
    refine J_iconst (v := 0) h d_M_settle_41 (by decide) ?_
    refine J_putf h 0 (wM_0 ad cA σ4) (tb_ups in_M) rfl ft_M ft_M_ok nm_M 12 (by decide) (tb_up q_4_94) rfl (by decide) (by decide) (Nat.le_of_ble_eq_true rfl) (pM_0_12 ad cA σ4 0) d_M_settle_42 (fun σ5 => ?_)
    exact J_vret h rfl d_M_settle_45
def M_M_settle (x1 : Int32) (x2 : Int32) (σ : SM) : Option (Unit × SM) := (if (gM_M_full σ) = 0 then (if x1 = 0 then (M_M_settle_b21 x2 1 σ) else (M_M_settle_b21 x2 0 σ)) else (M_M_settle_b21 x2 2 σ))
set_option maxRecDepth 100000 in
set_option maxHeartbeats 4000000 in
theorem J_M_M_settle (K : jx_E) (D : va_G) (A : Nat → Prop) (ad : Nat → Nat) (cA : Nat → ClassId) (h : jx_ok K D clM (tysM cA) A 3 b_M_settle y_M_settle.cls ((Cond.code y_M_settle b_M_settle 3 none) :: tblG) rM_M_settle none) : ∀ (x1 : Int32) (x2 : Int32) (σ : SM), J K D clM A 3 (wM ad cA) (jx_Qv K D clM (tysM cA) (wM ad cA) A) 0 0 0 [(0, .ref (ad 0)), (1, .int x1), (2, .int x2)] [] σ (M_M_settle x1 x2 σ) := by
  intro x1 x2 σ
  rw [M_M_settle]
  refine J_aload_n (q := 0) h d_M_settle_0 rfl rfl ?_
  refine J_aload_n (q := 0) h d_M_settle_1 rfl rfl ?_
  refine J_getf h 0 (wM_0 ad cA σ) (tb_ups in_M) rfl 12 (by decide) (tb_up q_4_94) rfl d_M_settle_2 ?_
  refine J_if_eq (tgt := 12) h d_M_settle_5 (by decide) ?_ ?_
  · refine J_iload_n (q := 1) h d_M_settle_12 rfl rfl ?_
    refine J_if_eq (tgt := 20) h d_M_settle_13 (by decide) ?_ ?_
    · refine J_iconst (v := 1) h d_M_settle_20 (by decide) ?_
      refine J_sub [0, 2] rfl ?_
      exact J_M_M_settle_b21 K D A ad cA h x2 1 σ
    · refine J_iconst (v := 0) h d_M_settle_16 (by decide) ?_
      refine J_goto (tgt := 21) h d_M_settle_17 (by decide) ?_
      refine J_sub [0, 2] rfl ?_
      exact J_M_M_settle_b21 K D A ad cA h x2 0 σ
  · refine J_iconst (v := 2) h d_M_settle_8 (by decide) ?_
    refine J_goto (tgt := 21) h d_M_settle_9 (by decide) ?_
    refine J_sub [0, 2] rfl ?_
    exact J_M_M_settle_b21 K D A ad cA h x2 2 σ
set_option maxRecDepth 100000 in
theorem cM_M_settle (l : Launch) (D : va_G) (ad : Nat → Nat) (cA : Nat → ClassId) (x1 : Int32) (x2 : Int32) (σ : SM) (r : Unit) (σ' : SM) (hf : M_M_settle x1 x2 σ = some (r, σ')) : MetV l y_M_settle ((Cond.code y_M_settle b_M_settle 3 none) :: tblG) rM_M_settle D clM (tysM cA) (wM ad cA) [.ref (ad 0), .int x1, .int x2] σ r σ' :=
  jx_metV (by decide) rfl (Nat.le_of_ble_eq_true rfl) (fun K A h => J_M_M_settle K D A ad cA h x1 x2 σ) hf
def rM_M_formula : Room := { frames := 10, cells := 0, slots := 0, locals := 254 }
theorem rm_ok_M_M_formula : rM_M_formula.cells = 0 ∧ rM_M_formula.slots = 0 := ⟨rfl, rfl⟩
def M_M_formula_b154 (N : Nat) (v4 : Int32) (s0 : Int32) (σ : SM) : Option (Int32 × SM) := (bd (M_M_settle s0 v4 σ) (fun (r15 : Unit) (σ16 : SM) => (some (v4, σ16))))
set_option maxRecDepth 100000 in
set_option maxHeartbeats 4000000 in
theorem J_M_M_formula_b154 (K : jx_E) (D : va_G) (A : Nat → Prop) (ad : Nat → Nat) (cA : Nat → ClassId) (N : Nat) (h : jx_ok K D clM (tysM cA) A 6 b_M_formula y_M_formula.cls ((Cond.code y_M_formula b_M_formula 6 (some .int)) :: tblG) rM_M_formula (some .int)) : ∀ (v4 : Int32) (s0 : Int32) (σ : SM), J K D clM A 6 (wM ad cA) (jx_Qi K D clM (tysM cA) (wM ad cA) A) 0 0 154 [(0, .ref (ad 0)), (4, .int v4)] [.int s0] σ (M_M_formula_b154 N v4 s0 σ) := by
  intro v4 s0 σ
  rw [M_M_formula_b154]
  refine J_istore (lv' := [(5, .int s0), (0, .ref (ad 0)), (4, .int v4)]) h d_M_formula_154 (by decide) rfl ?_
  refine J_aload_n (q := 1) h d_M_formula_156 rfl rfl ?_
  refine J_iload (q := 0) h d_M_formula_157 rfl ?_
  refine J_iload (q := 2) h d_M_formula_159 rfl ?_
  refine J_callVv (As := [.int s0, .int v4]) (st := []) (rmc := rM_M_settle) (q0 := 0) h (fun _ _ hf => cM_M_settle (jl K) D ad cA s0 v4 σ _ _ hf) (gd_V q_5_217 q_5_219 q_s_58 q_1_12 q_5_220) rfl ⟨rfl, rfl⟩ dd_M_settle ⟨Nat.le_of_ble_eq_true rfl, Nat.le_of_ble_eq_true rfl⟩ rfl rfl (wM_0 ad cA σ) rfl rfl (Nat.le_of_ble_eq_true rfl) ⟨Nat.zero_le _, Nat.zero_le _⟩ d_M_formula_161 (fun r15 σ16 => ?_)
  refine J_iload (q := 2) h d_M_formula_164 rfl ?_
  exact J_iret h rfl d_M_formula_166
def M_M_formula_b153 (N : Nat) (v4 : Int32) (σ : SM) : Option (Int32 × SM) := (M_M_formula_b154 N v4 0 σ)
set_option maxRecDepth 100000 in
set_option maxHeartbeats 4000000 in
theorem J_M_M_formula_b153 (K : jx_E) (D : va_G) (A : Nat → Prop) (ad : Nat → Nat) (cA : Nat → ClassId) (N : Nat) (h : jx_ok K D clM (tysM cA) A 6 b_M_formula y_M_formula.cls ((Cond.code y_M_formula b_M_formula 6 (some .int)) :: tblG) rM_M_formula (some .int)) : ∀ (v4 : Int32) (σ : SM), J K D clM A 6 (wM ad cA) (jx_Qi K D clM (tysM cA) (wM ad cA) A) 0 0 153 [(0, .ref (ad 0)), (4, .int v4)] [] σ (M_M_formula_b153 N v4 σ) := by
  intro v4 σ
  rw [M_M_formula_b153]
  refine J_iconst (v := 0) h d_M_formula_153 (by decide) ?_
  exact J_M_M_formula_b154 K D A ad cA N h v4 0 σ
def M_M_formula_b53 (N : Nat) (v1 : Int32) (v2 : Int32) (v3 : Int32) (σ : SM) : Option (Int32 × SM) := (if (gM_M_state σ) = 0 then (if (gM_M_told σ) = 60 then (some ((-1), σ)) else (nm ((gM_M_told σ)) (fun (y5 : Int32) => (nm (sM_M_told σ ((gM_M_told σ) + 1)) (fun (σ6 : SM) => (if ck y5 60 = true then (nm (tM_M_toldSort σ6 (upd (aM_M_toldSort σ6) y5.toNatClampNeg v1)) (fun (σ7 : SM) => (if ck y5 60 = true then (nm (tM_M_toldLeft σ7 (upd (aM_M_toldLeft σ7) y5.toNatClampNeg v2)) (fun (σ8 : SM) => (if ck y5 60 = true then (nm (tM_M_toldRight σ8 (upd (aM_M_toldRight σ8) y5.toNatClampNeg v3)) (fun (σ9 : SM) => (bd (M_M_begin y5 σ9) (fun (r10 : Unit) (σ11 : SM) => (bd (M_M_less N v1 v2 v3 σ11) (fun (r12 : Int32) (σ13 : SM) => (if ck y5 60 = true then (nm (tM_M_toldUnchecked σ13 (upd (aM_M_toldUnchecked σ13) y5.toNatClampNeg (vp_nar .boolean (gM_M_isUnchecked σ13)))) (fun (σ14 : SM) => (if r12 = 0 then (M_M_formula_b153 N y5 σ14) else (bd (M_M_hold N σ14) (fun (r17 : Int32) (σ18 : SM) => (if r17 = 0 then (M_M_formula_b153 N y5 σ18) else (M_M_formula_b154 N y5 1 σ18))))))) else none))))))) else none))) else none))) else none)))))) else (some ((-1), σ)))
set_option maxRecDepth 100000 in
set_option maxHeartbeats 4000000 in
theorem J_M_M_formula_b53 (K : jx_E) (D : va_G) (A : Nat → Prop) (ad : Nat → Nat) (cA : Nat → ClassId) (N : Nat) (h : jx_ok K D clM (tysM cA) A 6 b_M_formula y_M_formula.cls ((Cond.code y_M_formula b_M_formula 6 (some .int)) :: tblG) rM_M_formula (some .int)) : ∀ (v1 : Int32) (v2 : Int32) (v3 : Int32) (σ : SM), J K D clM A 6 (wM ad cA) (jx_Qi K D clM (tysM cA) (wM ad cA) A) 0 0 53 [(0, .ref (ad 0)), (1, .int v1), (2, .int v2), (3, .int v3)] [] σ (M_M_formula_b53 N v1 v2 v3 σ) := by
  intro v1 v2 v3 σ
  rw [M_M_formula_b53]
  refine J_aload_n (q := 0) h d_M_formula_53 rfl rfl ?_
  refine J_getf h 0 (wM_0 ad cA σ) (tb_ups in_M) rfl 56 (by decide) (tb_up q_4_138) rfl d_M_formula_54 ?_
  refine J_if_ne (tgt := 69) h d_M_formula_57 (by decide) ?_ ?_
  · refine J_aload_n (q := 0) h d_M_formula_60 rfl rfl ?_
    refine J_getf h 0 (wM_0 ad cA σ) (tb_ups in_M) rfl 55 (by decide) (tb_up q_4_137) rfl d_M_formula_61 ?_
    refine J_bipush (v := 60) h d_M_formula_64 (by decide) ?_
    refine J_icmp_ne (tgt := 71) h d_M_formula_66 (by decide) ?_ ?_
    · refine J_iconst (v := (-1)) h d_M_formula_69 (by decide) ?_
      exact J_iret h rfl d_M_formula_70
    · refine J_aload_n (q := 0) h d_M_formula_71 rfl rfl ?_
      refine J_getf h 0 (wM_0 ad cA σ) (tb_ups in_M) rfl 55 (by decide) (tb_up q_4_137) rfl d_M_formula_72 ?_
      refine J_nmi (fun y5 => ?_)
      refine J_istore (lv' := [(4, .int y5), (0, .ref (ad 0)), (1, .int v1), (2, .int v2), (3, .int v3)]) h d_M_formula_75 (by decide) rfl ?_
      refine J_aload_n (q := 1) h d_M_formula_77 rfl rfl ?_
      refine J_dup h d_M_formula_78 rfl ?_
      refine J_getf h 0 (wM_0 ad cA σ) (tb_ups in_M) rfl 55 (by decide) (tb_up q_4_137) rfl d_M_formula_79 ?_
      refine J_iconst (v := 1) h d_M_formula_82 (by decide) ?_
      refine J_iadd h d_M_formula_83 ?_
      refine J_putf h 0 (wM_0 ad cA σ) (tb_ups in_M) rfl ft_M ft_M_ok nm_M 55 (by decide) (tb_up q_4_137) rfl rfl rfl (Nat.le_of_ble_eq_true rfl) (pM_0_55 ad cA σ ((gM_M_told σ) + 1)) d_M_formula_84 (fun σ6 => ?_)
      refine J_aload_n (q := 1) h d_M_formula_87 rfl rfl ?_
      refine J_getf h 0 (wM_0 ad cA σ6) (tb_ups in_M) rfl 51 (by decide) (tb_up q_4_133) rfl d_M_formula_88 ?_
      refine J_iload (q := 0) h d_M_formula_91 rfl ?_
      refine J_iload_n (q := 2) h d_M_formula_93 rfl rfl ?_
      refine J_iast h 34 33 (wM_34 ad cA σ6) rfl (uM_34 ad cA σ6 _) d_M_formula_94 (fun σ7 => ?_)
      refine J_aload_n (q := 1) h d_M_formula_95 rfl rfl ?_
      refine J_getf h 0 (wM_0 ad cA σ7) (tb_ups in_M) rfl 52 (by decide) (tb_up q_4_134) rfl d_M_formula_96 ?_
      refine J_iload (q := 0) h d_M_formula_99 rfl ?_
      refine J_iload_n (q := 3) h d_M_formula_101 rfl rfl ?_
      refine J_iast h 35 34 (wM_35 ad cA σ7) rfl (uM_35 ad cA σ7 _) d_M_formula_102 (fun σ8 => ?_)
      refine J_aload_n (q := 1) h d_M_formula_103 rfl rfl ?_
      refine J_getf h 0 (wM_0 ad cA σ8) (tb_ups in_M) rfl 53 (by decide) (tb_up q_4_135) rfl d_M_formula_104 ?_
      refine J_iload (q := 0) h d_M_formula_107 rfl ?_
      refine J_iload_n (q := 4) h d_M_formula_109 rfl rfl ?_
      refine J_iast h 36 35 (wM_36 ad cA σ8) rfl (uM_36 ad cA σ8 _) d_M_formula_110 (fun σ9 => ?_)
      refine J_aload_n (q := 1) h d_M_formula_111 rfl rfl ?_
      refine J_iload (q := 0) h d_M_formula_112 rfl ?_
      refine J_callVv (As := [.int y5]) (st := []) (rmc := rM_M_begin) (q0 := 0) h (fun _ _ hf => cM_M_begin (jl K) D ad cA y5 σ9 _ _ hf) (gd_V q_5_150 q_5_152 q_s_42 q_1_12 q_5_153) rfl ⟨rfl, rfl⟩ dd_M_begin ⟨Nat.le_of_ble_eq_true rfl, Nat.le_of_ble_eq_true rfl⟩ rfl rfl (wM_0 ad cA σ9) rfl rfl (Nat.le_of_ble_eq_true rfl) ⟨Nat.zero_le _, Nat.zero_le _⟩ d_M_formula_114 (fun r10 σ11 => ?_)
      refine J_aload_n (q := 1) h d_M_formula_117 rfl rfl ?_
      refine J_iload_n (q := 2) h d_M_formula_118 rfl rfl ?_
      refine J_iload_n (q := 3) h d_M_formula_119 rfl rfl ?_
      refine J_iload_n (q := 4) h d_M_formula_120 rfl rfl ?_
      refine J_callVi (As := [.int v1, .int v2, .int v3]) (st := []) (rmc := rM_M_less) (q0 := 0) h (fun _ _ hf => cM_M_less (jl K) D ad cA N v1 v2 v3 σ11 _ _ hf) (gd_V q_5_154 q_5_156 q_s_43 q_1_12 q_5_157) rfl ⟨rfl, rfl⟩ dd_M_less ⟨Nat.le_of_ble_eq_true rfl, Nat.le_of_ble_eq_true rfl⟩ rfl rfl (wM_0 ad cA σ11) rfl rfl (Nat.le_of_ble_eq_true rfl) ⟨Nat.zero_le _, Nat.zero_le _⟩ d_M_formula_121 (fun r12 σ13 => ?_)
      refine J_istore (lv' := [(5, .int r12), (4, .int y5), (0, .ref (ad 0)), (1, .int v1), (2, .int v2), (3, .int v3)]) h d_M_formula_124 (by decide) rfl ?_
      refine J_aload_n (q := 2) h d_M_formula_126 rfl rfl ?_
      refine J_getf h 0 (wM_0 ad cA σ13) (tb_ups in_M) rfl 54 (by decide) (tb_up q_4_136) rfl d_M_formula_127 ?_
      refine J_iload (q := 1) h d_M_formula_130 rfl ?_
      refine J_aload_n (q := 2) h d_M_formula_132 rfl rfl ?_
      refine J_getf h 0 (wM_0 ad cA σ13) (tb_ups in_M) rfl 39 (by decide) (tb_up q_4_121) rfl d_M_formula_133 ?_
      refine J_zast h 37 36 (wM_37 ad cA σ13) rfl (uM_37 ad cA σ13 _) d_M_formula_136 (fun σ14 => ?_)
      refine J_iload (q := 0) h d_M_formula_137 rfl ?_
      refine J_if_eq (tgt := 153) h d_M_formula_139 (by decide) ?_ ?_
      · refine J_sub [2, 1] rfl ?_
        exact J_M_M_formula_b153 K D A ad cA N h y5 σ14
      · refine J_aload_n (q := 2) h d_M_formula_142 rfl rfl ?_
        refine J_callVi (As := []) (st := []) (rmc := rM_M_hold) (q0 := 0) h (fun _ _ hf => cM_M_hold (jl K) D ad cA N  σ14 _ _ hf) (gd_V q_5_201 q_5_203 q_s_54 q_1_12 q_5_204) rfl ⟨rfl, rfl⟩ dd_M_hold ⟨Nat.le_of_ble_eq_true rfl, Nat.le_of_ble_eq_true rfl⟩ rfl rfl (wM_0 ad cA σ14) rfl rfl (Nat.le_of_ble_eq_true rfl) ⟨Nat.zero_le _, Nat.zero_le _⟩ d_M_formula_143 (fun r17 σ18 => ?_)
        refine J_if_eq (tgt := 153) h d_M_formula_146 (by decide) ?_ ?_
        · refine J_sub [2, 1] rfl ?_
          exact J_M_M_formula_b153 K D A ad cA N h y5 σ18
        · refine J_iconst (v := 1) h d_M_formula_149 (by decide) ?_
          refine J_goto (tgt := 154) h d_M_formula_150 (by decide) ?_
          refine J_sub [2, 1] rfl ?_
          exact J_M_M_formula_b154 K D A ad cA N h y5 1 σ18
  · refine J_iconst (v := (-1)) h d_M_formula_69 (by decide) ?_
    exact J_iret h rfl d_M_formula_70
def M_M_formula (N : Nat) (x1 : Int32) (x2 : Int32) (x3 : Int32) (σ : SM) : Option (Int32 × SM) := (if x1 < 0 then (some ((-2), σ)) else (if (3 : Int32) < x1 then (some ((-2), σ)) else (bd (M_M_isThere N x2 σ) (fun (r1 : Int32) (σ2 : SM) => (if r1 = 0 then (some ((-2), σ2)) else (bd (M_M_isThere N x3 σ2) (fun (r3 : Int32) (σ4 : SM) => (if r3 = 0 then (some ((-2), σ4)) else (if x1 = 2 then (M_M_formula_b53 N x1 x2 x3 σ4) else (if ck x2 500 = true then (if (aM_M_kind σ4 x2.toNatClampNeg) = 2 then (some ((-2), σ4)) else (if ck x3 500 = true then (if (aM_M_kind σ4 x3.toNatClampNeg) = 2 then (some ((-2), σ4)) else (M_M_formula_b53 N x1 x2 x3 σ4)) else none)) else none))))))))))
set_option maxRecDepth 100000 in
set_option maxHeartbeats 4000000 in
theorem J_M_M_formula (K : jx_E) (D : va_G) (A : Nat → Prop) (ad : Nat → Nat) (cA : Nat → ClassId) (N : Nat) (h : jx_ok K D clM (tysM cA) A 6 b_M_formula y_M_formula.cls ((Cond.code y_M_formula b_M_formula 6 (some .int)) :: tblG) rM_M_formula (some .int)) : ∀ (x1 : Int32) (x2 : Int32) (x3 : Int32) (σ : SM), J K D clM A 6 (wM ad cA) (jx_Qi K D clM (tysM cA) (wM ad cA) A) 0 0 0 [(0, .ref (ad 0)), (1, .int x1), (2, .int x2), (3, .int x3)] [] σ (M_M_formula N x1 x2 x3 σ) := by
  intro x1 x2 x3 σ
  rw [M_M_formula]
  refine J_iload_n (q := 1) h d_M_formula_0 rfl rfl ?_
  refine J_if_lt (tgt := 50) h d_M_formula_1 (by decide) ?_ ?_
  · refine J_bipush (v := (-2)) h d_M_formula_50 (by decide) ?_
    exact J_iret h rfl d_M_formula_52
  · refine J_iload_n (q := 1) h d_M_formula_4 rfl rfl ?_
    refine J_iconst (v := 3) h d_M_formula_5 (by decide) ?_
    refine J_icmp_gt (tgt := 50) h d_M_formula_6 (by decide) ?_ ?_
    · refine J_bipush (v := (-2)) h d_M_formula_50 (by decide) ?_
      exact J_iret h rfl d_M_formula_52
    · refine J_aload_n (q := 0) h d_M_formula_9 rfl rfl ?_
      refine J_iload_n (q := 2) h d_M_formula_10 rfl rfl ?_
      refine J_callVi (As := [.int x2]) (st := []) (rmc := rM_M_isThere) (q0 := 0) h (fun _ _ hf => cM_M_isThere (jl K) D ad cA N x2 σ _ _ hf) (gd_V q_5_142 q_5_144 q_s_40 q_1_12 q_5_145) rfl ⟨rfl, rfl⟩ dd_M_isThere ⟨Nat.le_of_ble_eq_true rfl, Nat.le_of_ble_eq_true rfl⟩ rfl rfl (wM_0 ad cA σ) rfl rfl (Nat.le_of_ble_eq_true rfl) ⟨Nat.zero_le _, Nat.zero_le _⟩ d_M_formula_11 (fun r1 σ2 => ?_)
      refine J_if_eq (tgt := 50) h d_M_formula_14 (by decide) ?_ ?_
      · refine J_bipush (v := (-2)) h d_M_formula_50 (by decide) ?_
        exact J_iret h rfl d_M_formula_52
      · refine J_aload_n (q := 0) h d_M_formula_17 rfl rfl ?_
        refine J_iload_n (q := 3) h d_M_formula_18 rfl rfl ?_
        refine J_callVi (As := [.int x3]) (st := []) (rmc := rM_M_isThere) (q0 := 0) h (fun _ _ hf => cM_M_isThere (jl K) D ad cA N x3 σ2 _ _ hf) (gd_V q_5_142 q_5_144 q_s_40 q_1_12 q_5_145) rfl ⟨rfl, rfl⟩ dd_M_isThere ⟨Nat.le_of_ble_eq_true rfl, Nat.le_of_ble_eq_true rfl⟩ rfl rfl (wM_0 ad cA σ2) rfl rfl (Nat.le_of_ble_eq_true rfl) ⟨Nat.zero_le _, Nat.zero_le _⟩ d_M_formula_19 (fun r3 σ4 => ?_)
        refine J_if_eq (tgt := 50) h d_M_formula_22 (by decide) ?_ ?_
        · refine J_bipush (v := (-2)) h d_M_formula_50 (by decide) ?_
          exact J_iret h rfl d_M_formula_52
        · refine J_iload_n (q := 1) h d_M_formula_25 rfl rfl ?_
          refine J_iconst (v := 2) h d_M_formula_26 (by decide) ?_
          refine J_icmp_eq (tgt := 53) h d_M_formula_27 (by decide) ?_ ?_
          · exact J_M_M_formula_b53 K D A ad cA N h x1 x2 x3 σ4
          · refine J_aload_n (q := 0) h d_M_formula_30 rfl rfl ?_
            refine J_getf h 0 (wM_0 ad cA σ4) (tb_ups in_M) rfl 5 (by decide) (tb_up q_4_87) rfl d_M_formula_31 ?_
            refine J_iload_n (q := 2) h d_M_formula_34 rfl rfl ?_
            refine J_iald h 5 4 (wM_5 ad cA σ4) rfl d_M_formula_35 ?_
            refine J_iconst (v := 2) h d_M_formula_36 (by decide) ?_
            refine J_icmp_eq (tgt := 50) h d_M_formula_37 (by decide) ?_ ?_
            · refine J_bipush (v := (-2)) h d_M_formula_50 (by decide) ?_
              exact J_iret h rfl d_M_formula_52
            · refine J_aload_n (q := 0) h d_M_formula_40 rfl rfl ?_
              refine J_getf h 0 (wM_0 ad cA σ4) (tb_ups in_M) rfl 5 (by decide) (tb_up q_4_87) rfl d_M_formula_41 ?_
              refine J_iload_n (q := 3) h d_M_formula_44 rfl rfl ?_
              refine J_iald h 5 4 (wM_5 ad cA σ4) rfl d_M_formula_45 ?_
              refine J_iconst (v := 2) h d_M_formula_46 (by decide) ?_
              refine J_icmp_ne (tgt := 53) h d_M_formula_47 (by decide) ?_ ?_
              · refine J_bipush (v := (-2)) h d_M_formula_50 (by decide) ?_
                exact J_iret h rfl d_M_formula_52
              · exact J_M_M_formula_b53 K D A ad cA N h x1 x2 x3 σ4
set_option maxRecDepth 100000 in
theorem cM_M_formula (l : Launch) (D : va_G) (ad : Nat → Nat) (cA : Nat → ClassId) (N : Nat) (x1 : Int32) (x2 : Int32) (x3 : Int32) (σ : SM) (r : Int32) (σ' : SM) (hf : M_M_formula N x1 x2 x3 σ = some (r, σ')) : MetI l y_M_formula ((Cond.code y_M_formula b_M_formula 6 (some .int)) :: tblG) rM_M_formula D clM (tysM cA) (wM ad cA) [.ref (ad 0), .int x1, .int x2, .int x3] σ r σ' :=
  jx_metI (by decide) rfl (Nat.le_of_ble_eq_true rfl) (fun K A h => J_M_M_formula K D A ad cA N h x1 x2 x3 σ) hf
def rM_M_clear : Room := { frames := 0, cells := 0, slots := 0, locals := 0 }
theorem rm_ok_M_M_clear : rM_M_clear.cells = 0 ∧ rM_M_clear.slots = 0 := ⟨rfl, rfl⟩
def M_M_clear  (σ : SM) : Option (Int32 × SM) := (nm ((gM_M_told σ)) (fun (y1 : Int32) => (nm (sM_M_told σ 0) (fun (σ2 : SM) => (nm (sM_M_variables σ2 0) (fun (σ3 : SM) => (nm (sM_M_bounds σ3 0) (fun (σ4 : SM) => (nm (sM_M_held σ4 0) (fun (σ5 : SM) => (nm (sM_M_state σ5 0) (fun (σ6 : SM) => (nm (sM_M_stateAt σ6 (-1)) (fun (σ7 : SM) => (nm (sM_M_madeLess σ7 0) (fun (σ8 : SM) => (some (y1, σ8))))))))))))))))))
set_option maxRecDepth 100000 in
set_option maxHeartbeats 4000000 in
theorem J_M_M_clear (K : jx_E) (D : va_G) (A : Nat → Prop) (ad : Nat → Nat) (cA : Nat → ClassId) (h : jx_ok K D clM (tysM cA) A 2 b_M_clear y_M_clear.cls ((Cond.code y_M_clear b_M_clear 2 (some .int)) :: tblG) rM_M_clear (some .int)) : ∀  (σ : SM), J K D clM A 2 (wM ad cA) (jx_Qi K D clM (tysM cA) (wM ad cA) A) 0 0 0 [(0, .ref (ad 0))] [] σ (M_M_clear  σ) := by
  intro  σ
  rw [M_M_clear]
  refine J_aload_n (q := 0) h d_M_clear_0 rfl rfl ?_
  refine J_getf h 0 (wM_0 ad cA σ) (tb_ups in_M) rfl 55 (by decide) (tb_up q_4_137) rfl d_M_clear_1 ?_
  refine J_nmi (fun y1 => ?_)
  refine J_istore_n (lv' := [(1, .int y1), (0, .ref (ad 0))]) h d_M_clear_4 rfl (by decide) rfl ?_
  refine J_aload_n (q := 1) h d_M_clear_5 rfl rfl ?_
  refine J_iconst (v := 0) h d_M_clear_6 (by decide) ?_
  refine J_putf h 0 (wM_0 ad cA σ) (tb_ups in_M) rfl ft_M ft_M_ok nm_M 55 (by decide) (tb_up q_4_137) rfl rfl rfl (Nat.le_of_ble_eq_true rfl) (pM_0_55 ad cA σ 0) d_M_clear_7 (fun σ2 => ?_)
  refine J_aload_n (q := 1) h d_M_clear_10 rfl rfl ?_
  refine J_iconst (v := 0) h d_M_clear_11 (by decide) ?_
  refine J_putf h 0 (wM_0 ad cA σ2) (tb_ups in_M) rfl ft_M ft_M_ok nm_M 17 (by decide) (tb_up q_4_99) rfl rfl rfl (Nat.le_of_ble_eq_true rfl) (pM_0_17 ad cA σ2 0) d_M_clear_12 (fun σ3 => ?_)
  refine J_aload_n (q := 1) h d_M_clear_15 rfl rfl ?_
  refine J_iconst (v := 0) h d_M_clear_16 (by decide) ?_
  refine J_putf h 0 (wM_0 ad cA σ3) (tb_ups in_M) rfl ft_M ft_M_ok nm_M 49 (by decide) (tb_up q_4_131) rfl rfl rfl (Nat.le_of_ble_eq_true rfl) (pM_0_49 ad cA σ3 0) d_M_clear_17 (fun σ4 => ?_)
  refine J_aload_n (q := 1) h d_M_clear_20 rfl rfl ?_
  refine J_iconst (v := 0) h d_M_clear_21 (by decide) ?_
  refine J_putf h 0 (wM_0 ad cA σ4) (tb_ups in_M) rfl ft_M ft_M_ok nm_M 50 (by decide) (tb_up q_4_132) rfl rfl rfl (Nat.le_of_ble_eq_true rfl) (pM_0_50 ad cA σ4 0) d_M_clear_22 (fun σ5 => ?_)
  refine J_aload_n (q := 1) h d_M_clear_25 rfl rfl ?_
  refine J_iconst (v := 0) h d_M_clear_26 (by decide) ?_
  refine J_putf h 0 (wM_0 ad cA σ5) (tb_ups in_M) rfl ft_M ft_M_ok nm_M 56 (by decide) (tb_up q_4_138) rfl rfl rfl (Nat.le_of_ble_eq_true rfl) (pM_0_56 ad cA σ5 0) d_M_clear_27 (fun σ6 => ?_)
  refine J_aload_n (q := 1) h d_M_clear_30 rfl rfl ?_
  refine J_iconst (v := (-1)) h d_M_clear_31 (by decide) ?_
  refine J_putf h 0 (wM_0 ad cA σ6) (tb_ups in_M) rfl ft_M ft_M_ok nm_M 57 (by decide) (tb_up q_4_139) rfl rfl rfl (Nat.le_of_ble_eq_true rfl) (pM_0_57 ad cA σ6 (-1)) d_M_clear_32 (fun σ7 => ?_)
  refine J_aload_n (q := 1) h d_M_clear_35 rfl rfl ?_
  refine J_iconst (v := 0) h d_M_clear_36 (by decide) ?_
  refine J_putf h 0 (wM_0 ad cA σ7) (tb_ups in_M) rfl ft_M ft_M_ok nm_M 36 (by decide) (tb_up q_4_118) rfl rfl rfl (Nat.le_of_ble_eq_true rfl) (pM_0_36 ad cA σ7 0) d_M_clear_37 (fun σ8 => ?_)
  refine J_iload_n (q := 0) h d_M_clear_40 rfl rfl ?_
  exact J_iret h rfl d_M_clear_41
set_option maxRecDepth 100000 in
theorem cM_M_clear (l : Launch) (D : va_G) (ad : Nat → Nat) (cA : Nat → ClassId)  (σ : SM) (r : Int32) (σ' : SM) (hf : M_M_clear  σ = some (r, σ')) : MetI l y_M_clear ((Cond.code y_M_clear b_M_clear 2 (some .int)) :: tblG) rM_M_clear D clM (tysM cA) (wM ad cA) [.ref (ad 0)] σ r σ' :=
  jx_metI (by decide) rfl (Nat.le_of_ble_eq_true rfl) (fun K A h => J_M_M_clear K D A ad cA h  σ) hf
def rM_M_instanceOf : Room := { frames := 0, cells := 0, slots := 0, locals := 0 }
theorem rm_ok_M_M_instanceOf : rM_M_instanceOf.cells = 0 ∧ rM_M_instanceOf.slots = 0 := ⟨rfl, rfl⟩
def M_M_instanceOf_b50 (N : Nat) (k2 : Int32 → Int32 → SM → Option (Int32 × SM)) (v1 : Int32) (v2 : Int32) (σ : SM) : Option (Int32 × SM) := (nm (v2 + 1) (fun (y1 : Int32) => (k2 v1 y1 σ)))
set_option maxRecDepth 100000 in
set_option maxHeartbeats 4000000 in
theorem J_M_M_instanceOf_b50 (K : jx_E) (D : va_G) (A : Nat → Prop) (ad : Nat → Nat) (cA : Nat → ClassId) (N : Nat) (h : jx_ok K D clM (tysM cA) A 3 b_M_instanceOf y_M_instanceOf.cls ((Cond.code y_M_instanceOf b_M_instanceOf 3 (some .int)) :: tblG) rM_M_instanceOf (some .int)) (k2 : Int32 → Int32 → SM → Option (Int32 × SM)) (hk2 : ∀ (v1 : Int32) (v2 : Int32) (σ : SM), J K D clM A 3 (wM ad cA) (jx_Qi K D clM (tysM cA) (wM ad cA) A) 0 0 2 [(0, .ref (ad 0)), (1, .int v1), (2, .int v2)] [] σ (k2 v1 v2 σ)) : ∀ (v1 : Int32) (v2 : Int32) (σ : SM), J K D clM A 3 (wM ad cA) (jx_Qi K D clM (tysM cA) (wM ad cA) A) 0 0 50 [(0, .ref (ad 0)), (1, .int v1), (2, .int v2)] [] σ (M_M_instanceOf_b50 N k2 v1 v2 σ) := by
  intro v1 v2 σ
  rw [M_M_instanceOf_b50]
  refine J_iinc (q := 2) (c := 1) (lv' := fun y1 => [(2, .int y1), (0, .ref (ad 0)), (1, .int v1)]) h d_M_instanceOf_50 rfl (by decide) (by decide) (fun _ => rfl) (fun y1 => ?_)
  refine J_goto (tgt := 2) h d_M_instanceOf_53 (by decide) ?_
  refine J_sub [1, 2, 0] rfl ?_
  exact hk2 v1 y1 σ
def M_M_instanceOf_L2 (N : Nat) : Nat → Int32 → Int32 → SM → Option (Int32 × SM)
  | 0, _, _, _ => none
  | n + 1, v1, v2, σ => (if (gM_M_bounds σ) ≤ v2 then (some ((-1), σ)) else (if ck v2 200 = true then (if (aM_M_boundOf σ v2.toNatClampNeg) = v1 then (if ck v2 200 = true then (if (aM_M_boundSort σ v2.toNatClampNeg) = 0 then (if ck v2 200 = true then (if ck (aM_M_boundType σ v2.toNatClampNeg) 500 = true then (if (aM_M_proper σ (aM_M_boundType σ v2.toNatClampNeg).toNatClampNeg) = 0 then (M_M_instanceOf_b50 N (M_M_instanceOf_L2 N  n) v1 v2 σ) else (if ck v2 200 = true then (some ((aM_M_boundType σ v2.toNatClampNeg), σ)) else none)) else none) else none) else (M_M_instanceOf_b50 N (M_M_instanceOf_L2 N  n) v1 v2 σ)) else none) else (M_M_instanceOf_b50 N (M_M_instanceOf_L2 N  n) v1 v2 σ)) else none))
set_option maxRecDepth 100000 in
set_option maxHeartbeats 4000000 in
theorem J_M_M_instanceOf_L2 (K : jx_E) (D : va_G) (A : Nat → Prop) (ad : Nat → Nat) (cA : Nat → ClassId) (N : Nat) (h : jx_ok K D clM (tysM cA) A 3 b_M_instanceOf y_M_instanceOf.cls ((Cond.code y_M_instanceOf b_M_instanceOf 3 (some .int)) :: tblG) rM_M_instanceOf (some .int)) : ∀ (n : Nat) (v1 : Int32) (v2 : Int32) (σ : SM), J K D clM A 3 (wM ad cA) (jx_Qi K D clM (tysM cA) (wM ad cA) A) 0 0 2 [(0, .ref (ad 0)), (1, .int v1), (2, .int v2)] [] σ (M_M_instanceOf_L2 N n v1 v2 σ) := by
  intro n
  induction n with
  | zero => intro v1 v2 σ; exact J_none
  | succ n ih =>
    intro v1 v2 σ
    rw [M_M_instanceOf_L2]
    refine J_iload_n (q := 2) h d_M_instanceOf_2 rfl rfl ?_
    refine J_aload_n (q := 0) h d_M_instanceOf_3 rfl rfl ?_
    refine J_getf h 0 (wM_0 ad cA σ) (tb_ups in_M) rfl 49 (by decide) (tb_up q_4_131) rfl d_M_instanceOf_4 ?_
    refine J_icmp_ge (tgt := 56) h d_M_instanceOf_7 (by decide) ?_ ?_
    · refine J_iconst (v := (-1)) h d_M_instanceOf_56 (by decide) ?_
      exact J_iret h rfl d_M_instanceOf_57
    · refine J_aload_n (q := 0) h d_M_instanceOf_10 rfl rfl ?_
      refine J_getf h 0 (wM_0 ad cA σ) (tb_ups in_M) rfl 46 (by decide) (tb_up q_4_128) rfl d_M_instanceOf_11 ?_
      refine J_iload_n (q := 2) h d_M_instanceOf_14 rfl rfl ?_
      refine J_iald h 31 30 (wM_31 ad cA σ) rfl d_M_instanceOf_15 ?_
      refine J_iload_n (q := 1) h d_M_instanceOf_16 rfl rfl ?_
      refine J_icmp_ne (tgt := 50) h d_M_instanceOf_17 (by decide) ?_ ?_
      · refine J_aload_n (q := 0) h d_M_instanceOf_20 rfl rfl ?_
        refine J_getf h 0 (wM_0 ad cA σ) (tb_ups in_M) rfl 45 (by decide) (tb_up q_4_127) rfl d_M_instanceOf_21 ?_
        refine J_iload_n (q := 2) h d_M_instanceOf_24 rfl rfl ?_
        refine J_iald h 30 29 (wM_30 ad cA σ) rfl d_M_instanceOf_25 ?_
        refine J_if_ne (tgt := 50) h d_M_instanceOf_26 (by decide) ?_ ?_
        · refine J_aload_n (q := 0) h d_M_instanceOf_29 rfl rfl ?_
          refine J_getf h 0 (wM_0 ad cA σ) (tb_ups in_M) rfl 10 (by decide) (tb_up q_4_92) rfl d_M_instanceOf_30 ?_
          refine J_aload_n (q := 0) h d_M_instanceOf_33 rfl rfl ?_
          refine J_getf h 0 (wM_0 ad cA σ) (tb_ups in_M) rfl 47 (by decide) (tb_up q_4_129) rfl d_M_instanceOf_34 ?_
          refine J_iload_n (q := 2) h d_M_instanceOf_37 rfl rfl ?_
          refine J_iald h 32 31 (wM_32 ad cA σ) rfl d_M_instanceOf_38 ?_
          refine J_zald h 10 9 (wM_10 ad cA σ) rfl d_M_instanceOf_39 ?_
          refine J_if_eq (tgt := 50) h d_M_instanceOf_40 (by decide) ?_ ?_
          · exact J_M_M_instanceOf_b50 K D A ad cA N h (M_M_instanceOf_L2 N  n) ih v1 v2 σ
          · refine J_aload_n (q := 0) h d_M_instanceOf_43 rfl rfl ?_
            refine J_getf h 0 (wM_0 ad cA σ) (tb_ups in_M) rfl 47 (by decide) (tb_up q_4_129) rfl d_M_instanceOf_44 ?_
            refine J_iload_n (q := 2) h d_M_instanceOf_47 rfl rfl ?_
            refine J_iald h 32 31 (wM_32 ad cA σ) rfl d_M_instanceOf_48 ?_
            exact J_iret h rfl d_M_instanceOf_49
        · exact J_M_M_instanceOf_b50 K D A ad cA N h (M_M_instanceOf_L2 N  n) ih v1 v2 σ
      · exact J_M_M_instanceOf_b50 K D A ad cA N h (M_M_instanceOf_L2 N  n) ih v1 v2 σ
def M_M_instanceOf (N : Nat) (x1 : Int32) (σ : SM) : Option (Int32 × SM) := (M_M_instanceOf_L2 N N x1 0 σ)
set_option maxRecDepth 100000 in
set_option maxHeartbeats 4000000 in
theorem J_M_M_instanceOf (K : jx_E) (D : va_G) (A : Nat → Prop) (ad : Nat → Nat) (cA : Nat → ClassId) (N : Nat) (h : jx_ok K D clM (tysM cA) A 3 b_M_instanceOf y_M_instanceOf.cls ((Cond.code y_M_instanceOf b_M_instanceOf 3 (some .int)) :: tblG) rM_M_instanceOf (some .int)) : ∀ (x1 : Int32) (σ : SM), J K D clM A 3 (wM ad cA) (jx_Qi K D clM (tysM cA) (wM ad cA) A) 0 0 0 [(0, .ref (ad 0)), (1, .int x1)] [] σ (M_M_instanceOf N x1 σ) := by
  intro x1 σ
  rw [M_M_instanceOf]
  refine J_iconst (v := 0) h d_M_instanceOf_0 (by decide) ?_
  refine J_istore_n (lv' := [(2, .int 0), (0, .ref (ad 0)), (1, .int x1)]) h d_M_instanceOf_1 rfl (by decide) rfl ?_
  refine J_sub [1, 2, 0] rfl ?_
  exact J_M_M_instanceOf_L2 K D A ad cA N h N x1 0 σ
set_option maxRecDepth 100000 in
theorem cM_M_instanceOf (l : Launch) (D : va_G) (ad : Nat → Nat) (cA : Nat → ClassId) (N : Nat) (x1 : Int32) (σ : SM) (r : Int32) (σ' : SM) (hf : M_M_instanceOf N x1 σ = some (r, σ')) : MetI l y_M_instanceOf ((Cond.code y_M_instanceOf b_M_instanceOf 3 (some .int)) :: tblG) rM_M_instanceOf D clM (tysM cA) (wM ad cA) [.ref (ad 0), .int x1] σ r σ' :=
  jx_metI (by decide) rfl (Nat.le_of_ble_eq_true rfl) (fun K A h => J_M_M_instanceOf K D A ad cA N h x1 σ) hf
def rM_M_isLinked : Room := { frames := 2, cells := 0, slots := 0, locals := 46 }
theorem rm_ok_M_M_isLinked : rM_M_isLinked.cells = 0 ∧ rM_M_isLinked.slots = 0 := ⟨rfl, rfl⟩
def M_M_isLinked_b60 (N : Nat) (k2 : Int32 → Int32 → Int32 → SM → Option (Int32 × SM)) (v1 : Int32) (v2 : Int32) (v3 : Int32) (σ : SM) : Option (Int32 × SM) := (nm (v3 + 1) (fun (y5 : Int32) => (k2 v1 v2 y5 σ)))
set_option maxRecDepth 100000 in
set_option maxHeartbeats 4000000 in
theorem J_M_M_isLinked_b60 (K : jx_E) (D : va_G) (A : Nat → Prop) (ad : Nat → Nat) (cA : Nat → ClassId) (N : Nat) (h : jx_ok K D clM (tysM cA) A 4 b_M_isLinked y_M_isLinked.cls ((Cond.code y_M_isLinked b_M_isLinked 4 (some .boolean)) :: tblG) rM_M_isLinked (some .boolean)) (k2 : Int32 → Int32 → Int32 → SM → Option (Int32 × SM)) (hk2 : ∀ (v1 : Int32) (v2 : Int32) (v3 : Int32) (σ : SM), J K D clM A 4 (wM ad cA) (jx_Qi K D clM (tysM cA) (wM ad cA) A) 0 0 2 [(0, .ref (ad 0)), (1, .int v1), (2, .int v2), (3, .int v3)] [] σ (k2 v1 v2 v3 σ)) : ∀ (v1 : Int32) (v2 : Int32) (v3 : Int32) (σ : SM), J K D clM A 4 (wM ad cA) (jx_Qi K D clM (tysM cA) (wM ad cA) A) 0 0 60 [(0, .ref (ad 0)), (1, .int v1), (2, .int v2), (3, .int v3)] [] σ (M_M_isLinked_b60 N k2 v1 v2 v3 σ) := by
  intro v1 v2 v3 σ
  rw [M_M_isLinked_b60]
  refine J_iinc (q := 3) (c := 1) (lv' := fun y5 => [(3, .int y5), (0, .ref (ad 0)), (1, .int v1), (2, .int v2)]) h d_M_isLinked_60 rfl (by decide) (by decide) (fun _ => rfl) (fun y5 => ?_)
  refine J_goto (tgt := 2) h d_M_isLinked_63 (by decide) ?_
  refine J_sub [1, 2, 3, 0] rfl ?_
  exact hk2 v1 v2 y5 σ
def M_M_isLinked_b34 (N : Nat) (k2 : Int32 → Int32 → Int32 → SM → Option (Int32 × SM)) (v1 : Int32) (v2 : Int32) (v3 : Int32) (σ : SM) : Option (Int32 × SM) := (if ck v3 200 = true then (if (aM_M_boundOf σ v3.toNatClampNeg) = v2 then (if ck v3 200 = true then (bd (M_M_isIn N v1 (aM_M_boundType σ v3.toNatClampNeg) σ) (fun (r3 : Int32) (σ4 : SM) => (if r3 = 0 then (M_M_isLinked_b60 N k2 v1 v2 v3 σ4) else (some (1, σ4))))) else none) else (M_M_isLinked_b60 N k2 v1 v2 v3 σ)) else none)
set_option maxRecDepth 100000 in
set_option maxHeartbeats 4000000 in
theorem J_M_M_isLinked_b34 (K : jx_E) (D : va_G) (A : Nat → Prop) (ad : Nat → Nat) (cA : Nat → ClassId) (N : Nat) (h : jx_ok K D clM (tysM cA) A 4 b_M_isLinked y_M_isLinked.cls ((Cond.code y_M_isLinked b_M_isLinked 4 (some .boolean)) :: tblG) rM_M_isLinked (some .boolean)) (k2 : Int32 → Int32 → Int32 → SM → Option (Int32 × SM)) (hk2 : ∀ (v1 : Int32) (v2 : Int32) (v3 : Int32) (σ : SM), J K D clM A 4 (wM ad cA) (jx_Qi K D clM (tysM cA) (wM ad cA) A) 0 0 2 [(0, .ref (ad 0)), (1, .int v1), (2, .int v2), (3, .int v3)] [] σ (k2 v1 v2 v3 σ)) : ∀ (v1 : Int32) (v2 : Int32) (v3 : Int32) (σ : SM), J K D clM A 4 (wM ad cA) (jx_Qi K D clM (tysM cA) (wM ad cA) A) 0 0 34 [(0, .ref (ad 0)), (1, .int v1), (2, .int v2), (3, .int v3)] [] σ (M_M_isLinked_b34 N k2 v1 v2 v3 σ) := by
  intro v1 v2 v3 σ
  rw [M_M_isLinked_b34]
  refine J_aload_n (q := 0) h d_M_isLinked_34 rfl rfl ?_
  refine J_getf h 0 (wM_0 ad cA σ) (tb_ups in_M) rfl 46 (by decide) (tb_up q_4_128) rfl d_M_isLinked_35 ?_
  refine J_iload_n (q := 3) h d_M_isLinked_38 rfl rfl ?_
  refine J_iald h 31 30 (wM_31 ad cA σ) rfl d_M_isLinked_39 ?_
  refine J_iload_n (q := 2) h d_M_isLinked_40 rfl rfl ?_
  refine J_icmp_ne (tgt := 60) h d_M_isLinked_41 (by decide) ?_ ?_
  · refine J_aload_n (q := 0) h d_M_isLinked_44 rfl rfl ?_
    refine J_iload_n (q := 1) h d_M_isLinked_45 rfl rfl ?_
    refine J_aload_n (q := 0) h d_M_isLinked_46 rfl rfl ?_
    refine J_getf h 0 (wM_0 ad cA σ) (tb_ups in_M) rfl 47 (by decide) (tb_up q_4_129) rfl d_M_isLinked_47 ?_
    refine J_iload_n (q := 3) h d_M_isLinked_50 rfl rfl ?_
    refine J_iald h 32 31 (wM_32 ad cA σ) rfl d_M_isLinked_51 ?_
    refine J_callVi (As := [.int v1, .int (aM_M_boundType σ v3.toNatClampNeg)]) (st := []) (rmc := rM_M_isIn) (q0 := 0) h (fun _ _ hf => cM_M_isIn (jl K) D ad cA N v1 (aM_M_boundType σ v3.toNatClampNeg) σ _ _ hf) (gd_V q_5_146 q_5_148 q_s_41 q_1_12 q_5_149) rfl ⟨rfl, rfl⟩ dd_M_isIn ⟨Nat.le_of_ble_eq_true rfl, Nat.le_of_ble_eq_true rfl⟩ rfl rfl (wM_0 ad cA σ) rfl rfl (Nat.le_of_ble_eq_true rfl) ⟨Nat.zero_le _, Nat.zero_le _⟩ d_M_isLinked_52 (fun r3 σ4 => ?_)
    refine J_if_eq (tgt := 60) h d_M_isLinked_55 (by decide) ?_ ?_
    · exact J_M_M_isLinked_b60 K D A ad cA N h k2 hk2 v1 v2 v3 σ4
    · refine J_iconst (v := 1) h d_M_isLinked_58 (by decide) ?_
      exact J_zret h rfl (by decide) d_M_isLinked_59
  · exact J_M_M_isLinked_b60 K D A ad cA N h k2 hk2 v1 v2 v3 σ
def M_M_isLinked_L2 (N : Nat) : Nat → Int32 → Int32 → Int32 → SM → Option (Int32 × SM)
  | 0, _, _, _, _ => none
  | n + 1, v1, v2, v3, σ => (if (gM_M_bounds σ) ≤ v3 then (some (0, σ)) else (if ck v3 200 = true then (if (aM_M_boundOf σ v3.toNatClampNeg) = v1 then (if ck v3 200 = true then (bd (M_M_isIn N v2 (aM_M_boundType σ v3.toNatClampNeg) σ) (fun (r1 : Int32) (σ2 : SM) => (if r1 = 0 then (M_M_isLinked_b34 N (M_M_isLinked_L2 N  n) v1 v2 v3 σ2) else (some (1, σ2))))) else none) else (M_M_isLinked_b34 N (M_M_isLinked_L2 N  n) v1 v2 v3 σ)) else none))
set_option maxRecDepth 100000 in
set_option maxHeartbeats 4000000 in
theorem J_M_M_isLinked_L2 (K : jx_E) (D : va_G) (A : Nat → Prop) (ad : Nat → Nat) (cA : Nat → ClassId) (N : Nat) (h : jx_ok K D clM (tysM cA) A 4 b_M_isLinked y_M_isLinked.cls ((Cond.code y_M_isLinked b_M_isLinked 4 (some .boolean)) :: tblG) rM_M_isLinked (some .boolean)) : ∀ (n : Nat) (v1 : Int32) (v2 : Int32) (v3 : Int32) (σ : SM), J K D clM A 4 (wM ad cA) (jx_Qi K D clM (tysM cA) (wM ad cA) A) 0 0 2 [(0, .ref (ad 0)), (1, .int v1), (2, .int v2), (3, .int v3)] [] σ (M_M_isLinked_L2 N n v1 v2 v3 σ) := by
  intro n
  induction n with
  | zero => intro v1 v2 v3 σ; exact J_none
  | succ n ih =>
    intro v1 v2 v3 σ
    rw [M_M_isLinked_L2]
    refine J_iload_n (q := 3) h d_M_isLinked_2 rfl rfl ?_
    refine J_aload_n (q := 0) h d_M_isLinked_3 rfl rfl ?_
    refine J_getf h 0 (wM_0 ad cA σ) (tb_ups in_M) rfl 49 (by decide) (tb_up q_4_131) rfl d_M_isLinked_4 ?_
    refine J_icmp_ge (tgt := 66) h d_M_isLinked_7 (by decide) ?_ ?_
    · refine J_iconst (v := 0) h d_M_isLinked_66 (by decide) ?_
      exact J_zret h rfl (by decide) d_M_isLinked_67
    · refine J_aload_n (q := 0) h d_M_isLinked_10 rfl rfl ?_
      refine J_getf h 0 (wM_0 ad cA σ) (tb_ups in_M) rfl 46 (by decide) (tb_up q_4_128) rfl d_M_isLinked_11 ?_
      refine J_iload_n (q := 3) h d_M_isLinked_14 rfl rfl ?_
      refine J_iald h 31 30 (wM_31 ad cA σ) rfl d_M_isLinked_15 ?_
      refine J_iload_n (q := 1) h d_M_isLinked_16 rfl rfl ?_
      refine J_icmp_ne (tgt := 34) h d_M_isLinked_17 (by decide) ?_ ?_
      · refine J_aload_n (q := 0) h d_M_isLinked_20 rfl rfl ?_
        refine J_iload_n (q := 2) h d_M_isLinked_21 rfl rfl ?_
        refine J_aload_n (q := 0) h d_M_isLinked_22 rfl rfl ?_
        refine J_getf h 0 (wM_0 ad cA σ) (tb_ups in_M) rfl 47 (by decide) (tb_up q_4_129) rfl d_M_isLinked_23 ?_
        refine J_iload_n (q := 3) h d_M_isLinked_26 rfl rfl ?_
        refine J_iald h 32 31 (wM_32 ad cA σ) rfl d_M_isLinked_27 ?_
        refine J_callVi (As := [.int v2, .int (aM_M_boundType σ v3.toNatClampNeg)]) (st := []) (rmc := rM_M_isIn) (q0 := 0) h (fun _ _ hf => cM_M_isIn (jl K) D ad cA N v2 (aM_M_boundType σ v3.toNatClampNeg) σ _ _ hf) (gd_V q_5_146 q_5_148 q_s_41 q_1_12 q_5_149) rfl ⟨rfl, rfl⟩ dd_M_isIn ⟨Nat.le_of_ble_eq_true rfl, Nat.le_of_ble_eq_true rfl⟩ rfl rfl (wM_0 ad cA σ) rfl rfl (Nat.le_of_ble_eq_true rfl) ⟨Nat.zero_le _, Nat.zero_le _⟩ d_M_isLinked_28 (fun r1 σ2 => ?_)
        refine J_if_ne (tgt := 58) h d_M_isLinked_31 (by decide) ?_ ?_
        · exact J_M_M_isLinked_b34 K D A ad cA N h (M_M_isLinked_L2 N  n) ih v1 v2 v3 σ2
        · refine J_iconst (v := 1) h d_M_isLinked_58 (by decide) ?_
          exact J_zret h rfl (by decide) d_M_isLinked_59
      · exact J_M_M_isLinked_b34 K D A ad cA N h (M_M_isLinked_L2 N  n) ih v1 v2 v3 σ
def M_M_isLinked (N : Nat) (x1 : Int32) (x2 : Int32) (σ : SM) : Option (Int32 × SM) := (M_M_isLinked_L2 N N x1 x2 0 σ)
set_option maxRecDepth 100000 in
set_option maxHeartbeats 4000000 in
theorem J_M_M_isLinked (K : jx_E) (D : va_G) (A : Nat → Prop) (ad : Nat → Nat) (cA : Nat → ClassId) (N : Nat) (h : jx_ok K D clM (tysM cA) A 4 b_M_isLinked y_M_isLinked.cls ((Cond.code y_M_isLinked b_M_isLinked 4 (some .boolean)) :: tblG) rM_M_isLinked (some .boolean)) : ∀ (x1 : Int32) (x2 : Int32) (σ : SM), J K D clM A 4 (wM ad cA) (jx_Qi K D clM (tysM cA) (wM ad cA) A) 0 0 0 [(0, .ref (ad 0)), (1, .int x1), (2, .int x2)] [] σ (M_M_isLinked N x1 x2 σ) := by
  intro x1 x2 σ
  rw [M_M_isLinked]
  refine J_iconst (v := 0) h d_M_isLinked_0 (by decide) ?_
  refine J_istore_n (lv' := [(3, .int 0), (0, .ref (ad 0)), (1, .int x1), (2, .int x2)]) h d_M_isLinked_1 rfl (by decide) rfl ?_
  refine J_sub [1, 2, 3, 0] rfl ?_
  exact J_M_M_isLinked_L2 K D A ad cA N h N x1 x2 0 σ
set_option maxRecDepth 100000 in
theorem cM_M_isLinked (l : Launch) (D : va_G) (ad : Nat → Nat) (cA : Nat → ClassId) (N : Nat) (x1 : Int32) (x2 : Int32) (σ : SM) (r : Int32) (σ' : SM) (hf : M_M_isLinked N x1 x2 σ = some (r, σ')) : MetI l y_M_isLinked ((Cond.code y_M_isLinked b_M_isLinked 4 (some .boolean)) :: tblG) rM_M_isLinked D clM (tysM cA) (wM ad cA) [.ref (ad 0), .int x1, .int x2] σ r σ' :=
  jx_metI (by decide) rfl (Nat.le_of_ble_eq_true rfl) (fun K A h => J_M_M_isLinked K D A ad cA N h x1 x2 σ) hf
def rM_M_depends : Room := { frames := 3, cells := 0, slots := 0, locals := 69 }
theorem rm_ok_M_M_depends : rM_M_depends.cells = 0 ∧ rM_M_depends.slots = 0 := ⟨rfl, rfl⟩
def M_M_depends_b23 (N : Nat) (k2 : Int32 → Int32 → SM → Option (Int32 × SM)) (v1 : Int32) (v2 : Int32) (s0 : Int32) (s1 : Int32) (σ : SM) : Option (Int32 × SM) := (if ck s1 12 = true then (nm (tM_M_with σ (upd (aM_M_with σ) s1.toNatClampNeg (vp_nar .boolean s0))) (fun (σ1 : SM) => (nm (v2 + 1) (fun (y2 : Int32) => (k2 v1 y2 σ1))))) else none)
set_option maxRecDepth 100000 in
set_option maxHeartbeats 4000000 in
theorem J_M_M_depends_b23 (K : jx_E) (D : va_G) (A : Nat → Prop) (ad : Nat → Nat) (cA : Nat → ClassId) (N : Nat) (h : jx_ok K D clM (tysM cA) A 6 b_M_depends y_M_depends.cls ((Cond.code y_M_depends b_M_depends 6 (some .int)) :: tblG) rM_M_depends (some .int)) (k2 : Int32 → Int32 → SM → Option (Int32 × SM)) (hk2 : ∀ (v1 : Int32) (v2 : Int32) (σ : SM), J K D clM A 6 (wM ad cA) (jx_Qi K D clM (tysM cA) (wM ad cA) A) 0 0 2 [(0, .ref (ad 0)), (1, .int v1), (2, .int v2)] [] σ (k2 v1 v2 σ)) : ∀ (v1 : Int32) (v2 : Int32) (s0 : Int32) (s1 : Int32) (σ : SM), J K D clM A 6 (wM ad cA) (jx_Qi K D clM (tysM cA) (wM ad cA) A) 0 0 23 [(0, .ref (ad 0)), (1, .int v1), (2, .int v2)] [.int s0, .int s1, .ref (ad 39)] σ (M_M_depends_b23 N k2 v1 v2 s0 s1 σ) := by
  intro v1 v2 s0 s1 σ
  rw [M_M_depends_b23]
  refine J_zast h 39 38 (wM_39 ad cA σ) rfl (uM_39 ad cA σ _) d_M_depends_23 (fun σ1 => ?_)
  refine J_iinc (q := 2) (c := 1) (lv' := fun y2 => [(2, .int y2), (0, .ref (ad 0)), (1, .int v1)]) h d_M_depends_24 rfl (by decide) (by decide) (fun _ => rfl) (fun y2 => ?_)
  refine J_goto (tgt := 2) h d_M_depends_27 (by decide) ?_
  refine J_sub [1, 2, 0] rfl ?_
  exact hk2 v1 y2 σ1
def M_M_depends_L2 (N : Nat) (k30 : SM → Option (Int32 × SM)) : Nat → Int32 → Int32 → SM → Option (Int32 × SM)
  | 0, _, _, _ => none
  | n + 1, v1, v2, σ => (if (12 : Int32) ≤ v2 then (k30  σ) else (if v2 = v1 then (M_M_depends_b23 N (M_M_depends_L2 N k30 n) v1 v2 1 v2 σ) else (M_M_depends_b23 N (M_M_depends_L2 N k30 n) v1 v2 0 v2 σ)))
set_option maxRecDepth 100000 in
set_option maxHeartbeats 4000000 in
theorem J_M_M_depends_L2 (K : jx_E) (D : va_G) (A : Nat → Prop) (ad : Nat → Nat) (cA : Nat → ClassId) (N : Nat) (h : jx_ok K D clM (tysM cA) A 6 b_M_depends y_M_depends.cls ((Cond.code y_M_depends b_M_depends 6 (some .int)) :: tblG) rM_M_depends (some .int)) (k30 : SM → Option (Int32 × SM)) (hk30 : ∀  (σ : SM), J K D clM A 6 (wM ad cA) (jx_Qi K D clM (tysM cA) (wM ad cA) A) 0 0 30 [(0, .ref (ad 0))] [] σ (k30  σ)) : ∀ (n : Nat) (v1 : Int32) (v2 : Int32) (σ : SM), J K D clM A 6 (wM ad cA) (jx_Qi K D clM (tysM cA) (wM ad cA) A) 0 0 2 [(0, .ref (ad 0)), (1, .int v1), (2, .int v2)] [] σ (M_M_depends_L2 N k30 n v1 v2 σ) := by
  intro n
  induction n with
  | zero => intro v1 v2 σ; exact J_none
  | succ n ih =>
    intro v1 v2 σ
    rw [M_M_depends_L2]
    refine J_iload_n (q := 2) h d_M_depends_2 rfl rfl ?_
    refine J_bipush (v := 12) h d_M_depends_3 (by decide) ?_
    refine J_icmp_ge (tgt := 30) h d_M_depends_5 (by decide) ?_ ?_
    · refine J_sub [0] rfl ?_
      exact hk30  σ
    · refine J_aload_n (q := 0) h d_M_depends_8 rfl rfl ?_
      refine J_getf h 0 (wM_0 ad cA σ) (tb_ups in_M) rfl 59 (by decide) (tb_up q_4_141) rfl d_M_depends_9 ?_
      refine J_iload_n (q := 2) h d_M_depends_12 rfl rfl ?_
      refine J_iload_n (q := 2) h d_M_depends_13 rfl rfl ?_
      refine J_iload_n (q := 1) h d_M_depends_14 rfl rfl ?_
      refine J_icmp_ne (tgt := 22) h d_M_depends_15 (by decide) ?_ ?_
      · refine J_iconst (v := 1) h d_M_depends_18 (by decide) ?_
        refine J_goto (tgt := 23) h d_M_depends_19 (by decide) ?_
        exact J_M_M_depends_b23 K D A ad cA N h (M_M_depends_L2 N k30 n) ih v1 v2 1 v2 σ
      · refine J_iconst (v := 0) h d_M_depends_22 (by decide) ?_
        exact J_M_M_depends_b23 K D A ad cA N h (M_M_depends_L2 N k30 n) ih v1 v2 0 v2 σ
def M_M_depends_b118 (N : Nat) (k55 : Int32 → Int32 → Int32 → Int32 → SM → Option (Int32 × SM)) (v2 : Int32) (v3 : Int32) (v4 : Int32) (v5 : Int32) (σ : SM) : Option (Int32 × SM) := (nm (v5 + 1) (fun (y3 : Int32) => (k55 v2 v3 v4 y3 σ)))
set_option maxRecDepth 100000 in
set_option maxHeartbeats 4000000 in
theorem J_M_M_depends_b118 (K : jx_E) (D : va_G) (A : Nat → Prop) (ad : Nat → Nat) (cA : Nat → ClassId) (N : Nat) (h : jx_ok K D clM (tysM cA) A 6 b_M_depends y_M_depends.cls ((Cond.code y_M_depends b_M_depends 6 (some .int)) :: tblG) rM_M_depends (some .int)) (k55 : Int32 → Int32 → Int32 → Int32 → SM → Option (Int32 × SM)) (hk55 : ∀ (v2 : Int32) (v3 : Int32) (v4 : Int32) (v5 : Int32) (σ : SM), J K D clM A 6 (wM ad cA) (jx_Qi K D clM (tysM cA) (wM ad cA) A) 0 0 55 [(0, .ref (ad 0)), (2, .int v2), (3, .int v3), (4, .int v4), (5, .int v5)] [] σ (k55 v2 v3 v4 v5 σ)) : ∀ (v2 : Int32) (v3 : Int32) (v4 : Int32) (v5 : Int32) (σ : SM), J K D clM A 6 (wM ad cA) (jx_Qi K D clM (tysM cA) (wM ad cA) A) 0 0 118 [(0, .ref (ad 0)), (2, .int v2), (3, .int v3), (4, .int v4), (5, .int v5)] [] σ (M_M_depends_b118 N k55 v2 v3 v4 v5 σ) := by
  intro v2 v3 v4 v5 σ
  rw [M_M_depends_b118]
  refine J_iinc (q := 4) (c := 1) (lv' := fun y3 => [(5, .int y3), (0, .ref (ad 0)), (2, .int v2), (3, .int v3), (4, .int v4)]) h d_M_depends_118 rfl (by decide) (by decide) (fun _ => rfl) (fun y3 => ?_)
  refine J_goto (tgt := 55) h d_M_depends_121 (by decide) ?_
  refine J_sub [1, 2, 3, 4, 0] rfl ?_
  exact hk55 v2 v3 v4 y3 σ
def M_M_depends_L55 (N : Nat) (k124 : Int32 → Int32 → Int32 → SM → Option (Int32 × SM)) : Nat → Int32 → Int32 → Int32 → Int32 → SM → Option (Int32 × SM)
  | 0, _, _, _, _, _ => none
  | n + 1, v2, v3, v4, v5, σ => (if (gM_M_variables σ) ≤ v5 then (k124 v2 v3 v4 σ) else (if ck v4 12 = true then (if (aM_M_with σ v4.toNatClampNeg) = 0 then (M_M_depends_b118 N (M_M_depends_L55 N k124 n) v2 v3 v4 v5 σ) else (if ck v5 12 = true then (if (aM_M_with σ v5.toNatClampNeg) = 0 then (if ck v5 12 = true then (if (aM_M_settled σ v5.toNatClampNeg) = 0 then (bd (M_M_isLinked N v4 v5 σ) (fun (r4 : Int32) (σ5 : SM) => (if r4 = 0 then (M_M_depends_b118 N (M_M_depends_L55 N k124 n) v2 v3 v4 v5 σ5) else (if ck v5 12 = true then (nm (tM_M_with σ5 (upd (aM_M_with σ5) v5.toNatClampNeg (vp_nar .boolean 1))) (fun (σ6 : SM) => (nm (v2 + 1) (fun (y7 : Int32) => (M_M_depends_b118 N (M_M_depends_L55 N k124 n) y7 1 v4 v5 σ6))))) else none)))) else (M_M_depends_b118 N (M_M_depends_L55 N k124 n) v2 v3 v4 v5 σ)) else none) else (M_M_depends_b118 N (M_M_depends_L55 N k124 n) v2 v3 v4 v5 σ)) else none)) else none))
set_option maxRecDepth 100000 in
set_option maxHeartbeats 4000000 in
theorem J_M_M_depends_L55 (K : jx_E) (D : va_G) (A : Nat → Prop) (ad : Nat → Nat) (cA : Nat → ClassId) (N : Nat) (h : jx_ok K D clM (tysM cA) A 6 b_M_depends y_M_depends.cls ((Cond.code y_M_depends b_M_depends 6 (some .int)) :: tblG) rM_M_depends (some .int)) (k124 : Int32 → Int32 → Int32 → SM → Option (Int32 × SM)) (hk124 : ∀ (v2 : Int32) (v3 : Int32) (v4 : Int32) (σ : SM), J K D clM A 6 (wM ad cA) (jx_Qi K D clM (tysM cA) (wM ad cA) A) 0 0 124 [(0, .ref (ad 0)), (2, .int v2), (3, .int v3), (4, .int v4)] [] σ (k124 v2 v3 v4 σ)) : ∀ (n : Nat) (v2 : Int32) (v3 : Int32) (v4 : Int32) (v5 : Int32) (σ : SM), J K D clM A 6 (wM ad cA) (jx_Qi K D clM (tysM cA) (wM ad cA) A) 0 0 55 [(0, .ref (ad 0)), (2, .int v2), (3, .int v3), (4, .int v4), (5, .int v5)] [] σ (M_M_depends_L55 N k124 n v2 v3 v4 v5 σ) := by
  intro n
  induction n with
  | zero => intro v2 v3 v4 v5 σ; exact J_none
  | succ n ih =>
    intro v2 v3 v4 v5 σ
    rw [M_M_depends_L55]
    refine J_iload (q := 4) h d_M_depends_55 rfl ?_
    refine J_aload_n (q := 0) h d_M_depends_57 rfl rfl ?_
    refine J_getf h 0 (wM_0 ad cA σ) (tb_ups in_M) rfl 17 (by decide) (tb_up q_4_99) rfl d_M_depends_58 ?_
    refine J_icmp_ge (tgt := 124) h d_M_depends_61 (by decide) ?_ ?_
    · refine J_sub [0, 1, 2, 3] rfl ?_
      exact hk124 v2 v3 v4 σ
    · refine J_aload_n (q := 0) h d_M_depends_64 rfl rfl ?_
      refine J_getf h 0 (wM_0 ad cA σ) (tb_ups in_M) rfl 59 (by decide) (tb_up q_4_141) rfl d_M_depends_65 ?_
      refine J_iload (q := 3) h d_M_depends_68 rfl ?_
      refine J_zald h 39 38 (wM_39 ad cA σ) rfl d_M_depends_70 ?_
      refine J_if_eq (tgt := 118) h d_M_depends_71 (by decide) ?_ ?_
      · exact J_M_M_depends_b118 K D A ad cA N h (M_M_depends_L55 N k124 n) ih v2 v3 v4 v5 σ
      · refine J_aload_n (q := 0) h d_M_depends_74 rfl rfl ?_
        refine J_getf h 0 (wM_0 ad cA σ) (tb_ups in_M) rfl 59 (by decide) (tb_up q_4_141) rfl d_M_depends_75 ?_
        refine J_iload (q := 4) h d_M_depends_78 rfl ?_
        refine J_zald h 39 38 (wM_39 ad cA σ) rfl d_M_depends_80 ?_
        refine J_if_ne (tgt := 118) h d_M_depends_81 (by decide) ?_ ?_
        · refine J_aload_n (q := 0) h d_M_depends_84 rfl rfl ?_
          refine J_getf h 0 (wM_0 ad cA σ) (tb_ups in_M) rfl 58 (by decide) (tb_up q_4_140) rfl d_M_depends_85 ?_
          refine J_iload (q := 4) h d_M_depends_88 rfl ?_
          refine J_zald h 38 37 (wM_38 ad cA σ) rfl d_M_depends_90 ?_
          refine J_if_ne (tgt := 118) h d_M_depends_91 (by decide) ?_ ?_
          · refine J_aload_n (q := 0) h d_M_depends_94 rfl rfl ?_
            refine J_iload (q := 3) h d_M_depends_95 rfl ?_
            refine J_iload (q := 4) h d_M_depends_97 rfl ?_
            refine J_callVi (As := [.int v4, .int v5]) (st := []) (rmc := rM_M_isLinked) (q0 := 0) h (fun _ _ hf => cM_M_isLinked (jl K) D ad cA N v4 v5 σ _ _ hf) (gd_V q_5_237 q_5_239 q_s_61 q_1_12 q_6_0) rfl ⟨rfl, rfl⟩ dd_M_isLinked ⟨Nat.le_of_ble_eq_true rfl, Nat.le_of_ble_eq_true rfl⟩ rfl rfl (wM_0 ad cA σ) rfl rfl (Nat.le_of_ble_eq_true rfl) ⟨Nat.zero_le _, Nat.zero_le _⟩ d_M_depends_99 (fun r4 σ5 => ?_)
            refine J_if_eq (tgt := 118) h d_M_depends_102 (by decide) ?_ ?_
            · exact J_M_M_depends_b118 K D A ad cA N h (M_M_depends_L55 N k124 n) ih v2 v3 v4 v5 σ5
            · refine J_aload_n (q := 0) h d_M_depends_105 rfl rfl ?_
              refine J_getf h 0 (wM_0 ad cA σ5) (tb_ups in_M) rfl 59 (by decide) (tb_up q_4_141) rfl d_M_depends_106 ?_
              refine J_iload (q := 4) h d_M_depends_109 rfl ?_
              refine J_iconst (v := 1) h d_M_depends_111 (by decide) ?_
              refine J_zast h 39 38 (wM_39 ad cA σ5) rfl (uM_39 ad cA σ5 _) d_M_depends_112 (fun σ6 => ?_)
              refine J_iinc (q := 1) (c := 1) (lv' := fun y7 => [(2, .int y7), (0, .ref (ad 0)), (3, .int v3), (4, .int v4), (5, .int v5)]) h d_M_depends_113 rfl (by decide) (by decide) (fun _ => rfl) (fun y7 => ?_)
              refine J_iconst (v := 1) h d_M_depends_116 (by decide) ?_
              refine J_istore_n (lv' := [(3, .int 1), (2, .int y7), (0, .ref (ad 0)), (4, .int v4), (5, .int v5)]) h d_M_depends_117 rfl (by decide) rfl ?_
              refine J_sub [2, 1, 0, 3, 4] rfl ?_
              exact J_M_M_depends_b118 K D A ad cA N h (M_M_depends_L55 N k124 n) ih y7 1 v4 v5 σ6
          · exact J_M_M_depends_b118 K D A ad cA N h (M_M_depends_L55 N k124 n) ih v2 v3 v4 v5 σ
        · exact J_M_M_depends_b118 K D A ad cA N h (M_M_depends_L55 N k124 n) ih v2 v3 v4 v5 σ
def M_M_depends_b124 (N : Nat) (k43 : Int32 → Int32 → Int32 → SM → Option (Int32 × SM)) (v2 : Int32) (v3 : Int32) (v4 : Int32) (σ : SM) : Option (Int32 × SM) := (nm (v4 + 1) (fun (y8 : Int32) => (k43 v2 v3 y8 σ)))
set_option maxRecDepth 100000 in
set_option maxHeartbeats 4000000 in
theorem J_M_M_depends_b124 (K : jx_E) (D : va_G) (A : Nat → Prop) (ad : Nat → Nat) (cA : Nat → ClassId) (N : Nat) (h : jx_ok K D clM (tysM cA) A 6 b_M_depends y_M_depends.cls ((Cond.code y_M_depends b_M_depends 6 (some .int)) :: tblG) rM_M_depends (some .int)) (k43 : Int32 → Int32 → Int32 → SM → Option (Int32 × SM)) (hk43 : ∀ (v2 : Int32) (v3 : Int32) (v4 : Int32) (σ : SM), J K D clM A 6 (wM ad cA) (jx_Qi K D clM (tysM cA) (wM ad cA) A) 0 0 43 [(0, .ref (ad 0)), (2, .int v2), (3, .int v3), (4, .int v4)] [] σ (k43 v2 v3 v4 σ)) : ∀ (v2 : Int32) (v3 : Int32) (v4 : Int32) (σ : SM), J K D clM A 6 (wM ad cA) (jx_Qi K D clM (tysM cA) (wM ad cA) A) 0 0 124 [(0, .ref (ad 0)), (2, .int v2), (3, .int v3), (4, .int v4)] [] σ (M_M_depends_b124 N k43 v2 v3 v4 σ) := by
  intro v2 v3 v4 σ
  rw [M_M_depends_b124]
  refine J_iinc (q := 3) (c := 1) (lv' := fun y8 => [(4, .int y8), (0, .ref (ad 0)), (2, .int v2), (3, .int v3)]) h d_M_depends_124 rfl (by decide) (by decide) (fun _ => rfl) (fun y8 => ?_)
  refine J_goto (tgt := 43) h d_M_depends_127 (by decide) ?_
  refine J_sub [1, 2, 3, 0] rfl ?_
  exact hk43 v2 v3 y8 σ
def M_M_depends_L43 (N : Nat) (k130 : Int32 → Int32 → SM → Option (Int32 × SM)) : Nat → Int32 → Int32 → Int32 → SM → Option (Int32 × SM)
  | 0, _, _, _, _ => none
  | n + 1, v2, v3, v4, σ => (if (gM_M_variables σ) ≤ v4 then (k130 v2 v3 σ) else (M_M_depends_L55 N (M_M_depends_b124 N (M_M_depends_L43 N k130 n)) N v2 v3 v4 0 σ))
set_option maxRecDepth 100000 in
set_option maxHeartbeats 4000000 in
theorem J_M_M_depends_L43 (K : jx_E) (D : va_G) (A : Nat → Prop) (ad : Nat → Nat) (cA : Nat → ClassId) (N : Nat) (h : jx_ok K D clM (tysM cA) A 6 b_M_depends y_M_depends.cls ((Cond.code y_M_depends b_M_depends 6 (some .int)) :: tblG) rM_M_depends (some .int)) (k130 : Int32 → Int32 → SM → Option (Int32 × SM)) (hk130 : ∀ (v2 : Int32) (v3 : Int32) (σ : SM), J K D clM A 6 (wM ad cA) (jx_Qi K D clM (tysM cA) (wM ad cA) A) 0 0 130 [(0, .ref (ad 0)), (2, .int v2), (3, .int v3)] [] σ (k130 v2 v3 σ)) : ∀ (n : Nat) (v2 : Int32) (v3 : Int32) (v4 : Int32) (σ : SM), J K D clM A 6 (wM ad cA) (jx_Qi K D clM (tysM cA) (wM ad cA) A) 0 0 43 [(0, .ref (ad 0)), (2, .int v2), (3, .int v3), (4, .int v4)] [] σ (M_M_depends_L43 N k130 n v2 v3 v4 σ) := by
  intro n
  induction n with
  | zero => intro v2 v3 v4 σ; exact J_none
  | succ n ih =>
    intro v2 v3 v4 σ
    rw [M_M_depends_L43]
    refine J_iload (q := 3) h d_M_depends_43 rfl ?_
    refine J_aload_n (q := 0) h d_M_depends_45 rfl rfl ?_
    refine J_getf h 0 (wM_0 ad cA σ) (tb_ups in_M) rfl 17 (by decide) (tb_up q_4_99) rfl d_M_depends_46 ?_
    refine J_icmp_ge (tgt := 130) h d_M_depends_49 (by decide) ?_ ?_
    · refine J_sub [0, 1, 2] rfl ?_
      exact hk130 v2 v3 σ
    · refine J_iconst (v := 0) h d_M_depends_52 (by decide) ?_
      refine J_istore (lv' := [(5, .int 0), (0, .ref (ad 0)), (2, .int v2), (3, .int v3), (4, .int v4)]) h d_M_depends_53 (by decide) rfl ?_
      refine J_sub [1, 2, 3, 4, 0] rfl ?_
      exact J_M_M_depends_L55 K D A ad cA N h (M_M_depends_b124 N (M_M_depends_L43 N k130 n)) (J_M_M_depends_b124 K D A ad cA N h (M_M_depends_L43 N k130 n) ih) N v2 v3 v4 0 σ
def M_M_depends_b130 (N : Nat) (k34 : Int32 → Int32 → SM → Option (Int32 × SM)) (v2 : Int32) (v3 : Int32) (σ : SM) : Option (Int32 × SM) := (k34 v2 v3 σ)
set_option maxRecDepth 100000 in
set_option maxHeartbeats 4000000 in
theorem J_M_M_depends_b130 (K : jx_E) (D : va_G) (A : Nat → Prop) (ad : Nat → Nat) (cA : Nat → ClassId) (N : Nat) (h : jx_ok K D clM (tysM cA) A 6 b_M_depends y_M_depends.cls ((Cond.code y_M_depends b_M_depends 6 (some .int)) :: tblG) rM_M_depends (some .int)) (k34 : Int32 → Int32 → SM → Option (Int32 × SM)) (hk34 : ∀ (v2 : Int32) (v3 : Int32) (σ : SM), J K D clM A 6 (wM ad cA) (jx_Qi K D clM (tysM cA) (wM ad cA) A) 0 0 34 [(0, .ref (ad 0)), (2, .int v2), (3, .int v3)] [] σ (k34 v2 v3 σ)) : ∀ (v2 : Int32) (v3 : Int32) (σ : SM), J K D clM A 6 (wM ad cA) (jx_Qi K D clM (tysM cA) (wM ad cA) A) 0 0 130 [(0, .ref (ad 0)), (2, .int v2), (3, .int v3)] [] σ (M_M_depends_b130 N k34 v2 v3 σ) := by
  intro v2 v3 σ
  rw [M_M_depends_b130]
  refine J_goto (tgt := 34) h d_M_depends_130 (by decide) ?_
  exact hk34 v2 v3 σ
def M_M_depends_L34 (N : Nat) : Nat → Int32 → Int32 → SM → Option (Int32 × SM)
  | 0, _, _, _ => none
  | n + 1, v2, v3, σ => (if v3 = 0 then (some (v2, σ)) else (M_M_depends_L43 N (M_M_depends_b130 N (M_M_depends_L34 N  n)) N v2 0 0 σ))
set_option maxRecDepth 100000 in
set_option maxHeartbeats 4000000 in
theorem J_M_M_depends_L34 (K : jx_E) (D : va_G) (A : Nat → Prop) (ad : Nat → Nat) (cA : Nat → ClassId) (N : Nat) (h : jx_ok K D clM (tysM cA) A 6 b_M_depends y_M_depends.cls ((Cond.code y_M_depends b_M_depends 6 (some .int)) :: tblG) rM_M_depends (some .int)) : ∀ (n : Nat) (v2 : Int32) (v3 : Int32) (σ : SM), J K D clM A 6 (wM ad cA) (jx_Qi K D clM (tysM cA) (wM ad cA) A) 0 0 34 [(0, .ref (ad 0)), (2, .int v2), (3, .int v3)] [] σ (M_M_depends_L34 N n v2 v3 σ) := by
  intro n
  induction n with
  | zero => intro v2 v3 σ; exact J_none
  | succ n ih =>
    intro v2 v3 σ
    rw [M_M_depends_L34]
    refine J_iload_n (q := 2) h d_M_depends_34 rfl rfl ?_
    refine J_if_eq (tgt := 133) h d_M_depends_35 (by decide) ?_ ?_
    · refine J_iload_n (q := 1) h d_M_depends_133 rfl rfl ?_
      exact J_iret h rfl d_M_depends_134
    · refine J_iconst (v := 0) h d_M_depends_38 (by decide) ?_
      refine J_istore_n (lv' := [(3, .int 0), (0, .ref (ad 0)), (2, .int v2)]) h d_M_depends_39 rfl (by decide) rfl ?_
      refine J_iconst (v := 0) h d_M_depends_40 (by decide) ?_
      refine J_istore (lv' := [(4, .int 0), (3, .int 0), (0, .ref (ad 0)), (2, .int v2)]) h d_M_depends_41 (by decide) rfl ?_
      refine J_sub [2, 3, 1, 0] rfl ?_
      exact J_M_M_depends_L43 K D A ad cA N h (M_M_depends_b130 N (M_M_depends_L34 N  n)) (J_M_M_depends_b130 K D A ad cA N h (M_M_depends_L34 N  n) ih) N v2 0 0 σ
def M_M_depends_b30 (N : Nat)  (σ : SM) : Option (Int32 × SM) := (M_M_depends_L34 N N 1 1 σ)
set_option maxRecDepth 100000 in
set_option maxHeartbeats 4000000 in
theorem J_M_M_depends_b30 (K : jx_E) (D : va_G) (A : Nat → Prop) (ad : Nat → Nat) (cA : Nat → ClassId) (N : Nat) (h : jx_ok K D clM (tysM cA) A 6 b_M_depends y_M_depends.cls ((Cond.code y_M_depends b_M_depends 6 (some .int)) :: tblG) rM_M_depends (some .int)) : ∀  (σ : SM), J K D clM A 6 (wM ad cA) (jx_Qi K D clM (tysM cA) (wM ad cA) A) 0 0 30 [(0, .ref (ad 0))] [] σ (M_M_depends_b30 N  σ) := by
  intro  σ
  rw [M_M_depends_b30]
  refine J_iconst (v := 1) h d_M_depends_30 (by decide) ?_
  refine J_istore_n (lv' := [(2, .int 1), (0, .ref (ad 0))]) h d_M_depends_31 rfl (by decide) rfl ?_
  refine J_iconst (v := 1) h d_M_depends_32 (by decide) ?_
  refine J_istore_n (lv' := [(3, .int 1), (2, .int 1), (0, .ref (ad 0))]) h d_M_depends_33 rfl (by decide) rfl ?_
  refine J_sub [2, 1, 0] rfl ?_
  exact J_M_M_depends_L34 K D A ad cA N h N 1 1 σ
def M_M_depends (N : Nat) (x1 : Int32) (σ : SM) : Option (Int32 × SM) := (M_M_depends_L2 N (M_M_depends_b30 N) N x1 0 σ)
set_option maxRecDepth 100000 in
set_option maxHeartbeats 4000000 in
theorem J_M_M_depends (K : jx_E) (D : va_G) (A : Nat → Prop) (ad : Nat → Nat) (cA : Nat → ClassId) (N : Nat) (h : jx_ok K D clM (tysM cA) A 6 b_M_depends y_M_depends.cls ((Cond.code y_M_depends b_M_depends 6 (some .int)) :: tblG) rM_M_depends (some .int)) : ∀ (x1 : Int32) (σ : SM), J K D clM A 6 (wM ad cA) (jx_Qi K D clM (tysM cA) (wM ad cA) A) 0 0 0 [(0, .ref (ad 0)), (1, .int x1)] [] σ (M_M_depends N x1 σ) := by
  intro x1 σ
  rw [M_M_depends]
  refine J_iconst (v := 0) h d_M_depends_0 (by decide) ?_
  refine J_istore_n (lv' := [(2, .int 0), (0, .ref (ad 0)), (1, .int x1)]) h d_M_depends_1 rfl (by decide) rfl ?_
  refine J_sub [1, 2, 0] rfl ?_
  exact J_M_M_depends_L2 K D A ad cA N h (M_M_depends_b30 N) (J_M_M_depends_b30 K D A ad cA N h) N x1 0 σ
set_option maxRecDepth 100000 in
theorem cM_M_depends (l : Launch) (D : va_G) (ad : Nat → Nat) (cA : Nat → ClassId) (N : Nat) (x1 : Int32) (σ : SM) (r : Int32) (σ' : SM) (hf : M_M_depends N x1 σ = some (r, σ')) : MetI l y_M_depends ((Cond.code y_M_depends b_M_depends 6 (some .int)) :: tblG) rM_M_depends D clM (tysM cA) (wM ad cA) [.ref (ad 0), .int x1] σ r σ' :=
  jx_metI (by decide) rfl (Nat.le_of_ble_eq_true rfl) (fun K A h => J_M_M_depends K D A ad cA N h x1 σ) hf
def rM_M_collect : Room := { frames := 0, cells := 0, slots := 0, locals := 0 }
theorem rm_ok_M_M_collect : rM_M_collect.cells = 0 ∧ rM_M_collect.slots = 0 := ⟨rfl, rfl⟩
def M_M_collect_b74 (N : Nat) (k7 : Int32 → Int32 → Int32 → SM → Option (Unit × SM)) (v1 : Int32) (v2 : Int32) (v3 : Int32) (σ : SM) : Option (Unit × SM) := (nm (v3 + 1) (fun (y2 : Int32) => (k7 v1 v2 y2 σ)))
set_option maxRecDepth 100000 in
set_option maxHeartbeats 4000000 in
theorem J_M_M_collect_b74 (K : jx_E) (D : va_G) (A : Nat → Prop) (ad : Nat → Nat) (cA : Nat → ClassId) (N : Nat) (h : jx_ok K D clM (tysM cA) A 4 b_M_collect y_M_collect.cls ((Cond.code y_M_collect b_M_collect 4 none) :: tblG) rM_M_collect none) (k7 : Int32 → Int32 → Int32 → SM → Option (Unit × SM)) (hk7 : ∀ (v1 : Int32) (v2 : Int32) (v3 : Int32) (σ : SM), J K D clM A 4 (wM ad cA) (jx_Qv K D clM (tysM cA) (wM ad cA) A) 0 0 7 [(0, .ref (ad 0)), (1, .int v1), (2, .int v2), (3, .int v3)] [] σ (k7 v1 v2 v3 σ)) : ∀ (v1 : Int32) (v2 : Int32) (v3 : Int32) (σ : SM), J K D clM A 4 (wM ad cA) (jx_Qv K D clM (tysM cA) (wM ad cA) A) 0 0 74 [(0, .ref (ad 0)), (1, .int v1), (2, .int v2), (3, .int v3)] [] σ (M_M_collect_b74 N k7 v1 v2 v3 σ) := by
  intro v1 v2 v3 σ
  rw [M_M_collect_b74]
  refine J_iinc (q := 3) (c := 1) (lv' := fun y2 => [(3, .int y2), (0, .ref (ad 0)), (1, .int v1), (2, .int v2)]) h d_M_collect_74 rfl (by decide) (by decide) (fun _ => rfl) (fun y2 => ?_)
  refine J_goto (tgt := 7) h d_M_collect_77 (by decide) ?_
  refine J_sub [1, 2, 3, 0] rfl ?_
  exact hk7 v1 v2 y2 σ
def M_M_collect_L7 (N : Nat) : Nat → Int32 → Int32 → Int32 → SM → Option (Unit × SM)
  | 0, _, _, _, _ => none
  | n + 1, v1, v2, v3, σ => (if (gM_M_bounds σ) ≤ v3 then (some ((), σ)) else (if ck v3 200 = true then (if (aM_M_boundOf σ v3.toNatClampNeg) = v1 then (if ck v3 200 = true then (if (aM_M_boundSort σ v3.toNatClampNeg) = v2 then (if ck v3 200 = true then (if ck (aM_M_boundType σ v3.toNatClampNeg) 500 = true then (if (aM_M_proper σ (aM_M_boundType σ v3.toNatClampNeg).toNatClampNeg) = 0 then (M_M_collect_b74 N (M_M_collect_L7 N  n) v1 v2 v3 σ) else (if ck v3 200 = true then (if ck (gM_M_someMany σ) 200 = true then (nm (tM_M_some σ (upd (aM_M_some σ) (gM_M_someMany σ).toNatClampNeg (aM_M_boundType σ v3.toNatClampNeg))) (fun (σ3 : SM) => (nm (sM_M_someMany σ3 ((gM_M_someMany σ3) + 1)) (fun (σ4 : SM) => (M_M_collect_b74 N (M_M_collect_L7 N  n) v1 v2 v3 σ4))))) else none) else none)) else none) else none) else (M_M_collect_b74 N (M_M_collect_L7 N  n) v1 v2 v3 σ)) else none) else (M_M_collect_b74 N (M_M_collect_L7 N  n) v1 v2 v3 σ)) else none))
set_option maxRecDepth 100000 in
set_option maxHeartbeats 4000000 in
theorem J_M_M_collect_L7 (K : jx_E) (D : va_G) (A : Nat → Prop) (ad : Nat → Nat) (cA : Nat → ClassId) (N : Nat) (h : jx_ok K D clM (tysM cA) A 4 b_M_collect y_M_collect.cls ((Cond.code y_M_collect b_M_collect 4 none) :: tblG) rM_M_collect none) : ∀ (n : Nat) (v1 : Int32) (v2 : Int32) (v3 : Int32) (σ : SM), J K D clM A 4 (wM ad cA) (jx_Qv K D clM (tysM cA) (wM ad cA) A) 0 0 7 [(0, .ref (ad 0)), (1, .int v1), (2, .int v2), (3, .int v3)] [] σ (M_M_collect_L7 N n v1 v2 v3 σ) := by
  intro n
  induction n with
  | zero => intro v1 v2 v3 σ; exact J_none
  | succ n ih =>
    intro v1 v2 v3 σ
    rw [M_M_collect_L7]
    refine J_iload_n (q := 3) h d_M_collect_7 rfl rfl ?_
    refine J_aload_n (q := 0) h d_M_collect_8 rfl rfl ?_
    refine J_getf h 0 (wM_0 ad cA σ) (tb_ups in_M) rfl 49 (by decide) (tb_up q_4_131) rfl d_M_collect_9 ?_
    refine J_icmp_ge (tgt := 80) h d_M_collect_12 (by decide) ?_ ?_
    · exact J_vret h rfl d_M_collect_80
    · refine J_aload_n (q := 0) h d_M_collect_15 rfl rfl ?_
      refine J_getf h 0 (wM_0 ad cA σ) (tb_ups in_M) rfl 46 (by decide) (tb_up q_4_128) rfl d_M_collect_16 ?_
      refine J_iload_n (q := 3) h d_M_collect_19 rfl rfl ?_
      refine J_iald h 31 30 (wM_31 ad cA σ) rfl d_M_collect_20 ?_
      refine J_iload_n (q := 1) h d_M_collect_21 rfl rfl ?_
      refine J_icmp_ne (tgt := 74) h d_M_collect_22 (by decide) ?_ ?_
      · refine J_aload_n (q := 0) h d_M_collect_25 rfl rfl ?_
        refine J_getf h 0 (wM_0 ad cA σ) (tb_ups in_M) rfl 45 (by decide) (tb_up q_4_127) rfl d_M_collect_26 ?_
        refine J_iload_n (q := 3) h d_M_collect_29 rfl rfl ?_
        refine J_iald h 30 29 (wM_30 ad cA σ) rfl d_M_collect_30 ?_
        refine J_iload_n (q := 2) h d_M_collect_31 rfl rfl ?_
        refine J_icmp_ne (tgt := 74) h d_M_collect_32 (by decide) ?_ ?_
        · refine J_aload_n (q := 0) h d_M_collect_35 rfl rfl ?_
          refine J_getf h 0 (wM_0 ad cA σ) (tb_ups in_M) rfl 10 (by decide) (tb_up q_4_92) rfl d_M_collect_36 ?_
          refine J_aload_n (q := 0) h d_M_collect_39 rfl rfl ?_
          refine J_getf h 0 (wM_0 ad cA σ) (tb_ups in_M) rfl 47 (by decide) (tb_up q_4_129) rfl d_M_collect_40 ?_
          refine J_iload_n (q := 3) h d_M_collect_43 rfl rfl ?_
          refine J_iald h 32 31 (wM_32 ad cA σ) rfl d_M_collect_44 ?_
          refine J_zald h 10 9 (wM_10 ad cA σ) rfl d_M_collect_45 ?_
          refine J_if_eq (tgt := 74) h d_M_collect_46 (by decide) ?_ ?_
          · exact J_M_M_collect_b74 K D A ad cA N h (M_M_collect_L7 N  n) ih v1 v2 v3 σ
          · refine J_aload_n (q := 0) h d_M_collect_49 rfl rfl ?_
            refine J_getf h 0 (wM_0 ad cA σ) (tb_ups in_M) rfl 61 (by decide) (tb_up q_4_143) rfl d_M_collect_50 ?_
            refine J_aload_n (q := 0) h d_M_collect_53 rfl rfl ?_
            refine J_getf h 0 (wM_0 ad cA σ) (tb_ups in_M) rfl 62 (by decide) (tb_up q_4_144) rfl d_M_collect_54 ?_
            refine J_aload_n (q := 0) h d_M_collect_57 rfl rfl ?_
            refine J_getf h 0 (wM_0 ad cA σ) (tb_ups in_M) rfl 47 (by decide) (tb_up q_4_129) rfl d_M_collect_58 ?_
            refine J_iload_n (q := 3) h d_M_collect_61 rfl rfl ?_
            refine J_iald h 32 31 (wM_32 ad cA σ) rfl d_M_collect_62 ?_
            refine J_iast h 41 40 (wM_41 ad cA σ) rfl (uM_41 ad cA σ _) d_M_collect_63 (fun σ3 => ?_)
            refine J_aload_n (q := 0) h d_M_collect_64 rfl rfl ?_
            refine J_dup h d_M_collect_65 rfl ?_
            refine J_getf h 0 (wM_0 ad cA σ3) (tb_ups in_M) rfl 62 (by decide) (tb_up q_4_144) rfl d_M_collect_66 ?_
            refine J_iconst (v := 1) h d_M_collect_69 (by decide) ?_
            refine J_iadd h d_M_collect_70 ?_
            refine J_putf h 0 (wM_0 ad cA σ3) (tb_ups in_M) rfl ft_M ft_M_ok nm_M 62 (by decide) (tb_up q_4_144) rfl rfl rfl (Nat.le_of_ble_eq_true rfl) (pM_0_62 ad cA σ3 ((gM_M_someMany σ3) + 1)) d_M_collect_71 (fun σ4 => ?_)
            exact J_M_M_collect_b74 K D A ad cA N h (M_M_collect_L7 N  n) ih v1 v2 v3 σ4
        · exact J_M_M_collect_b74 K D A ad cA N h (M_M_collect_L7 N  n) ih v1 v2 v3 σ
      · exact J_M_M_collect_b74 K D A ad cA N h (M_M_collect_L7 N  n) ih v1 v2 v3 σ
def M_M_collect (N : Nat) (x1 : Int32) (x2 : Int32) (σ : SM) : Option (Unit × SM) := (nm (sM_M_someMany σ 0) (fun (σ1 : SM) => (M_M_collect_L7 N N x1 x2 0 σ1)))
set_option maxRecDepth 100000 in
set_option maxHeartbeats 4000000 in
theorem J_M_M_collect (K : jx_E) (D : va_G) (A : Nat → Prop) (ad : Nat → Nat) (cA : Nat → ClassId) (N : Nat) (h : jx_ok K D clM (tysM cA) A 4 b_M_collect y_M_collect.cls ((Cond.code y_M_collect b_M_collect 4 none) :: tblG) rM_M_collect none) : ∀ (x1 : Int32) (x2 : Int32) (σ : SM), J K D clM A 4 (wM ad cA) (jx_Qv K D clM (tysM cA) (wM ad cA) A) 0 0 0 [(0, .ref (ad 0)), (1, .int x1), (2, .int x2)] [] σ (M_M_collect N x1 x2 σ) := by
  intro x1 x2 σ
  rw [M_M_collect]
  refine J_aload_n (q := 0) h d_M_collect_0 rfl rfl ?_
  refine J_iconst (v := 0) h d_M_collect_1 (by decide) ?_
  refine J_putf h 0 (wM_0 ad cA σ) (tb_ups in_M) rfl ft_M ft_M_ok nm_M 62 (by decide) (tb_up q_4_144) rfl rfl rfl (Nat.le_of_ble_eq_true rfl) (pM_0_62 ad cA σ 0) d_M_collect_2 (fun σ1 => ?_)
  refine J_iconst (v := 0) h d_M_collect_5 (by decide) ?_
  refine J_istore_n (lv' := [(3, .int 0), (0, .ref (ad 0)), (1, .int x1), (2, .int x2)]) h d_M_collect_6 rfl (by decide) rfl ?_
  refine J_sub [1, 2, 3, 0] rfl ?_
  exact J_M_M_collect_L7 K D A ad cA N h N x1 x2 0 σ1
set_option maxRecDepth 100000 in
theorem cM_M_collect (l : Launch) (D : va_G) (ad : Nat → Nat) (cA : Nat → ClassId) (N : Nat) (x1 : Int32) (x2 : Int32) (σ : SM) (r : Unit) (σ' : SM) (hf : M_M_collect N x1 x2 σ = some (r, σ')) : MetV l y_M_collect ((Cond.code y_M_collect b_M_collect 4 none) :: tblG) rM_M_collect D clM (tysM cA) (wM ad cA) [.ref (ad 0), .int x1, .int x2] σ r σ' :=
  jx_metV (by decide) rfl (Nat.le_of_ble_eq_true rfl) (fun K A h => J_M_M_collect K D A ad cA N h x1 x2 σ) hf
