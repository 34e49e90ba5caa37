def rM_M_chooseAll : Room := { frames := 10, cells := 0, slots := 0, locals := 254 }
theorem rm_ok_M_M_chooseAll : rM_M_chooseAll.cells = 0 ∧ rM_M_chooseAll.slots = 0 := ⟨rfl, rfl⟩
def M_M_chooseAll_b64 (N : Nat) (k4 : Int32 → Int32 → SM → Option (Int32 × SM)) (v2 : Int32) (s0 : Int32) (σ : SM) : Option (Int32 × SM) := (nm (v2 + 1) (fun (y2 : Int32) => (k4 s0 y2 σ)))
set_option maxRecDepth 100000 in
set_option maxHeartbeats 4000000 in
theorem J_M_M_chooseAll_b64 (K : jx_E) (D : va_G) (A : Nat → Prop) (ad : Nat → Nat) (cA : Nat → ClassId) (N : Nat) (h : jx_ok K D clM (tysM cA) A 3 b_M_chooseAll y_M_chooseAll.cls ((Cond.code y_M_chooseAll b_M_chooseAll 3 (some .boolean)) :: tblG) rM_M_chooseAll (some .boolean)) (k4 : Int32 → Int32 → SM → Option (Int32 × SM)) (hk4 : ∀ (v1 : Int32) (v2 : Int32) (σ : SM), J K D clM A 3 (wM ad cA) (jx_Qi K D clM (tysM cA) (wM ad cA) A) 0 0 4 [(0, .ref (ad 0)), (1, .int v1), (2, .int v2)] [] σ (k4 v1 v2 σ)) : ∀ (v2 : Int32) (s0 : Int32) (σ : SM), J K D clM A 3 (wM ad cA) (jx_Qi K D clM (tysM cA) (wM ad cA) A) 0 0 64 [(0, .ref (ad 0)), (2, .int v2)] [.int s0] σ (M_M_chooseAll_b64 N k4 v2 s0 σ) := by
  intro v2 s0 σ
  rw [M_M_chooseAll_b64]
  refine J_istore_n (lv' := [(1, .int s0), (0, .ref (ad 0)), (2, .int v2)]) h d_M_chooseAll_64 rfl (by decide) rfl ?_
  refine J_iinc (q := 2) (c := 1) (lv' := fun y2 => [(2, .int y2), (1, .int s0), (0, .ref (ad 0))]) h d_M_chooseAll_65 rfl (by decide) (by decide) (fun _ => rfl) (fun y2 => ?_)
  refine J_goto (tgt := 4) h d_M_chooseAll_68 (by decide) ?_
  refine J_sub [2, 1, 0] rfl ?_
  exact hk4 s0 y2 σ
def M_M_chooseAll_b59 (N : Nat) (k4 : Int32 → Int32 → SM → Option (Int32 × SM)) (v2 : Int32) (σ : SM) : Option (Int32 × SM) := (M_M_chooseAll_b64 N k4 v2 1 σ)
set_option maxRecDepth 100000 in
set_option maxHeartbeats 4000000 in
theorem J_M_M_chooseAll_b59 (K : jx_E) (D : va_G) (A : Nat → Prop) (ad : Nat → Nat) (cA : Nat → ClassId) (N : Nat) (h : jx_ok K D clM (tysM cA) A 3 b_M_chooseAll y_M_chooseAll.cls ((Cond.code y_M_chooseAll b_M_chooseAll 3 (some .boolean)) :: tblG) rM_M_chooseAll (some .boolean)) (k4 : Int32 → Int32 → SM → Option (Int32 × SM)) (hk4 : ∀ (v1 : Int32) (v2 : Int32) (σ : SM), J K D clM A 3 (wM ad cA) (jx_Qi K D clM (tysM cA) (wM ad cA) A) 0 0 4 [(0, .ref (ad 0)), (1, .int v1), (2, .int v2)] [] σ (k4 v1 v2 σ)) : ∀ (v2 : Int32) (σ : SM), J K D clM A 3 (wM ad cA) (jx_Qi K D clM (tysM cA) (wM ad cA) A) 0 0 59 [(0, .ref (ad 0)), (2, .int v2)] [] σ (M_M_chooseAll_b59 N k4 v2 σ) := by
  intro v2 σ
  rw [M_M_chooseAll_b59]
  refine J_iconst (v := 1) h d_M_chooseAll_59 (by decide) ?_
  refine J_goto (tgt := 64) h d_M_chooseAll_60 (by decide) ?_
  exact J_M_M_chooseAll_b64 K D A ad cA N h k4 hk4 v2 1 σ
def M_M_chooseAll_b39 (N : Nat) (k4 : Int32 → Int32 → SM → Option (Int32 × SM)) (v2 : Int32) (s0 : Int32) (s1 : Int32) (σ : SM) : Option (Int32 × SM) := (if ck s1 12 = true then (nm (tM_M_chosen σ (upd (aM_M_chosen σ) s1.toNatClampNeg s0)) (fun (σ1 : SM) => (if ck v2 12 = true then (if (aM_M_with σ1 v2.toNatClampNeg) = 0 then (M_M_chooseAll_b59 N k4 v2 σ1) else (if ck v2 12 = true then (if (aM_M_chosen σ1 v2.toNatClampNeg) = (-1) then (M_M_chooseAll_b64 N k4 v2 0 σ1) else (M_M_chooseAll_b59 N k4 v2 σ1)) else none)) else none))) else none)
set_option maxRecDepth 100000 in
set_option maxHeartbeats 4000000 in
theorem J_M_M_chooseAll_b39 (K : jx_E) (D : va_G) (A : Nat → Prop) (ad : Nat → Nat) (cA : Nat → ClassId) (N : Nat) (h : jx_ok K D clM (tysM cA) A 3 b_M_chooseAll y_M_chooseAll.cls ((Cond.code y_M_chooseAll b_M_chooseAll 3 (some .boolean)) :: tblG) rM_M_chooseAll (some .boolean)) (k4 : Int32 → Int32 → SM → Option (Int32 × SM)) (hk4 : ∀ (v1 : Int32) (v2 : Int32) (σ : SM), J K D clM A 3 (wM ad cA) (jx_Qi K D clM (tysM cA) (wM ad cA) A) 0 0 4 [(0, .ref (ad 0)), (1, .int v1), (2, .int v2)] [] σ (k4 v1 v2 σ)) : ∀ (v2 : Int32) (s0 : Int32) (s1 : Int32) (σ : SM), J K D clM A 3 (wM ad cA) (jx_Qi K D clM (tysM cA) (wM ad cA) A) 0 0 39 [(0, .ref (ad 0)), (2, .int v2)] [.int s0, .int s1, .ref (ad 40)] σ (M_M_chooseAll_b39 N k4 v2 s0 s1 σ) := by
  intro v2 s0 s1 σ
  rw [M_M_chooseAll_b39]
  refine J_iast h 40 39 (wM_40 ad cA σ) rfl (uM_40 ad cA σ _) d_M_chooseAll_39 (fun σ1 => ?_)
  refine J_aload_n (q := 0) h d_M_chooseAll_40 rfl rfl ?_
  refine J_getf h 0 (wM_0 ad cA σ1) (tb_ups in_M) rfl 59 (by decide) (tb_up q_4_141) rfl d_M_chooseAll_41 ?_
  refine J_iload_n (q := 1) h d_M_chooseAll_44 rfl rfl ?_
  refine J_zald h 39 38 (wM_39 ad cA σ1) rfl d_M_chooseAll_45 ?_
  refine J_if_eq (tgt := 59) h d_M_chooseAll_46 (by decide) ?_ ?_
  · exact J_M_M_chooseAll_b59 K D A ad cA N h k4 hk4 v2 σ1
  · refine J_aload_n (q := 0) h d_M_chooseAll_49 rfl rfl ?_
    refine J_getf h 0 (wM_0 ad cA σ1) (tb_ups in_M) rfl 60 (by decide) (tb_up q_4_142) rfl d_M_chooseAll_50 ?_
    refine J_iload_n (q := 1) h d_M_chooseAll_53 rfl rfl ?_
    refine J_iald h 40 39 (wM_40 ad cA σ1) rfl d_M_chooseAll_54 ?_
    refine J_iconst (v := (-1)) h d_M_chooseAll_55 (by decide) ?_
    refine J_icmp_eq (tgt := 63) h d_M_chooseAll_56 (by decide) ?_ ?_
    · refine J_iconst (v := 0) h d_M_chooseAll_63 (by decide) ?_
      exact J_M_M_chooseAll_b64 K D A ad cA N h k4 hk4 v2 0 σ1
    · exact J_M_M_chooseAll_b59 K D A ad cA N h k4 hk4 v2 σ1
def M_M_chooseAll_L4 (N : Nat) (k71 : Int32 → SM → Option (Int32 × SM)) : Nat → Int32 → Int32 → SM → Option (Int32 × SM)
  | 0, _, _, _ => none
  | n + 1, v1, v2, σ => (if (gM_M_variables σ) ≤ v2 then (k71 v1 σ) else (if v1 = 0 then (k71 v1 σ) else (if ck v2 12 = true then (if (aM_M_with σ v2.toNatClampNeg) = 0 then (M_M_chooseAll_b39 N (M_M_chooseAll_L4 N k71 n) v2 (-1) v2 σ) else (bd (M_M_choose N v2 σ) (fun (r3 : Int32) (σ4 : SM) => (M_M_chooseAll_b39 N (M_M_chooseAll_L4 N k71 n) v2 r3 v2 σ4)))) else none)))
set_option maxRecDepth 100000 in
set_option maxHeartbeats 4000000 in
theorem J_M_M_chooseAll_L4 (K : jx_E) (D : va_G) (A : Nat → Prop) (ad : Nat → Nat) (cA : Nat → ClassId) (N : Nat) (h : jx_ok K D clM (tysM cA) A 3 b_M_chooseAll y_M_chooseAll.cls ((Cond.code y_M_chooseAll b_M_chooseAll 3 (some .boolean)) :: tblG) rM_M_chooseAll (some .boolean)) (k71 : Int32 → SM → Option (Int32 × SM)) (hk71 : ∀ (v1 : Int32) (σ : SM), J K D clM A 3 (wM ad cA) (jx_Qi K D clM (tysM cA) (wM ad cA) A) 0 0 71 [(0, .ref (ad 0)), (1, .int v1)] [] σ (k71 v1 σ)) : ∀ (n : Nat) (v1 : Int32) (v2 : Int32) (σ : SM), J K D clM A 3 (wM ad cA) (jx_Qi K D clM (tysM cA) (wM ad cA) A) 0 0 4 [(0, .ref (ad 0)), (1, .int v1), (2, .int v2)] [] σ (M_M_chooseAll_L4 N k71 n v1 v2 σ) := by
  intro n
  induction n with
  | zero => intro v1 v2 σ; exact J_none
  | succ n ih =>
    intro v1 v2 σ
    rw [M_M_chooseAll_L4]
    refine J_iload_n (q := 2) h d_M_chooseAll_4 rfl rfl ?_
    refine J_aload_n (q := 0) h d_M_chooseAll_5 rfl rfl ?_
    refine J_getf h 0 (wM_0 ad cA σ) (tb_ups in_M) rfl 17 (by decide) (tb_up q_4_99) rfl d_M_chooseAll_6 ?_
    refine J_icmp_ge (tgt := 71) h d_M_chooseAll_9 (by decide) ?_ ?_
    · refine J_sub [0, 1] rfl ?_
      exact hk71 v1 σ
    · refine J_iload_n (q := 1) h d_M_chooseAll_12 rfl rfl ?_
      refine J_if_eq (tgt := 71) h d_M_chooseAll_13 (by decide) ?_ ?_
      · refine J_sub [0, 1] rfl ?_
        exact hk71 v1 σ
      · refine J_aload_n (q := 0) h d_M_chooseAll_16 rfl rfl ?_
        refine J_getf h 0 (wM_0 ad cA σ) (tb_ups in_M) rfl 60 (by decide) (tb_up q_4_142) rfl d_M_chooseAll_17 ?_
        refine J_iload_n (q := 2) h d_M_chooseAll_20 rfl rfl ?_
        refine J_aload_n (q := 0) h d_M_chooseAll_21 rfl rfl ?_
        refine J_getf h 0 (wM_0 ad cA σ) (tb_ups in_M) rfl 59 (by decide) (tb_up q_4_141) rfl d_M_chooseAll_22 ?_
        refine J_iload_n (q := 2) h d_M_chooseAll_25 rfl rfl ?_
        refine J_zald h 39 38 (wM_39 ad cA σ) rfl d_M_chooseAll_26 ?_
        refine J_if_eq (tgt := 38) h d_M_chooseAll_27 (by decide) ?_ ?_
        · refine J_iconst (v := (-1)) h d_M_chooseAll_38 (by decide) ?_
          refine J_sub [0, 2] rfl ?_
          exact J_M_M_chooseAll_b39 K D A ad cA N h (M_M_chooseAll_L4 N k71 n) ih v2 (-1) v2 σ
        · refine J_aload_n (q := 0) h d_M_chooseAll_30 rfl rfl ?_
          refine J_iload_n (q := 2) h d_M_chooseAll_31 rfl rfl ?_
          refine J_callVi (As := [.int v2]) (st := [.int v2, .ref (ad 40)]) (rmc := rM_M_choose) (q0 := 0) h (fun _ _ hf => cM_M_choose (jl K) D ad cA N v2 σ _ _ hf) (gd_V q_6_5 q_6_7 q_s_63 q_1_12 q_6_8) rfl ⟨rfl, rfl⟩ dd_M_choose ⟨Nat.le_of_ble_eq_true rfl, Nat.le_of_ble_eq_true rfl⟩ rfl rfl (wM_0 ad cA σ) rfl rfl (Nat.le_of_ble_eq_true rfl) ⟨Nat.zero_le _, Nat.zero_le _⟩ d_M_chooseAll_32 (fun r3 σ4 => ?_)
          refine J_goto (tgt := 39) h d_M_chooseAll_35 (by decide) ?_
          refine J_sub [0, 2] rfl ?_
          exact J_M_M_chooseAll_b39 K D A ad cA N h (M_M_chooseAll_L4 N k71 n) ih v2 r3 v2 σ4
def M_M_chooseAll_b130 (N : Nat) (k73 : Int32 → Int32 → SM → Option (Int32 × SM)) (v1 : Int32) (v2 : Int32) (σ : SM) : Option (Int32 × SM) := (nm (v2 + 1) (fun (y5 : Int32) => (k73 v1 y5 σ)))
set_option maxRecDepth 100000 in
set_option maxHeartbeats 4000000 in
theorem J_M_M_chooseAll_b130 (K : jx_E) (D : va_G) (A : Nat → Prop) (ad : Nat → Nat) (cA : Nat → ClassId) (N : Nat) (h : jx_ok K D clM (tysM cA) A 3 b_M_chooseAll y_M_chooseAll.cls ((Cond.code y_M_chooseAll b_M_chooseAll 3 (some .boolean)) :: tblG) rM_M_chooseAll (some .boolean)) (k73 : Int32 → Int32 → SM → Option (Int32 × SM)) (hk73 : ∀ (v1 : Int32) (v2 : Int32) (σ : SM), J K D clM A 3 (wM ad cA) (jx_Qi K D clM (tysM cA) (wM ad cA) A) 0 0 73 [(0, .ref (ad 0)), (1, .int v1), (2, .int v2)] [] σ (k73 v1 v2 σ)) : ∀ (v1 : Int32) (v2 : Int32) (σ : SM), J K D clM A 3 (wM ad cA) (jx_Qi K D clM (tysM cA) (wM ad cA) A) 0 0 130 [(0, .ref (ad 0)), (1, .int v1), (2, .int v2)] [] σ (M_M_chooseAll_b130 N k73 v1 v2 σ) := by
  intro v1 v2 σ
  rw [M_M_chooseAll_b130]
  refine J_iinc (q := 2) (c := 1) (lv' := fun y5 => [(2, .int y5), (0, .ref (ad 0)), (1, .int v1)]) h d_M_chooseAll_130 rfl (by decide) (by decide) (fun _ => rfl) (fun y5 => ?_)
  refine J_goto (tgt := 73) h d_M_chooseAll_133 (by decide) ?_
  refine J_sub [1, 2, 0] rfl ?_
  exact hk73 v1 y5 σ
def M_M_chooseAll_b129 (N : Nat) (k73 : Int32 → Int32 → SM → Option (Int32 × SM)) (v2 : Int32) (s0 : Int32) (σ : SM) : Option (Int32 × SM) := (M_M_chooseAll_b130 N k73 s0 v2 σ)
set_option maxRecDepth 100000 in
set_option maxHeartbeats 4000000 in
theorem J_M_M_chooseAll_b129 (K : jx_E) (D : va_G) (A : Nat → Prop) (ad : Nat → Nat) (cA : Nat → ClassId) (N : Nat) (h : jx_ok K D clM (tysM cA) A 3 b_M_chooseAll y_M_chooseAll.cls ((Cond.code y_M_chooseAll b_M_chooseAll 3 (some .boolean)) :: tblG) rM_M_chooseAll (some .boolean)) (k73 : Int32 → Int32 → SM → Option (Int32 × SM)) (hk73 : ∀ (v1 : Int32) (v2 : Int32) (σ : SM), J K D clM A 3 (wM ad cA) (jx_Qi K D clM (tysM cA) (wM ad cA) A) 0 0 73 [(0, .ref (ad 0)), (1, .int v1), (2, .int v2)] [] σ (k73 v1 v2 σ)) : ∀ (v2 : Int32) (s0 : Int32) (σ : SM), J K D clM A 3 (wM ad cA) (jx_Qi K D clM (tysM cA) (wM ad cA) A) 0 0 129 [(0, .ref (ad 0)), (2, .int v2)] [.int s0] σ (M_M_chooseAll_b129 N k73 v2 s0 σ) := by
  intro v2 s0 σ
  rw [M_M_chooseAll_b129]
  refine J_istore_n (lv' := [(1, .int s0), (0, .ref (ad 0)), (2, .int v2)]) h d_M_chooseAll_129 rfl (by decide) rfl ?_
  refine J_sub [1, 0, 2] rfl ?_
  exact J_M_M_chooseAll_b130 K D A ad cA N h k73 hk73 s0 v2 σ
def M_M_chooseAll_b128 (N : Nat) (k73 : Int32 → Int32 → SM → Option (Int32 × SM)) (v2 : Int32) (σ : SM) : Option (Int32 × SM) := (M_M_chooseAll_b129 N k73 v2 0 σ)
set_option maxRecDepth 100000 in
set_option maxHeartbeats 4000000 in
theorem J_M_M_chooseAll_b128 (K : jx_E) (D : va_G) (A : Nat → Prop) (ad : Nat → Nat) (cA : Nat → ClassId) (N : Nat) (h : jx_ok K D clM (tysM cA) A 3 b_M_chooseAll y_M_chooseAll.cls ((Cond.code y_M_chooseAll b_M_chooseAll 3 (some .boolean)) :: tblG) rM_M_chooseAll (some .boolean)) (k73 : Int32 → Int32 → SM → Option (Int32 × SM)) (hk73 : ∀ (v1 : Int32) (v2 : Int32) (σ : SM), J K D clM A 3 (wM ad cA) (jx_Qi K D clM (tysM cA) (wM ad cA) A) 0 0 73 [(0, .ref (ad 0)), (1, .int v1), (2, .int v2)] [] σ (k73 v1 v2 σ)) : ∀ (v2 : Int32) (σ : SM), J K D clM A 3 (wM ad cA) (jx_Qi K D clM (tysM cA) (wM ad cA) A) 0 0 128 [(0, .ref (ad 0)), (2, .int v2)] [] σ (M_M_chooseAll_b128 N k73 v2 σ) := by
  intro v2 σ
  rw [M_M_chooseAll_b128]
  refine J_iconst (v := 0) h d_M_chooseAll_128 (by decide) ?_
  exact J_M_M_chooseAll_b129 K D A ad cA N h k73 hk73 v2 0 σ
def M_M_chooseAll_L73 (N : Nat) : Nat → Int32 → Int32 → SM → Option (Int32 × SM)
  | 0, _, _, _ => none
  | n + 1, v1, v2, σ => (if (gM_M_variables σ) ≤ v2 then (if zb v1 = true then some (v1, σ) else none) else (if v1 = 0 then (if zb v1 = true then some (v1, σ) else none) else (if ck v2 12 = true then (if (aM_M_with σ v2.toNatClampNeg) = 0 then (M_M_chooseAll_b130 N (M_M_chooseAll_L73 N  n) v1 v2 σ) else (bd (M_M_make N 7 v2 (-1) (-1) σ) (fun (r6 : Int32) (σ7 : SM) => (if ck v2 12 = true then (bd (M_M_less N 3 r6 (aM_M_chosen σ7 v2.toNatClampNeg) σ7) (fun (r8 : Int32) (σ9 : SM) => (if r8 = 0 then (M_M_chooseAll_b128 N (M_M_chooseAll_L73 N  n) v2 σ9) else (bd (M_M_hold N σ9) (fun (r10 : Int32) (σ11 : SM) => (if r10 = 0 then (M_M_chooseAll_b128 N (M_M_chooseAll_L73 N  n) v2 σ11) else (M_M_chooseAll_b129 N (M_M_chooseAll_L73 N  n) v2 1 σ11))))))) else none)))) else none)))
set_option maxRecDepth 100000 in
set_option maxHeartbeats 4000000 in
theorem J_M_M_chooseAll_L73 (K : jx_E) (D : va_G) (A : Nat → Prop) (ad : Nat → Nat) (cA : Nat → ClassId) (N : Nat) (h : jx_ok K D clM (tysM cA) A 3 b_M_chooseAll y_M_chooseAll.cls ((Cond.code y_M_chooseAll b_M_chooseAll 3 (some .boolean)) :: tblG) rM_M_chooseAll (some .boolean)) : ∀ (n : Nat) (v1 : Int32) (v2 : Int32) (σ : SM), J K D clM A 3 (wM ad cA) (jx_Qi K D clM (tysM cA) (wM ad cA) A) 0 0 73 [(0, .ref (ad 0)), (1, .int v1), (2, .int v2)] [] σ (M_M_chooseAll_L73 N n v1 v2 σ) := by
  intro n
  induction n with
  | zero => intro v1 v2 σ; exact J_none
  | succ n ih =>
    intro v1 v2 σ
    rw [M_M_chooseAll_L73]
    refine J_iload_n (q := 2) h d_M_chooseAll_73 rfl rfl ?_
    refine J_aload_n (q := 0) h d_M_chooseAll_74 rfl rfl ?_
    refine J_getf h 0 (wM_0 ad cA σ) (tb_ups in_M) rfl 17 (by decide) (tb_up q_4_99) rfl d_M_chooseAll_75 ?_
    refine J_icmp_ge (tgt := 136) h d_M_chooseAll_78 (by decide) ?_ ?_
    · refine J_iload_n (q := 1) h d_M_chooseAll_136 rfl rfl ?_
      exact J_zretc h rfl d_M_chooseAll_137
    · refine J_iload_n (q := 1) h d_M_chooseAll_81 rfl rfl ?_
      refine J_if_eq (tgt := 136) h d_M_chooseAll_82 (by decide) ?_ ?_
      · refine J_iload_n (q := 1) h d_M_chooseAll_136 rfl rfl ?_
        exact J_zretc h rfl d_M_chooseAll_137
      · refine J_aload_n (q := 0) h d_M_chooseAll_85 rfl rfl ?_
        refine J_getf h 0 (wM_0 ad cA σ) (tb_ups in_M) rfl 59 (by decide) (tb_up q_4_141) rfl d_M_chooseAll_86 ?_
        refine J_iload_n (q := 2) h d_M_chooseAll_89 rfl rfl ?_
        refine J_zald h 39 38 (wM_39 ad cA σ) rfl d_M_chooseAll_90 ?_
        refine J_if_eq (tgt := 130) h d_M_chooseAll_91 (by decide) ?_ ?_
        · exact J_M_M_chooseAll_b130 K D A ad cA N h (M_M_chooseAll_L73 N  n) ih v1 v2 σ
        · refine J_aload_n (q := 0) h d_M_chooseAll_94 rfl rfl ?_
          refine J_iconst (v := 3) h d_M_chooseAll_95 (by decide) ?_
          refine J_aload_n (q := 0) h d_M_chooseAll_96 rfl rfl ?_
          refine J_bipush (v := 7) h d_M_chooseAll_97 (by decide) ?_
          refine J_iload_n (q := 2) h d_M_chooseAll_99 rfl rfl ?_
          refine J_iconst (v := (-1)) h d_M_chooseAll_100 (by decide) ?_
          refine J_iconst (v := (-1)) h d_M_chooseAll_101 (by decide) ?_
          refine J_callVi (As := [.int 7, .int v2, .int (-1), .int (-1)]) (st := [.int 3, .ref (ad 0)]) (rmc := rM_M_make) (q0 := 0) h (fun _ _ hf => cM_M_make (jl K) D ad cA N 7 v2 (-1) (-1) σ _ _ hf) (gd_V q_5_74 q_5_76 q_s_32 q_1_12 q_5_77) rfl ⟨rfl, rfl⟩ dd_M_make ⟨Nat.le_of_ble_eq_true rfl, Nat.le_of_ble_eq_true rfl⟩ rfl rfl (wM_0 ad cA σ) rfl rfl (Nat.le_of_ble_eq_true rfl) ⟨Nat.zero_le _, Nat.zero_le _⟩ d_M_chooseAll_102 (fun r6 σ7 => ?_)
          refine J_aload_n (q := 0) h d_M_chooseAll_105 rfl rfl ?_
          refine J_getf h 0 (wM_0 ad cA σ7) (tb_ups in_M) rfl 60 (by decide) (tb_up q_4_142) rfl d_M_chooseAll_106 ?_
          refine J_iload_n (q := 2) h d_M_chooseAll_109 rfl rfl ?_
          refine J_iald h 40 39 (wM_40 ad cA σ7) rfl d_M_chooseAll_110 ?_
          refine J_callVi (As := [.int 3, .int r6, .int (aM_M_chosen σ7 v2.toNatClampNeg)]) (st := []) (rmc := rM_M_less) (q0 := 0) h (fun _ _ hf => cM_M_less (jl K) D ad cA N 3 r6 (aM_M_chosen σ7 v2.toNatClampNeg) σ7 _ _ hf) (gd_V q_5_154 q_5_156 q_s_43 q_1_12 q_5_157) rfl ⟨rfl, rfl⟩ dd_M_less ⟨Nat.le_of_ble_eq_true rfl, Nat.le_of_ble_eq_true rfl⟩ rfl rfl (wM_0 ad cA σ7) rfl rfl (Nat.le_of_ble_eq_true rfl) ⟨Nat.zero_le _, Nat.zero_le _⟩ d_M_chooseAll_111 (fun r8 σ9 => ?_)
          refine J_if_eq (tgt := 128) h d_M_chooseAll_114 (by decide) ?_ ?_
          · refine J_sub [0, 2] rfl ?_
            exact J_M_M_chooseAll_b128 K D A ad cA N h (M_M_chooseAll_L73 N  n) ih v2 σ9
          · refine J_aload_n (q := 0) h d_M_chooseAll_117 rfl rfl ?_
            refine J_callVi (As := []) (st := []) (rmc := rM_M_hold) (q0 := 0) h (fun _ _ hf => cM_M_hold (jl K) D ad cA N  σ9 _ _ hf) (gd_V q_5_201 q_5_203 q_s_54 q_1_12 q_5_204) rfl ⟨rfl, rfl⟩ dd_M_hold ⟨Nat.le_of_ble_eq_true rfl, Nat.le_of_ble_eq_true rfl⟩ rfl rfl (wM_0 ad cA σ9) rfl rfl (Nat.le_of_ble_eq_true rfl) ⟨Nat.zero_le _, Nat.zero_le _⟩ d_M_chooseAll_118 (fun r10 σ11 => ?_)
            refine J_if_eq (tgt := 128) h d_M_chooseAll_121 (by decide) ?_ ?_
            · refine J_sub [0, 2] rfl ?_
              exact J_M_M_chooseAll_b128 K D A ad cA N h (M_M_chooseAll_L73 N  n) ih v2 σ11
            · refine J_iconst (v := 1) h d_M_chooseAll_124 (by decide) ?_
              refine J_goto (tgt := 129) h d_M_chooseAll_125 (by decide) ?_
              refine J_sub [0, 2] rfl ?_
              exact J_M_M_chooseAll_b129 K D A ad cA N h (M_M_chooseAll_L73 N  n) ih v2 1 σ11
def M_M_chooseAll_b71 (N : Nat) (v1 : Int32) (σ : SM) : Option (Int32 × SM) := (M_M_chooseAll_L73 N N v1 0 σ)
set_option maxRecDepth 100000 in
set_option maxHeartbeats 4000000 in
theorem J_M_M_chooseAll_b71 (K : jx_E) (D : va_G) (A : Nat → Prop) (ad : Nat → Nat) (cA : Nat → ClassId) (N : Nat) (h : jx_ok K D clM (tysM cA) A 3 b_M_chooseAll y_M_chooseAll.cls ((Cond.code y_M_chooseAll b_M_chooseAll 3 (some .boolean)) :: tblG) rM_M_chooseAll (some .boolean)) : ∀ (v1 : Int32) (σ : SM), J K D clM A 3 (wM ad cA) (jx_Qi K D clM (tysM cA) (wM ad cA) A) 0 0 71 [(0, .ref (ad 0)), (1, .int v1)] [] σ (M_M_chooseAll_b71 N v1 σ) := by
  intro v1 σ
  rw [M_M_chooseAll_b71]
  refine J_iconst (v := 0) h d_M_chooseAll_71 (by decide) ?_
  refine J_istore_n (lv' := [(2, .int 0), (0, .ref (ad 0)), (1, .int v1)]) h d_M_chooseAll_72 rfl (by decide) rfl ?_
  refine J_sub [1, 2, 0] rfl ?_
  exact J_M_M_chooseAll_L73 K D A ad cA N h N v1 0 σ
def M_M_chooseAll (N : Nat)  (σ : SM) : Option (Int32 × SM) := (M_M_chooseAll_L4 N (M_M_chooseAll_b71 N) N 1 0 σ)
set_option maxRecDepth 100000 in
set_option maxHeartbeats 4000000 in
theorem J_M_M_chooseAll (K : jx_E) (D : va_G) (A : Nat → Prop) (ad : Nat → Nat) (cA : Nat → ClassId) (N : Nat) (h : jx_ok K D clM (tysM cA) A 3 b_M_chooseAll y_M_chooseAll.cls ((Cond.code y_M_chooseAll b_M_chooseAll 3 (some .boolean)) :: tblG) rM_M_chooseAll (some .boolean)) : ∀  (σ : SM), J K D clM A 3 (wM ad cA) (jx_Qi K D clM (tysM cA) (wM ad cA) A) 0 0 0 [(0, .ref (ad 0))] [] σ (M_M_chooseAll N  σ) := by
  intro  σ
  rw [M_M_chooseAll]
  refine J_iconst (v := 1) h d_M_chooseAll_0 (by decide) ?_
  refine J_istore_n (lv' := [(1, .int 1), (0, .ref (ad 0))]) h d_M_chooseAll_1 rfl (by decide) rfl ?_
  refine J_iconst (v := 0) h d_M_chooseAll_2 (by decide) ?_
  refine J_istore_n (lv' := [(2, .int 0), (1, .int 1), (0, .ref (ad 0))]) h d_M_chooseAll_3 rfl (by decide) rfl ?_
  refine J_sub [2, 1, 0] rfl ?_
  exact J_M_M_chooseAll_L4 K D A ad cA N h (M_M_chooseAll_b71 N) (J_M_M_chooseAll_b71 K D A ad cA N h) N 1 0 σ
set_option maxRecDepth 100000 in
theorem cM_M_chooseAll (l : Launch) (D : va_G) (ad : Nat → Nat) (cA : Nat → ClassId) (N : Nat)  (σ : SM) (r : Int32) (σ' : SM) (hf : M_M_chooseAll N  σ = some (r, σ')) : MetI l y_M_chooseAll ((Cond.code y_M_chooseAll b_M_chooseAll 3 (some .boolean)) :: tblG) rM_M_chooseAll D clM (tysM cA) (wM ad cA) [.ref (ad 0)] σ r σ' :=
  jx_metI (by decide) rfl (Nat.le_of_ble_eq_true rfl) (fun K A h => J_M_M_chooseAll K D A ad cA N h  σ) hf
def rM_M_resolve : Room := { frames := 11, cells := 0, slots := 0, locals := 276 }
theorem rm_ok_M_M_resolve : rM_M_resolve.cells = 0 ∧ rM_M_resolve.slots = 0 := ⟨rfl, rfl⟩
def M_M_resolve_b65 (N : Nat) (k35 : Int32 → Int32 → Int32 → Int32 → SM → Option (Int32 × SM)) (v1 : Int32) (v2 : Int32) (v3 : Int32) (v4 : Int32) (s0 : Int32) (s1 : Int32) (σ : SM) : Option (Int32 × SM) := (if ck s1 12 = true then (nm (tM_M_settled σ (upd (aM_M_settled σ) s1.toNatClampNeg (vp_nar .boolean s0))) (fun (σ5 : SM) => (nm (v4 + 1) (fun (y6 : Int32) => (k35 v1 v2 v3 y6 σ5))))) else none)
set_option maxRecDepth 100000 in
set_option maxHeartbeats 4000000 in
theorem J_M_M_resolve_b65 (K : jx_E) (D : va_G) (A : Nat → Prop) (ad : Nat → Nat) (cA : Nat → ClassId) (N : Nat) (h : jx_ok K D clM (tysM cA) A 6 b_M_resolve y_M_resolve.cls ((Cond.code y_M_resolve b_M_resolve 6 (some .int)) :: tblG) rM_M_resolve (some .int)) (k35 : Int32 → Int32 → Int32 → Int32 → SM → Option (Int32 × SM)) (hk35 : ∀ (v1 : Int32) (v2 : Int32) (v3 : Int32) (v4 : Int32) (σ : SM), J K D clM A 6 (wM ad cA) (jx_Qi K D clM (tysM cA) (wM ad cA) A) 0 0 35 [(0, .ref (ad 0)), (1, .int v1), (2, .int v2), (3, .int v3), (4, .int v4)] [] σ (k35 v1 v2 v3 v4 σ)) : ∀ (v1 : Int32) (v2 : Int32) (v3 : Int32) (v4 : Int32) (s0 : Int32) (s1 : Int32) (σ : SM), J K D clM A 6 (wM ad cA) (jx_Qi K D clM (tysM cA) (wM ad cA) A) 0 0 65 [(0, .ref (ad 0)), (1, .int v1), (2, .int v2), (3, .int v3), (4, .int v4)] [.int s0, .int s1, .ref (ad 38)] σ (M_M_resolve_b65 N k35 v1 v2 v3 v4 s0 s1 σ) := by
  intro v1 v2 v3 v4 s0 s1 σ
  rw [M_M_resolve_b65]
  refine J_zast h 38 37 (wM_38 ad cA σ) rfl (uM_38 ad cA σ _) d_M_resolve_65 (fun σ5 => ?_)
  refine J_iinc (q := 4) (c := 1) (lv' := fun y6 => [(4, .int y6), (0, .ref (ad 0)), (1, .int v1), (2, .int v2), (3, .int v3)]) h d_M_resolve_66 rfl (by decide) (by decide) (fun _ => rfl) (fun y6 => ?_)
  refine J_goto (tgt := 35) h d_M_resolve_69 (by decide) ?_
  refine J_sub [1, 2, 3, 4, 0] rfl ?_
  exact hk35 v1 v2 v3 y6 σ5
def M_M_resolve_L35 (N : Nat) (k72 : Int32 → Int32 → Int32 → SM → Option (Int32 × SM)) : Nat → Int32 → Int32 → Int32 → Int32 → SM → Option (Int32 × SM)
  | 0, _, _, _, _, _ => none
  | n + 1, v1, v2, v3, v4, σ => (if (gM_M_variables σ) ≤ v4 then (k72 v1 v2 v3 σ) else (bd (M_M_instanceOf N v4 σ) (fun (r3 : Int32) (σ4 : SM) => (if r3 = (-1) then (M_M_resolve_b65 N (M_M_resolve_L35 N k72 n) v1 v2 v3 v4 0 v4 σ4) else (M_M_resolve_b65 N (M_M_resolve_L35 N k72 n) v1 v2 v3 v4 1 v4 σ4)))))
set_option maxRecDepth 100000 in
set_option maxHeartbeats 4000000 in
theorem J_M_M_resolve_L35 (K : jx_E) (D : va_G) (A : Nat → Prop) (ad : Nat → Nat) (cA : Nat → ClassId) (N : Nat) (h : jx_ok K D clM (tysM cA) A 6 b_M_resolve y_M_resolve.cls ((Cond.code y_M_resolve b_M_resolve 6 (some .int)) :: tblG) rM_M_resolve (some .int)) (k72 : Int32 → Int32 → Int32 → SM → Option (Int32 × SM)) (hk72 : ∀ (v1 : Int32) (v2 : Int32) (v3 : Int32) (σ : SM), J K D clM A 6 (wM ad cA) (jx_Qi K D clM (tysM cA) (wM ad cA) A) 0 0 72 [(0, .ref (ad 0)), (1, .int v1), (2, .int v2), (3, .int v3)] [] σ (k72 v1 v2 v3 σ)) : ∀ (n : Nat) (v1 : Int32) (v2 : Int32) (v3 : Int32) (v4 : Int32) (σ : SM), J K D clM A 6 (wM ad cA) (jx_Qi K D clM (tysM cA) (wM ad cA) A) 0 0 35 [(0, .ref (ad 0)), (1, .int v1), (2, .int v2), (3, .int v3), (4, .int v4)] [] σ (M_M_resolve_L35 N k72 n v1 v2 v3 v4 σ) := by
  intro n
  induction n with
  | zero => intro v1 v2 v3 v4 σ; exact J_none
  | succ n ih =>
    intro v1 v2 v3 v4 σ
    rw [M_M_resolve_L35]
    refine J_iload (q := 4) h d_M_resolve_35 rfl ?_
    refine J_aload_n (q := 0) h d_M_resolve_37 rfl rfl ?_
    refine J_getf h 0 (wM_0 ad cA σ) (tb_ups in_M) rfl 17 (by decide) (tb_up q_4_99) rfl d_M_resolve_38 ?_
    refine J_icmp_ge (tgt := 72) h d_M_resolve_41 (by decide) ?_ ?_
    · refine J_sub [0, 1, 2, 3] rfl ?_
      exact hk72 v1 v2 v3 σ
    · refine J_aload_n (q := 0) h d_M_resolve_44 rfl rfl ?_
      refine J_getf h 0 (wM_0 ad cA σ) (tb_ups in_M) rfl 58 (by decide) (tb_up q_4_140) rfl d_M_resolve_45 ?_
      refine J_iload (q := 4) h d_M_resolve_48 rfl ?_
      refine J_aload_n (q := 0) h d_M_resolve_50 rfl rfl ?_
      refine J_iload (q := 4) h d_M_resolve_51 rfl ?_
      refine J_callVi (As := [.int v4]) (st := [.int v4, .ref (ad 38)]) (rmc := rM_M_instanceOf) (q0 := 0) h (fun _ _ hf => cM_M_instanceOf (jl K) D ad cA N v4 σ _ _ hf) (gd_V q_5_229 q_5_231 q_s_59 q_1_12 q_5_232) rfl ⟨rfl, rfl⟩ dd_M_instanceOf ⟨Nat.le_of_ble_eq_true rfl, Nat.le_of_ble_eq_true rfl⟩ rfl rfl (wM_0 ad cA σ) rfl rfl (Nat.le_of_ble_eq_true rfl) ⟨Nat.zero_le _, Nat.zero_le _⟩ d_M_resolve_53 (fun r3 σ4 => ?_)
      refine J_iconst (v := (-1)) h d_M_resolve_56 (by decide) ?_
      refine J_icmp_eq (tgt := 64) h d_M_resolve_57 (by decide) ?_ ?_
      · refine J_iconst (v := 0) h d_M_resolve_64 (by decide) ?_
        exact J_M_M_resolve_b65 K D A ad cA N h (M_M_resolve_L35 N k72 n) ih v1 v2 v3 v4 0 v4 σ4
      · refine J_iconst (v := 1) h d_M_resolve_60 (by decide) ?_
        refine J_goto (tgt := 65) h d_M_resolve_61 (by decide) ?_
        exact J_M_M_resolve_b65 K D A ad cA N h (M_M_resolve_L35 N k72 n) ih v1 v2 v3 v4 1 v4 σ4
def M_M_resolve_b132 (N : Nat) (k75 : Int32 → Int32 → Int32 → Int32 → SM → Option (Int32 × SM)) (v1 : Int32) (v2 : Int32) (v4 : Int32) (s0 : Int32) (σ : SM) : Option (Int32 × SM) := (nm (v4 + 1) (fun (y9 : Int32) => (k75 v1 v2 s0 y9 σ)))
set_option maxRecDepth 100000 in
set_option maxHeartbeats 4000000 in
theorem J_M_M_resolve_b132 (K : jx_E) (D : va_G) (A : Nat → Prop) (ad : Nat → Nat) (cA : Nat → ClassId) (N : Nat) (h : jx_ok K D clM (tysM cA) A 6 b_M_resolve y_M_resolve.cls ((Cond.code y_M_resolve b_M_resolve 6 (some .int)) :: tblG) rM_M_resolve (some .int)) (k75 : Int32 → Int32 → Int32 → Int32 → SM → Option (Int32 × SM)) (hk75 : ∀ (v1 : Int32) (v2 : Int32) (v3 : Int32) (v4 : Int32) (σ : SM), J K D clM A 6 (wM ad cA) (jx_Qi K D clM (tysM cA) (wM ad cA) A) 0 0 75 [(0, .ref (ad 0)), (1, .int v1), (2, .int v2), (3, .int v3), (4, .int v4)] [] σ (k75 v1 v2 v3 v4 σ)) : ∀ (v1 : Int32) (v2 : Int32) (v4 : Int32) (s0 : Int32) (σ : SM), J K D clM A 6 (wM ad cA) (jx_Qi K D clM (tysM cA) (wM ad cA) A) 0 0 132 [(0, .ref (ad 0)), (1, .int v1), (2, .int v2), (4, .int v4)] [.int s0] σ (M_M_resolve_b132 N k75 v1 v2 v4 s0 σ) := by
  intro v1 v2 v4 s0 σ
  rw [M_M_resolve_b132]
  refine J_istore_n (lv' := [(3, .int s0), (0, .ref (ad 0)), (1, .int v1), (2, .int v2), (4, .int v4)]) h d_M_resolve_132 rfl (by decide) rfl ?_
  refine J_iinc (q := 4) (c := 1) (lv' := fun y9 => [(4, .int y9), (3, .int s0), (0, .ref (ad 0)), (1, .int v1), (2, .int v2)]) h d_M_resolve_133 rfl (by decide) (by decide) (fun _ => rfl) (fun y9 => ?_)
  refine J_goto (tgt := 75) h d_M_resolve_136 (by decide) ?_
  refine J_sub [2, 3, 4, 1, 0] rfl ?_
  exact hk75 v1 v2 s0 y9 σ
def M_M_resolve_b119 (N : Nat) (k75 : Int32 → Int32 → Int32 → Int32 → SM → Option (Int32 × SM)) (v1 : Int32) (v3 : Int32) (v4 : Int32) (v5 : Int32) (s0 : Int32) (σ : SM) : Option (Int32 × SM) := (if v3 ≤ v5 then (M_M_resolve_b132 N k75 v1 s0 v4 v3 σ) else (M_M_resolve_b132 N k75 v1 s0 v4 v5 σ))
set_option maxRecDepth 100000 in
set_option maxHeartbeats 4000000 in
theorem J_M_M_resolve_b119 (K : jx_E) (D : va_G) (A : Nat → Prop) (ad : Nat → Nat) (cA : Nat → ClassId) (N : Nat) (h : jx_ok K D clM (tysM cA) A 6 b_M_resolve y_M_resolve.cls ((Cond.code y_M_resolve b_M_resolve 6 (some .int)) :: tblG) rM_M_resolve (some .int)) (k75 : Int32 → Int32 → Int32 → Int32 → SM → Option (Int32 × SM)) (hk75 : ∀ (v1 : Int32) (v2 : Int32) (v3 : Int32) (v4 : Int32) (σ : SM), J K D clM A 6 (wM ad cA) (jx_Qi K D clM (tysM cA) (wM ad cA) A) 0 0 75 [(0, .ref (ad 0)), (1, .int v1), (2, .int v2), (3, .int v3), (4, .int v4)] [] σ (k75 v1 v2 v3 v4 σ)) : ∀ (v1 : Int32) (v3 : Int32) (v4 : Int32) (v5 : Int32) (s0 : Int32) (σ : SM), J K D clM A 6 (wM ad cA) (jx_Qi K D clM (tysM cA) (wM ad cA) A) 0 0 119 [(0, .ref (ad 0)), (1, .int v1), (3, .int v3), (4, .int v4), (5, .int v5)] [.int s0] σ (M_M_resolve_b119 N k75 v1 v3 v4 v5 s0 σ) := by
  intro v1 v3 v4 v5 s0 σ
  rw [M_M_resolve_b119]
  refine J_istore_n (lv' := [(2, .int s0), (0, .ref (ad 0)), (1, .int v1), (3, .int v3), (4, .int v4), (5, .int v5)]) h d_M_resolve_119 rfl (by decide) rfl ?_
  refine J_iload (q := 5) h d_M_resolve_120 rfl ?_
  refine J_iload_n (q := 3) h d_M_resolve_122 rfl rfl ?_
  refine J_icmp_ge (tgt := 131) h d_M_resolve_123 (by decide) ?_ ?_
  · refine J_iload_n (q := 3) h d_M_resolve_131 rfl rfl ?_
    refine J_sub [1, 2, 0, 4] rfl ?_
    exact J_M_M_resolve_b132 K D A ad cA N h k75 hk75 v1 s0 v4 v3 σ
  · refine J_iload (q := 5) h d_M_resolve_126 rfl ?_
    refine J_goto (tgt := 132) h d_M_resolve_128 (by decide) ?_
    refine J_sub [1, 2, 0, 4] rfl ?_
    exact J_M_M_resolve_b132 K D A ad cA N h k75 hk75 v1 s0 v4 v5 σ
def M_M_resolve_b105 (N : Nat) (k75 : Int32 → Int32 → Int32 → Int32 → SM → Option (Int32 × SM)) (v1 : Int32) (v2 : Int32) (v3 : Int32) (v4 : Int32) (s0 : Int32) (σ : SM) : Option (Int32 × SM) := (if v3 ≤ s0 then (M_M_resolve_b119 N k75 v1 v3 v4 s0 v2 σ) else (M_M_resolve_b119 N k75 v1 v3 v4 s0 v4 σ))
set_option maxRecDepth 100000 in
set_option maxHeartbeats 4000000 in
theorem J_M_M_resolve_b105 (K : jx_E) (D : va_G) (A : Nat → Prop) (ad : Nat → Nat) (cA : Nat → ClassId) (N : Nat) (h : jx_ok K D clM (tysM cA) A 6 b_M_resolve y_M_resolve.cls ((Cond.code y_M_resolve b_M_resolve 6 (some .int)) :: tblG) rM_M_resolve (some .int)) (k75 : Int32 → Int32 → Int32 → Int32 → SM → Option (Int32 × SM)) (hk75 : ∀ (v1 : Int32) (v2 : Int32) (v3 : Int32) (v4 : Int32) (σ : SM), J K D clM A 6 (wM ad cA) (jx_Qi K D clM (tysM cA) (wM ad cA) A) 0 0 75 [(0, .ref (ad 0)), (1, .int v1), (2, .int v2), (3, .int v3), (4, .int v4)] [] σ (k75 v1 v2 v3 v4 σ)) : ∀ (v1 : Int32) (v2 : Int32) (v3 : Int32) (v4 : Int32) (s0 : Int32) (σ : SM), J K D clM A 6 (wM ad cA) (jx_Qi K D clM (tysM cA) (wM ad cA) A) 0 0 105 [(0, .ref (ad 0)), (1, .int v1), (2, .int v2), (3, .int v3), (4, .int v4)] [.int s0] σ (M_M_resolve_b105 N k75 v1 v2 v3 v4 s0 σ) := by
  intro v1 v2 v3 v4 s0 σ
  rw [M_M_resolve_b105]
  refine J_istore (lv' := [(5, .int s0), (0, .ref (ad 0)), (1, .int v1), (2, .int v2), (3, .int v3), (4, .int v4)]) h d_M_resolve_105 (by decide) rfl ?_
  refine J_iload (q := 0) h d_M_resolve_107 rfl ?_
  refine J_iload_n (q := 4) h d_M_resolve_109 rfl rfl ?_
  refine J_icmp_ge (tgt := 118) h d_M_resolve_110 (by decide) ?_ ?_
  · refine J_iload_n (q := 3) h d_M_resolve_118 rfl rfl ?_
    refine J_sub [1, 2, 4, 5, 0] rfl ?_
    exact J_M_M_resolve_b119 K D A ad cA N h k75 hk75 v1 v3 v4 s0 v2 σ
  · refine J_iload (q := 5) h d_M_resolve_113 rfl ?_
    refine J_goto (tgt := 119) h d_M_resolve_115 (by decide) ?_
    refine J_sub [1, 2, 4, 5, 0] rfl ?_
    exact J_M_M_resolve_b119 K D A ad cA N h k75 hk75 v1 v3 v4 s0 v4 σ
def M_M_resolve_L75 (N : Nat) (k139 : Int32 → Int32 → SM → Option (Int32 × SM)) : Nat → Int32 → Int32 → Int32 → Int32 → SM → Option (Int32 × SM)
  | 0, _, _, _, _, _ => none
  | n + 1, v1, v2, v3, v4, σ => (if (gM_M_variables σ) ≤ v4 then (k139 v1 v2 σ) else (if ck v4 12 = true then (if (aM_M_settled σ v4.toNatClampNeg) = 0 then (bd (M_M_depends N v4 σ) (fun (r7 : Int32) (σ8 : SM) => (M_M_resolve_b105 N (M_M_resolve_L75 N k139 n) v1 v2 v3 v4 r7 σ8))) else (M_M_resolve_b105 N (M_M_resolve_L75 N k139 n) v1 v2 v3 v4 99 σ)) else none))
set_option maxRecDepth 100000 in
set_option maxHeartbeats 4000000 in
theorem J_M_M_resolve_L75 (K : jx_E) (D : va_G) (A : Nat → Prop) (ad : Nat → Nat) (cA : Nat → ClassId) (N : Nat) (h : jx_ok K D clM (tysM cA) A 6 b_M_resolve y_M_resolve.cls ((Cond.code y_M_resolve b_M_resolve 6 (some .int)) :: tblG) rM_M_resolve (some .int)) (k139 : Int32 → Int32 → SM → Option (Int32 × SM)) (hk139 : ∀ (v1 : Int32) (v2 : Int32) (σ : SM), J K D clM A 6 (wM ad cA) (jx_Qi K D clM (tysM cA) (wM ad cA) A) 0 0 139 [(0, .ref (ad 0)), (1, .int v1), (2, .int v2)] [] σ (k139 v1 v2 σ)) : ∀ (n : Nat) (v1 : Int32) (v2 : Int32) (v3 : Int32) (v4 : Int32) (σ : SM), J K D clM A 6 (wM ad cA) (jx_Qi K D clM (tysM cA) (wM ad cA) A) 0 0 75 [(0, .ref (ad 0)), (1, .int v1), (2, .int v2), (3, .int v3), (4, .int v4)] [] σ (M_M_resolve_L75 N k139 n v1 v2 v3 v4 σ) := by
  intro n
  induction n with
  | zero => intro v1 v2 v3 v4 σ; exact J_none
  | succ n ih =>
    intro v1 v2 v3 v4 σ
    rw [M_M_resolve_L75]
    refine J_iload (q := 4) h d_M_resolve_75 rfl ?_
    refine J_aload_n (q := 0) h d_M_resolve_77 rfl rfl ?_
    refine J_getf h 0 (wM_0 ad cA σ) (tb_ups in_M) rfl 17 (by decide) (tb_up q_4_99) rfl d_M_resolve_78 ?_
    refine J_icmp_ge (tgt := 139) h d_M_resolve_81 (by decide) ?_ ?_
    · refine J_sub [0, 1, 2] rfl ?_
      exact hk139 v1 v2 σ
    · refine J_aload_n (q := 0) h d_M_resolve_84 rfl rfl ?_
      refine J_getf h 0 (wM_0 ad cA σ) (tb_ups in_M) rfl 58 (by decide) (tb_up q_4_140) rfl d_M_resolve_85 ?_
      refine J_iload (q := 4) h d_M_resolve_88 rfl ?_
      refine J_zald h 38 37 (wM_38 ad cA σ) rfl d_M_resolve_90 ?_
      refine J_if_eq (tgt := 99) h d_M_resolve_91 (by decide) ?_ ?_
      · refine J_aload_n (q := 0) h d_M_resolve_99 rfl rfl ?_
        refine J_iload (q := 4) h d_M_resolve_100 rfl ?_
        refine J_callVi (As := [.int v4]) (st := []) (rmc := rM_M_depends) (q0 := 0) h (fun _ _ hf => cM_M_depends (jl K) D ad cA N v4 σ _ _ hf) (gd_V q_5_233 q_5_235 q_s_60 q_1_12 q_5_236) rfl ⟨rfl, rfl⟩ dd_M_depends ⟨Nat.le_of_ble_eq_true rfl, Nat.le_of_ble_eq_true rfl⟩ rfl rfl (wM_0 ad cA σ) rfl rfl (Nat.le_of_ble_eq_true rfl) ⟨Nat.zero_le _, Nat.zero_le _⟩ d_M_resolve_102 (fun r7 σ8 => ?_)
        exact J_M_M_resolve_b105 K D A ad cA N h (M_M_resolve_L75 N k139 n) ih v1 v2 v3 v4 r7 σ8
      · refine J_bipush (v := 99) h d_M_resolve_94 (by decide) ?_
        refine J_goto (tgt := 105) h d_M_resolve_96 (by decide) ?_
        exact J_M_M_resolve_b105 K D A ad cA N h (M_M_resolve_L75 N k139 n) ih v1 v2 v3 v4 99 σ
def M_M_resolve_b139 (N : Nat) (k144 : Int32 → SM → Option (Int32 × SM)) (k16 : Int32 → SM → Option (Int32 × SM)) (v1 : Int32) (v2 : Int32) (σ : SM) : Option (Int32 × SM) := (if v2 = (-1) then (k144 v1 σ) else (bd (M_M_depends N v2 σ) (fun (r10 : Int32) (σ11 : SM) => (bd (M_M_chooseAll N σ11) (fun (r12 : Int32) (σ13 : SM) => (k16 r12 σ13))))))
set_option maxRecDepth 100000 in
set_option maxHeartbeats 4000000 in
theorem J_M_M_resolve_b139 (K : jx_E) (D : va_G) (A : Nat → Prop) (ad : Nat → Nat) (cA : Nat → ClassId) (N : Nat) (h : jx_ok K D clM (tysM cA) A 6 b_M_resolve y_M_resolve.cls ((Cond.code y_M_resolve b_M_resolve 6 (some .int)) :: tblG) rM_M_resolve (some .int)) (k144 : Int32 → SM → Option (Int32 × SM)) (hk144 : ∀ (v1 : Int32) (σ : SM), J K D clM A 6 (wM ad cA) (jx_Qi K D clM (tysM cA) (wM ad cA) A) 0 0 144 [(0, .ref (ad 0)), (1, .int v1)] [] σ (k144 v1 σ)) (k16 : Int32 → SM → Option (Int32 × SM)) (hk16 : ∀ (v1 : Int32) (σ : SM), J K D clM A 6 (wM ad cA) (jx_Qi K D clM (tysM cA) (wM ad cA) A) 0 0 16 [(0, .ref (ad 0)), (1, .int v1)] [] σ (k16 v1 σ)) : ∀ (v1 : Int32) (v2 : Int32) (σ : SM), J K D clM A 6 (wM ad cA) (jx_Qi K D clM (tysM cA) (wM ad cA) A) 0 0 139 [(0, .ref (ad 0)), (1, .int v1), (2, .int v2)] [] σ (M_M_resolve_b139 N k144 k16 v1 v2 σ) := by
  intro v1 v2 σ
  rw [M_M_resolve_b139]
  refine J_iload_n (q := 2) h d_M_resolve_139 rfl rfl ?_
  refine J_iconst (v := (-1)) h d_M_resolve_140 (by decide) ?_
  refine J_icmp_ne (tgt := 147) h d_M_resolve_141 (by decide) ?_ ?_
  · refine J_sub [0, 1] rfl ?_
    exact hk144 v1 σ
  · refine J_aload_n (q := 0) h d_M_resolve_147 rfl rfl ?_
    refine J_iload_n (q := 2) h d_M_resolve_148 rfl rfl ?_
    refine J_callVi (As := [.int v2]) (st := []) (rmc := rM_M_depends) (q0 := 0) h (fun _ _ hf => cM_M_depends (jl K) D ad cA N v2 σ _ _ hf) (gd_V q_5_233 q_5_235 q_s_60 q_1_12 q_5_236) rfl ⟨rfl, rfl⟩ dd_M_depends ⟨Nat.le_of_ble_eq_true rfl, Nat.le_of_ble_eq_true rfl⟩ rfl rfl (wM_0 ad cA σ) rfl rfl (Nat.le_of_ble_eq_true rfl) ⟨Nat.zero_le _, Nat.zero_le _⟩ d_M_resolve_149 (fun r10 σ11 => ?_)
    refine J_istore (lv' := [(4, .int r10), (0, .ref (ad 0)), (1, .int v1), (2, .int v2)]) h d_M_resolve_152 (by decide) rfl ?_
    refine J_aload_n (q := 1) h d_M_resolve_154 rfl rfl ?_
    refine J_callVi (As := []) (st := []) (rmc := rM_M_chooseAll) (q0 := 0) h (fun _ _ hf => cM_M_chooseAll (jl K) D ad cA N  σ11 _ _ hf) (gd_V q_6_1 q_6_3 q_s_62 q_1_12 q_6_4) rfl ⟨rfl, rfl⟩ dd_M_chooseAll ⟨Nat.le_of_ble_eq_true rfl, Nat.le_of_ble_eq_true rfl⟩ rfl rfl (wM_0 ad cA σ11) rfl rfl (Nat.le_of_ble_eq_true rfl) ⟨Nat.zero_le _, Nat.zero_le _⟩ d_M_resolve_155 (fun r12 σ13 => ?_)
    refine J_istore_n (lv' := [(1, .int r12), (4, .int r10), (0, .ref (ad 0)), (2, .int v2)]) h d_M_resolve_158 rfl (by decide) rfl ?_
    refine J_goto (tgt := 16) h d_M_resolve_159 (by decide) ?_
    refine J_sub [2, 0] rfl ?_
    exact hk16 r12 σ13
def M_M_resolve_b72 (N : Nat) (k144 : Int32 → SM → Option (Int32 × SM)) (k16 : Int32 → SM → Option (Int32 × SM)) (v1 : Int32) (v2 : Int32) (v3 : Int32) (σ : SM) : Option (Int32 × SM) := (M_M_resolve_L75 N (M_M_resolve_b139 N k144 k16) N v1 v2 v3 0 σ)
set_option maxRecDepth 100000 in
set_option maxHeartbeats 4000000 in
theorem J_M_M_resolve_b72 (K : jx_E) (D : va_G) (A : Nat → Prop) (ad : Nat → Nat) (cA : Nat → ClassId) (N : Nat) (h : jx_ok K D clM (tysM cA) A 6 b_M_resolve y_M_resolve.cls ((Cond.code y_M_resolve b_M_resolve 6 (some .int)) :: tblG) rM_M_resolve (some .int)) (k144 : Int32 → SM → Option (Int32 × SM)) (hk144 : ∀ (v1 : Int32) (σ : SM), J K D clM A 6 (wM ad cA) (jx_Qi K D clM (tysM cA) (wM ad cA) A) 0 0 144 [(0, .ref (ad 0)), (1, .int v1)] [] σ (k144 v1 σ)) (k16 : Int32 → SM → Option (Int32 × SM)) (hk16 : ∀ (v1 : Int32) (σ : SM), J K D clM A 6 (wM ad cA) (jx_Qi K D clM (tysM cA) (wM ad cA) A) 0 0 16 [(0, .ref (ad 0)), (1, .int v1)] [] σ (k16 v1 σ)) : ∀ (v1 : Int32) (v2 : Int32) (v3 : Int32) (σ : SM), J K D clM A 6 (wM ad cA) (jx_Qi K D clM (tysM cA) (wM ad cA) A) 0 0 72 [(0, .ref (ad 0)), (1, .int v1), (2, .int v2), (3, .int v3)] [] σ (M_M_resolve_b72 N k144 k16 v1 v2 v3 σ) := by
  intro v1 v2 v3 σ
  rw [M_M_resolve_b72]
  refine J_iconst (v := 0) h d_M_resolve_72 (by decide) ?_
  refine J_istore (lv' := [(4, .int 0), (0, .ref (ad 0)), (1, .int v1), (2, .int v2), (3, .int v3)]) h d_M_resolve_73 (by decide) rfl ?_
  refine J_sub [1, 2, 3, 4, 0] rfl ?_
  exact J_M_M_resolve_L75 K D A ad cA N h (M_M_resolve_b139 N k144 k16) (J_M_M_resolve_b139 K D A ad cA N h k144 hk144 k16 hk16) N v1 v2 v3 0 σ
def M_M_resolve_L16 (N : Nat) (k162 : Int32 → SM → Option (Int32 × SM)) (k144 : Int32 → SM → Option (Int32 × SM)) : Nat → Int32 → SM → Option (Int32 × SM)
  | 0, _, _ => none
  | n + 1, v1, σ => (if v1 = 0 then (k162 v1 σ) else (if (gM_M_full σ) = 0 then (M_M_resolve_L35 N (M_M_resolve_b72 N k144 (M_M_resolve_L16 N k162 k144 n)) N v1 (-1) 99 0 σ) else (k162 v1 σ)))
set_option maxRecDepth 100000 in
set_option maxHeartbeats 4000000 in
theorem J_M_M_resolve_L16 (K : jx_E) (D : va_G) (A : Nat → Prop) (ad : Nat → Nat) (cA : Nat → ClassId) (N : Nat) (h : jx_ok K D clM (tysM cA) A 6 b_M_resolve y_M_resolve.cls ((Cond.code y_M_resolve b_M_resolve 6 (some .int)) :: tblG) rM_M_resolve (some .int)) (k162 : Int32 → SM → Option (Int32 × SM)) (hk162 : ∀ (v1 : Int32) (σ : SM), J K D clM A 6 (wM ad cA) (jx_Qi K D clM (tysM cA) (wM ad cA) A) 0 0 162 [(0, .ref (ad 0)), (1, .int v1)] [] σ (k162 v1 σ)) (k144 : Int32 → SM → Option (Int32 × SM)) (hk144 : ∀ (v1 : Int32) (σ : SM), J K D clM A 6 (wM ad cA) (jx_Qi K D clM (tysM cA) (wM ad cA) A) 0 0 144 [(0, .ref (ad 0)), (1, .int v1)] [] σ (k144 v1 σ)) : ∀ (n : Nat) (v1 : Int32) (σ : SM), J K D clM A 6 (wM ad cA) (jx_Qi K D clM (tysM cA) (wM ad cA) A) 0 0 16 [(0, .ref (ad 0)), (1, .int v1)] [] σ (M_M_resolve_L16 N k162 k144 n v1 σ) := by
  intro n
  induction n with
  | zero => intro v1 σ; exact J_none
  | succ n ih =>
    intro v1 σ
    rw [M_M_resolve_L16]
    refine J_iload_n (q := 1) h d_M_resolve_16 rfl rfl ?_
    refine J_if_eq (tgt := 162) h d_M_resolve_17 (by decide) ?_ ?_
    · exact hk162 v1 σ
    · refine J_aload_n (q := 0) h d_M_resolve_20 rfl rfl ?_
      refine J_getf h 0 (wM_0 ad cA σ) (tb_ups in_M) rfl 12 (by decide) (tb_up q_4_94) rfl d_M_resolve_21 ?_
      refine J_if_ne (tgt := 162) h d_M_resolve_24 (by decide) ?_ ?_
      · refine J_iconst (v := (-1)) h d_M_resolve_27 (by decide) ?_
        refine J_istore_n (lv' := [(2, .int (-1)), (0, .ref (ad 0)), (1, .int v1)]) h d_M_resolve_28 rfl (by decide) rfl ?_
        refine J_bipush (v := 99) h d_M_resolve_29 (by decide) ?_
        refine J_istore_n (lv' := [(3, .int 99), (2, .int (-1)), (0, .ref (ad 0)), (1, .int v1)]) h d_M_resolve_31 rfl (by decide) rfl ?_
        refine J_iconst (v := 0) h d_M_resolve_32 (by decide) ?_
        refine J_istore (lv' := [(4, .int 0), (3, .int 99), (2, .int (-1)), (0, .ref (ad 0)), (1, .int v1)]) h d_M_resolve_33 (by decide) rfl ?_
        refine J_sub [3, 4, 2, 1, 0] rfl ?_
        exact J_M_M_resolve_L35 K D A ad cA N h (M_M_resolve_b72 N k144 (M_M_resolve_L16 N k162 k144 n)) (J_M_M_resolve_b72 K D A ad cA N h k144 hk144 (M_M_resolve_L16 N k162 k144 n) ih) N v1 (-1) 99 0 σ
      · exact hk162 v1 σ
def M_M_resolve_b162 (N : Nat) (v1 : Int32) (σ : SM) : Option (Int32 × SM) := (bd (M_M_settle v1 (-1) σ) (fun (r14 : Unit) (σ15 : SM) => (if (gM_M_state σ15) = 0 then (some ((gM_M_variables σ15), σ15)) else (some ((-1), σ15)))))
set_option maxRecDepth 100000 in
set_option maxHeartbeats 4000000 in
theorem J_M_M_resolve_b162 (K : jx_E) (D : va_G) (A : Nat → Prop) (ad : Nat → Nat) (cA : Nat → ClassId) (N : Nat) (h : jx_ok K D clM (tysM cA) A 6 b_M_resolve y_M_resolve.cls ((Cond.code y_M_resolve b_M_resolve 6 (some .int)) :: tblG) rM_M_resolve (some .int)) : ∀ (v1 : Int32) (σ : SM), J K D clM A 6 (wM ad cA) (jx_Qi K D clM (tysM cA) (wM ad cA) A) 0 0 162 [(0, .ref (ad 0)), (1, .int v1)] [] σ (M_M_resolve_b162 N v1 σ) := by
  intro v1 σ
  rw [M_M_resolve_b162]
  refine J_aload_n (q := 0) h d_M_resolve_162 rfl rfl ?_
  refine J_iload_n (q := 1) h d_M_resolve_163 rfl rfl ?_
  refine J_iconst (v := (-1)) h d_M_resolve_164 (by decide) ?_
  refine J_callVv (As := [.int v1, .int (-1)]) (st := []) (rmc := rM_M_settle) (q0 := 0) h (fun _ _ hf => cM_M_settle (jl K) D ad cA v1 (-1) σ _ _ hf) (gd_V q_5_217 q_5_219 q_s_58 q_1_12 q_5_220) rfl ⟨rfl, rfl⟩ dd_M_settle ⟨Nat.le_of_ble_eq_true rfl, Nat.le_of_ble_eq_true rfl⟩ rfl rfl (wM_0 ad cA σ) rfl rfl (Nat.le_of_ble_eq_true rfl) ⟨Nat.zero_le _, Nat.zero_le _⟩ d_M_resolve_165 (fun r14 σ15 => ?_)
  refine J_aload_n (q := 0) h d_M_resolve_168 rfl rfl ?_
  refine J_getf h 0 (wM_0 ad cA σ15) (tb_ups in_M) rfl 56 (by decide) (tb_up q_4_138) rfl d_M_resolve_169 ?_
  refine J_if_ne (tgt := 182) h d_M_resolve_172 (by decide) ?_ ?_
  · refine J_aload_n (q := 0) h d_M_resolve_175 rfl rfl ?_
    refine J_getf h 0 (wM_0 ad cA σ15) (tb_ups in_M) rfl 17 (by decide) (tb_up q_4_99) rfl d_M_resolve_176 ?_
    refine J_goto (tgt := 183) h d_M_resolve_179 (by decide) ?_
    exact J_iret h rfl d_M_resolve_183
  · refine J_iconst (v := (-1)) h d_M_resolve_182 (by decide) ?_
    exact J_iret h rfl d_M_resolve_183
def M_M_resolve_b144 (N : Nat) (v1 : Int32) (σ : SM) : Option (Int32 × SM) := (M_M_resolve_b162 N v1 σ)
set_option maxRecDepth 100000 in
set_option maxHeartbeats 4000000 in
theorem J_M_M_resolve_b144 (K : jx_E) (D : va_G) (A : Nat → Prop) (ad : Nat → Nat) (cA : Nat → ClassId) (N : Nat) (h : jx_ok K D clM (tysM cA) A 6 b_M_resolve y_M_resolve.cls ((Cond.code y_M_resolve b_M_resolve 6 (some .int)) :: tblG) rM_M_resolve (some .int)) : ∀ (v1 : Int32) (σ : SM), J K D clM A 6 (wM ad cA) (jx_Qi K D clM (tysM cA) (wM ad cA) A) 0 0 144 [(0, .ref (ad 0)), (1, .int v1)] [] σ (M_M_resolve_b144 N v1 σ) := by
  intro v1 σ
  rw [M_M_resolve_b144]
  refine J_goto (tgt := 162) h d_M_resolve_144 (by decide) ?_
  exact J_M_M_resolve_b162 K D A ad cA N h v1 σ
def M_M_resolve (N : Nat)  (σ : SM) : Option (Int32 × SM) := (if (gM_M_state σ) = 0 then (bd (M_M_begin (-1) σ) (fun (r1 : Unit) (σ2 : SM) => (M_M_resolve_L16 N (M_M_resolve_b162 N) (M_M_resolve_b144 N) N 1 σ2))) else (some ((-1), σ)))
set_option maxRecDepth 100000 in
set_option maxHeartbeats 4000000 in
theorem J_M_M_resolve (K : jx_E) (D : va_G) (A : Nat → Prop) (ad : Nat → Nat) (cA : Nat → ClassId) (N : Nat) (h : jx_ok K D clM (tysM cA) A 6 b_M_resolve y_M_resolve.cls ((Cond.code y_M_resolve b_M_resolve 6 (some .int)) :: tblG) rM_M_resolve (some .int)) : ∀  (σ : SM), J K D clM A 6 (wM ad cA) (jx_Qi K D clM (tysM cA) (wM ad cA) A) 0 0 0 [(0, .ref (ad 0))] [] σ (M_M_resolve N  σ) := by
  intro  σ
  rw [M_M_resolve]
  refine J_aload_n (q := 0) h d_M_resolve_0 rfl rfl ?_
  refine J_getf h 0 (wM_0 ad cA σ) (tb_ups in_M) rfl 56 (by decide) (tb_up q_4_138) rfl d_M_resolve_1 ?_
  refine J_if_eq (tgt := 9) h d_M_resolve_4 (by decide) ?_ ?_
  · refine J_aload_n (q := 0) h d_M_resolve_9 rfl rfl ?_
    refine J_iconst (v := (-1)) h d_M_resolve_10 (by decide) ?_
    refine J_callVv (As := [.int (-1)]) (st := []) (rmc := rM_M_begin) (q0 := 0) h (fun _ _ hf => cM_M_begin (jl K) D ad cA (-1) σ _ _ hf) (gd_V q_5_150 q_5_152 q_s_42 q_1_12 q_5_153) rfl ⟨rfl, rfl⟩ dd_M_begin ⟨Nat.le_of_ble_eq_true rfl, Nat.le_of_ble_eq_true rfl⟩ rfl rfl (wM_0 ad cA σ) rfl rfl (Nat.le_of_ble_eq_true rfl) ⟨Nat.zero_le _, Nat.zero_le _⟩ d_M_resolve_11 (fun r1 σ2 => ?_)
    refine J_iconst (v := 1) h d_M_resolve_14 (by decide) ?_
    refine J_istore_n (lv' := [(1, .int 1), (0, .ref (ad 0))]) h d_M_resolve_15 rfl (by decide) rfl ?_
    refine J_sub [1, 0] rfl ?_
    exact J_M_M_resolve_L16 K D A ad cA N h (M_M_resolve_b162 N) (J_M_M_resolve_b162 K D A ad cA N h) (M_M_resolve_b144 N) (J_M_M_resolve_b144 K D A ad cA N h) N 1 σ2
  · refine J_iconst (v := (-1)) h d_M_resolve_7 (by decide) ?_
    exact J_iret h rfl d_M_resolve_8
set_option maxRecDepth 100000 in
theorem cM_M_resolve (l : Launch) (D : va_G) (ad : Nat → Nat) (cA : Nat → ClassId) (N : Nat)  (σ : SM) (r : Int32) (σ' : SM) (hf : M_M_resolve N  σ = some (r, σ')) : MetI l y_M_resolve ((Cond.code y_M_resolve b_M_resolve 6 (some .int)) :: tblG) rM_M_resolve D clM (tysM cA) (wM ad cA) [.ref (ad 0)] σ r σ' :=
  jx_metI (by decide) rfl (Nat.le_of_ble_eq_true rfl) (fun K A h => J_M_M_resolve K D A ad cA N h  σ) hf
def rM_M_count : Room := { frames := 0, cells := 0, slots := 0, locals := 0 }
theorem rm_ok_M_M_count : rM_M_count.cells = 0 ∧ rM_M_count.slots = 0 := ⟨rfl, rfl⟩
def M_M_count (x1 : Int32) (σ : SM) : Option (Int32 × SM) := (if x1 = 0 then (some ((gM_M_classes σ), σ)) else (if x1 = 1 then (some ((gM_M_types σ), σ)) else (if x1 = 2 then (some ((gM_M_variables σ), σ)) else (if x1 = 3 then (some ((gM_M_told σ), σ)) else (if x1 = 4 then (some ((gM_M_bounds σ), σ)) else (if x1 = 5 then (some ((gM_M_state σ), σ)) else (if x1 = 6 then (some ((gM_M_madeLess σ), σ)) else (if x1 = 7 then (some ((gM_M_stateAt σ), σ)) else (some ((-2), σ))))))))))
set_option maxRecDepth 100000 in
set_option maxHeartbeats 4000000 in
theorem J_M_M_count (K : jx_E) (D : va_G) (A : Nat → Prop) (ad : Nat → Nat) (cA : Nat → ClassId) (h : jx_ok K D clM (tysM cA) A 2 b_M_count y_M_count.cls ((Cond.code y_M_count b_M_count 2 (some .int)) :: tblG) rM_M_count (some .int)) : ∀ (x1 : Int32) (σ : SM), J K D clM A 2 (wM ad cA) (jx_Qi K D clM (tysM cA) (wM ad cA) A) 0 0 0 [(0, .ref (ad 0)), (1, .int x1)] [] σ (M_M_count x1 σ) := by
  intro x1 σ
  rw [M_M_count]
  refine J_iload_n (q := 1) h d_M_count_0 rfl rfl ?_
  refine J_if (fun c0 => ?_) (fun c0 => ?_)
  · refine J_tblIn (v := 0) (off := 47) (tgt := 48) h c0 d_M_count_1 (by decide) (by decide) (by decide) (by decide) ?_
    refine J_aload_n (q := 0) h d_M_count_48 rfl rfl ?_
    refine J_getf h 0 (wM_0 ad cA σ) (tb_ups in_M) rfl 4 (by decide) (tb_up q_4_86) rfl d_M_count_49 ?_
    exact J_iret h rfl d_M_count_52
  refine J_if (fun c1 => ?_) (fun c1 => ?_)
  · refine J_tblIn (v := 1) (off := 52) (tgt := 53) h c1 d_M_count_1 (by decide) (by decide) (by decide) (by decide) ?_
    refine J_aload_n (q := 0) h d_M_count_53 rfl rfl ?_
    refine J_getf h 0 (wM_0 ad cA σ) (tb_ups in_M) rfl 11 (by decide) (tb_up q_4_93) rfl d_M_count_54 ?_
    exact J_iret h rfl d_M_count_57
  refine J_if (fun c2 => ?_) (fun c2 => ?_)
  · refine J_tblIn (v := 2) (off := 57) (tgt := 58) h c2 d_M_count_1 (by decide) (by decide) (by decide) (by decide) ?_
    refine J_aload_n (q := 0) h d_M_count_58 rfl rfl ?_
    refine J_getf h 0 (wM_0 ad cA σ) (tb_ups in_M) rfl 17 (by decide) (tb_up q_4_99) rfl d_M_count_59 ?_
    exact J_iret h rfl d_M_count_62
  refine J_if (fun c3 => ?_) (fun c3 => ?_)
  · refine J_tblIn (v := 3) (off := 62) (tgt := 63) h c3 d_M_count_1 (by decide) (by decide) (by decide) (by decide) ?_
    refine J_aload_n (q := 0) h d_M_count_63 rfl rfl ?_
    refine J_getf h 0 (wM_0 ad cA σ) (tb_ups in_M) rfl 55 (by decide) (tb_up q_4_137) rfl d_M_count_64 ?_
    exact J_iret h rfl d_M_count_67
  refine J_if (fun c4 => ?_) (fun c4 => ?_)
  · refine J_tblIn (v := 4) (off := 67) (tgt := 68) h c4 d_M_count_1 (by decide) (by decide) (by decide) (by decide) ?_
    refine J_aload_n (q := 0) h d_M_count_68 rfl rfl ?_
    refine J_getf h 0 (wM_0 ad cA σ) (tb_ups in_M) rfl 49 (by decide) (tb_up q_4_131) rfl d_M_count_69 ?_
    exact J_iret h rfl d_M_count_72
  refine J_if (fun c5 => ?_) (fun c5 => ?_)
  · refine J_tblIn (v := 5) (off := 72) (tgt := 73) h c5 d_M_count_1 (by decide) (by decide) (by decide) (by decide) ?_
    refine J_aload_n (q := 0) h d_M_count_73 rfl rfl ?_
    refine J_getf h 0 (wM_0 ad cA σ) (tb_ups in_M) rfl 56 (by decide) (tb_up q_4_138) rfl d_M_count_74 ?_
    exact J_iret h rfl d_M_count_77
  refine J_if (fun c6 => ?_) (fun c6 => ?_)
  · refine J_tblIn (v := 6) (off := 77) (tgt := 78) h c6 d_M_count_1 (by decide) (by decide) (by decide) (by decide) ?_
    refine J_aload_n (q := 0) h d_M_count_78 rfl rfl ?_
    refine J_getf h 0 (wM_0 ad cA σ) (tb_ups in_M) rfl 36 (by decide) (tb_up q_4_118) rfl d_M_count_79 ?_
    exact J_iret h rfl d_M_count_82
  refine J_if (fun c7 => ?_) (fun c7 => ?_)
  · refine J_tblIn (v := 7) (off := 82) (tgt := 83) h c7 d_M_count_1 (by decide) (by decide) (by decide) (by decide) ?_
    refine J_aload_n (q := 0) h d_M_count_83 rfl rfl ?_
    refine J_getf h 0 (wM_0 ad cA σ) (tb_ups in_M) rfl 57 (by decide) (tb_up q_4_139) rfl d_M_count_84 ?_
    exact J_iret h rfl d_M_count_87
  refine J_tblOut (tgt := 88) h (by have t0 := lv_neT (a := 0) c0 (by decide); have t1 := lv_neT (a := 1) c1 (by decide); have t2 := lv_neT (a := 2) c2 (by decide); have t3 := lv_neT (a := 3) c3 (by decide); have t4 := lv_neT (a := 4) c4 (by decide); have t5 := lv_neT (a := 5) c5 (by decide); have t6 := lv_neT (a := 6) c6 (by decide); have t7 := lv_neT (a := 7) c7 (by decide); omega) d_M_count_1 (by decide) ?_
  refine J_bipush (v := (-2)) h d_M_count_88 (by decide) ?_
  exact J_iret h rfl d_M_count_90
set_option maxRecDepth 100000 in
theorem cM_M_count (l : Launch) (D : va_G) (ad : Nat → Nat) (cA : Nat → ClassId) (x1 : Int32) (σ : SM) (r : Int32) (σ' : SM) (hf : M_M_count x1 σ = some (r, σ')) : MetI l y_M_count ((Cond.code y_M_count b_M_count 2 (some .int)) :: tblG) rM_M_count D clM (tysM cA) (wM ad cA) [.ref (ad 0), .int x1] σ r σ' :=
  jx_metI (by decide) rfl (Nat.le_of_ble_eq_true rfl) (fun K A h => J_M_M_count K D A ad cA h x1 σ) hf
def rM_M_type : Room := { frames := 1, cells := 0, slots := 0, locals := 21 }
theorem rm_ok_M_M_type : rM_M_type.cells = 0 ∧ rM_M_type.slots = 0 := ⟨rfl, rfl⟩
def M_M_type (x1 : Int32) (x2 : Int32) (σ : SM) : Option (Int32 × SM) := (bd (M_M_isType x1 σ) (fun (r1 : Int32) (σ2 : SM) => (if r1 = 0 then (some ((-2), σ2)) else (if x2 < 0 then (some ((-2), σ2)) else (if x2 ≤ 5 then (if x2 = 0 then (if ck x1 500 = true then (some ((aM_M_kind σ2 x1.toNatClampNeg), σ2)) else none) else (if x2 = 1 then (if ck x1 500 = true then (some ((aM_M_one σ2 x1.toNatClampNeg), σ2)) else none) else (if x2 = 2 then (if ck x1 500 = true then (some ((aM_M_two σ2 x1.toNatClampNeg), σ2)) else none) else (if x2 = 3 then (if ck x1 500 = true then (some ((aM_M_three σ2 x1.toNatClampNeg), σ2)) else none) else (if x2 = 4 then (if ck x1 500 = true then (some ((aM_M_deep σ2 x1.toNatClampNeg), σ2)) else none) else (if ck x1 500 = true then (if (aM_M_proper σ2 x1.toNatClampNeg) = 0 then (some (0, σ2)) else (some (1, σ2))) else none)))))) else (some ((-2), σ2)))))))
set_option maxRecDepth 100000 in
set_option maxHeartbeats 4000000 in
theorem J_M_M_type (K : jx_E) (D : va_G) (A : Nat → Prop) (ad : Nat → Nat) (cA : Nat → ClassId) (h : jx_ok K D clM (tysM cA) A 3 b_M_type y_M_type.cls ((Cond.code y_M_type b_M_type 3 (some .int)) :: tblG) rM_M_type (some .int)) : ∀ (x1 : Int32) (x2 : Int32) (σ : SM), J K D clM A 3 (wM ad cA) (jx_Qi K D clM (tysM cA) (wM ad cA) A) 0 0 0 [(0, .ref (ad 0)), (1, .int x1), (2, .int x2)] [] σ (M_M_type x1 x2 σ) := by
  intro x1 x2 σ
  rw [M_M_type]
  refine J_aload_n (q := 0) h d_M_type_0 rfl rfl ?_
  refine J_iload_n (q := 1) h d_M_type_1 rfl rfl ?_
  refine J_callVi (As := [.int x1]) (st := []) (rmc := rM_M_isType) (q0 := 0) h (fun _ _ hf => cM_M_isType (jl K) D ad cA x1 σ _ _ hf) (gd_V q_5_54 q_5_56 q_s_28 q_1_12 q_5_57) rfl ⟨rfl, rfl⟩ dd_M_isType ⟨Nat.le_of_ble_eq_true rfl, Nat.le_of_ble_eq_true rfl⟩ rfl rfl (wM_0 ad cA σ) rfl rfl (Nat.le_of_ble_eq_true rfl) ⟨Nat.zero_le _, Nat.zero_le _⟩ d_M_type_2 (fun r1 σ2 => ?_)
  refine J_if_eq (tgt := 17) h d_M_type_5 (by decide) ?_ ?_
  · refine J_bipush (v := (-2)) h d_M_type_17 (by decide) ?_
    exact J_iret h rfl d_M_type_19
  · refine J_iload_n (q := 2) h d_M_type_8 rfl rfl ?_
    refine J_if_lt (tgt := 17) h d_M_type_9 (by decide) ?_ ?_
    · refine J_bipush (v := (-2)) h d_M_type_17 (by decide) ?_
      exact J_iret h rfl d_M_type_19
    · refine J_iload_n (q := 2) h d_M_type_12 rfl rfl ?_
      refine J_iconst (v := 5) h d_M_type_13 (by decide) ?_
      refine J_icmp_le (tgt := 20) h d_M_type_14 (by decide) ?_ ?_
      · refine J_iload_n (q := 2) h d_M_type_20 rfl rfl ?_
        refine J_if (fun c0 => ?_) (fun c0 => ?_)
        · refine J_tblIn (v := 0) (off := 35) (tgt := 56) h c0 d_M_type_21 (by decide) (by decide) (by decide) (by decide) ?_
          refine J_aload_n (q := 0) h d_M_type_56 rfl rfl ?_
          refine J_getf h 0 (wM_0 ad cA σ2) (tb_ups in_M) rfl 5 (by decide) (tb_up q_4_87) rfl d_M_type_57 ?_
          refine J_iload_n (q := 1) h d_M_type_60 rfl rfl ?_
          refine J_iald h 5 4 (wM_5 ad cA σ2) rfl d_M_type_61 ?_
          exact J_iret h rfl d_M_type_62
        refine J_if (fun c1 => ?_) (fun c1 => ?_)
        · refine J_tblIn (v := 1) (off := 42) (tgt := 63) h c1 d_M_type_21 (by decide) (by decide) (by decide) (by decide) ?_
          refine J_aload_n (q := 0) h d_M_type_63 rfl rfl ?_
          refine J_getf h 0 (wM_0 ad cA σ2) (tb_ups in_M) rfl 6 (by decide) (tb_up q_4_88) rfl d_M_type_64 ?_
          refine J_iload_n (q := 1) h d_M_type_67 rfl rfl ?_
          refine J_iald h 6 5 (wM_6 ad cA σ2) rfl d_M_type_68 ?_
          exact J_iret h rfl d_M_type_69
        refine J_if (fun c2 => ?_) (fun c2 => ?_)
        · refine J_tblIn (v := 2) (off := 49) (tgt := 70) h c2 d_M_type_21 (by decide) (by decide) (by decide) (by decide) ?_
          refine J_aload_n (q := 0) h d_M_type_70 rfl rfl ?_
          refine J_getf h 0 (wM_0 ad cA σ2) (tb_ups in_M) rfl 7 (by decide) (tb_up q_4_89) rfl d_M_type_71 ?_
          refine J_iload_n (q := 1) h d_M_type_74 rfl rfl ?_
          refine J_iald h 7 6 (wM_7 ad cA σ2) rfl d_M_type_75 ?_
          exact J_iret h rfl d_M_type_76
        refine J_if (fun c3 => ?_) (fun c3 => ?_)
        · refine J_tblIn (v := 3) (off := 56) (tgt := 77) h c3 d_M_type_21 (by decide) (by decide) (by decide) (by decide) ?_
          refine J_aload_n (q := 0) h d_M_type_77 rfl rfl ?_
          refine J_getf h 0 (wM_0 ad cA σ2) (tb_ups in_M) rfl 8 (by decide) (tb_up q_4_90) rfl d_M_type_78 ?_
          refine J_iload_n (q := 1) h d_M_type_81 rfl rfl ?_
          refine J_iald h 8 7 (wM_8 ad cA σ2) rfl d_M_type_82 ?_
          exact J_iret h rfl d_M_type_83
        refine J_if (fun c4 => ?_) (fun c4 => ?_)
        · refine J_tblIn (v := 4) (off := 63) (tgt := 84) h c4 d_M_type_21 (by decide) (by decide) (by decide) (by decide) ?_
          refine J_aload_n (q := 0) h d_M_type_84 rfl rfl ?_
          refine J_getf h 0 (wM_0 ad cA σ2) (tb_ups in_M) rfl 9 (by decide) (tb_up q_4_91) rfl d_M_type_85 ?_
          refine J_iload_n (q := 1) h d_M_type_88 rfl rfl ?_
          refine J_iald h 9 8 (wM_9 ad cA σ2) rfl d_M_type_89 ?_
          exact J_iret h rfl d_M_type_90
        refine J_tblOut (tgt := 91) h (by have t0 := lv_neT (a := 0) c0 (by decide); have t1 := lv_neT (a := 1) c1 (by decide); have t2 := lv_neT (a := 2) c2 (by decide); have t3 := lv_neT (a := 3) c3 (by decide); have t4 := lv_neT (a := 4) c4 (by decide); omega) d_M_type_21 (by decide) ?_
        refine J_aload_n (q := 0) h d_M_type_91 rfl rfl ?_
        refine J_getf h 0 (wM_0 ad cA σ2) (tb_ups in_M) rfl 10 (by decide) (tb_up q_4_92) rfl d_M_type_92 ?_
        refine J_iload_n (q := 1) h d_M_type_95 rfl rfl ?_
        refine J_zald h 10 9 (wM_10 ad cA σ2) rfl d_M_type_96 ?_
        refine J_if_eq (tgt := 104) h d_M_type_97 (by decide) ?_ ?_
        · refine J_iconst (v := 0) h d_M_type_104 (by decide) ?_
          exact J_iret h rfl d_M_type_105
        · refine J_iconst (v := 1) h d_M_type_100 (by decide) ?_
          refine J_goto (tgt := 105) h d_M_type_101 (by decide) ?_
          exact J_iret h rfl d_M_type_105
      · refine J_bipush (v := (-2)) h d_M_type_17 (by decide) ?_
        exact J_iret h rfl d_M_type_19
set_option maxRecDepth 100000 in
theorem cM_M_type (l : Launch) (D : va_G) (ad : Nat → Nat) (cA : Nat → ClassId) (x1 : Int32) (x2 : Int32) (σ : SM) (r : Int32) (σ' : SM) (hf : M_M_type x1 x2 σ = some (r, σ')) : MetI l y_M_type ((Cond.code y_M_type b_M_type 3 (some .int)) :: tblG) rM_M_type D clM (tysM cA) (wM ad cA) [.ref (ad 0), .int x1, .int x2] σ r σ' :=
  jx_metI (by decide) rfl (Nat.le_of_ble_eq_true rfl) (fun K A h => J_M_M_type K D A ad cA h x1 x2 σ) hf
def rM_M_bound : Room := { frames := 0, cells := 0, slots := 0, locals := 0 }
theorem rm_ok_M_M_bound : rM_M_bound.cells = 0 ∧ rM_M_bound.slots = 0 := ⟨rfl, rfl⟩
def M_M_bound (x1 : Int32) (x2 : Int32) (σ : SM) : Option (Int32 × SM) := (if x1 < 0 then (some ((-2), σ)) else (if (gM_M_bounds σ) ≤ x1 then (some ((-2), σ)) else (if x2 < 0 then (some ((-2), σ)) else (if x2 ≤ 3 then (if x2 = 0 then (if ck x1 200 = true then (some ((aM_M_boundSort σ x1.toNatClampNeg), σ)) else none) else (if x2 = 1 then (if ck x1 200 = true then (some ((aM_M_boundOf σ x1.toNatClampNeg), σ)) else none) else (if x2 = 2 then (if ck x1 200 = true then (some ((aM_M_boundType σ x1.toNatClampNeg), σ)) else none) else (if ck x1 200 = true then (some ((aM_M_boundFrom σ x1.toNatClampNeg), σ)) else none)))) else (some ((-2), σ))))))
set_option maxRecDepth 100000 in
set_option maxHeartbeats 4000000 in
theorem J_M_M_bound (K : jx_E) (D : va_G) (A : Nat → Prop) (ad : Nat → Nat) (cA : Nat → ClassId) (h : jx_ok K D clM (tysM cA) A 3 b_M_bound y_M_bound.cls ((Cond.code y_M_bound b_M_bound 3 (some .int)) :: tblG) rM_M_bound (some .int)) : ∀ (x1 : Int32) (x2 : Int32) (σ : SM), J K D clM A 3 (wM ad cA) (jx_Qi K D clM (tysM cA) (wM ad cA) A) 0 0 0 [(0, .ref (ad 0)), (1, .int x1), (2, .int x2)] [] σ (M_M_bound x1 x2 σ) := by
  intro x1 x2 σ
  rw [M_M_bound]
  refine J_iload_n (q := 1) h d_M_bound_0 rfl rfl ?_
  refine J_if_lt (tgt := 21) h d_M_bound_1 (by decide) ?_ ?_
  · refine J_bipush (v := (-2)) h d_M_bound_21 (by decide) ?_
    exact J_iret h rfl d_M_bound_23
  · refine J_iload_n (q := 1) h d_M_bound_4 rfl rfl ?_
    refine J_aload_n (q := 0) h d_M_bound_5 rfl rfl ?_
    refine J_getf h 0 (wM_0 ad cA σ) (tb_ups in_M) rfl 49 (by decide) (tb_up q_4_131) rfl d_M_bound_6 ?_
    refine J_icmp_ge (tgt := 21) h d_M_bound_9 (by decide) ?_ ?_
    · refine J_bipush (v := (-2)) h d_M_bound_21 (by decide) ?_
      exact J_iret h rfl d_M_bound_23
    · refine J_iload_n (q := 2) h d_M_bound_12 rfl rfl ?_
      refine J_if_lt (tgt := 21) h d_M_bound_13 (by decide) ?_ ?_
      · refine J_bipush (v := (-2)) h d_M_bound_21 (by decide) ?_
        exact J_iret h rfl d_M_bound_23
      · refine J_iload_n (q := 2) h d_M_bound_16 rfl rfl ?_
        refine J_iconst (v := 3) h d_M_bound_17 (by decide) ?_
        refine J_icmp_le (tgt := 24) h d_M_bound_18 (by decide) ?_ ?_
        · refine J_iload_n (q := 2) h d_M_bound_24 rfl rfl ?_
          refine J_if_ne (tgt := 37) h d_M_bound_25 (by decide) ?_ ?_
          · refine J_aload_n (q := 0) h d_M_bound_28 rfl rfl ?_
            refine J_getf h 0 (wM_0 ad cA σ) (tb_ups in_M) rfl 45 (by decide) (tb_up q_4_127) rfl d_M_bound_29 ?_
            refine J_iload_n (q := 1) h d_M_bound_32 rfl rfl ?_
            refine J_iald h 30 29 (wM_30 ad cA σ) rfl d_M_bound_33 ?_
            refine J_goto (tgt := 71) h d_M_bound_34 (by decide) ?_
            exact J_iret h rfl d_M_bound_71
          · refine J_iload_n (q := 2) h d_M_bound_37 rfl rfl ?_
            refine J_iconst (v := 1) h d_M_bound_38 (by decide) ?_
            refine J_icmp_ne (tgt := 51) h d_M_bound_39 (by decide) ?_ ?_
            · refine J_aload_n (q := 0) h d_M_bound_42 rfl rfl ?_
              refine J_getf h 0 (wM_0 ad cA σ) (tb_ups in_M) rfl 46 (by decide) (tb_up q_4_128) rfl d_M_bound_43 ?_
              refine J_iload_n (q := 1) h d_M_bound_46 rfl rfl ?_
              refine J_iald h 31 30 (wM_31 ad cA σ) rfl d_M_bound_47 ?_
              refine J_goto (tgt := 71) h d_M_bound_48 (by decide) ?_
              exact J_iret h rfl d_M_bound_71
            · refine J_iload_n (q := 2) h d_M_bound_51 rfl rfl ?_
              refine J_iconst (v := 2) h d_M_bound_52 (by decide) ?_
              refine J_icmp_ne (tgt := 65) h d_M_bound_53 (by decide) ?_ ?_
              · refine J_aload_n (q := 0) h d_M_bound_56 rfl rfl ?_
                refine J_getf h 0 (wM_0 ad cA σ) (tb_ups in_M) rfl 47 (by decide) (tb_up q_4_129) rfl d_M_bound_57 ?_
                refine J_iload_n (q := 1) h d_M_bound_60 rfl rfl ?_
                refine J_iald h 32 31 (wM_32 ad cA σ) rfl d_M_bound_61 ?_
                refine J_goto (tgt := 71) h d_M_bound_62 (by decide) ?_
                exact J_iret h rfl d_M_bound_71
              · refine J_aload_n (q := 0) h d_M_bound_65 rfl rfl ?_
                refine J_getf h 0 (wM_0 ad cA σ) (tb_ups in_M) rfl 48 (by decide) (tb_up q_4_130) rfl d_M_bound_66 ?_
                refine J_iload_n (q := 1) h d_M_bound_69 rfl rfl ?_
                refine J_iald h 33 32 (wM_33 ad cA σ) rfl d_M_bound_70 ?_
                exact J_iret h rfl d_M_bound_71
        · refine J_bipush (v := (-2)) h d_M_bound_21 (by decide) ?_
          exact J_iret h rfl d_M_bound_23
set_option maxRecDepth 100000 in
theorem cM_M_bound (l : Launch) (D : va_G) (ad : Nat → Nat) (cA : Nat → ClassId) (x1 : Int32) (x2 : Int32) (σ : SM) (r : Int32) (σ' : SM) (hf : M_M_bound x1 x2 σ = some (r, σ')) : MetI l y_M_bound ((Cond.code y_M_bound b_M_bound 3 (some .int)) :: tblG) rM_M_bound D clM (tysM cA) (wM ad cA) [.ref (ad 0), .int x1, .int x2] σ r σ' :=
  jx_metI (by decide) rfl (Nat.le_of_ble_eq_true rfl) (fun K A h => J_M_M_bound K D A ad cA h x1 x2 σ) hf
def rM_M_instance : Room := { frames := 1, cells := 0, slots := 0, locals := 22 }
theorem rm_ok_M_M_instance : rM_M_instance.cells = 0 ∧ rM_M_instance.slots = 0 := ⟨rfl, rfl⟩
def M_M_instance (N : Nat) (x1 : Int32) (σ : SM) : Option (Int32 × SM) := (if x1 < 0 then (some ((-2), σ)) else (if x1 < (gM_M_variables σ) then (bd (M_M_instanceOf N x1 σ) (fun (r1 : Int32) (σ2 : SM) => (some (r1, σ2)))) else (some ((-2), σ))))
set_option maxRecDepth 100000 in
set_option maxHeartbeats 4000000 in
theorem J_M_M_instance (K : jx_E) (D : va_G) (A : Nat → Prop) (ad : Nat → Nat) (cA : Nat → ClassId) (N : Nat) (h : jx_ok K D clM (tysM cA) A 2 b_M_instance y_M_instance.cls ((Cond.code y_M_instance b_M_instance 2 (some .int)) :: tblG) rM_M_instance (some .int)) : ∀ (x1 : Int32) (σ : SM), J K D clM A 2 (wM ad cA) (jx_Qi K D clM (tysM cA) (wM ad cA) A) 0 0 0 [(0, .ref (ad 0)), (1, .int x1)] [] σ (M_M_instance N x1 σ) := by
  intro x1 σ
  rw [M_M_instance]
  refine J_iload_n (q := 1) h d_M_instance_0 rfl rfl ?_
  refine J_if_lt (tgt := 12) h d_M_instance_1 (by decide) ?_ ?_
  · refine J_bipush (v := (-2)) h d_M_instance_12 (by decide) ?_
    refine J_goto (tgt := 22) h d_M_instance_14 (by decide) ?_
    exact J_iret h rfl d_M_instance_22
  · refine J_iload_n (q := 1) h d_M_instance_4 rfl rfl ?_
    refine J_aload_n (q := 0) h d_M_instance_5 rfl rfl ?_
    refine J_getf h 0 (wM_0 ad cA σ) (tb_ups in_M) rfl 17 (by decide) (tb_up q_4_99) rfl d_M_instance_6 ?_
    refine J_icmp_lt (tgt := 17) h d_M_instance_9 (by decide) ?_ ?_
    · refine J_aload_n (q := 0) h d_M_instance_17 rfl rfl ?_
      refine J_iload_n (q := 1) h d_M_instance_18 rfl rfl ?_
      refine J_callVi (As := [.int x1]) (st := []) (rmc := rM_M_instanceOf) (q0 := 0) h (fun _ _ hf => cM_M_instanceOf (jl K) D ad cA N x1 σ _ _ hf) (gd_V q_5_229 q_5_231 q_s_59 q_1_12 q_5_232) rfl ⟨rfl, rfl⟩ dd_M_instanceOf ⟨Nat.le_of_ble_eq_true rfl, Nat.le_of_ble_eq_true rfl⟩ rfl rfl (wM_0 ad cA σ) rfl rfl (Nat.le_of_ble_eq_true rfl) ⟨Nat.zero_le _, Nat.zero_le _⟩ d_M_instance_19 (fun r1 σ2 => ?_)
      exact J_iret h rfl d_M_instance_22
    · refine J_bipush (v := (-2)) h d_M_instance_12 (by decide) ?_
      refine J_goto (tgt := 22) h d_M_instance_14 (by decide) ?_
      exact J_iret h rfl d_M_instance_22
set_option maxRecDepth 100000 in
theorem cM_M_instance (l : Launch) (D : va_G) (ad : Nat → Nat) (cA : Nat → ClassId) (N : Nat) (x1 : Int32) (σ : SM) (r : Int32) (σ' : SM) (hf : M_M_instance N x1 σ = some (r, σ')) : MetI l y_M_instance ((Cond.code y_M_instance b_M_instance 2 (some .int)) :: tblG) rM_M_instance D clM (tysM cA) (wM ad cA) [.ref (ad 0), .int x1] σ r σ' :=
  jx_metI (by decide) rfl (Nat.le_of_ble_eq_true rfl) (fun K A h => J_M_M_instance K D A ad cA N h x1 σ) hf
def rM_M_unchecked : Room := { frames := 0, cells := 0, slots := 0, locals := 0 }
theorem rm_ok_M_M_unchecked : rM_M_unchecked.cells = 0 ∧ rM_M_unchecked.slots = 0 := ⟨rfl, rfl⟩
def M_M_unchecked (x1 : Int32) (σ : SM) : Option (Int32 × SM) := (if x1 < 0 then (some ((-2), σ)) else (if x1 < (gM_M_told σ) then (if ck x1 60 = true then (if (aM_M_toldUnchecked σ x1.toNatClampNeg) = 0 then (some (0, σ)) else (some (1, σ))) else none) else (some ((-2), σ))))
set_option maxRecDepth 100000 in
set_option maxHeartbeats 4000000 in
theorem J_M_M_unchecked (K : jx_E) (D : va_G) (A : Nat → Prop) (ad : Nat → Nat) (cA : Nat → ClassId) (h : jx_ok K D clM (tysM cA) A 2 b_M_unchecked y_M_unchecked.cls ((Cond.code y_M_unchecked b_M_unchecked 2 (some .int)) :: tblG) rM_M_unchecked (some .int)) : ∀ (x1 : Int32) (σ : SM), J K D clM A 2 (wM ad cA) (jx_Qi K D clM (tysM cA) (wM ad cA) A) 0 0 0 [(0, .ref (ad 0)), (1, .int x1)] [] σ (M_M_unchecked x1 σ) := by
  intro x1 σ
  rw [M_M_unchecked]
  refine J_iload_n (q := 1) h d_M_unchecked_0 rfl rfl ?_
  refine J_if_lt (tgt := 12) h d_M_unchecked_1 (by decide) ?_ ?_
  · refine J_bipush (v := (-2)) h d_M_unchecked_12 (by decide) ?_
    refine J_goto (tgt := 31) h d_M_unchecked_14 (by decide) ?_
    exact J_iret h rfl d_M_unchecked_31
  · refine J_iload_n (q := 1) h d_M_unchecked_4 rfl rfl ?_
    refine J_aload_n (q := 0) h d_M_unchecked_5 rfl rfl ?_
    refine J_getf h 0 (wM_0 ad cA σ) (tb_ups in_M) rfl 55 (by decide) (tb_up q_4_137) rfl d_M_unchecked_6 ?_
    refine J_icmp_lt (tgt := 17) h d_M_unchecked_9 (by decide) ?_ ?_
    · refine J_aload_n (q := 0) h d_M_unchecked_17 rfl rfl ?_
      refine J_getf h 0 (wM_0 ad cA σ) (tb_ups in_M) rfl 54 (by decide) (tb_up q_4_136) rfl d_M_unchecked_18 ?_
      refine J_iload_n (q := 1) h d_M_unchecked_21 rfl rfl ?_
      refine J_zald h 37 36 (wM_37 ad cA σ) rfl d_M_unchecked_22 ?_
      refine J_if_eq (tgt := 30) h d_M_unchecked_23 (by decide) ?_ ?_
      · refine J_iconst (v := 0) h d_M_unchecked_30 (by decide) ?_
        exact J_iret h rfl d_M_unchecked_31
      · refine J_iconst (v := 1) h d_M_unchecked_26 (by decide) ?_
        refine J_goto (tgt := 31) h d_M_unchecked_27 (by decide) ?_
        exact J_iret h rfl d_M_unchecked_31
    · refine J_bipush (v := (-2)) h d_M_unchecked_12 (by decide) ?_
      refine J_goto (tgt := 31) h d_M_unchecked_14 (by decide) ?_
      exact J_iret h rfl d_M_unchecked_31
set_option maxRecDepth 100000 in
theorem cM_M_unchecked (l : Launch) (D : va_G) (ad : Nat → Nat) (cA : Nat → ClassId) (x1 : Int32) (σ : SM) (r : Int32) (σ' : SM) (hf : M_M_unchecked x1 σ = some (r, σ')) : MetI l y_M_unchecked ((Cond.code y_M_unchecked b_M_unchecked 2 (some .int)) :: tblG) rM_M_unchecked D clM (tysM cA) (wM ad cA) [.ref (ad 0), .int x1] σ r σ' :=
  jx_metI (by decide) rfl (Nat.le_of_ble_eq_true rfl) (fun K A h => J_M_M_unchecked K D A ad cA h x1 σ) hf
def rM_M_judge : Room := { frames := 7, cells := 0, slots := 0, locals := 177 }
theorem rm_ok_M_M_judge : rM_M_judge.cells = 0 ∧ rM_M_judge.slots = 0 := ⟨rfl, rfl⟩
def M_M_judge_b50 (N : Nat) (k22 : Int32 → Int32 → SM → Option (Int32 × SM)) (v1 : Int32) (v2 : Int32) (s0 : Int32) (s1 : Int32) (σ : SM) : Option (Int32 × SM) := (if ck s1 12 = true then (nm (tM_M_inPlace σ (upd (aM_M_inPlace σ) s1.toNatClampNeg s0)) (fun (σ3 : SM) => (nm (v2 + 1) (fun (y4 : Int32) => (k22 v1 y4 σ3))))) else none)
set_option maxRecDepth 100000 in
set_option maxHeartbeats 4000000 in
theorem J_M_M_judge_b50 (K : jx_E) (D : va_G) (A : Nat → Prop) (ad : Nat → Nat) (cA : Nat → ClassId) (N : Nat) (h : jx_ok K D clM (tysM cA) A 6 b_M_judge y_M_judge.cls ((Cond.code y_M_judge b_M_judge 6 (some .int)) :: tblG) rM_M_judge (some .int)) (k22 : Int32 → Int32 → SM → Option (Int32 × SM)) (hk22 : ∀ (v1 : Int32) (v2 : Int32) (σ : SM), J K D clM A 6 (wM ad cA) (jx_Qi K D clM (tysM cA) (wM ad cA) A) 0 0 22 [(0, .ref (ad 0)), (1, .int v1), (2, .int v2)] [] σ (k22 v1 v2 σ)) : ∀ (v1 : Int32) (v2 : Int32) (s0 : Int32) (s1 : Int32) (σ : SM), J K D clM A 6 (wM ad cA) (jx_Qi K D clM (tysM cA) (wM ad cA) A) 0 0 50 [(0, .ref (ad 0)), (1, .int v1), (2, .int v2)] [.int s0, .int s1, .ref (ad 17)] σ (M_M_judge_b50 N k22 v1 v2 s0 s1 σ) := by
  intro v1 v2 s0 s1 σ
  rw [M_M_judge_b50]
  refine J_iast h 17 16 (wM_17 ad cA σ) rfl (uM_17 ad cA σ _) d_M_judge_50 (fun σ3 => ?_)
  refine J_iinc (q := 2) (c := 1) (lv' := fun y4 => [(2, .int y4), (0, .ref (ad 0)), (1, .int v1)]) h d_M_judge_51 rfl (by decide) (by decide) (fun _ => rfl) (fun y4 => ?_)
  refine J_goto (tgt := 22) h d_M_judge_54 (by decide) ?_
  refine J_sub [1, 2, 0] rfl ?_
  exact hk22 v1 y4 σ3
def M_M_judge_L22 (N : Nat) (k57 : Int32 → SM → Option (Int32 × SM)) : Nat → Int32 → Int32 → SM → Option (Int32 × SM)
  | 0, _, _, _ => none
  | n + 1, v1, v2, σ => (if (12 : Int32) ≤ v2 then (k57 v1 σ) else (if (gM_M_variables σ) ≤ v2 then (M_M_judge_b50 N (M_M_judge_L22 N k57 n) v1 v2 (-1) v2 σ) else (bd (M_M_instanceOf N v2 σ) (fun (r5 : Int32) (σ6 : SM) => (M_M_judge_b50 N (M_M_judge_L22 N k57 n) v1 v2 r5 v2 σ6)))))
set_option maxRecDepth 100000 in
set_option maxHeartbeats 4000000 in
theorem J_M_M_judge_L22 (K : jx_E) (D : va_G) (A : Nat → Prop) (ad : Nat → Nat) (cA : Nat → ClassId) (N : Nat) (h : jx_ok K D clM (tysM cA) A 6 b_M_judge y_M_judge.cls ((Cond.code y_M_judge b_M_judge 6 (some .int)) :: tblG) rM_M_judge (some .int)) (k57 : Int32 → SM → Option (Int32 × SM)) (hk57 : ∀ (v1 : Int32) (σ : SM), J K D clM A 6 (wM ad cA) (jx_Qi K D clM (tysM cA) (wM ad cA) A) 0 0 57 [(0, .ref (ad 0)), (1, .int v1)] [] σ (k57 v1 σ)) : ∀ (n : Nat) (v1 : Int32) (v2 : Int32) (σ : SM), J K D clM A 6 (wM ad cA) (jx_Qi K D clM (tysM cA) (wM ad cA) A) 0 0 22 [(0, .ref (ad 0)), (1, .int v1), (2, .int v2)] [] σ (M_M_judge_L22 N k57 n v1 v2 σ) := by
  intro n
  induction n with
  | zero => intro v1 v2 σ; exact J_none
  | succ n ih =>
    intro v1 v2 σ
    rw [M_M_judge_L22]
    refine J_iload_n (q := 2) h d_M_judge_22 rfl rfl ?_
    refine J_bipush (v := 12) h d_M_judge_23 (by decide) ?_
    refine J_icmp_ge (tgt := 57) h d_M_judge_25 (by decide) ?_ ?_
    · refine J_sub [0, 1] rfl ?_
      exact hk57 v1 σ
    · refine J_aload_n (q := 0) h d_M_judge_28 rfl rfl ?_
      refine J_getf h 0 (wM_0 ad cA σ) (tb_ups in_M) rfl 21 (by decide) (tb_up q_4_103) rfl d_M_judge_29 ?_
      refine J_iload_n (q := 2) h d_M_judge_32 rfl rfl ?_
      refine J_iload_n (q := 2) h d_M_judge_33 rfl rfl ?_
      refine J_aload_n (q := 0) h d_M_judge_34 rfl rfl ?_
      refine J_getf h 0 (wM_0 ad cA σ) (tb_ups in_M) rfl 17 (by decide) (tb_up q_4_99) rfl d_M_judge_35 ?_
      refine J_icmp_ge (tgt := 49) h d_M_judge_38 (by decide) ?_ ?_
      · refine J_iconst (v := (-1)) h d_M_judge_49 (by decide) ?_
        exact J_M_M_judge_b50 K D A ad cA N h (M_M_judge_L22 N k57 n) ih v1 v2 (-1) v2 σ
      · refine J_aload_n (q := 0) h d_M_judge_41 rfl rfl ?_
        refine J_iload_n (q := 2) h d_M_judge_42 rfl rfl ?_
        refine J_callVi (As := [.int v2]) (st := [.int v2, .ref (ad 17)]) (rmc := rM_M_instanceOf) (q0 := 0) h (fun _ _ hf => cM_M_instanceOf (jl K) D ad cA N v2 σ _ _ hf) (gd_V q_5_229 q_5_231 q_s_59 q_1_12 q_5_232) rfl ⟨rfl, rfl⟩ dd_M_instanceOf ⟨Nat.le_of_ble_eq_true rfl, Nat.le_of_ble_eq_true rfl⟩ rfl rfl (wM_0 ad cA σ) rfl rfl (Nat.le_of_ble_eq_true rfl) ⟨Nat.zero_le _, Nat.zero_le _⟩ d_M_judge_43 (fun r5 σ6 => ?_)
        refine J_goto (tgt := 50) h d_M_judge_46 (by decide) ?_
        exact J_M_M_judge_b50 K D A ad cA N h (M_M_judge_L22 N k57 n) ih v1 v2 r5 v2 σ6
def M_M_judge_b147 (N : Nat) (s0 : Int32) (σ : SM) : Option (Int32 × SM) := (nm ((gM_M_full σ)) (fun (y13 : Int32) => (nm (sM_M_full σ 0) (fun (σ14 : SM) => (nm (sM_M_judging σ14 0) (fun (σ15 : SM) => (if y13 = 0 then (if s0 = 0 then (some (0, σ15)) else (if (gM_M_isUnchecked σ15) = 0 then (some (1, σ15)) else (some (2, σ15)))) else (some ((-3), σ15)))))))))
set_option maxRecDepth 100000 in
set_option maxHeartbeats 4000000 in
theorem J_M_M_judge_b147 (K : jx_E) (D : va_G) (A : Nat → Prop) (ad : Nat → Nat) (cA : Nat → ClassId) (N : Nat) (h : jx_ok K D clM (tysM cA) A 6 b_M_judge y_M_judge.cls ((Cond.code y_M_judge b_M_judge 6 (some .int)) :: tblG) rM_M_judge (some .int)) : ∀ (s0 : Int32) (σ : SM), J K D clM A 6 (wM ad cA) (jx_Qi K D clM (tysM cA) (wM ad cA) A) 0 0 147 [(0, .ref (ad 0))] [.int s0] σ (M_M_judge_b147 N s0 σ) := by
  intro s0 σ
  rw [M_M_judge_b147]
  refine J_istore (lv' := [(4, .int s0), (0, .ref (ad 0))]) h d_M_judge_147 (by decide) rfl ?_
  refine J_aload_n (q := 1) h d_M_judge_149 rfl rfl ?_
  refine J_getf h 0 (wM_0 ad cA σ) (tb_ups in_M) rfl 12 (by decide) (tb_up q_4_94) rfl d_M_judge_150 ?_
  refine J_nmi (fun y13 => ?_)
  refine J_istore (lv' := [(5, .int y13), (4, .int s0), (0, .ref (ad 0))]) h d_M_judge_153 (by decide) rfl ?_
  refine J_aload_n (q := 2) h d_M_judge_155 rfl rfl ?_
  refine J_iconst (v := 0) h d_M_judge_156 (by decide) ?_
  refine J_putf h 0 (wM_0 ad cA σ) (tb_ups in_M) rfl ft_M ft_M_ok nm_M 12 (by decide) (tb_up q_4_94) rfl (by decide) (by decide) (Nat.le_of_ble_eq_true rfl) (pM_0_12 ad cA σ 0) d_M_judge_157 (fun σ14 => ?_)
  refine J_aload_n (q := 2) h d_M_judge_160 rfl rfl ?_
  refine J_iconst (v := 0) h d_M_judge_161 (by decide) ?_
  refine J_putf h 0 (wM_0 ad cA σ14) (tb_ups in_M) rfl ft_M ft_M_ok nm_M 37 (by decide) (tb_up q_4_119) rfl (by decide) (by decide) (Nat.le_of_ble_eq_true rfl) (pM_0_37 ad cA σ14 0) d_M_judge_162 (fun σ15 => ?_)
  refine J_iload (q := 0) h d_M_judge_165 rfl ?_
  refine J_if_eq (tgt := 175) h d_M_judge_167 (by decide) ?_ ?_
  · refine J_iload (q := 1) h d_M_judge_175 rfl ?_
    refine J_if_eq (tgt := 195) h d_M_judge_177 (by decide) ?_ ?_
    · refine J_iconst (v := 0) h d_M_judge_195 (by decide) ?_
      exact J_iret h rfl d_M_judge_196
    · refine J_aload_n (q := 2) h d_M_judge_180 rfl rfl ?_
      refine J_getf h 0 (wM_0 ad cA σ15) (tb_ups in_M) rfl 39 (by decide) (tb_up q_4_121) rfl d_M_judge_181 ?_
      refine J_if_eq (tgt := 191) h d_M_judge_184 (by decide) ?_ ?_
      · refine J_iconst (v := 1) h d_M_judge_191 (by decide) ?_
        refine J_goto (tgt := 196) h d_M_judge_192 (by decide) ?_
        exact J_iret h rfl d_M_judge_196
      · refine J_iconst (v := 2) h d_M_judge_187 (by decide) ?_
        refine J_goto (tgt := 196) h d_M_judge_188 (by decide) ?_
        exact J_iret h rfl d_M_judge_196
  · refine J_bipush (v := (-3)) h d_M_judge_170 (by decide) ?_
    refine J_goto (tgt := 196) h d_M_judge_172 (by decide) ?_
    exact J_iret h rfl d_M_judge_196
def M_M_judge_b146 (N : Nat)  (σ : SM) : Option (Int32 × SM) := (M_M_judge_b147 N 0 σ)
set_option maxRecDepth 100000 in
set_option maxHeartbeats 4000000 in
theorem J_M_M_judge_b146 (K : jx_E) (D : va_G) (A : Nat → Prop) (ad : Nat → Nat) (cA : Nat → ClassId) (N : Nat) (h : jx_ok K D clM (tysM cA) A 6 b_M_judge y_M_judge.cls ((Cond.code y_M_judge b_M_judge 6 (some .int)) :: tblG) rM_M_judge (some .int)) : ∀  (σ : SM), J K D clM A 6 (wM ad cA) (jx_Qi K D clM (tysM cA) (wM ad cA) A) 0 0 146 [(0, .ref (ad 0))] [] σ (M_M_judge_b146 N  σ) := by
  intro  σ
  rw [M_M_judge_b146]
  refine J_iconst (v := 0) h d_M_judge_146 (by decide) ?_
  exact J_M_M_judge_b147 K D A ad cA N h 0 σ
def M_M_judge_b91 (N : Nat) (v1 : Int32) (v2 : Int32) (s0 : Int32) (σ : SM) : Option (Int32 × SM) := (nm (sM_M_judging σ 1) (fun (σ11 : SM) => (nm (sM_M_metVariable σ11 0) (fun (σ12 : SM) => (if (gM_M_full σ12) = 0 then (if ck v2 500 = true then (if (aM_M_proper σ12 v2.toNatClampNeg) = 0 then (M_M_judge_b146 N  σ12) else (if ck s0 500 = true then (if (aM_M_proper σ12 s0.toNatClampNeg) = 0 then (M_M_judge_b146 N  σ12) else (if ck v1 60 = true then (bd (M_M_less N (aM_M_toldSort σ12 v1.toNatClampNeg) v2 s0 σ12) (fun (r16 : Int32) (σ17 : SM) => (if r16 = 0 then (M_M_judge_b146 N  σ17) else (M_M_judge_b147 N 1 σ17)))) else none)) else none)) else none) else (M_M_judge_b146 N  σ12))))))
set_option maxRecDepth 100000 in
set_option maxHeartbeats 4000000 in
theorem J_M_M_judge_b91 (K : jx_E) (D : va_G) (A : Nat → Prop) (ad : Nat → Nat) (cA : Nat → ClassId) (N : Nat) (h : jx_ok K D clM (tysM cA) A 6 b_M_judge y_M_judge.cls ((Cond.code y_M_judge b_M_judge 6 (some .int)) :: tblG) rM_M_judge (some .int)) : ∀ (v1 : Int32) (v2 : Int32) (s0 : Int32) (σ : SM), J K D clM A 6 (wM ad cA) (jx_Qi K D clM (tysM cA) (wM ad cA) A) 0 0 91 [(0, .ref (ad 0)), (1, .int v1), (2, .int v2)] [.int s0] σ (M_M_judge_b91 N v1 v2 s0 σ) := by
  intro v1 v2 s0 σ
  rw [M_M_judge_b91]
  refine J_istore_n (lv' := [(3, .int s0), (0, .ref (ad 0)), (1, .int v1), (2, .int v2)]) h d_M_judge_91 rfl (by decide) rfl ?_
  refine J_aload_n (q := 1) h d_M_judge_92 rfl rfl ?_
  refine J_iconst (v := 1) h d_M_judge_93 (by decide) ?_
  refine J_putf h 0 (wM_0 ad cA σ) (tb_ups in_M) rfl ft_M ft_M_ok nm_M 37 (by decide) (tb_up q_4_119) rfl (by decide) (by decide) (Nat.le_of_ble_eq_true rfl) (pM_0_37 ad cA σ 1) d_M_judge_94 (fun σ11 => ?_)
  refine J_aload_n (q := 1) h d_M_judge_97 rfl rfl ?_
  refine J_iconst (v := 0) h d_M_judge_98 (by decide) ?_
  refine J_putf h 0 (wM_0 ad cA σ11) (tb_ups in_M) rfl ft_M ft_M_ok nm_M 38 (by decide) (tb_up q_4_120) rfl (by decide) (by decide) (Nat.le_of_ble_eq_true rfl) (pM_0_38 ad cA σ11 0) d_M_judge_99 (fun σ12 => ?_)
  refine J_aload_n (q := 1) h d_M_judge_102 rfl rfl ?_
  refine J_getf h 0 (wM_0 ad cA σ12) (tb_ups in_M) rfl 12 (by decide) (tb_up q_4_94) rfl d_M_judge_103 ?_
  refine J_if_ne (tgt := 146) h d_M_judge_106 (by decide) ?_ ?_
  · refine J_aload_n (q := 1) h d_M_judge_109 rfl rfl ?_
    refine J_getf h 0 (wM_0 ad cA σ12) (tb_ups in_M) rfl 10 (by decide) (tb_up q_4_92) rfl d_M_judge_110 ?_
    refine J_iload_n (q := 3) h d_M_judge_113 rfl rfl ?_
    refine J_zald h 10 9 (wM_10 ad cA σ12) rfl d_M_judge_114 ?_
    refine J_if_eq (tgt := 146) h d_M_judge_115 (by decide) ?_ ?_
    · refine J_sub [1] rfl ?_
      exact J_M_M_judge_b146 K D A ad cA N h  σ12
    · refine J_aload_n (q := 1) h d_M_judge_118 rfl rfl ?_
      refine J_getf h 0 (wM_0 ad cA σ12) (tb_ups in_M) rfl 10 (by decide) (tb_up q_4_92) rfl d_M_judge_119 ?_
      refine J_iload_n (q := 0) h d_M_judge_122 rfl rfl ?_
      refine J_zald h 10 9 (wM_10 ad cA σ12) rfl d_M_judge_123 ?_
      refine J_if_eq (tgt := 146) h d_M_judge_124 (by decide) ?_ ?_
      · refine J_sub [1] rfl ?_
        exact J_M_M_judge_b146 K D A ad cA N h  σ12
      · refine J_aload_n (q := 1) h d_M_judge_127 rfl rfl ?_
        refine J_aload_n (q := 1) h d_M_judge_128 rfl rfl ?_
        refine J_getf h 0 (wM_0 ad cA σ12) (tb_ups in_M) rfl 51 (by decide) (tb_up q_4_133) rfl d_M_judge_129 ?_
        refine J_iload_n (q := 2) h d_M_judge_132 rfl rfl ?_
        refine J_iald h 34 33 (wM_34 ad cA σ12) rfl d_M_judge_133 ?_
        refine J_iload_n (q := 3) h d_M_judge_134 rfl rfl ?_
        refine J_iload_n (q := 0) h d_M_judge_135 rfl rfl ?_
        refine J_callVi (As := [.int (aM_M_toldSort σ12 v1.toNatClampNeg), .int v2, .int s0]) (st := []) (rmc := rM_M_less) (q0 := 0) h (fun _ _ hf => cM_M_less (jl K) D ad cA N (aM_M_toldSort σ12 v1.toNatClampNeg) v2 s0 σ12 _ _ hf) (gd_V q_5_154 q_5_156 q_s_43 q_1_12 q_5_157) rfl ⟨rfl, rfl⟩ dd_M_less ⟨Nat.le_of_ble_eq_true rfl, Nat.le_of_ble_eq_true rfl⟩ rfl rfl (wM_0 ad cA σ12) rfl rfl (Nat.le_of_ble_eq_true rfl) ⟨Nat.zero_le _, Nat.zero_le _⟩ d_M_judge_136 (fun r16 σ17 => ?_)
        refine J_if_eq (tgt := 146) h d_M_judge_139 (by decide) ?_ ?_
        · refine J_sub [1] rfl ?_
          exact J_M_M_judge_b146 K D A ad cA N h  σ17
        · refine J_iconst (v := 1) h d_M_judge_142 (by decide) ?_
          refine J_goto (tgt := 147) h d_M_judge_143 (by decide) ?_
          refine J_sub [1] rfl ?_
          exact J_M_M_judge_b147 K D A ad cA N h 1 σ17
  · refine J_sub [1] rfl ?_
    exact J_M_M_judge_b146 K D A ad cA N h  σ12
def M_M_judge_b57 (N : Nat) (v1 : Int32) (σ : SM) : Option (Int32 × SM) := (if ck v1 60 = true then (bd (M_M_replaced N (aM_M_toldLeft σ v1.toNatClampNeg) (-1) σ) (fun (r7 : Int32) (σ8 : SM) => (if (gM_M_full σ8) = 0 then (if ck v1 60 = true then (bd (M_M_replaced N (aM_M_toldRight σ8 v1.toNatClampNeg) (-1) σ8) (fun (r9 : Int32) (σ10 : SM) => (M_M_judge_b91 N v1 r7 r9 σ10))) else none) else (M_M_judge_b91 N v1 r7 (-1) σ8)))) else none)
set_option maxRecDepth 100000 in
set_option maxHeartbeats 4000000 in
theorem J_M_M_judge_b57 (K : jx_E) (D : va_G) (A : Nat → Prop) (ad : Nat → Nat) (cA : Nat → ClassId) (N : Nat) (h : jx_ok K D clM (tysM cA) A 6 b_M_judge y_M_judge.cls ((Cond.code y_M_judge b_M_judge 6 (some .int)) :: tblG) rM_M_judge (some .int)) : ∀ (v1 : Int32) (σ : SM), J K D clM A 6 (wM ad cA) (jx_Qi K D clM (tysM cA) (wM ad cA) A) 0 0 57 [(0, .ref (ad 0)), (1, .int v1)] [] σ (M_M_judge_b57 N v1 σ) := by
  intro v1 σ
  rw [M_M_judge_b57]
  refine J_aload_n (q := 0) h d_M_judge_57 rfl rfl ?_
  refine J_aload_n (q := 0) h d_M_judge_58 rfl rfl ?_
  refine J_getf h 0 (wM_0 ad cA σ) (tb_ups in_M) rfl 52 (by decide) (tb_up q_4_134) rfl d_M_judge_59 ?_
  refine J_iload_n (q := 1) h d_M_judge_62 rfl rfl ?_
  refine J_iald h 35 34 (wM_35 ad cA σ) rfl d_M_judge_63 ?_
  refine J_iconst (v := (-1)) h d_M_judge_64 (by decide) ?_
  refine J_callVi (As := [.int (aM_M_toldLeft σ v1.toNatClampNeg), .int (-1)]) (st := []) (rmc := rM_M_replaced) (q0 := 0) h (fun _ _ hf => cM_M_replaced (jl K) D ad cA N (aM_M_toldLeft σ v1.toNatClampNeg) (-1) σ _ _ hf) (gd_V q_5_126 q_5_128 q_s_37 q_1_12 q_5_129) rfl ⟨rfl, rfl⟩ dd_M_replaced ⟨Nat.le_of_ble_eq_true rfl, Nat.le_of_ble_eq_true rfl⟩ rfl rfl (wM_0 ad cA σ) rfl rfl (Nat.le_of_ble_eq_true rfl) ⟨Nat.zero_le _, Nat.zero_le _⟩ d_M_judge_65 (fun r7 σ8 => ?_)
  refine J_istore_n (lv' := [(2, .int r7), (0, .ref (ad 0)), (1, .int v1)]) h d_M_judge_68 rfl (by decide) rfl ?_
  refine J_aload_n (q := 1) h d_M_judge_69 rfl rfl ?_
  refine J_getf h 0 (wM_0 ad cA σ8) (tb_ups in_M) rfl 12 (by decide) (tb_up q_4_94) rfl d_M_judge_70 ?_
  refine J_if_eq (tgt := 80) h d_M_judge_73 (by decide) ?_ ?_
  · refine J_aload_n (q := 1) h d_M_judge_80 rfl rfl ?_
    refine J_aload_n (q := 1) h d_M_judge_81 rfl rfl ?_
    refine J_getf h 0 (wM_0 ad cA σ8) (tb_ups in_M) rfl 53 (by decide) (tb_up q_4_135) rfl d_M_judge_82 ?_
    refine J_iload_n (q := 2) h d_M_judge_85 rfl rfl ?_
    refine J_iald h 36 35 (wM_36 ad cA σ8) rfl d_M_judge_86 ?_
    refine J_iconst (v := (-1)) h d_M_judge_87 (by decide) ?_
    refine J_callVi (As := [.int (aM_M_toldRight σ8 v1.toNatClampNeg), .int (-1)]) (st := []) (rmc := rM_M_replaced) (q0 := 0) h (fun _ _ hf => cM_M_replaced (jl K) D ad cA N (aM_M_toldRight σ8 v1.toNatClampNeg) (-1) σ8 _ _ hf) (gd_V q_5_126 q_5_128 q_s_37 q_1_12 q_5_129) rfl ⟨rfl, rfl⟩ dd_M_replaced ⟨Nat.le_of_ble_eq_true rfl, Nat.le_of_ble_eq_true rfl⟩ rfl rfl (wM_0 ad cA σ8) rfl rfl (Nat.le_of_ble_eq_true rfl) ⟨Nat.zero_le _, Nat.zero_le _⟩ d_M_judge_88 (fun r9 σ10 => ?_)
    refine J_sub [1, 2, 0] rfl ?_
    exact J_M_M_judge_b91 K D A ad cA N h v1 r7 r9 σ10
  · refine J_iconst (v := (-1)) h d_M_judge_76 (by decide) ?_
    refine J_goto (tgt := 91) h d_M_judge_77 (by decide) ?_
    refine J_sub [1, 2, 0] rfl ?_
    exact J_M_M_judge_b91 K D A ad cA N h v1 r7 (-1) σ8
def M_M_judge (N : Nat) (x1 : Int32) (σ : SM) : Option (Int32 × SM) := (if x1 < 0 then (some ((-2), σ)) else (if x1 < (gM_M_told σ) then (bd (M_M_begin (-1) σ) (fun (r1 : Unit) (σ2 : SM) => (M_M_judge_L22 N (M_M_judge_b57 N) N x1 0 σ2))) else (some ((-2), σ))))
set_option maxRecDepth 100000 in
set_option maxHeartbeats 4000000 in
theorem J_M_M_judge (K : jx_E) (D : va_G) (A : Nat → Prop) (ad : Nat → Nat) (cA : Nat → ClassId) (N : Nat) (h : jx_ok K D clM (tysM cA) A 6 b_M_judge y_M_judge.cls ((Cond.code y_M_judge b_M_judge 6 (some .int)) :: tblG) rM_M_judge (some .int)) : ∀ (x1 : Int32) (σ : SM), J K D clM A 6 (wM ad cA) (jx_Qi K D clM (tysM cA) (wM ad cA) A) 0 0 0 [(0, .ref (ad 0)), (1, .int x1)] [] σ (M_M_judge N x1 σ) := by
  intro x1 σ
  rw [M_M_judge]
  refine J_iload_n (q := 1) h d_M_judge_0 rfl rfl ?_
  refine J_if_lt (tgt := 12) h d_M_judge_1 (by decide) ?_ ?_
  · refine J_bipush (v := (-2)) h d_M_judge_12 (by decide) ?_
    exact J_iret h rfl d_M_judge_14
  · refine J_iload_n (q := 1) h d_M_judge_4 rfl rfl ?_
    refine J_aload_n (q := 0) h d_M_judge_5 rfl rfl ?_
    refine J_getf h 0 (wM_0 ad cA σ) (tb_ups in_M) rfl 55 (by decide) (tb_up q_4_137) rfl d_M_judge_6 ?_
    refine J_icmp_lt (tgt := 15) h d_M_judge_9 (by decide) ?_ ?_
    · refine J_aload_n (q := 0) h d_M_judge_15 rfl rfl ?_
      refine J_iconst (v := (-1)) h d_M_judge_16 (by decide) ?_
      refine J_callVv (As := [.int (-1)]) (st := []) (rmc := rM_M_begin) (q0 := 0) h (fun _ _ hf => cM_M_begin (jl K) D ad cA (-1) σ _ _ hf) (gd_V q_5_150 q_5_152 q_s_42 q_1_12 q_5_153) rfl ⟨rfl, rfl⟩ dd_M_begin ⟨Nat.le_of_ble_eq_true rfl, Nat.le_of_ble_eq_true rfl⟩ rfl rfl (wM_0 ad cA σ) rfl rfl (Nat.le_of_ble_eq_true rfl) ⟨Nat.zero_le _, Nat.zero_le _⟩ d_M_judge_17 (fun r1 σ2 => ?_)
      refine J_iconst (v := 0) h d_M_judge_20 (by decide) ?_
      refine J_istore_n (lv' := [(2, .int 0), (0, .ref (ad 0)), (1, .int x1)]) h d_M_judge_21 rfl (by decide) rfl ?_
      refine J_sub [1, 2, 0] rfl ?_
      exact J_M_M_judge_L22 K D A ad cA N h (M_M_judge_b57 N) (J_M_M_judge_b57 K D A ad cA N h) N x1 0 σ2
    · refine J_bipush (v := (-2)) h d_M_judge_12 (by decide) ?_
      exact J_iret h rfl d_M_judge_14
set_option maxRecDepth 100000 in
theorem cM_M_judge (l : Launch) (D : va_G) (ad : Nat → Nat) (cA : Nat → ClassId) (N : Nat) (x1 : Int32) (σ : SM) (r : Int32) (σ' : SM) (hf : M_M_judge N x1 σ = some (r, σ')) : MetI l y_M_judge ((Cond.code y_M_judge b_M_judge 6 (some .int)) :: tblG) rM_M_judge D clM (tysM cA) (wM ad cA) [.ref (ad 0), .int x1] σ r σ' :=
  jx_metI (by decide) rfl (Nat.le_of_ble_eq_true rfl) (fun K A h => J_M_M_judge K D A ad cA N h x1 σ) hf
