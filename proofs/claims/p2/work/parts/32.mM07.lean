def rM_M_extreme : Room := { frames := 7, cells := 0, slots := 0, locals := 177 }
theorem rm_ok_M_M_extreme : rM_M_extreme.cells = 0 ∧ rM_M_extreme.slots = 0 := ⟨rfl, rfl⟩
def M_M_extreme_b87 (N : Nat) (k15 : Int32 → Int32 → Int32 → Int32 → SM → Option (Int32 × SM)) (v1 : Int32) (v2 : Int32) (v4 : Int32) (s0 : Int32) (σ : SM) : Option (Int32 × SM) := (nm (v4 + 1) (fun (y1 : Int32) => (k15 v1 v2 s0 y1 σ)))
set_option maxRecDepth 100000 in
set_option maxHeartbeats 4000000 in
theorem J_M_M_extreme_b87 (K : jx_E) (D : va_G) (A : Nat → Prop) (ad : Nat → Nat) (cA : Nat → ClassId) (N : Nat) (h : jx_ok K D clM (tysM cA) A 5 b_M_extreme y_M_extreme.cls ((Cond.code y_M_extreme b_M_extreme 5 (some .int)) :: tblG) rM_M_extreme (some .int)) (k15 : Int32 → Int32 → Int32 → Int32 → SM → Option (Int32 × SM)) (hk15 : ∀ (v1 : Int32) (v2 : Int32) (v3 : Int32) (v4 : Int32) (σ : SM), J K D clM A 5 (wM ad cA) (jx_Qi K D clM (tysM cA) (wM ad cA) A) 0 0 15 [(0, .ref (ad 0)), (1, .int v1), (2, .int v2), (3, .int v3), (4, .int v4)] [] σ (k15 v1 v2 v3 v4 σ)) : ∀ (v1 : Int32) (v2 : Int32) (v4 : Int32) (s0 : Int32) (σ : SM), J K D clM A 5 (wM ad cA) (jx_Qi K D clM (tysM cA) (wM ad cA) A) 0 0 87 [(0, .ref (ad 0)), (1, .int v1), (2, .int v2), (4, .int v4)] [.int s0] σ (M_M_extreme_b87 N k15 v1 v2 v4 s0 σ) := by
  intro v1 v2 v4 s0 σ
  rw [M_M_extreme_b87]
  refine J_istore_n (lv' := [(3, .int s0), (0, .ref (ad 0)), (1, .int v1), (2, .int v2), (4, .int v4)]) h d_M_extreme_87 rfl (by decide) rfl ?_
  refine J_iinc (q := 4) (c := 1) (lv' := fun y1 => [(4, .int y1), (3, .int s0), (0, .ref (ad 0)), (1, .int v1), (2, .int v2)]) h d_M_extreme_88 rfl (by decide) (by decide) (fun _ => rfl) (fun y1 => ?_)
  refine J_goto (tgt := 15) h d_M_extreme_91 (by decide) ?_
  refine J_sub [2, 3, 4, 1, 0] rfl ?_
  exact hk15 v1 v2 s0 y1 σ
def M_M_extreme_b82 (N : Nat) (k15 : Int32 → Int32 → Int32 → Int32 → SM → Option (Int32 × SM)) (v1 : Int32) (v2 : Int32) (v4 : Int32) (σ : SM) : Option (Int32 × SM) := (M_M_extreme_b87 N k15 v1 v2 v4 1 σ)
set_option maxRecDepth 100000 in
set_option maxHeartbeats 4000000 in
theorem J_M_M_extreme_b82 (K : jx_E) (D : va_G) (A : Nat → Prop) (ad : Nat → Nat) (cA : Nat → ClassId) (N : Nat) (h : jx_ok K D clM (tysM cA) A 5 b_M_extreme y_M_extreme.cls ((Cond.code y_M_extreme b_M_extreme 5 (some .int)) :: tblG) rM_M_extreme (some .int)) (k15 : Int32 → Int32 → Int32 → Int32 → SM → Option (Int32 × SM)) (hk15 : ∀ (v1 : Int32) (v2 : Int32) (v3 : Int32) (v4 : Int32) (σ : SM), J K D clM A 5 (wM ad cA) (jx_Qi K D clM (tysM cA) (wM ad cA) A) 0 0 15 [(0, .ref (ad 0)), (1, .int v1), (2, .int v2), (3, .int v3), (4, .int v4)] [] σ (k15 v1 v2 v3 v4 σ)) : ∀ (v1 : Int32) (v2 : Int32) (v4 : Int32) (σ : SM), J K D clM A 5 (wM ad cA) (jx_Qi K D clM (tysM cA) (wM ad cA) A) 0 0 82 [(0, .ref (ad 0)), (1, .int v1), (2, .int v2), (4, .int v4)] [] σ (M_M_extreme_b82 N k15 v1 v2 v4 σ) := by
  intro v1 v2 v4 σ
  rw [M_M_extreme_b82]
  refine J_iconst (v := 1) h d_M_extreme_82 (by decide) ?_
  refine J_goto (tgt := 87) h d_M_extreme_83 (by decide) ?_
  exact J_M_M_extreme_b87 K D A ad cA N h k15 hk15 v1 v2 v4 1 σ
def M_M_extreme_b76 (N : Nat) (k15 : Int32 → Int32 → Int32 → Int32 → SM → Option (Int32 × SM)) (v1 : Int32) (v2 : Int32) (v4 : Int32) (s0 : Int32) (s1 : Int32) (s2 : Int32) (σ : SM) : Option (Int32 × SM) := (bd (M_M_less N s2 s1 s0 σ) (fun (r2 : Int32) (σ3 : SM) => (if r2 = 0 then (M_M_extreme_b87 N k15 v1 v2 v4 0 σ3) else (M_M_extreme_b82 N k15 v1 v2 v4 σ3))))
set_option maxRecDepth 100000 in
set_option maxHeartbeats 4000000 in
theorem J_M_M_extreme_b76 (K : jx_E) (D : va_G) (A : Nat → Prop) (ad : Nat → Nat) (cA : Nat → ClassId) (N : Nat) (h : jx_ok K D clM (tysM cA) A 5 b_M_extreme y_M_extreme.cls ((Cond.code y_M_extreme b_M_extreme 5 (some .int)) :: tblG) rM_M_extreme (some .int)) (k15 : Int32 → Int32 → Int32 → Int32 → SM → Option (Int32 × SM)) (hk15 : ∀ (v1 : Int32) (v2 : Int32) (v3 : Int32) (v4 : Int32) (σ : SM), J K D clM A 5 (wM ad cA) (jx_Qi K D clM (tysM cA) (wM ad cA) A) 0 0 15 [(0, .ref (ad 0)), (1, .int v1), (2, .int v2), (3, .int v3), (4, .int v4)] [] σ (k15 v1 v2 v3 v4 σ)) : ∀ (v1 : Int32) (v2 : Int32) (v4 : Int32) (s0 : Int32) (s1 : Int32) (s2 : Int32) (σ : SM), J K D clM A 5 (wM ad cA) (jx_Qi K D clM (tysM cA) (wM ad cA) A) 0 0 76 [(0, .ref (ad 0)), (1, .int v1), (2, .int v2), (4, .int v4)] [.int s0, .int s1, .int s2, .ref (ad 0)] σ (M_M_extreme_b76 N k15 v1 v2 v4 s0 s1 s2 σ) := by
  intro v1 v2 v4 s0 s1 s2 σ
  rw [M_M_extreme_b76]
  refine J_callVi (As := [.int s2, .int s1, .int s0]) (st := []) (rmc := rM_M_less) (q0 := 0) h (fun _ _ hf => cM_M_less (jl K) D ad cA N s2 s1 s0 σ _ _ hf) (gd_V q_5_154 q_5_156 q_s_43 q_1_12 q_5_157) rfl ⟨rfl, rfl⟩ dd_M_less ⟨Nat.le_of_ble_eq_true rfl, Nat.le_of_ble_eq_true rfl⟩ rfl rfl (wM_0 ad cA σ) rfl rfl (Nat.le_of_ble_eq_true rfl) ⟨Nat.zero_le _, Nat.zero_le _⟩ d_M_extreme_76 (fun r2 σ3 => ?_)
  refine J_if_eq (tgt := 86) h d_M_extreme_79 (by decide) ?_ ?_
  · refine J_iconst (v := 0) h d_M_extreme_86 (by decide) ?_
    exact J_M_M_extreme_b87 K D A ad cA N h k15 hk15 v1 v2 v4 0 σ3
  · exact J_M_M_extreme_b82 K D A ad cA N h k15 hk15 v1 v2 v4 σ3
def M_M_extreme_b56 (N : Nat) (k15 : Int32 → Int32 → Int32 → Int32 → SM → Option (Int32 × SM)) (v1 : Int32) (v2 : Int32) (v4 : Int32) (s0 : Int32) (s1 : Int32) (σ : SM) : Option (Int32 × SM) := (if v1 = 0 then (if ck v2 200 = true then (M_M_extreme_b76 N k15 v1 v2 v4 (aM_M_some σ v2.toNatClampNeg) s0 s1 σ) else none) else (if ck v4 200 = true then (M_M_extreme_b76 N k15 v1 v2 v4 (aM_M_some σ v4.toNatClampNeg) s0 s1 σ) else none))
set_option maxRecDepth 100000 in
set_option maxHeartbeats 4000000 in
theorem J_M_M_extreme_b56 (K : jx_E) (D : va_G) (A : Nat → Prop) (ad : Nat → Nat) (cA : Nat → ClassId) (N : Nat) (h : jx_ok K D clM (tysM cA) A 5 b_M_extreme y_M_extreme.cls ((Cond.code y_M_extreme b_M_extreme 5 (some .int)) :: tblG) rM_M_extreme (some .int)) (k15 : Int32 → Int32 → Int32 → Int32 → SM → Option (Int32 × SM)) (hk15 : ∀ (v1 : Int32) (v2 : Int32) (v3 : Int32) (v4 : Int32) (σ : SM), J K D clM A 5 (wM ad cA) (jx_Qi K D clM (tysM cA) (wM ad cA) A) 0 0 15 [(0, .ref (ad 0)), (1, .int v1), (2, .int v2), (3, .int v3), (4, .int v4)] [] σ (k15 v1 v2 v3 v4 σ)) : ∀ (v1 : Int32) (v2 : Int32) (v4 : Int32) (s0 : Int32) (s1 : Int32) (σ : SM), J K D clM A 5 (wM ad cA) (jx_Qi K D clM (tysM cA) (wM ad cA) A) 0 0 56 [(0, .ref (ad 0)), (1, .int v1), (2, .int v2), (4, .int v4)] [.int s0, .int s1, .ref (ad 0)] σ (M_M_extreme_b56 N k15 v1 v2 v4 s0 s1 σ) := by
  intro v1 v2 v4 s0 s1 σ
  rw [M_M_extreme_b56]
  refine J_iload_n (q := 1) h d_M_extreme_56 rfl rfl ?_
  refine J_if_eq (tgt := 70) h d_M_extreme_57 (by decide) ?_ ?_
  · refine J_aload_n (q := 0) h d_M_extreme_70 rfl rfl ?_
    refine J_getf h 0 (wM_0 ad cA σ) (tb_ups in_M) rfl 61 (by decide) (tb_up q_4_143) rfl d_M_extreme_71 ?_
    refine J_iload_n (q := 2) h d_M_extreme_74 rfl rfl ?_
    refine J_iald h 41 40 (wM_41 ad cA σ) rfl d_M_extreme_75 ?_
    exact J_M_M_extreme_b76 K D A ad cA N h k15 hk15 v1 v2 v4 (aM_M_some σ v2.toNatClampNeg) s0 s1 σ
  · refine J_aload_n (q := 0) h d_M_extreme_60 rfl rfl ?_
    refine J_getf h 0 (wM_0 ad cA σ) (tb_ups in_M) rfl 61 (by decide) (tb_up q_4_143) rfl d_M_extreme_61 ?_
    refine J_iload (q := 3) h d_M_extreme_64 rfl ?_
    refine J_iald h 41 40 (wM_41 ad cA σ) rfl d_M_extreme_66 ?_
    refine J_goto (tgt := 76) h d_M_extreme_67 (by decide) ?_
    exact J_M_M_extreme_b76 K D A ad cA N h k15 hk15 v1 v2 v4 (aM_M_some σ v4.toNatClampNeg) s0 s1 σ
def M_M_extreme_L15 (N : Nat) (k94 : Int32 → Int32 → Int32 → SM → Option (Int32 × SM)) : Nat → Int32 → Int32 → Int32 → Int32 → SM → Option (Int32 × SM)
  | 0, _, _, _, _, _ => none
  | n + 1, v1, v2, v3, v4, σ => (if (gM_M_someMany σ) ≤ v4 then (k94 v1 v2 v3 σ) else (if v3 = 0 then (k94 v1 v2 v3 σ) else (if v2 = v4 then (M_M_extreme_b82 N (M_M_extreme_L15 N k94 n) v1 v2 v4 σ) else (if v1 = 0 then (if ck v4 200 = true then (M_M_extreme_b56 N (M_M_extreme_L15 N k94 n) v1 v2 v4 (aM_M_some σ v4.toNatClampNeg) 1 σ) else none) else (if ck v2 200 = true then (M_M_extreme_b56 N (M_M_extreme_L15 N k94 n) v1 v2 v4 (aM_M_some σ v2.toNatClampNeg) 1 σ) else none)))))
set_option maxRecDepth 100000 in
set_option maxHeartbeats 4000000 in
theorem J_M_M_extreme_L15 (K : jx_E) (D : va_G) (A : Nat → Prop) (ad : Nat → Nat) (cA : Nat → ClassId) (N : Nat) (h : jx_ok K D clM (tysM cA) A 5 b_M_extreme y_M_extreme.cls ((Cond.code y_M_extreme b_M_extreme 5 (some .int)) :: tblG) rM_M_extreme (some .int)) (k94 : Int32 → Int32 → Int32 → SM → Option (Int32 × SM)) (hk94 : ∀ (v1 : Int32) (v2 : Int32) (v3 : Int32) (σ : SM), J K D clM A 5 (wM ad cA) (jx_Qi K D clM (tysM cA) (wM ad cA) A) 0 0 94 [(0, .ref (ad 0)), (1, .int v1), (2, .int v2), (3, .int v3)] [] σ (k94 v1 v2 v3 σ)) : ∀ (n : Nat) (v1 : Int32) (v2 : Int32) (v3 : Int32) (v4 : Int32) (σ : SM), J K D clM A 5 (wM ad cA) (jx_Qi K D clM (tysM cA) (wM ad cA) A) 0 0 15 [(0, .ref (ad 0)), (1, .int v1), (2, .int v2), (3, .int v3), (4, .int v4)] [] σ (M_M_extreme_L15 N k94 n v1 v2 v3 v4 σ) := by
  intro n
  induction n with
  | zero => intro v1 v2 v3 v4 σ; exact J_none
  | succ n ih =>
    intro v1 v2 v3 v4 σ
    rw [M_M_extreme_L15]
    refine J_iload (q := 4) h d_M_extreme_15 rfl ?_
    refine J_aload_n (q := 0) h d_M_extreme_17 rfl rfl ?_
    refine J_getf h 0 (wM_0 ad cA σ) (tb_ups in_M) rfl 62 (by decide) (tb_up q_4_144) rfl d_M_extreme_18 ?_
    refine J_icmp_ge (tgt := 94) h d_M_extreme_21 (by decide) ?_ ?_
    · refine J_sub [0, 1, 2, 3] rfl ?_
      exact hk94 v1 v2 v3 σ
    · refine J_iload_n (q := 3) h d_M_extreme_24 rfl rfl ?_
      refine J_if_eq (tgt := 94) h d_M_extreme_25 (by decide) ?_ ?_
      · refine J_sub [0, 1, 2, 3] rfl ?_
        exact hk94 v1 v2 v3 σ
      · refine J_iload_n (q := 2) h d_M_extreme_28 rfl rfl ?_
        refine J_iload (q := 4) h d_M_extreme_29 rfl ?_
        refine J_icmp_eq (tgt := 82) h d_M_extreme_31 (by decide) ?_ ?_
        · refine J_sub [0, 1, 2, 4] rfl ?_
          exact J_M_M_extreme_b82 K D A ad cA N h (M_M_extreme_L15 N k94 n) ih v1 v2 v4 σ
        · refine J_aload_n (q := 0) h d_M_extreme_34 rfl rfl ?_
          refine J_iconst (v := 1) h d_M_extreme_35 (by decide) ?_
          refine J_iload_n (q := 1) h d_M_extreme_36 rfl rfl ?_
          refine J_if_eq (tgt := 49) h d_M_extreme_37 (by decide) ?_ ?_
          · refine J_aload_n (q := 0) h d_M_extreme_49 rfl rfl ?_
            refine J_getf h 0 (wM_0 ad cA σ) (tb_ups in_M) rfl 61 (by decide) (tb_up q_4_143) rfl d_M_extreme_50 ?_
            refine J_iload (q := 4) h d_M_extreme_53 rfl ?_
            refine J_iald h 41 40 (wM_41 ad cA σ) rfl d_M_extreme_55 ?_
            refine J_sub [0, 1, 2, 4] rfl ?_
            exact J_M_M_extreme_b56 K D A ad cA N h (M_M_extreme_L15 N k94 n) ih v1 v2 v4 (aM_M_some σ v4.toNatClampNeg) 1 σ
          · refine J_aload_n (q := 0) h d_M_extreme_40 rfl rfl ?_
            refine J_getf h 0 (wM_0 ad cA σ) (tb_ups in_M) rfl 61 (by decide) (tb_up q_4_143) rfl d_M_extreme_41 ?_
            refine J_iload_n (q := 2) h d_M_extreme_44 rfl rfl ?_
            refine J_iald h 41 40 (wM_41 ad cA σ) rfl d_M_extreme_45 ?_
            refine J_goto (tgt := 56) h d_M_extreme_46 (by decide) ?_
            refine J_sub [0, 1, 2, 4] rfl ?_
            exact J_M_M_extreme_b56 K D A ad cA N h (M_M_extreme_L15 N k94 n) ih v1 v2 v4 (aM_M_some σ v2.toNatClampNeg) 1 σ
def M_M_extreme_b94 (N : Nat) (k2 : Int32 → Int32 → SM → Option (Int32 × SM)) (v1 : Int32) (v2 : Int32) (v3 : Int32) (σ : SM) : Option (Int32 × SM) := (if (gM_M_full σ) = 0 then (if v3 = 0 then (nm (v2 + 1) (fun (y4 : Int32) => (k2 v1 y4 σ))) else (if ck v2 200 = true then (some ((aM_M_some σ v2.toNatClampNeg), σ)) else none)) else (some ((-1), σ)))
set_option maxRecDepth 100000 in
set_option maxHeartbeats 4000000 in
theorem J_M_M_extreme_b94 (K : jx_E) (D : va_G) (A : Nat → Prop) (ad : Nat → Nat) (cA : Nat → ClassId) (N : Nat) (h : jx_ok K D clM (tysM cA) A 5 b_M_extreme y_M_extreme.cls ((Cond.code y_M_extreme b_M_extreme 5 (some .int)) :: tblG) rM_M_extreme (some .int)) (k2 : Int32 → Int32 → SM → Option (Int32 × SM)) (hk2 : ∀ (v1 : Int32) (v2 : Int32) (σ : SM), J K D clM A 5 (wM ad cA) (jx_Qi K D clM (tysM cA) (wM ad cA) A) 0 0 2 [(0, .ref (ad 0)), (1, .int v1), (2, .int v2)] [] σ (k2 v1 v2 σ)) : ∀ (v1 : Int32) (v2 : Int32) (v3 : Int32) (σ : SM), J K D clM A 5 (wM ad cA) (jx_Qi K D clM (tysM cA) (wM ad cA) A) 0 0 94 [(0, .ref (ad 0)), (1, .int v1), (2, .int v2), (3, .int v3)] [] σ (M_M_extreme_b94 N k2 v1 v2 v3 σ) := by
  intro v1 v2 v3 σ
  rw [M_M_extreme_b94]
  refine J_aload_n (q := 0) h d_M_extreme_94 rfl rfl ?_
  refine J_getf h 0 (wM_0 ad cA σ) (tb_ups in_M) rfl 12 (by decide) (tb_up q_4_94) rfl d_M_extreme_95 ?_
  refine J_if_eq (tgt := 103) h d_M_extreme_98 (by decide) ?_ ?_
  · refine J_iload_n (q := 3) h d_M_extreme_103 rfl rfl ?_
    refine J_if_eq (tgt := 114) h d_M_extreme_104 (by decide) ?_ ?_
    · refine J_iinc (q := 2) (c := 1) (lv' := fun y4 => [(2, .int y4), (0, .ref (ad 0)), (1, .int v1), (3, .int v3)]) h d_M_extreme_114 rfl (by decide) (by decide) (fun _ => rfl) (fun y4 => ?_)
      refine J_goto (tgt := 2) h d_M_extreme_117 (by decide) ?_
      refine J_sub [1, 2, 0] rfl ?_
      exact hk2 v1 y4 σ
    · refine J_aload_n (q := 0) h d_M_extreme_107 rfl rfl ?_
      refine J_getf h 0 (wM_0 ad cA σ) (tb_ups in_M) rfl 61 (by decide) (tb_up q_4_143) rfl d_M_extreme_108 ?_
      refine J_iload_n (q := 2) h d_M_extreme_111 rfl rfl ?_
      refine J_iald h 41 40 (wM_41 ad cA σ) rfl d_M_extreme_112 ?_
      exact J_iret h rfl d_M_extreme_113
  · refine J_iconst (v := (-1)) h d_M_extreme_101 (by decide) ?_
    exact J_iret h rfl d_M_extreme_102
def M_M_extreme_L2 (N : Nat) : Nat → Int32 → Int32 → SM → Option (Int32 × SM)
  | 0, _, _, _ => none
  | n + 1, v1, v2, σ => (if (gM_M_someMany σ) ≤ v2 then (some ((-1), σ)) else (M_M_extreme_L15 N (M_M_extreme_b94 N (M_M_extreme_L2 N  n)) N v1 v2 1 0 σ))
set_option maxRecDepth 100000 in
set_option maxHeartbeats 4000000 in
theorem J_M_M_extreme_L2 (K : jx_E) (D : va_G) (A : Nat → Prop) (ad : Nat → Nat) (cA : Nat → ClassId) (N : Nat) (h : jx_ok K D clM (tysM cA) A 5 b_M_extreme y_M_extreme.cls ((Cond.code y_M_extreme b_M_extreme 5 (some .int)) :: tblG) rM_M_extreme (some .int)) : ∀ (n : Nat) (v1 : Int32) (v2 : Int32) (σ : SM), J K D clM A 5 (wM ad cA) (jx_Qi K D clM (tysM cA) (wM ad cA) A) 0 0 2 [(0, .ref (ad 0)), (1, .int v1), (2, .int v2)] [] σ (M_M_extreme_L2 N n v1 v2 σ) := by
  intro n
  induction n with
  | zero => intro v1 v2 σ; exact J_none
  | succ n ih =>
    intro v1 v2 σ
    rw [M_M_extreme_L2]
    refine J_iload_n (q := 2) h d_M_extreme_2 rfl rfl ?_
    refine J_aload_n (q := 0) h d_M_extreme_3 rfl rfl ?_
    refine J_getf h 0 (wM_0 ad cA σ) (tb_ups in_M) rfl 62 (by decide) (tb_up q_4_144) rfl d_M_extreme_4 ?_
    refine J_icmp_ge (tgt := 120) h d_M_extreme_7 (by decide) ?_ ?_
    · refine J_iconst (v := (-1)) h d_M_extreme_120 (by decide) ?_
      exact J_iret h rfl d_M_extreme_121
    · refine J_iconst (v := 1) h d_M_extreme_10 (by decide) ?_
      refine J_istore_n (lv' := [(3, .int 1), (0, .ref (ad 0)), (1, .int v1), (2, .int v2)]) h d_M_extreme_11 rfl (by decide) rfl ?_
      refine J_iconst (v := 0) h d_M_extreme_12 (by decide) ?_
      refine J_istore (lv' := [(4, .int 0), (3, .int 1), (0, .ref (ad 0)), (1, .int v1), (2, .int v2)]) h d_M_extreme_13 (by decide) rfl ?_
      refine J_sub [2, 3, 4, 1, 0] rfl ?_
      exact J_M_M_extreme_L15 K D A ad cA N h (M_M_extreme_b94 N (M_M_extreme_L2 N  n)) (J_M_M_extreme_b94 K D A ad cA N h (M_M_extreme_L2 N  n) ih) N v1 v2 1 0 σ
def M_M_extreme (N : Nat) (x1 : Int32) (σ : SM) : Option (Int32 × SM) := (M_M_extreme_L2 N N x1 0 σ)
set_option maxRecDepth 100000 in
set_option maxHeartbeats 4000000 in
theorem J_M_M_extreme (K : jx_E) (D : va_G) (A : Nat → Prop) (ad : Nat → Nat) (cA : Nat → ClassId) (N : Nat) (h : jx_ok K D clM (tysM cA) A 5 b_M_extreme y_M_extreme.cls ((Cond.code y_M_extreme b_M_extreme 5 (some .int)) :: tblG) rM_M_extreme (some .int)) : ∀ (x1 : Int32) (σ : SM), J K D clM A 5 (wM ad cA) (jx_Qi K D clM (tysM cA) (wM ad cA) A) 0 0 0 [(0, .ref (ad 0)), (1, .int x1)] [] σ (M_M_extreme N x1 σ) := by
  intro x1 σ
  rw [M_M_extreme]
  refine J_iconst (v := 0) h d_M_extreme_0 (by decide) ?_
  refine J_istore_n (lv' := [(2, .int 0), (0, .ref (ad 0)), (1, .int x1)]) h d_M_extreme_1 rfl (by decide) rfl ?_
  refine J_sub [1, 2, 0] rfl ?_
  exact J_M_M_extreme_L2 K D A ad cA N h N x1 0 σ
set_option maxRecDepth 100000 in
theorem cM_M_extreme (l : Launch) (D : va_G) (ad : Nat → Nat) (cA : Nat → ClassId) (N : Nat) (x1 : Int32) (σ : SM) (r : Int32) (σ' : SM) (hf : M_M_extreme N x1 σ = some (r, σ')) : MetI l y_M_extreme ((Cond.code y_M_extreme b_M_extreme 5 (some .int)) :: tblG) rM_M_extreme D clM (tysM cA) (wM ad cA) [.ref (ad 0), .int x1] σ r σ' :=
  jx_metI (by decide) rfl (Nat.le_of_ble_eq_true rfl) (fun K A h => J_M_M_extreme K D A ad cA N h x1 σ) hf
def rM_M_joined : Room := { frames := 4, cells := 0, slots := 0, locals := 104 }
theorem rm_ok_M_M_joined : rM_M_joined.cells = 0 ∧ rM_M_joined.slots = 0 := ⟨rfl, rfl⟩
def M_M_joined_b131 (N : Nat) (k28 : Int32 → Int32 → Int32 → Int32 → Int32 → Int32 → SM → Option (Int32 × SM)) (v1 : Int32) (v4 : Int32) (v6 : Int32) (v7 : Int32) (s0 : Int32) (σ : SM) : Option (Int32 × SM) := (if ck v7 500 = true then (nm ((aM_M_two σ v7.toNatClampNeg)) (fun (y5 : Int32) => (if ck v7 500 = true then (nm ((aM_M_three σ v7.toNatClampNeg)) (fun (y6 : Int32) => (nm (v6 + 1) (fun (y7 : Int32) => (k28 v1 y5 y6 v4 s0 y7 σ))))) else none))) else none)
set_option maxRecDepth 100000 in
set_option maxHeartbeats 4000000 in
theorem J_M_M_joined_b131 (K : jx_E) (D : va_G) (A : Nat → Prop) (ad : Nat → Nat) (cA : Nat → ClassId) (N : Nat) (h : jx_ok K D clM (tysM cA) A 8 b_M_joined y_M_joined.cls ((Cond.code y_M_joined b_M_joined 8 (some .int)) :: tblG) rM_M_joined (some .int)) (k28 : Int32 → Int32 → Int32 → Int32 → Int32 → Int32 → SM → Option (Int32 × SM)) (hk28 : ∀ (v1 : Int32) (v2 : Int32) (v3 : Int32) (v4 : Int32) (v5 : Int32) (v6 : Int32) (σ : SM), J K D clM A 8 (wM ad cA) (jx_Qi K D clM (tysM cA) (wM ad cA) A) 0 0 28 [(0, .ref (ad 0)), (1, .int v1), (2, .int v2), (3, .int v3), (4, .int v4), (5, .int v5), (6, .int v6)] [] σ (k28 v1 v2 v3 v4 v5 v6 σ)) : ∀ (v1 : Int32) (v4 : Int32) (v6 : Int32) (v7 : Int32) (s0 : Int32) (σ : SM), J K D clM A 8 (wM ad cA) (jx_Qi K D clM (tysM cA) (wM ad cA) A) 0 0 131 [(0, .ref (ad 0)), (1, .int v1), (4, .int v4), (6, .int v6), (7, .int v7)] [.int s0] σ (M_M_joined_b131 N k28 v1 v4 v6 v7 s0 σ) := by
  intro v1 v4 v6 v7 s0 σ
  rw [M_M_joined_b131]
  refine J_istore (lv' := [(5, .int s0), (0, .ref (ad 0)), (1, .int v1), (4, .int v4), (6, .int v6), (7, .int v7)]) h d_M_joined_131 (by decide) rfl ?_
  refine J_aload_n (q := 1) h d_M_joined_133 rfl rfl ?_
  refine J_getf h 0 (wM_0 ad cA σ) (tb_ups in_M) rfl 7 (by decide) (tb_up q_4_89) rfl d_M_joined_134 ?_
  refine J_iload (q := 5) h d_M_joined_137 rfl ?_
  refine J_iald h 7 6 (wM_7 ad cA σ) rfl d_M_joined_139 ?_
  refine J_nmi (fun y5 => ?_)
  refine J_istore_n (lv' := [(2, .int y5), (5, .int s0), (0, .ref (ad 0)), (1, .int v1), (4, .int v4), (6, .int v6), (7, .int v7)]) h d_M_joined_140 rfl (by decide) rfl ?_
  refine J_aload_n (q := 2) h d_M_joined_141 rfl rfl ?_
  refine J_getf h 0 (wM_0 ad cA σ) (tb_ups in_M) rfl 8 (by decide) (tb_up q_4_90) rfl d_M_joined_142 ?_
  refine J_iload (q := 6) h d_M_joined_145 rfl ?_
  refine J_iald h 8 7 (wM_8 ad cA σ) rfl d_M_joined_147 ?_
  refine J_nmi (fun y6 => ?_)
  refine J_istore_n (lv' := [(3, .int y6), (2, .int y5), (5, .int s0), (0, .ref (ad 0)), (1, .int v1), (4, .int v4), (6, .int v6), (7, .int v7)]) h d_M_joined_148 rfl (by decide) rfl ?_
  refine J_iinc (q := 6) (c := 1) (lv' := fun y7 => [(6, .int y7), (3, .int y6), (2, .int y5), (5, .int s0), (0, .ref (ad 0)), (1, .int v1), (4, .int v4), (7, .int v7)]) h d_M_joined_149 rfl (by decide) (by decide) (fun _ => rfl) (fun y7 => ?_)
  refine J_goto (tgt := 28) h d_M_joined_152 (by decide) ?_
  refine J_sub [4, 5, 2, 1, 6, 3, 0] rfl ?_
  exact hk28 v1 y5 y6 v4 s0 y7 σ
def M_M_joined_b126 (N : Nat) (k28 : Int32 → Int32 → Int32 → Int32 → Int32 → Int32 → SM → Option (Int32 × SM)) (v1 : Int32) (v4 : Int32) (v6 : Int32) (v7 : Int32) (σ : SM) : Option (Int32 × SM) := (M_M_joined_b131 N k28 v1 v4 v6 v7 1 σ)
set_option maxRecDepth 100000 in
set_option maxHeartbeats 4000000 in
theorem J_M_M_joined_b126 (K : jx_E) (D : va_G) (A : Nat → Prop) (ad : Nat → Nat) (cA : Nat → ClassId) (N : Nat) (h : jx_ok K D clM (tysM cA) A 8 b_M_joined y_M_joined.cls ((Cond.code y_M_joined b_M_joined 8 (some .int)) :: tblG) rM_M_joined (some .int)) (k28 : Int32 → Int32 → Int32 → Int32 → Int32 → Int32 → SM → Option (Int32 × SM)) (hk28 : ∀ (v1 : Int32) (v2 : Int32) (v3 : Int32) (v4 : Int32) (v5 : Int32) (v6 : Int32) (σ : SM), J K D clM A 8 (wM ad cA) (jx_Qi K D clM (tysM cA) (wM ad cA) A) 0 0 28 [(0, .ref (ad 0)), (1, .int v1), (2, .int v2), (3, .int v3), (4, .int v4), (5, .int v5), (6, .int v6)] [] σ (k28 v1 v2 v3 v4 v5 v6 σ)) : ∀ (v1 : Int32) (v4 : Int32) (v6 : Int32) (v7 : Int32) (σ : SM), J K D clM A 8 (wM ad cA) (jx_Qi K D clM (tysM cA) (wM ad cA) A) 0 0 126 [(0, .ref (ad 0)), (1, .int v1), (4, .int v4), (6, .int v6), (7, .int v7)] [] σ (M_M_joined_b126 N k28 v1 v4 v6 v7 σ) := by
  intro v1 v4 v6 v7 σ
  rw [M_M_joined_b126]
  refine J_iconst (v := 1) h d_M_joined_126 (by decide) ?_
  refine J_goto (tgt := 131) h d_M_joined_127 (by decide) ?_
  exact J_M_M_joined_b131 K D A ad cA N h k28 hk28 v1 v4 v6 v7 1 σ
def M_M_joined_b130 (N : Nat) (k28 : Int32 → Int32 → Int32 → Int32 → Int32 → Int32 → SM → Option (Int32 × SM)) (v1 : Int32) (v4 : Int32) (v6 : Int32) (v7 : Int32) (σ : SM) : Option (Int32 × SM) := (M_M_joined_b131 N k28 v1 v4 v6 v7 0 σ)
set_option maxRecDepth 100000 in
set_option maxHeartbeats 4000000 in
theorem J_M_M_joined_b130 (K : jx_E) (D : va_G) (A : Nat → Prop) (ad : Nat → Nat) (cA : Nat → ClassId) (N : Nat) (h : jx_ok K D clM (tysM cA) A 8 b_M_joined y_M_joined.cls ((Cond.code y_M_joined b_M_joined 8 (some .int)) :: tblG) rM_M_joined (some .int)) (k28 : Int32 → Int32 → Int32 → Int32 → Int32 → Int32 → SM → Option (Int32 × SM)) (hk28 : ∀ (v1 : Int32) (v2 : Int32) (v3 : Int32) (v4 : Int32) (v5 : Int32) (v6 : Int32) (σ : SM), J K D clM A 8 (wM ad cA) (jx_Qi K D clM (tysM cA) (wM ad cA) A) 0 0 28 [(0, .ref (ad 0)), (1, .int v1), (2, .int v2), (3, .int v3), (4, .int v4), (5, .int v5), (6, .int v6)] [] σ (k28 v1 v2 v3 v4 v5 v6 σ)) : ∀ (v1 : Int32) (v4 : Int32) (v6 : Int32) (v7 : Int32) (σ : SM), J K D clM A 8 (wM ad cA) (jx_Qi K D clM (tysM cA) (wM ad cA) A) 0 0 130 [(0, .ref (ad 0)), (1, .int v1), (4, .int v4), (6, .int v6), (7, .int v7)] [] σ (M_M_joined_b130 N k28 v1 v4 v6 v7 σ) := by
  intro v1 v4 v6 v7 σ
  rw [M_M_joined_b130]
  refine J_iconst (v := 0) h d_M_joined_130 (by decide) ?_
  exact J_M_M_joined_b131 K D A ad cA N h k28 hk28 v1 v4 v6 v7 0 σ
def M_M_joined_b103 (N : Nat) (k28 : Int32 → Int32 → Int32 → Int32 → Int32 → Int32 → SM → Option (Int32 × SM)) (v1 : Int32) (v3 : Int32) (v5 : Int32) (v6 : Int32) (v7 : Int32) (s0 : Int32) (σ : SM) : Option (Int32 × SM) := (if v6 = 0 then (M_M_joined_b126 N k28 v1 s0 v6 v7 σ) else (if v5 = 0 then (M_M_joined_b130 N k28 v1 s0 v6 v7 σ) else (if ck v7 500 = true then (if (aM_M_three σ v7.toNatClampNeg) = v3 then (M_M_joined_b126 N k28 v1 s0 v6 v7 σ) else (M_M_joined_b130 N k28 v1 s0 v6 v7 σ)) else none)))
set_option maxRecDepth 100000 in
set_option maxHeartbeats 4000000 in
theorem J_M_M_joined_b103 (K : jx_E) (D : va_G) (A : Nat → Prop) (ad : Nat → Nat) (cA : Nat → ClassId) (N : Nat) (h : jx_ok K D clM (tysM cA) A 8 b_M_joined y_M_joined.cls ((Cond.code y_M_joined b_M_joined 8 (some .int)) :: tblG) rM_M_joined (some .int)) (k28 : Int32 → Int32 → Int32 → Int32 → Int32 → Int32 → SM → Option (Int32 × SM)) (hk28 : ∀ (v1 : Int32) (v2 : Int32) (v3 : Int32) (v4 : Int32) (v5 : Int32) (v6 : Int32) (σ : SM), J K D clM A 8 (wM ad cA) (jx_Qi K D clM (tysM cA) (wM ad cA) A) 0 0 28 [(0, .ref (ad 0)), (1, .int v1), (2, .int v2), (3, .int v3), (4, .int v4), (5, .int v5), (6, .int v6)] [] σ (k28 v1 v2 v3 v4 v5 v6 σ)) : ∀ (v1 : Int32) (v3 : Int32) (v5 : Int32) (v6 : Int32) (v7 : Int32) (s0 : Int32) (σ : SM), J K D clM A 8 (wM ad cA) (jx_Qi K D clM (tysM cA) (wM ad cA) A) 0 0 103 [(0, .ref (ad 0)), (1, .int v1), (3, .int v3), (5, .int v5), (6, .int v6), (7, .int v7)] [.int s0] σ (M_M_joined_b103 N k28 v1 v3 v5 v6 v7 s0 σ) := by
  intro v1 v3 v5 v6 v7 s0 σ
  rw [M_M_joined_b103]
  refine J_istore (lv' := [(4, .int s0), (0, .ref (ad 0)), (1, .int v1), (3, .int v3), (5, .int v5), (6, .int v6), (7, .int v7)]) h d_M_joined_103 (by decide) rfl ?_
  refine J_iload (q := 5) h d_M_joined_105 rfl ?_
  refine J_if_eq (tgt := 126) h d_M_joined_107 (by decide) ?_ ?_
  · refine J_sub [1, 2, 0, 5, 6] rfl ?_
    exact J_M_M_joined_b126 K D A ad cA N h k28 hk28 v1 s0 v6 v7 σ
  · refine J_iload (q := 4) h d_M_joined_110 rfl ?_
    refine J_if_eq (tgt := 130) h d_M_joined_112 (by decide) ?_ ?_
    · refine J_sub [1, 2, 0, 5, 6] rfl ?_
      exact J_M_M_joined_b130 K D A ad cA N h k28 hk28 v1 s0 v6 v7 σ
    · refine J_aload_n (q := 1) h d_M_joined_115 rfl rfl ?_
      refine J_getf h 0 (wM_0 ad cA σ) (tb_ups in_M) rfl 8 (by decide) (tb_up q_4_90) rfl d_M_joined_116 ?_
      refine J_iload (q := 6) h d_M_joined_119 rfl ?_
      refine J_iald h 8 7 (wM_8 ad cA σ) rfl d_M_joined_121 ?_
      refine J_iload_n (q := 3) h d_M_joined_122 rfl rfl ?_
      refine J_icmp_ne (tgt := 130) h d_M_joined_123 (by decide) ?_ ?_
      · refine J_sub [1, 2, 0, 5, 6] rfl ?_
        exact J_M_M_joined_b126 K D A ad cA N h k28 hk28 v1 s0 v6 v7 σ
      · refine J_sub [1, 2, 0, 5, 6] rfl ?_
        exact J_M_M_joined_b130 K D A ad cA N h k28 hk28 v1 s0 v6 v7 σ
def M_M_joined_b98 (N : Nat) (k28 : Int32 → Int32 → Int32 → Int32 → Int32 → Int32 → SM → Option (Int32 × SM)) (v1 : Int32) (v3 : Int32) (v5 : Int32) (v6 : Int32) (v7 : Int32) (σ : SM) : Option (Int32 × SM) := (M_M_joined_b103 N k28 v1 v3 v5 v6 v7 1 σ)
set_option maxRecDepth 100000 in
set_option maxHeartbeats 4000000 in
theorem J_M_M_joined_b98 (K : jx_E) (D : va_G) (A : Nat → Prop) (ad : Nat → Nat) (cA : Nat → ClassId) (N : Nat) (h : jx_ok K D clM (tysM cA) A 8 b_M_joined y_M_joined.cls ((Cond.code y_M_joined b_M_joined 8 (some .int)) :: tblG) rM_M_joined (some .int)) (k28 : Int32 → Int32 → Int32 → Int32 → Int32 → Int32 → SM → Option (Int32 × SM)) (hk28 : ∀ (v1 : Int32) (v2 : Int32) (v3 : Int32) (v4 : Int32) (v5 : Int32) (v6 : Int32) (σ : SM), J K D clM A 8 (wM ad cA) (jx_Qi K D clM (tysM cA) (wM ad cA) A) 0 0 28 [(0, .ref (ad 0)), (1, .int v1), (2, .int v2), (3, .int v3), (4, .int v4), (5, .int v5), (6, .int v6)] [] σ (k28 v1 v2 v3 v4 v5 v6 σ)) : ∀ (v1 : Int32) (v3 : Int32) (v5 : Int32) (v6 : Int32) (v7 : Int32) (σ : SM), J K D clM A 8 (wM ad cA) (jx_Qi K D clM (tysM cA) (wM ad cA) A) 0 0 98 [(0, .ref (ad 0)), (1, .int v1), (3, .int v3), (5, .int v5), (6, .int v6), (7, .int v7)] [] σ (M_M_joined_b98 N k28 v1 v3 v5 v6 v7 σ) := by
  intro v1 v3 v5 v6 v7 σ
  rw [M_M_joined_b98]
  refine J_iconst (v := 1) h d_M_joined_98 (by decide) ?_
  refine J_goto (tgt := 103) h d_M_joined_99 (by decide) ?_
  exact J_M_M_joined_b103 K D A ad cA N h k28 hk28 v1 v3 v5 v6 v7 1 σ
def M_M_joined_b102 (N : Nat) (k28 : Int32 → Int32 → Int32 → Int32 → Int32 → Int32 → SM → Option (Int32 × SM)) (v1 : Int32) (v3 : Int32) (v5 : Int32) (v6 : Int32) (v7 : Int32) (σ : SM) : Option (Int32 × SM) := (M_M_joined_b103 N k28 v1 v3 v5 v6 v7 0 σ)
set_option maxRecDepth 100000 in
set_option maxHeartbeats 4000000 in
theorem J_M_M_joined_b102 (K : jx_E) (D : va_G) (A : Nat → Prop) (ad : Nat → Nat) (cA : Nat → ClassId) (N : Nat) (h : jx_ok K D clM (tysM cA) A 8 b_M_joined y_M_joined.cls ((Cond.code y_M_joined b_M_joined 8 (some .int)) :: tblG) rM_M_joined (some .int)) (k28 : Int32 → Int32 → Int32 → Int32 → Int32 → Int32 → SM → Option (Int32 × SM)) (hk28 : ∀ (v1 : Int32) (v2 : Int32) (v3 : Int32) (v4 : Int32) (v5 : Int32) (v6 : Int32) (σ : SM), J K D clM A 8 (wM ad cA) (jx_Qi K D clM (tysM cA) (wM ad cA) A) 0 0 28 [(0, .ref (ad 0)), (1, .int v1), (2, .int v2), (3, .int v3), (4, .int v4), (5, .int v5), (6, .int v6)] [] σ (k28 v1 v2 v3 v4 v5 v6 σ)) : ∀ (v1 : Int32) (v3 : Int32) (v5 : Int32) (v6 : Int32) (v7 : Int32) (σ : SM), J K D clM A 8 (wM ad cA) (jx_Qi K D clM (tysM cA) (wM ad cA) A) 0 0 102 [(0, .ref (ad 0)), (1, .int v1), (3, .int v3), (5, .int v5), (6, .int v6), (7, .int v7)] [] σ (M_M_joined_b102 N k28 v1 v3 v5 v6 v7 σ) := by
  intro v1 v3 v5 v6 v7 σ
  rw [M_M_joined_b102]
  refine J_iconst (v := 0) h d_M_joined_102 (by decide) ?_
  exact J_M_M_joined_b103 K D A ad cA N h k28 hk28 v1 v3 v5 v6 v7 0 σ
def M_M_joined_L28 (N : Nat) (k155 : Int32 → Int32 → Int32 → Int32 → Int32 → SM → Option (Int32 × SM)) (k71 : Int32 → SM → Option (Int32 × SM)) : Nat → Int32 → Int32 → Int32 → Int32 → Int32 → Int32 → SM → Option (Int32 × SM)
  | 0, _, _, _, _, _, _, _ => none
  | n + 1, v1, v2, v3, v4, v5, v6, σ => (if (gM_M_someMany σ) ≤ v6 then (k155 v1 v2 v3 v4 v5 σ) else (if ck v6 200 = true then (bd (M_M_aboveOf N (aM_M_some σ v6.toNatClampNeg) v1 σ) (fun (r3 : Int32) (σ4 : SM) => (if (gM_M_full σ4) = 0 then (if ck r3 500 = true then (if (aM_M_kind σ4 r3.toNatClampNeg) = 1 then (if v6 = 0 then (M_M_joined_b98 N (M_M_joined_L28 N k155 k71 n) v1 v3 v5 v6 r3 σ4) else (if v4 = 0 then (M_M_joined_b102 N (M_M_joined_L28 N k155 k71 n) v1 v3 v5 v6 r3 σ4) else (if ck r3 500 = true then (if (aM_M_two σ4 r3.toNatClampNeg) = v2 then (M_M_joined_b98 N (M_M_joined_L28 N k155 k71 n) v1 v3 v5 v6 r3 σ4) else (M_M_joined_b102 N (M_M_joined_L28 N k155 k71 n) v1 v3 v5 v6 r3 σ4)) else none))) else (k71 v1 σ4)) else none) else (some ((-1), σ4))))) else none))
set_option maxRecDepth 100000 in
set_option maxHeartbeats 4000000 in
theorem J_M_M_joined_L28 (K : jx_E) (D : va_G) (A : Nat → Prop) (ad : Nat → Nat) (cA : Nat → ClassId) (N : Nat) (h : jx_ok K D clM (tysM cA) A 8 b_M_joined y_M_joined.cls ((Cond.code y_M_joined b_M_joined 8 (some .int)) :: tblG) rM_M_joined (some .int)) (k155 : Int32 → Int32 → Int32 → Int32 → Int32 → SM → Option (Int32 × SM)) (hk155 : ∀ (v1 : Int32) (v2 : Int32) (v3 : Int32) (v4 : Int32) (v5 : Int32) (σ : SM), J K D clM A 8 (wM ad cA) (jx_Qi K D clM (tysM cA) (wM ad cA) A) 0 0 155 [(0, .ref (ad 0)), (1, .int v1), (2, .int v2), (3, .int v3), (4, .int v4), (5, .int v5)] [] σ (k155 v1 v2 v3 v4 v5 σ)) (k71 : Int32 → SM → Option (Int32 × SM)) (hk71 : ∀ (v1 : Int32) (σ : SM), J K D clM A 8 (wM ad cA) (jx_Qi K D clM (tysM cA) (wM ad cA) A) 0 0 71 [(0, .ref (ad 0)), (1, .int v1)] [] σ (k71 v1 σ)) : ∀ (n : Nat) (v1 : Int32) (v2 : Int32) (v3 : Int32) (v4 : Int32) (v5 : Int32) (v6 : Int32) (σ : SM), J K D clM A 8 (wM ad cA) (jx_Qi K D clM (tysM cA) (wM ad cA) A) 0 0 28 [(0, .ref (ad 0)), (1, .int v1), (2, .int v2), (3, .int v3), (4, .int v4), (5, .int v5), (6, .int v6)] [] σ (M_M_joined_L28 N k155 k71 n v1 v2 v3 v4 v5 v6 σ) := by
  intro n
  induction n with
  | zero => intro v1 v2 v3 v4 v5 v6 σ; exact J_none
  | succ n ih =>
    intro v1 v2 v3 v4 v5 v6 σ
    rw [M_M_joined_L28]
    refine J_iload (q := 6) h d_M_joined_28 rfl ?_
    refine J_aload_n (q := 0) h d_M_joined_30 rfl rfl ?_
    refine J_getf h 0 (wM_0 ad cA σ) (tb_ups in_M) rfl 62 (by decide) (tb_up q_4_144) rfl d_M_joined_31 ?_
    refine J_icmp_ge (tgt := 155) h d_M_joined_34 (by decide) ?_ ?_
    · refine J_sub [0, 1, 2, 3, 4, 5] rfl ?_
      exact hk155 v1 v2 v3 v4 v5 σ
    · refine J_aload_n (q := 0) h d_M_joined_37 rfl rfl ?_
      refine J_aload_n (q := 0) h d_M_joined_38 rfl rfl ?_
      refine J_getf h 0 (wM_0 ad cA σ) (tb_ups in_M) rfl 61 (by decide) (tb_up q_4_143) rfl d_M_joined_39 ?_
      refine J_iload (q := 6) h d_M_joined_42 rfl ?_
      refine J_iald h 41 40 (wM_41 ad cA σ) rfl d_M_joined_44 ?_
      refine J_iload_n (q := 1) h d_M_joined_45 rfl rfl ?_
      refine J_callVi (As := [.int (aM_M_some σ v6.toNatClampNeg), .int v1]) (st := []) (rmc := rM_M_aboveOf) (q0 := 0) h (fun _ _ hf => cM_M_aboveOf (jl K) D ad cA N (aM_M_some σ v6.toNatClampNeg) v1 σ _ _ hf) (gd_V q_5_118 q_5_120 q_s_35 q_1_12 q_5_121) rfl ⟨rfl, rfl⟩ dd_M_aboveOf ⟨Nat.le_of_ble_eq_true rfl, Nat.le_of_ble_eq_true rfl⟩ rfl rfl (wM_0 ad cA σ) rfl rfl (Nat.le_of_ble_eq_true rfl) ⟨Nat.zero_le _, Nat.zero_le _⟩ d_M_joined_46 (fun r3 σ4 => ?_)
      refine J_istore (lv' := [(7, .int r3), (0, .ref (ad 0)), (1, .int v1), (2, .int v2), (3, .int v3), (4, .int v4), (5, .int v5), (6, .int v6)]) h d_M_joined_49 (by decide) rfl ?_
      refine J_aload_n (q := 1) h d_M_joined_51 rfl rfl ?_
      refine J_getf h 0 (wM_0 ad cA σ4) (tb_ups in_M) rfl 12 (by decide) (tb_up q_4_94) rfl d_M_joined_52 ?_
      refine J_if_eq (tgt := 60) h d_M_joined_55 (by decide) ?_ ?_
      · refine J_aload_n (q := 1) h d_M_joined_60 rfl rfl ?_
        refine J_getf h 0 (wM_0 ad cA σ4) (tb_ups in_M) rfl 5 (by decide) (tb_up q_4_87) rfl d_M_joined_61 ?_
        refine J_iload (q := 0) h d_M_joined_64 rfl ?_
        refine J_iald h 5 4 (wM_5 ad cA σ4) rfl d_M_joined_66 ?_
        refine J_iconst (v := 1) h d_M_joined_67 (by decide) ?_
        refine J_icmp_eq (tgt := 77) h d_M_joined_68 (by decide) ?_ ?_
        · refine J_iload (q := 7) h d_M_joined_77 rfl ?_
          refine J_if_eq (tgt := 98) h d_M_joined_79 (by decide) ?_ ?_
          · refine J_sub [1, 2, 4, 6, 7, 0] rfl ?_
            exact J_M_M_joined_b98 K D A ad cA N h (M_M_joined_L28 N k155 k71 n) ih v1 v3 v5 v6 r3 σ4
          · refine J_iload (q := 5) h d_M_joined_82 rfl ?_
            refine J_if_eq (tgt := 102) h d_M_joined_84 (by decide) ?_ ?_
            · refine J_sub [1, 2, 4, 6, 7, 0] rfl ?_
              exact J_M_M_joined_b102 K D A ad cA N h (M_M_joined_L28 N k155 k71 n) ih v1 v3 v5 v6 r3 σ4
            · refine J_aload_n (q := 1) h d_M_joined_87 rfl rfl ?_
              refine J_getf h 0 (wM_0 ad cA σ4) (tb_ups in_M) rfl 7 (by decide) (tb_up q_4_89) rfl d_M_joined_88 ?_
              refine J_iload (q := 0) h d_M_joined_91 rfl ?_
              refine J_iald h 7 6 (wM_7 ad cA σ4) rfl d_M_joined_93 ?_
              refine J_iload_n (q := 3) h d_M_joined_94 rfl rfl ?_
              refine J_icmp_ne (tgt := 102) h d_M_joined_95 (by decide) ?_ ?_
              · refine J_sub [1, 2, 4, 6, 7, 0] rfl ?_
                exact J_M_M_joined_b98 K D A ad cA N h (M_M_joined_L28 N k155 k71 n) ih v1 v3 v5 v6 r3 σ4
              · refine J_sub [1, 2, 4, 6, 7, 0] rfl ?_
                exact J_M_M_joined_b102 K D A ad cA N h (M_M_joined_L28 N k155 k71 n) ih v1 v3 v5 v6 r3 σ4
        · refine J_sub [1, 2] rfl ?_
          exact hk71 v1 σ4
      · refine J_iconst (v := (-1)) h d_M_joined_58 (by decide) ?_
        exact J_iret h rfl d_M_joined_59
def M_M_joined_b71 (N : Nat) (v1 : Int32) (σ : SM) : Option (Int32 × SM) := (bd (M_M_plainOf N v1 σ) (fun (r8 : Int32) (σ9 : SM) => (some (r8, σ9))))
set_option maxRecDepth 100000 in
set_option maxHeartbeats 4000000 in
theorem J_M_M_joined_b71 (K : jx_E) (D : va_G) (A : Nat → Prop) (ad : Nat → Nat) (cA : Nat → ClassId) (N : Nat) (h : jx_ok K D clM (tysM cA) A 8 b_M_joined y_M_joined.cls ((Cond.code y_M_joined b_M_joined 8 (some .int)) :: tblG) rM_M_joined (some .int)) : ∀ (v1 : Int32) (σ : SM), J K D clM A 8 (wM ad cA) (jx_Qi K D clM (tysM cA) (wM ad cA) A) 0 0 71 [(0, .ref (ad 0)), (1, .int v1)] [] σ (M_M_joined_b71 N v1 σ) := by
  intro v1 σ
  rw [M_M_joined_b71]
  refine J_aload_n (q := 0) h d_M_joined_71 rfl rfl ?_
  refine J_iload_n (q := 1) h d_M_joined_72 rfl rfl ?_
  refine J_callVi (As := [.int v1]) (st := []) (rmc := rM_M_plainOf) (q0 := 0) h (fun _ _ hf => cM_M_plainOf (jl K) D ad cA N v1 σ _ _ hf) (gd_V q_5_70 q_5_72 q_s_31 q_1_12 q_5_73) rfl ⟨rfl, rfl⟩ dd_M_plainOf ⟨Nat.le_of_ble_eq_true rfl, Nat.le_of_ble_eq_true rfl⟩ rfl rfl (wM_0 ad cA σ) rfl rfl (Nat.le_of_ble_eq_true rfl) ⟨Nat.zero_le _, Nat.zero_le _⟩ d_M_joined_73 (fun r8 σ9 => ?_)
  exact J_iret h rfl d_M_joined_76
def M_M_joined_b204 (N : Nat) (v1 : Int32) (v2 : Int32) (s0 : Int32) (σ : SM) : Option (Int32 × SM) := (if (gM_M_full σ) = 0 then (bd (M_M_make N 1 v1 v2 s0 σ) (fun (r12 : Int32) (σ13 : SM) => (some (r12, σ13)))) else (some ((-1), σ)))
set_option maxRecDepth 100000 in
set_option maxHeartbeats 4000000 in
theorem J_M_M_joined_b204 (K : jx_E) (D : va_G) (A : Nat → Prop) (ad : Nat → Nat) (cA : Nat → ClassId) (N : Nat) (h : jx_ok K D clM (tysM cA) A 8 b_M_joined y_M_joined.cls ((Cond.code y_M_joined b_M_joined 8 (some .int)) :: tblG) rM_M_joined (some .int)) : ∀ (v1 : Int32) (v2 : Int32) (s0 : Int32) (σ : SM), J K D clM A 8 (wM ad cA) (jx_Qi K D clM (tysM cA) (wM ad cA) A) 0 0 204 [(0, .ref (ad 0)), (1, .int v1), (2, .int v2)] [.int s0] σ (M_M_joined_b204 N v1 v2 s0 σ) := by
  intro v1 v2 s0 σ
  rw [M_M_joined_b204]
  refine J_istore_n (lv' := [(3, .int s0), (0, .ref (ad 0)), (1, .int v1), (2, .int v2)]) h d_M_joined_204 rfl (by decide) rfl ?_
  refine J_aload_n (q := 1) h d_M_joined_205 rfl rfl ?_
  refine J_getf h 0 (wM_0 ad cA σ) (tb_ups in_M) rfl 12 (by decide) (tb_up q_4_94) rfl d_M_joined_206 ?_
  refine J_if_eq (tgt := 216) h d_M_joined_209 (by decide) ?_ ?_
  · refine J_aload_n (q := 1) h d_M_joined_216 rfl rfl ?_
    refine J_iconst (v := 1) h d_M_joined_217 (by decide) ?_
    refine J_iload_n (q := 2) h d_M_joined_218 rfl rfl ?_
    refine J_iload_n (q := 3) h d_M_joined_219 rfl rfl ?_
    refine J_iload_n (q := 0) h d_M_joined_220 rfl rfl ?_
    refine J_callVi (As := [.int 1, .int v1, .int v2, .int s0]) (st := []) (rmc := rM_M_make) (q0 := 0) h (fun _ _ hf => cM_M_make (jl K) D ad cA N 1 v1 v2 s0 σ _ _ hf) (gd_V q_5_74 q_5_76 q_s_32 q_1_12 q_5_77) rfl ⟨rfl, rfl⟩ dd_M_make ⟨Nat.le_of_ble_eq_true rfl, Nat.le_of_ble_eq_true rfl⟩ rfl rfl (wM_0 ad cA σ) rfl rfl (Nat.le_of_ble_eq_true rfl) ⟨Nat.zero_le _, Nat.zero_le _⟩ d_M_joined_221 (fun r12 σ13 => ?_)
    exact J_iret h rfl d_M_joined_224
  · refine J_iconst (v := (-1)) h d_M_joined_212 (by decide) ?_
    refine J_goto (tgt := 224) h d_M_joined_213 (by decide) ?_
    exact J_iret h rfl d_M_joined_224
def M_M_joined_b172 (N : Nat) (v1 : Int32) (v3 : Int32) (v5 : Int32) (s0 : Int32) (σ : SM) : Option (Int32 × SM) := (if ck v1 40 = true then (if (aM_M_parameters σ v1.toNatClampNeg) = 1 then (M_M_joined_b204 N v1 s0 (-1) σ) else (if v5 = 0 then (bd (M_M_make N 2 0 (-1) (-1) σ) (fun (r14 : Int32) (σ15 : SM) => (M_M_joined_b204 N v1 s0 r14 σ15))) else (M_M_joined_b204 N v1 s0 v3 σ))) else none)
set_option maxRecDepth 100000 in
set_option maxHeartbeats 4000000 in
theorem J_M_M_joined_b172 (K : jx_E) (D : va_G) (A : Nat → Prop) (ad : Nat → Nat) (cA : Nat → ClassId) (N : Nat) (h : jx_ok K D clM (tysM cA) A 8 b_M_joined y_M_joined.cls ((Cond.code y_M_joined b_M_joined 8 (some .int)) :: tblG) rM_M_joined (some .int)) : ∀ (v1 : Int32) (v3 : Int32) (v5 : Int32) (s0 : Int32) (σ : SM), J K D clM A 8 (wM ad cA) (jx_Qi K D clM (tysM cA) (wM ad cA) A) 0 0 172 [(0, .ref (ad 0)), (1, .int v1), (3, .int v3), (5, .int v5)] [.int s0] σ (M_M_joined_b172 N v1 v3 v5 s0 σ) := by
  intro v1 v3 v5 s0 σ
  rw [M_M_joined_b172]
  refine J_istore_n (lv' := [(2, .int s0), (0, .ref (ad 0)), (1, .int v1), (3, .int v3), (5, .int v5)]) h d_M_joined_172 rfl (by decide) rfl ?_
  refine J_aload_n (q := 1) h d_M_joined_173 rfl rfl ?_
  refine J_getf h 0 (wM_0 ad cA σ) (tb_ups in_M) rfl 0 (by decide) (tb_up q_4_82) rfl d_M_joined_174 ?_
  refine J_iload_n (q := 2) h d_M_joined_177 rfl rfl ?_
  refine J_iald h 1 0 (wM_1 ad cA σ) rfl d_M_joined_178 ?_
  refine J_iconst (v := 1) h d_M_joined_179 (by decide) ?_
  refine J_icmp_ne (tgt := 187) h d_M_joined_180 (by decide) ?_ ?_
  · refine J_iconst (v := (-1)) h d_M_joined_183 (by decide) ?_
    refine J_goto (tgt := 204) h d_M_joined_184 (by decide) ?_
    refine J_sub [1, 2, 0] rfl ?_
    exact J_M_M_joined_b204 K D A ad cA N h v1 s0 (-1) σ
  · refine J_iload (q := 4) h d_M_joined_187 rfl ?_
    refine J_if_eq (tgt := 196) h d_M_joined_189 (by decide) ?_ ?_
    · refine J_aload_n (q := 1) h d_M_joined_196 rfl rfl ?_
      refine J_iconst (v := 2) h d_M_joined_197 (by decide) ?_
      refine J_iconst (v := 0) h d_M_joined_198 (by decide) ?_
      refine J_iconst (v := (-1)) h d_M_joined_199 (by decide) ?_
      refine J_iconst (v := (-1)) h d_M_joined_200 (by decide) ?_
      refine J_callVi (As := [.int 2, .int 0, .int (-1), .int (-1)]) (st := []) (rmc := rM_M_make) (q0 := 0) h (fun _ _ hf => cM_M_make (jl K) D ad cA N 2 0 (-1) (-1) σ _ _ hf) (gd_V q_5_74 q_5_76 q_s_32 q_1_12 q_5_77) rfl ⟨rfl, rfl⟩ dd_M_make ⟨Nat.le_of_ble_eq_true rfl, Nat.le_of_ble_eq_true rfl⟩ rfl rfl (wM_0 ad cA σ) rfl rfl (Nat.le_of_ble_eq_true rfl) ⟨Nat.zero_le _, Nat.zero_le _⟩ d_M_joined_201 (fun r14 σ15 => ?_)
      refine J_sub [1, 2, 0] rfl ?_
      exact J_M_M_joined_b204 K D A ad cA N h v1 s0 r14 σ15
    · refine J_iload_n (q := 3) h d_M_joined_192 rfl rfl ?_
      refine J_goto (tgt := 204) h d_M_joined_193 (by decide) ?_
      refine J_sub [1, 2, 0] rfl ?_
      exact J_M_M_joined_b204 K D A ad cA N h v1 s0 v3 σ
def M_M_joined_b155 (N : Nat) (v1 : Int32) (v2 : Int32) (v3 : Int32) (v4 : Int32) (v5 : Int32) (σ : SM) : Option (Int32 × SM) := (if v4 = 0 then (bd (M_M_make N 2 0 (-1) (-1) σ) (fun (r10 : Int32) (σ11 : SM) => (M_M_joined_b172 N v1 v3 v5 r10 σ11))) else (M_M_joined_b172 N v1 v3 v5 v2 σ))
set_option maxRecDepth 100000 in
set_option maxHeartbeats 4000000 in
theorem J_M_M_joined_b155 (K : jx_E) (D : va_G) (A : Nat → Prop) (ad : Nat → Nat) (cA : Nat → ClassId) (N : Nat) (h : jx_ok K D clM (tysM cA) A 8 b_M_joined y_M_joined.cls ((Cond.code y_M_joined b_M_joined 8 (some .int)) :: tblG) rM_M_joined (some .int)) : ∀ (v1 : Int32) (v2 : Int32) (v3 : Int32) (v4 : Int32) (v5 : Int32) (σ : SM), J K D clM A 8 (wM ad cA) (jx_Qi K D clM (tysM cA) (wM ad cA) A) 0 0 155 [(0, .ref (ad 0)), (1, .int v1), (2, .int v2), (3, .int v3), (4, .int v4), (5, .int v5)] [] σ (M_M_joined_b155 N v1 v2 v3 v4 v5 σ) := by
  intro v1 v2 v3 v4 v5 σ
  rw [M_M_joined_b155]
  refine J_iload (q := 4) h d_M_joined_155 rfl ?_
  refine J_if_eq (tgt := 164) h d_M_joined_157 (by decide) ?_ ?_
  · refine J_aload_n (q := 0) h d_M_joined_164 rfl rfl ?_
    refine J_iconst (v := 2) h d_M_joined_165 (by decide) ?_
    refine J_iconst (v := 0) h d_M_joined_166 (by decide) ?_
    refine J_iconst (v := (-1)) h d_M_joined_167 (by decide) ?_
    refine J_iconst (v := (-1)) h d_M_joined_168 (by decide) ?_
    refine J_callVi (As := [.int 2, .int 0, .int (-1), .int (-1)]) (st := []) (rmc := rM_M_make) (q0 := 0) h (fun _ _ hf => cM_M_make (jl K) D ad cA N 2 0 (-1) (-1) σ _ _ hf) (gd_V q_5_74 q_5_76 q_s_32 q_1_12 q_5_77) rfl ⟨rfl, rfl⟩ dd_M_make ⟨Nat.le_of_ble_eq_true rfl, Nat.le_of_ble_eq_true rfl⟩ rfl rfl (wM_0 ad cA σ) rfl rfl (Nat.le_of_ble_eq_true rfl) ⟨Nat.zero_le _, Nat.zero_le _⟩ d_M_joined_169 (fun r10 σ11 => ?_)
    refine J_sub [0, 1, 3, 5] rfl ?_
    exact J_M_M_joined_b172 K D A ad cA N h v1 v3 v5 r10 σ11
  · refine J_iload_n (q := 2) h d_M_joined_160 rfl rfl ?_
    refine J_goto (tgt := 172) h d_M_joined_161 (by decide) ?_
    refine J_sub [0, 1, 3, 5] rfl ?_
    exact J_M_M_joined_b172 K D A ad cA N h v1 v3 v5 v2 σ
def M_M_joined (N : Nat) (x1 : Int32) (σ : SM) : Option (Int32 × SM) := (if ck x1 40 = true then (if (aM_M_parameters σ x1.toNatClampNeg) = 0 then (bd (M_M_plainOf N x1 σ) (fun (r1 : Int32) (σ2 : SM) => (some (r1, σ2)))) else (M_M_joined_L28 N (M_M_joined_b155 N) (M_M_joined_b71 N) N x1 (-1) (-1) 1 1 0 σ)) else none)
set_option maxRecDepth 100000 in
set_option maxHeartbeats 4000000 in
theorem J_M_M_joined (K : jx_E) (D : va_G) (A : Nat → Prop) (ad : Nat → Nat) (cA : Nat → ClassId) (N : Nat) (h : jx_ok K D clM (tysM cA) A 8 b_M_joined y_M_joined.cls ((Cond.code y_M_joined b_M_joined 8 (some .int)) :: tblG) rM_M_joined (some .int)) : ∀ (x1 : Int32) (σ : SM), J K D clM A 8 (wM ad cA) (jx_Qi K D clM (tysM cA) (wM ad cA) A) 0 0 0 [(0, .ref (ad 0)), (1, .int x1)] [] σ (M_M_joined N x1 σ) := by
  intro x1 σ
  rw [M_M_joined]
  refine J_aload_n (q := 0) h d_M_joined_0 rfl rfl ?_
  refine J_getf h 0 (wM_0 ad cA σ) (tb_ups in_M) rfl 0 (by decide) (tb_up q_4_82) rfl d_M_joined_1 ?_
  refine J_iload_n (q := 1) h d_M_joined_4 rfl rfl ?_
  refine J_iald h 1 0 (wM_1 ad cA σ) rfl d_M_joined_5 ?_
  refine J_if_ne (tgt := 15) h d_M_joined_6 (by decide) ?_ ?_
  · refine J_aload_n (q := 0) h d_M_joined_9 rfl rfl ?_
    refine J_iload_n (q := 1) h d_M_joined_10 rfl rfl ?_
    refine J_callVi (As := [.int x1]) (st := []) (rmc := rM_M_plainOf) (q0 := 0) h (fun _ _ hf => cM_M_plainOf (jl K) D ad cA N x1 σ _ _ hf) (gd_V q_5_70 q_5_72 q_s_31 q_1_12 q_5_73) rfl ⟨rfl, rfl⟩ dd_M_plainOf ⟨Nat.le_of_ble_eq_true rfl, Nat.le_of_ble_eq_true rfl⟩ rfl rfl (wM_0 ad cA σ) rfl rfl (Nat.le_of_ble_eq_true rfl) ⟨Nat.zero_le _, Nat.zero_le _⟩ d_M_joined_11 (fun r1 σ2 => ?_)
    exact J_iret h rfl d_M_joined_14
  · refine J_iconst (v := (-1)) h d_M_joined_15 (by decide) ?_
    refine J_istore_n (lv' := [(2, .int (-1)), (0, .ref (ad 0)), (1, .int x1)]) h d_M_joined_16 rfl (by decide) rfl ?_
    refine J_iconst (v := (-1)) h d_M_joined_17 (by decide) ?_
    refine J_istore_n (lv' := [(3, .int (-1)), (2, .int (-1)), (0, .ref (ad 0)), (1, .int x1)]) h d_M_joined_18 rfl (by decide) rfl ?_
    refine J_iconst (v := 1) h d_M_joined_19 (by decide) ?_
    refine J_istore (lv' := [(4, .int 1), (3, .int (-1)), (2, .int (-1)), (0, .ref (ad 0)), (1, .int x1)]) h d_M_joined_20 (by decide) rfl ?_
    refine J_iconst (v := 1) h d_M_joined_22 (by decide) ?_
    refine J_istore (lv' := [(5, .int 1), (4, .int 1), (3, .int (-1)), (2, .int (-1)), (0, .ref (ad 0)), (1, .int x1)]) h d_M_joined_23 (by decide) rfl ?_
    refine J_iconst (v := 0) h d_M_joined_25 (by decide) ?_
    refine J_istore (lv' := [(6, .int 0), (5, .int 1), (4, .int 1), (3, .int (-1)), (2, .int (-1)), (0, .ref (ad 0)), (1, .int x1)]) h d_M_joined_26 (by decide) rfl ?_
    refine J_sub [5, 6, 4, 3, 2, 1, 0] rfl ?_
    exact J_M_M_joined_L28 K D A ad cA N h (M_M_joined_b155 N) (J_M_M_joined_b155 K D A ad cA N h) (M_M_joined_b71 N) (J_M_M_joined_b71 K D A ad cA N h) N x1 (-1) (-1) 1 1 0 σ
set_option maxRecDepth 100000 in
theorem cM_M_joined (l : Launch) (D : va_G) (ad : Nat → Nat) (cA : Nat → ClassId) (N : Nat) (x1 : Int32) (σ : SM) (r : Int32) (σ' : SM) (hf : M_M_joined N x1 σ = some (r, σ')) : MetI l y_M_joined ((Cond.code y_M_joined b_M_joined 8 (some .int)) :: tblG) rM_M_joined D clM (tysM cA) (wM ad cA) [.ref (ad 0), .int x1] σ r σ' :=
  jx_metI (by decide) rfl (Nat.le_of_ble_eq_true rfl) (fun K A h => J_M_M_joined K D A ad cA N h x1 σ) hf
def rM_M_join : Room := { frames := 8, cells := 0, slots := 0, locals := 201 }
theorem rm_ok_M_M_join : rM_M_join.cells = 0 ∧ rM_M_join.slots = 0 := ⟨rfl, rfl⟩
def M_M_join_b98 (N : Nat) (k56 : Int32 → Int32 → SM → Option (Int32 × SM)) (v2 : Int32) (v3 : Int32) (s0 : Int32) (s1 : Int32) (σ : SM) : Option (Int32 × SM) := (if ck s1 40 = true then (nm (tM_M_common σ (upd (aM_M_common σ) s1.toNatClampNeg (vp_nar .boolean s0))) (fun (σ4 : SM) => (nm (v3 + 1) (fun (y5 : Int32) => (k56 v2 y5 σ4))))) else none)
set_option maxRecDepth 100000 in
set_option maxHeartbeats 4000000 in
theorem J_M_M_join_b98 (K : jx_E) (D : va_G) (A : Nat → Prop) (ad : Nat → Nat) (cA : Nat → ClassId) (N : Nat) (h : jx_ok K D clM (tysM cA) A 6 b_M_join y_M_join.cls ((Cond.code y_M_join b_M_join 6 (some .int)) :: tblG) rM_M_join (some .int)) (k56 : Int32 → Int32 → SM → Option (Int32 × SM)) (hk56 : ∀ (v2 : Int32) (v3 : Int32) (σ : SM), J K D clM A 6 (wM ad cA) (jx_Qi K D clM (tysM cA) (wM ad cA) A) 0 0 56 [(0, .ref (ad 0)), (2, .int v2), (3, .int v3)] [] σ (k56 v2 v3 σ)) : ∀ (v2 : Int32) (v3 : Int32) (s0 : Int32) (s1 : Int32) (σ : SM), J K D clM A 6 (wM ad cA) (jx_Qi K D clM (tysM cA) (wM ad cA) A) 0 0 98 [(0, .ref (ad 0)), (2, .int v2), (3, .int v3)] [.int s0, .int s1, .ref (ad 42)] σ (M_M_join_b98 N k56 v2 v3 s0 s1 σ) := by
  intro v2 v3 s0 s1 σ
  rw [M_M_join_b98]
  refine J_zast h 42 41 (wM_42 ad cA σ) rfl (uM_42 ad cA σ _) d_M_join_98 (fun σ4 => ?_)
  refine J_iinc (q := 2) (c := 1) (lv' := fun y5 => [(3, .int y5), (0, .ref (ad 0)), (2, .int v2)]) h d_M_join_99 rfl (by decide) (by decide) (fun _ => rfl) (fun y5 => ?_)
  refine J_goto (tgt := 56) h d_M_join_102 (by decide) ?_
  refine J_sub [1, 2, 0] rfl ?_
  exact hk56 v2 y5 σ4
def M_M_join_L56 (N : Nat) (k105 : Int32 → SM → Option (Int32 × SM)) : Nat → Int32 → Int32 → SM → Option (Int32 × SM)
  | 0, _, _, _ => none
  | n + 1, v2, v3, σ => (if (gM_M_someMany σ) ≤ v3 then (k105 v2 σ) else (if ck v2 40 = true then (if (aM_M_common σ v2.toNatClampNeg) = 0 then (k105 v2 σ) else (if ck v3 200 = true then (bd (M_M_aboveOf N (aM_M_some σ v3.toNatClampNeg) v2 σ) (fun (r2 : Int32) (σ3 : SM) => (if r2 = (-1) then (M_M_join_b98 N (M_M_join_L56 N k105 n) v2 v3 0 v2 σ3) else (M_M_join_b98 N (M_M_join_L56 N k105 n) v2 v3 1 v2 σ3)))) else none)) else none))
set_option maxRecDepth 100000 in
set_option maxHeartbeats 4000000 in
theorem J_M_M_join_L56 (K : jx_E) (D : va_G) (A : Nat → Prop) (ad : Nat → Nat) (cA : Nat → ClassId) (N : Nat) (h : jx_ok K D clM (tysM cA) A 6 b_M_join y_M_join.cls ((Cond.code y_M_join b_M_join 6 (some .int)) :: tblG) rM_M_join (some .int)) (k105 : Int32 → SM → Option (Int32 × SM)) (hk105 : ∀ (v2 : Int32) (σ : SM), J K D clM A 6 (wM ad cA) (jx_Qi K D clM (tysM cA) (wM ad cA) A) 0 0 105 [(0, .ref (ad 0)), (2, .int v2)] [] σ (k105 v2 σ)) : ∀ (n : Nat) (v2 : Int32) (v3 : Int32) (σ : SM), J K D clM A 6 (wM ad cA) (jx_Qi K D clM (tysM cA) (wM ad cA) A) 0 0 56 [(0, .ref (ad 0)), (2, .int v2), (3, .int v3)] [] σ (M_M_join_L56 N k105 n v2 v3 σ) := by
  intro n
  induction n with
  | zero => intro v2 v3 σ; exact J_none
  | succ n ih =>
    intro v2 v3 σ
    rw [M_M_join_L56]
    refine J_iload_n (q := 2) h d_M_join_56 rfl rfl ?_
    refine J_aload_n (q := 0) h d_M_join_57 rfl rfl ?_
    refine J_getf h 0 (wM_0 ad cA σ) (tb_ups in_M) rfl 62 (by decide) (tb_up q_4_144) rfl d_M_join_58 ?_
    refine J_icmp_ge (tgt := 105) h d_M_join_61 (by decide) ?_ ?_
    · refine J_sub [0, 1] rfl ?_
      exact hk105 v2 σ
    · refine J_aload_n (q := 0) h d_M_join_64 rfl rfl ?_
      refine J_getf h 0 (wM_0 ad cA σ) (tb_ups in_M) rfl 63 (by decide) (tb_up q_4_145) rfl d_M_join_65 ?_
      refine J_iload_n (q := 1) h d_M_join_68 rfl rfl ?_
      refine J_zald h 42 41 (wM_42 ad cA σ) rfl d_M_join_69 ?_
      refine J_if_eq (tgt := 105) h d_M_join_70 (by decide) ?_ ?_
      · refine J_sub [0, 1] rfl ?_
        exact hk105 v2 σ
      · refine J_aload_n (q := 0) h d_M_join_73 rfl rfl ?_
        refine J_getf h 0 (wM_0 ad cA σ) (tb_ups in_M) rfl 63 (by decide) (tb_up q_4_145) rfl d_M_join_74 ?_
        refine J_iload_n (q := 1) h d_M_join_77 rfl rfl ?_
        refine J_aload_n (q := 0) h d_M_join_78 rfl rfl ?_
        refine J_aload_n (q := 0) h d_M_join_79 rfl rfl ?_
        refine J_getf h 0 (wM_0 ad cA σ) (tb_ups in_M) rfl 61 (by decide) (tb_up q_4_143) rfl d_M_join_80 ?_
        refine J_iload_n (q := 2) h d_M_join_83 rfl rfl ?_
        refine J_iald h 41 40 (wM_41 ad cA σ) rfl d_M_join_84 ?_
        refine J_iload_n (q := 1) h d_M_join_85 rfl rfl ?_
        refine J_callVi (As := [.int (aM_M_some σ v3.toNatClampNeg), .int v2]) (st := [.int v2, .ref (ad 42)]) (rmc := rM_M_aboveOf) (q0 := 0) h (fun _ _ hf => cM_M_aboveOf (jl K) D ad cA N (aM_M_some σ v3.toNatClampNeg) v2 σ _ _ hf) (gd_V q_5_118 q_5_120 q_s_35 q_1_12 q_5_121) rfl ⟨rfl, rfl⟩ dd_M_aboveOf ⟨Nat.le_of_ble_eq_true rfl, Nat.le_of_ble_eq_true rfl⟩ rfl rfl (wM_0 ad cA σ) rfl rfl (Nat.le_of_ble_eq_true rfl) ⟨Nat.zero_le _, Nat.zero_le _⟩ d_M_join_86 (fun r2 σ3 => ?_)
        refine J_iconst (v := (-1)) h d_M_join_89 (by decide) ?_
        refine J_icmp_eq (tgt := 97) h d_M_join_90 (by decide) ?_ ?_
        · refine J_iconst (v := 0) h d_M_join_97 (by decide) ?_
          exact J_M_M_join_b98 K D A ad cA N h (M_M_join_L56 N k105 n) ih v2 v3 0 v2 σ3
        · refine J_iconst (v := 1) h d_M_join_93 (by decide) ?_
          refine J_goto (tgt := 98) h d_M_join_94 (by decide) ?_
          exact J_M_M_join_b98 K D A ad cA N h (M_M_join_L56 N k105 n) ih v2 v3 1 v2 σ3
def M_M_join_b105 (N : Nat) (k39 : Int32 → SM → Option (Int32 × SM)) (v2 : Int32) (σ : SM) : Option (Int32 × SM) := (if (gM_M_full σ) = 0 then (nm (v2 + 1) (fun (y6 : Int32) => (k39 y6 σ))) else (some ((-1), σ)))
set_option maxRecDepth 100000 in
set_option maxHeartbeats 4000000 in
theorem J_M_M_join_b105 (K : jx_E) (D : va_G) (A : Nat → Prop) (ad : Nat → Nat) (cA : Nat → ClassId) (N : Nat) (h : jx_ok K D clM (tysM cA) A 6 b_M_join y_M_join.cls ((Cond.code y_M_join b_M_join 6 (some .int)) :: tblG) rM_M_join (some .int)) (k39 : Int32 → SM → Option (Int32 × SM)) (hk39 : ∀ (v2 : Int32) (σ : SM), J K D clM A 6 (wM ad cA) (jx_Qi K D clM (tysM cA) (wM ad cA) A) 0 0 39 [(0, .ref (ad 0)), (2, .int v2)] [] σ (k39 v2 σ)) : ∀ (v2 : Int32) (σ : SM), J K D clM A 6 (wM ad cA) (jx_Qi K D clM (tysM cA) (wM ad cA) A) 0 0 105 [(0, .ref (ad 0)), (2, .int v2)] [] σ (M_M_join_b105 N k39 v2 σ) := by
  intro v2 σ
  rw [M_M_join_b105]
  refine J_aload_n (q := 0) h d_M_join_105 rfl rfl ?_
  refine J_getf h 0 (wM_0 ad cA σ) (tb_ups in_M) rfl 12 (by decide) (tb_up q_4_94) rfl d_M_join_106 ?_
  refine J_if_eq (tgt := 114) h d_M_join_109 (by decide) ?_ ?_
  · refine J_iinc (q := 1) (c := 1) (lv' := fun y6 => [(2, .int y6), (0, .ref (ad 0))]) h d_M_join_114 rfl (by decide) (by decide) (fun _ => rfl) (fun y6 => ?_)
    refine J_goto (tgt := 39) h d_M_join_117 (by decide) ?_
    refine J_sub [1, 0] rfl ?_
    exact hk39 y6 σ
  · refine J_iconst (v := (-1)) h d_M_join_112 (by decide) ?_
    exact J_iret h rfl d_M_join_113
def M_M_join_L39 (N : Nat) (k120 : SM → Option (Int32 × SM)) : Nat → Int32 → SM → Option (Int32 × SM)
  | 0, _, _ => none
  | n + 1, v2, σ => (if (gM_M_classes σ) ≤ v2 then (k120  σ) else (if ck v2 40 = true then (nm (tM_M_common σ (upd (aM_M_common σ) v2.toNatClampNeg (vp_nar .boolean 1))) (fun (σ1 : SM) => (M_M_join_L56 N (M_M_join_b105 N (M_M_join_L39 N k120 n)) N v2 0 σ1))) else none))
set_option maxRecDepth 100000 in
set_option maxHeartbeats 4000000 in
theorem J_M_M_join_L39 (K : jx_E) (D : va_G) (A : Nat → Prop) (ad : Nat → Nat) (cA : Nat → ClassId) (N : Nat) (h : jx_ok K D clM (tysM cA) A 6 b_M_join y_M_join.cls ((Cond.code y_M_join b_M_join 6 (some .int)) :: tblG) rM_M_join (some .int)) (k120 : SM → Option (Int32 × SM)) (hk120 : ∀  (σ : SM), J K D clM A 6 (wM ad cA) (jx_Qi K D clM (tysM cA) (wM ad cA) A) 0 0 120 [(0, .ref (ad 0))] [] σ (k120  σ)) : ∀ (n : Nat) (v2 : Int32) (σ : SM), J K D clM A 6 (wM ad cA) (jx_Qi K D clM (tysM cA) (wM ad cA) A) 0 0 39 [(0, .ref (ad 0)), (2, .int v2)] [] σ (M_M_join_L39 N k120 n v2 σ) := by
  intro n
  induction n with
  | zero => intro v2 σ; exact J_none
  | succ n ih =>
    intro v2 σ
    rw [M_M_join_L39]
    refine J_iload_n (q := 1) h d_M_join_39 rfl rfl ?_
    refine J_aload_n (q := 0) h d_M_join_40 rfl rfl ?_
    refine J_getf h 0 (wM_0 ad cA σ) (tb_ups in_M) rfl 4 (by decide) (tb_up q_4_86) rfl d_M_join_41 ?_
    refine J_icmp_ge (tgt := 120) h d_M_join_44 (by decide) ?_ ?_
    · refine J_sub [0] rfl ?_
      exact hk120  σ
    · refine J_aload_n (q := 0) h d_M_join_47 rfl rfl ?_
      refine J_getf h 0 (wM_0 ad cA σ) (tb_ups in_M) rfl 63 (by decide) (tb_up q_4_145) rfl d_M_join_48 ?_
      refine J_iload_n (q := 1) h d_M_join_51 rfl rfl ?_
      refine J_iconst (v := 1) h d_M_join_52 (by decide) ?_
      refine J_zast h 42 41 (wM_42 ad cA σ) rfl (uM_42 ad cA σ _) d_M_join_53 (fun σ1 => ?_)
      refine J_iconst (v := 0) h d_M_join_54 (by decide) ?_
      refine J_istore_n (lv' := [(3, .int 0), (0, .ref (ad 0)), (2, .int v2)]) h d_M_join_55 rfl (by decide) rfl ?_
      refine J_sub [1, 2, 0] rfl ?_
      exact J_M_M_join_L56 K D A ad cA N h (M_M_join_b105 N (M_M_join_L39 N k120 n)) (J_M_M_join_b105 K D A ad cA N h (M_M_join_L39 N k120 n) ih) N v2 0 σ1
def M_M_join_b198 (N : Nat) (k148 : Int32 → Int32 → Int32 → Int32 → SM → Option (Int32 × SM)) (v2 : Int32) (v3 : Int32) (v5 : Int32) (s0 : Int32) (σ : SM) : Option (Int32 × SM) := (nm (v5 + 1) (fun (y8 : Int32) => (k148 v2 v3 s0 y8 σ)))
set_option maxRecDepth 100000 in
set_option maxHeartbeats 4000000 in
theorem J_M_M_join_b198 (K : jx_E) (D : va_G) (A : Nat → Prop) (ad : Nat → Nat) (cA : Nat → ClassId) (N : Nat) (h : jx_ok K D clM (tysM cA) A 6 b_M_join y_M_join.cls ((Cond.code y_M_join b_M_join 6 (some .int)) :: tblG) rM_M_join (some .int)) (k148 : Int32 → Int32 → Int32 → Int32 → SM → Option (Int32 × SM)) (hk148 : ∀ (v2 : Int32) (v3 : Int32) (v4 : Int32) (v5 : Int32) (σ : SM), J K D clM A 6 (wM ad cA) (jx_Qi K D clM (tysM cA) (wM ad cA) A) 0 0 148 [(0, .ref (ad 0)), (2, .int v2), (3, .int v3), (4, .int v4), (5, .int v5)] [] σ (k148 v2 v3 v4 v5 σ)) : ∀ (v2 : Int32) (v3 : Int32) (v5 : Int32) (s0 : Int32) (σ : SM), J K D clM A 6 (wM ad cA) (jx_Qi K D clM (tysM cA) (wM ad cA) A) 0 0 198 [(0, .ref (ad 0)), (2, .int v2), (3, .int v3), (5, .int v5)] [.int s0] σ (M_M_join_b198 N k148 v2 v3 v5 s0 σ) := by
  intro v2 v3 v5 s0 σ
  rw [M_M_join_b198]
  refine J_istore (lv' := [(4, .int s0), (0, .ref (ad 0)), (2, .int v2), (3, .int v3), (5, .int v5)]) h d_M_join_198 (by decide) rfl ?_
  refine J_iinc (q := 4) (c := 1) (lv' := fun y8 => [(5, .int y8), (4, .int s0), (0, .ref (ad 0)), (2, .int v2), (3, .int v3)]) h d_M_join_200 rfl (by decide) (by decide) (fun _ => rfl) (fun y8 => ?_)
  refine J_goto (tgt := 148) h d_M_join_203 (by decide) ?_
  refine J_sub [2, 3, 4, 1, 0] rfl ?_
  exact hk148 v2 v3 s0 y8 σ
def M_M_join_b193 (N : Nat) (k148 : Int32 → Int32 → Int32 → Int32 → SM → Option (Int32 × SM)) (v2 : Int32) (v3 : Int32) (v5 : Int32) (σ : SM) : Option (Int32 × SM) := (M_M_join_b198 N k148 v2 v3 v5 1 σ)
set_option maxRecDepth 100000 in
set_option maxHeartbeats 4000000 in
theorem J_M_M_join_b193 (K : jx_E) (D : va_G) (A : Nat → Prop) (ad : Nat → Nat) (cA : Nat → ClassId) (N : Nat) (h : jx_ok K D clM (tysM cA) A 6 b_M_join y_M_join.cls ((Cond.code y_M_join b_M_join 6 (some .int)) :: tblG) rM_M_join (some .int)) (k148 : Int32 → Int32 → Int32 → Int32 → SM → Option (Int32 × SM)) (hk148 : ∀ (v2 : Int32) (v3 : Int32) (v4 : Int32) (v5 : Int32) (σ : SM), J K D clM A 6 (wM ad cA) (jx_Qi K D clM (tysM cA) (wM ad cA) A) 0 0 148 [(0, .ref (ad 0)), (2, .int v2), (3, .int v3), (4, .int v4), (5, .int v5)] [] σ (k148 v2 v3 v4 v5 σ)) : ∀ (v2 : Int32) (v3 : Int32) (v5 : Int32) (σ : SM), J K D clM A 6 (wM ad cA) (jx_Qi K D clM (tysM cA) (wM ad cA) A) 0 0 193 [(0, .ref (ad 0)), (2, .int v2), (3, .int v3), (5, .int v5)] [] σ (M_M_join_b193 N k148 v2 v3 v5 σ) := by
  intro v2 v3 v5 σ
  rw [M_M_join_b193]
  refine J_iconst (v := 1) h d_M_join_193 (by decide) ?_
  refine J_goto (tgt := 198) h d_M_join_194 (by decide) ?_
  exact J_M_M_join_b198 K D A ad cA N h k148 hk148 v2 v3 v5 1 σ
def M_M_join_L148 (N : Nat) (k206 : Int32 → Int32 → Int32 → SM → Option (Int32 × SM)) : Nat → Int32 → Int32 → Int32 → Int32 → SM → Option (Int32 × SM)
  | 0, _, _, _, _, _ => none
  | n + 1, v2, v3, v4, v5, σ => (if (gM_M_classes σ) ≤ v5 then (k206 v2 v3 v4 σ) else (if v4 = 0 then (k206 v2 v3 v4 σ) else (if v5 = v3 then (M_M_join_b193 N (M_M_join_L148 N k206 n) v2 v3 v5 σ) else (if ck v5 40 = true then (if (aM_M_common σ v5.toNatClampNeg) = 0 then (M_M_join_b193 N (M_M_join_L148 N k206 n) v2 v3 v5 σ) else (bd (M_M_plainOf N v5 σ) (fun (r9 : Int32) (σ10 : SM) => (bd (M_M_aboveOf N r9 v3 σ10) (fun (r11 : Int32) (σ12 : SM) => (if r11 = (-1) then (M_M_join_b193 N (M_M_join_L148 N k206 n) v2 v3 v5 σ12) else (M_M_join_b198 N (M_M_join_L148 N k206 n) v2 v3 v5 0 σ12))))))) else none))))
set_option maxRecDepth 100000 in
set_option maxHeartbeats 4000000 in
theorem J_M_M_join_L148 (K : jx_E) (D : va_G) (A : Nat → Prop) (ad : Nat → Nat) (cA : Nat → ClassId) (N : Nat) (h : jx_ok K D clM (tysM cA) A 6 b_M_join y_M_join.cls ((Cond.code y_M_join b_M_join 6 (some .int)) :: tblG) rM_M_join (some .int)) (k206 : Int32 → Int32 → Int32 → SM → Option (Int32 × SM)) (hk206 : ∀ (v2 : Int32) (v3 : Int32) (v4 : Int32) (σ : SM), J K D clM A 6 (wM ad cA) (jx_Qi K D clM (tysM cA) (wM ad cA) A) 0 0 206 [(0, .ref (ad 0)), (2, .int v2), (3, .int v3), (4, .int v4)] [] σ (k206 v2 v3 v4 σ)) : ∀ (n : Nat) (v2 : Int32) (v3 : Int32) (v4 : Int32) (v5 : Int32) (σ : SM), J K D clM A 6 (wM ad cA) (jx_Qi K D clM (tysM cA) (wM ad cA) A) 0 0 148 [(0, .ref (ad 0)), (2, .int v2), (3, .int v3), (4, .int v4), (5, .int v5)] [] σ (M_M_join_L148 N k206 n v2 v3 v4 v5 σ) := by
  intro n
  induction n with
  | zero => intro v2 v3 v4 v5 σ; exact J_none
  | succ n ih =>
    intro v2 v3 v4 v5 σ
    rw [M_M_join_L148]
    refine J_iload (q := 4) h d_M_join_148 rfl ?_
    refine J_aload_n (q := 0) h d_M_join_150 rfl rfl ?_
    refine J_getf h 0 (wM_0 ad cA σ) (tb_ups in_M) rfl 4 (by decide) (tb_up q_4_86) rfl d_M_join_151 ?_
    refine J_icmp_ge (tgt := 206) h d_M_join_154 (by decide) ?_ ?_
    · refine J_sub [0, 1, 2, 3] rfl ?_
      exact hk206 v2 v3 v4 σ
    · refine J_iload (q := 3) h d_M_join_157 rfl ?_
      refine J_if_eq (tgt := 206) h d_M_join_159 (by decide) ?_ ?_
      · refine J_sub [0, 1, 2, 3] rfl ?_
        exact hk206 v2 v3 v4 σ
      · refine J_iload (q := 4) h d_M_join_162 rfl ?_
        refine J_iload_n (q := 2) h d_M_join_164 rfl rfl ?_
        refine J_icmp_eq (tgt := 193) h d_M_join_165 (by decide) ?_ ?_
        · refine J_sub [0, 1, 2, 4] rfl ?_
          exact J_M_M_join_b193 K D A ad cA N h (M_M_join_L148 N k206 n) ih v2 v3 v5 σ
        · refine J_aload_n (q := 0) h d_M_join_168 rfl rfl ?_
          refine J_getf h 0 (wM_0 ad cA σ) (tb_ups in_M) rfl 63 (by decide) (tb_up q_4_145) rfl d_M_join_169 ?_
          refine J_iload (q := 4) h d_M_join_172 rfl ?_
          refine J_zald h 42 41 (wM_42 ad cA σ) rfl d_M_join_174 ?_
          refine J_if_eq (tgt := 193) h d_M_join_175 (by decide) ?_ ?_
          · refine J_sub [0, 1, 2, 4] rfl ?_
            exact J_M_M_join_b193 K D A ad cA N h (M_M_join_L148 N k206 n) ih v2 v3 v5 σ
          · refine J_aload_n (q := 0) h d_M_join_178 rfl rfl ?_
            refine J_aload_n (q := 0) h d_M_join_179 rfl rfl ?_
            refine J_iload (q := 4) h d_M_join_180 rfl ?_
            refine J_callVi (As := [.int v5]) (st := [.ref (ad 0)]) (rmc := rM_M_plainOf) (q0 := 0) h (fun _ _ hf => cM_M_plainOf (jl K) D ad cA N v5 σ _ _ hf) (gd_V q_5_70 q_5_72 q_s_31 q_1_12 q_5_73) rfl ⟨rfl, rfl⟩ dd_M_plainOf ⟨Nat.le_of_ble_eq_true rfl, Nat.le_of_ble_eq_true rfl⟩ rfl rfl (wM_0 ad cA σ) rfl rfl (Nat.le_of_ble_eq_true rfl) ⟨Nat.zero_le _, Nat.zero_le _⟩ d_M_join_182 (fun r9 σ10 => ?_)
            refine J_iload_n (q := 2) h d_M_join_185 rfl rfl ?_
            refine J_callVi (As := [.int r9, .int v3]) (st := []) (rmc := rM_M_aboveOf) (q0 := 0) h (fun _ _ hf => cM_M_aboveOf (jl K) D ad cA N r9 v3 σ10 _ _ hf) (gd_V q_5_118 q_5_120 q_s_35 q_1_12 q_5_121) rfl ⟨rfl, rfl⟩ dd_M_aboveOf ⟨Nat.le_of_ble_eq_true rfl, Nat.le_of_ble_eq_true rfl⟩ rfl rfl (wM_0 ad cA σ10) rfl rfl (Nat.le_of_ble_eq_true rfl) ⟨Nat.zero_le _, Nat.zero_le _⟩ d_M_join_186 (fun r11 σ12 => ?_)
            refine J_iconst (v := (-1)) h d_M_join_189 (by decide) ?_
            refine J_icmp_ne (tgt := 197) h d_M_join_190 (by decide) ?_ ?_
            · refine J_sub [0, 1, 2, 4] rfl ?_
              exact J_M_M_join_b193 K D A ad cA N h (M_M_join_L148 N k206 n) ih v2 v3 v5 σ12
            · refine J_iconst (v := 0) h d_M_join_197 (by decide) ?_
              refine J_sub [0, 1, 2, 4] rfl ?_
              exact J_M_M_join_b198 K D A ad cA N h (M_M_join_L148 N k206 n) ih v2 v3 v5 0 σ12
def M_M_join_b225 (N : Nat) (k124 : Int32 → Int32 → SM → Option (Int32 × SM)) (v3 : Int32) (s0 : Int32) (σ : SM) : Option (Int32 × SM) := (nm (v3 + 1) (fun (y13 : Int32) => (k124 s0 y13 σ)))
set_option maxRecDepth 100000 in
set_option maxHeartbeats 4000000 in
theorem J_M_M_join_b225 (K : jx_E) (D : va_G) (A : Nat → Prop) (ad : Nat → Nat) (cA : Nat → ClassId) (N : Nat) (h : jx_ok K D clM (tysM cA) A 6 b_M_join y_M_join.cls ((Cond.code y_M_join b_M_join 6 (some .int)) :: tblG) rM_M_join (some .int)) (k124 : Int32 → Int32 → SM → Option (Int32 × SM)) (hk124 : ∀ (v2 : Int32) (v3 : Int32) (σ : SM), J K D clM A 6 (wM ad cA) (jx_Qi K D clM (tysM cA) (wM ad cA) A) 0 0 124 [(0, .ref (ad 0)), (2, .int v2), (3, .int v3)] [] σ (k124 v2 v3 σ)) : ∀ (v3 : Int32) (s0 : Int32) (σ : SM), J K D clM A 6 (wM ad cA) (jx_Qi K D clM (tysM cA) (wM ad cA) A) 0 0 225 [(0, .ref (ad 0)), (3, .int v3)] [.int s0] σ (M_M_join_b225 N k124 v3 s0 σ) := by
  intro v3 s0 σ
  rw [M_M_join_b225]
  refine J_istore_n (lv' := [(2, .int s0), (0, .ref (ad 0)), (3, .int v3)]) h d_M_join_225 rfl (by decide) rfl ?_
  refine J_iinc (q := 2) (c := 1) (lv' := fun y13 => [(3, .int y13), (2, .int s0), (0, .ref (ad 0))]) h d_M_join_226 rfl (by decide) (by decide) (fun _ => rfl) (fun y13 => ?_)
  refine J_goto (tgt := 124) h d_M_join_229 (by decide) ?_
  refine J_sub [2, 1, 0] rfl ?_
  exact hk124 s0 y13 σ
def M_M_join_b206 (N : Nat) (k124 : Int32 → Int32 → SM → Option (Int32 × SM)) (v2 : Int32) (v3 : Int32) (v4 : Int32) (σ : SM) : Option (Int32 × SM) := (if (gM_M_full σ) = 0 then (if v4 = 0 then (M_M_join_b225 N k124 v3 v2 σ) else (M_M_join_b225 N k124 v3 v3 σ)) else (some ((-1), σ)))
set_option maxRecDepth 100000 in
set_option maxHeartbeats 4000000 in
theorem J_M_M_join_b206 (K : jx_E) (D : va_G) (A : Nat → Prop) (ad : Nat → Nat) (cA : Nat → ClassId) (N : Nat) (h : jx_ok K D clM (tysM cA) A 6 b_M_join y_M_join.cls ((Cond.code y_M_join b_M_join 6 (some .int)) :: tblG) rM_M_join (some .int)) (k124 : Int32 → Int32 → SM → Option (Int32 × SM)) (hk124 : ∀ (v2 : Int32) (v3 : Int32) (σ : SM), J K D clM A 6 (wM ad cA) (jx_Qi K D clM (tysM cA) (wM ad cA) A) 0 0 124 [(0, .ref (ad 0)), (2, .int v2), (3, .int v3)] [] σ (k124 v2 v3 σ)) : ∀ (v2 : Int32) (v3 : Int32) (v4 : Int32) (σ : SM), J K D clM A 6 (wM ad cA) (jx_Qi K D clM (tysM cA) (wM ad cA) A) 0 0 206 [(0, .ref (ad 0)), (2, .int v2), (3, .int v3), (4, .int v4)] [] σ (M_M_join_b206 N k124 v2 v3 v4 σ) := by
  intro v2 v3 v4 σ
  rw [M_M_join_b206]
  refine J_aload_n (q := 0) h d_M_join_206 rfl rfl ?_
  refine J_getf h 0 (wM_0 ad cA σ) (tb_ups in_M) rfl 12 (by decide) (tb_up q_4_94) rfl d_M_join_207 ?_
  refine J_if_eq (tgt := 215) h d_M_join_210 (by decide) ?_ ?_
  · refine J_iload (q := 3) h d_M_join_215 rfl ?_
    refine J_if_eq (tgt := 224) h d_M_join_217 (by decide) ?_ ?_
    · refine J_iload_n (q := 1) h d_M_join_224 rfl rfl ?_
      refine J_sub [0, 2] rfl ?_
      exact J_M_M_join_b225 K D A ad cA N h k124 hk124 v3 v2 σ
    · refine J_iload_n (q := 2) h d_M_join_220 rfl rfl ?_
      refine J_goto (tgt := 225) h d_M_join_221 (by decide) ?_
      refine J_sub [0, 2] rfl ?_
      exact J_M_M_join_b225 K D A ad cA N h k124 hk124 v3 v3 σ
  · refine J_iconst (v := (-1)) h d_M_join_213 (by decide) ?_
    exact J_iret h rfl d_M_join_214
def M_M_join_L124 (N : Nat) (k232 : Int32 → SM → Option (Int32 × SM)) : Nat → Int32 → Int32 → SM → Option (Int32 × SM)
  | 0, _, _, _ => none
  | n + 1, v2, v3, σ => (if (gM_M_classes σ) ≤ v3 then (k232 v2 σ) else (if v2 = (-1) then (if ck v3 40 = true then (nm ((aM_M_common σ v3.toNatClampNeg)) (fun (y7 : Int32) => (M_M_join_L148 N (M_M_join_b206 N (M_M_join_L124 N k232 n)) N v2 v3 y7 0 σ))) else none) else (k232 v2 σ)))
set_option maxRecDepth 100000 in
set_option maxHeartbeats 4000000 in
theorem J_M_M_join_L124 (K : jx_E) (D : va_G) (A : Nat → Prop) (ad : Nat → Nat) (cA : Nat → ClassId) (N : Nat) (h : jx_ok K D clM (tysM cA) A 6 b_M_join y_M_join.cls ((Cond.code y_M_join b_M_join 6 (some .int)) :: tblG) rM_M_join (some .int)) (k232 : Int32 → SM → Option (Int32 × SM)) (hk232 : ∀ (v2 : Int32) (σ : SM), J K D clM A 6 (wM ad cA) (jx_Qi K D clM (tysM cA) (wM ad cA) A) 0 0 232 [(0, .ref (ad 0)), (2, .int v2)] [] σ (k232 v2 σ)) : ∀ (n : Nat) (v2 : Int32) (v3 : Int32) (σ : SM), J K D clM A 6 (wM ad cA) (jx_Qi K D clM (tysM cA) (wM ad cA) A) 0 0 124 [(0, .ref (ad 0)), (2, .int v2), (3, .int v3)] [] σ (M_M_join_L124 N k232 n v2 v3 σ) := by
  intro n
  induction n with
  | zero => intro v2 v3 σ; exact J_none
  | succ n ih =>
    intro v2 v3 σ
    rw [M_M_join_L124]
    refine J_iload_n (q := 2) h d_M_join_124 rfl rfl ?_
    refine J_aload_n (q := 0) h d_M_join_125 rfl rfl ?_
    refine J_getf h 0 (wM_0 ad cA σ) (tb_ups in_M) rfl 4 (by decide) (tb_up q_4_86) rfl d_M_join_126 ?_
    refine J_icmp_ge (tgt := 232) h d_M_join_129 (by decide) ?_ ?_
    · refine J_sub [0, 1] rfl ?_
      exact hk232 v2 σ
    · refine J_iload_n (q := 1) h d_M_join_132 rfl rfl ?_
      refine J_iconst (v := (-1)) h d_M_join_133 (by decide) ?_
      refine J_icmp_ne (tgt := 232) h d_M_join_134 (by decide) ?_ ?_
      · refine J_aload_n (q := 0) h d_M_join_137 rfl rfl ?_
        refine J_getf h 0 (wM_0 ad cA σ) (tb_ups in_M) rfl 63 (by decide) (tb_up q_4_145) rfl d_M_join_138 ?_
        refine J_iload_n (q := 2) h d_M_join_141 rfl rfl ?_
        refine J_zald h 42 41 (wM_42 ad cA σ) rfl d_M_join_142 ?_
        refine J_nmi (fun y7 => ?_)
        refine J_istore (lv' := [(4, .int y7), (0, .ref (ad 0)), (2, .int v2), (3, .int v3)]) h d_M_join_143 (by decide) rfl ?_
        refine J_iconst (v := 0) h d_M_join_145 (by decide) ?_
        refine J_istore (lv' := [(5, .int 0), (4, .int y7), (0, .ref (ad 0)), (2, .int v2), (3, .int v3)]) h d_M_join_146 (by decide) rfl ?_
        refine J_sub [2, 3, 4, 1, 0] rfl ?_
        exact J_M_M_join_L148 K D A ad cA N h (M_M_join_b206 N (M_M_join_L124 N k232 n)) (J_M_M_join_b206 K D A ad cA N h (M_M_join_L124 N k232 n) ih) N v2 v3 y7 0 σ
      · refine J_sub [0, 1] rfl ?_
        exact hk232 v2 σ
def M_M_join_b232 (N : Nat) (v2 : Int32) (σ : SM) : Option (Int32 × SM) := (bd (M_M_joined N v2 σ) (fun (r14 : Int32) (σ15 : SM) => (some (r14, σ15))))
set_option maxRecDepth 100000 in
set_option maxHeartbeats 4000000 in
theorem J_M_M_join_b232 (K : jx_E) (D : va_G) (A : Nat → Prop) (ad : Nat → Nat) (cA : Nat → ClassId) (N : Nat) (h : jx_ok K D clM (tysM cA) A 6 b_M_join y_M_join.cls ((Cond.code y_M_join b_M_join 6 (some .int)) :: tblG) rM_M_join (some .int)) : ∀ (v2 : Int32) (σ : SM), J K D clM A 6 (wM ad cA) (jx_Qi K D clM (tysM cA) (wM ad cA) A) 0 0 232 [(0, .ref (ad 0)), (2, .int v2)] [] σ (M_M_join_b232 N v2 σ) := by
  intro v2 σ
  rw [M_M_join_b232]
  refine J_aload_n (q := 0) h d_M_join_232 rfl rfl ?_
  refine J_iload_n (q := 1) h d_M_join_233 rfl rfl ?_
  refine J_callVi (As := [.int v2]) (st := []) (rmc := rM_M_joined) (q0 := 0) h (fun _ _ hf => cM_M_joined (jl K) D ad cA N v2 σ _ _ hf) (gd_V q_6_21 q_6_23 q_s_67 q_1_12 q_6_24) rfl ⟨rfl, rfl⟩ dd_M_joined ⟨Nat.le_of_ble_eq_true rfl, Nat.le_of_ble_eq_true rfl⟩ rfl rfl (wM_0 ad cA σ) rfl rfl (Nat.le_of_ble_eq_true rfl) ⟨Nat.zero_le _, Nat.zero_le _⟩ d_M_join_234 (fun r14 σ15 => ?_)
  exact J_iret h rfl d_M_join_237
def M_M_join_b120 (N : Nat)  (σ : SM) : Option (Int32 × SM) := (M_M_join_L124 N (M_M_join_b232 N) N (-1) 0 σ)
set_option maxRecDepth 100000 in
set_option maxHeartbeats 4000000 in
theorem J_M_M_join_b120 (K : jx_E) (D : va_G) (A : Nat → Prop) (ad : Nat → Nat) (cA : Nat → ClassId) (N : Nat) (h : jx_ok K D clM (tysM cA) A 6 b_M_join y_M_join.cls ((Cond.code y_M_join b_M_join 6 (some .int)) :: tblG) rM_M_join (some .int)) : ∀  (σ : SM), J K D clM A 6 (wM ad cA) (jx_Qi K D clM (tysM cA) (wM ad cA) A) 0 0 120 [(0, .ref (ad 0))] [] σ (M_M_join_b120 N  σ) := by
  intro  σ
  rw [M_M_join_b120]
  refine J_iconst (v := (-1)) h d_M_join_120 (by decide) ?_
  refine J_istore_n (lv' := [(2, .int (-1)), (0, .ref (ad 0))]) h d_M_join_121 rfl (by decide) rfl ?_
  refine J_iconst (v := 0) h d_M_join_122 (by decide) ?_
  refine J_istore_n (lv' := [(3, .int 0), (2, .int (-1)), (0, .ref (ad 0))]) h d_M_join_123 rfl (by decide) rfl ?_
  refine J_sub [2, 1, 0] rfl ?_
  exact J_M_M_join_L124 K D A ad cA N h (M_M_join_b232 N) (J_M_M_join_b232 K D A ad cA N h) N (-1) 0 σ
def M_M_join_b22 (N : Nat) (s0 : Int32) (σ : SM) : Option (Int32 × SM) := (if s0 = (-1) then (if (gM_M_full σ) = 0 then (M_M_join_L39 N (M_M_join_b120 N) N 0 σ) else (some (s0, σ))) else (some (s0, σ)))
set_option maxRecDepth 100000 in
set_option maxHeartbeats 4000000 in
theorem J_M_M_join_b22 (K : jx_E) (D : va_G) (A : Nat → Prop) (ad : Nat → Nat) (cA : Nat → ClassId) (N : Nat) (h : jx_ok K D clM (tysM cA) A 6 b_M_join y_M_join.cls ((Cond.code y_M_join b_M_join 6 (some .int)) :: tblG) rM_M_join (some .int)) : ∀ (s0 : Int32) (σ : SM), J K D clM A 6 (wM ad cA) (jx_Qi K D clM (tysM cA) (wM ad cA) A) 0 0 22 [(0, .ref (ad 0))] [.int s0] σ (M_M_join_b22 N s0 σ) := by
  intro s0 σ
  rw [M_M_join_b22]
  refine J_istore_n (lv' := [(1, .int s0), (0, .ref (ad 0))]) h d_M_join_22 rfl (by decide) rfl ?_
  refine J_iload_n (q := 0) h d_M_join_23 rfl rfl ?_
  refine J_iconst (v := (-1)) h d_M_join_24 (by decide) ?_
  refine J_icmp_ne (tgt := 35) h d_M_join_25 (by decide) ?_ ?_
  · refine J_aload_n (q := 1) h d_M_join_28 rfl rfl ?_
    refine J_getf h 0 (wM_0 ad cA σ) (tb_ups in_M) rfl 12 (by decide) (tb_up q_4_94) rfl d_M_join_29 ?_
    refine J_if_eq (tgt := 37) h d_M_join_32 (by decide) ?_ ?_
    · refine J_iconst (v := 0) h d_M_join_37 (by decide) ?_
      refine J_istore_n (lv' := [(2, .int 0), (1, .int s0), (0, .ref (ad 0))]) h d_M_join_38 rfl (by decide) rfl ?_
      refine J_sub [2, 0] rfl ?_
      exact J_M_M_join_L39 K D A ad cA N h (M_M_join_b120 N) (J_M_M_join_b120 K D A ad cA N h) N 0 σ
    · refine J_iload_n (q := 0) h d_M_join_35 rfl rfl ?_
      exact J_iret h rfl d_M_join_36
  · refine J_iload_n (q := 0) h d_M_join_35 rfl rfl ?_
    exact J_iret h rfl d_M_join_36
def M_M_join (N : Nat)  (σ : SM) : Option (Int32 × SM) := (if (gM_M_someMany σ) = 1 then (if ck 0 200 = true then (M_M_join_b22 N (aM_M_some σ (0 : Int32).toNatClampNeg) σ) else none) else (bd (M_M_extreme N 0 σ) (fun (r16 : Int32) (σ17 : SM) => (M_M_join_b22 N r16 σ17))))
set_option maxRecDepth 100000 in
set_option maxHeartbeats 4000000 in
theorem J_M_M_join (K : jx_E) (D : va_G) (A : Nat → Prop) (ad : Nat → Nat) (cA : Nat → ClassId) (N : Nat) (h : jx_ok K D clM (tysM cA) A 6 b_M_join y_M_join.cls ((Cond.code y_M_join b_M_join 6 (some .int)) :: tblG) rM_M_join (some .int)) : ∀  (σ : SM), J K D clM A 6 (wM ad cA) (jx_Qi K D clM (tysM cA) (wM ad cA) A) 0 0 0 [(0, .ref (ad 0))] [] σ (M_M_join N  σ) := by
  intro  σ
  rw [M_M_join]
  refine J_aload_n (q := 0) h d_M_join_0 rfl rfl ?_
  refine J_getf h 0 (wM_0 ad cA σ) (tb_ups in_M) rfl 62 (by decide) (tb_up q_4_144) rfl d_M_join_1 ?_
  refine J_iconst (v := 1) h d_M_join_4 (by decide) ?_
  refine J_icmp_ne (tgt := 17) h d_M_join_5 (by decide) ?_ ?_
  · refine J_aload_n (q := 0) h d_M_join_8 rfl rfl ?_
    refine J_getf h 0 (wM_0 ad cA σ) (tb_ups in_M) rfl 61 (by decide) (tb_up q_4_143) rfl d_M_join_9 ?_
    refine J_iconst (v := 0) h d_M_join_12 (by decide) ?_
    refine J_iald h 41 40 (wM_41 ad cA σ) rfl d_M_join_13 ?_
    refine J_goto (tgt := 22) h d_M_join_14 (by decide) ?_
    exact J_M_M_join_b22 K D A ad cA N h (aM_M_some σ (0 : Int32).toNatClampNeg) σ
  · refine J_aload_n (q := 0) h d_M_join_17 rfl rfl ?_
    refine J_iconst (v := 0) h d_M_join_18 (by decide) ?_
    refine J_callVi (As := [.int 0]) (st := []) (rmc := rM_M_extreme) (q0 := 0) h (fun _ _ hf => cM_M_extreme (jl K) D ad cA N 0 σ _ _ hf) (gd_V q_6_17 q_6_19 q_s_66 q_1_12 q_6_20) rfl ⟨rfl, rfl⟩ dd_M_extreme ⟨Nat.le_of_ble_eq_true rfl, Nat.le_of_ble_eq_true rfl⟩ rfl rfl (wM_0 ad cA σ) rfl rfl (Nat.le_of_ble_eq_true rfl) ⟨Nat.zero_le _, Nat.zero_le _⟩ d_M_join_19 (fun r16 σ17 => ?_)
    exact J_M_M_join_b22 K D A ad cA N h r16 σ17
set_option maxRecDepth 100000 in
theorem cM_M_join (l : Launch) (D : va_G) (ad : Nat → Nat) (cA : Nat → ClassId) (N : Nat)  (σ : SM) (r : Int32) (σ' : SM) (hf : M_M_join N  σ = some (r, σ')) : MetI l y_M_join ((Cond.code y_M_join b_M_join 6 (some .int)) :: tblG) rM_M_join D clM (tysM cA) (wM ad cA) [.ref (ad 0)] σ r σ' :=
  jx_metI (by decide) rfl (Nat.le_of_ble_eq_true rfl) (fun K A h => J_M_M_join K D A ad cA N h  σ) hf
def rM_M_choose : Room := { frames := 9, cells := 0, slots := 0, locals := 226 }
theorem rm_ok_M_M_choose : rM_M_choose.cells = 0 ∧ rM_M_choose.slots = 0 := ⟨rfl, rfl⟩
def M_M_choose (N : Nat) (x1 : Int32) (σ : SM) : Option (Int32 × SM) := (bd (M_M_collect N x1 2 σ) (fun (r1 : Unit) (σ2 : SM) => (if (gM_M_someMany σ2) ≤ 0 then (bd (M_M_collect N x1 1 σ2) (fun (r3 : Unit) (σ4 : SM) => (if (gM_M_someMany σ4) ≤ 0 then (bd (M_M_plainOf N 0 σ4) (fun (r5 : Int32) (σ6 : SM) => (some (r5, σ6)))) else (bd (M_M_extreme N 1 σ4) (fun (r7 : Int32) (σ8 : SM) => (some (r7, σ8))))))) else (bd (M_M_join N σ2) (fun (r9 : Int32) (σ10 : SM) => (some (r9, σ10)))))))
set_option maxRecDepth 100000 in
set_option maxHeartbeats 4000000 in
theorem J_M_M_choose (K : jx_E) (D : va_G) (A : Nat → Prop) (ad : Nat → Nat) (cA : Nat → ClassId) (N : Nat) (h : jx_ok K D clM (tysM cA) A 2 b_M_choose y_M_choose.cls ((Cond.code y_M_choose b_M_choose 2 (some .int)) :: tblG) rM_M_choose (some .int)) : ∀ (x1 : Int32) (σ : SM), J K D clM A 2 (wM ad cA) (jx_Qi K D clM (tysM cA) (wM ad cA) A) 0 0 0 [(0, .ref (ad 0)), (1, .int x1)] [] σ (M_M_choose N x1 σ) := by
  intro x1 σ
  rw [M_M_choose]
  refine J_aload_n (q := 0) h d_M_choose_0 rfl rfl ?_
  refine J_iload_n (q := 1) h d_M_choose_1 rfl rfl ?_
  refine J_iconst (v := 2) h d_M_choose_2 (by decide) ?_
  refine J_callVv (As := [.int x1, .int 2]) (st := []) (rmc := rM_M_collect) (q0 := 0) h (fun _ _ hf => cM_M_collect (jl K) D ad cA N x1 2 σ _ _ hf) (gd_V q_6_9 q_6_11 q_s_64 q_1_12 q_6_12) rfl ⟨rfl, rfl⟩ dd_M_collect ⟨Nat.le_of_ble_eq_true rfl, Nat.le_of_ble_eq_true rfl⟩ rfl rfl (wM_0 ad cA σ) rfl rfl (Nat.le_of_ble_eq_true rfl) ⟨Nat.zero_le _, Nat.zero_le _⟩ d_M_choose_3 (fun r1 σ2 => ?_)
  refine J_aload_n (q := 0) h d_M_choose_6 rfl rfl ?_
  refine J_getf h 0 (wM_0 ad cA σ2) (tb_ups in_M) rfl 62 (by decide) (tb_up q_4_144) rfl d_M_choose_7 ?_
  refine J_if_le (tgt := 18) h d_M_choose_10 (by decide) ?_ ?_
  · refine J_aload_n (q := 0) h d_M_choose_18 rfl rfl ?_
    refine J_iload_n (q := 1) h d_M_choose_19 rfl rfl ?_
    refine J_iconst (v := 1) h d_M_choose_20 (by decide) ?_
    refine J_callVv (As := [.int x1, .int 1]) (st := []) (rmc := rM_M_collect) (q0 := 0) h (fun _ _ hf => cM_M_collect (jl K) D ad cA N x1 1 σ2 _ _ hf) (gd_V q_6_9 q_6_11 q_s_64 q_1_12 q_6_12) rfl ⟨rfl, rfl⟩ dd_M_collect ⟨Nat.le_of_ble_eq_true rfl, Nat.le_of_ble_eq_true rfl⟩ rfl rfl (wM_0 ad cA σ2) rfl rfl (Nat.le_of_ble_eq_true rfl) ⟨Nat.zero_le _, Nat.zero_le _⟩ d_M_choose_21 (fun r3 σ4 => ?_)
    refine J_aload_n (q := 0) h d_M_choose_24 rfl rfl ?_
    refine J_getf h 0 (wM_0 ad cA σ4) (tb_ups in_M) rfl 62 (by decide) (tb_up q_4_144) rfl d_M_choose_25 ?_
    refine J_if_le (tgt := 39) h d_M_choose_28 (by decide) ?_ ?_
    · refine J_aload_n (q := 0) h d_M_choose_39 rfl rfl ?_
      refine J_iconst (v := 0) h d_M_choose_40 (by decide) ?_
      refine J_callVi (As := [.int 0]) (st := []) (rmc := rM_M_plainOf) (q0 := 0) h (fun _ _ hf => cM_M_plainOf (jl K) D ad cA N 0 σ4 _ _ hf) (gd_V q_5_70 q_5_72 q_s_31 q_1_12 q_5_73) rfl ⟨rfl, rfl⟩ dd_M_plainOf ⟨Nat.le_of_ble_eq_true rfl, Nat.le_of_ble_eq_true rfl⟩ rfl rfl (wM_0 ad cA σ4) rfl rfl (Nat.le_of_ble_eq_true rfl) ⟨Nat.zero_le _, Nat.zero_le _⟩ d_M_choose_41 (fun r5 σ6 => ?_)
      exact J_iret h rfl d_M_choose_44
    · refine J_aload_n (q := 0) h d_M_choose_31 rfl rfl ?_
      refine J_iconst (v := 1) h d_M_choose_32 (by decide) ?_
      refine J_callVi (As := [.int 1]) (st := []) (rmc := rM_M_extreme) (q0 := 0) h (fun _ _ hf => cM_M_extreme (jl K) D ad cA N 1 σ4 _ _ hf) (gd_V q_6_17 q_6_19 q_s_66 q_1_12 q_6_20) rfl ⟨rfl, rfl⟩ dd_M_extreme ⟨Nat.le_of_ble_eq_true rfl, Nat.le_of_ble_eq_true rfl⟩ rfl rfl (wM_0 ad cA σ4) rfl rfl (Nat.le_of_ble_eq_true rfl) ⟨Nat.zero_le _, Nat.zero_le _⟩ d_M_choose_33 (fun r7 σ8 => ?_)
      refine J_goto (tgt := 44) h d_M_choose_36 (by decide) ?_
      exact J_iret h rfl d_M_choose_44
  · refine J_aload_n (q := 0) h d_M_choose_13 rfl rfl ?_
    refine J_callVi (As := []) (st := []) (rmc := rM_M_join) (q0 := 0) h (fun _ _ hf => cM_M_join (jl K) D ad cA N  σ2 _ _ hf) (gd_V q_6_13 q_6_15 q_s_65 q_1_12 q_6_16) rfl ⟨rfl, rfl⟩ dd_M_join ⟨Nat.le_of_ble_eq_true rfl, Nat.le_of_ble_eq_true rfl⟩ rfl rfl (wM_0 ad cA σ2) rfl rfl (Nat.le_of_ble_eq_true rfl) ⟨Nat.zero_le _, Nat.zero_le _⟩ d_M_choose_14 (fun r9 σ10 => ?_)
    exact J_iret h rfl d_M_choose_17
set_option maxRecDepth 100000 in
theorem cM_M_choose (l : Launch) (D : va_G) (ad : Nat → Nat) (cA : Nat → ClassId) (N : Nat) (x1 : Int32) (σ : SM) (r : Int32) (σ' : SM) (hf : M_M_choose N x1 σ = some (r, σ')) : MetI l y_M_choose ((Cond.code y_M_choose b_M_choose 2 (some .int)) :: tblG) rM_M_choose D clM (tysM cA) (wM ad cA) [.ref (ad 0), .int x1] σ r σ' :=
  jx_metI (by decide) rfl (Nat.le_of_ble_eq_true rfl) (fun K A h => J_M_M_choose K D A ad cA N h x1 σ) hf
