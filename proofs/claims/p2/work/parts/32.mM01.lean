def rM_M_parent : Room := { frames := 3, cells := 0, slots := 0, locals := 70 }
theorem rm_ok_M_M_parent : rM_M_parent.cells = 0 ∧ rM_M_parent.slots = 0 := ⟨rfl, rfl⟩
def M_M_parent_L85 (N : Nat) (k141 : Int32 → Int32 → SM → Option (Int32 × SM)) : Nat → Int32 → Int32 → Int32 → SM → Option (Int32 × SM)
  | 0, _, _, _, _ => none
  | n + 1, v1, v3, v4, σ => (if ck v3 40 = true then (if (aM_M_parentMany σ v3.toNatClampNeg) ≤ v4 then (k141 v1 v3 σ) else (if ck (((3 : Int32) * v3) + v4) 120 = true then (if ck (aM_M_parents σ (((3 : Int32) * v3) + v4).toNatClampNeg) 500 = true then (nm ((aM_M_one σ (aM_M_parents σ (((3 : Int32) * v3) + v4).toNatClampNeg).toNatClampNeg)) (fun (y8 : Int32) => (if ck v3 40 = true then (if ck y8 40 = true then (if ck v3 40 = true then (nm (tM_M_upward σ (vp_updL (aM_M_upward σ) v3.toNatClampNeg ((aM_M_upward σ v3.toNatClampNeg) ||| (((1 : Int64) <<< (y8.toInt64 &&& 63)) ||| (aM_M_upward σ y8.toNatClampNeg))))) (fun (σ9 : SM) => (nm (v4 + 1) (fun (y10 : Int32) => (M_M_parent_L85 N k141 n v1 v3 y10 σ9))))) else none) else none) else none))) else none) else none)) else none)
set_option maxRecDepth 100000 in
set_option maxHeartbeats 4000000 in
theorem J_M_M_parent_L85 (K : jx_E) (D : va_G) (A : Nat → Prop) (ad : Nat → Nat) (cA : Nat → ClassId) (N : Nat) (h : jx_ok K D clM (tysM cA) A 6 b_M_parent y_M_parent.cls ((Cond.code y_M_parent b_M_parent 6 (some .int)) :: tblG) rM_M_parent (some .int)) (k141 : Int32 → Int32 → SM → Option (Int32 × SM)) (hk141 : ∀ (v1 : Int32) (v3 : Int32) (σ : SM), J K D clM A 6 (wM ad cA) (jx_Qi K D clM (tysM cA) (wM ad cA) A) 0 0 141 [(0, .ref (ad 0)), (1, .int v1), (3, .int v3)] [] σ (k141 v1 v3 σ)) : ∀ (n : Nat) (v1 : Int32) (v3 : Int32) (v4 : Int32) (σ : SM), J K D clM A 6 (wM ad cA) (jx_Qi K D clM (tysM cA) (wM ad cA) A) 0 0 85 [(0, .ref (ad 0)), (1, .int v1), (3, .int v3), (4, .int v4)] [] σ (M_M_parent_L85 N k141 n v1 v3 v4 σ) := by
  intro n
  induction n with
  | zero => intro v1 v3 v4 σ; exact J_none
  | succ n ih =>
    intro v1 v3 v4 σ
    rw [M_M_parent_L85]
    refine J_iload (q := 3) h d_M_parent_85 rfl ?_
    refine J_aload_n (q := 0) h d_M_parent_87 rfl rfl ?_
    refine J_getf h 0 (wM_0 ad cA σ) (tb_ups in_M) rfl 2 (by decide) (tb_up q_4_84) rfl d_M_parent_88 ?_
    refine J_iload_n (q := 2) h d_M_parent_91 rfl rfl ?_
    refine J_iald h 3 2 (wM_3 ad cA σ) rfl d_M_parent_92 ?_
    refine J_icmp_ge (tgt := 141) h d_M_parent_93 (by decide) ?_ ?_
    · refine J_sub [0, 1, 2] rfl ?_
      exact hk141 v1 v3 σ
    · refine J_aload_n (q := 0) h d_M_parent_96 rfl rfl ?_
      refine J_getf h 0 (wM_0 ad cA σ) (tb_ups in_M) rfl 6 (by decide) (tb_up q_4_88) rfl d_M_parent_97 ?_
      refine J_aload_n (q := 0) h d_M_parent_100 rfl rfl ?_
      refine J_getf h 0 (wM_0 ad cA σ) (tb_ups in_M) rfl 1 (by decide) (tb_up q_4_83) rfl d_M_parent_101 ?_
      refine J_iconst (v := 3) h d_M_parent_104 (by decide) ?_
      refine J_iload_n (q := 2) h d_M_parent_105 rfl rfl ?_
      refine J_imul h d_M_parent_106 ?_
      refine J_iload (q := 3) h d_M_parent_107 rfl ?_
      refine J_iadd h d_M_parent_109 ?_
      refine J_iald h 2 1 (wM_2 ad cA σ) rfl d_M_parent_110 ?_
      refine J_iald h 6 5 (wM_6 ad cA σ) rfl d_M_parent_111 ?_
      refine J_nmi (fun y8 => ?_)
      refine J_istore (lv' := [(5, .int y8), (0, .ref (ad 0)), (1, .int v1), (3, .int v3), (4, .int v4)]) h d_M_parent_112 (by decide) rfl ?_
      refine J_aload_n (q := 1) h d_M_parent_114 rfl rfl ?_
      refine J_getf h 0 (wM_0 ad cA σ) (tb_ups in_M) rfl 3 (by decide) (tb_up q_4_85) rfl d_M_parent_115 ?_
      refine J_iload_n (q := 3) h d_M_parent_118 rfl rfl ?_
      refine J_dup2 h d_M_parent_119 rfl rfl ?_
      refine J_lald h 4 3 (wM_4 ad cA σ) rfl d_M_parent_120 ?_
      refine J_lconst (v := 1) h d_M_parent_121 (by decide) ?_
      refine J_iload (q := 0) h d_M_parent_122 rfl ?_
      refine J_lshl h d_M_parent_124 ?_
      refine J_aload_n (q := 1) h d_M_parent_125 rfl rfl ?_
      refine J_getf h 0 (wM_0 ad cA σ) (tb_ups in_M) rfl 3 (by decide) (tb_up q_4_85) rfl d_M_parent_126 ?_
      refine J_iload (q := 0) h d_M_parent_129 rfl ?_
      refine J_lald h 4 3 (wM_4 ad cA σ) rfl d_M_parent_131 ?_
      refine J_lor h d_M_parent_132 ?_
      refine J_lor h d_M_parent_133 ?_
      refine J_last h 4 3 (wM_4 ad cA σ) rfl (uM_4 ad cA σ _) d_M_parent_134 (fun σ9 => ?_)
      refine J_iinc (q := 4) (c := 1) (lv' := fun y10 => [(4, .int y10), (5, .int y8), (0, .ref (ad 0)), (1, .int v1), (3, .int v3)]) h d_M_parent_135 rfl (by decide) (by decide) (fun _ => rfl) (fun y10 => ?_)
      refine J_goto (tgt := 85) h d_M_parent_138 (by decide) ?_
      refine J_sub [2, 3, 4, 0] rfl ?_
      exact ih v1 v3 y10 σ9
def M_M_parent_b141 (N : Nat) (k67 : Int32 → Int32 → SM → Option (Int32 × SM)) (v1 : Int32) (v3 : Int32) (σ : SM) : Option (Int32 × SM) := (nm (v3 + 1) (fun (y11 : Int32) => (k67 v1 y11 σ)))
set_option maxRecDepth 100000 in
set_option maxHeartbeats 4000000 in
theorem J_M_M_parent_b141 (K : jx_E) (D : va_G) (A : Nat → Prop) (ad : Nat → Nat) (cA : Nat → ClassId) (N : Nat) (h : jx_ok K D clM (tysM cA) A 6 b_M_parent y_M_parent.cls ((Cond.code y_M_parent b_M_parent 6 (some .int)) :: tblG) rM_M_parent (some .int)) (k67 : Int32 → Int32 → SM → Option (Int32 × SM)) (hk67 : ∀ (v1 : Int32) (v3 : Int32) (σ : SM), J K D clM A 6 (wM ad cA) (jx_Qi K D clM (tysM cA) (wM ad cA) A) 0 0 67 [(0, .ref (ad 0)), (1, .int v1), (3, .int v3)] [] σ (k67 v1 v3 σ)) : ∀ (v1 : Int32) (v3 : Int32) (σ : SM), J K D clM A 6 (wM ad cA) (jx_Qi K D clM (tysM cA) (wM ad cA) A) 0 0 141 [(0, .ref (ad 0)), (1, .int v1), (3, .int v3)] [] σ (M_M_parent_b141 N k67 v1 v3 σ) := by
  intro v1 v3 σ
  rw [M_M_parent_b141]
  refine J_iinc (q := 2) (c := 1) (lv' := fun y11 => [(3, .int y11), (0, .ref (ad 0)), (1, .int v1)]) h d_M_parent_141 rfl (by decide) (by decide) (fun _ => rfl) (fun y11 => ?_)
  refine J_goto (tgt := 67) h d_M_parent_144 (by decide) ?_
  refine J_sub [1, 2, 0] rfl ?_
  exact hk67 v1 y11 σ
def M_M_parent_L67 (N : Nat) : Nat → Int32 → Int32 → SM → Option (Int32 × SM)
  | 0, _, _, _ => none
  | n + 1, v1, v3, σ => (if (gM_M_classes σ) ≤ v3 then (if ck v1 40 = true then (some ((aM_M_parentMany σ v1.toNatClampNeg), σ)) else none) else (if ck v3 40 = true then (nm (tM_M_upward σ (vp_updL (aM_M_upward σ) v3.toNatClampNeg 0)) (fun (σ7 : SM) => (M_M_parent_L85 N (M_M_parent_b141 N (M_M_parent_L67 N  n)) N v1 v3 0 σ7))) else none))
set_option maxRecDepth 100000 in
set_option maxHeartbeats 4000000 in
theorem J_M_M_parent_L67 (K : jx_E) (D : va_G) (A : Nat → Prop) (ad : Nat → Nat) (cA : Nat → ClassId) (N : Nat) (h : jx_ok K D clM (tysM cA) A 6 b_M_parent y_M_parent.cls ((Cond.code y_M_parent b_M_parent 6 (some .int)) :: tblG) rM_M_parent (some .int)) : ∀ (n : Nat) (v1 : Int32) (v3 : Int32) (σ : SM), J K D clM A 6 (wM ad cA) (jx_Qi K D clM (tysM cA) (wM ad cA) A) 0 0 67 [(0, .ref (ad 0)), (1, .int v1), (3, .int v3)] [] σ (M_M_parent_L67 N n v1 v3 σ) := by
  intro n
  induction n with
  | zero => intro v1 v3 σ; exact J_none
  | succ n ih =>
    intro v1 v3 σ
    rw [M_M_parent_L67]
    refine J_iload_n (q := 2) h d_M_parent_67 rfl rfl ?_
    refine J_aload_n (q := 0) h d_M_parent_68 rfl rfl ?_
    refine J_getf h 0 (wM_0 ad cA σ) (tb_ups in_M) rfl 4 (by decide) (tb_up q_4_86) rfl d_M_parent_69 ?_
    refine J_icmp_ge (tgt := 147) h d_M_parent_72 (by decide) ?_ ?_
    · refine J_aload_n (q := 0) h d_M_parent_147 rfl rfl ?_
      refine J_getf h 0 (wM_0 ad cA σ) (tb_ups in_M) rfl 2 (by decide) (tb_up q_4_84) rfl d_M_parent_148 ?_
      refine J_iload_n (q := 1) h d_M_parent_151 rfl rfl ?_
      refine J_iald h 3 2 (wM_3 ad cA σ) rfl d_M_parent_152 ?_
      exact J_iret h rfl d_M_parent_153
    · refine J_aload_n (q := 0) h d_M_parent_75 rfl rfl ?_
      refine J_getf h 0 (wM_0 ad cA σ) (tb_ups in_M) rfl 3 (by decide) (tb_up q_4_85) rfl d_M_parent_76 ?_
      refine J_iload_n (q := 2) h d_M_parent_79 rfl rfl ?_
      refine J_lconst (v := 0) h d_M_parent_80 (by decide) ?_
      refine J_last h 4 3 (wM_4 ad cA σ) rfl (uM_4 ad cA σ _) d_M_parent_81 (fun σ7 => ?_)
      refine J_iconst (v := 0) h d_M_parent_82 (by decide) ?_
      refine J_istore (lv' := [(4, .int 0), (0, .ref (ad 0)), (1, .int v1), (3, .int v3)]) h d_M_parent_83 (by decide) rfl ?_
      refine J_sub [1, 2, 3, 0] rfl ?_
      exact J_M_M_parent_L85 K D A ad cA N h (M_M_parent_b141 N (M_M_parent_L67 N  n)) (J_M_M_parent_b141 K D A ad cA N h (M_M_parent_L67 N  n) ih) N v1 v3 0 σ7
def M_M_parent (N : Nat) (x1 : Int32) (x2 : Int32) (σ : SM) : Option (Int32 × SM) := (if x1 < 9 then (some ((-2), σ)) else (bd (M_M_isClass x1 σ) (fun (r1 : Int32) (σ2 : SM) => (if r1 = 0 then (some ((-2), σ2)) else (bd (M_M_isParent N x1 x2 σ2) (fun (r3 : Int32) (σ4 : SM) => (if r3 = 0 then (some ((-2), σ4)) else (if ck x1 40 = true then (if (aM_M_parentMany σ4 x1.toNatClampNeg) = 3 then (some ((-3), σ4)) else (if ck x1 40 = true then (if ck (((3 : Int32) * x1) + (aM_M_parentMany σ4 x1.toNatClampNeg)) 120 = true then (nm (tM_M_parents σ4 (upd (aM_M_parents σ4) (((3 : Int32) * x1) + (aM_M_parentMany σ4 x1.toNatClampNeg)).toNatClampNeg x2)) (fun (σ5 : SM) => (if ck x1 40 = true then (if ck x1 40 = true then (nm (tM_M_parentMany σ5 (upd (aM_M_parentMany σ5) x1.toNatClampNeg ((aM_M_parentMany σ5 x1.toNatClampNeg) + 1))) (fun (σ6 : SM) => (M_M_parent_L67 N N x1 0 σ6))) else none) else none))) else none) else none)) else none))))))))
set_option maxRecDepth 100000 in
set_option maxHeartbeats 4000000 in
theorem J_M_M_parent (K : jx_E) (D : va_G) (A : Nat → Prop) (ad : Nat → Nat) (cA : Nat → ClassId) (N : Nat) (h : jx_ok K D clM (tysM cA) A 6 b_M_parent y_M_parent.cls ((Cond.code y_M_parent b_M_parent 6 (some .int)) :: tblG) rM_M_parent (some .int)) : ∀ (x1 : Int32) (x2 : Int32) (σ : SM), J K D clM A 6 (wM ad cA) (jx_Qi K D clM (tysM cA) (wM ad cA) A) 0 0 0 [(0, .ref (ad 0)), (1, .int x1), (2, .int x2)] [] σ (M_M_parent N x1 x2 σ) := by
  intro x1 x2 σ
  rw [M_M_parent]
  refine J_iload_n (q := 1) h d_M_parent_0 rfl rfl ?_
  refine J_bipush (v := 9) h d_M_parent_1 (by decide) ?_
  refine J_icmp_lt (tgt := 23) h d_M_parent_3 (by decide) ?_ ?_
  · refine J_bipush (v := (-2)) h d_M_parent_23 (by decide) ?_
    exact J_iret h rfl d_M_parent_25
  · refine J_aload_n (q := 0) h d_M_parent_6 rfl rfl ?_
    refine J_iload_n (q := 1) h d_M_parent_7 rfl rfl ?_
    refine J_callVi (As := [.int x1]) (st := []) (rmc := rM_M_isClass) (q0 := 0) h (fun _ _ hf => cM_M_isClass (jl K) D ad cA x1 σ _ _ hf) (gd_V q_5_46 q_5_48 q_s_26 q_1_12 q_5_49) rfl ⟨rfl, rfl⟩ dd_M_isClass ⟨Nat.le_of_ble_eq_true rfl, Nat.le_of_ble_eq_true rfl⟩ rfl rfl (wM_0 ad cA σ) rfl rfl (Nat.le_of_ble_eq_true rfl) ⟨Nat.zero_le _, Nat.zero_le _⟩ d_M_parent_8 (fun r1 σ2 => ?_)
    refine J_if_eq (tgt := 23) h d_M_parent_11 (by decide) ?_ ?_
    · refine J_bipush (v := (-2)) h d_M_parent_23 (by decide) ?_
      exact J_iret h rfl d_M_parent_25
    · refine J_aload_n (q := 0) h d_M_parent_14 rfl rfl ?_
      refine J_iload_n (q := 1) h d_M_parent_15 rfl rfl ?_
      refine J_iload_n (q := 2) h d_M_parent_16 rfl rfl ?_
      refine J_callVi (As := [.int x1, .int x2]) (st := []) (rmc := rM_M_isParent) (q0 := 0) h (fun _ _ hf => cM_M_isParent (jl K) D ad cA N x1 x2 σ2 _ _ hf) (gd_V q_5_50 q_5_52 q_s_27 q_1_12 q_5_53) rfl ⟨rfl, rfl⟩ dd_M_isParent ⟨Nat.le_of_ble_eq_true rfl, Nat.le_of_ble_eq_true rfl⟩ rfl rfl (wM_0 ad cA σ2) rfl rfl (Nat.le_of_ble_eq_true rfl) ⟨Nat.zero_le _, Nat.zero_le _⟩ d_M_parent_17 (fun r3 σ4 => ?_)
      refine J_if_ne (tgt := 26) h d_M_parent_20 (by decide) ?_ ?_
      · refine J_bipush (v := (-2)) h d_M_parent_23 (by decide) ?_
        exact J_iret h rfl d_M_parent_25
      · refine J_aload_n (q := 0) h d_M_parent_26 rfl rfl ?_
        refine J_getf h 0 (wM_0 ad cA σ4) (tb_ups in_M) rfl 2 (by decide) (tb_up q_4_84) rfl d_M_parent_27 ?_
        refine J_iload_n (q := 1) h d_M_parent_30 rfl rfl ?_
        refine J_iald h 3 2 (wM_3 ad cA σ4) rfl d_M_parent_31 ?_
        refine J_iconst (v := 3) h d_M_parent_32 (by decide) ?_
        refine J_icmp_ne (tgt := 39) h d_M_parent_33 (by decide) ?_ ?_
        · refine J_bipush (v := (-3)) h d_M_parent_36 (by decide) ?_
          exact J_iret h rfl d_M_parent_38
        · refine J_aload_n (q := 0) h d_M_parent_39 rfl rfl ?_
          refine J_getf h 0 (wM_0 ad cA σ4) (tb_ups in_M) rfl 1 (by decide) (tb_up q_4_83) rfl d_M_parent_40 ?_
          refine J_iconst (v := 3) h d_M_parent_43 (by decide) ?_
          refine J_iload_n (q := 1) h d_M_parent_44 rfl rfl ?_
          refine J_imul h d_M_parent_45 ?_
          refine J_aload_n (q := 0) h d_M_parent_46 rfl rfl ?_
          refine J_getf h 0 (wM_0 ad cA σ4) (tb_ups in_M) rfl 2 (by decide) (tb_up q_4_84) rfl d_M_parent_47 ?_
          refine J_iload_n (q := 1) h d_M_parent_50 rfl rfl ?_
          refine J_iald h 3 2 (wM_3 ad cA σ4) rfl d_M_parent_51 ?_
          refine J_iadd h d_M_parent_52 ?_
          refine J_iload_n (q := 2) h d_M_parent_53 rfl rfl ?_
          refine J_iast h 2 1 (wM_2 ad cA σ4) rfl (uM_2 ad cA σ4 _) d_M_parent_54 (fun σ5 => ?_)
          refine J_aload_n (q := 0) h d_M_parent_55 rfl rfl ?_
          refine J_getf h 0 (wM_0 ad cA σ5) (tb_ups in_M) rfl 2 (by decide) (tb_up q_4_84) rfl d_M_parent_56 ?_
          refine J_iload_n (q := 1) h d_M_parent_59 rfl rfl ?_
          refine J_dup2 h d_M_parent_60 rfl rfl ?_
          refine J_iald h 3 2 (wM_3 ad cA σ5) rfl d_M_parent_61 ?_
          refine J_iconst (v := 1) h d_M_parent_62 (by decide) ?_
          refine J_iadd h d_M_parent_63 ?_
          refine J_iast h 3 2 (wM_3 ad cA σ5) rfl (uM_3 ad cA σ5 _) d_M_parent_64 (fun σ6 => ?_)
          refine J_iconst (v := 0) h d_M_parent_65 (by decide) ?_
          refine J_istore_n (lv' := [(3, .int 0), (0, .ref (ad 0)), (1, .int x1), (2, .int x2)]) h d_M_parent_66 rfl (by decide) rfl ?_
          refine J_sub [1, 2, 0] rfl ?_
          exact J_M_M_parent_L67 K D A ad cA N h N x1 0 σ6
set_option maxRecDepth 100000 in
theorem cM_M_parent (l : Launch) (D : va_G) (ad : Nat → Nat) (cA : Nat → ClassId) (N : Nat) (x1 : Int32) (x2 : Int32) (σ : SM) (r : Int32) (σ' : SM) (hf : M_M_parent N x1 x2 σ = some (r, σ')) : MetI l y_M_parent ((Cond.code y_M_parent b_M_parent 6 (some .int)) :: tblG) rM_M_parent D clM (tysM cA) (wM ad cA) [.ref (ad 0), .int x1, .int x2] σ r σ' :=
  jx_metI (by decide) rfl (Nat.le_of_ble_eq_true rfl) (fun K A h => J_M_M_parent K D A ad cA N h x1 x2 σ) hf
def rM_M_plain : Room := { frames := 2, cells := 0, slots := 0, locals := 47 }
theorem rm_ok_M_M_plain : rM_M_plain.cells = 0 ∧ rM_M_plain.slots = 0 := ⟨rfl, rfl⟩
def M_M_plain (N : Nat) (x1 : Int32) (σ : SM) : Option (Int32 × SM) := (bd (M_M_isClass x1 σ) (fun (r1 : Int32) (σ2 : SM) => (if r1 = 0 then (some ((-2), σ2)) else (bd (M_M_plainOf N x1 σ2) (fun (r3 : Int32) (σ4 : SM) => (bd (M_M_made r3 σ4) (fun (r5 : Int32) (σ6 : SM) => (some (r5, σ6)))))))))
set_option maxRecDepth 100000 in
set_option maxHeartbeats 4000000 in
theorem J_M_M_plain (K : jx_E) (D : va_G) (A : Nat → Prop) (ad : Nat → Nat) (cA : Nat → ClassId) (N : Nat) (h : jx_ok K D clM (tysM cA) A 2 b_M_plain y_M_plain.cls ((Cond.code y_M_plain b_M_plain 2 (some .int)) :: tblG) rM_M_plain (some .int)) : ∀ (x1 : Int32) (σ : SM), J K D clM A 2 (wM ad cA) (jx_Qi K D clM (tysM cA) (wM ad cA) A) 0 0 0 [(0, .ref (ad 0)), (1, .int x1)] [] σ (M_M_plain N x1 σ) := by
  intro x1 σ
  rw [M_M_plain]
  refine J_aload_n (q := 0) h d_M_plain_0 rfl rfl ?_
  refine J_iload_n (q := 1) h d_M_plain_1 rfl rfl ?_
  refine J_callVi (As := [.int x1]) (st := []) (rmc := rM_M_isClass) (q0 := 0) h (fun _ _ hf => cM_M_isClass (jl K) D ad cA x1 σ _ _ hf) (gd_V q_5_46 q_5_48 q_s_26 q_1_12 q_5_49) rfl ⟨rfl, rfl⟩ dd_M_isClass ⟨Nat.le_of_ble_eq_true rfl, Nat.le_of_ble_eq_true rfl⟩ rfl rfl (wM_0 ad cA σ) rfl rfl (Nat.le_of_ble_eq_true rfl) ⟨Nat.zero_le _, Nat.zero_le _⟩ d_M_plain_2 (fun r1 σ2 => ?_)
  refine J_if_eq (tgt := 20) h d_M_plain_5 (by decide) ?_ ?_
  · refine J_bipush (v := (-2)) h d_M_plain_20 (by decide) ?_
    exact J_iret h rfl d_M_plain_22
  · refine J_aload_n (q := 0) h d_M_plain_8 rfl rfl ?_
    refine J_aload_n (q := 0) h d_M_plain_9 rfl rfl ?_
    refine J_iload_n (q := 1) h d_M_plain_10 rfl rfl ?_
    refine J_callVi (As := [.int x1]) (st := [.ref (ad 0)]) (rmc := rM_M_plainOf) (q0 := 0) h (fun _ _ hf => cM_M_plainOf (jl K) D ad cA N x1 σ2 _ _ hf) (gd_V q_5_70 q_5_72 q_s_31 q_1_12 q_5_73) rfl ⟨rfl, rfl⟩ dd_M_plainOf ⟨Nat.le_of_ble_eq_true rfl, Nat.le_of_ble_eq_true rfl⟩ rfl rfl (wM_0 ad cA σ2) rfl rfl (Nat.le_of_ble_eq_true rfl) ⟨Nat.zero_le _, Nat.zero_le _⟩ d_M_plain_11 (fun r3 σ4 => ?_)
    refine J_callVi (As := [.int r3]) (st := []) (rmc := rM_M_made) (q0 := 0) h (fun _ _ hf => cM_M_made (jl K) D ad cA r3 σ4 _ _ hf) (gd_V q_5_78 q_5_80 q_s_33 q_1_12 q_5_81) rfl ⟨rfl, rfl⟩ dd_M_made ⟨Nat.le_of_ble_eq_true rfl, Nat.le_of_ble_eq_true rfl⟩ rfl rfl (wM_0 ad cA σ4) rfl rfl (Nat.le_of_ble_eq_true rfl) ⟨Nat.zero_le _, Nat.zero_le _⟩ d_M_plain_14 (fun r5 σ6 => ?_)
    refine J_goto (tgt := 22) h d_M_plain_17 (by decide) ?_
    exact J_iret h rfl d_M_plain_22
set_option maxRecDepth 100000 in
theorem cM_M_plain (l : Launch) (D : va_G) (ad : Nat → Nat) (cA : Nat → ClassId) (N : Nat) (x1 : Int32) (σ : SM) (r : Int32) (σ' : SM) (hf : M_M_plain N x1 σ = some (r, σ')) : MetI l y_M_plain ((Cond.code y_M_plain b_M_plain 2 (some .int)) :: tblG) rM_M_plain D clM (tysM cA) (wM ad cA) [.ref (ad 0), .int x1] σ r σ' :=
  jx_metI (by decide) rfl (Nat.le_of_ble_eq_true rfl) (fun K A h => J_M_M_plain K D A ad cA N h x1 σ) hf
def rM_M_isArgument : Room := { frames := 1, cells := 0, slots := 0, locals := 21 }
theorem rm_ok_M_M_isArgument : rM_M_isArgument.cells = 0 ∧ rM_M_isArgument.slots = 0 := ⟨rfl, rfl⟩
def M_M_isArgument (x1 : Int32) (σ : SM) : Option (Int32 × SM) := (bd (M_M_isType x1 σ) (fun (r1 : Int32) (σ2 : SM) => (if r1 = 0 then (some (0, σ2)) else (if ck x1 500 = true then (if (aM_M_kind σ2 x1.toNatClampNeg) = 5 then (some (0, σ2)) else (if ck x1 500 = true then (if (aM_M_kind σ2 x1.toNatClampNeg) = 6 then (some (0, σ2)) else (some (1, σ2))) else none)) else none))))
set_option maxRecDepth 100000 in
set_option maxHeartbeats 4000000 in
theorem J_M_M_isArgument (K : jx_E) (D : va_G) (A : Nat → Prop) (ad : Nat → Nat) (cA : Nat → ClassId) (h : jx_ok K D clM (tysM cA) A 2 b_M_isArgument y_M_isArgument.cls ((Cond.code y_M_isArgument b_M_isArgument 2 (some .boolean)) :: tblG) rM_M_isArgument (some .boolean)) : ∀ (x1 : Int32) (σ : SM), J K D clM A 2 (wM ad cA) (jx_Qi K D clM (tysM cA) (wM ad cA) A) 0 0 0 [(0, .ref (ad 0)), (1, .int x1)] [] σ (M_M_isArgument x1 σ) := by
  intro x1 σ
  rw [M_M_isArgument]
  refine J_aload_n (q := 0) h d_M_isArgument_0 rfl rfl ?_
  refine J_iload_n (q := 1) h d_M_isArgument_1 rfl rfl ?_
  refine J_callVi (As := [.int x1]) (st := []) (rmc := rM_M_isType) (q0 := 0) h (fun _ _ hf => cM_M_isType (jl K) D ad cA x1 σ _ _ hf) (gd_V q_5_54 q_5_56 q_s_28 q_1_12 q_5_57) rfl ⟨rfl, rfl⟩ dd_M_isType ⟨Nat.le_of_ble_eq_true rfl, Nat.le_of_ble_eq_true rfl⟩ rfl rfl (wM_0 ad cA σ) rfl rfl (Nat.le_of_ble_eq_true rfl) ⟨Nat.zero_le _, Nat.zero_le _⟩ d_M_isArgument_2 (fun r1 σ2 => ?_)
  refine J_if_eq (tgt := 33) h d_M_isArgument_5 (by decide) ?_ ?_
  · refine J_iconst (v := 0) h d_M_isArgument_33 (by decide) ?_
    exact J_zret h rfl (by decide) d_M_isArgument_34
  · refine J_aload_n (q := 0) h d_M_isArgument_8 rfl rfl ?_
    refine J_getf h 0 (wM_0 ad cA σ2) (tb_ups in_M) rfl 5 (by decide) (tb_up q_4_87) rfl d_M_isArgument_9 ?_
    refine J_iload_n (q := 1) h d_M_isArgument_12 rfl rfl ?_
    refine J_iald h 5 4 (wM_5 ad cA σ2) rfl d_M_isArgument_13 ?_
    refine J_iconst (v := 5) h d_M_isArgument_14 (by decide) ?_
    refine J_icmp_eq (tgt := 33) h d_M_isArgument_15 (by decide) ?_ ?_
    · refine J_iconst (v := 0) h d_M_isArgument_33 (by decide) ?_
      exact J_zret h rfl (by decide) d_M_isArgument_34
    · refine J_aload_n (q := 0) h d_M_isArgument_18 rfl rfl ?_
      refine J_getf h 0 (wM_0 ad cA σ2) (tb_ups in_M) rfl 5 (by decide) (tb_up q_4_87) rfl d_M_isArgument_19 ?_
      refine J_iload_n (q := 1) h d_M_isArgument_22 rfl rfl ?_
      refine J_iald h 5 4 (wM_5 ad cA σ2) rfl d_M_isArgument_23 ?_
      refine J_bipush (v := 6) h d_M_isArgument_24 (by decide) ?_
      refine J_icmp_eq (tgt := 33) h d_M_isArgument_26 (by decide) ?_ ?_
      · refine J_iconst (v := 0) h d_M_isArgument_33 (by decide) ?_
        exact J_zret h rfl (by decide) d_M_isArgument_34
      · refine J_iconst (v := 1) h d_M_isArgument_29 (by decide) ?_
        refine J_goto (tgt := 34) h d_M_isArgument_30 (by decide) ?_
        exact J_zret h rfl (by decide) d_M_isArgument_34
set_option maxRecDepth 100000 in
theorem cM_M_isArgument (l : Launch) (D : va_G) (ad : Nat → Nat) (cA : Nat → ClassId) (x1 : Int32) (σ : SM) (r : Int32) (σ' : SM) (hf : M_M_isArgument x1 σ = some (r, σ')) : MetI l y_M_isArgument ((Cond.code y_M_isArgument b_M_isArgument 2 (some .boolean)) :: tblG) rM_M_isArgument D clM (tysM cA) (wM ad cA) [.ref (ad 0), .int x1] σ r σ' :=
  jx_metI (by decide) rfl (Nat.le_of_ble_eq_true rfl) (fun K A h => J_M_M_isArgument K D A ad cA h x1 σ) hf
def rM_M_of : Room := { frames := 2, cells := 0, slots := 0, locals := 42 }
theorem rm_ok_M_M_of : rM_M_of.cells = 0 ∧ rM_M_of.slots = 0 := ⟨rfl, rfl⟩
def M_M_of_b66 (N : Nat) (s0 : Int32) (s1 : Int32) (s2 : Int32) (s3 : Int32) (σ : SM) : Option (Int32 × SM) := (bd (M_M_make N s3 s2 s1 s0 σ) (fun (r7 : Int32) (σ8 : SM) => (bd (M_M_made r7 σ8) (fun (r9 : Int32) (σ10 : SM) => (some (r9, σ10))))))
set_option maxRecDepth 100000 in
set_option maxHeartbeats 4000000 in
theorem J_M_M_of_b66 (K : jx_E) (D : va_G) (A : Nat → Prop) (ad : Nat → Nat) (cA : Nat → ClassId) (N : Nat) (h : jx_ok K D clM (tysM cA) A 4 b_M_of y_M_of.cls ((Cond.code y_M_of b_M_of 4 (some .int)) :: tblG) rM_M_of (some .int)) : ∀ (s0 : Int32) (s1 : Int32) (s2 : Int32) (s3 : Int32) (σ : SM), J K D clM A 4 (wM ad cA) (jx_Qi K D clM (tysM cA) (wM ad cA) A) 0 0 66 [] [.int s0, .int s1, .int s2, .int s3, .ref (ad 0), .ref (ad 0)] σ (M_M_of_b66 N s0 s1 s2 s3 σ) := by
  intro s0 s1 s2 s3 σ
  rw [M_M_of_b66]
  refine J_callVi (As := [.int s3, .int s2, .int s1, .int s0]) (st := [.ref (ad 0)]) (rmc := rM_M_make) (q0 := 0) h (fun _ _ hf => cM_M_make (jl K) D ad cA N s3 s2 s1 s0 σ _ _ hf) (gd_V q_5_74 q_5_76 q_s_32 q_1_12 q_5_77) rfl ⟨rfl, rfl⟩ dd_M_make ⟨Nat.le_of_ble_eq_true rfl, Nat.le_of_ble_eq_true rfl⟩ rfl rfl (wM_0 ad cA σ) rfl rfl (Nat.le_of_ble_eq_true rfl) ⟨Nat.zero_le _, Nat.zero_le _⟩ d_M_of_66 (fun r7 σ8 => ?_)
  refine J_callVi (As := [.int r7]) (st := []) (rmc := rM_M_made) (q0 := 0) h (fun _ _ hf => cM_M_made (jl K) D ad cA r7 σ8 _ _ hf) (gd_V q_5_78 q_5_80 q_s_33 q_1_12 q_5_81) rfl ⟨rfl, rfl⟩ dd_M_made ⟨Nat.le_of_ble_eq_true rfl, Nat.le_of_ble_eq_true rfl⟩ rfl rfl (wM_0 ad cA σ8) rfl rfl (Nat.le_of_ble_eq_true rfl) ⟨Nat.zero_le _, Nat.zero_le _⟩ d_M_of_69 (fun r9 σ10 => ?_)
  exact J_iret h rfl d_M_of_72
def M_M_of_b46 (N : Nat) (v1 : Int32) (v2 : Int32) (v3 : Int32) (σ : SM) : Option (Int32 × SM) := (if ck v1 40 = true then (if (aM_M_parameters σ v1.toNatClampNeg) = 2 then (M_M_of_b66 N v3 v2 v1 1 σ) else (M_M_of_b66 N (-1) v2 v1 1 σ)) else none)
set_option maxRecDepth 100000 in
set_option maxHeartbeats 4000000 in
theorem J_M_M_of_b46 (K : jx_E) (D : va_G) (A : Nat → Prop) (ad : Nat → Nat) (cA : Nat → ClassId) (N : Nat) (h : jx_ok K D clM (tysM cA) A 4 b_M_of y_M_of.cls ((Cond.code y_M_of b_M_of 4 (some .int)) :: tblG) rM_M_of (some .int)) : ∀ (v1 : Int32) (v2 : Int32) (v3 : Int32) (σ : SM), J K D clM A 4 (wM ad cA) (jx_Qi K D clM (tysM cA) (wM ad cA) A) 0 0 46 [(0, .ref (ad 0)), (1, .int v1), (2, .int v2), (3, .int v3)] [] σ (M_M_of_b46 N v1 v2 v3 σ) := by
  intro v1 v2 v3 σ
  rw [M_M_of_b46]
  refine J_aload_n (q := 0) h d_M_of_46 rfl rfl ?_
  refine J_aload_n (q := 0) h d_M_of_47 rfl rfl ?_
  refine J_iconst (v := 1) h d_M_of_48 (by decide) ?_
  refine J_iload_n (q := 1) h d_M_of_49 rfl rfl ?_
  refine J_iload_n (q := 2) h d_M_of_50 rfl rfl ?_
  refine J_aload_n (q := 0) h d_M_of_51 rfl rfl ?_
  refine J_getf h 0 (wM_0 ad cA σ) (tb_ups in_M) rfl 0 (by decide) (tb_up q_4_82) rfl d_M_of_52 ?_
  refine J_iload_n (q := 1) h d_M_of_55 rfl rfl ?_
  refine J_iald h 1 0 (wM_1 ad cA σ) rfl d_M_of_56 ?_
  refine J_iconst (v := 2) h d_M_of_57 (by decide) ?_
  refine J_icmp_ne (tgt := 65) h d_M_of_58 (by decide) ?_ ?_
  · refine J_iload_n (q := 3) h d_M_of_61 rfl rfl ?_
    refine J_goto (tgt := 66) h d_M_of_62 (by decide) ?_
    refine J_sub [] rfl ?_
    exact J_M_M_of_b66 K D A ad cA N h v3 v2 v1 1 σ
  · refine J_iconst (v := (-1)) h d_M_of_65 (by decide) ?_
    refine J_sub [] rfl ?_
    exact J_M_M_of_b66 K D A ad cA N h (-1) v2 v1 1 σ
def M_M_of (N : Nat) (x1 : Int32) (x2 : Int32) (x3 : Int32) (σ : SM) : Option (Int32 × SM) := (bd (M_M_isClass x1 σ) (fun (r1 : Int32) (σ2 : SM) => (if r1 = 0 then (some ((-2), σ2)) else (if ck x1 40 = true then (if (aM_M_parameters σ2 x1.toNatClampNeg) = 0 then (some ((-2), σ2)) else (bd (M_M_isArgument x2 σ2) (fun (r3 : Int32) (σ4 : SM) => (if r3 = 0 then (some ((-2), σ4)) else (if ck x1 40 = true then (if (aM_M_parameters σ4 x1.toNatClampNeg) = 2 then (bd (M_M_isArgument x3 σ4) (fun (r5 : Int32) (σ6 : SM) => (if r5 = 0 then (some ((-2), σ6)) else (M_M_of_b46 N x1 x2 x3 σ6)))) else (M_M_of_b46 N x1 x2 x3 σ4)) else none))))) else none))))
set_option maxRecDepth 100000 in
set_option maxHeartbeats 4000000 in
theorem J_M_M_of (K : jx_E) (D : va_G) (A : Nat → Prop) (ad : Nat → Nat) (cA : Nat → ClassId) (N : Nat) (h : jx_ok K D clM (tysM cA) A 4 b_M_of y_M_of.cls ((Cond.code y_M_of b_M_of 4 (some .int)) :: tblG) rM_M_of (some .int)) : ∀ (x1 : Int32) (x2 : Int32) (x3 : Int32) (σ : SM), J K D clM A 4 (wM ad cA) (jx_Qi K D clM (tysM cA) (wM ad cA) A) 0 0 0 [(0, .ref (ad 0)), (1, .int x1), (2, .int x2), (3, .int x3)] [] σ (M_M_of N x1 x2 x3 σ) := by
  intro x1 x2 x3 σ
  rw [M_M_of]
  refine J_aload_n (q := 0) h d_M_of_0 rfl rfl ?_
  refine J_iload_n (q := 1) h d_M_of_1 rfl rfl ?_
  refine J_callVi (As := [.int x1]) (st := []) (rmc := rM_M_isClass) (q0 := 0) h (fun _ _ hf => cM_M_isClass (jl K) D ad cA x1 σ _ _ hf) (gd_V q_5_46 q_5_48 q_s_26 q_1_12 q_5_49) rfl ⟨rfl, rfl⟩ dd_M_isClass ⟨Nat.le_of_ble_eq_true rfl, Nat.le_of_ble_eq_true rfl⟩ rfl rfl (wM_0 ad cA σ) rfl rfl (Nat.le_of_ble_eq_true rfl) ⟨Nat.zero_le _, Nat.zero_le _⟩ d_M_of_2 (fun r1 σ2 => ?_)
  refine J_if_eq (tgt := 43) h d_M_of_5 (by decide) ?_ ?_
  · refine J_bipush (v := (-2)) h d_M_of_43 (by decide) ?_
    exact J_iret h rfl d_M_of_45
  · refine J_aload_n (q := 0) h d_M_of_8 rfl rfl ?_
    refine J_getf h 0 (wM_0 ad cA σ2) (tb_ups in_M) rfl 0 (by decide) (tb_up q_4_82) rfl d_M_of_9 ?_
    refine J_iload_n (q := 1) h d_M_of_12 rfl rfl ?_
    refine J_iald h 1 0 (wM_1 ad cA σ2) rfl d_M_of_13 ?_
    refine J_if_eq (tgt := 43) h d_M_of_14 (by decide) ?_ ?_
    · refine J_bipush (v := (-2)) h d_M_of_43 (by decide) ?_
      exact J_iret h rfl d_M_of_45
    · refine J_aload_n (q := 0) h d_M_of_17 rfl rfl ?_
      refine J_iload_n (q := 2) h d_M_of_18 rfl rfl ?_
      refine J_callVi (As := [.int x2]) (st := []) (rmc := rM_M_isArgument) (q0 := 0) h (fun _ _ hf => cM_M_isArgument (jl K) D ad cA x2 σ2 _ _ hf) (gd_V q_5_86 q_5_88 q_s_34 q_1_12 q_5_89) rfl ⟨rfl, rfl⟩ dd_M_isArgument ⟨Nat.le_of_ble_eq_true rfl, Nat.le_of_ble_eq_true rfl⟩ rfl rfl (wM_0 ad cA σ2) rfl rfl (Nat.le_of_ble_eq_true rfl) ⟨Nat.zero_le _, Nat.zero_le _⟩ d_M_of_19 (fun r3 σ4 => ?_)
      refine J_if_eq (tgt := 43) h d_M_of_22 (by decide) ?_ ?_
      · refine J_bipush (v := (-2)) h d_M_of_43 (by decide) ?_
        exact J_iret h rfl d_M_of_45
      · refine J_aload_n (q := 0) h d_M_of_25 rfl rfl ?_
        refine J_getf h 0 (wM_0 ad cA σ4) (tb_ups in_M) rfl 0 (by decide) (tb_up q_4_82) rfl d_M_of_26 ?_
        refine J_iload_n (q := 1) h d_M_of_29 rfl rfl ?_
        refine J_iald h 1 0 (wM_1 ad cA σ4) rfl d_M_of_30 ?_
        refine J_iconst (v := 2) h d_M_of_31 (by decide) ?_
        refine J_icmp_ne (tgt := 46) h d_M_of_32 (by decide) ?_ ?_
        · refine J_aload_n (q := 0) h d_M_of_35 rfl rfl ?_
          refine J_iload_n (q := 3) h d_M_of_36 rfl rfl ?_
          refine J_callVi (As := [.int x3]) (st := []) (rmc := rM_M_isArgument) (q0 := 0) h (fun _ _ hf => cM_M_isArgument (jl K) D ad cA x3 σ4 _ _ hf) (gd_V q_5_86 q_5_88 q_s_34 q_1_12 q_5_89) rfl ⟨rfl, rfl⟩ dd_M_isArgument ⟨Nat.le_of_ble_eq_true rfl, Nat.le_of_ble_eq_true rfl⟩ rfl rfl (wM_0 ad cA σ4) rfl rfl (Nat.le_of_ble_eq_true rfl) ⟨Nat.zero_le _, Nat.zero_le _⟩ d_M_of_37 (fun r5 σ6 => ?_)
          refine J_if_ne (tgt := 46) h d_M_of_40 (by decide) ?_ ?_
          · refine J_bipush (v := (-2)) h d_M_of_43 (by decide) ?_
            exact J_iret h rfl d_M_of_45
          · exact J_M_M_of_b46 K D A ad cA N h x1 x2 x3 σ6
        · exact J_M_M_of_b46 K D A ad cA N h x1 x2 x3 σ4
set_option maxRecDepth 100000 in
theorem cM_M_of (l : Launch) (D : va_G) (ad : Nat → Nat) (cA : Nat → ClassId) (N : Nat) (x1 : Int32) (x2 : Int32) (x3 : Int32) (σ : SM) (r : Int32) (σ' : SM) (hf : M_M_of N x1 x2 x3 σ = some (r, σ')) : MetI l y_M_of ((Cond.code y_M_of b_M_of 4 (some .int)) :: tblG) rM_M_of D clM (tysM cA) (wM ad cA) [.ref (ad 0), .int x1, .int x2, .int x3] σ r σ' :=
  jx_metI (by decide) rfl (Nat.le_of_ble_eq_true rfl) (fun K A h => J_M_M_of K D A ad cA N h x1 x2 x3 σ) hf
def rM_M_wild : Room := { frames := 2, cells := 0, slots := 0, locals := 42 }
theorem rm_ok_M_M_wild : rM_M_wild.cells = 0 ∧ rM_M_wild.slots = 0 := ⟨rfl, rfl⟩
def M_M_wild_b47 (N : Nat) (s0 : Int32) (s1 : Int32) (s2 : Int32) (σ : SM) : Option (Int32 × SM) := (bd (M_M_make N s2 s1 s0 (-1) σ) (fun (r1 : Int32) (σ2 : SM) => (bd (M_M_made r1 σ2) (fun (r3 : Int32) (σ4 : SM) => (some (r3, σ4))))))
set_option maxRecDepth 100000 in
set_option maxHeartbeats 4000000 in
theorem J_M_M_wild_b47 (K : jx_E) (D : va_G) (A : Nat → Prop) (ad : Nat → Nat) (cA : Nat → ClassId) (N : Nat) (h : jx_ok K D clM (tysM cA) A 3 b_M_wild y_M_wild.cls ((Cond.code y_M_wild b_M_wild 3 (some .int)) :: tblG) rM_M_wild (some .int)) : ∀ (s0 : Int32) (s1 : Int32) (s2 : Int32) (σ : SM), J K D clM A 3 (wM ad cA) (jx_Qi K D clM (tysM cA) (wM ad cA) A) 0 0 47 [] [.int s0, .int s1, .int s2, .ref (ad 0), .ref (ad 0)] σ (M_M_wild_b47 N s0 s1 s2 σ) := by
  intro s0 s1 s2 σ
  rw [M_M_wild_b47]
  refine J_iconst (v := (-1)) h d_M_wild_47 (by decide) ?_
  refine J_callVi (As := [.int s2, .int s1, .int s0, .int (-1)]) (st := [.ref (ad 0)]) (rmc := rM_M_make) (q0 := 0) h (fun _ _ hf => cM_M_make (jl K) D ad cA N s2 s1 s0 (-1) σ _ _ hf) (gd_V q_5_74 q_5_76 q_s_32 q_1_12 q_5_77) rfl ⟨rfl, rfl⟩ dd_M_make ⟨Nat.le_of_ble_eq_true rfl, Nat.le_of_ble_eq_true rfl⟩ rfl rfl (wM_0 ad cA σ) rfl rfl (Nat.le_of_ble_eq_true rfl) ⟨Nat.zero_le _, Nat.zero_le _⟩ d_M_wild_48 (fun r1 σ2 => ?_)
  refine J_callVi (As := [.int r1]) (st := []) (rmc := rM_M_made) (q0 := 0) h (fun _ _ hf => cM_M_made (jl K) D ad cA r1 σ2 _ _ hf) (gd_V q_5_78 q_5_80 q_s_33 q_1_12 q_5_81) rfl ⟨rfl, rfl⟩ dd_M_made ⟨Nat.le_of_ble_eq_true rfl, Nat.le_of_ble_eq_true rfl⟩ rfl rfl (wM_0 ad cA σ2) rfl rfl (Nat.le_of_ble_eq_true rfl) ⟨Nat.zero_le _, Nat.zero_le _⟩ d_M_wild_51 (fun r3 σ4 => ?_)
  exact J_iret h rfl d_M_wild_54
def M_M_wild_b34 (N : Nat) (v1 : Int32) (v2 : Int32) (σ : SM) : Option (Int32 × SM) := (if v1 = 0 then (M_M_wild_b47 N (-1) v1 2 σ) else (M_M_wild_b47 N v2 v1 2 σ))
set_option maxRecDepth 100000 in
set_option maxHeartbeats 4000000 in
theorem J_M_M_wild_b34 (K : jx_E) (D : va_G) (A : Nat → Prop) (ad : Nat → Nat) (cA : Nat → ClassId) (N : Nat) (h : jx_ok K D clM (tysM cA) A 3 b_M_wild y_M_wild.cls ((Cond.code y_M_wild b_M_wild 3 (some .int)) :: tblG) rM_M_wild (some .int)) : ∀ (v1 : Int32) (v2 : Int32) (σ : SM), J K D clM A 3 (wM ad cA) (jx_Qi K D clM (tysM cA) (wM ad cA) A) 0 0 34 [(0, .ref (ad 0)), (1, .int v1), (2, .int v2)] [] σ (M_M_wild_b34 N v1 v2 σ) := by
  intro v1 v2 σ
  rw [M_M_wild_b34]
  refine J_aload_n (q := 0) h d_M_wild_34 rfl rfl ?_
  refine J_aload_n (q := 0) h d_M_wild_35 rfl rfl ?_
  refine J_iconst (v := 2) h d_M_wild_36 (by decide) ?_
  refine J_iload_n (q := 1) h d_M_wild_37 rfl rfl ?_
  refine J_iload_n (q := 1) h d_M_wild_38 rfl rfl ?_
  refine J_if_ne (tgt := 46) h d_M_wild_39 (by decide) ?_ ?_
  · refine J_iconst (v := (-1)) h d_M_wild_42 (by decide) ?_
    refine J_goto (tgt := 47) h d_M_wild_43 (by decide) ?_
    refine J_sub [] rfl ?_
    exact J_M_M_wild_b47 K D A ad cA N h (-1) v1 2 σ
  · refine J_iload_n (q := 2) h d_M_wild_46 rfl rfl ?_
    refine J_sub [] rfl ?_
    exact J_M_M_wild_b47 K D A ad cA N h v2 v1 2 σ
def M_M_wild (N : Nat) (x1 : Int32) (x2 : Int32) (σ : SM) : Option (Int32 × SM) := (if x1 < 0 then (some ((-2), σ)) else (if (2 : Int32) < x1 then (some ((-2), σ)) else (if x1 ≤ 0 then (M_M_wild_b34 N x1 x2 σ) else (bd (M_M_isArgument x2 σ) (fun (r5 : Int32) (σ6 : SM) => (if r5 = 0 then (some ((-2), σ6)) else (if ck x2 500 = true then (if (aM_M_kind σ6 x2.toNatClampNeg) = 2 then (some ((-2), σ6)) else (M_M_wild_b34 N x1 x2 σ6)) else none)))))))
set_option maxRecDepth 100000 in
set_option maxHeartbeats 4000000 in
theorem J_M_M_wild (K : jx_E) (D : va_G) (A : Nat → Prop) (ad : Nat → Nat) (cA : Nat → ClassId) (N : Nat) (h : jx_ok K D clM (tysM cA) A 3 b_M_wild y_M_wild.cls ((Cond.code y_M_wild b_M_wild 3 (some .int)) :: tblG) rM_M_wild (some .int)) : ∀ (x1 : Int32) (x2 : Int32) (σ : SM), J K D clM A 3 (wM ad cA) (jx_Qi K D clM (tysM cA) (wM ad cA) A) 0 0 0 [(0, .ref (ad 0)), (1, .int x1), (2, .int x2)] [] σ (M_M_wild N x1 x2 σ) := by
  intro x1 x2 σ
  rw [M_M_wild]
  refine J_iload_n (q := 1) h d_M_wild_0 rfl rfl ?_
  refine J_if_lt (tgt := 31) h d_M_wild_1 (by decide) ?_ ?_
  · refine J_bipush (v := (-2)) h d_M_wild_31 (by decide) ?_
    exact J_iret h rfl d_M_wild_33
  · refine J_iload_n (q := 1) h d_M_wild_4 rfl rfl ?_
    refine J_iconst (v := 2) h d_M_wild_5 (by decide) ?_
    refine J_icmp_gt (tgt := 31) h d_M_wild_6 (by decide) ?_ ?_
    · refine J_bipush (v := (-2)) h d_M_wild_31 (by decide) ?_
      exact J_iret h rfl d_M_wild_33
    · refine J_iload_n (q := 1) h d_M_wild_9 rfl rfl ?_
      refine J_if_le (tgt := 34) h d_M_wild_10 (by decide) ?_ ?_
      · exact J_M_M_wild_b34 K D A ad cA N h x1 x2 σ
      · refine J_aload_n (q := 0) h d_M_wild_13 rfl rfl ?_
        refine J_iload_n (q := 2) h d_M_wild_14 rfl rfl ?_
        refine J_callVi (As := [.int x2]) (st := []) (rmc := rM_M_isArgument) (q0 := 0) h (fun _ _ hf => cM_M_isArgument (jl K) D ad cA x2 σ _ _ hf) (gd_V q_5_86 q_5_88 q_s_34 q_1_12 q_5_89) rfl ⟨rfl, rfl⟩ dd_M_isArgument ⟨Nat.le_of_ble_eq_true rfl, Nat.le_of_ble_eq_true rfl⟩ rfl rfl (wM_0 ad cA σ) rfl rfl (Nat.le_of_ble_eq_true rfl) ⟨Nat.zero_le _, Nat.zero_le _⟩ d_M_wild_15 (fun r5 σ6 => ?_)
        refine J_if_eq (tgt := 31) h d_M_wild_18 (by decide) ?_ ?_
        · refine J_bipush (v := (-2)) h d_M_wild_31 (by decide) ?_
          exact J_iret h rfl d_M_wild_33
        · refine J_aload_n (q := 0) h d_M_wild_21 rfl rfl ?_
          refine J_getf h 0 (wM_0 ad cA σ6) (tb_ups in_M) rfl 5 (by decide) (tb_up q_4_87) rfl d_M_wild_22 ?_
          refine J_iload_n (q := 2) h d_M_wild_25 rfl rfl ?_
          refine J_iald h 5 4 (wM_5 ad cA σ6) rfl d_M_wild_26 ?_
          refine J_iconst (v := 2) h d_M_wild_27 (by decide) ?_
          refine J_icmp_ne (tgt := 34) h d_M_wild_28 (by decide) ?_ ?_
          · refine J_bipush (v := (-2)) h d_M_wild_31 (by decide) ?_
            exact J_iret h rfl d_M_wild_33
          · exact J_M_M_wild_b34 K D A ad cA N h x1 x2 σ6
set_option maxRecDepth 100000 in
theorem cM_M_wild (l : Launch) (D : va_G) (ad : Nat → Nat) (cA : Nat → ClassId) (N : Nat) (x1 : Int32) (x2 : Int32) (σ : SM) (r : Int32) (σ' : SM) (hf : M_M_wild N x1 x2 σ = some (r, σ')) : MetI l y_M_wild ((Cond.code y_M_wild b_M_wild 3 (some .int)) :: tblG) rM_M_wild D clM (tysM cA) (wM ad cA) [.ref (ad 0), .int x1, .int x2] σ r σ' :=
  jx_metI (by decide) rfl (Nat.le_of_ble_eq_true rfl) (fun K A h => J_M_M_wild K D A ad cA N h x1 x2 σ) hf
def rM_M_parameter : Room := { frames := 1, cells := 0, slots := 0, locals := 26 }
theorem rm_ok_M_M_parameter : rM_M_parameter.cells = 0 ∧ rM_M_parameter.slots = 0 := ⟨rfl, rfl⟩
def M_M_parameter (N : Nat) (x1 : Int32) (x2 : Int32) (σ : SM) : Option (Int32 × SM) := (bd (M_M_isClass x1 σ) (fun (r1 : Int32) (σ2 : SM) => (if r1 = 0 then (some ((-2), σ2)) else (if x2 < 0 then (some ((-2), σ2)) else (if ck x1 40 = true then (if (aM_M_parameters σ2 x1.toNatClampNeg) ≤ x2 then (some ((-2), σ2)) else (bd (M_M_make N 3 x1 x2 (-1) σ2) (fun (r3 : Int32) (σ4 : SM) => (bd (M_M_made r3 σ4) (fun (r5 : Int32) (σ6 : SM) => (some (r5, σ6))))))) else none)))))
set_option maxRecDepth 100000 in
set_option maxHeartbeats 4000000 in
theorem J_M_M_parameter (K : jx_E) (D : va_G) (A : Nat → Prop) (ad : Nat → Nat) (cA : Nat → ClassId) (N : Nat) (h : jx_ok K D clM (tysM cA) A 3 b_M_parameter y_M_parameter.cls ((Cond.code y_M_parameter b_M_parameter 3 (some .int)) :: tblG) rM_M_parameter (some .int)) : ∀ (x1 : Int32) (x2 : Int32) (σ : SM), J K D clM A 3 (wM ad cA) (jx_Qi K D clM (tysM cA) (wM ad cA) A) 0 0 0 [(0, .ref (ad 0)), (1, .int x1), (2, .int x2)] [] σ (M_M_parameter N x1 x2 σ) := by
  intro x1 x2 σ
  rw [M_M_parameter]
  refine J_aload_n (q := 0) h d_M_parameter_0 rfl rfl ?_
  refine J_iload_n (q := 1) h d_M_parameter_1 rfl rfl ?_
  refine J_callVi (As := [.int x1]) (st := []) (rmc := rM_M_isClass) (q0 := 0) h (fun _ _ hf => cM_M_isClass (jl K) D ad cA x1 σ _ _ hf) (gd_V q_5_46 q_5_48 q_s_26 q_1_12 q_5_49) rfl ⟨rfl, rfl⟩ dd_M_isClass ⟨Nat.le_of_ble_eq_true rfl, Nat.le_of_ble_eq_true rfl⟩ rfl rfl (wM_0 ad cA σ) rfl rfl (Nat.le_of_ble_eq_true rfl) ⟨Nat.zero_le _, Nat.zero_le _⟩ d_M_parameter_2 (fun r1 σ2 => ?_)
  refine J_if_eq (tgt := 37) h d_M_parameter_5 (by decide) ?_ ?_
  · refine J_bipush (v := (-2)) h d_M_parameter_37 (by decide) ?_
    exact J_iret h rfl d_M_parameter_39
  · refine J_iload_n (q := 2) h d_M_parameter_8 rfl rfl ?_
    refine J_if_lt (tgt := 37) h d_M_parameter_9 (by decide) ?_ ?_
    · refine J_bipush (v := (-2)) h d_M_parameter_37 (by decide) ?_
      exact J_iret h rfl d_M_parameter_39
    · refine J_iload_n (q := 2) h d_M_parameter_12 rfl rfl ?_
      refine J_aload_n (q := 0) h d_M_parameter_13 rfl rfl ?_
      refine J_getf h 0 (wM_0 ad cA σ2) (tb_ups in_M) rfl 0 (by decide) (tb_up q_4_82) rfl d_M_parameter_14 ?_
      refine J_iload_n (q := 1) h d_M_parameter_17 rfl rfl ?_
      refine J_iald h 1 0 (wM_1 ad cA σ2) rfl d_M_parameter_18 ?_
      refine J_icmp_ge (tgt := 37) h d_M_parameter_19 (by decide) ?_ ?_
      · refine J_bipush (v := (-2)) h d_M_parameter_37 (by decide) ?_
        exact J_iret h rfl d_M_parameter_39
      · refine J_aload_n (q := 0) h d_M_parameter_22 rfl rfl ?_
        refine J_aload_n (q := 0) h d_M_parameter_23 rfl rfl ?_
        refine J_iconst (v := 3) h d_M_parameter_24 (by decide) ?_
        refine J_iload_n (q := 1) h d_M_parameter_25 rfl rfl ?_
        refine J_iload_n (q := 2) h d_M_parameter_26 rfl rfl ?_
        refine J_iconst (v := (-1)) h d_M_parameter_27 (by decide) ?_
        refine J_callVi (As := [.int 3, .int x1, .int x2, .int (-1)]) (st := [.ref (ad 0)]) (rmc := rM_M_make) (q0 := 0) h (fun _ _ hf => cM_M_make (jl K) D ad cA N 3 x1 x2 (-1) σ2 _ _ hf) (gd_V q_5_74 q_5_76 q_s_32 q_1_12 q_5_77) rfl ⟨rfl, rfl⟩ dd_M_make ⟨Nat.le_of_ble_eq_true rfl, Nat.le_of_ble_eq_true rfl⟩ rfl rfl (wM_0 ad cA σ2) rfl rfl (Nat.le_of_ble_eq_true rfl) ⟨Nat.zero_le _, Nat.zero_le _⟩ d_M_parameter_28 (fun r3 σ4 => ?_)
        refine J_callVi (As := [.int r3]) (st := []) (rmc := rM_M_made) (q0 := 0) h (fun _ _ hf => cM_M_made (jl K) D ad cA r3 σ4 _ _ hf) (gd_V q_5_78 q_5_80 q_s_33 q_1_12 q_5_81) rfl ⟨rfl, rfl⟩ dd_M_made ⟨Nat.le_of_ble_eq_true rfl, Nat.le_of_ble_eq_true rfl⟩ rfl rfl (wM_0 ad cA σ4) rfl rfl (Nat.le_of_ble_eq_true rfl) ⟨Nat.zero_le _, Nat.zero_le _⟩ d_M_parameter_31 (fun r5 σ6 => ?_)
        refine J_goto (tgt := 39) h d_M_parameter_34 (by decide) ?_
        exact J_iret h rfl d_M_parameter_39
set_option maxRecDepth 100000 in
theorem cM_M_parameter (l : Launch) (D : va_G) (ad : Nat → Nat) (cA : Nat → ClassId) (N : Nat) (x1 : Int32) (x2 : Int32) (σ : SM) (r : Int32) (σ' : SM) (hf : M_M_parameter N x1 x2 σ = some (r, σ')) : MetI l y_M_parameter ((Cond.code y_M_parameter b_M_parameter 3 (some .int)) :: tblG) rM_M_parameter D clM (tysM cA) (wM ad cA) [.ref (ad 0), .int x1, .int x2] σ r σ' :=
  jx_metI (by decide) rfl (Nat.le_of_ble_eq_true rfl) (fun K A h => J_M_M_parameter K D A ad cA N h x1 x2 σ) hf
def rM_M_array : Room := { frames := 1, cells := 0, slots := 0, locals := 26 }
theorem rm_ok_M_M_array : rM_M_array.cells = 0 ∧ rM_M_array.slots = 0 := ⟨rfl, rfl⟩
def M_M_array (N : Nat) (x1 : Int32) (σ : SM) : Option (Int32 × SM) := (bd (M_M_isType x1 σ) (fun (r1 : Int32) (σ2 : SM) => (if r1 = 0 then (some ((-2), σ2)) else (if ck x1 500 = true then (if (aM_M_kind σ2 x1.toNatClampNeg) = 2 then (some ((-2), σ2)) else (if ck x1 500 = true then (if (aM_M_kind σ2 x1.toNatClampNeg) = 6 then (some ((-2), σ2)) else (bd (M_M_make N 4 x1 (-1) (-1) σ2) (fun (r3 : Int32) (σ4 : SM) => (bd (M_M_made r3 σ4) (fun (r5 : Int32) (σ6 : SM) => (some (r5, σ6))))))) else none)) else none))))
set_option maxRecDepth 100000 in
set_option maxHeartbeats 4000000 in
theorem J_M_M_array (K : jx_E) (D : va_G) (A : Nat → Prop) (ad : Nat → Nat) (cA : Nat → ClassId) (N : Nat) (h : jx_ok K D clM (tysM cA) A 2 b_M_array y_M_array.cls ((Cond.code y_M_array b_M_array 2 (some .int)) :: tblG) rM_M_array (some .int)) : ∀ (x1 : Int32) (σ : SM), J K D clM A 2 (wM ad cA) (jx_Qi K D clM (tysM cA) (wM ad cA) A) 0 0 0 [(0, .ref (ad 0)), (1, .int x1)] [] σ (M_M_array N x1 σ) := by
  intro x1 σ
  rw [M_M_array]
  refine J_aload_n (q := 0) h d_M_array_0 rfl rfl ?_
  refine J_iload_n (q := 1) h d_M_array_1 rfl rfl ?_
  refine J_callVi (As := [.int x1]) (st := []) (rmc := rM_M_isType) (q0 := 0) h (fun _ _ hf => cM_M_isType (jl K) D ad cA x1 σ _ _ hf) (gd_V q_5_54 q_5_56 q_s_28 q_1_12 q_5_57) rfl ⟨rfl, rfl⟩ dd_M_isType ⟨Nat.le_of_ble_eq_true rfl, Nat.le_of_ble_eq_true rfl⟩ rfl rfl (wM_0 ad cA σ) rfl rfl (Nat.le_of_ble_eq_true rfl) ⟨Nat.zero_le _, Nat.zero_le _⟩ d_M_array_2 (fun r1 σ2 => ?_)
  refine J_if_eq (tgt := 44) h d_M_array_5 (by decide) ?_ ?_
  · refine J_bipush (v := (-2)) h d_M_array_44 (by decide) ?_
    exact J_iret h rfl d_M_array_46
  · refine J_aload_n (q := 0) h d_M_array_8 rfl rfl ?_
    refine J_getf h 0 (wM_0 ad cA σ2) (tb_ups in_M) rfl 5 (by decide) (tb_up q_4_87) rfl d_M_array_9 ?_
    refine J_iload_n (q := 1) h d_M_array_12 rfl rfl ?_
    refine J_iald h 5 4 (wM_5 ad cA σ2) rfl d_M_array_13 ?_
    refine J_iconst (v := 2) h d_M_array_14 (by decide) ?_
    refine J_icmp_eq (tgt := 44) h d_M_array_15 (by decide) ?_ ?_
    · refine J_bipush (v := (-2)) h d_M_array_44 (by decide) ?_
      exact J_iret h rfl d_M_array_46
    · refine J_aload_n (q := 0) h d_M_array_18 rfl rfl ?_
      refine J_getf h 0 (wM_0 ad cA σ2) (tb_ups in_M) rfl 5 (by decide) (tb_up q_4_87) rfl d_M_array_19 ?_
      refine J_iload_n (q := 1) h d_M_array_22 rfl rfl ?_
      refine J_iald h 5 4 (wM_5 ad cA σ2) rfl d_M_array_23 ?_
      refine J_bipush (v := 6) h d_M_array_24 (by decide) ?_
      refine J_icmp_eq (tgt := 44) h d_M_array_26 (by decide) ?_ ?_
      · refine J_bipush (v := (-2)) h d_M_array_44 (by decide) ?_
        exact J_iret h rfl d_M_array_46
      · refine J_aload_n (q := 0) h d_M_array_29 rfl rfl ?_
        refine J_aload_n (q := 0) h d_M_array_30 rfl rfl ?_
        refine J_iconst (v := 4) h d_M_array_31 (by decide) ?_
        refine J_iload_n (q := 1) h d_M_array_32 rfl rfl ?_
        refine J_iconst (v := (-1)) h d_M_array_33 (by decide) ?_
        refine J_iconst (v := (-1)) h d_M_array_34 (by decide) ?_
        refine J_callVi (As := [.int 4, .int x1, .int (-1), .int (-1)]) (st := [.ref (ad 0)]) (rmc := rM_M_make) (q0 := 0) h (fun _ _ hf => cM_M_make (jl K) D ad cA N 4 x1 (-1) (-1) σ2 _ _ hf) (gd_V q_5_74 q_5_76 q_s_32 q_1_12 q_5_77) rfl ⟨rfl, rfl⟩ dd_M_make ⟨Nat.le_of_ble_eq_true rfl, Nat.le_of_ble_eq_true rfl⟩ rfl rfl (wM_0 ad cA σ2) rfl rfl (Nat.le_of_ble_eq_true rfl) ⟨Nat.zero_le _, Nat.zero_le _⟩ d_M_array_35 (fun r3 σ4 => ?_)
        refine J_callVi (As := [.int r3]) (st := []) (rmc := rM_M_made) (q0 := 0) h (fun _ _ hf => cM_M_made (jl K) D ad cA r3 σ4 _ _ hf) (gd_V q_5_78 q_5_80 q_s_33 q_1_12 q_5_81) rfl ⟨rfl, rfl⟩ dd_M_made ⟨Nat.le_of_ble_eq_true rfl, Nat.le_of_ble_eq_true rfl⟩ rfl rfl (wM_0 ad cA σ4) rfl rfl (Nat.le_of_ble_eq_true rfl) ⟨Nat.zero_le _, Nat.zero_le _⟩ d_M_array_38 (fun r5 σ6 => ?_)
        refine J_goto (tgt := 46) h d_M_array_41 (by decide) ?_
        exact J_iret h rfl d_M_array_46
set_option maxRecDepth 100000 in
theorem cM_M_array (l : Launch) (D : va_G) (ad : Nat → Nat) (cA : Nat → ClassId) (N : Nat) (x1 : Int32) (σ : SM) (r : Int32) (σ' : SM) (hf : M_M_array N x1 σ = some (r, σ')) : MetI l y_M_array ((Cond.code y_M_array b_M_array 2 (some .int)) :: tblG) rM_M_array D clM (tysM cA) (wM ad cA) [.ref (ad 0), .int x1] σ r σ' :=
  jx_metI (by decide) rfl (Nat.le_of_ble_eq_true rfl) (fun K A h => J_M_M_array K D A ad cA N h x1 σ) hf
def rM_M_primitive : Room := { frames := 1, cells := 0, slots := 0, locals := 26 }
theorem rm_ok_M_M_primitive : rM_M_primitive.cells = 0 ∧ rM_M_primitive.slots = 0 := ⟨rfl, rfl⟩
def M_M_primitive (N : Nat) (x1 : Int32) (σ : SM) : Option (Int32 × SM) := (if x1 < 0 then (some ((-2), σ)) else (if x1 ≤ 7 then (bd (M_M_make N 5 x1 (-1) (-1) σ) (fun (r1 : Int32) (σ2 : SM) => (bd (M_M_made r1 σ2) (fun (r3 : Int32) (σ4 : SM) => (some (r3, σ4)))))) else (some ((-2), σ))))
set_option maxRecDepth 100000 in
set_option maxHeartbeats 4000000 in
theorem J_M_M_primitive (K : jx_E) (D : va_G) (A : Nat → Prop) (ad : Nat → Nat) (cA : Nat → ClassId) (N : Nat) (h : jx_ok K D clM (tysM cA) A 2 b_M_primitive y_M_primitive.cls ((Cond.code y_M_primitive b_M_primitive 2 (some .int)) :: tblG) rM_M_primitive (some .int)) : ∀ (x1 : Int32) (σ : SM), J K D clM A 2 (wM ad cA) (jx_Qi K D clM (tysM cA) (wM ad cA) A) 0 0 0 [(0, .ref (ad 0)), (1, .int x1)] [] σ (M_M_primitive N x1 σ) := by
  intro x1 σ
  rw [M_M_primitive]
  refine J_iload_n (q := 1) h d_M_primitive_0 rfl rfl ?_
  refine J_if_lt (tgt := 10) h d_M_primitive_1 (by decide) ?_ ?_
  · refine J_bipush (v := (-2)) h d_M_primitive_10 (by decide) ?_
    refine J_goto (tgt := 27) h d_M_primitive_12 (by decide) ?_
    exact J_iret h rfl d_M_primitive_27
  · refine J_iload_n (q := 1) h d_M_primitive_4 rfl rfl ?_
    refine J_bipush (v := 7) h d_M_primitive_5 (by decide) ?_
    refine J_icmp_le (tgt := 15) h d_M_primitive_7 (by decide) ?_ ?_
    · refine J_aload_n (q := 0) h d_M_primitive_15 rfl rfl ?_
      refine J_aload_n (q := 0) h d_M_primitive_16 rfl rfl ?_
      refine J_iconst (v := 5) h d_M_primitive_17 (by decide) ?_
      refine J_iload_n (q := 1) h d_M_primitive_18 rfl rfl ?_
      refine J_iconst (v := (-1)) h d_M_primitive_19 (by decide) ?_
      refine J_iconst (v := (-1)) h d_M_primitive_20 (by decide) ?_
      refine J_callVi (As := [.int 5, .int x1, .int (-1), .int (-1)]) (st := [.ref (ad 0)]) (rmc := rM_M_make) (q0 := 0) h (fun _ _ hf => cM_M_make (jl K) D ad cA N 5 x1 (-1) (-1) σ _ _ hf) (gd_V q_5_74 q_5_76 q_s_32 q_1_12 q_5_77) rfl ⟨rfl, rfl⟩ dd_M_make ⟨Nat.le_of_ble_eq_true rfl, Nat.le_of_ble_eq_true rfl⟩ rfl rfl (wM_0 ad cA σ) rfl rfl (Nat.le_of_ble_eq_true rfl) ⟨Nat.zero_le _, Nat.zero_le _⟩ d_M_primitive_21 (fun r1 σ2 => ?_)
      refine J_callVi (As := [.int r1]) (st := []) (rmc := rM_M_made) (q0 := 0) h (fun _ _ hf => cM_M_made (jl K) D ad cA r1 σ2 _ _ hf) (gd_V q_5_78 q_5_80 q_s_33 q_1_12 q_5_81) rfl ⟨rfl, rfl⟩ dd_M_made ⟨Nat.le_of_ble_eq_true rfl, Nat.le_of_ble_eq_true rfl⟩ rfl rfl (wM_0 ad cA σ2) rfl rfl (Nat.le_of_ble_eq_true rfl) ⟨Nat.zero_le _, Nat.zero_le _⟩ d_M_primitive_24 (fun r3 σ4 => ?_)
      exact J_iret h rfl d_M_primitive_27
    · refine J_bipush (v := (-2)) h d_M_primitive_10 (by decide) ?_
      refine J_goto (tgt := 27) h d_M_primitive_12 (by decide) ?_
      exact J_iret h rfl d_M_primitive_27
set_option maxRecDepth 100000 in
theorem cM_M_primitive (l : Launch) (D : va_G) (ad : Nat → Nat) (cA : Nat → ClassId) (N : Nat) (x1 : Int32) (σ : SM) (r : Int32) (σ' : SM) (hf : M_M_primitive N x1 σ = some (r, σ')) : MetI l y_M_primitive ((Cond.code y_M_primitive b_M_primitive 2 (some .int)) :: tblG) rM_M_primitive D clM (tysM cA) (wM ad cA) [.ref (ad 0), .int x1] σ r σ' :=
  jx_metI (by decide) rfl (Nat.le_of_ble_eq_true rfl) (fun K A h => J_M_M_primitive K D A ad cA N h x1 σ) hf
def rM_M_nothing : Room := { frames := 1, cells := 0, slots := 0, locals := 26 }
theorem rm_ok_M_M_nothing : rM_M_nothing.cells = 0 ∧ rM_M_nothing.slots = 0 := ⟨rfl, rfl⟩
def M_M_nothing (N : Nat)  (σ : SM) : Option (Int32 × SM) := (bd (M_M_make N 6 0 (-1) (-1) σ) (fun (r1 : Int32) (σ2 : SM) => (bd (M_M_made r1 σ2) (fun (r3 : Int32) (σ4 : SM) => (some (r3, σ4))))))
set_option maxRecDepth 100000 in
set_option maxHeartbeats 4000000 in
theorem J_M_M_nothing (K : jx_E) (D : va_G) (A : Nat → Prop) (ad : Nat → Nat) (cA : Nat → ClassId) (N : Nat) (h : jx_ok K D clM (tysM cA) A 1 b_M_nothing y_M_nothing.cls ((Cond.code y_M_nothing b_M_nothing 1 (some .int)) :: tblG) rM_M_nothing (some .int)) : ∀  (σ : SM), J K D clM A 1 (wM ad cA) (jx_Qi K D clM (tysM cA) (wM ad cA) A) 0 0 0 [(0, .ref (ad 0))] [] σ (M_M_nothing N  σ) := by
  intro  σ
  rw [M_M_nothing]
  refine J_aload_n (q := 0) h d_M_nothing_0 rfl rfl ?_
  refine J_aload_n (q := 0) h d_M_nothing_1 rfl rfl ?_
  refine J_bipush (v := 6) h d_M_nothing_2 (by decide) ?_
  refine J_iconst (v := 0) h d_M_nothing_4 (by decide) ?_
  refine J_iconst (v := (-1)) h d_M_nothing_5 (by decide) ?_
  refine J_iconst (v := (-1)) h d_M_nothing_6 (by decide) ?_
  refine J_callVi (As := [.int 6, .int 0, .int (-1), .int (-1)]) (st := [.ref (ad 0)]) (rmc := rM_M_make) (q0 := 0) h (fun _ _ hf => cM_M_make (jl K) D ad cA N 6 0 (-1) (-1) σ _ _ hf) (gd_V q_5_74 q_5_76 q_s_32 q_1_12 q_5_77) rfl ⟨rfl, rfl⟩ dd_M_make ⟨Nat.le_of_ble_eq_true rfl, Nat.le_of_ble_eq_true rfl⟩ rfl rfl (wM_0 ad cA σ) rfl rfl (Nat.le_of_ble_eq_true rfl) ⟨Nat.zero_le _, Nat.zero_le _⟩ d_M_nothing_7 (fun r1 σ2 => ?_)
  refine J_callVi (As := [.int r1]) (st := []) (rmc := rM_M_made) (q0 := 0) h (fun _ _ hf => cM_M_made (jl K) D ad cA r1 σ2 _ _ hf) (gd_V q_5_78 q_5_80 q_s_33 q_1_12 q_5_81) rfl ⟨rfl, rfl⟩ dd_M_made ⟨Nat.le_of_ble_eq_true rfl, Nat.le_of_ble_eq_true rfl⟩ rfl rfl (wM_0 ad cA σ2) rfl rfl (Nat.le_of_ble_eq_true rfl) ⟨Nat.zero_le _, Nat.zero_le _⟩ d_M_nothing_10 (fun r3 σ4 => ?_)
  exact J_iret h rfl d_M_nothing_13
set_option maxRecDepth 100000 in
theorem cM_M_nothing (l : Launch) (D : va_G) (ad : Nat → Nat) (cA : Nat → ClassId) (N : Nat)  (σ : SM) (r : Int32) (σ' : SM) (hf : M_M_nothing N  σ = some (r, σ')) : MetI l y_M_nothing ((Cond.code y_M_nothing b_M_nothing 1 (some .int)) :: tblG) rM_M_nothing D clM (tysM cA) (wM ad cA) [.ref (ad 0)] σ r σ' :=
  jx_metI (by decide) rfl (Nat.le_of_ble_eq_true rfl) (fun K A h => J_M_M_nothing K D A ad cA N h  σ) hf
def rM_M_variable : Room := { frames := 1, cells := 0, slots := 0, locals := 26 }
theorem rm_ok_M_M_variable : rM_M_variable.cells = 0 ∧ rM_M_variable.slots = 0 := ⟨rfl, rfl⟩
def M_M_variable (N : Nat)  (σ : SM) : Option (Int32 × SM) := (if (gM_M_variables σ) = 12 then (some ((-3), σ)) else (bd (M_M_make N 7 (gM_M_variables σ) (-1) (-1) σ) (fun (r1 : Int32) (σ2 : SM) => (bd (M_M_made r1 σ2) (fun (r3 : Int32) (σ4 : SM) => (if r3 = (-3) then (nm (sM_M_variables σ4 ((gM_M_variables σ4) + 0)) (fun (σ5 : SM) => (some (r3, σ5)))) else (nm (sM_M_variables σ4 ((gM_M_variables σ4) + 1)) (fun (σ6 : SM) => (some (r3, σ6))))))))))
set_option maxRecDepth 100000 in
set_option maxHeartbeats 4000000 in
theorem J_M_M_variable (K : jx_E) (D : va_G) (A : Nat → Prop) (ad : Nat → Nat) (cA : Nat → ClassId) (N : Nat) (h : jx_ok K D clM (tysM cA) A 2 b_M_variable y_M_variable.cls ((Cond.code y_M_variable b_M_variable 2 (some .int)) :: tblG) rM_M_variable (some .int)) : ∀  (σ : SM), J K D clM A 2 (wM ad cA) (jx_Qi K D clM (tysM cA) (wM ad cA) A) 0 0 0 [(0, .ref (ad 0))] [] σ (M_M_variable N  σ) := by
  intro  σ
  rw [M_M_variable]
  refine J_aload_n (q := 0) h d_M_variable_0 rfl rfl ?_
  refine J_getf h 0 (wM_0 ad cA σ) (tb_ups in_M) rfl 17 (by decide) (tb_up q_4_99) rfl d_M_variable_1 ?_
  refine J_bipush (v := 12) h d_M_variable_4 (by decide) ?_
  refine J_icmp_ne (tgt := 12) h d_M_variable_6 (by decide) ?_ ?_
  · refine J_bipush (v := (-3)) h d_M_variable_9 (by decide) ?_
    exact J_iret h rfl d_M_variable_11
  · refine J_aload_n (q := 0) h d_M_variable_12 rfl rfl ?_
    refine J_aload_n (q := 0) h d_M_variable_13 rfl rfl ?_
    refine J_bipush (v := 7) h d_M_variable_14 (by decide) ?_
    refine J_aload_n (q := 0) h d_M_variable_16 rfl rfl ?_
    refine J_getf h 0 (wM_0 ad cA σ) (tb_ups in_M) rfl 17 (by decide) (tb_up q_4_99) rfl d_M_variable_17 ?_
    refine J_iconst (v := (-1)) h d_M_variable_20 (by decide) ?_
    refine J_iconst (v := (-1)) h d_M_variable_21 (by decide) ?_
    refine J_callVi (As := [.int 7, .int (gM_M_variables σ), .int (-1), .int (-1)]) (st := [.ref (ad 0)]) (rmc := rM_M_make) (q0 := 0) h (fun _ _ hf => cM_M_make (jl K) D ad cA N 7 (gM_M_variables σ) (-1) (-1) σ _ _ hf) (gd_V q_5_74 q_5_76 q_s_32 q_1_12 q_5_77) rfl ⟨rfl, rfl⟩ dd_M_make ⟨Nat.le_of_ble_eq_true rfl, Nat.le_of_ble_eq_true rfl⟩ rfl rfl (wM_0 ad cA σ) rfl rfl (Nat.le_of_ble_eq_true rfl) ⟨Nat.zero_le _, Nat.zero_le _⟩ d_M_variable_22 (fun r1 σ2 => ?_)
    refine J_callVi (As := [.int r1]) (st := []) (rmc := rM_M_made) (q0 := 0) h (fun _ _ hf => cM_M_made (jl K) D ad cA r1 σ2 _ _ hf) (gd_V q_5_78 q_5_80 q_s_33 q_1_12 q_5_81) rfl ⟨rfl, rfl⟩ dd_M_made ⟨Nat.le_of_ble_eq_true rfl, Nat.le_of_ble_eq_true rfl⟩ rfl rfl (wM_0 ad cA σ2) rfl rfl (Nat.le_of_ble_eq_true rfl) ⟨Nat.zero_le _, Nat.zero_le _⟩ d_M_variable_25 (fun r3 σ4 => ?_)
    refine J_istore_n (lv' := [(1, .int r3), (0, .ref (ad 0))]) h d_M_variable_28 rfl (by decide) rfl ?_
    refine J_aload_n (q := 1) h d_M_variable_29 rfl rfl ?_
    refine J_dup h d_M_variable_30 rfl ?_
    refine J_getf h 0 (wM_0 ad cA σ4) (tb_ups in_M) rfl 17 (by decide) (tb_up q_4_99) rfl d_M_variable_31 ?_
    refine J_iload_n (q := 0) h d_M_variable_34 rfl rfl ?_
    refine J_bipush (v := (-3)) h d_M_variable_35 (by decide) ?_
    refine J_icmp_ne (tgt := 44) h d_M_variable_37 (by decide) ?_ ?_
    · refine J_iconst (v := 0) h d_M_variable_40 (by decide) ?_
      refine J_goto (tgt := 45) h d_M_variable_41 (by decide) ?_
      refine J_iadd h d_M_variable_45 ?_
      refine J_putf h 0 (wM_0 ad cA σ4) (tb_ups in_M) rfl ft_M ft_M_ok nm_M 17 (by decide) (tb_up q_4_99) rfl rfl rfl (Nat.le_of_ble_eq_true rfl) (pM_0_17 ad cA σ4 ((gM_M_variables σ4) + 0)) d_M_variable_46 (fun σ5 => ?_)
      refine J_iload_n (q := 0) h d_M_variable_49 rfl rfl ?_
      exact J_iret h rfl d_M_variable_50
    · refine J_iconst (v := 1) h d_M_variable_44 (by decide) ?_
      refine J_iadd h d_M_variable_45 ?_
      refine J_putf h 0 (wM_0 ad cA σ4) (tb_ups in_M) rfl ft_M ft_M_ok nm_M 17 (by decide) (tb_up q_4_99) rfl rfl rfl (Nat.le_of_ble_eq_true rfl) (pM_0_17 ad cA σ4 ((gM_M_variables σ4) + 1)) d_M_variable_46 (fun σ6 => ?_)
      refine J_iload_n (q := 0) h d_M_variable_49 rfl rfl ?_
      exact J_iret h rfl d_M_variable_50
set_option maxRecDepth 100000 in
theorem cM_M_variable (l : Launch) (D : va_G) (ad : Nat → Nat) (cA : Nat → ClassId) (N : Nat)  (σ : SM) (r : Int32) (σ' : SM) (hf : M_M_variable N  σ = some (r, σ')) : MetI l y_M_variable ((Cond.code y_M_variable b_M_variable 2 (some .int)) :: tblG) rM_M_variable D clM (tysM cA) (wM ad cA) [.ref (ad 0)] σ r σ' :=
  jx_metI (by decide) rfl (Nat.le_of_ble_eq_true rfl) (fun K A h => J_M_M_variable K D A ad cA N h  σ) hf
def rM_M_inPlaceOf : Room := { frames := 1, cells := 0, slots := 0, locals := 26 }
theorem rm_ok_M_M_inPlaceOf : rM_M_inPlaceOf.cells = 0 ∧ rM_M_inPlaceOf.slots = 0 := ⟨rfl, rfl⟩
def M_M_inPlaceOf_b186 (N : Nat) (v1 : Int32) (s0 : Int32) (σ : SM) : Option (Int32 × SM) := (if s0 = 0 then (some (v1, σ)) else (some ((-1), σ)))
set_option maxRecDepth 100000 in
set_option maxHeartbeats 4000000 in
theorem J_M_M_inPlaceOf_b186 (K : jx_E) (D : va_G) (A : Nat → Prop) (ad : Nat → Nat) (cA : Nat → ClassId) (N : Nat) (h : jx_ok K D clM (tysM cA) A 4 b_M_inPlaceOf y_M_inPlaceOf.cls ((Cond.code y_M_inPlaceOf b_M_inPlaceOf 4 (some .int)) :: tblG) rM_M_inPlaceOf (some .int)) : ∀ (v1 : Int32) (s0 : Int32) (σ : SM), J K D clM A 4 (wM ad cA) (jx_Qi K D clM (tysM cA) (wM ad cA) A) 0 0 186 [(1, .int v1)] [.int s0] σ (M_M_inPlaceOf_b186 N v1 s0 σ) := by
  intro v1 s0 σ
  rw [M_M_inPlaceOf_b186]
  refine J_istore_n (lv' := [(3, .int s0), (1, .int v1)]) h d_M_inPlaceOf_186 rfl (by decide) rfl ?_
  refine J_iload_n (q := 0) h d_M_inPlaceOf_187 rfl rfl ?_
  refine J_if_eq (tgt := 195) h d_M_inPlaceOf_188 (by decide) ?_ ?_
  · refine J_iload_n (q := 1) h d_M_inPlaceOf_195 rfl rfl ?_
    exact J_iret h rfl d_M_inPlaceOf_196
  · refine J_iconst (v := (-1)) h d_M_inPlaceOf_191 (by decide) ?_
    refine J_goto (tgt := 196) h d_M_inPlaceOf_192 (by decide) ?_
    exact J_iret h rfl d_M_inPlaceOf_196
def M_M_inPlaceOf_b181 (N : Nat) (v1 : Int32) (σ : SM) : Option (Int32 × SM) := (M_M_inPlaceOf_b186 N v1 1 σ)
set_option maxRecDepth 100000 in
set_option maxHeartbeats 4000000 in
theorem J_M_M_inPlaceOf_b181 (K : jx_E) (D : va_G) (A : Nat → Prop) (ad : Nat → Nat) (cA : Nat → ClassId) (N : Nat) (h : jx_ok K D clM (tysM cA) A 4 b_M_inPlaceOf y_M_inPlaceOf.cls ((Cond.code y_M_inPlaceOf b_M_inPlaceOf 4 (some .int)) :: tblG) rM_M_inPlaceOf (some .int)) : ∀ (v1 : Int32) (σ : SM), J K D clM A 4 (wM ad cA) (jx_Qi K D clM (tysM cA) (wM ad cA) A) 0 0 181 [(1, .int v1)] [] σ (M_M_inPlaceOf_b181 N v1 σ) := by
  intro v1 σ
  rw [M_M_inPlaceOf_b181]
  refine J_iconst (v := 1) h d_M_inPlaceOf_181 (by decide) ?_
  refine J_goto (tgt := 186) h d_M_inPlaceOf_182 (by decide) ?_
  exact J_M_M_inPlaceOf_b186 K D A ad cA N h v1 1 σ
def M_M_inPlaceOf_b185 (N : Nat) (v1 : Int32) (σ : SM) : Option (Int32 × SM) := (M_M_inPlaceOf_b186 N v1 0 σ)
set_option maxRecDepth 100000 in
set_option maxHeartbeats 4000000 in
theorem J_M_M_inPlaceOf_b185 (K : jx_E) (D : va_G) (A : Nat → Prop) (ad : Nat → Nat) (cA : Nat → ClassId) (N : Nat) (h : jx_ok K D clM (tysM cA) A 4 b_M_inPlaceOf y_M_inPlaceOf.cls ((Cond.code y_M_inPlaceOf b_M_inPlaceOf 4 (some .int)) :: tblG) rM_M_inPlaceOf (some .int)) : ∀ (v1 : Int32) (σ : SM), J K D clM A 4 (wM ad cA) (jx_Qi K D clM (tysM cA) (wM ad cA) A) 0 0 185 [(1, .int v1)] [] σ (M_M_inPlaceOf_b185 N v1 σ) := by
  intro v1 σ
  rw [M_M_inPlaceOf_b185]
  refine J_iconst (v := 0) h d_M_inPlaceOf_185 (by decide) ?_
  exact J_M_M_inPlaceOf_b186 K D A ad cA N h v1 0 σ
def M_M_inPlaceOf_b131 (N : Nat) (v1 : Int32) (σ : SM) : Option (Int32 × SM) := (if ck v1 500 = true then (if (aM_M_kind σ v1.toNatClampNeg) = 1 then (M_M_inPlaceOf_b181 N v1 σ) else (if ck v1 500 = true then (if (aM_M_kind σ v1.toNatClampNeg) = 4 then (M_M_inPlaceOf_b181 N v1 σ) else (if ck v1 500 = true then (if (aM_M_kind σ v1.toNatClampNeg) = 8 then (M_M_inPlaceOf_b181 N v1 σ) else (if ck v1 500 = true then (if (aM_M_kind σ v1.toNatClampNeg) = 2 then (if ck v1 500 = true then (if (aM_M_one σ v1.toNatClampNeg) ≤ 0 then (M_M_inPlaceOf_b185 N v1 σ) else (M_M_inPlaceOf_b181 N v1 σ)) else none) else (M_M_inPlaceOf_b185 N v1 σ)) else none)) else none)) else none)) else none)
set_option maxRecDepth 100000 in
set_option maxHeartbeats 4000000 in
theorem J_M_M_inPlaceOf_b131 (K : jx_E) (D : va_G) (A : Nat → Prop) (ad : Nat → Nat) (cA : Nat → ClassId) (N : Nat) (h : jx_ok K D clM (tysM cA) A 4 b_M_inPlaceOf y_M_inPlaceOf.cls ((Cond.code y_M_inPlaceOf b_M_inPlaceOf 4 (some .int)) :: tblG) rM_M_inPlaceOf (some .int)) : ∀ (v1 : Int32) (σ : SM), J K D clM A 4 (wM ad cA) (jx_Qi K D clM (tysM cA) (wM ad cA) A) 0 0 131 [(0, .ref (ad 0)), (1, .int v1)] [] σ (M_M_inPlaceOf_b131 N v1 σ) := by
  intro v1 σ
  rw [M_M_inPlaceOf_b131]
  refine J_aload_n (q := 0) h d_M_inPlaceOf_131 rfl rfl ?_
  refine J_getf h 0 (wM_0 ad cA σ) (tb_ups in_M) rfl 5 (by decide) (tb_up q_4_87) rfl d_M_inPlaceOf_132 ?_
  refine J_iload_n (q := 1) h d_M_inPlaceOf_135 rfl rfl ?_
  refine J_iald h 5 4 (wM_5 ad cA σ) rfl d_M_inPlaceOf_136 ?_
  refine J_iconst (v := 1) h d_M_inPlaceOf_137 (by decide) ?_
  refine J_icmp_eq (tgt := 181) h d_M_inPlaceOf_138 (by decide) ?_ ?_
  · refine J_sub [1] rfl ?_
    exact J_M_M_inPlaceOf_b181 K D A ad cA N h v1 σ
  · refine J_aload_n (q := 0) h d_M_inPlaceOf_141 rfl rfl ?_
    refine J_getf h 0 (wM_0 ad cA σ) (tb_ups in_M) rfl 5 (by decide) (tb_up q_4_87) rfl d_M_inPlaceOf_142 ?_
    refine J_iload_n (q := 1) h d_M_inPlaceOf_145 rfl rfl ?_
    refine J_iald h 5 4 (wM_5 ad cA σ) rfl d_M_inPlaceOf_146 ?_
    refine J_iconst (v := 4) h d_M_inPlaceOf_147 (by decide) ?_
    refine J_icmp_eq (tgt := 181) h d_M_inPlaceOf_148 (by decide) ?_ ?_
    · refine J_sub [1] rfl ?_
      exact J_M_M_inPlaceOf_b181 K D A ad cA N h v1 σ
    · refine J_aload_n (q := 0) h d_M_inPlaceOf_151 rfl rfl ?_
      refine J_getf h 0 (wM_0 ad cA σ) (tb_ups in_M) rfl 5 (by decide) (tb_up q_4_87) rfl d_M_inPlaceOf_152 ?_
      refine J_iload_n (q := 1) h d_M_inPlaceOf_155 rfl rfl ?_
      refine J_iald h 5 4 (wM_5 ad cA σ) rfl d_M_inPlaceOf_156 ?_
      refine J_bipush (v := 8) h d_M_inPlaceOf_157 (by decide) ?_
      refine J_icmp_eq (tgt := 181) h d_M_inPlaceOf_159 (by decide) ?_ ?_
      · refine J_sub [1] rfl ?_
        exact J_M_M_inPlaceOf_b181 K D A ad cA N h v1 σ
      · refine J_aload_n (q := 0) h d_M_inPlaceOf_162 rfl rfl ?_
        refine J_getf h 0 (wM_0 ad cA σ) (tb_ups in_M) rfl 5 (by decide) (tb_up q_4_87) rfl d_M_inPlaceOf_163 ?_
        refine J_iload_n (q := 1) h d_M_inPlaceOf_166 rfl rfl ?_
        refine J_iald h 5 4 (wM_5 ad cA σ) rfl d_M_inPlaceOf_167 ?_
        refine J_iconst (v := 2) h d_M_inPlaceOf_168 (by decide) ?_
        refine J_icmp_ne (tgt := 185) h d_M_inPlaceOf_169 (by decide) ?_ ?_
        · refine J_aload_n (q := 0) h d_M_inPlaceOf_172 rfl rfl ?_
          refine J_getf h 0 (wM_0 ad cA σ) (tb_ups in_M) rfl 6 (by decide) (tb_up q_4_88) rfl d_M_inPlaceOf_173 ?_
          refine J_iload_n (q := 1) h d_M_inPlaceOf_176 rfl rfl ?_
          refine J_iald h 6 5 (wM_6 ad cA σ) rfl d_M_inPlaceOf_177 ?_
          refine J_if_le (tgt := 185) h d_M_inPlaceOf_178 (by decide) ?_ ?_
          · refine J_sub [1] rfl ?_
            exact J_M_M_inPlaceOf_b185 K D A ad cA N h v1 σ
          · refine J_sub [1] rfl ?_
            exact J_M_M_inPlaceOf_b181 K D A ad cA N h v1 σ
        · refine J_sub [1] rfl ?_
          exact J_M_M_inPlaceOf_b185 K D A ad cA N h v1 σ
def M_M_inPlaceOf_b84 (N : Nat) (v1 : Int32) (v2 : Int32) (σ : SM) : Option (Int32 × SM) := (if ck v1 500 = true then (if (aM_M_kind σ v1.toNatClampNeg) = 7 then (if v2 = (-1) then (if ck v1 500 = true then (if ck (aM_M_one σ v1.toNatClampNeg) 12 = true then (if (aM_M_inPlace σ (aM_M_one σ v1.toNatClampNeg).toNatClampNeg) = (-1) then (some (v1, σ)) else (if ck v1 500 = true then (if ck (aM_M_one σ v1.toNatClampNeg) 12 = true then (some ((aM_M_inPlace σ (aM_M_one σ v1.toNatClampNeg).toNatClampNeg), σ)) else none) else none)) else none) else none) else (M_M_inPlaceOf_b131 N v1 σ)) else (M_M_inPlaceOf_b131 N v1 σ)) else none)
set_option maxRecDepth 100000 in
set_option maxHeartbeats 4000000 in
theorem J_M_M_inPlaceOf_b84 (K : jx_E) (D : va_G) (A : Nat → Prop) (ad : Nat → Nat) (cA : Nat → ClassId) (N : Nat) (h : jx_ok K D clM (tysM cA) A 4 b_M_inPlaceOf y_M_inPlaceOf.cls ((Cond.code y_M_inPlaceOf b_M_inPlaceOf 4 (some .int)) :: tblG) rM_M_inPlaceOf (some .int)) : ∀ (v1 : Int32) (v2 : Int32) (σ : SM), J K D clM A 4 (wM ad cA) (jx_Qi K D clM (tysM cA) (wM ad cA) A) 0 0 84 [(0, .ref (ad 0)), (1, .int v1), (2, .int v2)] [] σ (M_M_inPlaceOf_b84 N v1 v2 σ) := by
  intro v1 v2 σ
  rw [M_M_inPlaceOf_b84]
  refine J_aload_n (q := 0) h d_M_inPlaceOf_84 rfl rfl ?_
  refine J_getf h 0 (wM_0 ad cA σ) (tb_ups in_M) rfl 5 (by decide) (tb_up q_4_87) rfl d_M_inPlaceOf_85 ?_
  refine J_iload_n (q := 1) h d_M_inPlaceOf_88 rfl rfl ?_
  refine J_iald h 5 4 (wM_5 ad cA σ) rfl d_M_inPlaceOf_89 ?_
  refine J_bipush (v := 7) h d_M_inPlaceOf_90 (by decide) ?_
  refine J_icmp_ne (tgt := 131) h d_M_inPlaceOf_92 (by decide) ?_ ?_
  · refine J_iload_n (q := 2) h d_M_inPlaceOf_95 rfl rfl ?_
    refine J_iconst (v := (-1)) h d_M_inPlaceOf_96 (by decide) ?_
    refine J_icmp_ne (tgt := 131) h d_M_inPlaceOf_97 (by decide) ?_ ?_
    · refine J_aload_n (q := 0) h d_M_inPlaceOf_100 rfl rfl ?_
      refine J_getf h 0 (wM_0 ad cA σ) (tb_ups in_M) rfl 21 (by decide) (tb_up q_4_103) rfl d_M_inPlaceOf_101 ?_
      refine J_aload_n (q := 0) h d_M_inPlaceOf_104 rfl rfl ?_
      refine J_getf h 0 (wM_0 ad cA σ) (tb_ups in_M) rfl 6 (by decide) (tb_up q_4_88) rfl d_M_inPlaceOf_105 ?_
      refine J_iload_n (q := 1) h d_M_inPlaceOf_108 rfl rfl ?_
      refine J_iald h 6 5 (wM_6 ad cA σ) rfl d_M_inPlaceOf_109 ?_
      refine J_iald h 17 16 (wM_17 ad cA σ) rfl d_M_inPlaceOf_110 ?_
      refine J_iconst (v := (-1)) h d_M_inPlaceOf_111 (by decide) ?_
      refine J_icmp_ne (tgt := 119) h d_M_inPlaceOf_112 (by decide) ?_ ?_
      · refine J_iload_n (q := 1) h d_M_inPlaceOf_115 rfl rfl ?_
        refine J_goto (tgt := 130) h d_M_inPlaceOf_116 (by decide) ?_
        exact J_iret h rfl d_M_inPlaceOf_130
      · refine J_aload_n (q := 0) h d_M_inPlaceOf_119 rfl rfl ?_
        refine J_getf h 0 (wM_0 ad cA σ) (tb_ups in_M) rfl 21 (by decide) (tb_up q_4_103) rfl d_M_inPlaceOf_120 ?_
        refine J_aload_n (q := 0) h d_M_inPlaceOf_123 rfl rfl ?_
        refine J_getf h 0 (wM_0 ad cA σ) (tb_ups in_M) rfl 6 (by decide) (tb_up q_4_88) rfl d_M_inPlaceOf_124 ?_
        refine J_iload_n (q := 1) h d_M_inPlaceOf_127 rfl rfl ?_
        refine J_iald h 6 5 (wM_6 ad cA σ) rfl d_M_inPlaceOf_128 ?_
        refine J_iald h 17 16 (wM_17 ad cA σ) rfl d_M_inPlaceOf_129 ?_
        exact J_iret h rfl d_M_inPlaceOf_130
    · refine J_sub [0, 1] rfl ?_
      exact J_M_M_inPlaceOf_b131 K D A ad cA N h v1 σ
  · refine J_sub [0, 1] rfl ?_
    exact J_M_M_inPlaceOf_b131 K D A ad cA N h v1 σ
def M_M_inPlaceOf_b54 (N : Nat) (v1 : Int32) (v2 : Int32) (s0 : Int32) (σ : SM) : Option (Int32 × SM) := (if ck s0 500 = true then (if (aM_M_kind σ s0.toNatClampNeg) = 2 then (if ck v1 500 = true then (bd (M_M_make N 8 v2 (aM_M_two σ v1.toNatClampNeg) (-1) σ) (fun (r1 : Int32) (σ2 : SM) => (some (r1, σ2)))) else none) else (some (s0, σ))) else none)
set_option maxRecDepth 100000 in
set_option maxHeartbeats 4000000 in
theorem J_M_M_inPlaceOf_b54 (K : jx_E) (D : va_G) (A : Nat → Prop) (ad : Nat → Nat) (cA : Nat → ClassId) (N : Nat) (h : jx_ok K D clM (tysM cA) A 4 b_M_inPlaceOf y_M_inPlaceOf.cls ((Cond.code y_M_inPlaceOf b_M_inPlaceOf 4 (some .int)) :: tblG) rM_M_inPlaceOf (some .int)) : ∀ (v1 : Int32) (v2 : Int32) (s0 : Int32) (σ : SM), J K D clM A 4 (wM ad cA) (jx_Qi K D clM (tysM cA) (wM ad cA) A) 0 0 54 [(0, .ref (ad 0)), (1, .int v1), (2, .int v2)] [.int s0] σ (M_M_inPlaceOf_b54 N v1 v2 s0 σ) := by
  intro v1 v2 s0 σ
  rw [M_M_inPlaceOf_b54]
  refine J_istore_n (lv' := [(3, .int s0), (0, .ref (ad 0)), (1, .int v1), (2, .int v2)]) h d_M_inPlaceOf_54 rfl (by decide) rfl ?_
  refine J_aload_n (q := 1) h d_M_inPlaceOf_55 rfl rfl ?_
  refine J_getf h 0 (wM_0 ad cA σ) (tb_ups in_M) rfl 5 (by decide) (tb_up q_4_87) rfl d_M_inPlaceOf_56 ?_
  refine J_iload_n (q := 0) h d_M_inPlaceOf_59 rfl rfl ?_
  refine J_iald h 5 4 (wM_5 ad cA σ) rfl d_M_inPlaceOf_60 ?_
  refine J_iconst (v := 2) h d_M_inPlaceOf_61 (by decide) ?_
  refine J_icmp_ne (tgt := 82) h d_M_inPlaceOf_62 (by decide) ?_ ?_
  · refine J_aload_n (q := 1) h d_M_inPlaceOf_65 rfl rfl ?_
    refine J_bipush (v := 8) h d_M_inPlaceOf_66 (by decide) ?_
    refine J_iload_n (q := 3) h d_M_inPlaceOf_68 rfl rfl ?_
    refine J_aload_n (q := 1) h d_M_inPlaceOf_69 rfl rfl ?_
    refine J_getf h 0 (wM_0 ad cA σ) (tb_ups in_M) rfl 7 (by decide) (tb_up q_4_89) rfl d_M_inPlaceOf_70 ?_
    refine J_iload_n (q := 2) h d_M_inPlaceOf_73 rfl rfl ?_
    refine J_iald h 7 6 (wM_7 ad cA σ) rfl d_M_inPlaceOf_74 ?_
    refine J_iconst (v := (-1)) h d_M_inPlaceOf_75 (by decide) ?_
    refine J_callVi (As := [.int 8, .int v2, .int (aM_M_two σ v1.toNatClampNeg), .int (-1)]) (st := []) (rmc := rM_M_make) (q0 := 0) h (fun _ _ hf => cM_M_make (jl K) D ad cA N 8 v2 (aM_M_two σ v1.toNatClampNeg) (-1) σ _ _ hf) (gd_V q_5_74 q_5_76 q_s_32 q_1_12 q_5_77) rfl ⟨rfl, rfl⟩ dd_M_make ⟨Nat.le_of_ble_eq_true rfl, Nat.le_of_ble_eq_true rfl⟩ rfl rfl (wM_0 ad cA σ) rfl rfl (Nat.le_of_ble_eq_true rfl) ⟨Nat.zero_le _, Nat.zero_le _⟩ d_M_inPlaceOf_76 (fun r1 σ2 => ?_)
    refine J_goto (tgt := 83) h d_M_inPlaceOf_79 (by decide) ?_
    exact J_iret h rfl d_M_inPlaceOf_83
  · refine J_iload_n (q := 0) h d_M_inPlaceOf_82 rfl rfl ?_
    exact J_iret h rfl d_M_inPlaceOf_83
def M_M_inPlaceOf (N : Nat) (x1 : Int32) (x2 : Int32) (σ : SM) : Option (Int32 × SM) := (if ck x1 500 = true then (if (aM_M_kind σ x1.toNatClampNeg) = 3 then (if x2 = (-1) then (M_M_inPlaceOf_b84 N x1 x2 σ) else (if ck x1 500 = true then (if ck x2 500 = true then (if (aM_M_one σ x1.toNatClampNeg) = (aM_M_one σ x2.toNatClampNeg) then (if ck x1 500 = true then (if (aM_M_two σ x1.toNatClampNeg) = 0 then (if ck x2 500 = true then (M_M_inPlaceOf_b54 N x1 x2 (aM_M_two σ x2.toNatClampNeg) σ) else none) else (if ck x2 500 = true then (M_M_inPlaceOf_b54 N x1 x2 (aM_M_three σ x2.toNatClampNeg) σ) else none)) else none) else (M_M_inPlaceOf_b84 N x1 x2 σ)) else none) else none)) else (M_M_inPlaceOf_b84 N x1 x2 σ)) else none)
set_option maxRecDepth 100000 in
set_option maxHeartbeats 4000000 in
theorem J_M_M_inPlaceOf (K : jx_E) (D : va_G) (A : Nat → Prop) (ad : Nat → Nat) (cA : Nat → ClassId) (N : Nat) (h : jx_ok K D clM (tysM cA) A 4 b_M_inPlaceOf y_M_inPlaceOf.cls ((Cond.code y_M_inPlaceOf b_M_inPlaceOf 4 (some .int)) :: tblG) rM_M_inPlaceOf (some .int)) : ∀ (x1 : Int32) (x2 : Int32) (σ : SM), J K D clM A 4 (wM ad cA) (jx_Qi K D clM (tysM cA) (wM ad cA) A) 0 0 0 [(0, .ref (ad 0)), (1, .int x1), (2, .int x2)] [] σ (M_M_inPlaceOf N x1 x2 σ) := by
  intro x1 x2 σ
  rw [M_M_inPlaceOf]
  refine J_aload_n (q := 0) h d_M_inPlaceOf_0 rfl rfl ?_
  refine J_getf h 0 (wM_0 ad cA σ) (tb_ups in_M) rfl 5 (by decide) (tb_up q_4_87) rfl d_M_inPlaceOf_1 ?_
  refine J_iload_n (q := 1) h d_M_inPlaceOf_4 rfl rfl ?_
  refine J_iald h 5 4 (wM_5 ad cA σ) rfl d_M_inPlaceOf_5 ?_
  refine J_iconst (v := 3) h d_M_inPlaceOf_6 (by decide) ?_
  refine J_icmp_ne (tgt := 84) h d_M_inPlaceOf_7 (by decide) ?_ ?_
  · refine J_iload_n (q := 2) h d_M_inPlaceOf_10 rfl rfl ?_
    refine J_iconst (v := (-1)) h d_M_inPlaceOf_11 (by decide) ?_
    refine J_icmp_eq (tgt := 84) h d_M_inPlaceOf_12 (by decide) ?_ ?_
    · exact J_M_M_inPlaceOf_b84 K D A ad cA N h x1 x2 σ
    · refine J_aload_n (q := 0) h d_M_inPlaceOf_15 rfl rfl ?_
      refine J_getf h 0 (wM_0 ad cA σ) (tb_ups in_M) rfl 6 (by decide) (tb_up q_4_88) rfl d_M_inPlaceOf_16 ?_
      refine J_iload_n (q := 1) h d_M_inPlaceOf_19 rfl rfl ?_
      refine J_iald h 6 5 (wM_6 ad cA σ) rfl d_M_inPlaceOf_20 ?_
      refine J_aload_n (q := 0) h d_M_inPlaceOf_21 rfl rfl ?_
      refine J_getf h 0 (wM_0 ad cA σ) (tb_ups in_M) rfl 6 (by decide) (tb_up q_4_88) rfl d_M_inPlaceOf_22 ?_
      refine J_iload_n (q := 2) h d_M_inPlaceOf_25 rfl rfl ?_
      refine J_iald h 6 5 (wM_6 ad cA σ) rfl d_M_inPlaceOf_26 ?_
      refine J_icmp_ne (tgt := 84) h d_M_inPlaceOf_27 (by decide) ?_ ?_
      · refine J_aload_n (q := 0) h d_M_inPlaceOf_30 rfl rfl ?_
        refine J_getf h 0 (wM_0 ad cA σ) (tb_ups in_M) rfl 7 (by decide) (tb_up q_4_89) rfl d_M_inPlaceOf_31 ?_
        refine J_iload_n (q := 1) h d_M_inPlaceOf_34 rfl rfl ?_
        refine J_iald h 7 6 (wM_7 ad cA σ) rfl d_M_inPlaceOf_35 ?_
        refine J_if_ne (tgt := 48) h d_M_inPlaceOf_36 (by decide) ?_ ?_
        · refine J_aload_n (q := 0) h d_M_inPlaceOf_39 rfl rfl ?_
          refine J_getf h 0 (wM_0 ad cA σ) (tb_ups in_M) rfl 7 (by decide) (tb_up q_4_89) rfl d_M_inPlaceOf_40 ?_
          refine J_iload_n (q := 2) h d_M_inPlaceOf_43 rfl rfl ?_
          refine J_iald h 7 6 (wM_7 ad cA σ) rfl d_M_inPlaceOf_44 ?_
          refine J_goto (tgt := 54) h d_M_inPlaceOf_45 (by decide) ?_
          exact J_M_M_inPlaceOf_b54 K D A ad cA N h x1 x2 (aM_M_two σ x2.toNatClampNeg) σ
        · refine J_aload_n (q := 0) h d_M_inPlaceOf_48 rfl rfl ?_
          refine J_getf h 0 (wM_0 ad cA σ) (tb_ups in_M) rfl 8 (by decide) (tb_up q_4_90) rfl d_M_inPlaceOf_49 ?_
          refine J_iload_n (q := 2) h d_M_inPlaceOf_52 rfl rfl ?_
          refine J_iald h 8 7 (wM_8 ad cA σ) rfl d_M_inPlaceOf_53 ?_
          exact J_M_M_inPlaceOf_b54 K D A ad cA N h x1 x2 (aM_M_three σ x2.toNatClampNeg) σ
      · exact J_M_M_inPlaceOf_b84 K D A ad cA N h x1 x2 σ
  · exact J_M_M_inPlaceOf_b84 K D A ad cA N h x1 x2 σ
set_option maxRecDepth 100000 in
theorem cM_M_inPlaceOf (l : Launch) (D : va_G) (ad : Nat → Nat) (cA : Nat → ClassId) (N : Nat) (x1 : Int32) (x2 : Int32) (σ : SM) (r : Int32) (σ' : SM) (hf : M_M_inPlaceOf N x1 x2 σ = some (r, σ')) : MetI l y_M_inPlaceOf ((Cond.code y_M_inPlaceOf b_M_inPlaceOf 4 (some .int)) :: tblG) rM_M_inPlaceOf D clM (tysM cA) (wM ad cA) [.ref (ad 0), .int x1, .int x2] σ r σ' :=
  jx_metI (by decide) rfl (Nat.le_of_ble_eq_true rfl) (fun K A h => J_M_M_inPlaceOf K D A ad cA N h x1 x2 σ) hf
def rM_M_innerOf : Room := { frames := 0, cells := 0, slots := 0, locals := 0 }
theorem rm_ok_M_M_innerOf : rM_M_innerOf.cells = 0 ∧ rM_M_innerOf.slots = 0 := ⟨rfl, rfl⟩
def M_M_innerOf (x1 : Int32) (x2 : Int32) (σ : SM) : Option (Int32 × SM) := (if ck x1 500 = true then (if (aM_M_kind σ x1.toNatClampNeg) = 1 then (if x2 = 0 then (if ck x1 500 = true then (some ((aM_M_two σ x1.toNatClampNeg), σ)) else none) else (if ck x1 500 = true then (some ((aM_M_three σ x1.toNatClampNeg), σ)) else none)) else (if ck x1 500 = true then (if (aM_M_kind σ x1.toNatClampNeg) = 2 then (if ck x1 500 = true then (some ((aM_M_two σ x1.toNatClampNeg), σ)) else none) else (if ck x1 500 = true then (some ((aM_M_one σ x1.toNatClampNeg), σ)) else none)) else none)) else none)
set_option maxRecDepth 100000 in
set_option maxHeartbeats 4000000 in
theorem J_M_M_innerOf (K : jx_E) (D : va_G) (A : Nat → Prop) (ad : Nat → Nat) (cA : Nat → ClassId) (h : jx_ok K D clM (tysM cA) A 3 b_M_innerOf y_M_innerOf.cls ((Cond.code y_M_innerOf b_M_innerOf 3 (some .int)) :: tblG) rM_M_innerOf (some .int)) : ∀ (x1 : Int32) (x2 : Int32) (σ : SM), J K D clM A 3 (wM ad cA) (jx_Qi K D clM (tysM cA) (wM ad cA) A) 0 0 0 [(0, .ref (ad 0)), (1, .int x1), (2, .int x2)] [] σ (M_M_innerOf x1 x2 σ) := by
  intro x1 x2 σ
  rw [M_M_innerOf]
  refine J_aload_n (q := 0) h d_M_innerOf_0 rfl rfl ?_
  refine J_getf h 0 (wM_0 ad cA σ) (tb_ups in_M) rfl 5 (by decide) (tb_up q_4_87) rfl d_M_innerOf_1 ?_
  refine J_iload_n (q := 1) h d_M_innerOf_4 rfl rfl ?_
  refine J_iald h 5 4 (wM_5 ad cA σ) rfl d_M_innerOf_5 ?_
  refine J_iconst (v := 1) h d_M_innerOf_6 (by decide) ?_
  refine J_icmp_ne (tgt := 32) h d_M_innerOf_7 (by decide) ?_ ?_
  · refine J_iload_n (q := 2) h d_M_innerOf_10 rfl rfl ?_
    refine J_if_ne (tgt := 23) h d_M_innerOf_11 (by decide) ?_ ?_
    · refine J_aload_n (q := 0) h d_M_innerOf_14 rfl rfl ?_
      refine J_getf h 0 (wM_0 ad cA σ) (tb_ups in_M) rfl 7 (by decide) (tb_up q_4_89) rfl d_M_innerOf_15 ?_
      refine J_iload_n (q := 1) h d_M_innerOf_18 rfl rfl ?_
      refine J_iald h 7 6 (wM_7 ad cA σ) rfl d_M_innerOf_19 ?_
      refine J_goto (tgt := 57) h d_M_innerOf_20 (by decide) ?_
      exact J_iret h rfl d_M_innerOf_57
    · refine J_aload_n (q := 0) h d_M_innerOf_23 rfl rfl ?_
      refine J_getf h 0 (wM_0 ad cA σ) (tb_ups in_M) rfl 8 (by decide) (tb_up q_4_90) rfl d_M_innerOf_24 ?_
      refine J_iload_n (q := 1) h d_M_innerOf_27 rfl rfl ?_
      refine J_iald h 8 7 (wM_8 ad cA σ) rfl d_M_innerOf_28 ?_
      refine J_goto (tgt := 57) h d_M_innerOf_29 (by decide) ?_
      exact J_iret h rfl d_M_innerOf_57
  · refine J_aload_n (q := 0) h d_M_innerOf_32 rfl rfl ?_
    refine J_getf h 0 (wM_0 ad cA σ) (tb_ups in_M) rfl 5 (by decide) (tb_up q_4_87) rfl d_M_innerOf_33 ?_
    refine J_iload_n (q := 1) h d_M_innerOf_36 rfl rfl ?_
    refine J_iald h 5 4 (wM_5 ad cA σ) rfl d_M_innerOf_37 ?_
    refine J_iconst (v := 2) h d_M_innerOf_38 (by decide) ?_
    refine J_icmp_ne (tgt := 51) h d_M_innerOf_39 (by decide) ?_ ?_
    · refine J_aload_n (q := 0) h d_M_innerOf_42 rfl rfl ?_
      refine J_getf h 0 (wM_0 ad cA σ) (tb_ups in_M) rfl 7 (by decide) (tb_up q_4_89) rfl d_M_innerOf_43 ?_
      refine J_iload_n (q := 1) h d_M_innerOf_46 rfl rfl ?_
      refine J_iald h 7 6 (wM_7 ad cA σ) rfl d_M_innerOf_47 ?_
      refine J_goto (tgt := 57) h d_M_innerOf_48 (by decide) ?_
      exact J_iret h rfl d_M_innerOf_57
    · refine J_aload_n (q := 0) h d_M_innerOf_51 rfl rfl ?_
      refine J_getf h 0 (wM_0 ad cA σ) (tb_ups in_M) rfl 6 (by decide) (tb_up q_4_88) rfl d_M_innerOf_52 ?_
      refine J_iload_n (q := 1) h d_M_innerOf_55 rfl rfl ?_
      refine J_iald h 6 5 (wM_6 ad cA σ) rfl d_M_innerOf_56 ?_
      exact J_iret h rfl d_M_innerOf_57
set_option maxRecDepth 100000 in
theorem cM_M_innerOf (l : Launch) (D : va_G) (ad : Nat → Nat) (cA : Nat → ClassId) (x1 : Int32) (x2 : Int32) (σ : SM) (r : Int32) (σ' : SM) (hf : M_M_innerOf x1 x2 σ = some (r, σ')) : MetI l y_M_innerOf ((Cond.code y_M_innerOf b_M_innerOf 3 (some .int)) :: tblG) rM_M_innerOf D clM (tysM cA) (wM ad cA) [.ref (ad 0), .int x1, .int x2] σ r σ' :=
  jx_metI (by decide) rfl (Nat.le_of_ble_eq_true rfl) (fun K A h => J_M_M_innerOf K D A ad cA h x1 x2 σ) hf
