def rM_M_contained : Room := { frames := 2, cells := 0, slots := 0, locals := 47 }
theorem rm_ok_M_M_contained : rM_M_contained.cells = 0 ∧ rM_M_contained.slots = 0 := ⟨rfl, rfl⟩
def M_M_contained_b136 (N : Nat) (v4 : Int32) (s0 : Int32) (s1 : Int32) (σ : SM) : Option (Int32 × SM) := (bd (M_M_then s1 s0 v4 σ) (fun (r2 : Int32) (σ3 : SM) => (if zb r2 = true then some (r2, σ3) else none)))
set_option maxRecDepth 100000 in
set_option maxHeartbeats 4000000 in
theorem J_M_M_contained_b136 (K : jx_E) (D : va_G) (A : Nat → Prop) (ad : Nat → Nat) (cA : Nat → ClassId) (N : Nat) (h : jx_ok K D clM (tysM cA) A 5 b_M_contained y_M_contained.cls ((Cond.code y_M_contained b_M_contained 5 (some .boolean)) :: tblG) rM_M_contained (some .boolean)) : ∀ (v4 : Int32) (s0 : Int32) (s1 : Int32) (σ : SM), J K D clM A 5 (wM ad cA) (jx_Qi K D clM (tysM cA) (wM ad cA) A) 0 0 136 [(4, .int v4)] [.int s0, .int s1, .ref (ad 0)] σ (M_M_contained_b136 N v4 s0 s1 σ) := by
  intro v4 s0 s1 σ
  rw [M_M_contained_b136]
  refine J_iload (q := 0) h d_M_contained_136 rfl ?_
  refine J_callVi (As := [.int s1, .int s0, .int v4]) (st := []) (rmc := rM_M_then) (q0 := 0) h (fun _ _ hf => cM_M_then (jl K) D ad cA s1 s0 v4 σ _ _ hf) (gd_V q_5_173 q_5_175 q_s_47 q_1_12 q_5_176) rfl ⟨rfl, rfl⟩ dd_M_then ⟨Nat.le_of_ble_eq_true rfl, Nat.le_of_ble_eq_true rfl⟩ rfl rfl (wM_0 ad cA σ) rfl rfl (Nat.le_of_ble_eq_true rfl) ⟨Nat.zero_le _, Nat.zero_le _⟩ d_M_contained_138 (fun r2 σ3 => ?_)
  exact J_zretc h rfl d_M_contained_141
def M_M_contained_b102 (N : Nat) (v1 : Int32) (v3 : Int32) (v4 : Int32) (σ : SM) : Option (Int32 × SM) := (if v3 = 0 then (M_M_contained_b136 N v4 v1 1 σ) else (if ck v1 500 = true then (if (aM_M_one σ v1.toNatClampNeg) = 1 then (if ck v1 500 = true then (M_M_contained_b136 N v4 (aM_M_two σ v1.toNatClampNeg) 1 σ) else none) else (bd (M_M_plainOf N 0 σ) (fun (r4 : Int32) (σ5 : SM) => (M_M_contained_b136 N v4 r4 1 σ5)))) else none))
set_option maxRecDepth 100000 in
set_option maxHeartbeats 4000000 in
theorem J_M_M_contained_b102 (K : jx_E) (D : va_G) (A : Nat → Prop) (ad : Nat → Nat) (cA : Nat → ClassId) (N : Nat) (h : jx_ok K D clM (tysM cA) A 5 b_M_contained y_M_contained.cls ((Cond.code y_M_contained b_M_contained 5 (some .boolean)) :: tblG) rM_M_contained (some .boolean)) : ∀ (v1 : Int32) (v3 : Int32) (v4 : Int32) (σ : SM), J K D clM A 5 (wM ad cA) (jx_Qi K D clM (tysM cA) (wM ad cA) A) 0 0 102 [(0, .ref (ad 0)), (1, .int v1), (3, .int v3), (4, .int v4)] [] σ (M_M_contained_b102 N v1 v3 v4 σ) := by
  intro v1 v3 v4 σ
  rw [M_M_contained_b102]
  refine J_aload_n (q := 0) h d_M_contained_102 rfl rfl ?_
  refine J_iconst (v := 1) h d_M_contained_103 (by decide) ?_
  refine J_iload_n (q := 2) h d_M_contained_104 rfl rfl ?_
  refine J_if_ne (tgt := 112) h d_M_contained_105 (by decide) ?_ ?_
  · refine J_iload_n (q := 1) h d_M_contained_108 rfl rfl ?_
    refine J_goto (tgt := 136) h d_M_contained_109 (by decide) ?_
    refine J_sub [3] rfl ?_
    exact J_M_M_contained_b136 K D A ad cA N h v4 v1 1 σ
  · refine J_aload_n (q := 0) h d_M_contained_112 rfl rfl ?_
    refine J_getf h 0 (wM_0 ad cA σ) (tb_ups in_M) rfl 6 (by decide) (tb_up q_4_88) rfl d_M_contained_113 ?_
    refine J_iload_n (q := 1) h d_M_contained_116 rfl rfl ?_
    refine J_iald h 6 5 (wM_6 ad cA σ) rfl d_M_contained_117 ?_
    refine J_iconst (v := 1) h d_M_contained_118 (by decide) ?_
    refine J_icmp_ne (tgt := 131) h d_M_contained_119 (by decide) ?_ ?_
    · refine J_aload_n (q := 0) h d_M_contained_122 rfl rfl ?_
      refine J_getf h 0 (wM_0 ad cA σ) (tb_ups in_M) rfl 7 (by decide) (tb_up q_4_89) rfl d_M_contained_123 ?_
      refine J_iload_n (q := 1) h d_M_contained_126 rfl rfl ?_
      refine J_iald h 7 6 (wM_7 ad cA σ) rfl d_M_contained_127 ?_
      refine J_goto (tgt := 136) h d_M_contained_128 (by decide) ?_
      refine J_sub [3] rfl ?_
      exact J_M_M_contained_b136 K D A ad cA N h v4 (aM_M_two σ v1.toNatClampNeg) 1 σ
    · refine J_aload_n (q := 0) h d_M_contained_131 rfl rfl ?_
      refine J_iconst (v := 0) h d_M_contained_132 (by decide) ?_
      refine J_callVi (As := [.int 0]) (st := [.int 1, .ref (ad 0)]) (rmc := rM_M_plainOf) (q0 := 0) h (fun _ _ hf => cM_M_plainOf (jl K) D ad cA N 0 σ _ _ hf) (gd_V q_5_70 q_5_72 q_s_31 q_1_12 q_5_73) rfl ⟨rfl, rfl⟩ dd_M_plainOf ⟨Nat.le_of_ble_eq_true rfl, Nat.le_of_ble_eq_true rfl⟩ rfl rfl (wM_0 ad cA σ) rfl rfl (Nat.le_of_ble_eq_true rfl) ⟨Nat.zero_le _, Nat.zero_le _⟩ d_M_contained_133 (fun r4 σ5 => ?_)
      refine J_sub [3] rfl ?_
      exact J_M_M_contained_b136 K D A ad cA N h v4 r4 1 σ5
def M_M_contained_b15 (N : Nat) (v1 : Int32) (v2 : Int32) (s0 : Int32) (σ : SM) : Option (Int32 × SM) := (if ck v2 500 = true then (if (aM_M_kind σ v2.toNatClampNeg) = 2 then (if ck v2 500 = true then (nm ((aM_M_two σ v2.toNatClampNeg)) (fun (y1 : Int32) => (if ck v2 500 = true then (if (aM_M_one σ v2.toNatClampNeg) = 0 then (some (1, σ)) else (if ck v2 500 = true then (if (aM_M_one σ v2.toNatClampNeg) = 1 then (if s0 = 0 then (M_M_contained_b102 N v1 s0 y1 σ) else (if ck v1 500 = true then (if (aM_M_one σ v1.toNatClampNeg) = 2 then (bd (M_M_plainOf N 0 σ) (fun (r6 : Int32) (σ7 : SM) => (bd (M_M_then 3 r6 y1 σ7) (fun (r8 : Int32) (σ9 : SM) => (if zb r8 = true then some (r8, σ9) else none))))) else (M_M_contained_b102 N v1 s0 y1 σ)) else none)) else (if s0 = 0 then (bd (M_M_then 1 y1 v1 σ) (fun (r10 : Int32) (σ11 : SM) => (if zb r10 = true then some (r10, σ11) else none))) else (if ck v1 500 = true then (if (aM_M_one σ v1.toNatClampNeg) = 2 then (if ck v1 500 = true then (bd (M_M_then 1 y1 (aM_M_two σ v1.toNatClampNeg) σ) (fun (r12 : Int32) (σ13 : SM) => (if r12 = 0 then (some (0, σ13)) else (some (1, σ13))))) else none) else (some (0, σ))) else none))) else none)) else none))) else none) else (if s0 = 0 then (bd (M_M_then 3 v1 v2 σ) (fun (r14 : Int32) (σ15 : SM) => (if r14 = 0 then (some (0, σ15)) else (some (1, σ15))))) else (some (0, σ)))) else none)
set_option maxRecDepth 100000 in
set_option maxHeartbeats 4000000 in
theorem J_M_M_contained_b15 (K : jx_E) (D : va_G) (A : Nat → Prop) (ad : Nat → Nat) (cA : Nat → ClassId) (N : Nat) (h : jx_ok K D clM (tysM cA) A 5 b_M_contained y_M_contained.cls ((Cond.code y_M_contained b_M_contained 5 (some .boolean)) :: tblG) rM_M_contained (some .boolean)) : ∀ (v1 : Int32) (v2 : Int32) (s0 : Int32) (σ : SM), J K D clM A 5 (wM ad cA) (jx_Qi K D clM (tysM cA) (wM ad cA) A) 0 0 15 [(0, .ref (ad 0)), (1, .int v1), (2, .int v2)] [.int s0] σ (M_M_contained_b15 N v1 v2 s0 σ) := by
  intro v1 v2 s0 σ
  rw [M_M_contained_b15]
  refine J_istore_n (lv' := [(3, .int s0), (0, .ref (ad 0)), (1, .int v1), (2, .int v2)]) h d_M_contained_15 rfl (by decide) rfl ?_
  refine J_aload_n (q := 1) h d_M_contained_16 rfl rfl ?_
  refine J_getf h 0 (wM_0 ad cA σ) (tb_ups in_M) rfl 5 (by decide) (tb_up q_4_87) rfl d_M_contained_17 ?_
  refine J_iload_n (q := 3) h d_M_contained_20 rfl rfl ?_
  refine J_iald h 5 4 (wM_5 ad cA σ) rfl d_M_contained_21 ?_
  refine J_iconst (v := 2) h d_M_contained_22 (by decide) ?_
  refine J_icmp_eq (tgt := 46) h d_M_contained_23 (by decide) ?_ ?_
  · refine J_aload_n (q := 1) h d_M_contained_46 rfl rfl ?_
    refine J_getf h 0 (wM_0 ad cA σ) (tb_ups in_M) rfl 7 (by decide) (tb_up q_4_89) rfl d_M_contained_47 ?_
    refine J_iload_n (q := 3) h d_M_contained_50 rfl rfl ?_
    refine J_iald h 7 6 (wM_7 ad cA σ) rfl d_M_contained_51 ?_
    refine J_nmi (fun y1 => ?_)
    refine J_istore (lv' := [(4, .int y1), (3, .int s0), (0, .ref (ad 0)), (1, .int v1), (2, .int v2)]) h d_M_contained_52 (by decide) rfl ?_
    refine J_aload_n (q := 2) h d_M_contained_54 rfl rfl ?_
    refine J_getf h 0 (wM_0 ad cA σ) (tb_ups in_M) rfl 6 (by decide) (tb_up q_4_88) rfl d_M_contained_55 ?_
    refine J_iload_n (q := 4) h d_M_contained_58 rfl rfl ?_
    refine J_iald h 6 5 (wM_6 ad cA σ) rfl d_M_contained_59 ?_
    refine J_if_ne (tgt := 65) h d_M_contained_60 (by decide) ?_ ?_
    · refine J_iconst (v := 1) h d_M_contained_63 (by decide) ?_
      exact J_zret h rfl (by decide) d_M_contained_64
    · refine J_aload_n (q := 2) h d_M_contained_65 rfl rfl ?_
      refine J_getf h 0 (wM_0 ad cA σ) (tb_ups in_M) rfl 6 (by decide) (tb_up q_4_88) rfl d_M_contained_66 ?_
      refine J_iload_n (q := 4) h d_M_contained_69 rfl rfl ?_
      refine J_iald h 6 5 (wM_6 ad cA σ) rfl d_M_contained_70 ?_
      refine J_iconst (v := 1) h d_M_contained_71 (by decide) ?_
      refine J_icmp_ne (tgt := 142) h d_M_contained_72 (by decide) ?_ ?_
      · refine J_iload_n (q := 1) h d_M_contained_75 rfl rfl ?_
        refine J_if_eq (tgt := 102) h d_M_contained_76 (by decide) ?_ ?_
        · refine J_sub [2, 3, 1, 0] rfl ?_
          exact J_M_M_contained_b102 K D A ad cA N h v1 s0 y1 σ
        · refine J_aload_n (q := 2) h d_M_contained_79 rfl rfl ?_
          refine J_getf h 0 (wM_0 ad cA σ) (tb_ups in_M) rfl 6 (by decide) (tb_up q_4_88) rfl d_M_contained_80 ?_
          refine J_iload_n (q := 3) h d_M_contained_83 rfl rfl ?_
          refine J_iald h 6 5 (wM_6 ad cA σ) rfl d_M_contained_84 ?_
          refine J_iconst (v := 2) h d_M_contained_85 (by decide) ?_
          refine J_icmp_ne (tgt := 102) h d_M_contained_86 (by decide) ?_ ?_
          · refine J_aload_n (q := 2) h d_M_contained_89 rfl rfl ?_
            refine J_iconst (v := 3) h d_M_contained_90 (by decide) ?_
            refine J_aload_n (q := 2) h d_M_contained_91 rfl rfl ?_
            refine J_iconst (v := 0) h d_M_contained_92 (by decide) ?_
            refine J_callVi (As := [.int 0]) (st := [.int 3, .ref (ad 0)]) (rmc := rM_M_plainOf) (q0 := 0) h (fun _ _ hf => cM_M_plainOf (jl K) D ad cA N 0 σ _ _ hf) (gd_V q_5_70 q_5_72 q_s_31 q_1_12 q_5_73) rfl ⟨rfl, rfl⟩ dd_M_plainOf ⟨Nat.le_of_ble_eq_true rfl, Nat.le_of_ble_eq_true rfl⟩ rfl rfl (wM_0 ad cA σ) rfl rfl (Nat.le_of_ble_eq_true rfl) ⟨Nat.zero_le _, Nat.zero_le _⟩ d_M_contained_93 (fun r6 σ7 => ?_)
            refine J_iload (q := 0) h d_M_contained_96 rfl ?_
            refine J_callVi (As := [.int 3, .int r6, .int y1]) (st := []) (rmc := rM_M_then) (q0 := 0) h (fun _ _ hf => cM_M_then (jl K) D ad cA 3 r6 y1 σ7 _ _ hf) (gd_V q_5_173 q_5_175 q_s_47 q_1_12 q_5_176) rfl ⟨rfl, rfl⟩ dd_M_then ⟨Nat.le_of_ble_eq_true rfl, Nat.le_of_ble_eq_true rfl⟩ rfl rfl (wM_0 ad cA σ7) rfl rfl (Nat.le_of_ble_eq_true rfl) ⟨Nat.zero_le _, Nat.zero_le _⟩ d_M_contained_98 (fun r8 σ9 => ?_)
            exact J_zretc h rfl d_M_contained_101
          · refine J_sub [2, 3, 1, 0] rfl ?_
            exact J_M_M_contained_b102 K D A ad cA N h v1 s0 y1 σ
      · refine J_iload_n (q := 1) h d_M_contained_142 rfl rfl ?_
        refine J_if_ne (tgt := 157) h d_M_contained_143 (by decide) ?_ ?_
        · refine J_aload_n (q := 2) h d_M_contained_146 rfl rfl ?_
          refine J_iconst (v := 1) h d_M_contained_147 (by decide) ?_
          refine J_iload (q := 0) h d_M_contained_148 rfl ?_
          refine J_iload_n (q := 3) h d_M_contained_150 rfl rfl ?_
          refine J_callVi (As := [.int 1, .int y1, .int v1]) (st := []) (rmc := rM_M_then) (q0 := 0) h (fun _ _ hf => cM_M_then (jl K) D ad cA 1 y1 v1 σ _ _ hf) (gd_V q_5_173 q_5_175 q_s_47 q_1_12 q_5_176) rfl ⟨rfl, rfl⟩ dd_M_then ⟨Nat.le_of_ble_eq_true rfl, Nat.le_of_ble_eq_true rfl⟩ rfl rfl (wM_0 ad cA σ) rfl rfl (Nat.le_of_ble_eq_true rfl) ⟨Nat.zero_le _, Nat.zero_le _⟩ d_M_contained_151 (fun r10 σ11 => ?_)
          refine J_goto (tgt := 188) h d_M_contained_154 (by decide) ?_
          exact J_zretc h rfl d_M_contained_188
        · refine J_aload_n (q := 2) h d_M_contained_157 rfl rfl ?_
          refine J_getf h 0 (wM_0 ad cA σ) (tb_ups in_M) rfl 6 (by decide) (tb_up q_4_88) rfl d_M_contained_158 ?_
          refine J_iload_n (q := 3) h d_M_contained_161 rfl rfl ?_
          refine J_iald h 6 5 (wM_6 ad cA σ) rfl d_M_contained_162 ?_
          refine J_iconst (v := 2) h d_M_contained_163 (by decide) ?_
          refine J_icmp_ne (tgt := 187) h d_M_contained_164 (by decide) ?_ ?_
          · refine J_aload_n (q := 2) h d_M_contained_167 rfl rfl ?_
            refine J_iconst (v := 1) h d_M_contained_168 (by decide) ?_
            refine J_iload (q := 0) h d_M_contained_169 rfl ?_
            refine J_aload_n (q := 2) h d_M_contained_171 rfl rfl ?_
            refine J_getf h 0 (wM_0 ad cA σ) (tb_ups in_M) rfl 7 (by decide) (tb_up q_4_89) rfl d_M_contained_172 ?_
            refine J_iload_n (q := 3) h d_M_contained_175 rfl rfl ?_
            refine J_iald h 7 6 (wM_7 ad cA σ) rfl d_M_contained_176 ?_
            refine J_callVi (As := [.int 1, .int y1, .int (aM_M_two σ v1.toNatClampNeg)]) (st := []) (rmc := rM_M_then) (q0 := 0) h (fun _ _ hf => cM_M_then (jl K) D ad cA 1 y1 (aM_M_two σ v1.toNatClampNeg) σ _ _ hf) (gd_V q_5_173 q_5_175 q_s_47 q_1_12 q_5_176) rfl ⟨rfl, rfl⟩ dd_M_then ⟨Nat.le_of_ble_eq_true rfl, Nat.le_of_ble_eq_true rfl⟩ rfl rfl (wM_0 ad cA σ) rfl rfl (Nat.le_of_ble_eq_true rfl) ⟨Nat.zero_le _, Nat.zero_le _⟩ d_M_contained_177 (fun r12 σ13 => ?_)
            refine J_if_eq (tgt := 187) h d_M_contained_180 (by decide) ?_ ?_
            · refine J_iconst (v := 0) h d_M_contained_187 (by decide) ?_
              exact J_zret h rfl (by decide) d_M_contained_188
            · refine J_iconst (v := 1) h d_M_contained_183 (by decide) ?_
              refine J_goto (tgt := 188) h d_M_contained_184 (by decide) ?_
              exact J_zret h rfl (by decide) d_M_contained_188
          · refine J_iconst (v := 0) h d_M_contained_187 (by decide) ?_
            exact J_zret h rfl (by decide) d_M_contained_188
  · refine J_iload_n (q := 0) h d_M_contained_26 rfl rfl ?_
    refine J_if_ne (tgt := 44) h d_M_contained_27 (by decide) ?_ ?_
    · refine J_aload_n (q := 1) h d_M_contained_30 rfl rfl ?_
      refine J_iconst (v := 3) h d_M_contained_31 (by decide) ?_
      refine J_iload_n (q := 2) h d_M_contained_32 rfl rfl ?_
      refine J_iload_n (q := 3) h d_M_contained_33 rfl rfl ?_
      refine J_callVi (As := [.int 3, .int v1, .int v2]) (st := []) (rmc := rM_M_then) (q0 := 0) h (fun _ _ hf => cM_M_then (jl K) D ad cA 3 v1 v2 σ _ _ hf) (gd_V q_5_173 q_5_175 q_s_47 q_1_12 q_5_176) rfl ⟨rfl, rfl⟩ dd_M_then ⟨Nat.le_of_ble_eq_true rfl, Nat.le_of_ble_eq_true rfl⟩ rfl rfl (wM_0 ad cA σ) rfl rfl (Nat.le_of_ble_eq_true rfl) ⟨Nat.zero_le _, Nat.zero_le _⟩ d_M_contained_34 (fun r14 σ15 => ?_)
      refine J_if_eq (tgt := 44) h d_M_contained_37 (by decide) ?_ ?_
      · refine J_iconst (v := 0) h d_M_contained_44 (by decide) ?_
        exact J_zret h rfl (by decide) d_M_contained_45
      · refine J_iconst (v := 1) h d_M_contained_40 (by decide) ?_
        refine J_goto (tgt := 45) h d_M_contained_41 (by decide) ?_
        exact J_zret h rfl (by decide) d_M_contained_45
    · refine J_iconst (v := 0) h d_M_contained_44 (by decide) ?_
      exact J_zret h rfl (by decide) d_M_contained_45
def M_M_contained (N : Nat) (x1 : Int32) (x2 : Int32) (σ : SM) : Option (Int32 × SM) := (if ck x1 500 = true then (if (aM_M_kind σ x1.toNatClampNeg) = 2 then (M_M_contained_b15 N x1 x2 1 σ) else (M_M_contained_b15 N x1 x2 0 σ)) else none)
set_option maxRecDepth 100000 in
set_option maxHeartbeats 4000000 in
theorem J_M_M_contained (K : jx_E) (D : va_G) (A : Nat → Prop) (ad : Nat → Nat) (cA : Nat → ClassId) (N : Nat) (h : jx_ok K D clM (tysM cA) A 5 b_M_contained y_M_contained.cls ((Cond.code y_M_contained b_M_contained 5 (some .boolean)) :: tblG) rM_M_contained (some .boolean)) : ∀ (x1 : Int32) (x2 : Int32) (σ : SM), J K D clM A 5 (wM ad cA) (jx_Qi K D clM (tysM cA) (wM ad cA) A) 0 0 0 [(0, .ref (ad 0)), (1, .int x1), (2, .int x2)] [] σ (M_M_contained N x1 x2 σ) := by
  intro x1 x2 σ
  rw [M_M_contained]
  refine J_aload_n (q := 0) h d_M_contained_0 rfl rfl ?_
  refine J_getf h 0 (wM_0 ad cA σ) (tb_ups in_M) rfl 5 (by decide) (tb_up q_4_87) rfl d_M_contained_1 ?_
  refine J_iload_n (q := 1) h d_M_contained_4 rfl rfl ?_
  refine J_iald h 5 4 (wM_5 ad cA σ) rfl d_M_contained_5 ?_
  refine J_iconst (v := 2) h d_M_contained_6 (by decide) ?_
  refine J_icmp_ne (tgt := 14) h d_M_contained_7 (by decide) ?_ ?_
  · refine J_iconst (v := 1) h d_M_contained_10 (by decide) ?_
    refine J_goto (tgt := 15) h d_M_contained_11 (by decide) ?_
    exact J_M_M_contained_b15 K D A ad cA N h x1 x2 1 σ
  · refine J_iconst (v := 0) h d_M_contained_14 (by decide) ?_
    exact J_M_M_contained_b15 K D A ad cA N h x1 x2 0 σ
set_option maxRecDepth 100000 in
theorem cM_M_contained (l : Launch) (D : va_G) (ad : Nat → Nat) (cA : Nat → ClassId) (N : Nat) (x1 : Int32) (x2 : Int32) (σ : SM) (r : Int32) (σ' : SM) (hf : M_M_contained N x1 x2 σ = some (r, σ')) : MetI l y_M_contained ((Cond.code y_M_contained b_M_contained 5 (some .boolean)) :: tblG) rM_M_contained D clM (tysM cA) (wM ad cA) [.ref (ad 0), .int x1, .int x2] σ r σ' :=
  jx_metI (by decide) rfl (Nat.le_of_ble_eq_true rfl) (fun K A h => J_M_M_contained K D A ad cA N h x1 x2 σ) hf
def rM_M_isSame : Room := { frames := 1, cells := 0, slots := 0, locals := 24 }
theorem rm_ok_M_M_isSame : rM_M_isSame.cells = 0 ∧ rM_M_isSame.slots = 0 := ⟨rfl, rfl⟩
def M_M_isSame_b32 (N : Nat) (v1 : Int32) (v2 : Int32) (σ : SM) : Option (Int32 × SM) := (if ck v2 500 = true then (if (aM_M_kind σ v2.toNatClampNeg) = 7 then (if (gM_M_full σ) = 0 then (bd (M_M_bind N 0 v2 v1 σ) (fun (r3 : Unit) (σ4 : SM) => (some (1, σ4)))) else (some (1, σ))) else (some (1, σ))) else none)
set_option maxRecDepth 100000 in
set_option maxHeartbeats 4000000 in
theorem J_M_M_isSame_b32 (K : jx_E) (D : va_G) (A : Nat → Prop) (ad : Nat → Nat) (cA : Nat → ClassId) (N : Nat) (h : jx_ok K D clM (tysM cA) A 3 b_M_isSame y_M_isSame.cls ((Cond.code y_M_isSame b_M_isSame 3 (some .boolean)) :: tblG) rM_M_isSame (some .boolean)) : ∀ (v1 : Int32) (v2 : Int32) (σ : SM), J K D clM A 3 (wM ad cA) (jx_Qi K D clM (tysM cA) (wM ad cA) A) 0 0 32 [(0, .ref (ad 0)), (1, .int v1), (2, .int v2)] [] σ (M_M_isSame_b32 N v1 v2 σ) := by
  intro v1 v2 σ
  rw [M_M_isSame_b32]
  refine J_aload_n (q := 0) h d_M_isSame_32 rfl rfl ?_
  refine J_getf h 0 (wM_0 ad cA σ) (tb_ups in_M) rfl 5 (by decide) (tb_up q_4_87) rfl d_M_isSame_33 ?_
  refine J_iload_n (q := 2) h d_M_isSame_36 rfl rfl ?_
  refine J_iald h 5 4 (wM_5 ad cA σ) rfl d_M_isSame_37 ?_
  refine J_bipush (v := 7) h d_M_isSame_38 (by decide) ?_
  refine J_icmp_ne (tgt := 57) h d_M_isSame_40 (by decide) ?_ ?_
  · refine J_aload_n (q := 0) h d_M_isSame_43 rfl rfl ?_
    refine J_getf h 0 (wM_0 ad cA σ) (tb_ups in_M) rfl 12 (by decide) (tb_up q_4_94) rfl d_M_isSame_44 ?_
    refine J_if_ne (tgt := 57) h d_M_isSame_47 (by decide) ?_ ?_
    · refine J_aload_n (q := 0) h d_M_isSame_50 rfl rfl ?_
      refine J_iconst (v := 0) h d_M_isSame_51 (by decide) ?_
      refine J_iload_n (q := 2) h d_M_isSame_52 rfl rfl ?_
      refine J_iload_n (q := 1) h d_M_isSame_53 rfl rfl ?_
      refine J_callVv (As := [.int 0, .int v2, .int v1]) (st := []) (rmc := rM_M_bind) (q0 := 0) h (fun _ _ hf => cM_M_bind (jl K) D ad cA N 0 v2 v1 σ _ _ hf) (gd_V q_5_185 q_5_187 q_s_50 q_1_12 q_5_188) rfl ⟨rfl, rfl⟩ dd_M_bind ⟨Nat.le_of_ble_eq_true rfl, Nat.le_of_ble_eq_true rfl⟩ rfl rfl (wM_0 ad cA σ) rfl rfl (Nat.le_of_ble_eq_true rfl) ⟨Nat.zero_le _, Nat.zero_le _⟩ d_M_isSame_54 (fun r3 σ4 => ?_)
      refine J_iconst (v := 1) h d_M_isSame_57 (by decide) ?_
      exact J_zret h rfl (by decide) d_M_isSame_58
    · refine J_iconst (v := 1) h d_M_isSame_57 (by decide) ?_
      exact J_zret h rfl (by decide) d_M_isSame_58
  · refine J_iconst (v := 1) h d_M_isSame_57 (by decide) ?_
    exact J_zret h rfl (by decide) d_M_isSame_58
def M_M_isSame (N : Nat) (x1 : Int32) (x2 : Int32) (σ : SM) : Option (Int32 × SM) := (if (gM_M_judging σ) = 0 then (if ck x1 500 = true then (if (aM_M_kind σ x1.toNatClampNeg) = 7 then (bd (M_M_bind N 0 x1 x2 σ) (fun (r1 : Unit) (σ2 : SM) => (M_M_isSame_b32 N x1 x2 σ2))) else (M_M_isSame_b32 N x1 x2 σ)) else none) else (nm (sM_M_metVariable σ 1) (fun (σ5 : SM) => (some (0, σ5)))))
set_option maxRecDepth 100000 in
set_option maxHeartbeats 4000000 in
theorem J_M_M_isSame (K : jx_E) (D : va_G) (A : Nat → Prop) (ad : Nat → Nat) (cA : Nat → ClassId) (N : Nat) (h : jx_ok K D clM (tysM cA) A 3 b_M_isSame y_M_isSame.cls ((Cond.code y_M_isSame b_M_isSame 3 (some .boolean)) :: tblG) rM_M_isSame (some .boolean)) : ∀ (x1 : Int32) (x2 : Int32) (σ : SM), J K D clM A 3 (wM ad cA) (jx_Qi K D clM (tysM cA) (wM ad cA) A) 0 0 0 [(0, .ref (ad 0)), (1, .int x1), (2, .int x2)] [] σ (M_M_isSame N x1 x2 σ) := by
  intro x1 x2 σ
  rw [M_M_isSame]
  refine J_aload_n (q := 0) h d_M_isSame_0 rfl rfl ?_
  refine J_getf h 0 (wM_0 ad cA σ) (tb_ups in_M) rfl 37 (by decide) (tb_up q_4_119) rfl d_M_isSame_1 ?_
  refine J_if_eq (tgt := 14) h d_M_isSame_4 (by decide) ?_ ?_
  · refine J_aload_n (q := 0) h d_M_isSame_14 rfl rfl ?_
    refine J_getf h 0 (wM_0 ad cA σ) (tb_ups in_M) rfl 5 (by decide) (tb_up q_4_87) rfl d_M_isSame_15 ?_
    refine J_iload_n (q := 1) h d_M_isSame_18 rfl rfl ?_
    refine J_iald h 5 4 (wM_5 ad cA σ) rfl d_M_isSame_19 ?_
    refine J_bipush (v := 7) h d_M_isSame_20 (by decide) ?_
    refine J_icmp_ne (tgt := 32) h d_M_isSame_22 (by decide) ?_ ?_
    · refine J_aload_n (q := 0) h d_M_isSame_25 rfl rfl ?_
      refine J_iconst (v := 0) h d_M_isSame_26 (by decide) ?_
      refine J_iload_n (q := 1) h d_M_isSame_27 rfl rfl ?_
      refine J_iload_n (q := 2) h d_M_isSame_28 rfl rfl ?_
      refine J_callVv (As := [.int 0, .int x1, .int x2]) (st := []) (rmc := rM_M_bind) (q0 := 0) h (fun _ _ hf => cM_M_bind (jl K) D ad cA N 0 x1 x2 σ _ _ hf) (gd_V q_5_185 q_5_187 q_s_50 q_1_12 q_5_188) rfl ⟨rfl, rfl⟩ dd_M_bind ⟨Nat.le_of_ble_eq_true rfl, Nat.le_of_ble_eq_true rfl⟩ rfl rfl (wM_0 ad cA σ) rfl rfl (Nat.le_of_ble_eq_true rfl) ⟨Nat.zero_le _, Nat.zero_le _⟩ d_M_isSame_29 (fun r1 σ2 => ?_)
      exact J_M_M_isSame_b32 K D A ad cA N h x1 x2 σ2
    · exact J_M_M_isSame_b32 K D A ad cA N h x1 x2 σ
  · refine J_aload_n (q := 0) h d_M_isSame_7 rfl rfl ?_
    refine J_iconst (v := 1) h d_M_isSame_8 (by decide) ?_
    refine J_putf h 0 (wM_0 ad cA σ) (tb_ups in_M) rfl ft_M ft_M_ok nm_M 38 (by decide) (tb_up q_4_120) rfl (by decide) (by decide) (Nat.le_of_ble_eq_true rfl) (pM_0_38 ad cA σ 1) d_M_isSame_9 (fun σ5 => ?_)
    refine J_iconst (v := 0) h d_M_isSame_12 (by decide) ?_
    exact J_zret h rfl (by decide) d_M_isSame_13
set_option maxRecDepth 100000 in
theorem cM_M_isSame (l : Launch) (D : va_G) (ad : Nat → Nat) (cA : Nat → ClassId) (N : Nat) (x1 : Int32) (x2 : Int32) (σ : SM) (r : Int32) (σ' : SM) (hf : M_M_isSame N x1 x2 σ = some (r, σ')) : MetI l y_M_isSame ((Cond.code y_M_isSame b_M_isSame 3 (some .boolean)) :: tblG) rM_M_isSame D clM (tysM cA) (wM ad cA) [.ref (ad 0), .int x1, .int x2] σ r σ' :=
  jx_metI (by decide) rfl (Nat.le_of_ble_eq_true rfl) (fun K A h => J_M_M_isSame K D A ad cA N h x1 x2 σ) hf
def rM_M_equal : Room := { frames := 2, cells := 0, slots := 0, locals := 46 }
theorem rm_ok_M_M_equal : rM_M_equal.cells = 0 ∧ rM_M_equal.slots = 0 := ⟨rfl, rfl⟩
def M_M_equal_b85 (N : Nat) (v1 : Int32) (v2 : Int32) (σ : SM) : Option (Int32 × SM) := (bd (M_M_isSame N v1 v2 σ) (fun (r2 : Int32) (σ3 : SM) => (if zb r2 = true then some (r2, σ3) else none)))
set_option maxRecDepth 100000 in
set_option maxHeartbeats 4000000 in
theorem J_M_M_equal_b85 (K : jx_E) (D : va_G) (A : Nat → Prop) (ad : Nat → Nat) (cA : Nat → ClassId) (N : Nat) (h : jx_ok K D clM (tysM cA) A 5 b_M_equal y_M_equal.cls ((Cond.code y_M_equal b_M_equal 5 (some .boolean)) :: tblG) rM_M_equal (some .boolean)) : ∀ (v1 : Int32) (v2 : Int32) (σ : SM), J K D clM A 5 (wM ad cA) (jx_Qi K D clM (tysM cA) (wM ad cA) A) 0 0 85 [(0, .ref (ad 0)), (1, .int v1), (2, .int v2)] [] σ (M_M_equal_b85 N v1 v2 σ) := by
  intro v1 v2 σ
  rw [M_M_equal_b85]
  refine J_aload_n (q := 0) h d_M_equal_85 rfl rfl ?_
  refine J_iload_n (q := 1) h d_M_equal_86 rfl rfl ?_
  refine J_iload_n (q := 2) h d_M_equal_87 rfl rfl ?_
  refine J_callVi (As := [.int v1, .int v2]) (st := []) (rmc := rM_M_isSame) (q0 := 0) h (fun _ _ hf => cM_M_isSame (jl K) D ad cA N v1 v2 σ _ _ hf) (gd_V q_5_197 q_5_199 q_s_53 q_1_12 q_5_200) rfl ⟨rfl, rfl⟩ dd_M_isSame ⟨Nat.le_of_ble_eq_true rfl, Nat.le_of_ble_eq_true rfl⟩ rfl rfl (wM_0 ad cA σ) rfl rfl (Nat.le_of_ble_eq_true rfl) ⟨Nat.zero_le _, Nat.zero_le _⟩ d_M_equal_88 (fun r2 σ3 => ?_)
  exact J_zretc h rfl d_M_equal_91
def M_M_equal_b205 (N : Nat) (v1 : Int32) (v2 : Int32) (σ : SM) : Option (Int32 × SM) := (if ck v1 500 = true then (if ck v2 500 = true then (bd (M_M_then 3 (aM_M_one σ v1.toNatClampNeg) (aM_M_one σ v2.toNatClampNeg) σ) (fun (r8 : Int32) (σ9 : SM) => (if zb r8 = true then some (r8, σ9) else none))) else none) else none)
set_option maxRecDepth 100000 in
set_option maxHeartbeats 4000000 in
theorem J_M_M_equal_b205 (K : jx_E) (D : va_G) (A : Nat → Prop) (ad : Nat → Nat) (cA : Nat → ClassId) (N : Nat) (h : jx_ok K D clM (tysM cA) A 5 b_M_equal y_M_equal.cls ((Cond.code y_M_equal b_M_equal 5 (some .boolean)) :: tblG) rM_M_equal (some .boolean)) : ∀ (v1 : Int32) (v2 : Int32) (σ : SM), J K D clM A 5 (wM ad cA) (jx_Qi K D clM (tysM cA) (wM ad cA) A) 0 0 205 [(0, .ref (ad 0)), (1, .int v1), (2, .int v2)] [] σ (M_M_equal_b205 N v1 v2 σ) := by
  intro v1 v2 σ
  rw [M_M_equal_b205]
  refine J_aload_n (q := 0) h d_M_equal_205 rfl rfl ?_
  refine J_iconst (v := 3) h d_M_equal_206 (by decide) ?_
  refine J_aload_n (q := 0) h d_M_equal_207 rfl rfl ?_
  refine J_getf h 0 (wM_0 ad cA σ) (tb_ups in_M) rfl 6 (by decide) (tb_up q_4_88) rfl d_M_equal_208 ?_
  refine J_iload_n (q := 1) h d_M_equal_211 rfl rfl ?_
  refine J_iald h 6 5 (wM_6 ad cA σ) rfl d_M_equal_212 ?_
  refine J_aload_n (q := 0) h d_M_equal_213 rfl rfl ?_
  refine J_getf h 0 (wM_0 ad cA σ) (tb_ups in_M) rfl 6 (by decide) (tb_up q_4_88) rfl d_M_equal_214 ?_
  refine J_iload_n (q := 2) h d_M_equal_217 rfl rfl ?_
  refine J_iald h 6 5 (wM_6 ad cA σ) rfl d_M_equal_218 ?_
  refine J_callVi (As := [.int 3, .int (aM_M_one σ v1.toNatClampNeg), .int (aM_M_one σ v2.toNatClampNeg)]) (st := []) (rmc := rM_M_then) (q0 := 0) h (fun _ _ hf => cM_M_then (jl K) D ad cA 3 (aM_M_one σ v1.toNatClampNeg) (aM_M_one σ v2.toNatClampNeg) σ _ _ hf) (gd_V q_5_173 q_5_175 q_s_47 q_1_12 q_5_176) rfl ⟨rfl, rfl⟩ dd_M_then ⟨Nat.le_of_ble_eq_true rfl, Nat.le_of_ble_eq_true rfl⟩ rfl rfl (wM_0 ad cA σ) rfl rfl (Nat.le_of_ble_eq_true rfl) ⟨Nat.zero_le _, Nat.zero_le _⟩ d_M_equal_219 (fun r8 σ9 => ?_)
  exact J_zretc h rfl d_M_equal_222
def M_M_equal_b223 (N : Nat) (v1 : Int32) (v2 : Int32) (v3 : Int32) (σ : SM) : Option (Int32 × SM) := (if v3 = 2 then (if ck v1 500 = true then (if ck v2 500 = true then (if (aM_M_one σ v1.toNatClampNeg) = (aM_M_one σ v2.toNatClampNeg) then (if ck v1 500 = true then (if (aM_M_one σ v1.toNatClampNeg) ≤ 0 then (some (0, σ)) else (if ck v1 500 = true then (if ck v2 500 = true then (bd (M_M_then 3 (aM_M_two σ v1.toNatClampNeg) (aM_M_two σ v2.toNatClampNeg) σ) (fun (r10 : Int32) (σ11 : SM) => (if r10 = 0 then (some (0, σ11)) else (some (1, σ11))))) else none) else none)) else none) else (some (0, σ))) else none) else none) else (some (0, σ)))
set_option maxRecDepth 100000 in
set_option maxHeartbeats 4000000 in
theorem J_M_M_equal_b223 (K : jx_E) (D : va_G) (A : Nat → Prop) (ad : Nat → Nat) (cA : Nat → ClassId) (N : Nat) (h : jx_ok K D clM (tysM cA) A 5 b_M_equal y_M_equal.cls ((Cond.code y_M_equal b_M_equal 5 (some .boolean)) :: tblG) rM_M_equal (some .boolean)) : ∀ (v1 : Int32) (v2 : Int32) (v3 : Int32) (σ : SM), J K D clM A 5 (wM ad cA) (jx_Qi K D clM (tysM cA) (wM ad cA) A) 0 0 223 [(0, .ref (ad 0)), (1, .int v1), (2, .int v2), (3, .int v3)] [] σ (M_M_equal_b223 N v1 v2 v3 σ) := by
  intro v1 v2 v3 σ
  rw [M_M_equal_b223]
  refine J_iload_n (q := 3) h d_M_equal_223 rfl rfl ?_
  refine J_iconst (v := 2) h d_M_equal_224 (by decide) ?_
  refine J_icmp_ne (tgt := 276) h d_M_equal_225 (by decide) ?_ ?_
  · refine J_aload_n (q := 0) h d_M_equal_228 rfl rfl ?_
    refine J_getf h 0 (wM_0 ad cA σ) (tb_ups in_M) rfl 6 (by decide) (tb_up q_4_88) rfl d_M_equal_229 ?_
    refine J_iload_n (q := 1) h d_M_equal_232 rfl rfl ?_
    refine J_iald h 6 5 (wM_6 ad cA σ) rfl d_M_equal_233 ?_
    refine J_aload_n (q := 0) h d_M_equal_234 rfl rfl ?_
    refine J_getf h 0 (wM_0 ad cA σ) (tb_ups in_M) rfl 6 (by decide) (tb_up q_4_88) rfl d_M_equal_235 ?_
    refine J_iload_n (q := 2) h d_M_equal_238 rfl rfl ?_
    refine J_iald h 6 5 (wM_6 ad cA σ) rfl d_M_equal_239 ?_
    refine J_icmp_ne (tgt := 276) h d_M_equal_240 (by decide) ?_ ?_
    · refine J_aload_n (q := 0) h d_M_equal_243 rfl rfl ?_
      refine J_getf h 0 (wM_0 ad cA σ) (tb_ups in_M) rfl 6 (by decide) (tb_up q_4_88) rfl d_M_equal_244 ?_
      refine J_iload_n (q := 1) h d_M_equal_247 rfl rfl ?_
      refine J_iald h 6 5 (wM_6 ad cA σ) rfl d_M_equal_248 ?_
      refine J_if_le (tgt := 276) h d_M_equal_249 (by decide) ?_ ?_
      · refine J_iconst (v := 0) h d_M_equal_276 (by decide) ?_
        exact J_zret h rfl (by decide) d_M_equal_277
      · refine J_aload_n (q := 0) h d_M_equal_252 rfl rfl ?_
        refine J_iconst (v := 3) h d_M_equal_253 (by decide) ?_
        refine J_aload_n (q := 0) h d_M_equal_254 rfl rfl ?_
        refine J_getf h 0 (wM_0 ad cA σ) (tb_ups in_M) rfl 7 (by decide) (tb_up q_4_89) rfl d_M_equal_255 ?_
        refine J_iload_n (q := 1) h d_M_equal_258 rfl rfl ?_
        refine J_iald h 7 6 (wM_7 ad cA σ) rfl d_M_equal_259 ?_
        refine J_aload_n (q := 0) h d_M_equal_260 rfl rfl ?_
        refine J_getf h 0 (wM_0 ad cA σ) (tb_ups in_M) rfl 7 (by decide) (tb_up q_4_89) rfl d_M_equal_261 ?_
        refine J_iload_n (q := 2) h d_M_equal_264 rfl rfl ?_
        refine J_iald h 7 6 (wM_7 ad cA σ) rfl d_M_equal_265 ?_
        refine J_callVi (As := [.int 3, .int (aM_M_two σ v1.toNatClampNeg), .int (aM_M_two σ v2.toNatClampNeg)]) (st := []) (rmc := rM_M_then) (q0 := 0) h (fun _ _ hf => cM_M_then (jl K) D ad cA 3 (aM_M_two σ v1.toNatClampNeg) (aM_M_two σ v2.toNatClampNeg) σ _ _ hf) (gd_V q_5_173 q_5_175 q_s_47 q_1_12 q_5_176) rfl ⟨rfl, rfl⟩ dd_M_then ⟨Nat.le_of_ble_eq_true rfl, Nat.le_of_ble_eq_true rfl⟩ rfl rfl (wM_0 ad cA σ) rfl rfl (Nat.le_of_ble_eq_true rfl) ⟨Nat.zero_le _, Nat.zero_le _⟩ d_M_equal_266 (fun r10 σ11 => ?_)
        refine J_if_eq (tgt := 276) h d_M_equal_269 (by decide) ?_ ?_
        · refine J_iconst (v := 0) h d_M_equal_276 (by decide) ?_
          exact J_zret h rfl (by decide) d_M_equal_277
        · refine J_iconst (v := 1) h d_M_equal_272 (by decide) ?_
          refine J_goto (tgt := 277) h d_M_equal_273 (by decide) ?_
          exact J_zret h rfl (by decide) d_M_equal_277
    · refine J_iconst (v := 0) h d_M_equal_276 (by decide) ?_
      exact J_zret h rfl (by decide) d_M_equal_277
  · refine J_iconst (v := 0) h d_M_equal_276 (by decide) ?_
    exact J_zret h rfl (by decide) d_M_equal_277
def M_M_equal_b179 (N : Nat) (v1 : Int32) (v2 : Int32) (v3 : Int32) (σ : SM) : Option (Int32 × SM) := (if v3 = 4 then (M_M_equal_b205 N v1 v2 σ) else (if v3 = 8 then (if ck v1 500 = true then (if ck v2 500 = true then (if (aM_M_two σ v1.toNatClampNeg) = (aM_M_two σ v2.toNatClampNeg) then (M_M_equal_b205 N v1 v2 σ) else (M_M_equal_b223 N v1 v2 v3 σ)) else none) else none) else (M_M_equal_b223 N v1 v2 v3 σ)))
set_option maxRecDepth 100000 in
set_option maxHeartbeats 4000000 in
theorem J_M_M_equal_b179 (K : jx_E) (D : va_G) (A : Nat → Prop) (ad : Nat → Nat) (cA : Nat → ClassId) (N : Nat) (h : jx_ok K D clM (tysM cA) A 5 b_M_equal y_M_equal.cls ((Cond.code y_M_equal b_M_equal 5 (some .boolean)) :: tblG) rM_M_equal (some .boolean)) : ∀ (v1 : Int32) (v2 : Int32) (v3 : Int32) (σ : SM), J K D clM A 5 (wM ad cA) (jx_Qi K D clM (tysM cA) (wM ad cA) A) 0 0 179 [(0, .ref (ad 0)), (1, .int v1), (2, .int v2), (3, .int v3)] [] σ (M_M_equal_b179 N v1 v2 v3 σ) := by
  intro v1 v2 v3 σ
  rw [M_M_equal_b179]
  refine J_iload_n (q := 3) h d_M_equal_179 rfl rfl ?_
  refine J_iconst (v := 4) h d_M_equal_180 (by decide) ?_
  refine J_icmp_eq (tgt := 205) h d_M_equal_181 (by decide) ?_ ?_
  · refine J_sub [0, 1, 2] rfl ?_
    exact J_M_M_equal_b205 K D A ad cA N h v1 v2 σ
  · refine J_iload_n (q := 3) h d_M_equal_184 rfl rfl ?_
    refine J_bipush (v := 8) h d_M_equal_185 (by decide) ?_
    refine J_icmp_ne (tgt := 223) h d_M_equal_187 (by decide) ?_ ?_
    · refine J_aload_n (q := 0) h d_M_equal_190 rfl rfl ?_
      refine J_getf h 0 (wM_0 ad cA σ) (tb_ups in_M) rfl 7 (by decide) (tb_up q_4_89) rfl d_M_equal_191 ?_
      refine J_iload_n (q := 1) h d_M_equal_194 rfl rfl ?_
      refine J_iald h 7 6 (wM_7 ad cA σ) rfl d_M_equal_195 ?_
      refine J_aload_n (q := 0) h d_M_equal_196 rfl rfl ?_
      refine J_getf h 0 (wM_0 ad cA σ) (tb_ups in_M) rfl 7 (by decide) (tb_up q_4_89) rfl d_M_equal_197 ?_
      refine J_iload_n (q := 2) h d_M_equal_200 rfl rfl ?_
      refine J_iald h 7 6 (wM_7 ad cA σ) rfl d_M_equal_201 ?_
      refine J_icmp_ne (tgt := 223) h d_M_equal_202 (by decide) ?_ ?_
      · refine J_sub [0, 1, 2] rfl ?_
        exact J_M_M_equal_b205 K D A ad cA N h v1 v2 σ
      · exact J_M_M_equal_b223 K D A ad cA N h v1 v2 v3 σ
    · exact J_M_M_equal_b223 K D A ad cA N h v1 v2 v3 σ
def M_M_equal_b27 (N : Nat) (v1 : Int32) (v2 : Int32) (σ : SM) : Option (Int32 × SM) := (if ck v1 500 = true then (nm ((aM_M_kind σ v1.toNatClampNeg)) (fun (y1 : Int32) => (if y1 = 6 then (some (0, σ)) else (if y1 = 5 then (some (0, σ)) else (if ck v2 500 = true then (if (aM_M_kind σ v2.toNatClampNeg) = 6 then (some (0, σ)) else (if ck v2 500 = true then (if (aM_M_kind σ v2.toNatClampNeg) = 5 then (some (0, σ)) else (if y1 = 7 then (M_M_equal_b85 N v1 v2 σ) else (if ck v2 500 = true then (if (aM_M_kind σ v2.toNatClampNeg) = 7 then (M_M_equal_b85 N v1 v2 σ) else (if ck v2 500 = true then (if y1 = (aM_M_kind σ v2.toNatClampNeg) then (if y1 = 1 then (if ck v1 500 = true then (if ck v2 500 = true then (if (aM_M_one σ v1.toNatClampNeg) = (aM_M_one σ v2.toNatClampNeg) then (if ck v1 500 = true then (if ck v2 500 = true then (bd (M_M_then 3 (aM_M_two σ v1.toNatClampNeg) (aM_M_two σ v2.toNatClampNeg) σ) (fun (r4 : Int32) (σ5 : SM) => (if ck v1 500 = true then (if (aM_M_three σ5 v1.toNatClampNeg) = (-1) then (some (1, σ5)) else (if ck v1 500 = true then (if ck v2 500 = true then (bd (M_M_then 3 (aM_M_three σ5 v1.toNatClampNeg) (aM_M_three σ5 v2.toNatClampNeg) σ5) (fun (r6 : Int32) (σ7 : SM) => (if r6 = 0 then (some (0, σ7)) else (some (1, σ7))))) else none) else none)) else none))) else none) else none) else (M_M_equal_b179 N v1 v2 y1 σ)) else none) else none) else (M_M_equal_b179 N v1 v2 y1 σ)) else (some (0, σ))) else none)) else none))) else none)) else none))))) else none)
set_option maxRecDepth 100000 in
set_option maxHeartbeats 4000000 in
theorem J_M_M_equal_b27 (K : jx_E) (D : va_G) (A : Nat → Prop) (ad : Nat → Nat) (cA : Nat → ClassId) (N : Nat) (h : jx_ok K D clM (tysM cA) A 5 b_M_equal y_M_equal.cls ((Cond.code y_M_equal b_M_equal 5 (some .boolean)) :: tblG) rM_M_equal (some .boolean)) : ∀ (v1 : Int32) (v2 : Int32) (σ : SM), J K D clM A 5 (wM ad cA) (jx_Qi K D clM (tysM cA) (wM ad cA) A) 0 0 27 [(0, .ref (ad 0)), (1, .int v1), (2, .int v2)] [] σ (M_M_equal_b27 N v1 v2 σ) := by
  intro v1 v2 σ
  rw [M_M_equal_b27]
  refine J_aload_n (q := 0) h d_M_equal_27 rfl rfl ?_
  refine J_getf h 0 (wM_0 ad cA σ) (tb_ups in_M) rfl 5 (by decide) (tb_up q_4_87) rfl d_M_equal_28 ?_
  refine J_iload_n (q := 1) h d_M_equal_31 rfl rfl ?_
  refine J_iald h 5 4 (wM_5 ad cA σ) rfl d_M_equal_32 ?_
  refine J_nmi (fun y1 => ?_)
  refine J_istore_n (lv' := [(3, .int y1), (0, .ref (ad 0)), (1, .int v1), (2, .int v2)]) h d_M_equal_33 rfl (by decide) rfl ?_
  refine J_iload_n (q := 0) h d_M_equal_34 rfl rfl ?_
  refine J_bipush (v := 6) h d_M_equal_35 (by decide) ?_
  refine J_icmp_eq (tgt := 66) h d_M_equal_37 (by decide) ?_ ?_
  · refine J_iconst (v := 0) h d_M_equal_66 (by decide) ?_
    exact J_zret h rfl (by decide) d_M_equal_67
  · refine J_iload_n (q := 0) h d_M_equal_40 rfl rfl ?_
    refine J_iconst (v := 5) h d_M_equal_41 (by decide) ?_
    refine J_icmp_eq (tgt := 66) h d_M_equal_42 (by decide) ?_ ?_
    · refine J_iconst (v := 0) h d_M_equal_66 (by decide) ?_
      exact J_zret h rfl (by decide) d_M_equal_67
    · refine J_aload_n (q := 1) h d_M_equal_45 rfl rfl ?_
      refine J_getf h 0 (wM_0 ad cA σ) (tb_ups in_M) rfl 5 (by decide) (tb_up q_4_87) rfl d_M_equal_46 ?_
      refine J_iload_n (q := 3) h d_M_equal_49 rfl rfl ?_
      refine J_iald h 5 4 (wM_5 ad cA σ) rfl d_M_equal_50 ?_
      refine J_bipush (v := 6) h d_M_equal_51 (by decide) ?_
      refine J_icmp_eq (tgt := 66) h d_M_equal_53 (by decide) ?_ ?_
      · refine J_iconst (v := 0) h d_M_equal_66 (by decide) ?_
        exact J_zret h rfl (by decide) d_M_equal_67
      · refine J_aload_n (q := 1) h d_M_equal_56 rfl rfl ?_
        refine J_getf h 0 (wM_0 ad cA σ) (tb_ups in_M) rfl 5 (by decide) (tb_up q_4_87) rfl d_M_equal_57 ?_
        refine J_iload_n (q := 3) h d_M_equal_60 rfl rfl ?_
        refine J_iald h 5 4 (wM_5 ad cA σ) rfl d_M_equal_61 ?_
        refine J_iconst (v := 5) h d_M_equal_62 (by decide) ?_
        refine J_icmp_ne (tgt := 68) h d_M_equal_63 (by decide) ?_ ?_
        · refine J_iconst (v := 0) h d_M_equal_66 (by decide) ?_
          exact J_zret h rfl (by decide) d_M_equal_67
        · refine J_iload_n (q := 0) h d_M_equal_68 rfl rfl ?_
          refine J_bipush (v := 7) h d_M_equal_69 (by decide) ?_
          refine J_icmp_eq (tgt := 85) h d_M_equal_71 (by decide) ?_ ?_
          · refine J_sub [1, 2, 3] rfl ?_
            exact J_M_M_equal_b85 K D A ad cA N h v1 v2 σ
          · refine J_aload_n (q := 1) h d_M_equal_74 rfl rfl ?_
            refine J_getf h 0 (wM_0 ad cA σ) (tb_ups in_M) rfl 5 (by decide) (tb_up q_4_87) rfl d_M_equal_75 ?_
            refine J_iload_n (q := 3) h d_M_equal_78 rfl rfl ?_
            refine J_iald h 5 4 (wM_5 ad cA σ) rfl d_M_equal_79 ?_
            refine J_bipush (v := 7) h d_M_equal_80 (by decide) ?_
            refine J_icmp_ne (tgt := 92) h d_M_equal_82 (by decide) ?_ ?_
            · refine J_sub [1, 2, 3] rfl ?_
              exact J_M_M_equal_b85 K D A ad cA N h v1 v2 σ
            · refine J_iload_n (q := 0) h d_M_equal_92 rfl rfl ?_
              refine J_aload_n (q := 1) h d_M_equal_93 rfl rfl ?_
              refine J_getf h 0 (wM_0 ad cA σ) (tb_ups in_M) rfl 5 (by decide) (tb_up q_4_87) rfl d_M_equal_94 ?_
              refine J_iload_n (q := 3) h d_M_equal_97 rfl rfl ?_
              refine J_iald h 5 4 (wM_5 ad cA σ) rfl d_M_equal_98 ?_
              refine J_icmp_eq (tgt := 104) h d_M_equal_99 (by decide) ?_ ?_
              · refine J_iload_n (q := 0) h d_M_equal_104 rfl rfl ?_
                refine J_iconst (v := 1) h d_M_equal_105 (by decide) ?_
                refine J_icmp_ne (tgt := 179) h d_M_equal_106 (by decide) ?_ ?_
                · refine J_aload_n (q := 1) h d_M_equal_109 rfl rfl ?_
                  refine J_getf h 0 (wM_0 ad cA σ) (tb_ups in_M) rfl 6 (by decide) (tb_up q_4_88) rfl d_M_equal_110 ?_
                  refine J_iload_n (q := 2) h d_M_equal_113 rfl rfl ?_
                  refine J_iald h 6 5 (wM_6 ad cA σ) rfl d_M_equal_114 ?_
                  refine J_aload_n (q := 1) h d_M_equal_115 rfl rfl ?_
                  refine J_getf h 0 (wM_0 ad cA σ) (tb_ups in_M) rfl 6 (by decide) (tb_up q_4_88) rfl d_M_equal_116 ?_
                  refine J_iload_n (q := 3) h d_M_equal_119 rfl rfl ?_
                  refine J_iald h 6 5 (wM_6 ad cA σ) rfl d_M_equal_120 ?_
                  refine J_icmp_ne (tgt := 179) h d_M_equal_121 (by decide) ?_ ?_
                  · refine J_aload_n (q := 1) h d_M_equal_124 rfl rfl ?_
                    refine J_iconst (v := 3) h d_M_equal_125 (by decide) ?_
                    refine J_aload_n (q := 1) h d_M_equal_126 rfl rfl ?_
                    refine J_getf h 0 (wM_0 ad cA σ) (tb_ups in_M) rfl 7 (by decide) (tb_up q_4_89) rfl d_M_equal_127 ?_
                    refine J_iload_n (q := 2) h d_M_equal_130 rfl rfl ?_
                    refine J_iald h 7 6 (wM_7 ad cA σ) rfl d_M_equal_131 ?_
                    refine J_aload_n (q := 1) h d_M_equal_132 rfl rfl ?_
                    refine J_getf h 0 (wM_0 ad cA σ) (tb_ups in_M) rfl 7 (by decide) (tb_up q_4_89) rfl d_M_equal_133 ?_
                    refine J_iload_n (q := 3) h d_M_equal_136 rfl rfl ?_
                    refine J_iald h 7 6 (wM_7 ad cA σ) rfl d_M_equal_137 ?_
                    refine J_callVi (As := [.int 3, .int (aM_M_two σ v1.toNatClampNeg), .int (aM_M_two σ v2.toNatClampNeg)]) (st := []) (rmc := rM_M_then) (q0 := 0) h (fun _ _ hf => cM_M_then (jl K) D ad cA 3 (aM_M_two σ v1.toNatClampNeg) (aM_M_two σ v2.toNatClampNeg) σ _ _ hf) (gd_V q_5_173 q_5_175 q_s_47 q_1_12 q_5_176) rfl ⟨rfl, rfl⟩ dd_M_then ⟨Nat.le_of_ble_eq_true rfl, Nat.le_of_ble_eq_true rfl⟩ rfl rfl (wM_0 ad cA σ) rfl rfl (Nat.le_of_ble_eq_true rfl) ⟨Nat.zero_le _, Nat.zero_le _⟩ d_M_equal_138 (fun r4 σ5 => ?_)
                    refine J_istore (lv' := [(4, .int r4), (3, .int y1), (0, .ref (ad 0)), (1, .int v1), (2, .int v2)]) h d_M_equal_141 (by decide) rfl ?_
                    refine J_aload_n (q := 2) h d_M_equal_143 rfl rfl ?_
                    refine J_getf h 0 (wM_0 ad cA σ5) (tb_ups in_M) rfl 8 (by decide) (tb_up q_4_90) rfl d_M_equal_144 ?_
                    refine J_iload_n (q := 3) h d_M_equal_147 rfl rfl ?_
                    refine J_iald h 8 7 (wM_8 ad cA σ5) rfl d_M_equal_148 ?_
                    refine J_iconst (v := (-1)) h d_M_equal_149 (by decide) ?_
                    refine J_icmp_eq (tgt := 173) h d_M_equal_150 (by decide) ?_ ?_
                    · refine J_iconst (v := 1) h d_M_equal_173 (by decide) ?_
                      refine J_goto (tgt := 178) h d_M_equal_174 (by decide) ?_
                      exact J_zret h rfl (by decide) d_M_equal_178
                    · refine J_aload_n (q := 2) h d_M_equal_153 rfl rfl ?_
                      refine J_iconst (v := 3) h d_M_equal_154 (by decide) ?_
                      refine J_aload_n (q := 2) h d_M_equal_155 rfl rfl ?_
                      refine J_getf h 0 (wM_0 ad cA σ5) (tb_ups in_M) rfl 8 (by decide) (tb_up q_4_90) rfl d_M_equal_156 ?_
                      refine J_iload_n (q := 3) h d_M_equal_159 rfl rfl ?_
                      refine J_iald h 8 7 (wM_8 ad cA σ5) rfl d_M_equal_160 ?_
                      refine J_aload_n (q := 2) h d_M_equal_161 rfl rfl ?_
                      refine J_getf h 0 (wM_0 ad cA σ5) (tb_ups in_M) rfl 8 (by decide) (tb_up q_4_90) rfl d_M_equal_162 ?_
                      refine J_iload_n (q := 4) h d_M_equal_165 rfl rfl ?_
                      refine J_iald h 8 7 (wM_8 ad cA σ5) rfl d_M_equal_166 ?_
                      refine J_callVi (As := [.int 3, .int (aM_M_three σ5 v1.toNatClampNeg), .int (aM_M_three σ5 v2.toNatClampNeg)]) (st := []) (rmc := rM_M_then) (q0 := 0) h (fun _ _ hf => cM_M_then (jl K) D ad cA 3 (aM_M_three σ5 v1.toNatClampNeg) (aM_M_three σ5 v2.toNatClampNeg) σ5 _ _ hf) (gd_V q_5_173 q_5_175 q_s_47 q_1_12 q_5_176) rfl ⟨rfl, rfl⟩ dd_M_then ⟨Nat.le_of_ble_eq_true rfl, Nat.le_of_ble_eq_true rfl⟩ rfl rfl (wM_0 ad cA σ5) rfl rfl (Nat.le_of_ble_eq_true rfl) ⟨Nat.zero_le _, Nat.zero_le _⟩ d_M_equal_167 (fun r6 σ7 => ?_)
                      refine J_if_eq (tgt := 177) h d_M_equal_170 (by decide) ?_ ?_
                      · refine J_iconst (v := 0) h d_M_equal_177 (by decide) ?_
                        exact J_zret h rfl (by decide) d_M_equal_178
                      · refine J_iconst (v := 1) h d_M_equal_173 (by decide) ?_
                        refine J_goto (tgt := 178) h d_M_equal_174 (by decide) ?_
                        exact J_zret h rfl (by decide) d_M_equal_178
                  · refine J_sub [1, 2, 3, 0] rfl ?_
                    exact J_M_M_equal_b179 K D A ad cA N h v1 v2 y1 σ
                · refine J_sub [1, 2, 3, 0] rfl ?_
                  exact J_M_M_equal_b179 K D A ad cA N h v1 v2 y1 σ
              · refine J_iconst (v := 0) h d_M_equal_102 (by decide) ?_
                exact J_zret h rfl (by decide) d_M_equal_103
def M_M_equal (N : Nat) (x1 : Int32) (x2 : Int32) (σ : SM) : Option (Int32 × SM) := (if x1 = x2 then (some (1, σ)) else (if ck x1 500 = true then (if (aM_M_proper σ x1.toNatClampNeg) = 0 then (M_M_equal_b27 N x1 x2 σ) else (if ck x2 500 = true then (if (aM_M_proper σ x2.toNatClampNeg) = 0 then (M_M_equal_b27 N x1 x2 σ) else (some (0, σ))) else none)) else none))
set_option maxRecDepth 100000 in
set_option maxHeartbeats 4000000 in
theorem J_M_M_equal (K : jx_E) (D : va_G) (A : Nat → Prop) (ad : Nat → Nat) (cA : Nat → ClassId) (N : Nat) (h : jx_ok K D clM (tysM cA) A 5 b_M_equal y_M_equal.cls ((Cond.code y_M_equal b_M_equal 5 (some .boolean)) :: tblG) rM_M_equal (some .boolean)) : ∀ (x1 : Int32) (x2 : Int32) (σ : SM), J K D clM A 5 (wM ad cA) (jx_Qi K D clM (tysM cA) (wM ad cA) A) 0 0 0 [(0, .ref (ad 0)), (1, .int x1), (2, .int x2)] [] σ (M_M_equal N x1 x2 σ) := by
  intro x1 x2 σ
  rw [M_M_equal]
  refine J_iload_n (q := 1) h d_M_equal_0 rfl rfl ?_
  refine J_iload_n (q := 2) h d_M_equal_1 rfl rfl ?_
  refine J_icmp_ne (tgt := 7) h d_M_equal_2 (by decide) ?_ ?_
  · refine J_iconst (v := 1) h d_M_equal_5 (by decide) ?_
    exact J_zret h rfl (by decide) d_M_equal_6
  · refine J_aload_n (q := 0) h d_M_equal_7 rfl rfl ?_
    refine J_getf h 0 (wM_0 ad cA σ) (tb_ups in_M) rfl 10 (by decide) (tb_up q_4_92) rfl d_M_equal_8 ?_
    refine J_iload_n (q := 1) h d_M_equal_11 rfl rfl ?_
    refine J_zald h 10 9 (wM_10 ad cA σ) rfl d_M_equal_12 ?_
    refine J_if_eq (tgt := 27) h d_M_equal_13 (by decide) ?_ ?_
    · exact J_M_M_equal_b27 K D A ad cA N h x1 x2 σ
    · refine J_aload_n (q := 0) h d_M_equal_16 rfl rfl ?_
      refine J_getf h 0 (wM_0 ad cA σ) (tb_ups in_M) rfl 10 (by decide) (tb_up q_4_92) rfl d_M_equal_17 ?_
      refine J_iload_n (q := 2) h d_M_equal_20 rfl rfl ?_
      refine J_zald h 10 9 (wM_10 ad cA σ) rfl d_M_equal_21 ?_
      refine J_if_eq (tgt := 27) h d_M_equal_22 (by decide) ?_ ?_
      · exact J_M_M_equal_b27 K D A ad cA N h x1 x2 σ
      · refine J_iconst (v := 0) h d_M_equal_25 (by decide) ?_
        exact J_zret h rfl (by decide) d_M_equal_26
set_option maxRecDepth 100000 in
theorem cM_M_equal (l : Launch) (D : va_G) (ad : Nat → Nat) (cA : Nat → ClassId) (N : Nat) (x1 : Int32) (x2 : Int32) (σ : SM) (r : Int32) (σ' : SM) (hf : M_M_equal N x1 x2 σ = some (r, σ')) : MetI l y_M_equal ((Cond.code y_M_equal b_M_equal 5 (some .boolean)) :: tblG) rM_M_equal D clM (tysM cA) (wM ad cA) [.ref (ad 0), .int x1, .int x2] σ r σ' :=
  jx_metI (by decide) rfl (Nat.le_of_ble_eq_true rfl) (fun K A h => J_M_M_equal K D A ad cA N h x1 x2 σ) hf
def rM_M_step : Room := { frames := 5, cells := 0, slots := 0, locals := 129 }
theorem rm_ok_M_M_step : rM_M_step.cells = 0 ∧ rM_M_step.slots = 0 := ⟨rfl, rfl⟩
def M_M_step (N : Nat) (x1 : Int32) (x2 : Int32) (x3 : Int32) (σ : SM) : Option (Int32 × SM) := (if x1 = 0 then (bd (M_M_compatible N x2 x3 σ) (fun (r1 : Int32) (σ2 : SM) => (if zb r1 = true then some (r1, σ2) else none))) else (if x1 = 1 then (bd (M_M_sub N x2 x3 σ) (fun (r3 : Int32) (σ4 : SM) => (if zb r3 = true then some (r3, σ4) else none))) else (if x1 = 2 then (bd (M_M_contained N x2 x3 σ) (fun (r5 : Int32) (σ6 : SM) => (if zb r5 = true then some (r5, σ6) else none))) else (bd (M_M_equal N x2 x3 σ) (fun (r7 : Int32) (σ8 : SM) => (if zb r7 = true then some (r7, σ8) else none))))))
set_option maxRecDepth 100000 in
set_option maxHeartbeats 4000000 in
theorem J_M_M_step (K : jx_E) (D : va_G) (A : Nat → Prop) (ad : Nat → Nat) (cA : Nat → ClassId) (N : Nat) (h : jx_ok K D clM (tysM cA) A 4 b_M_step y_M_step.cls ((Cond.code y_M_step b_M_step 4 (some .boolean)) :: tblG) rM_M_step (some .boolean)) : ∀ (x1 : Int32) (x2 : Int32) (x3 : Int32) (σ : SM), J K D clM A 4 (wM ad cA) (jx_Qi K D clM (tysM cA) (wM ad cA) A) 0 0 0 [(0, .ref (ad 0)), (1, .int x1), (2, .int x2), (3, .int x3)] [] σ (M_M_step N x1 x2 x3 σ) := by
  intro x1 x2 x3 σ
  rw [M_M_step]
  refine J_iload_n (q := 1) h d_M_step_0 rfl rfl ?_
  refine J_if (fun c0 => ?_) (fun c0 => ?_)
  · refine J_tblIn (v := 0) (off := 27) (tgt := 28) h c0 d_M_step_1 (by decide) (by decide) (by decide) (by decide) ?_
    refine J_aload_n (q := 0) h d_M_step_28 rfl rfl ?_
    refine J_iload_n (q := 2) h d_M_step_29 rfl rfl ?_
    refine J_iload_n (q := 3) h d_M_step_30 rfl rfl ?_
    refine J_callVi (As := [.int x2, .int x3]) (st := []) (rmc := rM_M_compatible) (q0 := 0) h (fun _ _ hf => cM_M_compatible (jl K) D ad cA N x2 x3 σ _ _ hf) (gd_V q_5_162 q_5_164 q_s_45 q_1_12 q_5_165) rfl ⟨rfl, rfl⟩ dd_M_compatible ⟨Nat.le_of_ble_eq_true rfl, Nat.le_of_ble_eq_true rfl⟩ rfl rfl (wM_0 ad cA σ) rfl rfl (Nat.le_of_ble_eq_true rfl) ⟨Nat.zero_le _, Nat.zero_le _⟩ d_M_step_31 (fun r1 σ2 => ?_)
    exact J_zretc h rfl d_M_step_34
  refine J_if (fun c1 => ?_) (fun c1 => ?_)
  · refine J_tblIn (v := 1) (off := 34) (tgt := 35) h c1 d_M_step_1 (by decide) (by decide) (by decide) (by decide) ?_
    refine J_aload_n (q := 0) h d_M_step_35 rfl rfl ?_
    refine J_iload_n (q := 2) h d_M_step_36 rfl rfl ?_
    refine J_iload_n (q := 3) h d_M_step_37 rfl rfl ?_
    refine J_callVi (As := [.int x2, .int x3]) (st := []) (rmc := rM_M_sub) (q0 := 0) h (fun _ _ hf => cM_M_sub (jl K) D ad cA N x2 x3 σ _ _ hf) (gd_V q_5_177 q_5_179 q_s_48 q_1_12 q_5_180) rfl ⟨rfl, rfl⟩ dd_M_sub ⟨Nat.le_of_ble_eq_true rfl, Nat.le_of_ble_eq_true rfl⟩ rfl rfl (wM_0 ad cA σ) rfl rfl (Nat.le_of_ble_eq_true rfl) ⟨Nat.zero_le _, Nat.zero_le _⟩ d_M_step_38 (fun r3 σ4 => ?_)
    exact J_zretc h rfl d_M_step_41
  refine J_if (fun c2 => ?_) (fun c2 => ?_)
  · refine J_tblIn (v := 2) (off := 41) (tgt := 42) h c2 d_M_step_1 (by decide) (by decide) (by decide) (by decide) ?_
    refine J_aload_n (q := 0) h d_M_step_42 rfl rfl ?_
    refine J_iload_n (q := 2) h d_M_step_43 rfl rfl ?_
    refine J_iload_n (q := 3) h d_M_step_44 rfl rfl ?_
    refine J_callVi (As := [.int x2, .int x3]) (st := []) (rmc := rM_M_contained) (q0 := 0) h (fun _ _ hf => cM_M_contained (jl K) D ad cA N x2 x3 σ _ _ hf) (gd_V q_5_189 q_5_191 q_s_51 q_1_12 q_5_192) rfl ⟨rfl, rfl⟩ dd_M_contained ⟨Nat.le_of_ble_eq_true rfl, Nat.le_of_ble_eq_true rfl⟩ rfl rfl (wM_0 ad cA σ) rfl rfl (Nat.le_of_ble_eq_true rfl) ⟨Nat.zero_le _, Nat.zero_le _⟩ d_M_step_45 (fun r5 σ6 => ?_)
    exact J_zretc h rfl d_M_step_48
  refine J_tblOut (tgt := 49) h (by have t0 := lv_neT (a := 0) c0 (by decide); have t1 := lv_neT (a := 1) c1 (by decide); have t2 := lv_neT (a := 2) c2 (by decide); omega) d_M_step_1 (by decide) ?_
  refine J_aload_n (q := 0) h d_M_step_49 rfl rfl ?_
  refine J_iload_n (q := 2) h d_M_step_50 rfl rfl ?_
  refine J_iload_n (q := 3) h d_M_step_51 rfl rfl ?_
  refine J_callVi (As := [.int x2, .int x3]) (st := []) (rmc := rM_M_equal) (q0 := 0) h (fun _ _ hf => cM_M_equal (jl K) D ad cA N x2 x3 σ _ _ hf) (gd_V q_5_193 q_5_195 q_s_52 q_1_12 q_5_196) rfl ⟨rfl, rfl⟩ dd_M_equal ⟨Nat.le_of_ble_eq_true rfl, Nat.le_of_ble_eq_true rfl⟩ rfl rfl (wM_0 ad cA σ) rfl rfl (Nat.le_of_ble_eq_true rfl) ⟨Nat.zero_le _, Nat.zero_le _⟩ d_M_step_52 (fun r7 σ8 => ?_)
  exact J_zretc h rfl d_M_step_55
set_option maxRecDepth 100000 in
theorem cM_M_step (l : Launch) (D : va_G) (ad : Nat → Nat) (cA : Nat → ClassId) (N : Nat) (x1 : Int32) (x2 : Int32) (x3 : Int32) (σ : SM) (r : Int32) (σ' : SM) (hf : M_M_step N x1 x2 x3 σ = some (r, σ')) : MetI l y_M_step ((Cond.code y_M_step b_M_step 4 (some .boolean)) :: tblG) rM_M_step D clM (tysM cA) (wM ad cA) [.ref (ad 0), .int x1, .int x2, .int x3] σ r σ' :=
  jx_metI (by decide) rfl (Nat.le_of_ble_eq_true rfl) (fun K A h => J_M_M_step K D A ad cA N h x1 x2 x3 σ) hf
def rM_M_less : Room := { frames := 6, cells := 0, slots := 0, locals := 152 }
theorem rm_ok_M_M_less : rM_M_less.cells = 0 ∧ rM_M_less.slots = 0 := ⟨rfl, rfl⟩
def M_M_less_L198 (N : Nat) (k282 : SM → Option (Int32 × SM)) : Nat → Int32 → SM → Option (Int32 × SM)
  | 0, _, _ => none
  | n + 1, v5, σ => (if v5 < 0 then (k282  σ) else (if ck v5 2 = true then (if ck (gM_M_lesses σ) 200 = true then (nm (tM_M_lessSort σ (upd (aM_M_lessSort σ) (gM_M_lesses σ).toNatClampNeg (aM_M_nextSort σ v5.toNatClampNeg))) (fun (σ15 : SM) => (if ck v5 2 = true then (if ck (gM_M_lesses σ15) 200 = true then (nm (tM_M_lessLeft σ15 (upd (aM_M_lessLeft σ15) (gM_M_lesses σ15).toNatClampNeg (aM_M_nextLeft σ15 v5.toNatClampNeg))) (fun (σ16 : SM) => (if ck v5 2 = true then (if ck (gM_M_lesses σ16) 200 = true then (nm (tM_M_lessRight σ16 (upd (aM_M_lessRight σ16) (gM_M_lesses σ16).toNatClampNeg (aM_M_nextRight σ16 v5.toNatClampNeg))) (fun (σ17 : SM) => (if ck (gM_M_lesses σ17) 200 = true then (nm (tM_M_lessDeep σ17 (upd (aM_M_lessDeep σ17) (gM_M_lesses σ17).toNatClampNeg ((gM_M_deepNow σ17) + 1))) (fun (σ18 : SM) => (nm (sM_M_lesses σ18 ((gM_M_lesses σ18) + 1)) (fun (σ19 : SM) => (nm (v5 + (-1)) (fun (y20 : Int32) => (M_M_less_L198 N k282 n y20 σ19))))))) else none))) else none) else none))) else none) else none))) else none) else none))
set_option maxRecDepth 100000 in
set_option maxHeartbeats 4000000 in
theorem J_M_M_less_L198 (K : jx_E) (D : va_G) (A : Nat → Prop) (ad : Nat → Nat) (cA : Nat → ClassId) (N : Nat) (h : jx_ok K D clM (tysM cA) A 6 b_M_less y_M_less.cls ((Cond.code y_M_less b_M_less 6 (some .boolean)) :: tblG) rM_M_less (some .boolean)) (k282 : SM → Option (Int32 × SM)) (hk282 : ∀  (σ : SM), J K D clM A 6 (wM ad cA) (jx_Qi K D clM (tysM cA) (wM ad cA) A) 0 0 282 [(0, .ref (ad 0))] [] σ (k282  σ)) : ∀ (n : Nat) (v5 : Int32) (σ : SM), J K D clM A 6 (wM ad cA) (jx_Qi K D clM (tysM cA) (wM ad cA) A) 0 0 198 [(0, .ref (ad 0)), (5, .int v5)] [] σ (M_M_less_L198 N k282 n v5 σ) := by
  intro n
  induction n with
  | zero => intro v5 σ; exact J_none
  | succ n ih =>
    intro v5 σ
    rw [M_M_less_L198]
    refine J_iload (q := 1) h d_M_less_198 rfl ?_
    refine J_if_lt (tgt := 282) h d_M_less_200 (by decide) ?_ ?_
    · refine J_sub [0] rfl ?_
      exact hk282  σ
    · refine J_aload_n (q := 0) h d_M_less_203 rfl rfl ?_
      refine J_getf h 0 (wM_0 ad cA σ) (tb_ups in_M) rfl 29 (by decide) (tb_up q_4_111) rfl d_M_less_204 ?_
      refine J_aload_n (q := 0) h d_M_less_207 rfl rfl ?_
      refine J_getf h 0 (wM_0 ad cA σ) (tb_ups in_M) rfl 33 (by decide) (tb_up q_4_115) rfl d_M_less_208 ?_
      refine J_aload_n (q := 0) h d_M_less_211 rfl rfl ?_
      refine J_getf h 0 (wM_0 ad cA σ) (tb_ups in_M) rfl 41 (by decide) (tb_up q_4_123) rfl d_M_less_212 ?_
      refine J_iload (q := 1) h d_M_less_215 rfl ?_
      refine J_iald h 27 26 (wM_27 ad cA σ) rfl d_M_less_217 ?_
      refine J_iast h 23 22 (wM_23 ad cA σ) rfl (uM_23 ad cA σ _) d_M_less_218 (fun σ15 => ?_)
      refine J_aload_n (q := 0) h d_M_less_219 rfl rfl ?_
      refine J_getf h 0 (wM_0 ad cA σ15) (tb_ups in_M) rfl 30 (by decide) (tb_up q_4_112) rfl d_M_less_220 ?_
      refine J_aload_n (q := 0) h d_M_less_223 rfl rfl ?_
      refine J_getf h 0 (wM_0 ad cA σ15) (tb_ups in_M) rfl 33 (by decide) (tb_up q_4_115) rfl d_M_less_224 ?_
      refine J_aload_n (q := 0) h d_M_less_227 rfl rfl ?_
      refine J_getf h 0 (wM_0 ad cA σ15) (tb_ups in_M) rfl 42 (by decide) (tb_up q_4_124) rfl d_M_less_228 ?_
      refine J_iload (q := 1) h d_M_less_231 rfl ?_
      refine J_iald h 28 27 (wM_28 ad cA σ15) rfl d_M_less_233 ?_
      refine J_iast h 24 23 (wM_24 ad cA σ15) rfl (uM_24 ad cA σ15 _) d_M_less_234 (fun σ16 => ?_)
      refine J_aload_n (q := 0) h d_M_less_235 rfl rfl ?_
      refine J_getf h 0 (wM_0 ad cA σ16) (tb_ups in_M) rfl 31 (by decide) (tb_up q_4_113) rfl d_M_less_236 ?_
      refine J_aload_n (q := 0) h d_M_less_239 rfl rfl ?_
      refine J_getf h 0 (wM_0 ad cA σ16) (tb_ups in_M) rfl 33 (by decide) (tb_up q_4_115) rfl d_M_less_240 ?_
      refine J_aload_n (q := 0) h d_M_less_243 rfl rfl ?_
      refine J_getf h 0 (wM_0 ad cA σ16) (tb_ups in_M) rfl 43 (by decide) (tb_up q_4_125) rfl d_M_less_244 ?_
      refine J_iload (q := 1) h d_M_less_247 rfl ?_
      refine J_iald h 29 28 (wM_29 ad cA σ16) rfl d_M_less_249 ?_
      refine J_iast h 25 24 (wM_25 ad cA σ16) rfl (uM_25 ad cA σ16 _) d_M_less_250 (fun σ17 => ?_)
      refine J_aload_n (q := 0) h d_M_less_251 rfl rfl ?_
      refine J_getf h 0 (wM_0 ad cA σ17) (tb_ups in_M) rfl 32 (by decide) (tb_up q_4_114) rfl d_M_less_252 ?_
      refine J_aload_n (q := 0) h d_M_less_255 rfl rfl ?_
      refine J_getf h 0 (wM_0 ad cA σ17) (tb_ups in_M) rfl 33 (by decide) (tb_up q_4_115) rfl d_M_less_256 ?_
      refine J_aload_n (q := 0) h d_M_less_259 rfl rfl ?_
      refine J_getf h 0 (wM_0 ad cA σ17) (tb_ups in_M) rfl 34 (by decide) (tb_up q_4_116) rfl d_M_less_260 ?_
      refine J_iconst (v := 1) h d_M_less_263 (by decide) ?_
      refine J_iadd h d_M_less_264 ?_
      refine J_iast h 26 25 (wM_26 ad cA σ17) rfl (uM_26 ad cA σ17 _) d_M_less_265 (fun σ18 => ?_)
      refine J_aload_n (q := 0) h d_M_less_266 rfl rfl ?_
      refine J_dup h d_M_less_267 rfl ?_
      refine J_getf h 0 (wM_0 ad cA σ18) (tb_ups in_M) rfl 33 (by decide) (tb_up q_4_115) rfl d_M_less_268 ?_
      refine J_iconst (v := 1) h d_M_less_271 (by decide) ?_
      refine J_iadd h d_M_less_272 ?_
      refine J_putf h 0 (wM_0 ad cA σ18) (tb_ups in_M) rfl ft_M ft_M_ok nm_M 33 (by decide) (tb_up q_4_115) rfl rfl rfl (Nat.le_of_ble_eq_true rfl) (pM_0_33 ad cA σ18 ((gM_M_lesses σ18) + 1)) d_M_less_273 (fun σ19 => ?_)
      refine J_iinc (q := 1) (c := (-1)) (lv' := fun y20 => [(5, .int y20), (0, .ref (ad 0))]) h d_M_less_276 rfl (by decide) (by decide) (fun _ => rfl) (fun y20 => ?_)
      refine J_goto (tgt := 198) h d_M_less_279 (by decide) ?_
      refine J_sub [1, 0] rfl ?_
      exact ih y20 σ19
def M_M_less_b282 (N : Nat) (k33 : SM → Option (Int32 × SM))  (σ : SM) : Option (Int32 × SM) := (k33  σ)
set_option maxRecDepth 100000 in
set_option maxHeartbeats 4000000 in
theorem J_M_M_less_b282 (K : jx_E) (D : va_G) (A : Nat → Prop) (ad : Nat → Nat) (cA : Nat → ClassId) (N : Nat) (h : jx_ok K D clM (tysM cA) A 6 b_M_less y_M_less.cls ((Cond.code y_M_less b_M_less 6 (some .boolean)) :: tblG) rM_M_less (some .boolean)) (k33 : SM → Option (Int32 × SM)) (hk33 : ∀  (σ : SM), J K D clM A 6 (wM ad cA) (jx_Qi K D clM (tysM cA) (wM ad cA) A) 0 0 33 [(0, .ref (ad 0))] [] σ (k33  σ)) : ∀  (σ : SM), J K D clM A 6 (wM ad cA) (jx_Qi K D clM (tysM cA) (wM ad cA) A) 0 0 282 [(0, .ref (ad 0))] [] σ (M_M_less_b282 N k33  σ) := by
  intro  σ
  rw [M_M_less_b282]
  refine J_goto (tgt := 33) h d_M_less_282 (by decide) ?_
  exact hk33  σ
def M_M_less_b134 (N : Nat) (k33 : SM → Option (Int32 × SM)) (s0 : Int32) (s1 : Int32) (σ : SM) : Option (Int32 × SM) := (nm (sM_M_madeLess σ (s1 + s0)) (fun (σ10 : SM) => (nm (sM_M_nexts σ10 0) (fun (σ11 : SM) => (if ck (gM_M_lesses σ11) 200 = true then (if ck (gM_M_lesses σ11) 200 = true then (if ck (gM_M_lesses σ11) 200 = true then (bd (M_M_step N (aM_M_lessSort σ11 (gM_M_lesses σ11).toNatClampNeg) (aM_M_lessLeft σ11 (gM_M_lesses σ11).toNatClampNeg) (aM_M_lessRight σ11 (gM_M_lesses σ11).toNatClampNeg) σ11) (fun (r12 : Int32) (σ13 : SM) => (if (gM_M_full σ13) = 0 then (if r12 = 0 then (some (0, σ13)) else (nm (((gM_M_nexts σ13) - 1)) (fun (y14 : Int32) => (M_M_less_L198 N (M_M_less_b282 N k33) N y14 σ13)))) else (some (0, σ13))))) else none) else none) else none)))))
set_option maxRecDepth 100000 in
set_option maxHeartbeats 4000000 in
theorem J_M_M_less_b134 (K : jx_E) (D : va_G) (A : Nat → Prop) (ad : Nat → Nat) (cA : Nat → ClassId) (N : Nat) (h : jx_ok K D clM (tysM cA) A 6 b_M_less y_M_less.cls ((Cond.code y_M_less b_M_less 6 (some .boolean)) :: tblG) rM_M_less (some .boolean)) (k33 : SM → Option (Int32 × SM)) (hk33 : ∀  (σ : SM), J K D clM A 6 (wM ad cA) (jx_Qi K D clM (tysM cA) (wM ad cA) A) 0 0 33 [(0, .ref (ad 0))] [] σ (k33  σ)) : ∀ (s0 : Int32) (s1 : Int32) (σ : SM), J K D clM A 6 (wM ad cA) (jx_Qi K D clM (tysM cA) (wM ad cA) A) 0 0 134 [(0, .ref (ad 0))] [.int s0, .int s1, .ref (ad 0)] σ (M_M_less_b134 N k33 s0 s1 σ) := by
  intro s0 s1 σ
  rw [M_M_less_b134]
  refine J_iadd h d_M_less_134 ?_
  refine J_putf h 0 (wM_0 ad cA σ) (tb_ups in_M) rfl ft_M ft_M_ok nm_M 36 (by decide) (tb_up q_4_118) rfl rfl rfl (Nat.le_of_ble_eq_true rfl) (pM_0_36 ad cA σ (s1 + s0)) d_M_less_135 (fun σ10 => ?_)
  refine J_aload_n (q := 0) h d_M_less_138 rfl rfl ?_
  refine J_iconst (v := 0) h d_M_less_139 (by decide) ?_
  refine J_putf h 0 (wM_0 ad cA σ10) (tb_ups in_M) rfl ft_M ft_M_ok nm_M 44 (by decide) (tb_up q_4_126) rfl rfl rfl (Nat.le_of_ble_eq_true rfl) (pM_0_44 ad cA σ10 0) d_M_less_140 (fun σ11 => ?_)
  refine J_aload_n (q := 0) h d_M_less_143 rfl rfl ?_
  refine J_aload_n (q := 0) h d_M_less_144 rfl rfl ?_
  refine J_getf h 0 (wM_0 ad cA σ11) (tb_ups in_M) rfl 29 (by decide) (tb_up q_4_111) rfl d_M_less_145 ?_
  refine J_aload_n (q := 0) h d_M_less_148 rfl rfl ?_
  refine J_getf h 0 (wM_0 ad cA σ11) (tb_ups in_M) rfl 33 (by decide) (tb_up q_4_115) rfl d_M_less_149 ?_
  refine J_iald h 23 22 (wM_23 ad cA σ11) rfl d_M_less_152 ?_
  refine J_aload_n (q := 0) h d_M_less_153 rfl rfl ?_
  refine J_getf h 0 (wM_0 ad cA σ11) (tb_ups in_M) rfl 30 (by decide) (tb_up q_4_112) rfl d_M_less_154 ?_
  refine J_aload_n (q := 0) h d_M_less_157 rfl rfl ?_
  refine J_getf h 0 (wM_0 ad cA σ11) (tb_ups in_M) rfl 33 (by decide) (tb_up q_4_115) rfl d_M_less_158 ?_
  refine J_iald h 24 23 (wM_24 ad cA σ11) rfl d_M_less_161 ?_
  refine J_aload_n (q := 0) h d_M_less_162 rfl rfl ?_
  refine J_getf h 0 (wM_0 ad cA σ11) (tb_ups in_M) rfl 31 (by decide) (tb_up q_4_113) rfl d_M_less_163 ?_
  refine J_aload_n (q := 0) h d_M_less_166 rfl rfl ?_
  refine J_getf h 0 (wM_0 ad cA σ11) (tb_ups in_M) rfl 33 (by decide) (tb_up q_4_115) rfl d_M_less_167 ?_
  refine J_iald h 25 24 (wM_25 ad cA σ11) rfl d_M_less_170 ?_
  refine J_callVi (As := [.int (aM_M_lessSort σ11 (gM_M_lesses σ11).toNatClampNeg), .int (aM_M_lessLeft σ11 (gM_M_lesses σ11).toNatClampNeg), .int (aM_M_lessRight σ11 (gM_M_lesses σ11).toNatClampNeg)]) (st := []) (rmc := rM_M_step) (q0 := 0) h (fun _ _ hf => cM_M_step (jl K) D ad cA N (aM_M_lessSort σ11 (gM_M_lesses σ11).toNatClampNeg) (aM_M_lessLeft σ11 (gM_M_lesses σ11).toNatClampNeg) (aM_M_lessRight σ11 (gM_M_lesses σ11).toNatClampNeg) σ11 _ _ hf) (gd_V q_5_158 q_5_160 q_s_44 q_1_12 q_5_161) rfl ⟨rfl, rfl⟩ dd_M_step ⟨Nat.le_of_ble_eq_true rfl, Nat.le_of_ble_eq_true rfl⟩ rfl rfl (wM_0 ad cA σ11) rfl rfl (Nat.le_of_ble_eq_true rfl) ⟨Nat.zero_le _, Nat.zero_le _⟩ d_M_less_171 (fun r12 σ13 => ?_)
  refine J_istore (lv' := [(4, .int r12), (0, .ref (ad 0))]) h d_M_less_174 (by decide) rfl ?_
  refine J_aload_n (q := 1) h d_M_less_176 rfl rfl ?_
  refine J_getf h 0 (wM_0 ad cA σ13) (tb_ups in_M) rfl 12 (by decide) (tb_up q_4_94) rfl d_M_less_177 ?_
  refine J_if_ne (tgt := 188) h d_M_less_180 (by decide) ?_ ?_
  · refine J_iload (q := 0) h d_M_less_183 rfl ?_
    refine J_if_ne (tgt := 190) h d_M_less_185 (by decide) ?_ ?_
    · refine J_iconst (v := 0) h d_M_less_188 (by decide) ?_
      exact J_zret h rfl (by decide) d_M_less_189
    · refine J_aload_n (q := 1) h d_M_less_190 rfl rfl ?_
      refine J_getf h 0 (wM_0 ad cA σ13) (tb_ups in_M) rfl 44 (by decide) (tb_up q_4_126) rfl d_M_less_191 ?_
      refine J_iconst (v := 1) h d_M_less_194 (by decide) ?_
      refine J_isub h d_M_less_195 ?_
      refine J_nmi (fun y14 => ?_)
      refine J_istore (lv' := [(5, .int y14), (4, .int r12), (0, .ref (ad 0))]) h d_M_less_196 (by decide) rfl ?_
      refine J_sub [2, 0] rfl ?_
      exact J_M_M_less_L198 K D A ad cA N h (M_M_less_b282 N k33) (J_M_M_less_b282 K D A ad cA N h k33 hk33) N y14 σ13
  · refine J_iconst (v := 0) h d_M_less_188 (by decide) ?_
    exact J_zret h rfl (by decide) d_M_less_189
def M_M_less_b95 (N : Nat) (k33 : SM → Option (Int32 × SM)) (s0 : Int32) (σ : SM) : Option (Int32 × SM) := (if zb s0 = true then (nm (sM_M_full σ s0) (fun (σ8 : SM) => (if (gM_M_full σ8) = 0 then (nm (sM_M_inCall σ8 ((gM_M_inCall σ8) + 1)) (fun (σ9 : SM) => (if (gM_M_judging σ9) = 0 then (M_M_less_b134 N k33 1 (gM_M_madeLess σ9) σ9) else (M_M_less_b134 N k33 0 (gM_M_madeLess σ9) σ9)))) else (some (0, σ8))))) else none)
set_option maxRecDepth 100000 in
set_option maxHeartbeats 4000000 in
theorem J_M_M_less_b95 (K : jx_E) (D : va_G) (A : Nat → Prop) (ad : Nat → Nat) (cA : Nat → ClassId) (N : Nat) (h : jx_ok K D clM (tysM cA) A 6 b_M_less y_M_less.cls ((Cond.code y_M_less b_M_less 6 (some .boolean)) :: tblG) rM_M_less (some .boolean)) (k33 : SM → Option (Int32 × SM)) (hk33 : ∀  (σ : SM), J K D clM A 6 (wM ad cA) (jx_Qi K D clM (tysM cA) (wM ad cA) A) 0 0 33 [(0, .ref (ad 0))] [] σ (k33  σ)) : ∀ (s0 : Int32) (σ : SM), J K D clM A 6 (wM ad cA) (jx_Qi K D clM (tysM cA) (wM ad cA) A) 0 0 95 [(0, .ref (ad 0))] [.int s0, .ref (ad 0)] σ (M_M_less_b95 N k33 s0 σ) := by
  intro s0 σ
  rw [M_M_less_b95]
  refine J_putz h 0 (wM_0 ad cA σ) (tb_ups in_M) rfl ft_M ft_M_ok nm_M 12 (by decide) (tb_up q_4_94) rfl rfl (Nat.le_of_ble_eq_true rfl) (pM_0_12 ad cA σ s0) d_M_less_95 (fun σ8 => ?_)
  refine J_aload_n (q := 0) h d_M_less_98 rfl rfl ?_
  refine J_getf h 0 (wM_0 ad cA σ8) (tb_ups in_M) rfl 12 (by decide) (tb_up q_4_94) rfl d_M_less_99 ?_
  refine J_if_eq (tgt := 107) h d_M_less_102 (by decide) ?_ ?_
  · refine J_aload_n (q := 0) h d_M_less_107 rfl rfl ?_
    refine J_dup h d_M_less_108 rfl ?_
    refine J_getf h 0 (wM_0 ad cA σ8) (tb_ups in_M) rfl 35 (by decide) (tb_up q_4_117) rfl d_M_less_109 ?_
    refine J_iconst (v := 1) h d_M_less_112 (by decide) ?_
    refine J_iadd h d_M_less_113 ?_
    refine J_putf h 0 (wM_0 ad cA σ8) (tb_ups in_M) rfl ft_M ft_M_ok nm_M 35 (by decide) (tb_up q_4_117) rfl rfl rfl (Nat.le_of_ble_eq_true rfl) (pM_0_35 ad cA σ8 ((gM_M_inCall σ8) + 1)) d_M_less_114 (fun σ9 => ?_)
    refine J_aload_n (q := 0) h d_M_less_117 rfl rfl ?_
    refine J_dup h d_M_less_118 rfl ?_
    refine J_getf h 0 (wM_0 ad cA σ9) (tb_ups in_M) rfl 36 (by decide) (tb_up q_4_118) rfl d_M_less_119 ?_
    refine J_aload_n (q := 0) h d_M_less_122 rfl rfl ?_
    refine J_getf h 0 (wM_0 ad cA σ9) (tb_ups in_M) rfl 37 (by decide) (tb_up q_4_119) rfl d_M_less_123 ?_
    refine J_if_eq (tgt := 133) h d_M_less_126 (by decide) ?_ ?_
    · refine J_iconst (v := 1) h d_M_less_133 (by decide) ?_
      exact J_M_M_less_b134 K D A ad cA N h k33 hk33 1 (gM_M_madeLess σ9) σ9
    · refine J_iconst (v := 0) h d_M_less_129 (by decide) ?_
      refine J_goto (tgt := 134) h d_M_less_130 (by decide) ?_
      exact J_M_M_less_b134 K D A ad cA N h k33 hk33 0 (gM_M_madeLess σ9) σ9
  · refine J_iconst (v := 0) h d_M_less_105 (by decide) ?_
    exact J_zret h rfl (by decide) d_M_less_106
def M_M_less_b90 (N : Nat) (k33 : SM → Option (Int32 × SM))  (σ : SM) : Option (Int32 × SM) := (M_M_less_b95 N k33 1 σ)
set_option maxRecDepth 100000 in
set_option maxHeartbeats 4000000 in
theorem J_M_M_less_b90 (K : jx_E) (D : va_G) (A : Nat → Prop) (ad : Nat → Nat) (cA : Nat → ClassId) (N : Nat) (h : jx_ok K D clM (tysM cA) A 6 b_M_less y_M_less.cls ((Cond.code y_M_less b_M_less 6 (some .boolean)) :: tblG) rM_M_less (some .boolean)) (k33 : SM → Option (Int32 × SM)) (hk33 : ∀  (σ : SM), J K D clM A 6 (wM ad cA) (jx_Qi K D clM (tysM cA) (wM ad cA) A) 0 0 33 [(0, .ref (ad 0))] [] σ (k33  σ)) : ∀  (σ : SM), J K D clM A 6 (wM ad cA) (jx_Qi K D clM (tysM cA) (wM ad cA) A) 0 0 90 [(0, .ref (ad 0))] [.ref (ad 0)] σ (M_M_less_b90 N k33  σ) := by
  intro  σ
  rw [M_M_less_b90]
  refine J_iconst (v := 1) h d_M_less_90 (by decide) ?_
  refine J_goto (tgt := 95) h d_M_less_91 (by decide) ?_
  exact J_M_M_less_b95 K D A ad cA N h k33 hk33 1 σ
def M_M_less_L33 (N : Nat) : Nat → SM → Option (Int32 × SM)
  | 0, _ => none
  | n + 1, σ => (if (gM_M_lesses σ) ≤ 0 then (some (1, σ)) else (nm (sM_M_lesses σ ((gM_M_lesses σ) - 1)) (fun (σ6 : SM) => (if ck (gM_M_lesses σ6) 200 = true then (nm (sM_M_deepNow σ6 (aM_M_lessDeep σ6 (gM_M_lesses σ6).toNatClampNeg)) (fun (σ7 : SM) => (if (gM_M_full σ7) = 0 then (if (60 : Int32) < (gM_M_deepNow σ7) then (M_M_less_b90 N (M_M_less_L33 N  n)  σ7) else (if (gM_M_inCall σ7) = 20000 then (M_M_less_b90 N (M_M_less_L33 N  n)  σ7) else (M_M_less_b95 N (M_M_less_L33 N  n) 0 σ7))) else (M_M_less_b90 N (M_M_less_L33 N  n)  σ7)))) else none))))
set_option maxRecDepth 100000 in
set_option maxHeartbeats 4000000 in
theorem J_M_M_less_L33 (K : jx_E) (D : va_G) (A : Nat → Prop) (ad : Nat → Nat) (cA : Nat → ClassId) (N : Nat) (h : jx_ok K D clM (tysM cA) A 6 b_M_less y_M_less.cls ((Cond.code y_M_less b_M_less 6 (some .boolean)) :: tblG) rM_M_less (some .boolean)) : ∀ (n : Nat)  (σ : SM), J K D clM A 6 (wM ad cA) (jx_Qi K D clM (tysM cA) (wM ad cA) A) 0 0 33 [(0, .ref (ad 0))] [] σ (M_M_less_L33 N n  σ) := by
  intro n
  induction n with
  | zero => intro  σ; exact J_none
  | succ n ih =>
    intro  σ
    rw [M_M_less_L33]
    refine J_aload_n (q := 0) h d_M_less_33 rfl rfl ?_
    refine J_getf h 0 (wM_0 ad cA σ) (tb_ups in_M) rfl 33 (by decide) (tb_up q_4_115) rfl d_M_less_34 ?_
    refine J_if_le (tgt := 285) h d_M_less_37 (by decide) ?_ ?_
    · refine J_iconst (v := 1) h d_M_less_285 (by decide) ?_
      exact J_zret h rfl (by decide) d_M_less_286
    · refine J_aload_n (q := 0) h d_M_less_40 rfl rfl ?_
      refine J_dup h d_M_less_41 rfl ?_
      refine J_getf h 0 (wM_0 ad cA σ) (tb_ups in_M) rfl 33 (by decide) (tb_up q_4_115) rfl d_M_less_42 ?_
      refine J_iconst (v := 1) h d_M_less_45 (by decide) ?_
      refine J_isub h d_M_less_46 ?_
      refine J_putf h 0 (wM_0 ad cA σ) (tb_ups in_M) rfl ft_M ft_M_ok nm_M 33 (by decide) (tb_up q_4_115) rfl rfl rfl (Nat.le_of_ble_eq_true rfl) (pM_0_33 ad cA σ ((gM_M_lesses σ) - 1)) d_M_less_47 (fun σ6 => ?_)
      refine J_aload_n (q := 0) h d_M_less_50 rfl rfl ?_
      refine J_aload_n (q := 0) h d_M_less_51 rfl rfl ?_
      refine J_getf h 0 (wM_0 ad cA σ6) (tb_ups in_M) rfl 32 (by decide) (tb_up q_4_114) rfl d_M_less_52 ?_
      refine J_aload_n (q := 0) h d_M_less_55 rfl rfl ?_
      refine J_getf h 0 (wM_0 ad cA σ6) (tb_ups in_M) rfl 33 (by decide) (tb_up q_4_115) rfl d_M_less_56 ?_
      refine J_iald h 26 25 (wM_26 ad cA σ6) rfl d_M_less_59 ?_
      refine J_putf h 0 (wM_0 ad cA σ6) (tb_ups in_M) rfl ft_M ft_M_ok nm_M 34 (by decide) (tb_up q_4_116) rfl rfl rfl (Nat.le_of_ble_eq_true rfl) (pM_0_34 ad cA σ6 (aM_M_lessDeep σ6 (gM_M_lesses σ6).toNatClampNeg)) d_M_less_60 (fun σ7 => ?_)
      refine J_aload_n (q := 0) h d_M_less_63 rfl rfl ?_
      refine J_aload_n (q := 0) h d_M_less_64 rfl rfl ?_
      refine J_getf h 0 (wM_0 ad cA σ7) (tb_ups in_M) rfl 12 (by decide) (tb_up q_4_94) rfl d_M_less_65 ?_
      refine J_if_ne (tgt := 90) h d_M_less_68 (by decide) ?_ ?_
      · refine J_aload_n (q := 0) h d_M_less_71 rfl rfl ?_
        refine J_getf h 0 (wM_0 ad cA σ7) (tb_ups in_M) rfl 34 (by decide) (tb_up q_4_116) rfl d_M_less_72 ?_
        refine J_bipush (v := 60) h d_M_less_75 (by decide) ?_
        refine J_icmp_gt (tgt := 90) h d_M_less_77 (by decide) ?_ ?_
        · exact J_M_M_less_b90 K D A ad cA N h (M_M_less_L33 N  n) ih  σ7
        · refine J_aload_n (q := 0) h d_M_less_80 rfl rfl ?_
          refine J_getf h 0 (wM_0 ad cA σ7) (tb_ups in_M) rfl 35 (by decide) (tb_up q_4_117) rfl d_M_less_81 ?_
          refine J_sipush (v := 20000) h d_M_less_84 (by decide) ?_
          refine J_icmp_ne (tgt := 94) h d_M_less_87 (by decide) ?_ ?_
          · exact J_M_M_less_b90 K D A ad cA N h (M_M_less_L33 N  n) ih  σ7
          · refine J_iconst (v := 0) h d_M_less_94 (by decide) ?_
            exact J_M_M_less_b95 K D A ad cA N h (M_M_less_L33 N  n) ih 0 σ7
      · exact J_M_M_less_b90 K D A ad cA N h (M_M_less_L33 N  n) ih  σ7
def M_M_less (N : Nat) (x1 : Int32) (x2 : Int32) (x3 : Int32) (σ : SM) : Option (Int32 × SM) := (nm (sM_M_lesses σ 1) (fun (σ1 : SM) => (if ck 0 200 = true then (nm (tM_M_lessSort σ1 (upd (aM_M_lessSort σ1) (0 : Int32).toNatClampNeg x1)) (fun (σ2 : SM) => (if ck 0 200 = true then (nm (tM_M_lessLeft σ2 (upd (aM_M_lessLeft σ2) (0 : Int32).toNatClampNeg x2)) (fun (σ3 : SM) => (if ck 0 200 = true then (nm (tM_M_lessRight σ3 (upd (aM_M_lessRight σ3) (0 : Int32).toNatClampNeg x3)) (fun (σ4 : SM) => (if ck 0 200 = true then (nm (tM_M_lessDeep σ4 (upd (aM_M_lessDeep σ4) (0 : Int32).toNatClampNeg 1)) (fun (σ5 : SM) => (M_M_less_L33 N N  σ5))) else none))) else none))) else none))) else none)))
set_option maxRecDepth 100000 in
set_option maxHeartbeats 4000000 in
theorem J_M_M_less (K : jx_E) (D : va_G) (A : Nat → Prop) (ad : Nat → Nat) (cA : Nat → ClassId) (N : Nat) (h : jx_ok K D clM (tysM cA) A 6 b_M_less y_M_less.cls ((Cond.code y_M_less b_M_less 6 (some .boolean)) :: tblG) rM_M_less (some .boolean)) : ∀ (x1 : Int32) (x2 : Int32) (x3 : Int32) (σ : SM), J K D clM A 6 (wM ad cA) (jx_Qi K D clM (tysM cA) (wM ad cA) A) 0 0 0 [(0, .ref (ad 0)), (1, .int x1), (2, .int x2), (3, .int x3)] [] σ (M_M_less N x1 x2 x3 σ) := by
  intro x1 x2 x3 σ
  rw [M_M_less]
  refine J_aload_n (q := 0) h d_M_less_0 rfl rfl ?_
  refine J_iconst (v := 1) h d_M_less_1 (by decide) ?_
  refine J_putf h 0 (wM_0 ad cA σ) (tb_ups in_M) rfl ft_M ft_M_ok nm_M 33 (by decide) (tb_up q_4_115) rfl rfl rfl (Nat.le_of_ble_eq_true rfl) (pM_0_33 ad cA σ 1) d_M_less_2 (fun σ1 => ?_)
  refine J_aload_n (q := 0) h d_M_less_5 rfl rfl ?_
  refine J_getf h 0 (wM_0 ad cA σ1) (tb_ups in_M) rfl 29 (by decide) (tb_up q_4_111) rfl d_M_less_6 ?_
  refine J_iconst (v := 0) h d_M_less_9 (by decide) ?_
  refine J_iload_n (q := 1) h d_M_less_10 rfl rfl ?_
  refine J_iast h 23 22 (wM_23 ad cA σ1) rfl (uM_23 ad cA σ1 _) d_M_less_11 (fun σ2 => ?_)
  refine J_aload_n (q := 0) h d_M_less_12 rfl rfl ?_
  refine J_getf h 0 (wM_0 ad cA σ2) (tb_ups in_M) rfl 30 (by decide) (tb_up q_4_112) rfl d_M_less_13 ?_
  refine J_iconst (v := 0) h d_M_less_16 (by decide) ?_
  refine J_iload_n (q := 2) h d_M_less_17 rfl rfl ?_
  refine J_iast h 24 23 (wM_24 ad cA σ2) rfl (uM_24 ad cA σ2 _) d_M_less_18 (fun σ3 => ?_)
  refine J_aload_n (q := 0) h d_M_less_19 rfl rfl ?_
  refine J_getf h 0 (wM_0 ad cA σ3) (tb_ups in_M) rfl 31 (by decide) (tb_up q_4_113) rfl d_M_less_20 ?_
  refine J_iconst (v := 0) h d_M_less_23 (by decide) ?_
  refine J_iload_n (q := 3) h d_M_less_24 rfl rfl ?_
  refine J_iast h 25 24 (wM_25 ad cA σ3) rfl (uM_25 ad cA σ3 _) d_M_less_25 (fun σ4 => ?_)
  refine J_aload_n (q := 0) h d_M_less_26 rfl rfl ?_
  refine J_getf h 0 (wM_0 ad cA σ4) (tb_ups in_M) rfl 32 (by decide) (tb_up q_4_114) rfl d_M_less_27 ?_
  refine J_iconst (v := 0) h d_M_less_30 (by decide) ?_
  refine J_iconst (v := 1) h d_M_less_31 (by decide) ?_
  refine J_iast h 26 25 (wM_26 ad cA σ4) rfl (uM_26 ad cA σ4 _) d_M_less_32 (fun σ5 => ?_)
  refine J_sub [0] rfl ?_
  exact J_M_M_less_L33 K D A ad cA N h N  σ5
set_option maxRecDepth 100000 in
theorem cM_M_less (l : Launch) (D : va_G) (ad : Nat → Nat) (cA : Nat → ClassId) (N : Nat) (x1 : Int32) (x2 : Int32) (x3 : Int32) (σ : SM) (r : Int32) (σ' : SM) (hf : M_M_less N x1 x2 x3 σ = some (r, σ')) : MetI l y_M_less ((Cond.code y_M_less b_M_less 6 (some .boolean)) :: tblG) rM_M_less D clM (tysM cA) (wM ad cA) [.ref (ad 0), .int x1, .int x2, .int x3] σ r σ' :=
  jx_metI (by decide) rfl (Nat.le_of_ble_eq_true rfl) (fun K A h => J_M_M_less K D A ad cA N h x1 x2 x3 σ) hf
