def rM_M_replaced : Room := { frames := 2, cells := 0, slots := 0, locals := 49 }
theorem rm_ok_M_M_replaced : rM_M_replaced.cells = 0 ∧ rM_M_replaced.slots = 0 := ⟨rfl, rfl⟩
def M_M_replaced_b362 (N : Nat) (k32 : Int32 → Int32 → Int32 → Int32 → SM → Option (Int32 × SM)) (v2 : Int32) (v3 : Int32) (v4 : Int32) (v5 : Int32) (σ : SM) : Option (Int32 × SM) := (k32 v2 v3 v4 v5 σ)
set_option maxRecDepth 100000 in
set_option maxHeartbeats 4000000 in
theorem J_M_M_replaced_b362 (K : jx_E) (D : va_G) (A : Nat → Prop) (ad : Nat → Nat) (cA : Nat → ClassId) (N : Nat) (h : jx_ok K D clM (tysM cA) A 9 b_M_replaced y_M_replaced.cls ((Cond.code y_M_replaced b_M_replaced 9 (some .int)) :: tblG) rM_M_replaced (some .int)) (k32 : Int32 → Int32 → Int32 → Int32 → SM → Option (Int32 × SM)) (hk32 : ∀ (v2 : Int32) (v3 : Int32) (v4 : Int32) (v5 : Int32) (σ : SM), J K D clM A 9 (wM ad cA) (jx_Qi K D clM (tysM cA) (wM ad cA) A) 0 0 32 [(0, .ref (ad 0)), (2, .int v2), (3, .int v3), (4, .int v4), (5, .int v5)] [] σ (k32 v2 v3 v4 v5 σ)) : ∀ (v2 : Int32) (v3 : Int32) (v4 : Int32) (v5 : Int32) (σ : SM), J K D clM A 9 (wM ad cA) (jx_Qi K D clM (tysM cA) (wM ad cA) A) 0 0 362 [(0, .ref (ad 0)), (2, .int v2), (3, .int v3), (4, .int v4), (5, .int v5)] [] σ (M_M_replaced_b362 N k32 v2 v3 v4 v5 σ) := by
  intro v2 v3 v4 v5 σ
  rw [M_M_replaced_b362]
  refine J_goto (tgt := 32) h d_M_replaced_362 (by decide) ?_
  exact hk32 v2 v3 v4 v5 σ
def M_M_replaced_b145 (N : Nat) (k32 : Int32 → Int32 → Int32 → Int32 → SM → Option (Int32 × SM)) (v2 : Int32) (v3 : Int32) (v4 : Int32) (v5 : Int32) (σ : SM) : Option (Int32 × SM) := (M_M_replaced_b362 N k32 v2 v3 v4 v5 σ)
set_option maxRecDepth 100000 in
set_option maxHeartbeats 4000000 in
theorem J_M_M_replaced_b145 (K : jx_E) (D : va_G) (A : Nat → Prop) (ad : Nat → Nat) (cA : Nat → ClassId) (N : Nat) (h : jx_ok K D clM (tysM cA) A 9 b_M_replaced y_M_replaced.cls ((Cond.code y_M_replaced b_M_replaced 9 (some .int)) :: tblG) rM_M_replaced (some .int)) (k32 : Int32 → Int32 → Int32 → Int32 → SM → Option (Int32 × SM)) (hk32 : ∀ (v2 : Int32) (v3 : Int32) (v4 : Int32) (v5 : Int32) (σ : SM), J K D clM A 9 (wM ad cA) (jx_Qi K D clM (tysM cA) (wM ad cA) A) 0 0 32 [(0, .ref (ad 0)), (2, .int v2), (3, .int v3), (4, .int v4), (5, .int v5)] [] σ (k32 v2 v3 v4 v5 σ)) : ∀ (v2 : Int32) (v3 : Int32) (v4 : Int32) (v5 : Int32) (σ : SM), J K D clM A 9 (wM ad cA) (jx_Qi K D clM (tysM cA) (wM ad cA) A) 0 0 145 [(0, .ref (ad 0)), (2, .int v2), (3, .int v3), (4, .int v4), (5, .int v5)] [] σ (M_M_replaced_b145 N k32 v2 v3 v4 v5 σ) := by
  intro v2 v3 v4 v5 σ
  rw [M_M_replaced_b145]
  refine J_goto (tgt := 362) h d_M_replaced_145 (by decide) ?_
  exact J_M_M_replaced_b362 K D A ad cA N h k32 hk32 v2 v3 v4 v5 σ
def M_M_replaced_b108 (N : Nat) (k32 : Int32 → Int32 → Int32 → Int32 → SM → Option (Int32 × SM)) (v2 : Int32) (v3 : Int32) (v8 : Int32) (σ : SM) : Option (Int32 × SM) := (nm (v3 + (-1)) (fun (y11 : Int32) => (M_M_replaced_b145 N k32 v2 y11 v8 1 σ)))
set_option maxRecDepth 100000 in
set_option maxHeartbeats 4000000 in
theorem J_M_M_replaced_b108 (K : jx_E) (D : va_G) (A : Nat → Prop) (ad : Nat → Nat) (cA : Nat → ClassId) (N : Nat) (h : jx_ok K D clM (tysM cA) A 9 b_M_replaced y_M_replaced.cls ((Cond.code y_M_replaced b_M_replaced 9 (some .int)) :: tblG) rM_M_replaced (some .int)) (k32 : Int32 → Int32 → Int32 → Int32 → SM → Option (Int32 × SM)) (hk32 : ∀ (v2 : Int32) (v3 : Int32) (v4 : Int32) (v5 : Int32) (σ : SM), J K D clM A 9 (wM ad cA) (jx_Qi K D clM (tysM cA) (wM ad cA) A) 0 0 32 [(0, .ref (ad 0)), (2, .int v2), (3, .int v3), (4, .int v4), (5, .int v5)] [] σ (k32 v2 v3 v4 v5 σ)) : ∀ (v2 : Int32) (v3 : Int32) (v8 : Int32) (σ : SM), J K D clM A 9 (wM ad cA) (jx_Qi K D clM (tysM cA) (wM ad cA) A) 0 0 108 [(0, .ref (ad 0)), (2, .int v2), (3, .int v3), (8, .int v8)] [] σ (M_M_replaced_b108 N k32 v2 v3 v8 σ) := by
  intro v2 v3 v8 σ
  rw [M_M_replaced_b108]
  refine J_iload (q := 3) h d_M_replaced_108 rfl ?_
  refine J_istore (lv' := [(4, .int v8), (0, .ref (ad 0)), (2, .int v2), (3, .int v3), (8, .int v8)]) h d_M_replaced_110 (by decide) rfl ?_
  refine J_iconst (v := 1) h d_M_replaced_112 (by decide) ?_
  refine J_istore (lv' := [(5, .int 1), (4, .int v8), (0, .ref (ad 0)), (2, .int v2), (3, .int v3), (8, .int v8)]) h d_M_replaced_113 (by decide) rfl ?_
  refine J_iinc (q := 4) (c := (-1)) (lv' := fun y11 => [(3, .int y11), (5, .int 1), (4, .int v8), (0, .ref (ad 0)), (2, .int v2), (8, .int v8)]) h d_M_replaced_115 rfl (by decide) (by decide) (fun _ => rfl) (fun y11 => ?_)
  refine J_goto (tgt := 145) h d_M_replaced_118 (by decide) ?_
  refine J_sub [3, 4, 0, 2, 1] rfl ?_
  exact J_M_M_replaced_b145 K D A ad cA N h k32 hk32 v2 y11 v8 1 σ
def M_M_replaced_b93 (N : Nat) (k32 : Int32 → Int32 → Int32 → Int32 → SM → Option (Int32 × SM)) (v2 : Int32) (v3 : Int32) (v4 : Int32) (v5 : Int32) (v6 : Int32) (v7 : Int32) (s0 : Int32) (σ : SM) : Option (Int32 × SM) := (if s0 = (-1) then (if (gM_M_full σ) = 0 then (if ck v6 64 = true then (nm (tM_M_workStage σ (upd (aM_M_workStage σ) v6.toNatClampNeg 0)) (fun (σ6 : SM) => (bd (M_M_innerOf v7 0 σ6) (fun (r7 : Int32) (σ8 : SM) => (if ck v3 64 = true then (nm (tM_M_workType σ8 (upd (aM_M_workType σ8) v3.toNatClampNeg r7)) (fun (σ9 : SM) => (nm (v3 + 1) (fun (y10 : Int32) => (M_M_replaced_b145 N k32 v2 y10 v4 v5 σ9))))) else none))))) else none) else (M_M_replaced_b108 N k32 v2 v3 s0 σ)) else (M_M_replaced_b108 N k32 v2 v3 s0 σ))
set_option maxRecDepth 100000 in
set_option maxHeartbeats 4000000 in
theorem J_M_M_replaced_b93 (K : jx_E) (D : va_G) (A : Nat → Prop) (ad : Nat → Nat) (cA : Nat → ClassId) (N : Nat) (h : jx_ok K D clM (tysM cA) A 9 b_M_replaced y_M_replaced.cls ((Cond.code y_M_replaced b_M_replaced 9 (some .int)) :: tblG) rM_M_replaced (some .int)) (k32 : Int32 → Int32 → Int32 → Int32 → SM → Option (Int32 × SM)) (hk32 : ∀ (v2 : Int32) (v3 : Int32) (v4 : Int32) (v5 : Int32) (σ : SM), J K D clM A 9 (wM ad cA) (jx_Qi K D clM (tysM cA) (wM ad cA) A) 0 0 32 [(0, .ref (ad 0)), (2, .int v2), (3, .int v3), (4, .int v4), (5, .int v5)] [] σ (k32 v2 v3 v4 v5 σ)) : ∀ (v2 : Int32) (v3 : Int32) (v4 : Int32) (v5 : Int32) (v6 : Int32) (v7 : Int32) (s0 : Int32) (σ : SM), J K D clM A 9 (wM ad cA) (jx_Qi K D clM (tysM cA) (wM ad cA) A) 0 0 93 [(0, .ref (ad 0)), (2, .int v2), (3, .int v3), (4, .int v4), (5, .int v5), (6, .int v6), (7, .int v7)] [.int s0] σ (M_M_replaced_b93 N k32 v2 v3 v4 v5 v6 v7 s0 σ) := by
  intro v2 v3 v4 v5 v6 v7 s0 σ
  rw [M_M_replaced_b93]
  refine J_istore (lv' := [(8, .int s0), (0, .ref (ad 0)), (2, .int v2), (3, .int v3), (4, .int v4), (5, .int v5), (6, .int v6), (7, .int v7)]) h d_M_replaced_93 (by decide) rfl ?_
  refine J_iload (q := 0) h d_M_replaced_95 rfl ?_
  refine J_iconst (v := (-1)) h d_M_replaced_97 (by decide) ?_
  refine J_icmp_ne (tgt := 108) h d_M_replaced_98 (by decide) ?_ ?_
  · refine J_aload_n (q := 1) h d_M_replaced_101 rfl rfl ?_
    refine J_getf h 0 (wM_0 ad cA σ) (tb_ups in_M) rfl 12 (by decide) (tb_up q_4_94) rfl d_M_replaced_102 ?_
    refine J_if_eq (tgt := 121) h d_M_replaced_105 (by decide) ?_ ?_
    · refine J_aload_n (q := 1) h d_M_replaced_121 rfl rfl ?_
      refine J_getf h 0 (wM_0 ad cA σ) (tb_ups in_M) rfl 19 (by decide) (tb_up q_4_101) rfl d_M_replaced_122 ?_
      refine J_iload (q := 6) h d_M_replaced_125 rfl ?_
      refine J_iconst (v := 0) h d_M_replaced_127 (by decide) ?_
      refine J_iast h 15 14 (wM_15 ad cA σ) rfl (uM_15 ad cA σ _) d_M_replaced_128 (fun σ6 => ?_)
      refine J_aload_n (q := 1) h d_M_replaced_129 rfl rfl ?_
      refine J_getf h 0 (wM_0 ad cA σ6) (tb_ups in_M) rfl 18 (by decide) (tb_up q_4_100) rfl d_M_replaced_130 ?_
      refine J_iload_n (q := 3) h d_M_replaced_133 rfl rfl ?_
      refine J_aload_n (q := 1) h d_M_replaced_134 rfl rfl ?_
      refine J_iload (q := 7) h d_M_replaced_135 rfl ?_
      refine J_iconst (v := 0) h d_M_replaced_137 (by decide) ?_
      refine J_callVi (As := [.int v7, .int 0]) (st := [.int v3, .ref (ad 14)]) (rmc := rM_M_innerOf) (q0 := 0) h (fun _ _ hf => cM_M_innerOf (jl K) D ad cA v7 0 σ6 _ _ hf) (gd_V q_5_134 q_5_136 q_s_39 q_1_12 q_5_137) rfl ⟨rfl, rfl⟩ dd_M_innerOf ⟨Nat.le_of_ble_eq_true rfl, Nat.le_of_ble_eq_true rfl⟩ rfl rfl (wM_0 ad cA σ6) rfl rfl (Nat.le_of_ble_eq_true rfl) ⟨Nat.zero_le _, Nat.zero_le _⟩ d_M_replaced_138 (fun r7 σ8 => ?_)
      refine J_iast h 14 13 (wM_14 ad cA σ8) rfl (uM_14 ad cA σ8 _) d_M_replaced_141 (fun σ9 => ?_)
      refine J_iinc (q := 3) (c := 1) (lv' := fun y10 => [(3, .int y10), (8, .int s0), (0, .ref (ad 0)), (2, .int v2), (4, .int v4), (5, .int v5), (6, .int v6), (7, .int v7)]) h d_M_replaced_142 rfl (by decide) (by decide) (fun _ => rfl) (fun y10 => ?_)
      refine J_sub [2, 3, 0, 4, 5] rfl ?_
      exact J_M_M_replaced_b145 K D A ad cA N h k32 hk32 v2 y10 v4 v5 σ9
    · refine J_sub [1, 2, 3, 0] rfl ?_
      exact J_M_M_replaced_b108 K D A ad cA N h k32 hk32 v2 v3 s0 σ
  · refine J_sub [1, 2, 3, 0] rfl ?_
    exact J_M_M_replaced_b108 K D A ad cA N h k32 hk32 v2 v3 s0 σ
def M_M_replaced_b339 (N : Nat) (k32 : Int32 → Int32 → Int32 → Int32 → SM → Option (Int32 × SM)) (v2 : Int32) (v3 : Int32) (v4 : Int32) (v5 : Int32) (v7 : Int32) (σ : SM) : Option (Int32 × SM) := (if ck v7 500 = true then (nm (tM_M_became σ (upd (aM_M_became σ) v7.toNatClampNeg v4)) (fun (σ16 : SM) => (if ck v7 500 = true then (nm (tM_M_seen σ16 (upd (aM_M_seen σ16) v7.toNatClampNeg (gM_M_looks σ16))) (fun (σ17 : SM) => (nm (v3 + (-1)) (fun (y18 : Int32) => (M_M_replaced_b362 N k32 v2 y18 v4 v5 σ17))))) else none))) else none)
set_option maxRecDepth 100000 in
set_option maxHeartbeats 4000000 in
theorem J_M_M_replaced_b339 (K : jx_E) (D : va_G) (A : Nat → Prop) (ad : Nat → Nat) (cA : Nat → ClassId) (N : Nat) (h : jx_ok K D clM (tysM cA) A 9 b_M_replaced y_M_replaced.cls ((Cond.code y_M_replaced b_M_replaced 9 (some .int)) :: tblG) rM_M_replaced (some .int)) (k32 : Int32 → Int32 → Int32 → Int32 → SM → Option (Int32 × SM)) (hk32 : ∀ (v2 : Int32) (v3 : Int32) (v4 : Int32) (v5 : Int32) (σ : SM), J K D clM A 9 (wM ad cA) (jx_Qi K D clM (tysM cA) (wM ad cA) A) 0 0 32 [(0, .ref (ad 0)), (2, .int v2), (3, .int v3), (4, .int v4), (5, .int v5)] [] σ (k32 v2 v3 v4 v5 σ)) : ∀ (v2 : Int32) (v3 : Int32) (v4 : Int32) (v5 : Int32) (v7 : Int32) (σ : SM), J K D clM A 9 (wM ad cA) (jx_Qi K D clM (tysM cA) (wM ad cA) A) 0 0 339 [(0, .ref (ad 0)), (2, .int v2), (3, .int v3), (4, .int v4), (5, .int v5), (7, .int v7)] [] σ (M_M_replaced_b339 N k32 v2 v3 v4 v5 v7 σ) := by
  intro v2 v3 v4 v5 v7 σ
  rw [M_M_replaced_b339]
  refine J_aload_n (q := 0) h d_M_replaced_339 rfl rfl ?_
  refine J_getf h 0 (wM_0 ad cA σ) (tb_ups in_M) rfl 22 (by decide) (tb_up q_4_104) rfl d_M_replaced_340 ?_
  refine J_iload (q := 5) h d_M_replaced_343 rfl ?_
  refine J_iload (q := 3) h d_M_replaced_345 rfl ?_
  refine J_iast h 18 17 (wM_18 ad cA σ) rfl (uM_18 ad cA σ _) d_M_replaced_347 (fun σ16 => ?_)
  refine J_aload_n (q := 0) h d_M_replaced_348 rfl rfl ?_
  refine J_getf h 0 (wM_0 ad cA σ16) (tb_ups in_M) rfl 23 (by decide) (tb_up q_4_105) rfl d_M_replaced_349 ?_
  refine J_iload (q := 5) h d_M_replaced_352 rfl ?_
  refine J_aload_n (q := 0) h d_M_replaced_354 rfl rfl ?_
  refine J_getf h 0 (wM_0 ad cA σ16) (tb_ups in_M) rfl 24 (by decide) (tb_up q_4_106) rfl d_M_replaced_355 ?_
  refine J_iast h 19 18 (wM_19 ad cA σ16) rfl (uM_19 ad cA σ16 _) d_M_replaced_358 (fun σ17 => ?_)
  refine J_iinc (q := 2) (c := (-1)) (lv' := fun y18 => [(3, .int y18), (0, .ref (ad 0)), (2, .int v2), (4, .int v4), (5, .int v5), (7, .int v7)]) h d_M_replaced_359 rfl (by decide) (by decide) (fun _ => rfl) (fun y18 => ?_)
  refine J_sub [1, 2, 0, 3, 4] rfl ?_
  exact J_M_M_replaced_b362 K D A ad cA N h k32 hk32 v2 y18 v4 v5 σ17
def M_M_replaced_b280 (N : Nat) (k32 : Int32 → Int32 → Int32 → Int32 → SM → Option (Int32 × SM)) (v2 : Int32) (v3 : Int32) (v5 : Int32) (v7 : Int32) (s0 : Int32) (σ : SM) : Option (Int32 × SM) := (M_M_replaced_b339 N k32 v2 v3 s0 v5 v7 σ)
set_option maxRecDepth 100000 in
set_option maxHeartbeats 4000000 in
theorem J_M_M_replaced_b280 (K : jx_E) (D : va_G) (A : Nat → Prop) (ad : Nat → Nat) (cA : Nat → ClassId) (N : Nat) (h : jx_ok K D clM (tysM cA) A 9 b_M_replaced y_M_replaced.cls ((Cond.code y_M_replaced b_M_replaced 9 (some .int)) :: tblG) rM_M_replaced (some .int)) (k32 : Int32 → Int32 → Int32 → Int32 → SM → Option (Int32 × SM)) (hk32 : ∀ (v2 : Int32) (v3 : Int32) (v4 : Int32) (v5 : Int32) (σ : SM), J K D clM A 9 (wM ad cA) (jx_Qi K D clM (tysM cA) (wM ad cA) A) 0 0 32 [(0, .ref (ad 0)), (2, .int v2), (3, .int v3), (4, .int v4), (5, .int v5)] [] σ (k32 v2 v3 v4 v5 σ)) : ∀ (v2 : Int32) (v3 : Int32) (v5 : Int32) (v7 : Int32) (s0 : Int32) (σ : SM), J K D clM A 9 (wM ad cA) (jx_Qi K D clM (tysM cA) (wM ad cA) A) 0 0 280 [(0, .ref (ad 0)), (2, .int v2), (3, .int v3), (5, .int v5), (7, .int v7)] [.int s0] σ (M_M_replaced_b280 N k32 v2 v3 v5 v7 s0 σ) := by
  intro v2 v3 v5 v7 s0 σ
  rw [M_M_replaced_b280]
  refine J_istore (lv' := [(4, .int s0), (0, .ref (ad 0)), (2, .int v2), (3, .int v3), (5, .int v5), (7, .int v7)]) h d_M_replaced_280 (by decide) rfl ?_
  refine J_goto (tgt := 339) h d_M_replaced_282 (by decide) ?_
  refine J_sub [1, 2, 3, 0, 4, 5] rfl ?_
  exact J_M_M_replaced_b339 K D A ad cA N h k32 hk32 v2 v3 s0 v5 v7 σ
def M_M_replaced_b219 (N : Nat) (k32 : Int32 → Int32 → Int32 → Int32 → SM → Option (Int32 × SM)) (v2 : Int32) (v3 : Int32) (v4 : Int32) (v5 : Int32) (v6 : Int32) (v7 : Int32) (σ : SM) : Option (Int32 × SM) := (if ck v7 500 = true then (if (aM_M_kind σ v7.toNatClampNeg) = 1 then (if ck v6 64 = true then (if (aM_M_workStage σ v6.toNatClampNeg) = 1 then (if ck v7 500 = true then (if ck v6 64 = true then (bd (M_M_make N 1 (aM_M_one σ v7.toNatClampNeg) (aM_M_workFirst σ v6.toNatClampNeg) v4 σ) (fun (r14 : Int32) (σ15 : SM) => (M_M_replaced_b280 N k32 v2 v3 v5 v7 r14 σ15))) else none) else none) else (if ck v7 500 = true then (bd (M_M_make N 1 (aM_M_one σ v7.toNatClampNeg) v4 (-1) σ) (fun (r19 : Int32) (σ20 : SM) => (M_M_replaced_b280 N k32 v2 v3 v5 v7 r19 σ20))) else none)) else none) else (if ck v7 500 = true then (if (aM_M_kind σ v7.toNatClampNeg) = 2 then (if ck v7 500 = true then (bd (M_M_make N 2 (aM_M_one σ v7.toNatClampNeg) v4 (-1) σ) (fun (r21 : Int32) (σ22 : SM) => (M_M_replaced_b339 N k32 v2 v3 r21 v5 v7 σ22))) else none) else (if ck v7 500 = true then (if ck v7 500 = true then (bd (M_M_make N (aM_M_kind σ v7.toNatClampNeg) v4 (aM_M_two σ v7.toNatClampNeg) (-1) σ) (fun (r23 : Int32) (σ24 : SM) => (M_M_replaced_b339 N k32 v2 v3 r23 v5 v7 σ24))) else none) else none)) else none)) else none)
set_option maxRecDepth 100000 in
set_option maxHeartbeats 4000000 in
theorem J_M_M_replaced_b219 (K : jx_E) (D : va_G) (A : Nat → Prop) (ad : Nat → Nat) (cA : Nat → ClassId) (N : Nat) (h : jx_ok K D clM (tysM cA) A 9 b_M_replaced y_M_replaced.cls ((Cond.code y_M_replaced b_M_replaced 9 (some .int)) :: tblG) rM_M_replaced (some .int)) (k32 : Int32 → Int32 → Int32 → Int32 → SM → Option (Int32 × SM)) (hk32 : ∀ (v2 : Int32) (v3 : Int32) (v4 : Int32) (v5 : Int32) (σ : SM), J K D clM A 9 (wM ad cA) (jx_Qi K D clM (tysM cA) (wM ad cA) A) 0 0 32 [(0, .ref (ad 0)), (2, .int v2), (3, .int v3), (4, .int v4), (5, .int v5)] [] σ (k32 v2 v3 v4 v5 σ)) : ∀ (v2 : Int32) (v3 : Int32) (v4 : Int32) (v5 : Int32) (v6 : Int32) (v7 : Int32) (σ : SM), J K D clM A 9 (wM ad cA) (jx_Qi K D clM (tysM cA) (wM ad cA) A) 0 0 219 [(0, .ref (ad 0)), (2, .int v2), (3, .int v3), (4, .int v4), (5, .int v5), (6, .int v6), (7, .int v7)] [] σ (M_M_replaced_b219 N k32 v2 v3 v4 v5 v6 v7 σ) := by
  intro v2 v3 v4 v5 v6 v7 σ
  rw [M_M_replaced_b219]
  refine J_aload_n (q := 0) h d_M_replaced_219 rfl rfl ?_
  refine J_getf h 0 (wM_0 ad cA σ) (tb_ups in_M) rfl 5 (by decide) (tb_up q_4_87) rfl d_M_replaced_220 ?_
  refine J_iload (q := 6) h d_M_replaced_223 rfl ?_
  refine J_iald h 5 4 (wM_5 ad cA σ) rfl d_M_replaced_225 ?_
  refine J_iconst (v := 1) h d_M_replaced_226 (by decide) ?_
  refine J_icmp_ne (tgt := 285) h d_M_replaced_227 (by decide) ?_ ?_
  · refine J_aload_n (q := 0) h d_M_replaced_230 rfl rfl ?_
    refine J_getf h 0 (wM_0 ad cA σ) (tb_ups in_M) rfl 19 (by decide) (tb_up q_4_101) rfl d_M_replaced_231 ?_
    refine J_iload (q := 5) h d_M_replaced_234 rfl ?_
    refine J_iald h 15 14 (wM_15 ad cA σ) rfl d_M_replaced_236 ?_
    refine J_iconst (v := 1) h d_M_replaced_237 (by decide) ?_
    refine J_icmp_ne (tgt := 265) h d_M_replaced_238 (by decide) ?_ ?_
    · refine J_aload_n (q := 0) h d_M_replaced_241 rfl rfl ?_
      refine J_iconst (v := 1) h d_M_replaced_242 (by decide) ?_
      refine J_aload_n (q := 0) h d_M_replaced_243 rfl rfl ?_
      refine J_getf h 0 (wM_0 ad cA σ) (tb_ups in_M) rfl 6 (by decide) (tb_up q_4_88) rfl d_M_replaced_244 ?_
      refine J_iload (q := 6) h d_M_replaced_247 rfl ?_
      refine J_iald h 6 5 (wM_6 ad cA σ) rfl d_M_replaced_249 ?_
      refine J_aload_n (q := 0) h d_M_replaced_250 rfl rfl ?_
      refine J_getf h 0 (wM_0 ad cA σ) (tb_ups in_M) rfl 20 (by decide) (tb_up q_4_102) rfl d_M_replaced_251 ?_
      refine J_iload (q := 5) h d_M_replaced_254 rfl ?_
      refine J_iald h 16 15 (wM_16 ad cA σ) rfl d_M_replaced_256 ?_
      refine J_iload (q := 3) h d_M_replaced_257 rfl ?_
      refine J_callVi (As := [.int 1, .int (aM_M_one σ v7.toNatClampNeg), .int (aM_M_workFirst σ v6.toNatClampNeg), .int v4]) (st := []) (rmc := rM_M_make) (q0 := 0) h (fun _ _ hf => cM_M_make (jl K) D ad cA N 1 (aM_M_one σ v7.toNatClampNeg) (aM_M_workFirst σ v6.toNatClampNeg) v4 σ _ _ hf) (gd_V q_5_74 q_5_76 q_s_32 q_1_12 q_5_77) rfl ⟨rfl, rfl⟩ dd_M_make ⟨Nat.le_of_ble_eq_true rfl, Nat.le_of_ble_eq_true rfl⟩ rfl rfl (wM_0 ad cA σ) rfl rfl (Nat.le_of_ble_eq_true rfl) ⟨Nat.zero_le _, Nat.zero_le _⟩ d_M_replaced_259 (fun r14 σ15 => ?_)
      refine J_goto (tgt := 280) h d_M_replaced_262 (by decide) ?_
      refine J_sub [0, 1, 2, 4, 6] rfl ?_
      exact J_M_M_replaced_b280 K D A ad cA N h k32 hk32 v2 v3 v5 v7 r14 σ15
    · refine J_aload_n (q := 0) h d_M_replaced_265 rfl rfl ?_
      refine J_iconst (v := 1) h d_M_replaced_266 (by decide) ?_
      refine J_aload_n (q := 0) h d_M_replaced_267 rfl rfl ?_
      refine J_getf h 0 (wM_0 ad cA σ) (tb_ups in_M) rfl 6 (by decide) (tb_up q_4_88) rfl d_M_replaced_268 ?_
      refine J_iload (q := 6) h d_M_replaced_271 rfl ?_
      refine J_iald h 6 5 (wM_6 ad cA σ) rfl d_M_replaced_273 ?_
      refine J_iload (q := 3) h d_M_replaced_274 rfl ?_
      refine J_iconst (v := (-1)) h d_M_replaced_276 (by decide) ?_
      refine J_callVi (As := [.int 1, .int (aM_M_one σ v7.toNatClampNeg), .int v4, .int (-1)]) (st := []) (rmc := rM_M_make) (q0 := 0) h (fun _ _ hf => cM_M_make (jl K) D ad cA N 1 (aM_M_one σ v7.toNatClampNeg) v4 (-1) σ _ _ hf) (gd_V q_5_74 q_5_76 q_s_32 q_1_12 q_5_77) rfl ⟨rfl, rfl⟩ dd_M_make ⟨Nat.le_of_ble_eq_true rfl, Nat.le_of_ble_eq_true rfl⟩ rfl rfl (wM_0 ad cA σ) rfl rfl (Nat.le_of_ble_eq_true rfl) ⟨Nat.zero_le _, Nat.zero_le _⟩ d_M_replaced_277 (fun r19 σ20 => ?_)
      refine J_sub [0, 1, 2, 4, 6] rfl ?_
      exact J_M_M_replaced_b280 K D A ad cA N h k32 hk32 v2 v3 v5 v7 r19 σ20
  · refine J_aload_n (q := 0) h d_M_replaced_285 rfl rfl ?_
    refine J_getf h 0 (wM_0 ad cA σ) (tb_ups in_M) rfl 5 (by decide) (tb_up q_4_87) rfl d_M_replaced_286 ?_
    refine J_iload (q := 6) h d_M_replaced_289 rfl ?_
    refine J_iald h 5 4 (wM_5 ad cA σ) rfl d_M_replaced_291 ?_
    refine J_iconst (v := 2) h d_M_replaced_292 (by decide) ?_
    refine J_icmp_ne (tgt := 316) h d_M_replaced_293 (by decide) ?_ ?_
    · refine J_aload_n (q := 0) h d_M_replaced_296 rfl rfl ?_
      refine J_iconst (v := 2) h d_M_replaced_297 (by decide) ?_
      refine J_aload_n (q := 0) h d_M_replaced_298 rfl rfl ?_
      refine J_getf h 0 (wM_0 ad cA σ) (tb_ups in_M) rfl 6 (by decide) (tb_up q_4_88) rfl d_M_replaced_299 ?_
      refine J_iload (q := 6) h d_M_replaced_302 rfl ?_
      refine J_iald h 6 5 (wM_6 ad cA σ) rfl d_M_replaced_304 ?_
      refine J_iload (q := 3) h d_M_replaced_305 rfl ?_
      refine J_iconst (v := (-1)) h d_M_replaced_307 (by decide) ?_
      refine J_callVi (As := [.int 2, .int (aM_M_one σ v7.toNatClampNeg), .int v4, .int (-1)]) (st := []) (rmc := rM_M_make) (q0 := 0) h (fun _ _ hf => cM_M_make (jl K) D ad cA N 2 (aM_M_one σ v7.toNatClampNeg) v4 (-1) σ _ _ hf) (gd_V q_5_74 q_5_76 q_s_32 q_1_12 q_5_77) rfl ⟨rfl, rfl⟩ dd_M_make ⟨Nat.le_of_ble_eq_true rfl, Nat.le_of_ble_eq_true rfl⟩ rfl rfl (wM_0 ad cA σ) rfl rfl (Nat.le_of_ble_eq_true rfl) ⟨Nat.zero_le _, Nat.zero_le _⟩ d_M_replaced_308 (fun r21 σ22 => ?_)
      refine J_istore (lv' := [(4, .int r21), (0, .ref (ad 0)), (2, .int v2), (3, .int v3), (5, .int v5), (6, .int v6), (7, .int v7)]) h d_M_replaced_311 (by decide) rfl ?_
      refine J_goto (tgt := 339) h d_M_replaced_313 (by decide) ?_
      refine J_sub [1, 2, 3, 0, 4, 6] rfl ?_
      exact J_M_M_replaced_b339 K D A ad cA N h k32 hk32 v2 v3 r21 v5 v7 σ22
    · refine J_aload_n (q := 0) h d_M_replaced_316 rfl rfl ?_
      refine J_aload_n (q := 0) h d_M_replaced_317 rfl rfl ?_
      refine J_getf h 0 (wM_0 ad cA σ) (tb_ups in_M) rfl 5 (by decide) (tb_up q_4_87) rfl d_M_replaced_318 ?_
      refine J_iload (q := 6) h d_M_replaced_321 rfl ?_
      refine J_iald h 5 4 (wM_5 ad cA σ) rfl d_M_replaced_323 ?_
      refine J_iload (q := 3) h d_M_replaced_324 rfl ?_
      refine J_aload_n (q := 0) h d_M_replaced_326 rfl rfl ?_
      refine J_getf h 0 (wM_0 ad cA σ) (tb_ups in_M) rfl 7 (by decide) (tb_up q_4_89) rfl d_M_replaced_327 ?_
      refine J_iload (q := 6) h d_M_replaced_330 rfl ?_
      refine J_iald h 7 6 (wM_7 ad cA σ) rfl d_M_replaced_332 ?_
      refine J_iconst (v := (-1)) h d_M_replaced_333 (by decide) ?_
      refine J_callVi (As := [.int (aM_M_kind σ v7.toNatClampNeg), .int v4, .int (aM_M_two σ v7.toNatClampNeg), .int (-1)]) (st := []) (rmc := rM_M_make) (q0 := 0) h (fun _ _ hf => cM_M_make (jl K) D ad cA N (aM_M_kind σ v7.toNatClampNeg) v4 (aM_M_two σ v7.toNatClampNeg) (-1) σ _ _ hf) (gd_V q_5_74 q_5_76 q_s_32 q_1_12 q_5_77) rfl ⟨rfl, rfl⟩ dd_M_make ⟨Nat.le_of_ble_eq_true rfl, Nat.le_of_ble_eq_true rfl⟩ rfl rfl (wM_0 ad cA σ) rfl rfl (Nat.le_of_ble_eq_true rfl) ⟨Nat.zero_le _, Nat.zero_le _⟩ d_M_replaced_334 (fun r23 σ24 => ?_)
      refine J_istore (lv' := [(4, .int r23), (0, .ref (ad 0)), (2, .int v2), (3, .int v3), (5, .int v5), (6, .int v6), (7, .int v7)]) h d_M_replaced_337 (by decide) rfl ?_
      refine J_sub [1, 2, 3, 0, 4, 6] rfl ?_
      exact J_M_M_replaced_b339 K D A ad cA N h k32 hk32 v2 v3 r23 v5 v7 σ24
def M_M_replaced_L32 (N : Nat) (k365 : Int32 → SM → Option (Int32 × SM)) : Nat → Int32 → Int32 → Int32 → Int32 → SM → Option (Int32 × SM)
  | 0, _, _, _, _, _ => none
  | n + 1, v2, v3, v4, v5, σ => (if v3 ≤ 0 then (k365 v4 σ) else (if (gM_M_full σ) = 0 then (nm ((v3 - 1)) (fun (y4 : Int32) => (if ck y4 64 = true then (nm ((aM_M_workType σ y4.toNatClampNeg)) (fun (y5 : Int32) => (if v5 = 0 then (if ck y5 500 = true then (if (aM_M_seen σ y5.toNatClampNeg) = (gM_M_looks σ) then (if ck y5 500 = true then (M_M_replaced_b93 N (M_M_replaced_L32 N k365 n) v2 v3 v4 v5 y4 y5 (aM_M_became σ y5.toNatClampNeg) σ) else none) else (bd (M_M_inPlaceOf N y5 v2 σ) (fun (r12 : Int32) (σ13 : SM) => (M_M_replaced_b93 N (M_M_replaced_L32 N k365 n) v2 v3 v4 v5 y4 y5 r12 σ13)))) else none) else (if ck y5 500 = true then (if (aM_M_kind σ y5.toNatClampNeg) = 1 then (if ck y4 64 = true then (if (aM_M_workStage σ y4.toNatClampNeg) = 0 then (if ck y5 500 = true then (if (aM_M_three σ y5.toNatClampNeg) = (-1) then (M_M_replaced_b219 N (M_M_replaced_L32 N k365 n) v2 v3 v4 v5 y4 y5 σ) else (if ck y4 64 = true then (nm (tM_M_workFirst σ (upd (aM_M_workFirst σ) y4.toNatClampNeg v4)) (fun (σ25 : SM) => (if ck y4 64 = true then (nm (tM_M_workStage σ25 (upd (aM_M_workStage σ25) y4.toNatClampNeg 1)) (fun (σ26 : SM) => (if ck y5 500 = true then (if ck v3 64 = true then (nm (tM_M_workType σ26 (upd (aM_M_workType σ26) v3.toNatClampNeg (aM_M_three σ26 y5.toNatClampNeg))) (fun (σ27 : SM) => (nm (v3 + 1) (fun (y28 : Int32) => (M_M_replaced_b362 N (M_M_replaced_L32 N k365 n) v2 y28 v4 0 σ27))))) else none) else none))) else none))) else none)) else none) else (M_M_replaced_b219 N (M_M_replaced_L32 N k365 n) v2 v3 v4 v5 y4 y5 σ)) else none) else (M_M_replaced_b219 N (M_M_replaced_L32 N k365 n) v2 v3 v4 v5 y4 y5 σ)) else none)))) else none))) else (k365 v4 σ)))
set_option maxRecDepth 100000 in
set_option maxHeartbeats 4000000 in
theorem J_M_M_replaced_L32 (K : jx_E) (D : va_G) (A : Nat → Prop) (ad : Nat → Nat) (cA : Nat → ClassId) (N : Nat) (h : jx_ok K D clM (tysM cA) A 9 b_M_replaced y_M_replaced.cls ((Cond.code y_M_replaced b_M_replaced 9 (some .int)) :: tblG) rM_M_replaced (some .int)) (k365 : Int32 → SM → Option (Int32 × SM)) (hk365 : ∀ (v4 : Int32) (σ : SM), J K D clM A 9 (wM ad cA) (jx_Qi K D clM (tysM cA) (wM ad cA) A) 0 0 365 [(0, .ref (ad 0)), (4, .int v4)] [] σ (k365 v4 σ)) : ∀ (n : Nat) (v2 : Int32) (v3 : Int32) (v4 : Int32) (v5 : Int32) (σ : SM), J K D clM A 9 (wM ad cA) (jx_Qi K D clM (tysM cA) (wM ad cA) A) 0 0 32 [(0, .ref (ad 0)), (2, .int v2), (3, .int v3), (4, .int v4), (5, .int v5)] [] σ (M_M_replaced_L32 N k365 n v2 v3 v4 v5 σ) := by
  intro n
  induction n with
  | zero => intro v2 v3 v4 v5 σ; exact J_none
  | succ n ih =>
    intro v2 v3 v4 v5 σ
    rw [M_M_replaced_L32]
    refine J_iload_n (q := 2) h d_M_replaced_32 rfl rfl ?_
    refine J_if_le (tgt := 365) h d_M_replaced_33 (by decide) ?_ ?_
    · refine J_sub [0, 3] rfl ?_
      exact hk365 v4 σ
    · refine J_aload_n (q := 0) h d_M_replaced_36 rfl rfl ?_
      refine J_getf h 0 (wM_0 ad cA σ) (tb_ups in_M) rfl 12 (by decide) (tb_up q_4_94) rfl d_M_replaced_37 ?_
      refine J_if_ne (tgt := 365) h d_M_replaced_40 (by decide) ?_ ?_
      · refine J_iload_n (q := 2) h d_M_replaced_43 rfl rfl ?_
        refine J_iconst (v := 1) h d_M_replaced_44 (by decide) ?_
        refine J_isub h d_M_replaced_45 ?_
        refine J_nmi (fun y4 => ?_)
        refine J_istore (lv' := [(6, .int y4), (0, .ref (ad 0)), (2, .int v2), (3, .int v3), (4, .int v4), (5, .int v5)]) h d_M_replaced_46 (by decide) rfl ?_
        refine J_aload_n (q := 1) h d_M_replaced_48 rfl rfl ?_
        refine J_getf h 0 (wM_0 ad cA σ) (tb_ups in_M) rfl 18 (by decide) (tb_up q_4_100) rfl d_M_replaced_49 ?_
        refine J_iload (q := 0) h d_M_replaced_52 rfl ?_
        refine J_iald h 14 13 (wM_14 ad cA σ) rfl d_M_replaced_54 ?_
        refine J_nmi (fun y5 => ?_)
        refine J_istore (lv' := [(7, .int y5), (6, .int y4), (0, .ref (ad 0)), (2, .int v2), (3, .int v3), (4, .int v4), (5, .int v5)]) h d_M_replaced_55 (by decide) rfl ?_
        refine J_iload (q := 6) h d_M_replaced_57 rfl ?_
        refine J_if_ne (tgt := 148) h d_M_replaced_59 (by decide) ?_ ?_
        · refine J_aload_n (q := 2) h d_M_replaced_62 rfl rfl ?_
          refine J_getf h 0 (wM_0 ad cA σ) (tb_ups in_M) rfl 23 (by decide) (tb_up q_4_105) rfl d_M_replaced_63 ?_
          refine J_iload (q := 0) h d_M_replaced_66 rfl ?_
          refine J_iald h 19 18 (wM_19 ad cA σ) rfl d_M_replaced_68 ?_
          refine J_aload_n (q := 2) h d_M_replaced_69 rfl rfl ?_
          refine J_getf h 0 (wM_0 ad cA σ) (tb_ups in_M) rfl 24 (by decide) (tb_up q_4_106) rfl d_M_replaced_70 ?_
          refine J_icmp_ne (tgt := 86) h d_M_replaced_73 (by decide) ?_ ?_
          · refine J_aload_n (q := 2) h d_M_replaced_76 rfl rfl ?_
            refine J_getf h 0 (wM_0 ad cA σ) (tb_ups in_M) rfl 22 (by decide) (tb_up q_4_104) rfl d_M_replaced_77 ?_
            refine J_iload (q := 0) h d_M_replaced_80 rfl ?_
            refine J_iald h 18 17 (wM_18 ad cA σ) rfl d_M_replaced_82 ?_
            refine J_goto (tgt := 93) h d_M_replaced_83 (by decide) ?_
            refine J_sub [2, 3, 4, 5, 6, 1, 0] rfl ?_
            exact J_M_M_replaced_b93 K D A ad cA N h (M_M_replaced_L32 N k365 n) ih v2 v3 v4 v5 y4 y5 (aM_M_became σ y5.toNatClampNeg) σ
          · refine J_aload_n (q := 2) h d_M_replaced_86 rfl rfl ?_
            refine J_iload (q := 0) h d_M_replaced_87 rfl ?_
            refine J_iload_n (q := 3) h d_M_replaced_89 rfl rfl ?_
            refine J_callVi (As := [.int y5, .int v2]) (st := []) (rmc := rM_M_inPlaceOf) (q0 := 0) h (fun _ _ hf => cM_M_inPlaceOf (jl K) D ad cA N y5 v2 σ _ _ hf) (gd_V q_5_130 q_5_132 q_s_38 q_1_12 q_5_133) rfl ⟨rfl, rfl⟩ dd_M_inPlaceOf ⟨Nat.le_of_ble_eq_true rfl, Nat.le_of_ble_eq_true rfl⟩ rfl rfl (wM_0 ad cA σ) rfl rfl (Nat.le_of_ble_eq_true rfl) ⟨Nat.zero_le _, Nat.zero_le _⟩ d_M_replaced_90 (fun r12 σ13 => ?_)
            refine J_sub [2, 3, 4, 5, 6, 1, 0] rfl ?_
            exact J_M_M_replaced_b93 K D A ad cA N h (M_M_replaced_L32 N k365 n) ih v2 v3 v4 v5 y4 y5 r12 σ13
        · refine J_aload_n (q := 2) h d_M_replaced_148 rfl rfl ?_
          refine J_getf h 0 (wM_0 ad cA σ) (tb_ups in_M) rfl 5 (by decide) (tb_up q_4_87) rfl d_M_replaced_149 ?_
          refine J_iload (q := 0) h d_M_replaced_152 rfl ?_
          refine J_iald h 5 4 (wM_5 ad cA σ) rfl d_M_replaced_154 ?_
          refine J_iconst (v := 1) h d_M_replaced_155 (by decide) ?_
          refine J_icmp_ne (tgt := 219) h d_M_replaced_156 (by decide) ?_ ?_
          · refine J_aload_n (q := 2) h d_M_replaced_159 rfl rfl ?_
            refine J_getf h 0 (wM_0 ad cA σ) (tb_ups in_M) rfl 19 (by decide) (tb_up q_4_101) rfl d_M_replaced_160 ?_
            refine J_iload (q := 1) h d_M_replaced_163 rfl ?_
            refine J_iald h 15 14 (wM_15 ad cA σ) rfl d_M_replaced_165 ?_
            refine J_if_ne (tgt := 219) h d_M_replaced_166 (by decide) ?_ ?_
            · refine J_aload_n (q := 2) h d_M_replaced_169 rfl rfl ?_
              refine J_getf h 0 (wM_0 ad cA σ) (tb_ups in_M) rfl 8 (by decide) (tb_up q_4_90) rfl d_M_replaced_170 ?_
              refine J_iload (q := 0) h d_M_replaced_173 rfl ?_
              refine J_iald h 8 7 (wM_8 ad cA σ) rfl d_M_replaced_175 ?_
              refine J_iconst (v := (-1)) h d_M_replaced_176 (by decide) ?_
              refine J_icmp_eq (tgt := 219) h d_M_replaced_177 (by decide) ?_ ?_
              · refine J_sub [2, 3, 4, 5, 6, 1, 0] rfl ?_
                exact J_M_M_replaced_b219 K D A ad cA N h (M_M_replaced_L32 N k365 n) ih v2 v3 v4 v5 y4 y5 σ
              · refine J_aload_n (q := 2) h d_M_replaced_180 rfl rfl ?_
                refine J_getf h 0 (wM_0 ad cA σ) (tb_ups in_M) rfl 20 (by decide) (tb_up q_4_102) rfl d_M_replaced_181 ?_
                refine J_iload (q := 1) h d_M_replaced_184 rfl ?_
                refine J_iload (q := 5) h d_M_replaced_186 rfl ?_
                refine J_iast h 16 15 (wM_16 ad cA σ) rfl (uM_16 ad cA σ _) d_M_replaced_188 (fun σ25 => ?_)
                refine J_aload_n (q := 2) h d_M_replaced_189 rfl rfl ?_
                refine J_getf h 0 (wM_0 ad cA σ25) (tb_ups in_M) rfl 19 (by decide) (tb_up q_4_101) rfl d_M_replaced_190 ?_
                refine J_iload (q := 1) h d_M_replaced_193 rfl ?_
                refine J_iconst (v := 1) h d_M_replaced_195 (by decide) ?_
                refine J_iast h 15 14 (wM_15 ad cA σ25) rfl (uM_15 ad cA σ25 _) d_M_replaced_196 (fun σ26 => ?_)
                refine J_iconst (v := 0) h d_M_replaced_197 (by decide) ?_
                refine J_istore (lv' := [(5, .int 0), (7, .int y5), (6, .int y4), (0, .ref (ad 0)), (2, .int v2), (3, .int v3), (4, .int v4)]) h d_M_replaced_198 (by decide) rfl ?_
                refine J_aload_n (q := 3) h d_M_replaced_200 rfl rfl ?_
                refine J_getf h 0 (wM_0 ad cA σ26) (tb_ups in_M) rfl 18 (by decide) (tb_up q_4_100) rfl d_M_replaced_201 ?_
                refine J_iload_n (q := 5) h d_M_replaced_204 rfl rfl ?_
                refine J_aload_n (q := 3) h d_M_replaced_205 rfl rfl ?_
                refine J_getf h 0 (wM_0 ad cA σ26) (tb_ups in_M) rfl 8 (by decide) (tb_up q_4_90) rfl d_M_replaced_206 ?_
                refine J_iload (q := 1) h d_M_replaced_209 rfl ?_
                refine J_iald h 8 7 (wM_8 ad cA σ26) rfl d_M_replaced_211 ?_
                refine J_iast h 14 13 (wM_14 ad cA σ26) rfl (uM_14 ad cA σ26 _) d_M_replaced_212 (fun σ27 => ?_)
                refine J_iinc (q := 5) (c := 1) (lv' := fun y28 => [(3, .int y28), (5, .int 0), (7, .int y5), (6, .int y4), (0, .ref (ad 0)), (2, .int v2), (4, .int v4)]) h d_M_replaced_213 rfl (by decide) (by decide) (fun _ => rfl) (fun y28 => ?_)
                refine J_goto (tgt := 362) h d_M_replaced_216 (by decide) ?_
                refine J_sub [4, 5, 0, 6, 1] rfl ?_
                exact J_M_M_replaced_b362 K D A ad cA N h (M_M_replaced_L32 N k365 n) ih v2 y28 v4 0 σ27
            · refine J_sub [2, 3, 4, 5, 6, 1, 0] rfl ?_
              exact J_M_M_replaced_b219 K D A ad cA N h (M_M_replaced_L32 N k365 n) ih v2 v3 v4 v5 y4 y5 σ
          · refine J_sub [2, 3, 4, 5, 6, 1, 0] rfl ?_
            exact J_M_M_replaced_b219 K D A ad cA N h (M_M_replaced_L32 N k365 n) ih v2 v3 v4 v5 y4 y5 σ
      · refine J_sub [0, 3] rfl ?_
        exact hk365 v4 σ
def M_M_replaced_b365 (N : Nat) (v4 : Int32) (σ : SM) : Option (Int32 × SM) := (if (gM_M_full σ) = 0 then (some (v4, σ)) else (some ((-1), σ)))
set_option maxRecDepth 100000 in
set_option maxHeartbeats 4000000 in
theorem J_M_M_replaced_b365 (K : jx_E) (D : va_G) (A : Nat → Prop) (ad : Nat → Nat) (cA : Nat → ClassId) (N : Nat) (h : jx_ok K D clM (tysM cA) A 9 b_M_replaced y_M_replaced.cls ((Cond.code y_M_replaced b_M_replaced 9 (some .int)) :: tblG) rM_M_replaced (some .int)) : ∀ (v4 : Int32) (σ : SM), J K D clM A 9 (wM ad cA) (jx_Qi K D clM (tysM cA) (wM ad cA) A) 0 0 365 [(0, .ref (ad 0)), (4, .int v4)] [] σ (M_M_replaced_b365 N v4 σ) := by
  intro v4 σ
  rw [M_M_replaced_b365]
  refine J_aload_n (q := 0) h d_M_replaced_365 rfl rfl ?_
  refine J_getf h 0 (wM_0 ad cA σ) (tb_ups in_M) rfl 12 (by decide) (tb_up q_4_94) rfl d_M_replaced_366 ?_
  refine J_if_eq (tgt := 376) h d_M_replaced_369 (by decide) ?_ ?_
  · refine J_iload (q := 1) h d_M_replaced_376 rfl ?_
    exact J_iret h rfl d_M_replaced_378
  · refine J_iconst (v := (-1)) h d_M_replaced_372 (by decide) ?_
    refine J_goto (tgt := 378) h d_M_replaced_373 (by decide) ?_
    exact J_iret h rfl d_M_replaced_378
def M_M_replaced (N : Nat) (x1 : Int32) (x2 : Int32) (σ : SM) : Option (Int32 × SM) := (nm (sM_M_looks σ ((gM_M_looks σ) + 1)) (fun (σ1 : SM) => (if ck 0 64 = true then (nm (tM_M_workType σ1 (upd (aM_M_workType σ1) (0 : Int32).toNatClampNeg x1)) (fun (σ2 : SM) => (if ck 0 64 = true then (nm (tM_M_workStage σ2 (upd (aM_M_workStage σ2) (0 : Int32).toNatClampNeg 0)) (fun (σ3 : SM) => (M_M_replaced_L32 N (M_M_replaced_b365 N) N x2 1 (-1) 0 σ3))) else none))) else none)))
set_option maxRecDepth 100000 in
set_option maxHeartbeats 4000000 in
theorem J_M_M_replaced (K : jx_E) (D : va_G) (A : Nat → Prop) (ad : Nat → Nat) (cA : Nat → ClassId) (N : Nat) (h : jx_ok K D clM (tysM cA) A 9 b_M_replaced y_M_replaced.cls ((Cond.code y_M_replaced b_M_replaced 9 (some .int)) :: tblG) rM_M_replaced (some .int)) : ∀ (x1 : Int32) (x2 : Int32) (σ : SM), J K D clM A 9 (wM ad cA) (jx_Qi K D clM (tysM cA) (wM ad cA) A) 0 0 0 [(0, .ref (ad 0)), (1, .int x1), (2, .int x2)] [] σ (M_M_replaced N x1 x2 σ) := by
  intro x1 x2 σ
  rw [M_M_replaced]
  refine J_aload_n (q := 0) h d_M_replaced_0 rfl rfl ?_
  refine J_dup h d_M_replaced_1 rfl ?_
  refine J_getf h 0 (wM_0 ad cA σ) (tb_ups in_M) rfl 24 (by decide) (tb_up q_4_106) rfl d_M_replaced_2 ?_
  refine J_iconst (v := 1) h d_M_replaced_5 (by decide) ?_
  refine J_iadd h d_M_replaced_6 ?_
  refine J_putf h 0 (wM_0 ad cA σ) (tb_ups in_M) rfl ft_M ft_M_ok nm_M 24 (by decide) (tb_up q_4_106) rfl rfl rfl (Nat.le_of_ble_eq_true rfl) (pM_0_24 ad cA σ ((gM_M_looks σ) + 1)) d_M_replaced_7 (fun σ1 => ?_)
  refine J_iconst (v := 1) h d_M_replaced_10 (by decide) ?_
  refine J_istore_n (lv' := [(3, .int 1), (0, .ref (ad 0)), (1, .int x1), (2, .int x2)]) h d_M_replaced_11 rfl (by decide) rfl ?_
  refine J_aload_n (q := 1) h d_M_replaced_12 rfl rfl ?_
  refine J_getf h 0 (wM_0 ad cA σ1) (tb_ups in_M) rfl 18 (by decide) (tb_up q_4_100) rfl d_M_replaced_13 ?_
  refine J_iconst (v := 0) h d_M_replaced_16 (by decide) ?_
  refine J_iload_n (q := 2) h d_M_replaced_17 rfl rfl ?_
  refine J_iast h 14 13 (wM_14 ad cA σ1) rfl (uM_14 ad cA σ1 _) d_M_replaced_18 (fun σ2 => ?_)
  refine J_aload_n (q := 1) h d_M_replaced_19 rfl rfl ?_
  refine J_getf h 0 (wM_0 ad cA σ2) (tb_ups in_M) rfl 19 (by decide) (tb_up q_4_101) rfl d_M_replaced_20 ?_
  refine J_iconst (v := 0) h d_M_replaced_23 (by decide) ?_
  refine J_iconst (v := 0) h d_M_replaced_24 (by decide) ?_
  refine J_iast h 15 14 (wM_15 ad cA σ2) rfl (uM_15 ad cA σ2 _) d_M_replaced_25 (fun σ3 => ?_)
  refine J_iconst (v := (-1)) h d_M_replaced_26 (by decide) ?_
  refine J_istore (lv' := [(4, .int (-1)), (3, .int 1), (0, .ref (ad 0)), (1, .int x1), (2, .int x2)]) h d_M_replaced_27 (by decide) rfl ?_
  refine J_iconst (v := 0) h d_M_replaced_29 (by decide) ?_
  refine J_istore (lv' := [(5, .int 0), (4, .int (-1)), (3, .int 1), (0, .ref (ad 0)), (1, .int x1), (2, .int x2)]) h d_M_replaced_30 (by decide) rfl ?_
  refine J_sub [3, 5, 2, 1, 0] rfl ?_
  exact J_M_M_replaced_L32 K D A ad cA N h (M_M_replaced_b365 N) (J_M_M_replaced_b365 K D A ad cA N h) N x2 1 (-1) 0 σ3
set_option maxRecDepth 100000 in
theorem cM_M_replaced (l : Launch) (D : va_G) (ad : Nat → Nat) (cA : Nat → ClassId) (N : Nat) (x1 : Int32) (x2 : Int32) (σ : SM) (r : Int32) (σ' : SM) (hf : M_M_replaced N x1 x2 σ = some (r, σ')) : MetI l y_M_replaced ((Cond.code y_M_replaced b_M_replaced 9 (some .int)) :: tblG) rM_M_replaced D clM (tysM cA) (wM ad cA) [.ref (ad 0), .int x1, .int x2] σ r σ' :=
  jx_metI (by decide) rfl (Nat.le_of_ble_eq_true rfl) (fun K A h => J_M_M_replaced K D A ad cA N h x1 x2 σ) hf
def rM_M_push : Room := { frames := 0, cells := 0, slots := 0, locals := 0 }
theorem rm_ok_M_M_push : rM_M_push.cells = 0 ∧ rM_M_push.slots = 0 := ⟨rfl, rfl⟩
def M_M_push (x1 : Int32) (x2 : Int32) (x3 : Int32) (σ : SM) : Option (Unit × SM) := (if ck (gM_M_aboves σ) 2000 = true then (nm (tM_M_aboveType σ (upd (aM_M_aboveType σ) (gM_M_aboves σ).toNatClampNeg x1)) (fun (σ1 : SM) => (if ck (gM_M_aboves σ1) 2000 = true then (nm (tM_M_aboveMore σ1 (upd (aM_M_aboveMore σ1) (gM_M_aboves σ1).toNatClampNeg x2)) (fun (σ2 : SM) => (if ck (gM_M_aboves σ2) 2000 = true then (nm (tM_M_aboveFlag σ2 (upd (aM_M_aboveFlag σ2) (gM_M_aboves σ2).toNatClampNeg x3)) (fun (σ3 : SM) => (nm (sM_M_aboves σ3 ((gM_M_aboves σ3) + 1)) (fun (σ4 : SM) => (some ((), σ4)))))) else none))) else none))) else none)
set_option maxRecDepth 100000 in
set_option maxHeartbeats 4000000 in
theorem J_M_M_push (K : jx_E) (D : va_G) (A : Nat → Prop) (ad : Nat → Nat) (cA : Nat → ClassId) (h : jx_ok K D clM (tysM cA) A 4 b_M_push y_M_push.cls ((Cond.code y_M_push b_M_push 4 none) :: tblG) rM_M_push none) : ∀ (x1 : Int32) (x2 : Int32) (x3 : Int32) (σ : SM), J K D clM A 4 (wM ad cA) (jx_Qv K D clM (tysM cA) (wM ad cA) A) 0 0 0 [(0, .ref (ad 0)), (1, .int x1), (2, .int x2), (3, .int x3)] [] σ (M_M_push x1 x2 x3 σ) := by
  intro x1 x2 x3 σ
  rw [M_M_push]
  refine J_aload_n (q := 0) h d_M_push_0 rfl rfl ?_
  refine J_getf h 0 (wM_0 ad cA σ) (tb_ups in_M) rfl 25 (by decide) (tb_up q_4_107) rfl d_M_push_1 ?_
  refine J_aload_n (q := 0) h d_M_push_4 rfl rfl ?_
  refine J_getf h 0 (wM_0 ad cA σ) (tb_ups in_M) rfl 28 (by decide) (tb_up q_4_110) rfl d_M_push_5 ?_
  refine J_iload_n (q := 1) h d_M_push_8 rfl rfl ?_
  refine J_iast h 20 19 (wM_20 ad cA σ) rfl (uM_20 ad cA σ _) d_M_push_9 (fun σ1 => ?_)
  refine J_aload_n (q := 0) h d_M_push_10 rfl rfl ?_
  refine J_getf h 0 (wM_0 ad cA σ1) (tb_ups in_M) rfl 26 (by decide) (tb_up q_4_108) rfl d_M_push_11 ?_
  refine J_aload_n (q := 0) h d_M_push_14 rfl rfl ?_
  refine J_getf h 0 (wM_0 ad cA σ1) (tb_ups in_M) rfl 28 (by decide) (tb_up q_4_110) rfl d_M_push_15 ?_
  refine J_iload_n (q := 2) h d_M_push_18 rfl rfl ?_
  refine J_iast h 21 20 (wM_21 ad cA σ1) rfl (uM_21 ad cA σ1 _) d_M_push_19 (fun σ2 => ?_)
  refine J_aload_n (q := 0) h d_M_push_20 rfl rfl ?_
  refine J_getf h 0 (wM_0 ad cA σ2) (tb_ups in_M) rfl 27 (by decide) (tb_up q_4_109) rfl d_M_push_21 ?_
  refine J_aload_n (q := 0) h d_M_push_24 rfl rfl ?_
  refine J_getf h 0 (wM_0 ad cA σ2) (tb_ups in_M) rfl 28 (by decide) (tb_up q_4_110) rfl d_M_push_25 ?_
  refine J_iload_n (q := 3) h d_M_push_28 rfl rfl ?_
  refine J_iast h 22 21 (wM_22 ad cA σ2) rfl (uM_22 ad cA σ2 _) d_M_push_29 (fun σ3 => ?_)
  refine J_aload_n (q := 0) h d_M_push_30 rfl rfl ?_
  refine J_dup h d_M_push_31 rfl ?_
  refine J_getf h 0 (wM_0 ad cA σ3) (tb_ups in_M) rfl 28 (by decide) (tb_up q_4_110) rfl d_M_push_32 ?_
  refine J_iconst (v := 1) h d_M_push_35 (by decide) ?_
  refine J_iadd h d_M_push_36 ?_
  refine J_putf h 0 (wM_0 ad cA σ3) (tb_ups in_M) rfl ft_M ft_M_ok nm_M 28 (by decide) (tb_up q_4_110) rfl rfl rfl (Nat.le_of_ble_eq_true rfl) (pM_0_28 ad cA σ3 ((gM_M_aboves σ3) + 1)) d_M_push_37 (fun σ4 => ?_)
  exact J_vret h rfl d_M_push_40
set_option maxRecDepth 100000 in
theorem cM_M_push (l : Launch) (D : va_G) (ad : Nat → Nat) (cA : Nat → ClassId) (x1 : Int32) (x2 : Int32) (x3 : Int32) (σ : SM) (r : Unit) (σ' : SM) (hf : M_M_push x1 x2 x3 σ = some (r, σ')) : MetV l y_M_push ((Cond.code y_M_push b_M_push 4 none) :: tblG) rM_M_push D clM (tysM cA) (wM ad cA) [.ref (ad 0), .int x1, .int x2, .int x3] σ r σ' :=
  jx_metV (by decide) rfl (Nat.le_of_ble_eq_true rfl) (fun K A h => J_M_M_push K D A ad cA h x1 x2 x3 σ) hf
def rM_M_aboveOf : Room := { frames := 3, cells := 0, slots := 0, locals := 77 }
theorem rm_ok_M_M_aboveOf : rM_M_aboveOf.cells = 0 ∧ rM_M_aboveOf.slots = 0 := ⟨rfl, rfl⟩
def M_M_aboveOf_b353 (N : Nat) (k12 : Int32 → Int32 → SM → Option (Int32 × SM)) (v1 : Int32) (v2 : Int32) (σ : SM) : Option (Int32 × SM) := (k12 v1 v2 σ)
set_option maxRecDepth 100000 in
set_option maxHeartbeats 4000000 in
theorem J_M_M_aboveOf_b353 (K : jx_E) (D : va_G) (A : Nat → Prop) (ad : Nat → Nat) (cA : Nat → ClassId) (N : Nat) (h : jx_ok K D clM (tysM cA) A 8 b_M_aboveOf y_M_aboveOf.cls ((Cond.code y_M_aboveOf b_M_aboveOf 8 (some .int)) :: tblG) rM_M_aboveOf (some .int)) (k12 : Int32 → Int32 → SM → Option (Int32 × SM)) (hk12 : ∀ (v1 : Int32) (v2 : Int32) (σ : SM), J K D clM A 8 (wM ad cA) (jx_Qi K D clM (tysM cA) (wM ad cA) A) 0 0 12 [(0, .ref (ad 0)), (1, .int v1), (2, .int v2)] [] σ (k12 v1 v2 σ)) : ∀ (v1 : Int32) (v2 : Int32) (σ : SM), J K D clM A 8 (wM ad cA) (jx_Qi K D clM (tysM cA) (wM ad cA) A) 0 0 353 [(0, .ref (ad 0)), (1, .int v1), (2, .int v2)] [] σ (M_M_aboveOf_b353 N k12 v1 v2 σ) := by
  intro v1 v2 σ
  rw [M_M_aboveOf_b353]
  refine J_goto (tgt := 12) h d_M_aboveOf_353 (by decide) ?_
  exact hk12 v1 v2 σ
def M_M_aboveOf_b186 (N : Nat) (k12 : Int32 → Int32 → SM → Option (Int32 × SM)) (v1 : Int32) (v2 : Int32) (σ : SM) : Option (Int32 × SM) := (M_M_aboveOf_b353 N k12 v1 v2 σ)
set_option maxRecDepth 100000 in
set_option maxHeartbeats 4000000 in
theorem J_M_M_aboveOf_b186 (K : jx_E) (D : va_G) (A : Nat → Prop) (ad : Nat → Nat) (cA : Nat → ClassId) (N : Nat) (h : jx_ok K D clM (tysM cA) A 8 b_M_aboveOf y_M_aboveOf.cls ((Cond.code y_M_aboveOf b_M_aboveOf 8 (some .int)) :: tblG) rM_M_aboveOf (some .int)) (k12 : Int32 → Int32 → SM → Option (Int32 × SM)) (hk12 : ∀ (v1 : Int32) (v2 : Int32) (σ : SM), J K D clM A 8 (wM ad cA) (jx_Qi K D clM (tysM cA) (wM ad cA) A) 0 0 12 [(0, .ref (ad 0)), (1, .int v1), (2, .int v2)] [] σ (k12 v1 v2 σ)) : ∀ (v1 : Int32) (v2 : Int32) (σ : SM), J K D clM A 8 (wM ad cA) (jx_Qi K D clM (tysM cA) (wM ad cA) A) 0 0 186 [(0, .ref (ad 0)), (1, .int v1), (2, .int v2)] [] σ (M_M_aboveOf_b186 N k12 v1 v2 σ) := by
  intro v1 v2 σ
  rw [M_M_aboveOf_b186]
  refine J_goto (tgt := 353) h d_M_aboveOf_186 (by decide) ?_
  exact J_M_M_aboveOf_b353 K D A ad cA N h k12 hk12 v1 v2 σ
def M_M_aboveOf_b160 (N : Nat) (k12 : Int32 → Int32 → SM → Option (Int32 × SM)) (v1 : Int32) (v2 : Int32) (s0 : Int32) (σ : SM) : Option (Int32 × SM) := (if ck s0 500 = true then (if (aM_M_one σ s0.toNatClampNeg) = 1 then (if ck s0 500 = true then (bd (M_M_push (aM_M_two σ s0.toNatClampNeg) 0 0 σ) (fun (r9 : Unit) (σ10 : SM) => (M_M_aboveOf_b186 N k12 v1 v2 σ10))) else none) else (M_M_aboveOf_b186 N k12 v1 v2 σ)) else none)
set_option maxRecDepth 100000 in
set_option maxHeartbeats 4000000 in
theorem J_M_M_aboveOf_b160 (K : jx_E) (D : va_G) (A : Nat → Prop) (ad : Nat → Nat) (cA : Nat → ClassId) (N : Nat) (h : jx_ok K D clM (tysM cA) A 8 b_M_aboveOf y_M_aboveOf.cls ((Cond.code y_M_aboveOf b_M_aboveOf 8 (some .int)) :: tblG) rM_M_aboveOf (some .int)) (k12 : Int32 → Int32 → SM → Option (Int32 × SM)) (hk12 : ∀ (v1 : Int32) (v2 : Int32) (σ : SM), J K D clM A 8 (wM ad cA) (jx_Qi K D clM (tysM cA) (wM ad cA) A) 0 0 12 [(0, .ref (ad 0)), (1, .int v1), (2, .int v2)] [] σ (k12 v1 v2 σ)) : ∀ (v1 : Int32) (v2 : Int32) (s0 : Int32) (σ : SM), J K D clM A 8 (wM ad cA) (jx_Qi K D clM (tysM cA) (wM ad cA) A) 0 0 160 [(0, .ref (ad 0)), (1, .int v1), (2, .int v2)] [.int s0] σ (M_M_aboveOf_b160 N k12 v1 v2 s0 σ) := by
  intro v1 v2 s0 σ
  rw [M_M_aboveOf_b160]
  refine J_istore (lv' := [(5, .int s0), (0, .ref (ad 0)), (1, .int v1), (2, .int v2)]) h d_M_aboveOf_160 (by decide) rfl ?_
  refine J_aload_n (q := 1) h d_M_aboveOf_162 rfl rfl ?_
  refine J_getf h 0 (wM_0 ad cA σ) (tb_ups in_M) rfl 6 (by decide) (tb_up q_4_88) rfl d_M_aboveOf_163 ?_
  refine J_iload (q := 0) h d_M_aboveOf_166 rfl ?_
  refine J_iald h 6 5 (wM_6 ad cA σ) rfl d_M_aboveOf_168 ?_
  refine J_iconst (v := 1) h d_M_aboveOf_169 (by decide) ?_
  refine J_icmp_ne (tgt := 186) h d_M_aboveOf_170 (by decide) ?_ ?_
  · refine J_aload_n (q := 1) h d_M_aboveOf_173 rfl rfl ?_
    refine J_aload_n (q := 1) h d_M_aboveOf_174 rfl rfl ?_
    refine J_getf h 0 (wM_0 ad cA σ) (tb_ups in_M) rfl 7 (by decide) (tb_up q_4_89) rfl d_M_aboveOf_175 ?_
    refine J_iload (q := 0) h d_M_aboveOf_178 rfl ?_
    refine J_iald h 7 6 (wM_7 ad cA σ) rfl d_M_aboveOf_180 ?_
    refine J_iconst (v := 0) h d_M_aboveOf_181 (by decide) ?_
    refine J_iconst (v := 0) h d_M_aboveOf_182 (by decide) ?_
    refine J_callVv (As := [.int (aM_M_two σ s0.toNatClampNeg), .int 0, .int 0]) (st := []) (rmc := rM_M_push) (q0 := 0) h (fun _ _ hf => cM_M_push (jl K) D ad cA (aM_M_two σ s0.toNatClampNeg) 0 0 σ _ _ hf) (gd_V q_5_122 q_5_124 q_s_36 q_1_12 q_5_125) rfl ⟨rfl, rfl⟩ dd_M_push ⟨Nat.le_of_ble_eq_true rfl, Nat.le_of_ble_eq_true rfl⟩ rfl rfl (wM_0 ad cA σ) rfl rfl (Nat.le_of_ble_eq_true rfl) ⟨Nat.zero_le _, Nat.zero_le _⟩ d_M_aboveOf_183 (fun r9 σ10 => ?_)
    refine J_sub [1, 2, 3] rfl ?_
    exact J_M_M_aboveOf_b186 K D A ad cA N h k12 hk12 v1 v2 σ10
  · refine J_sub [1, 2, 3] rfl ?_
    exact J_M_M_aboveOf_b186 K D A ad cA N h k12 hk12 v1 v2 σ
def M_M_aboveOf_b347 (N : Nat) (k235 : Int32 → Int32 → Int32 → Int32 → Int32 → SM → Option (Int32 × SM)) (v1 : Int32) (v2 : Int32) (v3 : Int32) (v5 : Int32) (v6 : Int32) (σ : SM) : Option (Int32 × SM) := (nm (v6 + (-1)) (fun (y14 : Int32) => (k235 v1 v2 v3 v5 y14 σ)))
set_option maxRecDepth 100000 in
set_option maxHeartbeats 4000000 in
theorem J_M_M_aboveOf_b347 (K : jx_E) (D : va_G) (A : Nat → Prop) (ad : Nat → Nat) (cA : Nat → ClassId) (N : Nat) (h : jx_ok K D clM (tysM cA) A 8 b_M_aboveOf y_M_aboveOf.cls ((Cond.code y_M_aboveOf b_M_aboveOf 8 (some .int)) :: tblG) rM_M_aboveOf (some .int)) (k235 : Int32 → Int32 → Int32 → Int32 → Int32 → SM → Option (Int32 × SM)) (hk235 : ∀ (v1 : Int32) (v2 : Int32) (v3 : Int32) (v5 : Int32) (v6 : Int32) (σ : SM), J K D clM A 8 (wM ad cA) (jx_Qi K D clM (tysM cA) (wM ad cA) A) 0 0 235 [(0, .ref (ad 0)), (1, .int v1), (2, .int v2), (3, .int v3), (5, .int v5), (6, .int v6)] [] σ (k235 v1 v2 v3 v5 v6 σ)) : ∀ (v1 : Int32) (v2 : Int32) (v3 : Int32) (v5 : Int32) (v6 : Int32) (σ : SM), J K D clM A 8 (wM ad cA) (jx_Qi K D clM (tysM cA) (wM ad cA) A) 0 0 347 [(0, .ref (ad 0)), (1, .int v1), (2, .int v2), (3, .int v3), (5, .int v5), (6, .int v6)] [] σ (M_M_aboveOf_b347 N k235 v1 v2 v3 v5 v6 σ) := by
  intro v1 v2 v3 v5 v6 σ
  rw [M_M_aboveOf_b347]
  refine J_iinc (q := 5) (c := (-1)) (lv' := fun y14 => [(6, .int y14), (0, .ref (ad 0)), (1, .int v1), (2, .int v2), (3, .int v3), (5, .int v5)]) h d_M_aboveOf_347 rfl (by decide) (by decide) (fun _ => rfl) (fun y14 => ?_)
  refine J_goto (tgt := 235) h d_M_aboveOf_350 (by decide) ?_
  refine J_sub [1, 2, 3, 4, 5, 0] rfl ?_
  exact hk235 v1 v2 v3 v5 y14 σ
def M_M_aboveOf_b344 (N : Nat) (k235 : Int32 → Int32 → Int32 → Int32 → Int32 → SM → Option (Int32 × SM)) (v1 : Int32) (v2 : Int32) (v3 : Int32) (v5 : Int32) (v6 : Int32) (s0 : Int32) (s1 : Int32) (s2 : Int32) (σ : SM) : Option (Int32 × SM) := (bd (M_M_push s2 s1 s0 σ) (fun (r17 : Unit) (σ18 : SM) => (M_M_aboveOf_b347 N k235 v1 v2 v3 v5 v6 σ18)))
set_option maxRecDepth 100000 in
set_option maxHeartbeats 4000000 in
theorem J_M_M_aboveOf_b344 (K : jx_E) (D : va_G) (A : Nat → Prop) (ad : Nat → Nat) (cA : Nat → ClassId) (N : Nat) (h : jx_ok K D clM (tysM cA) A 8 b_M_aboveOf y_M_aboveOf.cls ((Cond.code y_M_aboveOf b_M_aboveOf 8 (some .int)) :: tblG) rM_M_aboveOf (some .int)) (k235 : Int32 → Int32 → Int32 → Int32 → Int32 → SM → Option (Int32 × SM)) (hk235 : ∀ (v1 : Int32) (v2 : Int32) (v3 : Int32) (v5 : Int32) (v6 : Int32) (σ : SM), J K D clM A 8 (wM ad cA) (jx_Qi K D clM (tysM cA) (wM ad cA) A) 0 0 235 [(0, .ref (ad 0)), (1, .int v1), (2, .int v2), (3, .int v3), (5, .int v5), (6, .int v6)] [] σ (k235 v1 v2 v3 v5 v6 σ)) : ∀ (v1 : Int32) (v2 : Int32) (v3 : Int32) (v5 : Int32) (v6 : Int32) (s0 : Int32) (s1 : Int32) (s2 : Int32) (σ : SM), J K D clM A 8 (wM ad cA) (jx_Qi K D clM (tysM cA) (wM ad cA) A) 0 0 344 [(0, .ref (ad 0)), (1, .int v1), (2, .int v2), (3, .int v3), (5, .int v5), (6, .int v6)] [.int s0, .int s1, .int s2, .ref (ad 0)] σ (M_M_aboveOf_b344 N k235 v1 v2 v3 v5 v6 s0 s1 s2 σ) := by
  intro v1 v2 v3 v5 v6 s0 s1 s2 σ
  rw [M_M_aboveOf_b344]
  refine J_callVv (As := [.int s2, .int s1, .int s0]) (st := []) (rmc := rM_M_push) (q0 := 0) h (fun _ _ hf => cM_M_push (jl K) D ad cA s2 s1 s0 σ _ _ hf) (gd_V q_5_122 q_5_124 q_s_36 q_1_12 q_5_125) rfl ⟨rfl, rfl⟩ dd_M_push ⟨Nat.le_of_ble_eq_true rfl, Nat.le_of_ble_eq_true rfl⟩ rfl rfl (wM_0 ad cA σ) rfl rfl (Nat.le_of_ble_eq_true rfl) ⟨Nat.zero_le _, Nat.zero_le _⟩ d_M_aboveOf_344 (fun r17 σ18 => ?_)
  exact J_M_M_aboveOf_b347 K D A ad cA N h k235 hk235 v1 v2 v3 v5 v6 σ18
def M_M_aboveOf_b327 (N : Nat) (k235 : Int32 → Int32 → Int32 → Int32 → Int32 → SM → Option (Int32 × SM)) (v1 : Int32) (v2 : Int32) (v3 : Int32) (v5 : Int32) (v6 : Int32) (v7 : Int32) (s0 : Int32) (σ : SM) : Option (Int32 × SM) := (if ck v5 40 = true then (if (aM_M_parameters σ v5.toNatClampNeg) ≤ 0 then (M_M_aboveOf_b344 N k235 v1 v2 v3 v5 v6 0 v7 s0 σ) else (M_M_aboveOf_b344 N k235 v1 v2 v3 v5 v6 1 v7 s0 σ)) else none)
set_option maxRecDepth 100000 in
set_option maxHeartbeats 4000000 in
theorem J_M_M_aboveOf_b327 (K : jx_E) (D : va_G) (A : Nat → Prop) (ad : Nat → Nat) (cA : Nat → ClassId) (N : Nat) (h : jx_ok K D clM (tysM cA) A 8 b_M_aboveOf y_M_aboveOf.cls ((Cond.code y_M_aboveOf b_M_aboveOf 8 (some .int)) :: tblG) rM_M_aboveOf (some .int)) (k235 : Int32 → Int32 → Int32 → Int32 → Int32 → SM → Option (Int32 × SM)) (hk235 : ∀ (v1 : Int32) (v2 : Int32) (v3 : Int32) (v5 : Int32) (v6 : Int32) (σ : SM), J K D clM A 8 (wM ad cA) (jx_Qi K D clM (tysM cA) (wM ad cA) A) 0 0 235 [(0, .ref (ad 0)), (1, .int v1), (2, .int v2), (3, .int v3), (5, .int v5), (6, .int v6)] [] σ (k235 v1 v2 v3 v5 v6 σ)) : ∀ (v1 : Int32) (v2 : Int32) (v3 : Int32) (v5 : Int32) (v6 : Int32) (v7 : Int32) (s0 : Int32) (σ : SM), J K D clM A 8 (wM ad cA) (jx_Qi K D clM (tysM cA) (wM ad cA) A) 0 0 327 [(0, .ref (ad 0)), (1, .int v1), (2, .int v2), (3, .int v3), (5, .int v5), (6, .int v6), (7, .int v7)] [.int s0, .ref (ad 0)] σ (M_M_aboveOf_b327 N k235 v1 v2 v3 v5 v6 v7 s0 σ) := by
  intro v1 v2 v3 v5 v6 v7 s0 σ
  rw [M_M_aboveOf_b327]
  refine J_iload (q := 6) h d_M_aboveOf_327 rfl ?_
  refine J_aload_n (q := 0) h d_M_aboveOf_329 rfl rfl ?_
  refine J_getf h 0 (wM_0 ad cA σ) (tb_ups in_M) rfl 0 (by decide) (tb_up q_4_82) rfl d_M_aboveOf_330 ?_
  refine J_iload (q := 4) h d_M_aboveOf_333 rfl ?_
  refine J_iald h 1 0 (wM_1 ad cA σ) rfl d_M_aboveOf_335 ?_
  refine J_if_le (tgt := 343) h d_M_aboveOf_336 (by decide) ?_ ?_
  · refine J_iconst (v := 0) h d_M_aboveOf_343 (by decide) ?_
    refine J_sub [0, 1, 2, 3, 4, 5] rfl ?_
    exact J_M_M_aboveOf_b344 K D A ad cA N h k235 hk235 v1 v2 v3 v5 v6 0 v7 s0 σ
  · refine J_iconst (v := 1) h d_M_aboveOf_339 (by decide) ?_
    refine J_goto (tgt := 344) h d_M_aboveOf_340 (by decide) ?_
    refine J_sub [0, 1, 2, 3, 4, 5] rfl ?_
    exact J_M_M_aboveOf_b344 K D A ad cA N h k235 hk235 v1 v2 v3 v5 v6 1 v7 s0 σ
def M_M_aboveOf_L235 (N : Nat) (k353 : Int32 → Int32 → SM → Option (Int32 × SM)) : Nat → Int32 → Int32 → Int32 → Int32 → Int32 → SM → Option (Int32 × SM)
  | 0, _, _, _, _, _, _ => none
  | n + 1, v1, v2, v3, v5, v6, σ => (if v6 < 0 then (k353 v1 v2 σ) else (if ck (((3 : Int32) * v5) + v6) 120 = true then (nm ((aM_M_parents σ (((3 : Int32) * v5) + v6).toNatClampNeg)) (fun (y13 : Int32) => (if ck y13 500 = true then (if ck (aM_M_one σ y13.toNatClampNeg) 40 = true then (if ck y13 500 = true then (if (lg_cmp ((((aM_M_upward σ (aM_M_one σ y13.toNatClampNeg).toNatClampNeg) ||| ((1 : Int64) <<< ((aM_M_one σ y13.toNatClampNeg).toInt64 &&& 63))) >>> (v2.toInt64 &&& 63)) <<< ((63 : Int32).toInt64 &&& 63)) 0) = 0 then (M_M_aboveOf_b347 N (M_M_aboveOf_L235 N k353 n) v1 v2 v3 v5 v6 σ) else (if ck v3 500 = true then (if (aM_M_kind σ v3.toNatClampNeg) = 1 then (bd (M_M_push v3 y13 2 σ) (fun (r15 : Unit) (σ16 : SM) => (M_M_aboveOf_b347 N (M_M_aboveOf_L235 N k353 n) v1 v2 v3 v5 v6 σ16))) else (if ck v5 40 = true then (if (aM_M_parameters σ v5.toNatClampNeg) ≤ 0 then (M_M_aboveOf_b327 N (M_M_aboveOf_L235 N k353 n) v1 v2 v3 v5 v6 y13 y13 σ) else (M_M_aboveOf_b327 N (M_M_aboveOf_L235 N k353 n) v1 v2 v3 v5 v6 y13 v3 σ)) else none)) else none)) else none) else none) else none))) else none))
set_option maxRecDepth 100000 in
set_option maxHeartbeats 4000000 in
theorem J_M_M_aboveOf_L235 (K : jx_E) (D : va_G) (A : Nat → Prop) (ad : Nat → Nat) (cA : Nat → ClassId) (N : Nat) (h : jx_ok K D clM (tysM cA) A 8 b_M_aboveOf y_M_aboveOf.cls ((Cond.code y_M_aboveOf b_M_aboveOf 8 (some .int)) :: tblG) rM_M_aboveOf (some .int)) (k353 : Int32 → Int32 → SM → Option (Int32 × SM)) (hk353 : ∀ (v1 : Int32) (v2 : Int32) (σ : SM), J K D clM A 8 (wM ad cA) (jx_Qi K D clM (tysM cA) (wM ad cA) A) 0 0 353 [(0, .ref (ad 0)), (1, .int v1), (2, .int v2)] [] σ (k353 v1 v2 σ)) : ∀ (n : Nat) (v1 : Int32) (v2 : Int32) (v3 : Int32) (v5 : Int32) (v6 : Int32) (σ : SM), J K D clM A 8 (wM ad cA) (jx_Qi K D clM (tysM cA) (wM ad cA) A) 0 0 235 [(0, .ref (ad 0)), (1, .int v1), (2, .int v2), (3, .int v3), (5, .int v5), (6, .int v6)] [] σ (M_M_aboveOf_L235 N k353 n v1 v2 v3 v5 v6 σ) := by
  intro n
  induction n with
  | zero => intro v1 v2 v3 v5 v6 σ; exact J_none
  | succ n ih =>
    intro v1 v2 v3 v5 v6 σ
    rw [M_M_aboveOf_L235]
    refine J_iload (q := 5) h d_M_aboveOf_235 rfl ?_
    refine J_if_lt (tgt := 353) h d_M_aboveOf_237 (by decide) ?_ ?_
    · refine J_sub [0, 1, 2] rfl ?_
      exact hk353 v1 v2 σ
    · refine J_aload_n (q := 0) h d_M_aboveOf_240 rfl rfl ?_
      refine J_getf h 0 (wM_0 ad cA σ) (tb_ups in_M) rfl 1 (by decide) (tb_up q_4_83) rfl d_M_aboveOf_241 ?_
      refine J_iconst (v := 3) h d_M_aboveOf_244 (by decide) ?_
      refine J_iload (q := 4) h d_M_aboveOf_245 rfl ?_
      refine J_imul h d_M_aboveOf_247 ?_
      refine J_iload (q := 5) h d_M_aboveOf_248 rfl ?_
      refine J_iadd h d_M_aboveOf_250 ?_
      refine J_iald h 2 1 (wM_2 ad cA σ) rfl d_M_aboveOf_251 ?_
      refine J_nmi (fun y13 => ?_)
      refine J_istore (lv' := [(7, .int y13), (0, .ref (ad 0)), (1, .int v1), (2, .int v2), (3, .int v3), (5, .int v5), (6, .int v6)]) h d_M_aboveOf_252 (by decide) rfl ?_
      refine J_aload_n (q := 1) h d_M_aboveOf_254 rfl rfl ?_
      refine J_getf h 0 (wM_0 ad cA σ) (tb_ups in_M) rfl 3 (by decide) (tb_up q_4_85) rfl d_M_aboveOf_255 ?_
      refine J_aload_n (q := 1) h d_M_aboveOf_258 rfl rfl ?_
      refine J_getf h 0 (wM_0 ad cA σ) (tb_ups in_M) rfl 6 (by decide) (tb_up q_4_88) rfl d_M_aboveOf_259 ?_
      refine J_iload (q := 0) h d_M_aboveOf_262 rfl ?_
      refine J_iald h 6 5 (wM_6 ad cA σ) rfl d_M_aboveOf_264 ?_
      refine J_lald h 4 3 (wM_4 ad cA σ) rfl d_M_aboveOf_265 ?_
      refine J_lconst (v := 1) h d_M_aboveOf_266 (by decide) ?_
      refine J_aload_n (q := 1) h d_M_aboveOf_267 rfl rfl ?_
      refine J_getf h 0 (wM_0 ad cA σ) (tb_ups in_M) rfl 6 (by decide) (tb_up q_4_88) rfl d_M_aboveOf_268 ?_
      refine J_iload (q := 0) h d_M_aboveOf_271 rfl ?_
      refine J_iald h 6 5 (wM_6 ad cA σ) rfl d_M_aboveOf_273 ?_
      refine J_lshl h d_M_aboveOf_274 ?_
      refine J_lor h d_M_aboveOf_275 ?_
      refine J_iload_n (q := 3) h d_M_aboveOf_276 rfl rfl ?_
      refine J_lshr h d_M_aboveOf_277 ?_
      refine J_bipush (v := 63) h d_M_aboveOf_278 (by decide) ?_
      refine J_lshl h d_M_aboveOf_280 ?_
      refine J_lconst (v := 0) h d_M_aboveOf_281 (by decide) ?_
      refine J_lcmp h d_M_aboveOf_282 ?_
      refine J_if_ne (tgt := 289) h d_M_aboveOf_283 (by decide) ?_ ?_
      · refine J_goto (tgt := 347) h d_M_aboveOf_286 (by decide) ?_
        refine J_sub [1, 2, 3, 4, 5, 6] rfl ?_
        exact J_M_M_aboveOf_b347 K D A ad cA N h (M_M_aboveOf_L235 N k353 n) ih v1 v2 v3 v5 v6 σ
      · refine J_aload_n (q := 1) h d_M_aboveOf_289 rfl rfl ?_
        refine J_getf h 0 (wM_0 ad cA σ) (tb_ups in_M) rfl 5 (by decide) (tb_up q_4_87) rfl d_M_aboveOf_290 ?_
        refine J_iload_n (q := 4) h d_M_aboveOf_293 rfl rfl ?_
        refine J_iald h 5 4 (wM_5 ad cA σ) rfl d_M_aboveOf_294 ?_
        refine J_iconst (v := 1) h d_M_aboveOf_295 (by decide) ?_
        refine J_icmp_ne (tgt := 310) h d_M_aboveOf_296 (by decide) ?_ ?_
        · refine J_aload_n (q := 1) h d_M_aboveOf_299 rfl rfl ?_
          refine J_iload_n (q := 4) h d_M_aboveOf_300 rfl rfl ?_
          refine J_iload (q := 0) h d_M_aboveOf_301 rfl ?_
          refine J_iconst (v := 2) h d_M_aboveOf_303 (by decide) ?_
          refine J_callVv (As := [.int v3, .int y13, .int 2]) (st := []) (rmc := rM_M_push) (q0 := 0) h (fun _ _ hf => cM_M_push (jl K) D ad cA v3 y13 2 σ _ _ hf) (gd_V q_5_122 q_5_124 q_s_36 q_1_12 q_5_125) rfl ⟨rfl, rfl⟩ dd_M_push ⟨Nat.le_of_ble_eq_true rfl, Nat.le_of_ble_eq_true rfl⟩ rfl rfl (wM_0 ad cA σ) rfl rfl (Nat.le_of_ble_eq_true rfl) ⟨Nat.zero_le _, Nat.zero_le _⟩ d_M_aboveOf_304 (fun r15 σ16 => ?_)
          refine J_goto (tgt := 347) h d_M_aboveOf_307 (by decide) ?_
          refine J_sub [1, 2, 3, 4, 5, 6] rfl ?_
          exact J_M_M_aboveOf_b347 K D A ad cA N h (M_M_aboveOf_L235 N k353 n) ih v1 v2 v3 v5 v6 σ16
        · refine J_aload_n (q := 1) h d_M_aboveOf_310 rfl rfl ?_
          refine J_aload_n (q := 1) h d_M_aboveOf_311 rfl rfl ?_
          refine J_getf h 0 (wM_0 ad cA σ) (tb_ups in_M) rfl 0 (by decide) (tb_up q_4_82) rfl d_M_aboveOf_312 ?_
          refine J_iload (q := 5) h d_M_aboveOf_315 rfl ?_
          refine J_iald h 1 0 (wM_1 ad cA σ) rfl d_M_aboveOf_317 ?_
          refine J_if_le (tgt := 325) h d_M_aboveOf_318 (by decide) ?_ ?_
          · refine J_iload (q := 0) h d_M_aboveOf_325 rfl ?_
            refine J_sub [1, 2, 3, 4, 5, 6, 0] rfl ?_
            exact J_M_M_aboveOf_b327 K D A ad cA N h (M_M_aboveOf_L235 N k353 n) ih v1 v2 v3 v5 v6 y13 y13 σ
          · refine J_iload_n (q := 4) h d_M_aboveOf_321 rfl rfl ?_
            refine J_goto (tgt := 327) h d_M_aboveOf_322 (by decide) ?_
            refine J_sub [1, 2, 3, 4, 5, 6, 0] rfl ?_
            exact J_M_M_aboveOf_b327 K D A ad cA N h (M_M_aboveOf_L235 N k353 n) ih v1 v2 v3 v5 v6 y13 v3 σ
def M_M_aboveOf_b208 (N : Nat) (k12 : Int32 → Int32 → SM → Option (Int32 × SM)) (v1 : Int32) (v2 : Int32) (v3 : Int32) (σ : SM) : Option (Int32 × SM) := (if ck v3 500 = true then (nm ((aM_M_one σ v3.toNatClampNeg)) (fun (y11 : Int32) => (if y11 = v2 then (some (v3, σ)) else (if ck y11 40 = true then (nm (((aM_M_parentMany σ y11.toNatClampNeg) - 1)) (fun (y12 : Int32) => (M_M_aboveOf_L235 N (M_M_aboveOf_b353 N k12) N v1 v2 v3 y11 y12 σ))) else none)))) else none)
set_option maxRecDepth 100000 in
set_option maxHeartbeats 4000000 in
theorem J_M_M_aboveOf_b208 (K : jx_E) (D : va_G) (A : Nat → Prop) (ad : Nat → Nat) (cA : Nat → ClassId) (N : Nat) (h : jx_ok K D clM (tysM cA) A 8 b_M_aboveOf y_M_aboveOf.cls ((Cond.code y_M_aboveOf b_M_aboveOf 8 (some .int)) :: tblG) rM_M_aboveOf (some .int)) (k12 : Int32 → Int32 → SM → Option (Int32 × SM)) (hk12 : ∀ (v1 : Int32) (v2 : Int32) (σ : SM), J K D clM A 8 (wM ad cA) (jx_Qi K D clM (tysM cA) (wM ad cA) A) 0 0 12 [(0, .ref (ad 0)), (1, .int v1), (2, .int v2)] [] σ (k12 v1 v2 σ)) : ∀ (v1 : Int32) (v2 : Int32) (v3 : Int32) (σ : SM), J K D clM A 8 (wM ad cA) (jx_Qi K D clM (tysM cA) (wM ad cA) A) 0 0 208 [(0, .ref (ad 0)), (1, .int v1), (2, .int v2), (3, .int v3)] [] σ (M_M_aboveOf_b208 N k12 v1 v2 v3 σ) := by
  intro v1 v2 v3 σ
  rw [M_M_aboveOf_b208]
  refine J_aload_n (q := 0) h d_M_aboveOf_208 rfl rfl ?_
  refine J_getf h 0 (wM_0 ad cA σ) (tb_ups in_M) rfl 6 (by decide) (tb_up q_4_88) rfl d_M_aboveOf_209 ?_
  refine J_iload_n (q := 3) h d_M_aboveOf_212 rfl rfl ?_
  refine J_iald h 6 5 (wM_6 ad cA σ) rfl d_M_aboveOf_213 ?_
  refine J_nmi (fun y11 => ?_)
  refine J_istore (lv' := [(5, .int y11), (0, .ref (ad 0)), (1, .int v1), (2, .int v2), (3, .int v3)]) h d_M_aboveOf_214 (by decide) rfl ?_
  refine J_iload (q := 0) h d_M_aboveOf_216 rfl ?_
  refine J_iload_n (q := 3) h d_M_aboveOf_218 rfl rfl ?_
  refine J_icmp_ne (tgt := 224) h d_M_aboveOf_219 (by decide) ?_ ?_
  · refine J_iload_n (q := 4) h d_M_aboveOf_222 rfl rfl ?_
    exact J_iret h rfl d_M_aboveOf_223
  · refine J_aload_n (q := 1) h d_M_aboveOf_224 rfl rfl ?_
    refine J_getf h 0 (wM_0 ad cA σ) (tb_ups in_M) rfl 2 (by decide) (tb_up q_4_84) rfl d_M_aboveOf_225 ?_
    refine J_iload (q := 0) h d_M_aboveOf_228 rfl ?_
    refine J_iald h 3 2 (wM_3 ad cA σ) rfl d_M_aboveOf_230 ?_
    refine J_iconst (v := 1) h d_M_aboveOf_231 (by decide) ?_
    refine J_isub h d_M_aboveOf_232 ?_
    refine J_nmi (fun y12 => ?_)
    refine J_istore (lv' := [(6, .int y12), (5, .int y11), (0, .ref (ad 0)), (1, .int v1), (2, .int v2), (3, .int v3)]) h d_M_aboveOf_233 (by decide) rfl ?_
    refine J_sub [2, 3, 4, 5, 1, 0] rfl ?_
    exact J_M_M_aboveOf_L235 K D A ad cA N h (M_M_aboveOf_b353 N k12) (J_M_M_aboveOf_b353 K D A ad cA N h k12 hk12) N v1 v2 v3 y11 y12 σ
def M_M_aboveOf_b106 (N : Nat) (k12 : Int32 → Int32 → SM → Option (Int32 × SM)) (v1 : Int32) (v2 : Int32) (v3 : Int32) (σ : SM) : Option (Int32 × SM) := (if (gM_M_full σ) = 0 then (if ck v3 500 = true then (if (aM_M_kind σ v3.toNatClampNeg) = 8 then (if ck v3 500 = true then (if (aM_M_two σ v3.toNatClampNeg) = 0 then (if ck v3 500 = true then (if ck (aM_M_one σ v3.toNatClampNeg) 500 = true then (M_M_aboveOf_b160 N k12 v1 v2 (aM_M_two σ (aM_M_one σ v3.toNatClampNeg).toNatClampNeg) σ) else none) else none) else (if ck v3 500 = true then (if ck (aM_M_one σ v3.toNatClampNeg) 500 = true then (M_M_aboveOf_b160 N k12 v1 v2 (aM_M_three σ (aM_M_one σ v3.toNatClampNeg).toNatClampNeg) σ) else none) else none)) else none) else (if ck v3 500 = true then (if (aM_M_kind σ v3.toNatClampNeg) = 0 then (M_M_aboveOf_b208 N k12 v1 v2 v3 σ) else (if ck v3 500 = true then (if (aM_M_kind σ v3.toNatClampNeg) = 1 then (M_M_aboveOf_b208 N k12 v1 v2 v3 σ) else (M_M_aboveOf_b353 N k12 v1 v2 σ)) else none)) else none)) else none) else (some ((-1), σ)))
set_option maxRecDepth 100000 in
set_option maxHeartbeats 4000000 in
theorem J_M_M_aboveOf_b106 (K : jx_E) (D : va_G) (A : Nat → Prop) (ad : Nat → Nat) (cA : Nat → ClassId) (N : Nat) (h : jx_ok K D clM (tysM cA) A 8 b_M_aboveOf y_M_aboveOf.cls ((Cond.code y_M_aboveOf b_M_aboveOf 8 (some .int)) :: tblG) rM_M_aboveOf (some .int)) (k12 : Int32 → Int32 → SM → Option (Int32 × SM)) (hk12 : ∀ (v1 : Int32) (v2 : Int32) (σ : SM), J K D clM A 8 (wM ad cA) (jx_Qi K D clM (tysM cA) (wM ad cA) A) 0 0 12 [(0, .ref (ad 0)), (1, .int v1), (2, .int v2)] [] σ (k12 v1 v2 σ)) : ∀ (v1 : Int32) (v2 : Int32) (v3 : Int32) (σ : SM), J K D clM A 8 (wM ad cA) (jx_Qi K D clM (tysM cA) (wM ad cA) A) 0 0 106 [(0, .ref (ad 0)), (1, .int v1), (2, .int v2), (3, .int v3)] [] σ (M_M_aboveOf_b106 N k12 v1 v2 v3 σ) := by
  intro v1 v2 v3 σ
  rw [M_M_aboveOf_b106]
  refine J_aload_n (q := 0) h d_M_aboveOf_106 rfl rfl ?_
  refine J_getf h 0 (wM_0 ad cA σ) (tb_ups in_M) rfl 12 (by decide) (tb_up q_4_94) rfl d_M_aboveOf_107 ?_
  refine J_if_eq (tgt := 115) h d_M_aboveOf_110 (by decide) ?_ ?_
  · refine J_aload_n (q := 0) h d_M_aboveOf_115 rfl rfl ?_
    refine J_getf h 0 (wM_0 ad cA σ) (tb_ups in_M) rfl 5 (by decide) (tb_up q_4_87) rfl d_M_aboveOf_116 ?_
    refine J_iload_n (q := 3) h d_M_aboveOf_119 rfl rfl ?_
    refine J_iald h 5 4 (wM_5 ad cA σ) rfl d_M_aboveOf_120 ?_
    refine J_bipush (v := 8) h d_M_aboveOf_121 (by decide) ?_
    refine J_icmp_ne (tgt := 189) h d_M_aboveOf_123 (by decide) ?_ ?_
    · refine J_aload_n (q := 0) h d_M_aboveOf_126 rfl rfl ?_
      refine J_getf h 0 (wM_0 ad cA σ) (tb_ups in_M) rfl 7 (by decide) (tb_up q_4_89) rfl d_M_aboveOf_127 ?_
      refine J_iload_n (q := 3) h d_M_aboveOf_130 rfl rfl ?_
      refine J_iald h 7 6 (wM_7 ad cA σ) rfl d_M_aboveOf_131 ?_
      refine J_if_ne (tgt := 149) h d_M_aboveOf_132 (by decide) ?_ ?_
      · refine J_aload_n (q := 0) h d_M_aboveOf_135 rfl rfl ?_
        refine J_getf h 0 (wM_0 ad cA σ) (tb_ups in_M) rfl 7 (by decide) (tb_up q_4_89) rfl d_M_aboveOf_136 ?_
        refine J_aload_n (q := 0) h d_M_aboveOf_139 rfl rfl ?_
        refine J_getf h 0 (wM_0 ad cA σ) (tb_ups in_M) rfl 6 (by decide) (tb_up q_4_88) rfl d_M_aboveOf_140 ?_
        refine J_iload_n (q := 3) h d_M_aboveOf_143 rfl rfl ?_
        refine J_iald h 6 5 (wM_6 ad cA σ) rfl d_M_aboveOf_144 ?_
        refine J_iald h 7 6 (wM_7 ad cA σ) rfl d_M_aboveOf_145 ?_
        refine J_goto (tgt := 160) h d_M_aboveOf_146 (by decide) ?_
        refine J_sub [0, 1, 2] rfl ?_
        exact J_M_M_aboveOf_b160 K D A ad cA N h k12 hk12 v1 v2 (aM_M_two σ (aM_M_one σ v3.toNatClampNeg).toNatClampNeg) σ
      · refine J_aload_n (q := 0) h d_M_aboveOf_149 rfl rfl ?_
        refine J_getf h 0 (wM_0 ad cA σ) (tb_ups in_M) rfl 8 (by decide) (tb_up q_4_90) rfl d_M_aboveOf_150 ?_
        refine J_aload_n (q := 0) h d_M_aboveOf_153 rfl rfl ?_
        refine J_getf h 0 (wM_0 ad cA σ) (tb_ups in_M) rfl 6 (by decide) (tb_up q_4_88) rfl d_M_aboveOf_154 ?_
        refine J_iload_n (q := 3) h d_M_aboveOf_157 rfl rfl ?_
        refine J_iald h 6 5 (wM_6 ad cA σ) rfl d_M_aboveOf_158 ?_
        refine J_iald h 8 7 (wM_8 ad cA σ) rfl d_M_aboveOf_159 ?_
        refine J_sub [0, 1, 2] rfl ?_
        exact J_M_M_aboveOf_b160 K D A ad cA N h k12 hk12 v1 v2 (aM_M_three σ (aM_M_one σ v3.toNatClampNeg).toNatClampNeg) σ
    · refine J_aload_n (q := 0) h d_M_aboveOf_189 rfl rfl ?_
      refine J_getf h 0 (wM_0 ad cA σ) (tb_ups in_M) rfl 5 (by decide) (tb_up q_4_87) rfl d_M_aboveOf_190 ?_
      refine J_iload_n (q := 3) h d_M_aboveOf_193 rfl rfl ?_
      refine J_iald h 5 4 (wM_5 ad cA σ) rfl d_M_aboveOf_194 ?_
      refine J_if_eq (tgt := 208) h d_M_aboveOf_195 (by decide) ?_ ?_
      · exact J_M_M_aboveOf_b208 K D A ad cA N h k12 hk12 v1 v2 v3 σ
      · refine J_aload_n (q := 0) h d_M_aboveOf_198 rfl rfl ?_
        refine J_getf h 0 (wM_0 ad cA σ) (tb_ups in_M) rfl 5 (by decide) (tb_up q_4_87) rfl d_M_aboveOf_199 ?_
        refine J_iload_n (q := 3) h d_M_aboveOf_202 rfl rfl ?_
        refine J_iald h 5 4 (wM_5 ad cA σ) rfl d_M_aboveOf_203 ?_
        refine J_iconst (v := 1) h d_M_aboveOf_204 (by decide) ?_
        refine J_icmp_ne (tgt := 353) h d_M_aboveOf_205 (by decide) ?_ ?_
        · exact J_M_M_aboveOf_b208 K D A ad cA N h k12 hk12 v1 v2 v3 σ
        · refine J_sub [0, 1, 2] rfl ?_
          exact J_M_M_aboveOf_b353 K D A ad cA N h k12 hk12 v1 v2 σ
  · refine J_iconst (v := (-1)) h d_M_aboveOf_113 (by decide) ?_
    exact J_iret h rfl d_M_aboveOf_114
def M_M_aboveOf_L12 (N : Nat) (k356 : Int32 → Int32 → SM → Option (Int32 × SM)) : Nat → Int32 → Int32 → SM → Option (Int32 × SM)
  | 0, _, _, _ => none
  | n + 1, v1, v2, σ => (if (gM_M_aboves σ) ≤ 0 then (k356 v1 v2 σ) else (if (gM_M_full σ) = 0 then (nm (sM_M_aboves σ ((gM_M_aboves σ) - 1)) (fun (σ4 : SM) => (if ck (gM_M_aboves σ4) 2000 = true then (nm ((aM_M_aboveType σ4 (gM_M_aboves σ4).toNatClampNeg)) (fun (y5 : Int32) => (if ck (gM_M_aboves σ4) 2000 = true then (nm ((aM_M_aboveFlag σ4 (gM_M_aboves σ4).toNatClampNeg)) (fun (y6 : Int32) => (if y6 = 1 then (if ck (gM_M_aboves σ4) 2000 = true then (if ck (aM_M_aboveMore σ4 (gM_M_aboves σ4).toNatClampNeg) 500 = true then (bd (M_M_plainOf N (aM_M_one σ4 (aM_M_aboveMore σ4 (gM_M_aboves σ4).toNatClampNeg).toNatClampNeg) σ4) (fun (r7 : Int32) (σ8 : SM) => (M_M_aboveOf_b106 N (M_M_aboveOf_L12 N k356 n) v1 v2 r7 σ8))) else none) else none) else (if y6 = 2 then (if ck (gM_M_aboves σ4) 2000 = true then (bd (M_M_replaced N (aM_M_aboveMore σ4 (gM_M_aboves σ4).toNatClampNeg) y5 σ4) (fun (r19 : Int32) (σ20 : SM) => (M_M_aboveOf_b106 N (M_M_aboveOf_L12 N k356 n) v1 v2 r19 σ20))) else none) else (M_M_aboveOf_b106 N (M_M_aboveOf_L12 N k356 n) v1 v2 y5 σ4))))) else none))) else none))) else (k356 v1 v2 σ)))
set_option maxRecDepth 100000 in
set_option maxHeartbeats 4000000 in
theorem J_M_M_aboveOf_L12 (K : jx_E) (D : va_G) (A : Nat → Prop) (ad : Nat → Nat) (cA : Nat → ClassId) (N : Nat) (h : jx_ok K D clM (tysM cA) A 8 b_M_aboveOf y_M_aboveOf.cls ((Cond.code y_M_aboveOf b_M_aboveOf 8 (some .int)) :: tblG) rM_M_aboveOf (some .int)) (k356 : Int32 → Int32 → SM → Option (Int32 × SM)) (hk356 : ∀ (v1 : Int32) (v2 : Int32) (σ : SM), J K D clM A 8 (wM ad cA) (jx_Qi K D clM (tysM cA) (wM ad cA) A) 0 0 356 [(0, .ref (ad 0)), (1, .int v1), (2, .int v2)] [] σ (k356 v1 v2 σ)) : ∀ (n : Nat) (v1 : Int32) (v2 : Int32) (σ : SM), J K D clM A 8 (wM ad cA) (jx_Qi K D clM (tysM cA) (wM ad cA) A) 0 0 12 [(0, .ref (ad 0)), (1, .int v1), (2, .int v2)] [] σ (M_M_aboveOf_L12 N k356 n v1 v2 σ) := by
  intro n
  induction n with
  | zero => intro v1 v2 σ; exact J_none
  | succ n ih =>
    intro v1 v2 σ
    rw [M_M_aboveOf_L12]
    refine J_aload_n (q := 0) h d_M_aboveOf_12 rfl rfl ?_
    refine J_getf h 0 (wM_0 ad cA σ) (tb_ups in_M) rfl 28 (by decide) (tb_up q_4_110) rfl d_M_aboveOf_13 ?_
    refine J_if_le (tgt := 356) h d_M_aboveOf_16 (by decide) ?_ ?_
    · exact hk356 v1 v2 σ
    · refine J_aload_n (q := 0) h d_M_aboveOf_19 rfl rfl ?_
      refine J_getf h 0 (wM_0 ad cA σ) (tb_ups in_M) rfl 12 (by decide) (tb_up q_4_94) rfl d_M_aboveOf_20 ?_
      refine J_if_ne (tgt := 356) h d_M_aboveOf_23 (by decide) ?_ ?_
      · refine J_aload_n (q := 0) h d_M_aboveOf_26 rfl rfl ?_
        refine J_dup h d_M_aboveOf_27 rfl ?_
        refine J_getf h 0 (wM_0 ad cA σ) (tb_ups in_M) rfl 28 (by decide) (tb_up q_4_110) rfl d_M_aboveOf_28 ?_
        refine J_iconst (v := 1) h d_M_aboveOf_31 (by decide) ?_
        refine J_isub h d_M_aboveOf_32 ?_
        refine J_putf h 0 (wM_0 ad cA σ) (tb_ups in_M) rfl ft_M ft_M_ok nm_M 28 (by decide) (tb_up q_4_110) rfl rfl rfl (Nat.le_of_ble_eq_true rfl) (pM_0_28 ad cA σ ((gM_M_aboves σ) - 1)) d_M_aboveOf_33 (fun σ4 => ?_)
        refine J_aload_n (q := 0) h d_M_aboveOf_36 rfl rfl ?_
        refine J_getf h 0 (wM_0 ad cA σ4) (tb_ups in_M) rfl 25 (by decide) (tb_up q_4_107) rfl d_M_aboveOf_37 ?_
        refine J_aload_n (q := 0) h d_M_aboveOf_40 rfl rfl ?_
        refine J_getf h 0 (wM_0 ad cA σ4) (tb_ups in_M) rfl 28 (by decide) (tb_up q_4_110) rfl d_M_aboveOf_41 ?_
        refine J_iald h 20 19 (wM_20 ad cA σ4) rfl d_M_aboveOf_44 ?_
        refine J_nmi (fun y5 => ?_)
        refine J_istore_n (lv' := [(3, .int y5), (0, .ref (ad 0)), (1, .int v1), (2, .int v2)]) h d_M_aboveOf_45 rfl (by decide) rfl ?_
        refine J_aload_n (q := 1) h d_M_aboveOf_46 rfl rfl ?_
        refine J_getf h 0 (wM_0 ad cA σ4) (tb_ups in_M) rfl 27 (by decide) (tb_up q_4_109) rfl d_M_aboveOf_47 ?_
        refine J_aload_n (q := 1) h d_M_aboveOf_50 rfl rfl ?_
        refine J_getf h 0 (wM_0 ad cA σ4) (tb_ups in_M) rfl 28 (by decide) (tb_up q_4_110) rfl d_M_aboveOf_51 ?_
        refine J_iald h 22 21 (wM_22 ad cA σ4) rfl d_M_aboveOf_54 ?_
        refine J_nmi (fun y6 => ?_)
        refine J_istore (lv' := [(4, .int y6), (3, .int y5), (0, .ref (ad 0)), (1, .int v1), (2, .int v2)]) h d_M_aboveOf_55 (by decide) rfl ?_
        refine J_iload (q := 0) h d_M_aboveOf_57 rfl ?_
        refine J_iconst (v := 1) h d_M_aboveOf_59 (by decide) ?_
        refine J_icmp_ne (tgt := 85) h d_M_aboveOf_60 (by decide) ?_ ?_
        · refine J_aload_n (q := 2) h d_M_aboveOf_63 rfl rfl ?_
          refine J_aload_n (q := 2) h d_M_aboveOf_64 rfl rfl ?_
          refine J_getf h 0 (wM_0 ad cA σ4) (tb_ups in_M) rfl 6 (by decide) (tb_up q_4_88) rfl d_M_aboveOf_65 ?_
          refine J_aload_n (q := 2) h d_M_aboveOf_68 rfl rfl ?_
          refine J_getf h 0 (wM_0 ad cA σ4) (tb_ups in_M) rfl 26 (by decide) (tb_up q_4_108) rfl d_M_aboveOf_69 ?_
          refine J_aload_n (q := 2) h d_M_aboveOf_72 rfl rfl ?_
          refine J_getf h 0 (wM_0 ad cA σ4) (tb_ups in_M) rfl 28 (by decide) (tb_up q_4_110) rfl d_M_aboveOf_73 ?_
          refine J_iald h 21 20 (wM_21 ad cA σ4) rfl d_M_aboveOf_76 ?_
          refine J_iald h 6 5 (wM_6 ad cA σ4) rfl d_M_aboveOf_77 ?_
          refine J_callVi (As := [.int (aM_M_one σ4 (aM_M_aboveMore σ4 (gM_M_aboves σ4).toNatClampNeg).toNatClampNeg)]) (st := []) (rmc := rM_M_plainOf) (q0 := 0) h (fun _ _ hf => cM_M_plainOf (jl K) D ad cA N (aM_M_one σ4 (aM_M_aboveMore σ4 (gM_M_aboves σ4).toNatClampNeg).toNatClampNeg) σ4 _ _ hf) (gd_V q_5_70 q_5_72 q_s_31 q_1_12 q_5_73) rfl ⟨rfl, rfl⟩ dd_M_plainOf ⟨Nat.le_of_ble_eq_true rfl, Nat.le_of_ble_eq_true rfl⟩ rfl rfl (wM_0 ad cA σ4) rfl rfl (Nat.le_of_ble_eq_true rfl) ⟨Nat.zero_le _, Nat.zero_le _⟩ d_M_aboveOf_78 (fun r7 σ8 => ?_)
          refine J_istore_n (lv' := [(3, .int r7), (4, .int y6), (0, .ref (ad 0)), (1, .int v1), (2, .int v2)]) h d_M_aboveOf_81 rfl (by decide) rfl ?_
          refine J_goto (tgt := 106) h d_M_aboveOf_82 (by decide) ?_
          refine J_sub [2, 3, 4, 0] rfl ?_
          exact J_M_M_aboveOf_b106 K D A ad cA N h (M_M_aboveOf_L12 N k356 n) ih v1 v2 r7 σ8
        · refine J_iload (q := 0) h d_M_aboveOf_85 rfl ?_
          refine J_iconst (v := 2) h d_M_aboveOf_87 (by decide) ?_
          refine J_icmp_ne (tgt := 106) h d_M_aboveOf_88 (by decide) ?_ ?_
          · refine J_aload_n (q := 2) h d_M_aboveOf_91 rfl rfl ?_
            refine J_aload_n (q := 2) h d_M_aboveOf_92 rfl rfl ?_
            refine J_getf h 0 (wM_0 ad cA σ4) (tb_ups in_M) rfl 26 (by decide) (tb_up q_4_108) rfl d_M_aboveOf_93 ?_
            refine J_aload_n (q := 2) h d_M_aboveOf_96 rfl rfl ?_
            refine J_getf h 0 (wM_0 ad cA σ4) (tb_ups in_M) rfl 28 (by decide) (tb_up q_4_110) rfl d_M_aboveOf_97 ?_
            refine J_iald h 21 20 (wM_21 ad cA σ4) rfl d_M_aboveOf_100 ?_
            refine J_iload_n (q := 1) h d_M_aboveOf_101 rfl rfl ?_
            refine J_callVi (As := [.int (aM_M_aboveMore σ4 (gM_M_aboves σ4).toNatClampNeg), .int y5]) (st := []) (rmc := rM_M_replaced) (q0 := 0) h (fun _ _ hf => cM_M_replaced (jl K) D ad cA N (aM_M_aboveMore σ4 (gM_M_aboves σ4).toNatClampNeg) y5 σ4 _ _ hf) (gd_V q_5_126 q_5_128 q_s_37 q_1_12 q_5_129) rfl ⟨rfl, rfl⟩ dd_M_replaced ⟨Nat.le_of_ble_eq_true rfl, Nat.le_of_ble_eq_true rfl⟩ rfl rfl (wM_0 ad cA σ4) rfl rfl (Nat.le_of_ble_eq_true rfl) ⟨Nat.zero_le _, Nat.zero_le _⟩ d_M_aboveOf_102 (fun r19 σ20 => ?_)
            refine J_istore_n (lv' := [(3, .int r19), (4, .int y6), (0, .ref (ad 0)), (1, .int v1), (2, .int v2)]) h d_M_aboveOf_105 rfl (by decide) rfl ?_
            refine J_sub [2, 3, 4, 0] rfl ?_
            exact J_M_M_aboveOf_b106 K D A ad cA N h (M_M_aboveOf_L12 N k356 n) ih v1 v2 r19 σ20
          · refine J_sub [2, 3, 4, 1] rfl ?_
            exact J_M_M_aboveOf_b106 K D A ad cA N h (M_M_aboveOf_L12 N k356 n) ih v1 v2 y5 σ4
      · exact hk356 v1 v2 σ
def M_M_aboveOf_b356 (N : Nat) (v1 : Int32) (v2 : Int32) (σ : SM) : Option (Int32 × SM) := (if (gM_M_full σ) = 0 then (if v2 = 0 then (if ck v1 500 = true then (if (aM_M_kind σ v1.toNatClampNeg) = 5 then (some ((-1), σ)) else (bd (M_M_plainOf N 0 σ) (fun (r21 : Int32) (σ22 : SM) => (some (r21, σ22))))) else none) else (some ((-1), σ))) else (some ((-1), σ)))
set_option maxRecDepth 100000 in
set_option maxHeartbeats 4000000 in
theorem J_M_M_aboveOf_b356 (K : jx_E) (D : va_G) (A : Nat → Prop) (ad : Nat → Nat) (cA : Nat → ClassId) (N : Nat) (h : jx_ok K D clM (tysM cA) A 8 b_M_aboveOf y_M_aboveOf.cls ((Cond.code y_M_aboveOf b_M_aboveOf 8 (some .int)) :: tblG) rM_M_aboveOf (some .int)) : ∀ (v1 : Int32) (v2 : Int32) (σ : SM), J K D clM A 8 (wM ad cA) (jx_Qi K D clM (tysM cA) (wM ad cA) A) 0 0 356 [(0, .ref (ad 0)), (1, .int v1), (2, .int v2)] [] σ (M_M_aboveOf_b356 N v1 v2 σ) := by
  intro v1 v2 σ
  rw [M_M_aboveOf_b356]
  refine J_aload_n (q := 0) h d_M_aboveOf_356 rfl rfl ?_
  refine J_getf h 0 (wM_0 ad cA σ) (tb_ups in_M) rfl 12 (by decide) (tb_up q_4_94) rfl d_M_aboveOf_357 ?_
  refine J_if_ne (tgt := 377) h d_M_aboveOf_360 (by decide) ?_ ?_
  · refine J_iload_n (q := 2) h d_M_aboveOf_363 rfl rfl ?_
    refine J_if_ne (tgt := 377) h d_M_aboveOf_364 (by decide) ?_ ?_
    · refine J_aload_n (q := 0) h d_M_aboveOf_367 rfl rfl ?_
      refine J_getf h 0 (wM_0 ad cA σ) (tb_ups in_M) rfl 5 (by decide) (tb_up q_4_87) rfl d_M_aboveOf_368 ?_
      refine J_iload_n (q := 1) h d_M_aboveOf_371 rfl rfl ?_
      refine J_iald h 5 4 (wM_5 ad cA σ) rfl d_M_aboveOf_372 ?_
      refine J_iconst (v := 5) h d_M_aboveOf_373 (by decide) ?_
      refine J_icmp_ne (tgt := 381) h d_M_aboveOf_374 (by decide) ?_ ?_
      · refine J_iconst (v := (-1)) h d_M_aboveOf_377 (by decide) ?_
        refine J_goto (tgt := 386) h d_M_aboveOf_378 (by decide) ?_
        exact J_iret h rfl d_M_aboveOf_386
      · refine J_aload_n (q := 0) h d_M_aboveOf_381 rfl rfl ?_
        refine J_iconst (v := 0) h d_M_aboveOf_382 (by decide) ?_
        refine J_callVi (As := [.int 0]) (st := []) (rmc := rM_M_plainOf) (q0 := 0) h (fun _ _ hf => cM_M_plainOf (jl K) D ad cA N 0 σ _ _ hf) (gd_V q_5_70 q_5_72 q_s_31 q_1_12 q_5_73) rfl ⟨rfl, rfl⟩ dd_M_plainOf ⟨Nat.le_of_ble_eq_true rfl, Nat.le_of_ble_eq_true rfl⟩ rfl rfl (wM_0 ad cA σ) rfl rfl (Nat.le_of_ble_eq_true rfl) ⟨Nat.zero_le _, Nat.zero_le _⟩ d_M_aboveOf_383 (fun r21 σ22 => ?_)
        exact J_iret h rfl d_M_aboveOf_386
    · refine J_iconst (v := (-1)) h d_M_aboveOf_377 (by decide) ?_
      refine J_goto (tgt := 386) h d_M_aboveOf_378 (by decide) ?_
      exact J_iret h rfl d_M_aboveOf_386
  · refine J_iconst (v := (-1)) h d_M_aboveOf_377 (by decide) ?_
    refine J_goto (tgt := 386) h d_M_aboveOf_378 (by decide) ?_
    exact J_iret h rfl d_M_aboveOf_386
def M_M_aboveOf (N : Nat) (x1 : Int32) (x2 : Int32) (σ : SM) : Option (Int32 × SM) := (nm (sM_M_aboves σ 0) (fun (σ1 : SM) => (bd (M_M_push x1 0 0 σ1) (fun (r2 : Unit) (σ3 : SM) => (M_M_aboveOf_L12 N (M_M_aboveOf_b356 N) N x1 x2 σ3)))))
set_option maxRecDepth 100000 in
set_option maxHeartbeats 4000000 in
theorem J_M_M_aboveOf (K : jx_E) (D : va_G) (A : Nat → Prop) (ad : Nat → Nat) (cA : Nat → ClassId) (N : Nat) (h : jx_ok K D clM (tysM cA) A 8 b_M_aboveOf y_M_aboveOf.cls ((Cond.code y_M_aboveOf b_M_aboveOf 8 (some .int)) :: tblG) rM_M_aboveOf (some .int)) : ∀ (x1 : Int32) (x2 : Int32) (σ : SM), J K D clM A 8 (wM ad cA) (jx_Qi K D clM (tysM cA) (wM ad cA) A) 0 0 0 [(0, .ref (ad 0)), (1, .int x1), (2, .int x2)] [] σ (M_M_aboveOf N x1 x2 σ) := by
  intro x1 x2 σ
  rw [M_M_aboveOf]
  refine J_aload_n (q := 0) h d_M_aboveOf_0 rfl rfl ?_
  refine J_iconst (v := 0) h d_M_aboveOf_1 (by decide) ?_
  refine J_putf h 0 (wM_0 ad cA σ) (tb_ups in_M) rfl ft_M ft_M_ok nm_M 28 (by decide) (tb_up q_4_110) rfl rfl rfl (Nat.le_of_ble_eq_true rfl) (pM_0_28 ad cA σ 0) d_M_aboveOf_2 (fun σ1 => ?_)
  refine J_aload_n (q := 0) h d_M_aboveOf_5 rfl rfl ?_
  refine J_iload_n (q := 1) h d_M_aboveOf_6 rfl rfl ?_
  refine J_iconst (v := 0) h d_M_aboveOf_7 (by decide) ?_
  refine J_iconst (v := 0) h d_M_aboveOf_8 (by decide) ?_
  refine J_callVv (As := [.int x1, .int 0, .int 0]) (st := []) (rmc := rM_M_push) (q0 := 0) h (fun _ _ hf => cM_M_push (jl K) D ad cA x1 0 0 σ1 _ _ hf) (gd_V q_5_122 q_5_124 q_s_36 q_1_12 q_5_125) rfl ⟨rfl, rfl⟩ dd_M_push ⟨Nat.le_of_ble_eq_true rfl, Nat.le_of_ble_eq_true rfl⟩ rfl rfl (wM_0 ad cA σ1) rfl rfl (Nat.le_of_ble_eq_true rfl) ⟨Nat.zero_le _, Nat.zero_le _⟩ d_M_aboveOf_9 (fun r2 σ3 => ?_)
  exact J_M_M_aboveOf_L12 K D A ad cA N h (M_M_aboveOf_b356 N) (J_M_M_aboveOf_b356 K D A ad cA N h) N x1 x2 σ3
set_option maxRecDepth 100000 in
theorem cM_M_aboveOf (l : Launch) (D : va_G) (ad : Nat → Nat) (cA : Nat → ClassId) (N : Nat) (x1 : Int32) (x2 : Int32) (σ : SM) (r : Int32) (σ' : SM) (hf : M_M_aboveOf N x1 x2 σ = some (r, σ')) : MetI l y_M_aboveOf ((Cond.code y_M_aboveOf b_M_aboveOf 8 (some .int)) :: tblG) rM_M_aboveOf D clM (tysM cA) (wM ad cA) [.ref (ad 0), .int x1, .int x2] σ r σ' :=
  jx_metI (by decide) rfl (Nat.le_of_ble_eq_true rfl) (fun K A h => J_M_M_aboveOf K D A ad cA N h x1 x2 σ) hf
def rM_M_above : Room := { frames := 4, cells := 0, slots := 0, locals := 104 }
theorem rm_ok_M_M_above : rM_M_above.cells = 0 ∧ rM_M_above.slots = 0 := ⟨rfl, rfl⟩
def M_M_above (N : Nat) (x1 : Int32) (x2 : Int32) (σ : SM) : Option (Int32 × SM) := (bd (M_M_isType x1 σ) (fun (r1 : Int32) (σ2 : SM) => (if r1 = 0 then (some ((-2), σ2)) else (if ck x1 500 = true then (if (aM_M_kind σ2 x1.toNatClampNeg) = 2 then (some ((-2), σ2)) else (bd (M_M_isClass x2 σ2) (fun (r3 : Int32) (σ4 : SM) => (if r3 = 0 then (some ((-2), σ4)) else (bd (M_M_aboveOf N x1 x2 σ4) (fun (r5 : Int32) (σ6 : SM) => (bd (M_M_made r5 σ6) (fun (r7 : Int32) (σ8 : SM) => (some (r7, σ8)))))))))) else none))))
set_option maxRecDepth 100000 in
set_option maxHeartbeats 4000000 in
theorem J_M_M_above (K : jx_E) (D : va_G) (A : Nat → Prop) (ad : Nat → Nat) (cA : Nat → ClassId) (N : Nat) (h : jx_ok K D clM (tysM cA) A 3 b_M_above y_M_above.cls ((Cond.code y_M_above b_M_above 3 (some .int)) :: tblG) rM_M_above (some .int)) : ∀ (x1 : Int32) (x2 : Int32) (σ : SM), J K D clM A 3 (wM ad cA) (jx_Qi K D clM (tysM cA) (wM ad cA) A) 0 0 0 [(0, .ref (ad 0)), (1, .int x1), (2, .int x2)] [] σ (M_M_above N x1 x2 σ) := by
  intro x1 x2 σ
  rw [M_M_above]
  refine J_aload_n (q := 0) h d_M_above_0 rfl rfl ?_
  refine J_iload_n (q := 1) h d_M_above_1 rfl rfl ?_
  refine J_callVi (As := [.int x1]) (st := []) (rmc := rM_M_isType) (q0 := 0) h (fun _ _ hf => cM_M_isType (jl K) D ad cA x1 σ _ _ hf) (gd_V q_5_54 q_5_56 q_s_28 q_1_12 q_5_57) rfl ⟨rfl, rfl⟩ dd_M_isType ⟨Nat.le_of_ble_eq_true rfl, Nat.le_of_ble_eq_true rfl⟩ rfl rfl (wM_0 ad cA σ) rfl rfl (Nat.le_of_ble_eq_true rfl) ⟨Nat.zero_le _, Nat.zero_le _⟩ d_M_above_2 (fun r1 σ2 => ?_)
  refine J_if_eq (tgt := 26) h d_M_above_5 (by decide) ?_ ?_
  · refine J_bipush (v := (-2)) h d_M_above_26 (by decide) ?_
    exact J_iret h rfl d_M_above_28
  · refine J_aload_n (q := 0) h d_M_above_8 rfl rfl ?_
    refine J_getf h 0 (wM_0 ad cA σ2) (tb_ups in_M) rfl 5 (by decide) (tb_up q_4_87) rfl d_M_above_9 ?_
    refine J_iload_n (q := 1) h d_M_above_12 rfl rfl ?_
    refine J_iald h 5 4 (wM_5 ad cA σ2) rfl d_M_above_13 ?_
    refine J_iconst (v := 2) h d_M_above_14 (by decide) ?_
    refine J_icmp_eq (tgt := 26) h d_M_above_15 (by decide) ?_ ?_
    · refine J_bipush (v := (-2)) h d_M_above_26 (by decide) ?_
      exact J_iret h rfl d_M_above_28
    · refine J_aload_n (q := 0) h d_M_above_18 rfl rfl ?_
      refine J_iload_n (q := 2) h d_M_above_19 rfl rfl ?_
      refine J_callVi (As := [.int x2]) (st := []) (rmc := rM_M_isClass) (q0 := 0) h (fun _ _ hf => cM_M_isClass (jl K) D ad cA x2 σ2 _ _ hf) (gd_V q_5_46 q_5_48 q_s_26 q_1_12 q_5_49) rfl ⟨rfl, rfl⟩ dd_M_isClass ⟨Nat.le_of_ble_eq_true rfl, Nat.le_of_ble_eq_true rfl⟩ rfl rfl (wM_0 ad cA σ2) rfl rfl (Nat.le_of_ble_eq_true rfl) ⟨Nat.zero_le _, Nat.zero_le _⟩ d_M_above_20 (fun r3 σ4 => ?_)
      refine J_if_ne (tgt := 29) h d_M_above_23 (by decide) ?_ ?_
      · refine J_bipush (v := (-2)) h d_M_above_26 (by decide) ?_
        exact J_iret h rfl d_M_above_28
      · refine J_aload_n (q := 0) h d_M_above_29 rfl rfl ?_
        refine J_aload_n (q := 0) h d_M_above_30 rfl rfl ?_
        refine J_iload_n (q := 1) h d_M_above_31 rfl rfl ?_
        refine J_iload_n (q := 2) h d_M_above_32 rfl rfl ?_
        refine J_callVi (As := [.int x1, .int x2]) (st := [.ref (ad 0)]) (rmc := rM_M_aboveOf) (q0 := 0) h (fun _ _ hf => cM_M_aboveOf (jl K) D ad cA N x1 x2 σ4 _ _ hf) (gd_V q_5_118 q_5_120 q_s_35 q_1_12 q_5_121) rfl ⟨rfl, rfl⟩ dd_M_aboveOf ⟨Nat.le_of_ble_eq_true rfl, Nat.le_of_ble_eq_true rfl⟩ rfl rfl (wM_0 ad cA σ4) rfl rfl (Nat.le_of_ble_eq_true rfl) ⟨Nat.zero_le _, Nat.zero_le _⟩ d_M_above_33 (fun r5 σ6 => ?_)
        refine J_callVi (As := [.int r5]) (st := []) (rmc := rM_M_made) (q0 := 0) h (fun _ _ hf => cM_M_made (jl K) D ad cA r5 σ6 _ _ hf) (gd_V q_5_78 q_5_80 q_s_33 q_1_12 q_5_81) rfl ⟨rfl, rfl⟩ dd_M_made ⟨Nat.le_of_ble_eq_true rfl, Nat.le_of_ble_eq_true rfl⟩ rfl rfl (wM_0 ad cA σ6) rfl rfl (Nat.le_of_ble_eq_true rfl) ⟨Nat.zero_le _, Nat.zero_le _⟩ d_M_above_36 (fun r7 σ8 => ?_)
        exact J_iret h rfl d_M_above_39
set_option maxRecDepth 100000 in
theorem cM_M_above (l : Launch) (D : va_G) (ad : Nat → Nat) (cA : Nat → ClassId) (N : Nat) (x1 : Int32) (x2 : Int32) (σ : SM) (r : Int32) (σ' : SM) (hf : M_M_above N x1 x2 σ = some (r, σ')) : MetI l y_M_above ((Cond.code y_M_above b_M_above 3 (some .int)) :: tblG) rM_M_above D clM (tysM cA) (wM ad cA) [.ref (ad 0), .int x1, .int x2] σ r σ' :=
  jx_metI (by decide) rfl (Nat.le_of_ble_eq_true rfl) (fun K A h => J_M_M_above K D A ad cA N h x1 x2 σ) hf
def rM_M_then : Room := { frames := 0, cells := 0, slots := 0, locals := 0 }
theorem rm_ok_M_M_then : rM_M_then.cells = 0 ∧ rM_M_then.slots = 0 := ⟨rfl, rfl⟩
def M_M_then (x1 : Int32) (x2 : Int32) (x3 : Int32) (σ : SM) : Option (Int32 × SM) := (if ck (gM_M_nexts σ) 2 = true then (nm (tM_M_nextSort σ (upd (aM_M_nextSort σ) (gM_M_nexts σ).toNatClampNeg x1)) (fun (σ1 : SM) => (if ck (gM_M_nexts σ1) 2 = true then (nm (tM_M_nextLeft σ1 (upd (aM_M_nextLeft σ1) (gM_M_nexts σ1).toNatClampNeg x2)) (fun (σ2 : SM) => (if ck (gM_M_nexts σ2) 2 = true then (nm (tM_M_nextRight σ2 (upd (aM_M_nextRight σ2) (gM_M_nexts σ2).toNatClampNeg x3)) (fun (σ3 : SM) => (nm (sM_M_nexts σ3 ((gM_M_nexts σ3) + 1)) (fun (σ4 : SM) => (some (1, σ4)))))) else none))) else none))) else none)
set_option maxRecDepth 100000 in
set_option maxHeartbeats 4000000 in
theorem J_M_M_then (K : jx_E) (D : va_G) (A : Nat → Prop) (ad : Nat → Nat) (cA : Nat → ClassId) (h : jx_ok K D clM (tysM cA) A 4 b_M_then y_M_then.cls ((Cond.code y_M_then b_M_then 4 (some .boolean)) :: tblG) rM_M_then (some .boolean)) : ∀ (x1 : Int32) (x2 : Int32) (x3 : Int32) (σ : SM), J K D clM A 4 (wM ad cA) (jx_Qi K D clM (tysM cA) (wM ad cA) A) 0 0 0 [(0, .ref (ad 0)), (1, .int x1), (2, .int x2), (3, .int x3)] [] σ (M_M_then x1 x2 x3 σ) := by
  intro x1 x2 x3 σ
  rw [M_M_then]
  refine J_aload_n (q := 0) h d_M_then_0 rfl rfl ?_
  refine J_getf h 0 (wM_0 ad cA σ) (tb_ups in_M) rfl 41 (by decide) (tb_up q_4_123) rfl d_M_then_1 ?_
  refine J_aload_n (q := 0) h d_M_then_4 rfl rfl ?_
  refine J_getf h 0 (wM_0 ad cA σ) (tb_ups in_M) rfl 44 (by decide) (tb_up q_4_126) rfl d_M_then_5 ?_
  refine J_iload_n (q := 1) h d_M_then_8 rfl rfl ?_
  refine J_iast h 27 26 (wM_27 ad cA σ) rfl (uM_27 ad cA σ _) d_M_then_9 (fun σ1 => ?_)
  refine J_aload_n (q := 0) h d_M_then_10 rfl rfl ?_
  refine J_getf h 0 (wM_0 ad cA σ1) (tb_ups in_M) rfl 42 (by decide) (tb_up q_4_124) rfl d_M_then_11 ?_
  refine J_aload_n (q := 0) h d_M_then_14 rfl rfl ?_
  refine J_getf h 0 (wM_0 ad cA σ1) (tb_ups in_M) rfl 44 (by decide) (tb_up q_4_126) rfl d_M_then_15 ?_
  refine J_iload_n (q := 2) h d_M_then_18 rfl rfl ?_
  refine J_iast h 28 27 (wM_28 ad cA σ1) rfl (uM_28 ad cA σ1 _) d_M_then_19 (fun σ2 => ?_)
  refine J_aload_n (q := 0) h d_M_then_20 rfl rfl ?_
  refine J_getf h 0 (wM_0 ad cA σ2) (tb_ups in_M) rfl 43 (by decide) (tb_up q_4_125) rfl d_M_then_21 ?_
  refine J_aload_n (q := 0) h d_M_then_24 rfl rfl ?_
  refine J_getf h 0 (wM_0 ad cA σ2) (tb_ups in_M) rfl 44 (by decide) (tb_up q_4_126) rfl d_M_then_25 ?_
  refine J_iload_n (q := 3) h d_M_then_28 rfl rfl ?_
  refine J_iast h 29 28 (wM_29 ad cA σ2) rfl (uM_29 ad cA σ2 _) d_M_then_29 (fun σ3 => ?_)
  refine J_aload_n (q := 0) h d_M_then_30 rfl rfl ?_
  refine J_dup h d_M_then_31 rfl ?_
  refine J_getf h 0 (wM_0 ad cA σ3) (tb_ups in_M) rfl 44 (by decide) (tb_up q_4_126) rfl d_M_then_32 ?_
  refine J_iconst (v := 1) h d_M_then_35 (by decide) ?_
  refine J_iadd h d_M_then_36 ?_
  refine J_putf h 0 (wM_0 ad cA σ3) (tb_ups in_M) rfl ft_M ft_M_ok nm_M 44 (by decide) (tb_up q_4_126) rfl rfl rfl (Nat.le_of_ble_eq_true rfl) (pM_0_44 ad cA σ3 ((gM_M_nexts σ3) + 1)) d_M_then_37 (fun σ4 => ?_)
  refine J_iconst (v := 1) h d_M_then_40 (by decide) ?_
  exact J_zret h rfl (by decide) d_M_then_41
set_option maxRecDepth 100000 in
theorem cM_M_then (l : Launch) (D : va_G) (ad : Nat → Nat) (cA : Nat → ClassId) (x1 : Int32) (x2 : Int32) (x3 : Int32) (σ : SM) (r : Int32) (σ' : SM) (hf : M_M_then x1 x2 x3 σ = some (r, σ')) : MetI l y_M_then ((Cond.code y_M_then b_M_then 4 (some .boolean)) :: tblG) rM_M_then D clM (tysM cA) (wM ad cA) [.ref (ad 0), .int x1, .int x2, .int x3] σ r σ' :=
  jx_metI (by decide) rfl (Nat.le_of_ble_eq_true rfl) (fun K A h => J_M_M_then K D A ad cA h x1 x2 x3 σ) hf
