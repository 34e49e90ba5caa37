def rM_M_isIn : Room := { frames := 1, cells := 0, slots := 0, locals := 22 }
theorem rm_ok_M_M_isIn : rM_M_isIn.cells = 0 ∧ rM_M_isIn.slots = 0 := ⟨rfl, rfl⟩
def M_M_isIn_b250 (N : Nat) (k34 : Int32 → Int32 → SM → Option (Int32 × SM)) (v1 : Int32) (v3 : Int32) (σ : SM) : Option (Int32 × SM) := (k34 v1 v3 σ)
set_option maxRecDepth 100000 in
set_option maxHeartbeats 4000000 in
theorem J_M_M_isIn_b250 (K : jx_E) (D : va_G) (A : Nat → Prop) (ad : Nat → Nat) (cA : Nat → ClassId) (N : Nat) (h : jx_ok K D clM (tysM cA) A 5 b_M_isIn y_M_isIn.cls ((Cond.code y_M_isIn b_M_isIn 5 (some .boolean)) :: tblG) rM_M_isIn (some .boolean)) (k34 : Int32 → Int32 → SM → Option (Int32 × SM)) (hk34 : ∀ (v1 : Int32) (v3 : Int32) (σ : SM), J K D clM A 5 (wM ad cA) (jx_Qi K D clM (tysM cA) (wM ad cA) A) 0 0 34 [(0, .ref (ad 0)), (1, .int v1), (3, .int v3)] [] σ (k34 v1 v3 σ)) : ∀ (v1 : Int32) (v3 : Int32) (σ : SM), J K D clM A 5 (wM ad cA) (jx_Qi K D clM (tysM cA) (wM ad cA) A) 0 0 250 [(0, .ref (ad 0)), (1, .int v1), (3, .int v3)] [] σ (M_M_isIn_b250 N k34 v1 v3 σ) := by
  intro v1 v3 σ
  rw [M_M_isIn_b250]
  refine J_goto (tgt := 34) h d_M_isIn_250 (by decide) ?_
  exact hk34 v1 v3 σ
def M_M_isIn_b205 (N : Nat) (k34 : Int32 → Int32 → SM → Option (Int32 × SM)) (v1 : Int32) (v3 : Int32) (v4 : Int32) (σ : SM) : Option (Int32 × SM) := (if ck v4 500 = true then (if (aM_M_kind σ v4.toNatClampNeg) = 1 then (if ck v4 500 = true then (if (aM_M_three σ v4.toNatClampNeg) = (-1) then (M_M_isIn_b250 N k34 v1 v3 σ) else (nm ((gM_M_todos σ)) (fun (y17 : Int32) => (nm (sM_M_todos σ (y17 + 1)) (fun (σ18 : SM) => (if ck v4 500 = true then (if ck y17 2000 = true then (nm (tM_M_todo σ18 (upd (aM_M_todo σ18) y17.toNatClampNeg (aM_M_three σ18 v4.toNatClampNeg))) (fun (σ19 : SM) => (M_M_isIn_b250 N k34 v1 v3 σ19))) else none) else none)))))) else none) else (M_M_isIn_b250 N k34 v1 v3 σ)) else none)
set_option maxRecDepth 100000 in
set_option maxHeartbeats 4000000 in
theorem J_M_M_isIn_b205 (K : jx_E) (D : va_G) (A : Nat → Prop) (ad : Nat → Nat) (cA : Nat → ClassId) (N : Nat) (h : jx_ok K D clM (tysM cA) A 5 b_M_isIn y_M_isIn.cls ((Cond.code y_M_isIn b_M_isIn 5 (some .boolean)) :: tblG) rM_M_isIn (some .boolean)) (k34 : Int32 → Int32 → SM → Option (Int32 × SM)) (hk34 : ∀ (v1 : Int32) (v3 : Int32) (σ : SM), J K D clM A 5 (wM ad cA) (jx_Qi K D clM (tysM cA) (wM ad cA) A) 0 0 34 [(0, .ref (ad 0)), (1, .int v1), (3, .int v3)] [] σ (k34 v1 v3 σ)) : ∀ (v1 : Int32) (v3 : Int32) (v4 : Int32) (σ : SM), J K D clM A 5 (wM ad cA) (jx_Qi K D clM (tysM cA) (wM ad cA) A) 0 0 205 [(0, .ref (ad 0)), (1, .int v1), (3, .int v3), (4, .int v4)] [] σ (M_M_isIn_b205 N k34 v1 v3 v4 σ) := by
  intro v1 v3 v4 σ
  rw [M_M_isIn_b205]
  refine J_aload_n (q := 0) h d_M_isIn_205 rfl rfl ?_
  refine J_getf h 0 (wM_0 ad cA σ) (tb_ups in_M) rfl 5 (by decide) (tb_up q_4_87) rfl d_M_isIn_206 ?_
  refine J_iload (q := 3) h d_M_isIn_209 rfl ?_
  refine J_iald h 5 4 (wM_5 ad cA σ) rfl d_M_isIn_211 ?_
  refine J_iconst (v := 1) h d_M_isIn_212 (by decide) ?_
  refine J_icmp_ne (tgt := 250) h d_M_isIn_213 (by decide) ?_ ?_
  · refine J_aload_n (q := 0) h d_M_isIn_216 rfl rfl ?_
    refine J_getf h 0 (wM_0 ad cA σ) (tb_ups in_M) rfl 8 (by decide) (tb_up q_4_90) rfl d_M_isIn_217 ?_
    refine J_iload (q := 3) h d_M_isIn_220 rfl ?_
    refine J_iald h 8 7 (wM_8 ad cA σ) rfl d_M_isIn_222 ?_
    refine J_iconst (v := (-1)) h d_M_isIn_223 (by decide) ?_
    refine J_icmp_eq (tgt := 250) h d_M_isIn_224 (by decide) ?_ ?_
    · refine J_sub [0, 1, 2] rfl ?_
      exact J_M_M_isIn_b250 K D A ad cA N h k34 hk34 v1 v3 σ
    · refine J_aload_n (q := 0) h d_M_isIn_227 rfl rfl ?_
      refine J_getf h 0 (wM_0 ad cA σ) (tb_ups in_M) rfl 13 (by decide) (tb_up q_4_95) rfl d_M_isIn_228 ?_
      refine J_aload_n (q := 0) h d_M_isIn_231 rfl rfl ?_
      refine J_dup h d_M_isIn_232 rfl ?_
      refine J_getf h 0 (wM_0 ad cA σ) (tb_ups in_M) rfl 16 (by decide) (tb_up q_4_98) rfl d_M_isIn_233 ?_
      refine J_nmi (fun y17 => ?_)
      refine J_dup_x1 h d_M_isIn_236 rfl rfl ?_
      refine J_iconst (v := 1) h d_M_isIn_237 (by decide) ?_
      refine J_iadd h d_M_isIn_238 ?_
      refine J_putf h 0 (wM_0 ad cA σ) (tb_ups in_M) rfl ft_M ft_M_ok nm_M 16 (by decide) (tb_up q_4_98) rfl rfl rfl (Nat.le_of_ble_eq_true rfl) (pM_0_16 ad cA σ (y17 + 1)) d_M_isIn_239 (fun σ18 => ?_)
      refine J_aload_n (q := 0) h d_M_isIn_242 rfl rfl ?_
      refine J_getf h 0 (wM_0 ad cA σ18) (tb_ups in_M) rfl 8 (by decide) (tb_up q_4_90) rfl d_M_isIn_243 ?_
      refine J_iload (q := 3) h d_M_isIn_246 rfl ?_
      refine J_iald h 8 7 (wM_8 ad cA σ18) rfl d_M_isIn_248 ?_
      refine J_iast h 11 10 (wM_11 ad cA σ18) rfl (uM_11 ad cA σ18 _) d_M_isIn_249 (fun σ19 => ?_)
      refine J_sub [0, 1, 2] rfl ?_
      exact J_M_M_isIn_b250 K D A ad cA N h k34 hk34 v1 v3 σ19
  · refine J_sub [0, 1, 2] rfl ?_
    exact J_M_M_isIn_b250 K D A ad cA N h k34 hk34 v1 v3 σ
def M_M_isIn_b182 (N : Nat) (k34 : Int32 → Int32 → SM → Option (Int32 × SM)) (v1 : Int32) (v3 : Int32) (v4 : Int32) (σ : SM) : Option (Int32 × SM) := (nm ((gM_M_todos σ)) (fun (y14 : Int32) => (nm (sM_M_todos σ (y14 + 1)) (fun (σ15 : SM) => (if ck v4 500 = true then (if ck y14 2000 = true then (nm (tM_M_todo σ15 (upd (aM_M_todo σ15) y14.toNatClampNeg (aM_M_two σ15 v4.toNatClampNeg))) (fun (σ16 : SM) => (M_M_isIn_b205 N k34 v1 v3 v4 σ16))) else none) else none)))))
set_option maxRecDepth 100000 in
set_option maxHeartbeats 4000000 in
theorem J_M_M_isIn_b182 (K : jx_E) (D : va_G) (A : Nat → Prop) (ad : Nat → Nat) (cA : Nat → ClassId) (N : Nat) (h : jx_ok K D clM (tysM cA) A 5 b_M_isIn y_M_isIn.cls ((Cond.code y_M_isIn b_M_isIn 5 (some .boolean)) :: tblG) rM_M_isIn (some .boolean)) (k34 : Int32 → Int32 → SM → Option (Int32 × SM)) (hk34 : ∀ (v1 : Int32) (v3 : Int32) (σ : SM), J K D clM A 5 (wM ad cA) (jx_Qi K D clM (tysM cA) (wM ad cA) A) 0 0 34 [(0, .ref (ad 0)), (1, .int v1), (3, .int v3)] [] σ (k34 v1 v3 σ)) : ∀ (v1 : Int32) (v3 : Int32) (v4 : Int32) (σ : SM), J K D clM A 5 (wM ad cA) (jx_Qi K D clM (tysM cA) (wM ad cA) A) 0 0 182 [(0, .ref (ad 0)), (1, .int v1), (3, .int v3), (4, .int v4)] [] σ (M_M_isIn_b182 N k34 v1 v3 v4 σ) := by
  intro v1 v3 v4 σ
  rw [M_M_isIn_b182]
  refine J_aload_n (q := 0) h d_M_isIn_182 rfl rfl ?_
  refine J_getf h 0 (wM_0 ad cA σ) (tb_ups in_M) rfl 13 (by decide) (tb_up q_4_95) rfl d_M_isIn_183 ?_
  refine J_aload_n (q := 0) h d_M_isIn_186 rfl rfl ?_
  refine J_dup h d_M_isIn_187 rfl ?_
  refine J_getf h 0 (wM_0 ad cA σ) (tb_ups in_M) rfl 16 (by decide) (tb_up q_4_98) rfl d_M_isIn_188 ?_
  refine J_nmi (fun y14 => ?_)
  refine J_dup_x1 h d_M_isIn_191 rfl rfl ?_
  refine J_iconst (v := 1) h d_M_isIn_192 (by decide) ?_
  refine J_iadd h d_M_isIn_193 ?_
  refine J_putf h 0 (wM_0 ad cA σ) (tb_ups in_M) rfl ft_M ft_M_ok nm_M 16 (by decide) (tb_up q_4_98) rfl rfl rfl (Nat.le_of_ble_eq_true rfl) (pM_0_16 ad cA σ (y14 + 1)) d_M_isIn_194 (fun σ15 => ?_)
  refine J_aload_n (q := 0) h d_M_isIn_197 rfl rfl ?_
  refine J_getf h 0 (wM_0 ad cA σ15) (tb_ups in_M) rfl 7 (by decide) (tb_up q_4_89) rfl d_M_isIn_198 ?_
  refine J_iload (q := 3) h d_M_isIn_201 rfl ?_
  refine J_iald h 7 6 (wM_7 ad cA σ15) rfl d_M_isIn_203 ?_
  refine J_iast h 11 10 (wM_11 ad cA σ15) rfl (uM_11 ad cA σ15 _) d_M_isIn_204 (fun σ16 => ?_)
  exact J_M_M_isIn_b205 K D A ad cA N h k34 hk34 v1 v3 v4 σ16
def M_M_isIn_b150 (N : Nat) (k34 : Int32 → Int32 → SM → Option (Int32 × SM)) (v1 : Int32) (v3 : Int32) (v4 : Int32) (σ : SM) : Option (Int32 × SM) := (if ck v4 500 = true then (if (aM_M_kind σ v4.toNatClampNeg) = 1 then (M_M_isIn_b182 N k34 v1 v3 v4 σ) else (if ck v4 500 = true then (if (aM_M_kind σ v4.toNatClampNeg) = 2 then (if ck v4 500 = true then (if (aM_M_one σ v4.toNatClampNeg) ≤ 0 then (M_M_isIn_b205 N k34 v1 v3 v4 σ) else (M_M_isIn_b182 N k34 v1 v3 v4 σ)) else none) else (M_M_isIn_b205 N k34 v1 v3 v4 σ)) else none)) else none)
set_option maxRecDepth 100000 in
set_option maxHeartbeats 4000000 in
theorem J_M_M_isIn_b150 (K : jx_E) (D : va_G) (A : Nat → Prop) (ad : Nat → Nat) (cA : Nat → ClassId) (N : Nat) (h : jx_ok K D clM (tysM cA) A 5 b_M_isIn y_M_isIn.cls ((Cond.code y_M_isIn b_M_isIn 5 (some .boolean)) :: tblG) rM_M_isIn (some .boolean)) (k34 : Int32 → Int32 → SM → Option (Int32 × SM)) (hk34 : ∀ (v1 : Int32) (v3 : Int32) (σ : SM), J K D clM A 5 (wM ad cA) (jx_Qi K D clM (tysM cA) (wM ad cA) A) 0 0 34 [(0, .ref (ad 0)), (1, .int v1), (3, .int v3)] [] σ (k34 v1 v3 σ)) : ∀ (v1 : Int32) (v3 : Int32) (v4 : Int32) (σ : SM), J K D clM A 5 (wM ad cA) (jx_Qi K D clM (tysM cA) (wM ad cA) A) 0 0 150 [(0, .ref (ad 0)), (1, .int v1), (3, .int v3), (4, .int v4)] [] σ (M_M_isIn_b150 N k34 v1 v3 v4 σ) := by
  intro v1 v3 v4 σ
  rw [M_M_isIn_b150]
  refine J_aload_n (q := 0) h d_M_isIn_150 rfl rfl ?_
  refine J_getf h 0 (wM_0 ad cA σ) (tb_ups in_M) rfl 5 (by decide) (tb_up q_4_87) rfl d_M_isIn_151 ?_
  refine J_iload (q := 3) h d_M_isIn_154 rfl ?_
  refine J_iald h 5 4 (wM_5 ad cA σ) rfl d_M_isIn_156 ?_
  refine J_iconst (v := 1) h d_M_isIn_157 (by decide) ?_
  refine J_icmp_eq (tgt := 182) h d_M_isIn_158 (by decide) ?_ ?_
  · exact J_M_M_isIn_b182 K D A ad cA N h k34 hk34 v1 v3 v4 σ
  · refine J_aload_n (q := 0) h d_M_isIn_161 rfl rfl ?_
    refine J_getf h 0 (wM_0 ad cA σ) (tb_ups in_M) rfl 5 (by decide) (tb_up q_4_87) rfl d_M_isIn_162 ?_
    refine J_iload (q := 3) h d_M_isIn_165 rfl ?_
    refine J_iald h 5 4 (wM_5 ad cA σ) rfl d_M_isIn_167 ?_
    refine J_iconst (v := 2) h d_M_isIn_168 (by decide) ?_
    refine J_icmp_ne (tgt := 205) h d_M_isIn_169 (by decide) ?_ ?_
    · refine J_aload_n (q := 0) h d_M_isIn_172 rfl rfl ?_
      refine J_getf h 0 (wM_0 ad cA σ) (tb_ups in_M) rfl 6 (by decide) (tb_up q_4_88) rfl d_M_isIn_173 ?_
      refine J_iload (q := 3) h d_M_isIn_176 rfl ?_
      refine J_iald h 6 5 (wM_6 ad cA σ) rfl d_M_isIn_178 ?_
      refine J_if_le (tgt := 205) h d_M_isIn_179 (by decide) ?_ ?_
      · exact J_M_M_isIn_b205 K D A ad cA N h k34 hk34 v1 v3 v4 σ
      · exact J_M_M_isIn_b182 K D A ad cA N h k34 hk34 v1 v3 v4 σ
    · exact J_M_M_isIn_b205 K D A ad cA N h k34 hk34 v1 v3 v4 σ
def M_M_isIn_b127 (N : Nat) (k34 : Int32 → Int32 → SM → Option (Int32 × SM)) (v1 : Int32) (v3 : Int32) (v4 : Int32) (σ : SM) : Option (Int32 × SM) := (nm ((gM_M_todos σ)) (fun (y11 : Int32) => (nm (sM_M_todos σ (y11 + 1)) (fun (σ12 : SM) => (if ck v4 500 = true then (if ck y11 2000 = true then (nm (tM_M_todo σ12 (upd (aM_M_todo σ12) y11.toNatClampNeg (aM_M_one σ12 v4.toNatClampNeg))) (fun (σ13 : SM) => (M_M_isIn_b150 N k34 v1 v3 v4 σ13))) else none) else none)))))
set_option maxRecDepth 100000 in
set_option maxHeartbeats 4000000 in
theorem J_M_M_isIn_b127 (K : jx_E) (D : va_G) (A : Nat → Prop) (ad : Nat → Nat) (cA : Nat → ClassId) (N : Nat) (h : jx_ok K D clM (tysM cA) A 5 b_M_isIn y_M_isIn.cls ((Cond.code y_M_isIn b_M_isIn 5 (some .boolean)) :: tblG) rM_M_isIn (some .boolean)) (k34 : Int32 → Int32 → SM → Option (Int32 × SM)) (hk34 : ∀ (v1 : Int32) (v3 : Int32) (σ : SM), J K D clM A 5 (wM ad cA) (jx_Qi K D clM (tysM cA) (wM ad cA) A) 0 0 34 [(0, .ref (ad 0)), (1, .int v1), (3, .int v3)] [] σ (k34 v1 v3 σ)) : ∀ (v1 : Int32) (v3 : Int32) (v4 : Int32) (σ : SM), J K D clM A 5 (wM ad cA) (jx_Qi K D clM (tysM cA) (wM ad cA) A) 0 0 127 [(0, .ref (ad 0)), (1, .int v1), (3, .int v3), (4, .int v4)] [] σ (M_M_isIn_b127 N k34 v1 v3 v4 σ) := by
  intro v1 v3 v4 σ
  rw [M_M_isIn_b127]
  refine J_aload_n (q := 0) h d_M_isIn_127 rfl rfl ?_
  refine J_getf h 0 (wM_0 ad cA σ) (tb_ups in_M) rfl 13 (by decide) (tb_up q_4_95) rfl d_M_isIn_128 ?_
  refine J_aload_n (q := 0) h d_M_isIn_131 rfl rfl ?_
  refine J_dup h d_M_isIn_132 rfl ?_
  refine J_getf h 0 (wM_0 ad cA σ) (tb_ups in_M) rfl 16 (by decide) (tb_up q_4_98) rfl d_M_isIn_133 ?_
  refine J_nmi (fun y11 => ?_)
  refine J_dup_x1 h d_M_isIn_136 rfl rfl ?_
  refine J_iconst (v := 1) h d_M_isIn_137 (by decide) ?_
  refine J_iadd h d_M_isIn_138 ?_
  refine J_putf h 0 (wM_0 ad cA σ) (tb_ups in_M) rfl ft_M ft_M_ok nm_M 16 (by decide) (tb_up q_4_98) rfl rfl rfl (Nat.le_of_ble_eq_true rfl) (pM_0_16 ad cA σ (y11 + 1)) d_M_isIn_139 (fun σ12 => ?_)
  refine J_aload_n (q := 0) h d_M_isIn_142 rfl rfl ?_
  refine J_getf h 0 (wM_0 ad cA σ12) (tb_ups in_M) rfl 6 (by decide) (tb_up q_4_88) rfl d_M_isIn_143 ?_
  refine J_iload (q := 3) h d_M_isIn_146 rfl ?_
  refine J_iald h 6 5 (wM_6 ad cA σ12) rfl d_M_isIn_148 ?_
  refine J_iast h 11 10 (wM_11 ad cA σ12) rfl (uM_11 ad cA σ12 _) d_M_isIn_149 (fun σ13 => ?_)
  exact J_M_M_isIn_b150 K D A ad cA N h k34 hk34 v1 v3 v4 σ13
def M_M_isIn_b103 (N : Nat) (k34 : Int32 → Int32 → SM → Option (Int32 × SM)) (v1 : Int32) (v4 : Int32) (s0 : Int32) (σ : SM) : Option (Int32 × SM) := (if ck v4 500 = true then (if (aM_M_kind σ v4.toNatClampNeg) = 4 then (M_M_isIn_b127 N k34 v1 s0 v4 σ) else (if ck v4 500 = true then (if (aM_M_kind σ v4.toNatClampNeg) = 8 then (M_M_isIn_b127 N k34 v1 s0 v4 σ) else (M_M_isIn_b150 N k34 v1 s0 v4 σ)) else none)) else none)
set_option maxRecDepth 100000 in
set_option maxHeartbeats 4000000 in
theorem J_M_M_isIn_b103 (K : jx_E) (D : va_G) (A : Nat → Prop) (ad : Nat → Nat) (cA : Nat → ClassId) (N : Nat) (h : jx_ok K D clM (tysM cA) A 5 b_M_isIn y_M_isIn.cls ((Cond.code y_M_isIn b_M_isIn 5 (some .boolean)) :: tblG) rM_M_isIn (some .boolean)) (k34 : Int32 → Int32 → SM → Option (Int32 × SM)) (hk34 : ∀ (v1 : Int32) (v3 : Int32) (σ : SM), J K D clM A 5 (wM ad cA) (jx_Qi K D clM (tysM cA) (wM ad cA) A) 0 0 34 [(0, .ref (ad 0)), (1, .int v1), (3, .int v3)] [] σ (k34 v1 v3 σ)) : ∀ (v1 : Int32) (v4 : Int32) (s0 : Int32) (σ : SM), J K D clM A 5 (wM ad cA) (jx_Qi K D clM (tysM cA) (wM ad cA) A) 0 0 103 [(0, .ref (ad 0)), (1, .int v1), (4, .int v4)] [.int s0] σ (M_M_isIn_b103 N k34 v1 v4 s0 σ) := by
  intro v1 v4 s0 σ
  rw [M_M_isIn_b103]
  refine J_istore_n (lv' := [(3, .int s0), (0, .ref (ad 0)), (1, .int v1), (4, .int v4)]) h d_M_isIn_103 rfl (by decide) rfl ?_
  refine J_aload_n (q := 1) h d_M_isIn_104 rfl rfl ?_
  refine J_getf h 0 (wM_0 ad cA σ) (tb_ups in_M) rfl 5 (by decide) (tb_up q_4_87) rfl d_M_isIn_105 ?_
  refine J_iload (q := 3) h d_M_isIn_108 rfl ?_
  refine J_iald h 5 4 (wM_5 ad cA σ) rfl d_M_isIn_110 ?_
  refine J_iconst (v := 4) h d_M_isIn_111 (by decide) ?_
  refine J_icmp_eq (tgt := 127) h d_M_isIn_112 (by decide) ?_ ?_
  · refine J_sub [1, 2, 0, 3] rfl ?_
    exact J_M_M_isIn_b127 K D A ad cA N h k34 hk34 v1 s0 v4 σ
  · refine J_aload_n (q := 1) h d_M_isIn_115 rfl rfl ?_
    refine J_getf h 0 (wM_0 ad cA σ) (tb_ups in_M) rfl 5 (by decide) (tb_up q_4_87) rfl d_M_isIn_116 ?_
    refine J_iload (q := 3) h d_M_isIn_119 rfl ?_
    refine J_iald h 5 4 (wM_5 ad cA σ) rfl d_M_isIn_121 ?_
    refine J_bipush (v := 8) h d_M_isIn_122 (by decide) ?_
    refine J_icmp_ne (tgt := 150) h d_M_isIn_124 (by decide) ?_ ?_
    · refine J_sub [1, 2, 0, 3] rfl ?_
      exact J_M_M_isIn_b127 K D A ad cA N h k34 hk34 v1 s0 v4 σ
    · refine J_sub [1, 2, 0, 3] rfl ?_
      exact J_M_M_isIn_b150 K D A ad cA N h k34 hk34 v1 s0 v4 σ
def M_M_isIn_b102 (N : Nat) (k34 : Int32 → Int32 → SM → Option (Int32 × SM)) (v1 : Int32) (v4 : Int32) (σ : SM) : Option (Int32 × SM) := (M_M_isIn_b103 N k34 v1 v4 0 σ)
set_option maxRecDepth 100000 in
set_option maxHeartbeats 4000000 in
theorem J_M_M_isIn_b102 (K : jx_E) (D : va_G) (A : Nat → Prop) (ad : Nat → Nat) (cA : Nat → ClassId) (N : Nat) (h : jx_ok K D clM (tysM cA) A 5 b_M_isIn y_M_isIn.cls ((Cond.code y_M_isIn b_M_isIn 5 (some .boolean)) :: tblG) rM_M_isIn (some .boolean)) (k34 : Int32 → Int32 → SM → Option (Int32 × SM)) (hk34 : ∀ (v1 : Int32) (v3 : Int32) (σ : SM), J K D clM A 5 (wM ad cA) (jx_Qi K D clM (tysM cA) (wM ad cA) A) 0 0 34 [(0, .ref (ad 0)), (1, .int v1), (3, .int v3)] [] σ (k34 v1 v3 σ)) : ∀ (v1 : Int32) (v4 : Int32) (σ : SM), J K D clM A 5 (wM ad cA) (jx_Qi K D clM (tysM cA) (wM ad cA) A) 0 0 102 [(0, .ref (ad 0)), (1, .int v1), (4, .int v4)] [] σ (M_M_isIn_b102 N k34 v1 v4 σ) := by
  intro v1 v4 σ
  rw [M_M_isIn_b102]
  refine J_iconst (v := 0) h d_M_isIn_102 (by decide) ?_
  exact J_M_M_isIn_b103 K D A ad cA N h k34 hk34 v1 v4 0 σ
def M_M_isIn_L34 (N : Nat) : Nat → Int32 → Int32 → SM → Option (Int32 × SM)
  | 0, _, _, _ => none
  | n + 1, v1, v3, σ => (if (gM_M_todos σ) ≤ 0 then (if zb v3 = true then some (v3, σ) else none) else (if v3 = 0 then (nm (((gM_M_todos σ) - 1)) (fun (y6 : Int32) => (nm (sM_M_todos σ y6) (fun (σ7 : SM) => (if ck y6 2000 = true then (nm ((aM_M_todo σ7 y6.toNatClampNeg)) (fun (y8 : Int32) => (bd (M_M_isSeen y8 σ7) (fun (r9 : Int32) (σ10 : SM) => (if r9 = 0 then (if ck y8 500 = true then (if (aM_M_kind σ10 y8.toNatClampNeg) = 7 then (if ck y8 500 = true then (if (aM_M_one σ10 y8.toNatClampNeg) = v1 then (M_M_isIn_b103 N (M_M_isIn_L34 N  n) v1 y8 1 σ10) else (M_M_isIn_b102 N (M_M_isIn_L34 N  n) v1 y8 σ10)) else none) else (M_M_isIn_b102 N (M_M_isIn_L34 N  n) v1 y8 σ10)) else none) else (M_M_isIn_L34 N  n v1 v3 σ10)))))) else none))))) else (if zb v3 = true then some (v3, σ) else none)))
set_option maxRecDepth 100000 in
set_option maxHeartbeats 4000000 in
theorem J_M_M_isIn_L34 (K : jx_E) (D : va_G) (A : Nat → Prop) (ad : Nat → Nat) (cA : Nat → ClassId) (N : Nat) (h : jx_ok K D clM (tysM cA) A 5 b_M_isIn y_M_isIn.cls ((Cond.code y_M_isIn b_M_isIn 5 (some .boolean)) :: tblG) rM_M_isIn (some .boolean)) : ∀ (n : Nat) (v1 : Int32) (v3 : Int32) (σ : SM), J K D clM A 5 (wM ad cA) (jx_Qi K D clM (tysM cA) (wM ad cA) A) 0 0 34 [(0, .ref (ad 0)), (1, .int v1), (3, .int v3)] [] σ (M_M_isIn_L34 N n v1 v3 σ) := by
  intro n
  induction n with
  | zero => intro v1 v3 σ; exact J_none
  | succ n ih =>
    intro v1 v3 σ
    rw [M_M_isIn_L34]
    refine J_aload_n (q := 0) h d_M_isIn_34 rfl rfl ?_
    refine J_getf h 0 (wM_0 ad cA σ) (tb_ups in_M) rfl 16 (by decide) (tb_up q_4_98) rfl d_M_isIn_35 ?_
    refine J_if_le (tgt := 253) h d_M_isIn_38 (by decide) ?_ ?_
    · refine J_iload_n (q := 2) h d_M_isIn_253 rfl rfl ?_
      exact J_zretc h rfl d_M_isIn_254
    · refine J_iload_n (q := 2) h d_M_isIn_41 rfl rfl ?_
      refine J_if_ne (tgt := 253) h d_M_isIn_42 (by decide) ?_ ?_
      · refine J_aload_n (q := 0) h d_M_isIn_45 rfl rfl ?_
        refine J_getf h 0 (wM_0 ad cA σ) (tb_ups in_M) rfl 13 (by decide) (tb_up q_4_95) rfl d_M_isIn_46 ?_
        refine J_aload_n (q := 0) h d_M_isIn_49 rfl rfl ?_
        refine J_dup h d_M_isIn_50 rfl ?_
        refine J_getf h 0 (wM_0 ad cA σ) (tb_ups in_M) rfl 16 (by decide) (tb_up q_4_98) rfl d_M_isIn_51 ?_
        refine J_iconst (v := 1) h d_M_isIn_54 (by decide) ?_
        refine J_isub h d_M_isIn_55 ?_
        refine J_nmi (fun y6 => ?_)
        refine J_dup_x1 h d_M_isIn_56 rfl rfl ?_
        refine J_putf h 0 (wM_0 ad cA σ) (tb_ups in_M) rfl ft_M ft_M_ok nm_M 16 (by decide) (tb_up q_4_98) rfl rfl rfl (Nat.le_of_ble_eq_true rfl) (pM_0_16 ad cA σ y6) d_M_isIn_57 (fun σ7 => ?_)
        refine J_iald h 11 10 (wM_11 ad cA σ7) rfl d_M_isIn_60 ?_
        refine J_nmi (fun y8 => ?_)
        refine J_istore (lv' := [(4, .int y8), (0, .ref (ad 0)), (1, .int v1), (3, .int v3)]) h d_M_isIn_61 (by decide) rfl ?_
        refine J_aload_n (q := 1) h d_M_isIn_63 rfl rfl ?_
        refine J_iload (q := 0) h d_M_isIn_64 rfl ?_
        refine J_callVi (As := [.int y8]) (st := []) (rmc := rM_M_isSeen) (q0 := 0) h (fun _ _ hf => cM_M_isSeen (jl K) D ad cA y8 σ7 _ _ hf) (gd_V q_5_62 q_5_64 q_s_30 q_1_12 q_5_65) rfl ⟨rfl, rfl⟩ dd_M_isSeen ⟨Nat.le_of_ble_eq_true rfl, Nat.le_of_ble_eq_true rfl⟩ rfl rfl (wM_0 ad cA σ7) rfl rfl (Nat.le_of_ble_eq_true rfl) ⟨Nat.zero_le _, Nat.zero_le _⟩ d_M_isIn_66 (fun r9 σ10 => ?_)
        refine J_if_eq (tgt := 75) h d_M_isIn_69 (by decide) ?_ ?_
        · refine J_aload_n (q := 1) h d_M_isIn_75 rfl rfl ?_
          refine J_getf h 0 (wM_0 ad cA σ10) (tb_ups in_M) rfl 5 (by decide) (tb_up q_4_87) rfl d_M_isIn_76 ?_
          refine J_iload (q := 0) h d_M_isIn_79 rfl ?_
          refine J_iald h 5 4 (wM_5 ad cA σ10) rfl d_M_isIn_81 ?_
          refine J_bipush (v := 7) h d_M_isIn_82 (by decide) ?_
          refine J_icmp_ne (tgt := 102) h d_M_isIn_84 (by decide) ?_ ?_
          · refine J_aload_n (q := 1) h d_M_isIn_87 rfl rfl ?_
            refine J_getf h 0 (wM_0 ad cA σ10) (tb_ups in_M) rfl 6 (by decide) (tb_up q_4_88) rfl d_M_isIn_88 ?_
            refine J_iload (q := 0) h d_M_isIn_91 rfl ?_
            refine J_iald h 6 5 (wM_6 ad cA σ10) rfl d_M_isIn_93 ?_
            refine J_iload_n (q := 2) h d_M_isIn_94 rfl rfl ?_
            refine J_icmp_ne (tgt := 102) h d_M_isIn_95 (by decide) ?_ ?_
            · refine J_iconst (v := 1) h d_M_isIn_98 (by decide) ?_
              refine J_goto (tgt := 103) h d_M_isIn_99 (by decide) ?_
              refine J_sub [1, 2, 0] rfl ?_
              exact J_M_M_isIn_b103 K D A ad cA N h (M_M_isIn_L34 N  n) ih v1 y8 1 σ10
            · refine J_sub [1, 2, 0] rfl ?_
              exact J_M_M_isIn_b102 K D A ad cA N h (M_M_isIn_L34 N  n) ih v1 y8 σ10
          · refine J_sub [1, 2, 0] rfl ?_
            exact J_M_M_isIn_b102 K D A ad cA N h (M_M_isIn_L34 N  n) ih v1 y8 σ10
        · refine J_goto (tgt := 34) h d_M_isIn_72 (by decide) ?_
          refine J_sub [1, 2, 3] rfl ?_
          exact ih v1 v3 σ10
      · refine J_iload_n (q := 2) h d_M_isIn_253 rfl rfl ?_
        exact J_zretc h rfl d_M_isIn_254
def M_M_isIn (N : Nat) (x1 : Int32) (x2 : Int32) (σ : SM) : Option (Int32 × SM) := (nm (sM_M_looks σ ((gM_M_looks σ) + 1)) (fun (σ1 : SM) => (nm (sM_M_todos σ1 0) (fun (σ2 : SM) => (nm ((gM_M_todos σ2)) (fun (y3 : Int32) => (nm (sM_M_todos σ2 (y3 + 1)) (fun (σ4 : SM) => (if ck y3 2000 = true then (nm (tM_M_todo σ4 (upd (aM_M_todo σ4) y3.toNatClampNeg x2)) (fun (σ5 : SM) => (M_M_isIn_L34 N N x1 0 σ5))) else none)))))))))
set_option maxRecDepth 100000 in
set_option maxHeartbeats 4000000 in
theorem J_M_M_isIn (K : jx_E) (D : va_G) (A : Nat → Prop) (ad : Nat → Nat) (cA : Nat → ClassId) (N : Nat) (h : jx_ok K D clM (tysM cA) A 5 b_M_isIn y_M_isIn.cls ((Cond.code y_M_isIn b_M_isIn 5 (some .boolean)) :: tblG) rM_M_isIn (some .boolean)) : ∀ (x1 : Int32) (x2 : Int32) (σ : SM), J K D clM A 5 (wM ad cA) (jx_Qi K D clM (tysM cA) (wM ad cA) A) 0 0 0 [(0, .ref (ad 0)), (1, .int x1), (2, .int x2)] [] σ (M_M_isIn N x1 x2 σ) := by
  intro x1 x2 σ
  rw [M_M_isIn]
  refine J_iconst (v := 0) h d_M_isIn_0 (by decide) ?_
  refine J_istore_n (lv' := [(3, .int 0), (0, .ref (ad 0)), (1, .int x1), (2, .int x2)]) h d_M_isIn_1 rfl (by decide) rfl ?_
  refine J_aload_n (q := 1) h d_M_isIn_2 rfl rfl ?_
  refine J_dup h d_M_isIn_3 rfl ?_
  refine J_getf h 0 (wM_0 ad cA σ) (tb_ups in_M) rfl 24 (by decide) (tb_up q_4_106) rfl d_M_isIn_4 ?_
  refine J_iconst (v := 1) h d_M_isIn_7 (by decide) ?_
  refine J_iadd h d_M_isIn_8 ?_
  refine J_putf h 0 (wM_0 ad cA σ) (tb_ups in_M) rfl ft_M ft_M_ok nm_M 24 (by decide) (tb_up q_4_106) rfl rfl rfl (Nat.le_of_ble_eq_true rfl) (pM_0_24 ad cA σ ((gM_M_looks σ) + 1)) d_M_isIn_9 (fun σ1 => ?_)
  refine J_aload_n (q := 1) h d_M_isIn_12 rfl rfl ?_
  refine J_iconst (v := 0) h d_M_isIn_13 (by decide) ?_
  refine J_putf h 0 (wM_0 ad cA σ1) (tb_ups in_M) rfl ft_M ft_M_ok nm_M 16 (by decide) (tb_up q_4_98) rfl rfl rfl (Nat.le_of_ble_eq_true rfl) (pM_0_16 ad cA σ1 0) d_M_isIn_14 (fun σ2 => ?_)
  refine J_aload_n (q := 1) h d_M_isIn_17 rfl rfl ?_
  refine J_getf h 0 (wM_0 ad cA σ2) (tb_ups in_M) rfl 13 (by decide) (tb_up q_4_95) rfl d_M_isIn_18 ?_
  refine J_aload_n (q := 1) h d_M_isIn_21 rfl rfl ?_
  refine J_dup h d_M_isIn_22 rfl ?_
  refine J_getf h 0 (wM_0 ad cA σ2) (tb_ups in_M) rfl 16 (by decide) (tb_up q_4_98) rfl d_M_isIn_23 ?_
  refine J_nmi (fun y3 => ?_)
  refine J_dup_x1 h d_M_isIn_26 rfl rfl ?_
  refine J_iconst (v := 1) h d_M_isIn_27 (by decide) ?_
  refine J_iadd h d_M_isIn_28 ?_
  refine J_putf h 0 (wM_0 ad cA σ2) (tb_ups in_M) rfl ft_M ft_M_ok nm_M 16 (by decide) (tb_up q_4_98) rfl rfl rfl (Nat.le_of_ble_eq_true rfl) (pM_0_16 ad cA σ2 (y3 + 1)) d_M_isIn_29 (fun σ4 => ?_)
  refine J_iload_n (q := 3) h d_M_isIn_32 rfl rfl ?_
  refine J_iast h 11 10 (wM_11 ad cA σ4) rfl (uM_11 ad cA σ4 _) d_M_isIn_33 (fun σ5 => ?_)
  refine J_sub [1, 2, 0] rfl ?_
  exact J_M_M_isIn_L34 K D A ad cA N h N x1 0 σ5
set_option maxRecDepth 100000 in
theorem cM_M_isIn (l : Launch) (D : va_G) (ad : Nat → Nat) (cA : Nat → ClassId) (N : Nat) (x1 : Int32) (x2 : Int32) (σ : SM) (r : Int32) (σ' : SM) (hf : M_M_isIn N x1 x2 σ = some (r, σ')) : MetI l y_M_isIn ((Cond.code y_M_isIn b_M_isIn 5 (some .boolean)) :: tblG) rM_M_isIn D clM (tysM cA) (wM ad cA) [.ref (ad 0), .int x1, .int x2] σ r σ' :=
  jx_metI (by decide) rfl (Nat.le_of_ble_eq_true rfl) (fun K A h => J_M_M_isIn K D A ad cA N h x1 x2 σ) hf
def rM_M_holdIn : Room := { frames := 7, cells := 0, slots := 0, locals := 177 }
theorem rm_ok_M_M_holdIn : rM_M_holdIn.cells = 0 ∧ rM_M_holdIn.slots = 0 := ⟨rfl, rfl⟩
def M_M_holdIn_b55 (N : Nat) (k26 : Int32 → Int32 → Int32 → Int32 → SM → Option (Int32 × SM)) (v1 : Int32) (v2 : Int32) (v3 : Int32) (v4 : Int32) (s0 : Int32) (s1 : Int32) (σ : SM) : Option (Int32 × SM) := (if ck s1 12 = true then (nm (tM_M_inPlace σ (upd (aM_M_inPlace σ) s1.toNatClampNeg s0)) (fun (σ4 : SM) => (nm (v4 + 1) (fun (y5 : Int32) => (k26 v1 v2 v3 y5 σ4))))) else none)
set_option maxRecDepth 100000 in
set_option maxHeartbeats 4000000 in
theorem J_M_M_holdIn_b55 (K : jx_E) (D : va_G) (A : Nat → Prop) (ad : Nat → Nat) (cA : Nat → ClassId) (N : Nat) (h : jx_ok K D clM (tysM cA) A 7 b_M_holdIn y_M_holdIn.cls ((Cond.code y_M_holdIn b_M_holdIn 7 (some .boolean)) :: tblG) rM_M_holdIn (some .boolean)) (k26 : Int32 → Int32 → Int32 → Int32 → SM → Option (Int32 × SM)) (hk26 : ∀ (v1 : Int32) (v2 : Int32) (v3 : Int32) (v4 : Int32) (σ : SM), J K D clM A 7 (wM ad cA) (jx_Qi K D clM (tysM cA) (wM ad cA) A) 0 0 26 [(0, .ref (ad 0)), (1, .int v1), (2, .int v2), (3, .int v3), (4, .int v4)] [] σ (k26 v1 v2 v3 v4 σ)) : ∀ (v1 : Int32) (v2 : Int32) (v3 : Int32) (v4 : Int32) (s0 : Int32) (s1 : Int32) (σ : SM), J K D clM A 7 (wM ad cA) (jx_Qi K D clM (tysM cA) (wM ad cA) A) 0 0 55 [(0, .ref (ad 0)), (1, .int v1), (2, .int v2), (3, .int v3), (4, .int v4)] [.int s0, .int s1, .ref (ad 17)] σ (M_M_holdIn_b55 N k26 v1 v2 v3 v4 s0 s1 σ) := by
  intro v1 v2 v3 v4 s0 s1 σ
  rw [M_M_holdIn_b55]
  refine J_iast h 17 16 (wM_17 ad cA σ) rfl (uM_17 ad cA σ _) d_M_holdIn_55 (fun σ4 => ?_)
  refine J_iinc (q := 4) (c := 1) (lv' := fun y5 => [(4, .int y5), (0, .ref (ad 0)), (1, .int v1), (2, .int v2), (3, .int v3)]) h d_M_holdIn_56 rfl (by decide) (by decide) (fun _ => rfl) (fun y5 => ?_)
  refine J_goto (tgt := 26) h d_M_holdIn_59 (by decide) ?_
  refine J_sub [1, 2, 3, 4, 0] rfl ?_
  exact hk26 v1 v2 v3 y5 σ4
def M_M_holdIn_L26 (N : Nat) (k62 : Int32 → SM → Option (Int32 × SM)) : Nat → Int32 → Int32 → Int32 → Int32 → SM → Option (Int32 × SM)
  | 0, _, _, _, _, _ => none
  | n + 1, v1, v2, v3, v4, σ => (if (12 : Int32) ≤ v4 then (k62 v2 σ) else (if v4 = v3 then (if ck v1 200 = true then (M_M_holdIn_b55 N (M_M_holdIn_L26 N k62 n) v1 v2 v3 v4 (aM_M_boundType σ v1.toNatClampNeg) v4 σ) else none) else (M_M_holdIn_b55 N (M_M_holdIn_L26 N k62 n) v1 v2 v3 v4 (-1) v4 σ)))
set_option maxRecDepth 100000 in
set_option maxHeartbeats 4000000 in
theorem J_M_M_holdIn_L26 (K : jx_E) (D : va_G) (A : Nat → Prop) (ad : Nat → Nat) (cA : Nat → ClassId) (N : Nat) (h : jx_ok K D clM (tysM cA) A 7 b_M_holdIn y_M_holdIn.cls ((Cond.code y_M_holdIn b_M_holdIn 7 (some .boolean)) :: tblG) rM_M_holdIn (some .boolean)) (k62 : Int32 → SM → Option (Int32 × SM)) (hk62 : ∀ (v2 : Int32) (σ : SM), J K D clM A 7 (wM ad cA) (jx_Qi K D clM (tysM cA) (wM ad cA) A) 0 0 62 [(0, .ref (ad 0)), (2, .int v2)] [] σ (k62 v2 σ)) : ∀ (n : Nat) (v1 : Int32) (v2 : Int32) (v3 : Int32) (v4 : Int32) (σ : SM), J K D clM A 7 (wM ad cA) (jx_Qi K D clM (tysM cA) (wM ad cA) A) 0 0 26 [(0, .ref (ad 0)), (1, .int v1), (2, .int v2), (3, .int v3), (4, .int v4)] [] σ (M_M_holdIn_L26 N k62 n v1 v2 v3 v4 σ) := by
  intro n
  induction n with
  | zero => intro v1 v2 v3 v4 σ; exact J_none
  | succ n ih =>
    intro v1 v2 v3 v4 σ
    rw [M_M_holdIn_L26]
    refine J_iload (q := 4) h d_M_holdIn_26 rfl ?_
    refine J_bipush (v := 12) h d_M_holdIn_28 (by decide) ?_
    refine J_icmp_ge (tgt := 62) h d_M_holdIn_30 (by decide) ?_ ?_
    · refine J_sub [0, 2] rfl ?_
      exact hk62 v2 σ
    · refine J_aload_n (q := 0) h d_M_holdIn_33 rfl rfl ?_
      refine J_getf h 0 (wM_0 ad cA σ) (tb_ups in_M) rfl 21 (by decide) (tb_up q_4_103) rfl d_M_holdIn_34 ?_
      refine J_iload (q := 4) h d_M_holdIn_37 rfl ?_
      refine J_iload (q := 4) h d_M_holdIn_39 rfl ?_
      refine J_iload_n (q := 3) h d_M_holdIn_41 rfl rfl ?_
      refine J_icmp_ne (tgt := 54) h d_M_holdIn_42 (by decide) ?_ ?_
      · refine J_aload_n (q := 0) h d_M_holdIn_45 rfl rfl ?_
        refine J_getf h 0 (wM_0 ad cA σ) (tb_ups in_M) rfl 47 (by decide) (tb_up q_4_129) rfl d_M_holdIn_46 ?_
        refine J_iload_n (q := 1) h d_M_holdIn_49 rfl rfl ?_
        refine J_iald h 32 31 (wM_32 ad cA σ) rfl d_M_holdIn_50 ?_
        refine J_goto (tgt := 55) h d_M_holdIn_51 (by decide) ?_
        exact J_M_M_holdIn_b55 K D A ad cA N h (M_M_holdIn_L26 N k62 n) ih v1 v2 v3 v4 (aM_M_boundType σ v1.toNatClampNeg) v4 σ
      · refine J_iconst (v := (-1)) h d_M_holdIn_54 (by decide) ?_
        exact J_M_M_holdIn_b55 K D A ad cA N h (M_M_holdIn_L26 N k62 n) ih v1 v2 v3 v4 (-1) v4 σ
def M_M_holdIn_b62 (N : Nat) (v2 : Int32) (σ : SM) : Option (Int32 × SM) := (if ck v2 200 = true then (bd (M_M_replaced N (aM_M_boundType σ v2.toNatClampNeg) (-1) σ) (fun (r6 : Int32) (σ7 : SM) => (if ck v2 200 = true then (bd (M_M_make N 7 (aM_M_boundOf σ7 v2.toNatClampNeg) (-1) (-1) σ7) (fun (r8 : Int32) (σ9 : SM) => (if (gM_M_full σ9) = 0 then (if ck v2 200 = true then (nm ((aM_M_boundSort σ9 v2.toNatClampNeg)) (fun (y10 : Int32) => (if y10 = 0 then (bd (M_M_less N 3 r8 r6 σ9) (fun (r11 : Int32) (σ12 : SM) => (if zb r11 = true then some (r11, σ12) else none))) else (if y10 = 1 then (bd (M_M_less N 1 r8 r6 σ9) (fun (r13 : Int32) (σ14 : SM) => (if zb r13 = true then some (r13, σ14) else none))) else (bd (M_M_less N 1 r6 r8 σ9) (fun (r15 : Int32) (σ16 : SM) => (if zb r15 = true then some (r15, σ16) else none))))))) else none) else (some (0, σ9))))) else none))) else none)
set_option maxRecDepth 100000 in
set_option maxHeartbeats 4000000 in
theorem J_M_M_holdIn_b62 (K : jx_E) (D : va_G) (A : Nat → Prop) (ad : Nat → Nat) (cA : Nat → ClassId) (N : Nat) (h : jx_ok K D clM (tysM cA) A 7 b_M_holdIn y_M_holdIn.cls ((Cond.code y_M_holdIn b_M_holdIn 7 (some .boolean)) :: tblG) rM_M_holdIn (some .boolean)) : ∀ (v2 : Int32) (σ : SM), J K D clM A 7 (wM ad cA) (jx_Qi K D clM (tysM cA) (wM ad cA) A) 0 0 62 [(0, .ref (ad 0)), (2, .int v2)] [] σ (M_M_holdIn_b62 N v2 σ) := by
  intro v2 σ
  rw [M_M_holdIn_b62]
  refine J_aload_n (q := 0) h d_M_holdIn_62 rfl rfl ?_
  refine J_aload_n (q := 0) h d_M_holdIn_63 rfl rfl ?_
  refine J_getf h 0 (wM_0 ad cA σ) (tb_ups in_M) rfl 47 (by decide) (tb_up q_4_129) rfl d_M_holdIn_64 ?_
  refine J_iload_n (q := 1) h d_M_holdIn_67 rfl rfl ?_
  refine J_iald h 32 31 (wM_32 ad cA σ) rfl d_M_holdIn_68 ?_
  refine J_iconst (v := (-1)) h d_M_holdIn_69 (by decide) ?_
  refine J_callVi (As := [.int (aM_M_boundType σ v2.toNatClampNeg), .int (-1)]) (st := []) (rmc := rM_M_replaced) (q0 := 0) h (fun _ _ hf => cM_M_replaced (jl K) D ad cA N (aM_M_boundType σ v2.toNatClampNeg) (-1) σ _ _ hf) (gd_V q_5_126 q_5_128 q_s_37 q_1_12 q_5_129) rfl ⟨rfl, rfl⟩ dd_M_replaced ⟨Nat.le_of_ble_eq_true rfl, Nat.le_of_ble_eq_true rfl⟩ rfl rfl (wM_0 ad cA σ) rfl rfl (Nat.le_of_ble_eq_true rfl) ⟨Nat.zero_le _, Nat.zero_le _⟩ d_M_holdIn_70 (fun r6 σ7 => ?_)
  refine J_istore (lv' := [(4, .int r6), (0, .ref (ad 0)), (2, .int v2)]) h d_M_holdIn_73 (by decide) rfl ?_
  refine J_aload_n (q := 1) h d_M_holdIn_75 rfl rfl ?_
  refine J_bipush (v := 7) h d_M_holdIn_76 (by decide) ?_
  refine J_aload_n (q := 1) h d_M_holdIn_78 rfl rfl ?_
  refine J_getf h 0 (wM_0 ad cA σ7) (tb_ups in_M) rfl 46 (by decide) (tb_up q_4_128) rfl d_M_holdIn_79 ?_
  refine J_iload_n (q := 2) h d_M_holdIn_82 rfl rfl ?_
  refine J_iald h 31 30 (wM_31 ad cA σ7) rfl d_M_holdIn_83 ?_
  refine J_iconst (v := (-1)) h d_M_holdIn_84 (by decide) ?_
  refine J_iconst (v := (-1)) h d_M_holdIn_85 (by decide) ?_
  refine J_callVi (As := [.int 7, .int (aM_M_boundOf σ7 v2.toNatClampNeg), .int (-1), .int (-1)]) (st := []) (rmc := rM_M_make) (q0 := 0) h (fun _ _ hf => cM_M_make (jl K) D ad cA N 7 (aM_M_boundOf σ7 v2.toNatClampNeg) (-1) (-1) σ7 _ _ hf) (gd_V q_5_74 q_5_76 q_s_32 q_1_12 q_5_77) rfl ⟨rfl, rfl⟩ dd_M_make ⟨Nat.le_of_ble_eq_true rfl, Nat.le_of_ble_eq_true rfl⟩ rfl rfl (wM_0 ad cA σ7) rfl rfl (Nat.le_of_ble_eq_true rfl) ⟨Nat.zero_le _, Nat.zero_le _⟩ d_M_holdIn_86 (fun r8 σ9 => ?_)
  refine J_istore (lv' := [(5, .int r8), (4, .int r6), (0, .ref (ad 0)), (2, .int v2)]) h d_M_holdIn_89 (by decide) rfl ?_
  refine J_aload_n (q := 2) h d_M_holdIn_91 rfl rfl ?_
  refine J_getf h 0 (wM_0 ad cA σ9) (tb_ups in_M) rfl 12 (by decide) (tb_up q_4_94) rfl d_M_holdIn_92 ?_
  refine J_if_eq (tgt := 100) h d_M_holdIn_95 (by decide) ?_ ?_
  · refine J_aload_n (q := 2) h d_M_holdIn_100 rfl rfl ?_
    refine J_getf h 0 (wM_0 ad cA σ9) (tb_ups in_M) rfl 45 (by decide) (tb_up q_4_127) rfl d_M_holdIn_101 ?_
    refine J_iload_n (q := 3) h d_M_holdIn_104 rfl rfl ?_
    refine J_iald h 30 29 (wM_30 ad cA σ9) rfl d_M_holdIn_105 ?_
    refine J_nmi (fun y10 => ?_)
    refine J_istore (lv' := [(6, .int y10), (5, .int r8), (4, .int r6), (0, .ref (ad 0)), (2, .int v2)]) h d_M_holdIn_106 (by decide) rfl ?_
    refine J_iload (q := 0) h d_M_holdIn_108 rfl ?_
    refine J_if_ne (tgt := 125) h d_M_holdIn_110 (by decide) ?_ ?_
    · refine J_aload_n (q := 3) h d_M_holdIn_113 rfl rfl ?_
      refine J_iconst (v := 3) h d_M_holdIn_114 (by decide) ?_
      refine J_iload (q := 1) h d_M_holdIn_115 rfl ?_
      refine J_iload (q := 2) h d_M_holdIn_117 rfl ?_
      refine J_callVi (As := [.int 3, .int r8, .int r6]) (st := []) (rmc := rM_M_less) (q0 := 0) h (fun _ _ hf => cM_M_less (jl K) D ad cA N 3 r8 r6 σ9 _ _ hf) (gd_V q_5_154 q_5_156 q_s_43 q_1_12 q_5_157) rfl ⟨rfl, rfl⟩ dd_M_less ⟨Nat.le_of_ble_eq_true rfl, Nat.le_of_ble_eq_true rfl⟩ rfl rfl (wM_0 ad cA σ9) rfl rfl (Nat.le_of_ble_eq_true rfl) ⟨Nat.zero_le _, Nat.zero_le _⟩ d_M_holdIn_119 (fun r11 σ12 => ?_)
      refine J_goto (tgt := 152) h d_M_holdIn_122 (by decide) ?_
      exact J_zretc h rfl d_M_holdIn_152
    · refine J_iload (q := 0) h d_M_holdIn_125 rfl ?_
      refine J_iconst (v := 1) h d_M_holdIn_127 (by decide) ?_
      refine J_icmp_ne (tgt := 143) h d_M_holdIn_128 (by decide) ?_ ?_
      · refine J_aload_n (q := 3) h d_M_holdIn_131 rfl rfl ?_
        refine J_iconst (v := 1) h d_M_holdIn_132 (by decide) ?_
        refine J_iload (q := 1) h d_M_holdIn_133 rfl ?_
        refine J_iload (q := 2) h d_M_holdIn_135 rfl ?_
        refine J_callVi (As := [.int 1, .int r8, .int r6]) (st := []) (rmc := rM_M_less) (q0 := 0) h (fun _ _ hf => cM_M_less (jl K) D ad cA N 1 r8 r6 σ9 _ _ hf) (gd_V q_5_154 q_5_156 q_s_43 q_1_12 q_5_157) rfl ⟨rfl, rfl⟩ dd_M_less ⟨Nat.le_of_ble_eq_true rfl, Nat.le_of_ble_eq_true rfl⟩ rfl rfl (wM_0 ad cA σ9) rfl rfl (Nat.le_of_ble_eq_true rfl) ⟨Nat.zero_le _, Nat.zero_le _⟩ d_M_holdIn_137 (fun r13 σ14 => ?_)
        refine J_goto (tgt := 152) h d_M_holdIn_140 (by decide) ?_
        exact J_zretc h rfl d_M_holdIn_152
      · refine J_aload_n (q := 3) h d_M_holdIn_143 rfl rfl ?_
        refine J_iconst (v := 1) h d_M_holdIn_144 (by decide) ?_
        refine J_iload (q := 2) h d_M_holdIn_145 rfl ?_
        refine J_iload (q := 1) h d_M_holdIn_147 rfl ?_
        refine J_callVi (As := [.int 1, .int r6, .int r8]) (st := []) (rmc := rM_M_less) (q0 := 0) h (fun _ _ hf => cM_M_less (jl K) D ad cA N 1 r6 r8 σ9 _ _ hf) (gd_V q_5_154 q_5_156 q_s_43 q_1_12 q_5_157) rfl ⟨rfl, rfl⟩ dd_M_less ⟨Nat.le_of_ble_eq_true rfl, Nat.le_of_ble_eq_true rfl⟩ rfl rfl (wM_0 ad cA σ9) rfl rfl (Nat.le_of_ble_eq_true rfl) ⟨Nat.zero_le _, Nat.zero_le _⟩ d_M_holdIn_149 (fun r15 σ16 => ?_)
        exact J_zretc h rfl d_M_holdIn_152
  · refine J_iconst (v := 0) h d_M_holdIn_98 (by decide) ?_
    exact J_zret h rfl (by decide) d_M_holdIn_99
def M_M_holdIn (N : Nat) (x1 : Int32) (x2 : Int32) (σ : SM) : Option (Int32 × SM) := (if ck x1 200 = true then (nm ((aM_M_boundOf σ x1.toNatClampNeg)) (fun (y1 : Int32) => (if ck x2 200 = true then (bd (M_M_isIn N y1 (aM_M_boundType σ x2.toNatClampNeg) σ) (fun (r2 : Int32) (σ3 : SM) => (if r2 = 0 then (some (1, σ3)) else (M_M_holdIn_L26 N (M_M_holdIn_b62 N) N x1 x2 y1 0 σ3)))) else none))) else none)
set_option maxRecDepth 100000 in
set_option maxHeartbeats 4000000 in
theorem J_M_M_holdIn (K : jx_E) (D : va_G) (A : Nat → Prop) (ad : Nat → Nat) (cA : Nat → ClassId) (N : Nat) (h : jx_ok K D clM (tysM cA) A 7 b_M_holdIn y_M_holdIn.cls ((Cond.code y_M_holdIn b_M_holdIn 7 (some .boolean)) :: tblG) rM_M_holdIn (some .boolean)) : ∀ (x1 : Int32) (x2 : Int32) (σ : SM), J K D clM A 7 (wM ad cA) (jx_Qi K D clM (tysM cA) (wM ad cA) A) 0 0 0 [(0, .ref (ad 0)), (1, .int x1), (2, .int x2)] [] σ (M_M_holdIn N x1 x2 σ) := by
  intro x1 x2 σ
  rw [M_M_holdIn]
  refine J_aload_n (q := 0) h d_M_holdIn_0 rfl rfl ?_
  refine J_getf h 0 (wM_0 ad cA σ) (tb_ups in_M) rfl 46 (by decide) (tb_up q_4_128) rfl d_M_holdIn_1 ?_
  refine J_iload_n (q := 1) h d_M_holdIn_4 rfl rfl ?_
  refine J_iald h 31 30 (wM_31 ad cA σ) rfl d_M_holdIn_5 ?_
  refine J_nmi (fun y1 => ?_)
  refine J_istore_n (lv' := [(3, .int y1), (0, .ref (ad 0)), (1, .int x1), (2, .int x2)]) h d_M_holdIn_6 rfl (by decide) rfl ?_
  refine J_aload_n (q := 1) h d_M_holdIn_7 rfl rfl ?_
  refine J_iload_n (q := 0) h d_M_holdIn_8 rfl rfl ?_
  refine J_aload_n (q := 1) h d_M_holdIn_9 rfl rfl ?_
  refine J_getf h 0 (wM_0 ad cA σ) (tb_ups in_M) rfl 47 (by decide) (tb_up q_4_129) rfl d_M_holdIn_10 ?_
  refine J_iload_n (q := 3) h d_M_holdIn_13 rfl rfl ?_
  refine J_iald h 32 31 (wM_32 ad cA σ) rfl d_M_holdIn_14 ?_
  refine J_callVi (As := [.int y1, .int (aM_M_boundType σ x2.toNatClampNeg)]) (st := []) (rmc := rM_M_isIn) (q0 := 0) h (fun _ _ hf => cM_M_isIn (jl K) D ad cA N y1 (aM_M_boundType σ x2.toNatClampNeg) σ _ _ hf) (gd_V q_5_146 q_5_148 q_s_41 q_1_12 q_5_149) rfl ⟨rfl, rfl⟩ dd_M_isIn ⟨Nat.le_of_ble_eq_true rfl, Nat.le_of_ble_eq_true rfl⟩ rfl rfl (wM_0 ad cA σ) rfl rfl (Nat.le_of_ble_eq_true rfl) ⟨Nat.zero_le _, Nat.zero_le _⟩ d_M_holdIn_15 (fun r2 σ3 => ?_)
  refine J_if_ne (tgt := 23) h d_M_holdIn_18 (by decide) ?_ ?_
  · refine J_iconst (v := 1) h d_M_holdIn_21 (by decide) ?_
    exact J_zret h rfl (by decide) d_M_holdIn_22
  · refine J_iconst (v := 0) h d_M_holdIn_23 (by decide) ?_
    refine J_istore (lv' := [(4, .int 0), (3, .int y1), (0, .ref (ad 0)), (1, .int x1), (2, .int x2)]) h d_M_holdIn_24 (by decide) rfl ?_
    refine J_sub [2, 3, 4, 1, 0] rfl ?_
    exact J_M_M_holdIn_L26 K D A ad cA N h (M_M_holdIn_b62 N) (J_M_M_holdIn_b62 K D A ad cA N h) N x1 x2 y1 0 σ3
set_option maxRecDepth 100000 in
theorem cM_M_holdIn (l : Launch) (D : va_G) (ad : Nat → Nat) (cA : Nat → ClassId) (N : Nat) (x1 : Int32) (x2 : Int32) (σ : SM) (r : Int32) (σ' : SM) (hf : M_M_holdIn N x1 x2 σ = some (r, σ')) : MetI l y_M_holdIn ((Cond.code y_M_holdIn b_M_holdIn 7 (some .boolean)) :: tblG) rM_M_holdIn D clM (tysM cA) (wM ad cA) [.ref (ad 0), .int x1, .int x2] σ r σ' :=
  jx_metI (by decide) rfl (Nat.le_of_ble_eq_true rfl) (fun K A h => J_M_M_holdIn K D A ad cA N h x1 x2 σ) hf
def rM_M_holdArguments : Room := { frames := 7, cells := 0, slots := 0, locals := 177 }
theorem rm_ok_M_M_holdArguments : rM_M_holdArguments.cells = 0 ∧ rM_M_holdArguments.slots = 0 := ⟨rfl, rfl⟩
def M_M_holdArguments_b198 (N : Nat) (k2 : Int32 → Int32 → Int32 → SM → Option (Int32 × SM)) (v1 : Int32) (v2 : Int32) (v3 : Int32) (σ : SM) : Option (Int32 × SM) := (nm (v3 + 1) (fun (y1 : Int32) => (k2 v1 v2 y1 σ)))
set_option maxRecDepth 100000 in
set_option maxHeartbeats 4000000 in
theorem J_M_M_holdArguments_b198 (K : jx_E) (D : va_G) (A : Nat → Prop) (ad : Nat → Nat) (cA : Nat → ClassId) (N : Nat) (h : jx_ok K D clM (tysM cA) A 9 b_M_holdArguments y_M_holdArguments.cls ((Cond.code y_M_holdArguments b_M_holdArguments 9 (some .boolean)) :: tblG) rM_M_holdArguments (some .boolean)) (k2 : Int32 → Int32 → Int32 → SM → Option (Int32 × SM)) (hk2 : ∀ (v1 : Int32) (v2 : Int32) (v3 : Int32) (σ : SM), J K D clM A 9 (wM ad cA) (jx_Qi K D clM (tysM cA) (wM ad cA) A) 0 0 2 [(0, .ref (ad 0)), (1, .int v1), (2, .int v2), (3, .int v3)] [] σ (k2 v1 v2 v3 σ)) : ∀ (v1 : Int32) (v2 : Int32) (v3 : Int32) (σ : SM), J K D clM A 9 (wM ad cA) (jx_Qi K D clM (tysM cA) (wM ad cA) A) 0 0 198 [(0, .ref (ad 0)), (1, .int v1), (2, .int v2), (3, .int v3)] [] σ (M_M_holdArguments_b198 N k2 v1 v2 v3 σ) := by
  intro v1 v2 v3 σ
  rw [M_M_holdArguments_b198]
  refine J_iinc (q := 3) (c := 1) (lv' := fun y1 => [(3, .int y1), (0, .ref (ad 0)), (1, .int v1), (2, .int v2)]) h d_M_holdArguments_198 rfl (by decide) (by decide) (fun _ => rfl) (fun y1 => ?_)
  refine J_goto (tgt := 2) h d_M_holdArguments_201 (by decide) ?_
  refine J_sub [1, 2, 3, 0] rfl ?_
  exact hk2 v1 v2 y1 σ
def M_M_holdArguments_b192 (N : Nat) (k97 : Int32 → Int32 → Int32 → Int32 → Int32 → Int32 → SM → Option (Int32 × SM)) (v1 : Int32) (v2 : Int32) (v3 : Int32) (v4 : Int32) (v5 : Int32) (v6 : Int32) (σ : SM) : Option (Int32 × SM) := (nm (v6 + 1) (fun (y4 : Int32) => (k97 v1 v2 v3 v4 v5 y4 σ)))
set_option maxRecDepth 100000 in
set_option maxHeartbeats 4000000 in
theorem J_M_M_holdArguments_b192 (K : jx_E) (D : va_G) (A : Nat → Prop) (ad : Nat → Nat) (cA : Nat → ClassId) (N : Nat) (h : jx_ok K D clM (tysM cA) A 9 b_M_holdArguments y_M_holdArguments.cls ((Cond.code y_M_holdArguments b_M_holdArguments 9 (some .boolean)) :: tblG) rM_M_holdArguments (some .boolean)) (k97 : Int32 → Int32 → Int32 → Int32 → Int32 → Int32 → SM → Option (Int32 × SM)) (hk97 : ∀ (v1 : Int32) (v2 : Int32) (v3 : Int32) (v4 : Int32) (v5 : Int32) (v6 : Int32) (σ : SM), J K D clM A 9 (wM ad cA) (jx_Qi K D clM (tysM cA) (wM ad cA) A) 0 0 97 [(0, .ref (ad 0)), (1, .int v1), (2, .int v2), (3, .int v3), (4, .int v4), (5, .int v5), (6, .int v6)] [] σ (k97 v1 v2 v3 v4 v5 v6 σ)) : ∀ (v1 : Int32) (v2 : Int32) (v3 : Int32) (v4 : Int32) (v5 : Int32) (v6 : Int32) (σ : SM), J K D clM A 9 (wM ad cA) (jx_Qi K D clM (tysM cA) (wM ad cA) A) 0 0 192 [(0, .ref (ad 0)), (1, .int v1), (2, .int v2), (3, .int v3), (4, .int v4), (5, .int v5), (6, .int v6)] [] σ (M_M_holdArguments_b192 N k97 v1 v2 v3 v4 v5 v6 σ) := by
  intro v1 v2 v3 v4 v5 v6 σ
  rw [M_M_holdArguments_b192]
  refine J_iinc (q := 6) (c := 1) (lv' := fun y4 => [(6, .int y4), (0, .ref (ad 0)), (1, .int v1), (2, .int v2), (3, .int v3), (4, .int v4), (5, .int v5)]) h d_M_holdArguments_192 rfl (by decide) (by decide) (fun _ => rfl) (fun y4 => ?_)
  refine J_goto (tgt := 97) h d_M_holdArguments_195 (by decide) ?_
  refine J_sub [1, 2, 3, 4, 5, 6, 0] rfl ?_
  exact hk97 v1 v2 v3 v4 v5 y4 σ
def M_M_holdArguments_b154 (N : Nat) (k97 : Int32 → Int32 → Int32 → Int32 → Int32 → Int32 → SM → Option (Int32 × SM)) (v1 : Int32) (v2 : Int32) (v3 : Int32) (v4 : Int32) (v5 : Int32) (v6 : Int32) (v7 : Int32) (s0 : Int32) (σ : SM) : Option (Int32 × SM) := (if ck v7 500 = true then (if (aM_M_kind σ v7.toNatClampNeg) = 2 then (M_M_holdArguments_b192 N k97 v1 v2 v3 v4 v5 v6 σ) else (if ck s0 500 = true then (if (aM_M_kind σ s0.toNatClampNeg) = 2 then (M_M_holdArguments_b192 N k97 v1 v2 v3 v4 v5 v6 σ) else (bd (M_M_less N 3 v7 s0 σ) (fun (r5 : Int32) (σ6 : SM) => (if r5 = 0 then (some (0, σ6)) else (M_M_holdArguments_b192 N k97 v1 v2 v3 v4 v5 v6 σ6))))) else none)) else none)
set_option maxRecDepth 100000 in
set_option maxHeartbeats 4000000 in
theorem J_M_M_holdArguments_b154 (K : jx_E) (D : va_G) (A : Nat → Prop) (ad : Nat → Nat) (cA : Nat → ClassId) (N : Nat) (h : jx_ok K D clM (tysM cA) A 9 b_M_holdArguments y_M_holdArguments.cls ((Cond.code y_M_holdArguments b_M_holdArguments 9 (some .boolean)) :: tblG) rM_M_holdArguments (some .boolean)) (k97 : Int32 → Int32 → Int32 → Int32 → Int32 → Int32 → SM → Option (Int32 × SM)) (hk97 : ∀ (v1 : Int32) (v2 : Int32) (v3 : Int32) (v4 : Int32) (v5 : Int32) (v6 : Int32) (σ : SM), J K D clM A 9 (wM ad cA) (jx_Qi K D clM (tysM cA) (wM ad cA) A) 0 0 97 [(0, .ref (ad 0)), (1, .int v1), (2, .int v2), (3, .int v3), (4, .int v4), (5, .int v5), (6, .int v6)] [] σ (k97 v1 v2 v3 v4 v5 v6 σ)) : ∀ (v1 : Int32) (v2 : Int32) (v3 : Int32) (v4 : Int32) (v5 : Int32) (v6 : Int32) (v7 : Int32) (s0 : Int32) (σ : SM), J K D clM A 9 (wM ad cA) (jx_Qi K D clM (tysM cA) (wM ad cA) A) 0 0 154 [(0, .ref (ad 0)), (1, .int v1), (2, .int v2), (3, .int v3), (4, .int v4), (5, .int v5), (6, .int v6), (7, .int v7)] [.int s0] σ (M_M_holdArguments_b154 N k97 v1 v2 v3 v4 v5 v6 v7 s0 σ) := by
  intro v1 v2 v3 v4 v5 v6 v7 s0 σ
  rw [M_M_holdArguments_b154]
  refine J_istore (lv' := [(8, .int s0), (0, .ref (ad 0)), (1, .int v1), (2, .int v2), (3, .int v3), (4, .int v4), (5, .int v5), (6, .int v6), (7, .int v7)]) h d_M_holdArguments_154 (by decide) rfl ?_
  refine J_aload_n (q := 1) h d_M_holdArguments_156 rfl rfl ?_
  refine J_getf h 0 (wM_0 ad cA σ) (tb_ups in_M) rfl 5 (by decide) (tb_up q_4_87) rfl d_M_holdArguments_157 ?_
  refine J_iload (q := 8) h d_M_holdArguments_160 rfl ?_
  refine J_iald h 5 4 (wM_5 ad cA σ) rfl d_M_holdArguments_162 ?_
  refine J_iconst (v := 2) h d_M_holdArguments_163 (by decide) ?_
  refine J_icmp_eq (tgt := 192) h d_M_holdArguments_164 (by decide) ?_ ?_
  · refine J_sub [1, 2, 3, 4, 5, 6, 7] rfl ?_
    exact J_M_M_holdArguments_b192 K D A ad cA N h k97 hk97 v1 v2 v3 v4 v5 v6 σ
  · refine J_aload_n (q := 1) h d_M_holdArguments_167 rfl rfl ?_
    refine J_getf h 0 (wM_0 ad cA σ) (tb_ups in_M) rfl 5 (by decide) (tb_up q_4_87) rfl d_M_holdArguments_168 ?_
    refine J_iload (q := 0) h d_M_holdArguments_171 rfl ?_
    refine J_iald h 5 4 (wM_5 ad cA σ) rfl d_M_holdArguments_173 ?_
    refine J_iconst (v := 2) h d_M_holdArguments_174 (by decide) ?_
    refine J_icmp_eq (tgt := 192) h d_M_holdArguments_175 (by decide) ?_ ?_
    · refine J_sub [1, 2, 3, 4, 5, 6, 7] rfl ?_
      exact J_M_M_holdArguments_b192 K D A ad cA N h k97 hk97 v1 v2 v3 v4 v5 v6 σ
    · refine J_aload_n (q := 1) h d_M_holdArguments_178 rfl rfl ?_
      refine J_iconst (v := 3) h d_M_holdArguments_179 (by decide) ?_
      refine J_iload (q := 8) h d_M_holdArguments_180 rfl ?_
      refine J_iload (q := 0) h d_M_holdArguments_182 rfl ?_
      refine J_callVi (As := [.int 3, .int v7, .int s0]) (st := []) (rmc := rM_M_less) (q0 := 0) h (fun _ _ hf => cM_M_less (jl K) D ad cA N 3 v7 s0 σ _ _ hf) (gd_V q_5_154 q_5_156 q_s_43 q_1_12 q_5_157) rfl ⟨rfl, rfl⟩ dd_M_less ⟨Nat.le_of_ble_eq_true rfl, Nat.le_of_ble_eq_true rfl⟩ rfl rfl (wM_0 ad cA σ) rfl rfl (Nat.le_of_ble_eq_true rfl) ⟨Nat.zero_le _, Nat.zero_le _⟩ d_M_holdArguments_184 (fun r5 σ6 => ?_)
      refine J_if_ne (tgt := 192) h d_M_holdArguments_187 (by decide) ?_ ?_
      · refine J_iconst (v := 0) h d_M_holdArguments_190 (by decide) ?_
        exact J_zret h rfl (by decide) d_M_holdArguments_191
      · refine J_sub [1, 2, 3, 4, 5, 6, 7] rfl ?_
        exact J_M_M_holdArguments_b192 K D A ad cA N h k97 hk97 v1 v2 v3 v4 v5 v6 σ6
def M_M_holdArguments_b130 (N : Nat) (k97 : Int32 → Int32 → Int32 → Int32 → Int32 → Int32 → SM → Option (Int32 × SM)) (v1 : Int32) (v2 : Int32) (v3 : Int32) (v4 : Int32) (v5 : Int32) (v6 : Int32) (s0 : Int32) (σ : SM) : Option (Int32 × SM) := (if v6 = 0 then (if ck v5 500 = true then (M_M_holdArguments_b154 N k97 v1 v2 v3 v4 v5 v6 s0 (aM_M_two σ v5.toNatClampNeg) σ) else none) else (if ck v5 500 = true then (M_M_holdArguments_b154 N k97 v1 v2 v3 v4 v5 v6 s0 (aM_M_three σ v5.toNatClampNeg) σ) else none))
set_option maxRecDepth 100000 in
set_option maxHeartbeats 4000000 in
theorem J_M_M_holdArguments_b130 (K : jx_E) (D : va_G) (A : Nat → Prop) (ad : Nat → Nat) (cA : Nat → ClassId) (N : Nat) (h : jx_ok K D clM (tysM cA) A 9 b_M_holdArguments y_M_holdArguments.cls ((Cond.code y_M_holdArguments b_M_holdArguments 9 (some .boolean)) :: tblG) rM_M_holdArguments (some .boolean)) (k97 : Int32 → Int32 → Int32 → Int32 → Int32 → Int32 → SM → Option (Int32 × SM)) (hk97 : ∀ (v1 : Int32) (v2 : Int32) (v3 : Int32) (v4 : Int32) (v5 : Int32) (v6 : Int32) (σ : SM), J K D clM A 9 (wM ad cA) (jx_Qi K D clM (tysM cA) (wM ad cA) A) 0 0 97 [(0, .ref (ad 0)), (1, .int v1), (2, .int v2), (3, .int v3), (4, .int v4), (5, .int v5), (6, .int v6)] [] σ (k97 v1 v2 v3 v4 v5 v6 σ)) : ∀ (v1 : Int32) (v2 : Int32) (v3 : Int32) (v4 : Int32) (v5 : Int32) (v6 : Int32) (s0 : Int32) (σ : SM), J K D clM A 9 (wM ad cA) (jx_Qi K D clM (tysM cA) (wM ad cA) A) 0 0 130 [(0, .ref (ad 0)), (1, .int v1), (2, .int v2), (3, .int v3), (4, .int v4), (5, .int v5), (6, .int v6)] [.int s0] σ (M_M_holdArguments_b130 N k97 v1 v2 v3 v4 v5 v6 s0 σ) := by
  intro v1 v2 v3 v4 v5 v6 s0 σ
  rw [M_M_holdArguments_b130]
  refine J_istore (lv' := [(7, .int s0), (0, .ref (ad 0)), (1, .int v1), (2, .int v2), (3, .int v3), (4, .int v4), (5, .int v5), (6, .int v6)]) h d_M_holdArguments_130 (by decide) rfl ?_
  refine J_iload (q := 7) h d_M_holdArguments_132 rfl ?_
  refine J_if_ne (tgt := 147) h d_M_holdArguments_134 (by decide) ?_ ?_
  · refine J_aload_n (q := 1) h d_M_holdArguments_137 rfl rfl ?_
    refine J_getf h 0 (wM_0 ad cA σ) (tb_ups in_M) rfl 7 (by decide) (tb_up q_4_89) rfl d_M_holdArguments_138 ?_
    refine J_iload (q := 6) h d_M_holdArguments_141 rfl ?_
    refine J_iald h 7 6 (wM_7 ad cA σ) rfl d_M_holdArguments_143 ?_
    refine J_goto (tgt := 154) h d_M_holdArguments_144 (by decide) ?_
    refine J_sub [1, 2, 3, 4, 5, 6, 7, 0] rfl ?_
    exact J_M_M_holdArguments_b154 K D A ad cA N h k97 hk97 v1 v2 v3 v4 v5 v6 s0 (aM_M_two σ v5.toNatClampNeg) σ
  · refine J_aload_n (q := 1) h d_M_holdArguments_147 rfl rfl ?_
    refine J_getf h 0 (wM_0 ad cA σ) (tb_ups in_M) rfl 8 (by decide) (tb_up q_4_90) rfl d_M_holdArguments_148 ?_
    refine J_iload (q := 6) h d_M_holdArguments_151 rfl ?_
    refine J_iald h 8 7 (wM_8 ad cA σ) rfl d_M_holdArguments_153 ?_
    refine J_sub [1, 2, 3, 4, 5, 6, 7, 0] rfl ?_
    exact J_M_M_holdArguments_b154 K D A ad cA N h k97 hk97 v1 v2 v3 v4 v5 v6 s0 (aM_M_three σ v5.toNatClampNeg) σ
def M_M_holdArguments_L97 (N : Nat) (k198 : Int32 → Int32 → Int32 → SM → Option (Int32 × SM)) : Nat → Int32 → Int32 → Int32 → Int32 → Int32 → Int32 → SM → Option (Int32 × SM)
  | 0, _, _, _, _, _, _, _ => none
  | n + 1, v1, v2, v3, v4, v5, v6, σ => (if ck v3 40 = true then (if (aM_M_parameters σ v3.toNatClampNeg) ≤ v6 then (k198 v1 v2 v3 σ) else (if v6 = 0 then (if ck v4 500 = true then (M_M_holdArguments_b130 N (M_M_holdArguments_L97 N k198 n) v1 v2 v3 v4 v5 v6 (aM_M_two σ v4.toNatClampNeg) σ) else none) else (if ck v4 500 = true then (M_M_holdArguments_b130 N (M_M_holdArguments_L97 N k198 n) v1 v2 v3 v4 v5 v6 (aM_M_three σ v4.toNatClampNeg) σ) else none))) else none)
set_option maxRecDepth 100000 in
set_option maxHeartbeats 4000000 in
theorem J_M_M_holdArguments_L97 (K : jx_E) (D : va_G) (A : Nat → Prop) (ad : Nat → Nat) (cA : Nat → ClassId) (N : Nat) (h : jx_ok K D clM (tysM cA) A 9 b_M_holdArguments y_M_holdArguments.cls ((Cond.code y_M_holdArguments b_M_holdArguments 9 (some .boolean)) :: tblG) rM_M_holdArguments (some .boolean)) (k198 : Int32 → Int32 → Int32 → SM → Option (Int32 × SM)) (hk198 : ∀ (v1 : Int32) (v2 : Int32) (v3 : Int32) (σ : SM), J K D clM A 9 (wM ad cA) (jx_Qi K D clM (tysM cA) (wM ad cA) A) 0 0 198 [(0, .ref (ad 0)), (1, .int v1), (2, .int v2), (3, .int v3)] [] σ (k198 v1 v2 v3 σ)) : ∀ (n : Nat) (v1 : Int32) (v2 : Int32) (v3 : Int32) (v4 : Int32) (v5 : Int32) (v6 : Int32) (σ : SM), J K D clM A 9 (wM ad cA) (jx_Qi K D clM (tysM cA) (wM ad cA) A) 0 0 97 [(0, .ref (ad 0)), (1, .int v1), (2, .int v2), (3, .int v3), (4, .int v4), (5, .int v5), (6, .int v6)] [] σ (M_M_holdArguments_L97 N k198 n v1 v2 v3 v4 v5 v6 σ) := by
  intro n
  induction n with
  | zero => intro v1 v2 v3 v4 v5 v6 σ; exact J_none
  | succ n ih =>
    intro v1 v2 v3 v4 v5 v6 σ
    rw [M_M_holdArguments_L97]
    refine J_iload (q := 6) h d_M_holdArguments_97 rfl ?_
    refine J_aload_n (q := 0) h d_M_holdArguments_99 rfl rfl ?_
    refine J_getf h 0 (wM_0 ad cA σ) (tb_ups in_M) rfl 0 (by decide) (tb_up q_4_82) rfl d_M_holdArguments_100 ?_
    refine J_iload_n (q := 3) h d_M_holdArguments_103 rfl rfl ?_
    refine J_iald h 1 0 (wM_1 ad cA σ) rfl d_M_holdArguments_104 ?_
    refine J_icmp_ge (tgt := 198) h d_M_holdArguments_105 (by decide) ?_ ?_
    · refine J_sub [0, 1, 2, 3] rfl ?_
      exact hk198 v1 v2 v3 σ
    · refine J_iload (q := 6) h d_M_holdArguments_108 rfl ?_
      refine J_if_ne (tgt := 123) h d_M_holdArguments_110 (by decide) ?_ ?_
      · refine J_aload_n (q := 0) h d_M_holdArguments_113 rfl rfl ?_
        refine J_getf h 0 (wM_0 ad cA σ) (tb_ups in_M) rfl 7 (by decide) (tb_up q_4_89) rfl d_M_holdArguments_114 ?_
        refine J_iload (q := 4) h d_M_holdArguments_117 rfl ?_
        refine J_iald h 7 6 (wM_7 ad cA σ) rfl d_M_holdArguments_119 ?_
        refine J_goto (tgt := 130) h d_M_holdArguments_120 (by decide) ?_
        exact J_M_M_holdArguments_b130 K D A ad cA N h (M_M_holdArguments_L97 N k198 n) ih v1 v2 v3 v4 v5 v6 (aM_M_two σ v4.toNatClampNeg) σ
      · refine J_aload_n (q := 0) h d_M_holdArguments_123 rfl rfl ?_
        refine J_getf h 0 (wM_0 ad cA σ) (tb_ups in_M) rfl 8 (by decide) (tb_up q_4_90) rfl d_M_holdArguments_124 ?_
        refine J_iload (q := 4) h d_M_holdArguments_127 rfl ?_
        refine J_iald h 8 7 (wM_8 ad cA σ) rfl d_M_holdArguments_129 ?_
        exact J_M_M_holdArguments_b130 K D A ad cA N h (M_M_holdArguments_L97 N k198 n) ih v1 v2 v3 v4 v5 v6 (aM_M_three σ v4.toNatClampNeg) σ
def M_M_holdArguments_b46 (N : Nat) (k2 : Int32 → Int32 → Int32 → SM → Option (Int32 × SM)) (v1 : Int32) (v2 : Int32) (v3 : Int32) (v4 : Int32) (s0 : Int32) (σ : SM) : Option (Int32 × SM) := (if (gM_M_full σ) = 0 then (if v4 = (-1) then (M_M_holdArguments_b198 N k2 v1 v2 v3 σ) else (if s0 = (-1) then (M_M_holdArguments_b198 N k2 v1 v2 v3 σ) else (if ck v4 500 = true then (if (aM_M_kind σ v4.toNatClampNeg) = 1 then (if ck s0 500 = true then (if (aM_M_kind σ s0.toNatClampNeg) = 1 then (M_M_holdArguments_L97 N (M_M_holdArguments_b198 N k2) N v1 v2 v3 v4 s0 0 σ) else (M_M_holdArguments_b198 N k2 v1 v2 v3 σ)) else none) else (M_M_holdArguments_b198 N k2 v1 v2 v3 σ)) else none))) else (some (0, σ)))
set_option maxRecDepth 100000 in
set_option maxHeartbeats 4000000 in
theorem J_M_M_holdArguments_b46 (K : jx_E) (D : va_G) (A : Nat → Prop) (ad : Nat → Nat) (cA : Nat → ClassId) (N : Nat) (h : jx_ok K D clM (tysM cA) A 9 b_M_holdArguments y_M_holdArguments.cls ((Cond.code y_M_holdArguments b_M_holdArguments 9 (some .boolean)) :: tblG) rM_M_holdArguments (some .boolean)) (k2 : Int32 → Int32 → Int32 → SM → Option (Int32 × SM)) (hk2 : ∀ (v1 : Int32) (v2 : Int32) (v3 : Int32) (σ : SM), J K D clM A 9 (wM ad cA) (jx_Qi K D clM (tysM cA) (wM ad cA) A) 0 0 2 [(0, .ref (ad 0)), (1, .int v1), (2, .int v2), (3, .int v3)] [] σ (k2 v1 v2 v3 σ)) : ∀ (v1 : Int32) (v2 : Int32) (v3 : Int32) (v4 : Int32) (s0 : Int32) (σ : SM), J K D clM A 9 (wM ad cA) (jx_Qi K D clM (tysM cA) (wM ad cA) A) 0 0 46 [(0, .ref (ad 0)), (1, .int v1), (2, .int v2), (3, .int v3), (4, .int v4)] [.int s0] σ (M_M_holdArguments_b46 N k2 v1 v2 v3 v4 s0 σ) := by
  intro v1 v2 v3 v4 s0 σ
  rw [M_M_holdArguments_b46]
  refine J_istore (lv' := [(5, .int s0), (0, .ref (ad 0)), (1, .int v1), (2, .int v2), (3, .int v3), (4, .int v4)]) h d_M_holdArguments_46 (by decide) rfl ?_
  refine J_aload_n (q := 1) h d_M_holdArguments_48 rfl rfl ?_
  refine J_getf h 0 (wM_0 ad cA σ) (tb_ups in_M) rfl 12 (by decide) (tb_up q_4_94) rfl d_M_holdArguments_49 ?_
  refine J_if_eq (tgt := 57) h d_M_holdArguments_52 (by decide) ?_ ?_
  · refine J_iload (q := 5) h d_M_holdArguments_57 rfl ?_
    refine J_iconst (v := (-1)) h d_M_holdArguments_59 (by decide) ?_
    refine J_icmp_eq (tgt := 198) h d_M_holdArguments_60 (by decide) ?_ ?_
    · refine J_sub [1, 2, 3, 4] rfl ?_
      exact J_M_M_holdArguments_b198 K D A ad cA N h k2 hk2 v1 v2 v3 σ
    · refine J_iload (q := 0) h d_M_holdArguments_63 rfl ?_
      refine J_iconst (v := (-1)) h d_M_holdArguments_65 (by decide) ?_
      refine J_icmp_eq (tgt := 198) h d_M_holdArguments_66 (by decide) ?_ ?_
      · refine J_sub [1, 2, 3, 4] rfl ?_
        exact J_M_M_holdArguments_b198 K D A ad cA N h k2 hk2 v1 v2 v3 σ
      · refine J_aload_n (q := 1) h d_M_holdArguments_69 rfl rfl ?_
        refine J_getf h 0 (wM_0 ad cA σ) (tb_ups in_M) rfl 5 (by decide) (tb_up q_4_87) rfl d_M_holdArguments_70 ?_
        refine J_iload (q := 5) h d_M_holdArguments_73 rfl ?_
        refine J_iald h 5 4 (wM_5 ad cA σ) rfl d_M_holdArguments_75 ?_
        refine J_iconst (v := 1) h d_M_holdArguments_76 (by decide) ?_
        refine J_icmp_ne (tgt := 198) h d_M_holdArguments_77 (by decide) ?_ ?_
        · refine J_aload_n (q := 1) h d_M_holdArguments_80 rfl rfl ?_
          refine J_getf h 0 (wM_0 ad cA σ) (tb_ups in_M) rfl 5 (by decide) (tb_up q_4_87) rfl d_M_holdArguments_81 ?_
          refine J_iload (q := 0) h d_M_holdArguments_84 rfl ?_
          refine J_iald h 5 4 (wM_5 ad cA σ) rfl d_M_holdArguments_86 ?_
          refine J_iconst (v := 1) h d_M_holdArguments_87 (by decide) ?_
          refine J_icmp_eq (tgt := 94) h d_M_holdArguments_88 (by decide) ?_ ?_
          · refine J_iconst (v := 0) h d_M_holdArguments_94 (by decide) ?_
            refine J_istore (lv' := [(6, .int 0), (5, .int s0), (0, .ref (ad 0)), (1, .int v1), (2, .int v2), (3, .int v3), (4, .int v4)]) h d_M_holdArguments_95 (by decide) rfl ?_
            refine J_sub [2, 3, 4, 5, 6, 1, 0] rfl ?_
            exact J_M_M_holdArguments_L97 K D A ad cA N h (M_M_holdArguments_b198 N k2) (J_M_M_holdArguments_b198 K D A ad cA N h k2 hk2) N v1 v2 v3 v4 s0 0 σ
          · refine J_goto (tgt := 198) h d_M_holdArguments_91 (by decide) ?_
            refine J_sub [1, 2, 3, 4] rfl ?_
            exact J_M_M_holdArguments_b198 K D A ad cA N h k2 hk2 v1 v2 v3 σ
        · refine J_sub [1, 2, 3, 4] rfl ?_
          exact J_M_M_holdArguments_b198 K D A ad cA N h k2 hk2 v1 v2 v3 σ
  · refine J_iconst (v := 0) h d_M_holdArguments_55 (by decide) ?_
    exact J_zret h rfl (by decide) d_M_holdArguments_56
def M_M_holdArguments_L2 (N : Nat) : Nat → Int32 → Int32 → Int32 → SM → Option (Int32 × SM)
  | 0, _, _, _, _ => none
  | n + 1, v1, v2, v3, σ => (if (gM_M_classes σ) ≤ v3 then (some (1, σ)) else (if ck v3 40 = true then (if (aM_M_parameters σ v3.toNatClampNeg) = 0 then (M_M_holdArguments_b198 N (M_M_holdArguments_L2 N  n) v1 v2 v3 σ) else (bd (M_M_aboveOf N v1 v3 σ) (fun (r2 : Int32) (σ3 : SM) => (if r2 = (-1) then (M_M_holdArguments_b46 N (M_M_holdArguments_L2 N  n) v1 v2 v3 r2 (-1) σ3) else (bd (M_M_aboveOf N v2 v3 σ3) (fun (r7 : Int32) (σ8 : SM) => (M_M_holdArguments_b46 N (M_M_holdArguments_L2 N  n) v1 v2 v3 r2 r7 σ8))))))) else none))
set_option maxRecDepth 100000 in
set_option maxHeartbeats 4000000 in
theorem J_M_M_holdArguments_L2 (K : jx_E) (D : va_G) (A : Nat → Prop) (ad : Nat → Nat) (cA : Nat → ClassId) (N : Nat) (h : jx_ok K D clM (tysM cA) A 9 b_M_holdArguments y_M_holdArguments.cls ((Cond.code y_M_holdArguments b_M_holdArguments 9 (some .boolean)) :: tblG) rM_M_holdArguments (some .boolean)) : ∀ (n : Nat) (v1 : Int32) (v2 : Int32) (v3 : Int32) (σ : SM), J K D clM A 9 (wM ad cA) (jx_Qi K D clM (tysM cA) (wM ad cA) A) 0 0 2 [(0, .ref (ad 0)), (1, .int v1), (2, .int v2), (3, .int v3)] [] σ (M_M_holdArguments_L2 N n v1 v2 v3 σ) := by
  intro n
  induction n with
  | zero => intro v1 v2 v3 σ; exact J_none
  | succ n ih =>
    intro v1 v2 v3 σ
    rw [M_M_holdArguments_L2]
    refine J_iload_n (q := 3) h d_M_holdArguments_2 rfl rfl ?_
    refine J_aload_n (q := 0) h d_M_holdArguments_3 rfl rfl ?_
    refine J_getf h 0 (wM_0 ad cA σ) (tb_ups in_M) rfl 4 (by decide) (tb_up q_4_86) rfl d_M_holdArguments_4 ?_
    refine J_icmp_ge (tgt := 204) h d_M_holdArguments_7 (by decide) ?_ ?_
    · refine J_iconst (v := 1) h d_M_holdArguments_204 (by decide) ?_
      exact J_zret h rfl (by decide) d_M_holdArguments_205
    · refine J_aload_n (q := 0) h d_M_holdArguments_10 rfl rfl ?_
      refine J_getf h 0 (wM_0 ad cA σ) (tb_ups in_M) rfl 0 (by decide) (tb_up q_4_82) rfl d_M_holdArguments_11 ?_
      refine J_iload_n (q := 3) h d_M_holdArguments_14 rfl rfl ?_
      refine J_iald h 1 0 (wM_1 ad cA σ) rfl d_M_holdArguments_15 ?_
      refine J_if_ne (tgt := 22) h d_M_holdArguments_16 (by decide) ?_ ?_
      · refine J_goto (tgt := 198) h d_M_holdArguments_19 (by decide) ?_
        exact J_M_M_holdArguments_b198 K D A ad cA N h (M_M_holdArguments_L2 N  n) ih v1 v2 v3 σ
      · refine J_aload_n (q := 0) h d_M_holdArguments_22 rfl rfl ?_
        refine J_iload_n (q := 1) h d_M_holdArguments_23 rfl rfl ?_
        refine J_iload_n (q := 3) h d_M_holdArguments_24 rfl rfl ?_
        refine J_callVi (As := [.int v1, .int v3]) (st := []) (rmc := rM_M_aboveOf) (q0 := 0) h (fun _ _ hf => cM_M_aboveOf (jl K) D ad cA N v1 v3 σ _ _ hf) (gd_V q_5_118 q_5_120 q_s_35 q_1_12 q_5_121) rfl ⟨rfl, rfl⟩ dd_M_aboveOf ⟨Nat.le_of_ble_eq_true rfl, Nat.le_of_ble_eq_true rfl⟩ rfl rfl (wM_0 ad cA σ) rfl rfl (Nat.le_of_ble_eq_true rfl) ⟨Nat.zero_le _, Nat.zero_le _⟩ d_M_holdArguments_25 (fun r2 σ3 => ?_)
        refine J_istore (lv' := [(4, .int r2), (0, .ref (ad 0)), (1, .int v1), (2, .int v2), (3, .int v3)]) h d_M_holdArguments_28 (by decide) rfl ?_
        refine J_iload (q := 0) h d_M_holdArguments_30 rfl ?_
        refine J_iconst (v := (-1)) h d_M_holdArguments_32 (by decide) ?_
        refine J_icmp_ne (tgt := 40) h d_M_holdArguments_33 (by decide) ?_ ?_
        · refine J_iconst (v := (-1)) h d_M_holdArguments_36 (by decide) ?_
          refine J_goto (tgt := 46) h d_M_holdArguments_37 (by decide) ?_
          refine J_sub [1, 2, 3, 4, 0] rfl ?_
          exact J_M_M_holdArguments_b46 K D A ad cA N h (M_M_holdArguments_L2 N  n) ih v1 v2 v3 r2 (-1) σ3
        · refine J_aload_n (q := 1) h d_M_holdArguments_40 rfl rfl ?_
          refine J_iload_n (q := 3) h d_M_holdArguments_41 rfl rfl ?_
          refine J_iload_n (q := 4) h d_M_holdArguments_42 rfl rfl ?_
          refine J_callVi (As := [.int v2, .int v3]) (st := []) (rmc := rM_M_aboveOf) (q0 := 0) h (fun _ _ hf => cM_M_aboveOf (jl K) D ad cA N v2 v3 σ3 _ _ hf) (gd_V q_5_118 q_5_120 q_s_35 q_1_12 q_5_121) rfl ⟨rfl, rfl⟩ dd_M_aboveOf ⟨Nat.le_of_ble_eq_true rfl, Nat.le_of_ble_eq_true rfl⟩ rfl rfl (wM_0 ad cA σ3) rfl rfl (Nat.le_of_ble_eq_true rfl) ⟨Nat.zero_le _, Nat.zero_le _⟩ d_M_holdArguments_43 (fun r7 σ8 => ?_)
          refine J_sub [1, 2, 3, 4, 0] rfl ?_
          exact J_M_M_holdArguments_b46 K D A ad cA N h (M_M_holdArguments_L2 N  n) ih v1 v2 v3 r2 r7 σ8
def M_M_holdArguments (N : Nat) (x1 : Int32) (x2 : Int32) (σ : SM) : Option (Int32 × SM) := (M_M_holdArguments_L2 N N x1 x2 0 σ)
set_option maxRecDepth 100000 in
set_option maxHeartbeats 4000000 in
theorem J_M_M_holdArguments (K : jx_E) (D : va_G) (A : Nat → Prop) (ad : Nat → Nat) (cA : Nat → ClassId) (N : Nat) (h : jx_ok K D clM (tysM cA) A 9 b_M_holdArguments y_M_holdArguments.cls ((Cond.code y_M_holdArguments b_M_holdArguments 9 (some .boolean)) :: tblG) rM_M_holdArguments (some .boolean)) : ∀ (x1 : Int32) (x2 : Int32) (σ : SM), J K D clM A 9 (wM ad cA) (jx_Qi K D clM (tysM cA) (wM ad cA) A) 0 0 0 [(0, .ref (ad 0)), (1, .int x1), (2, .int x2)] [] σ (M_M_holdArguments N x1 x2 σ) := by
  intro x1 x2 σ
  rw [M_M_holdArguments]
  refine J_iconst (v := 0) h d_M_holdArguments_0 (by decide) ?_
  refine J_istore_n (lv' := [(3, .int 0), (0, .ref (ad 0)), (1, .int x1), (2, .int x2)]) h d_M_holdArguments_1 rfl (by decide) rfl ?_
  refine J_sub [1, 2, 3, 0] rfl ?_
  exact J_M_M_holdArguments_L2 K D A ad cA N h N x1 x2 0 σ
set_option maxRecDepth 100000 in
theorem cM_M_holdArguments (l : Launch) (D : va_G) (ad : Nat → Nat) (cA : Nat → ClassId) (N : Nat) (x1 : Int32) (x2 : Int32) (σ : SM) (r : Int32) (σ' : SM) (hf : M_M_holdArguments N x1 x2 σ = some (r, σ')) : MetI l y_M_holdArguments ((Cond.code y_M_holdArguments b_M_holdArguments 9 (some .boolean)) :: tblG) rM_M_holdArguments D clM (tysM cA) (wM ad cA) [.ref (ad 0), .int x1, .int x2] σ r σ' :=
  jx_metI (by decide) rfl (Nat.le_of_ble_eq_true rfl) (fun K A h => J_M_M_holdArguments K D A ad cA N h x1 x2 σ) hf
def rM_M_holdBoth : Room := { frames := 8, cells := 0, slots := 0, locals := 205 }
theorem rm_ok_M_M_holdBoth : rM_M_holdBoth.cells = 0 ∧ rM_M_holdBoth.slots = 0 := ⟨rfl, rfl⟩
def M_M_holdBoth_b167 (N : Nat) (v3 : Int32) (v4 : Int32) (v5 : Int32) (v6 : Int32) (v7 : Int32) (σ : SM) : Option (Int32 × SM) := (if v6 = 1 then (if v7 = 1 then (if v3 = 0 then (some (1, σ)) else (bd (M_M_holdArguments N v4 v5 σ) (fun (r13 : Int32) (σ14 : SM) => (if r13 = 0 then (some (0, σ14)) else (some (1, σ14)))))) else (some (1, σ))) else (some (1, σ)))
set_option maxRecDepth 100000 in
set_option maxHeartbeats 4000000 in
theorem J_M_M_holdBoth_b167 (K : jx_E) (D : va_G) (A : Nat → Prop) (ad : Nat → Nat) (cA : Nat → ClassId) (N : Nat) (h : jx_ok K D clM (tysM cA) A 8 b_M_holdBoth y_M_holdBoth.cls ((Cond.code y_M_holdBoth b_M_holdBoth 8 (some .boolean)) :: tblG) rM_M_holdBoth (some .boolean)) : ∀ (v3 : Int32) (v4 : Int32) (v5 : Int32) (v6 : Int32) (v7 : Int32) (σ : SM), J K D clM A 8 (wM ad cA) (jx_Qi K D clM (tysM cA) (wM ad cA) A) 0 0 167 [(0, .ref (ad 0)), (3, .int v3), (4, .int v4), (5, .int v5), (6, .int v6), (7, .int v7)] [] σ (M_M_holdBoth_b167 N v3 v4 v5 v6 v7 σ) := by
  intro v3 v4 v5 v6 v7 σ
  rw [M_M_holdBoth_b167]
  refine J_iload (q := 4) h d_M_holdBoth_167 rfl ?_
  refine J_iconst (v := 1) h d_M_holdBoth_169 (by decide) ?_
  refine J_icmp_ne (tgt := 194) h d_M_holdBoth_170 (by decide) ?_ ?_
  · refine J_iload (q := 5) h d_M_holdBoth_173 rfl ?_
    refine J_iconst (v := 1) h d_M_holdBoth_175 (by decide) ?_
    refine J_icmp_ne (tgt := 194) h d_M_holdBoth_176 (by decide) ?_ ?_
    · refine J_iload_n (q := 1) h d_M_holdBoth_179 rfl rfl ?_
      refine J_if_eq (tgt := 194) h d_M_holdBoth_180 (by decide) ?_ ?_
      · refine J_iconst (v := 1) h d_M_holdBoth_194 (by decide) ?_
        refine J_goto (tgt := 199) h d_M_holdBoth_195 (by decide) ?_
        exact J_zret h rfl (by decide) d_M_holdBoth_199
      · refine J_aload_n (q := 0) h d_M_holdBoth_183 rfl rfl ?_
        refine J_iload (q := 2) h d_M_holdBoth_184 rfl ?_
        refine J_iload (q := 3) h d_M_holdBoth_186 rfl ?_
        refine J_callVi (As := [.int v4, .int v5]) (st := []) (rmc := rM_M_holdArguments) (q0 := 0) h (fun _ _ hf => cM_M_holdArguments (jl K) D ad cA N v4 v5 σ _ _ hf) (gd_V q_5_213 q_5_215 q_s_57 q_1_12 q_5_216) rfl ⟨rfl, rfl⟩ dd_M_holdArguments ⟨Nat.le_of_ble_eq_true rfl, Nat.le_of_ble_eq_true rfl⟩ rfl rfl (wM_0 ad cA σ) rfl rfl (Nat.le_of_ble_eq_true rfl) ⟨Nat.zero_le _, Nat.zero_le _⟩ d_M_holdBoth_188 (fun r13 σ14 => ?_)
        refine J_if_eq (tgt := 198) h d_M_holdBoth_191 (by decide) ?_ ?_
        · refine J_iconst (v := 0) h d_M_holdBoth_198 (by decide) ?_
          exact J_zret h rfl (by decide) d_M_holdBoth_199
        · refine J_iconst (v := 1) h d_M_holdBoth_194 (by decide) ?_
          refine J_goto (tgt := 199) h d_M_holdBoth_195 (by decide) ?_
          exact J_zret h rfl (by decide) d_M_holdBoth_199
    · refine J_iconst (v := 1) h d_M_holdBoth_194 (by decide) ?_
      refine J_goto (tgt := 199) h d_M_holdBoth_195 (by decide) ?_
      exact J_zret h rfl (by decide) d_M_holdBoth_199
  · refine J_iconst (v := 1) h d_M_holdBoth_194 (by decide) ?_
    refine J_goto (tgt := 199) h d_M_holdBoth_195 (by decide) ?_
    exact J_zret h rfl (by decide) d_M_holdBoth_199
def M_M_holdBoth_b130 (N : Nat) (v3 : Int32) (v4 : Int32) (v5 : Int32) (v6 : Int32) (v7 : Int32) (σ : SM) : Option (Int32 × SM) := (if v6 = 0 then (bd (M_M_less N 1 v5 v4 σ) (fun (r9 : Int32) (σ10 : SM) => (if zb r9 = true then some (r9, σ10) else none))) else (if v6 = 2 then (if v7 = 1 then (bd (M_M_less N 1 v4 v5 σ) (fun (r11 : Int32) (σ12 : SM) => (if zb r11 = true then some (r11, σ12) else none))) else (M_M_holdBoth_b167 N v3 v4 v5 v6 v7 σ)) else (M_M_holdBoth_b167 N v3 v4 v5 v6 v7 σ)))
set_option maxRecDepth 100000 in
set_option maxHeartbeats 4000000 in
theorem J_M_M_holdBoth_b130 (K : jx_E) (D : va_G) (A : Nat → Prop) (ad : Nat → Nat) (cA : Nat → ClassId) (N : Nat) (h : jx_ok K D clM (tysM cA) A 8 b_M_holdBoth y_M_holdBoth.cls ((Cond.code y_M_holdBoth b_M_holdBoth 8 (some .boolean)) :: tblG) rM_M_holdBoth (some .boolean)) : ∀ (v3 : Int32) (v4 : Int32) (v5 : Int32) (v6 : Int32) (v7 : Int32) (σ : SM), J K D clM A 8 (wM ad cA) (jx_Qi K D clM (tysM cA) (wM ad cA) A) 0 0 130 [(0, .ref (ad 0)), (3, .int v3), (4, .int v4), (5, .int v5), (6, .int v6), (7, .int v7)] [] σ (M_M_holdBoth_b130 N v3 v4 v5 v6 v7 σ) := by
  intro v3 v4 v5 v6 v7 σ
  rw [M_M_holdBoth_b130]
  refine J_iload (q := 4) h d_M_holdBoth_130 rfl ?_
  refine J_if_ne (tgt := 145) h d_M_holdBoth_132 (by decide) ?_ ?_
  · refine J_aload_n (q := 0) h d_M_holdBoth_135 rfl rfl ?_
    refine J_iconst (v := 1) h d_M_holdBoth_136 (by decide) ?_
    refine J_iload (q := 3) h d_M_holdBoth_137 rfl ?_
    refine J_iload (q := 2) h d_M_holdBoth_139 rfl ?_
    refine J_callVi (As := [.int 1, .int v5, .int v4]) (st := []) (rmc := rM_M_less) (q0 := 0) h (fun _ _ hf => cM_M_less (jl K) D ad cA N 1 v5 v4 σ _ _ hf) (gd_V q_5_154 q_5_156 q_s_43 q_1_12 q_5_157) rfl ⟨rfl, rfl⟩ dd_M_less ⟨Nat.le_of_ble_eq_true rfl, Nat.le_of_ble_eq_true rfl⟩ rfl rfl (wM_0 ad cA σ) rfl rfl (Nat.le_of_ble_eq_true rfl) ⟨Nat.zero_le _, Nat.zero_le _⟩ d_M_holdBoth_141 (fun r9 σ10 => ?_)
    exact J_zretc h rfl d_M_holdBoth_144
  · refine J_iload (q := 4) h d_M_holdBoth_145 rfl ?_
    refine J_iconst (v := 2) h d_M_holdBoth_147 (by decide) ?_
    refine J_icmp_ne (tgt := 167) h d_M_holdBoth_148 (by decide) ?_ ?_
    · refine J_iload (q := 5) h d_M_holdBoth_151 rfl ?_
      refine J_iconst (v := 1) h d_M_holdBoth_153 (by decide) ?_
      refine J_icmp_ne (tgt := 167) h d_M_holdBoth_154 (by decide) ?_ ?_
      · refine J_aload_n (q := 0) h d_M_holdBoth_157 rfl rfl ?_
        refine J_iconst (v := 1) h d_M_holdBoth_158 (by decide) ?_
        refine J_iload (q := 2) h d_M_holdBoth_159 rfl ?_
        refine J_iload (q := 3) h d_M_holdBoth_161 rfl ?_
        refine J_callVi (As := [.int 1, .int v4, .int v5]) (st := []) (rmc := rM_M_less) (q0 := 0) h (fun _ _ hf => cM_M_less (jl K) D ad cA N 1 v4 v5 σ _ _ hf) (gd_V q_5_154 q_5_156 q_s_43 q_1_12 q_5_157) rfl ⟨rfl, rfl⟩ dd_M_less ⟨Nat.le_of_ble_eq_true rfl, Nat.le_of_ble_eq_true rfl⟩ rfl rfl (wM_0 ad cA σ) rfl rfl (Nat.le_of_ble_eq_true rfl) ⟨Nat.zero_le _, Nat.zero_le _⟩ d_M_holdBoth_163 (fun r11 σ12 => ?_)
        exact J_zretc h rfl d_M_holdBoth_166
      · exact J_M_M_holdBoth_b167 K D A ad cA N h v3 v4 v5 v6 v7 σ
    · exact J_M_M_holdBoth_b167 K D A ad cA N h v3 v4 v5 v6 v7 σ
def M_M_holdBoth_b109 (N : Nat) (v3 : Int32) (v4 : Int32) (v5 : Int32) (v6 : Int32) (v7 : Int32) (σ : SM) : Option (Int32 × SM) := (if v6 = 0 then (if v7 = 1 then (bd (M_M_less N 1 v4 v5 σ) (fun (r7 : Int32) (σ8 : SM) => (if zb r7 = true then some (r7, σ8) else none))) else (M_M_holdBoth_b130 N v3 v4 v5 v6 v7 σ)) else (M_M_holdBoth_b130 N v3 v4 v5 v6 v7 σ))
set_option maxRecDepth 100000 in
set_option maxHeartbeats 4000000 in
theorem J_M_M_holdBoth_b109 (K : jx_E) (D : va_G) (A : Nat → Prop) (ad : Nat → Nat) (cA : Nat → ClassId) (N : Nat) (h : jx_ok K D clM (tysM cA) A 8 b_M_holdBoth y_M_holdBoth.cls ((Cond.code y_M_holdBoth b_M_holdBoth 8 (some .boolean)) :: tblG) rM_M_holdBoth (some .boolean)) : ∀ (v3 : Int32) (v4 : Int32) (v5 : Int32) (v6 : Int32) (v7 : Int32) (σ : SM), J K D clM A 8 (wM ad cA) (jx_Qi K D clM (tysM cA) (wM ad cA) A) 0 0 109 [(0, .ref (ad 0)), (3, .int v3), (4, .int v4), (5, .int v5), (6, .int v6), (7, .int v7)] [] σ (M_M_holdBoth_b109 N v3 v4 v5 v6 v7 σ) := by
  intro v3 v4 v5 v6 v7 σ
  rw [M_M_holdBoth_b109]
  refine J_iload (q := 4) h d_M_holdBoth_109 rfl ?_
  refine J_if_ne (tgt := 130) h d_M_holdBoth_111 (by decide) ?_ ?_
  · refine J_iload (q := 5) h d_M_holdBoth_114 rfl ?_
    refine J_iconst (v := 1) h d_M_holdBoth_116 (by decide) ?_
    refine J_icmp_ne (tgt := 130) h d_M_holdBoth_117 (by decide) ?_ ?_
    · refine J_aload_n (q := 0) h d_M_holdBoth_120 rfl rfl ?_
      refine J_iconst (v := 1) h d_M_holdBoth_121 (by decide) ?_
      refine J_iload (q := 2) h d_M_holdBoth_122 rfl ?_
      refine J_iload (q := 3) h d_M_holdBoth_124 rfl ?_
      refine J_callVi (As := [.int 1, .int v4, .int v5]) (st := []) (rmc := rM_M_less) (q0 := 0) h (fun _ _ hf => cM_M_less (jl K) D ad cA N 1 v4 v5 σ _ _ hf) (gd_V q_5_154 q_5_156 q_s_43 q_1_12 q_5_157) rfl ⟨rfl, rfl⟩ dd_M_less ⟨Nat.le_of_ble_eq_true rfl, Nat.le_of_ble_eq_true rfl⟩ rfl rfl (wM_0 ad cA σ) rfl rfl (Nat.le_of_ble_eq_true rfl) ⟨Nat.zero_le _, Nat.zero_le _⟩ d_M_holdBoth_126 (fun r7 σ8 => ?_)
      exact J_zretc h rfl d_M_holdBoth_129
    · exact J_M_M_holdBoth_b130 K D A ad cA N h v3 v4 v5 v6 v7 σ
  · exact J_M_M_holdBoth_b130 K D A ad cA N h v3 v4 v5 v6 v7 σ
def M_M_holdBoth (N : Nat) (x1 : Int32) (x2 : Int32) (x3 : Int32) (σ : SM) : Option (Int32 × SM) := (if ck x1 200 = true then (nm ((aM_M_boundType σ x1.toNatClampNeg)) (fun (y1 : Int32) => (if ck x2 200 = true then (nm ((aM_M_boundType σ x2.toNatClampNeg)) (fun (y2 : Int32) => (if ck x1 200 = true then (nm ((aM_M_boundSort σ x1.toNatClampNeg)) (fun (y3 : Int32) => (if ck x2 200 = true then (nm ((aM_M_boundSort σ x2.toNatClampNeg)) (fun (y4 : Int32) => (if ck x1 200 = true then (if ck x2 200 = true then (if (aM_M_boundOf σ x1.toNatClampNeg) = (aM_M_boundOf σ x2.toNatClampNeg) then (if y3 = 0 then (if y4 = 0 then (if x3 = 0 then (some (1, σ)) else (bd (M_M_less N 3 y1 y2 σ) (fun (r5 : Int32) (σ6 : SM) => (if r5 = 0 then (some (0, σ6)) else (some (1, σ6)))))) else (M_M_holdBoth_b109 N x3 y1 y2 y3 y4 σ)) else (M_M_holdBoth_b109 N x3 y1 y2 y3 y4 σ)) else (if y3 = 0 then (if ck y1 500 = true then (if (aM_M_proper σ y1.toNatClampNeg) = 0 then (some (1, σ)) else (bd (M_M_holdIn N x1 x2 σ) (fun (r15 : Int32) (σ16 : SM) => (if r15 = 0 then (some (0, σ16)) else (some (1, σ16)))))) else none) else (some (1, σ)))) else none) else none))) else none))) else none))) else none))) else none)
set_option maxRecDepth 100000 in
set_option maxHeartbeats 4000000 in
theorem J_M_M_holdBoth (K : jx_E) (D : va_G) (A : Nat → Prop) (ad : Nat → Nat) (cA : Nat → ClassId) (N : Nat) (h : jx_ok K D clM (tysM cA) A 8 b_M_holdBoth y_M_holdBoth.cls ((Cond.code y_M_holdBoth b_M_holdBoth 8 (some .boolean)) :: tblG) rM_M_holdBoth (some .boolean)) : ∀ (x1 : Int32) (x2 : Int32) (x3 : Int32) (σ : SM), J K D clM A 8 (wM ad cA) (jx_Qi K D clM (tysM cA) (wM ad cA) A) 0 0 0 [(0, .ref (ad 0)), (1, .int x1), (2, .int x2), (3, .int x3)] [] σ (M_M_holdBoth N x1 x2 x3 σ) := by
  intro x1 x2 x3 σ
  rw [M_M_holdBoth]
  refine J_aload_n (q := 0) h d_M_holdBoth_0 rfl rfl ?_
  refine J_getf h 0 (wM_0 ad cA σ) (tb_ups in_M) rfl 47 (by decide) (tb_up q_4_129) rfl d_M_holdBoth_1 ?_
  refine J_iload_n (q := 1) h d_M_holdBoth_4 rfl rfl ?_
  refine J_iald h 32 31 (wM_32 ad cA σ) rfl d_M_holdBoth_5 ?_
  refine J_nmi (fun y1 => ?_)
  refine J_istore (lv' := [(4, .int y1), (0, .ref (ad 0)), (1, .int x1), (2, .int x2), (3, .int x3)]) h d_M_holdBoth_6 (by decide) rfl ?_
  refine J_aload_n (q := 1) h d_M_holdBoth_8 rfl rfl ?_
  refine J_getf h 0 (wM_0 ad cA σ) (tb_ups in_M) rfl 47 (by decide) (tb_up q_4_129) rfl d_M_holdBoth_9 ?_
  refine J_iload_n (q := 3) h d_M_holdBoth_12 rfl rfl ?_
  refine J_iald h 32 31 (wM_32 ad cA σ) rfl d_M_holdBoth_13 ?_
  refine J_nmi (fun y2 => ?_)
  refine J_istore (lv' := [(5, .int y2), (4, .int y1), (0, .ref (ad 0)), (1, .int x1), (2, .int x2), (3, .int x3)]) h d_M_holdBoth_14 (by decide) rfl ?_
  refine J_aload_n (q := 2) h d_M_holdBoth_16 rfl rfl ?_
  refine J_getf h 0 (wM_0 ad cA σ) (tb_ups in_M) rfl 45 (by decide) (tb_up q_4_127) rfl d_M_holdBoth_17 ?_
  refine J_iload_n (q := 3) h d_M_holdBoth_20 rfl rfl ?_
  refine J_iald h 30 29 (wM_30 ad cA σ) rfl d_M_holdBoth_21 ?_
  refine J_nmi (fun y3 => ?_)
  refine J_istore (lv' := [(6, .int y3), (5, .int y2), (4, .int y1), (0, .ref (ad 0)), (1, .int x1), (2, .int x2), (3, .int x3)]) h d_M_holdBoth_22 (by decide) rfl ?_
  refine J_aload_n (q := 3) h d_M_holdBoth_24 rfl rfl ?_
  refine J_getf h 0 (wM_0 ad cA σ) (tb_ups in_M) rfl 45 (by decide) (tb_up q_4_127) rfl d_M_holdBoth_25 ?_
  refine J_iload_n (q := 5) h d_M_holdBoth_28 rfl rfl ?_
  refine J_iald h 30 29 (wM_30 ad cA σ) rfl d_M_holdBoth_29 ?_
  refine J_nmi (fun y4 => ?_)
  refine J_istore (lv' := [(7, .int y4), (6, .int y3), (5, .int y2), (4, .int y1), (0, .ref (ad 0)), (1, .int x1), (2, .int x2), (3, .int x3)]) h d_M_holdBoth_30 (by decide) rfl ?_
  refine J_aload_n (q := 4) h d_M_holdBoth_32 rfl rfl ?_
  refine J_getf h 0 (wM_0 ad cA σ) (tb_ups in_M) rfl 46 (by decide) (tb_up q_4_128) rfl d_M_holdBoth_33 ?_
  refine J_iload_n (q := 5) h d_M_holdBoth_36 rfl rfl ?_
  refine J_iald h 31 30 (wM_31 ad cA σ) rfl d_M_holdBoth_37 ?_
  refine J_aload_n (q := 4) h d_M_holdBoth_38 rfl rfl ?_
  refine J_getf h 0 (wM_0 ad cA σ) (tb_ups in_M) rfl 46 (by decide) (tb_up q_4_128) rfl d_M_holdBoth_39 ?_
  refine J_iload_n (q := 6) h d_M_holdBoth_42 rfl rfl ?_
  refine J_iald h 31 30 (wM_31 ad cA σ) rfl d_M_holdBoth_43 ?_
  refine J_icmp_eq (tgt := 77) h d_M_holdBoth_44 (by decide) ?_ ?_
  · refine J_iload (q := 1) h d_M_holdBoth_77 rfl ?_
    refine J_if_ne (tgt := 109) h d_M_holdBoth_79 (by decide) ?_ ?_
    · refine J_iload (q := 0) h d_M_holdBoth_82 rfl ?_
      refine J_if_ne (tgt := 109) h d_M_holdBoth_84 (by decide) ?_ ?_
      · refine J_iload_n (q := 7) h d_M_holdBoth_87 rfl rfl ?_
        refine J_if_eq (tgt := 103) h d_M_holdBoth_88 (by decide) ?_ ?_
        · refine J_iconst (v := 1) h d_M_holdBoth_103 (by decide) ?_
          refine J_goto (tgt := 108) h d_M_holdBoth_104 (by decide) ?_
          exact J_zret h rfl (by decide) d_M_holdBoth_108
        · refine J_aload_n (q := 4) h d_M_holdBoth_91 rfl rfl ?_
          refine J_iconst (v := 3) h d_M_holdBoth_92 (by decide) ?_
          refine J_iload (q := 3) h d_M_holdBoth_93 rfl ?_
          refine J_iload (q := 2) h d_M_holdBoth_95 rfl ?_
          refine J_callVi (As := [.int 3, .int y1, .int y2]) (st := []) (rmc := rM_M_less) (q0 := 0) h (fun _ _ hf => cM_M_less (jl K) D ad cA N 3 y1 y2 σ _ _ hf) (gd_V q_5_154 q_5_156 q_s_43 q_1_12 q_5_157) rfl ⟨rfl, rfl⟩ dd_M_less ⟨Nat.le_of_ble_eq_true rfl, Nat.le_of_ble_eq_true rfl⟩ rfl rfl (wM_0 ad cA σ) rfl rfl (Nat.le_of_ble_eq_true rfl) ⟨Nat.zero_le _, Nat.zero_le _⟩ d_M_holdBoth_97 (fun r5 σ6 => ?_)
          refine J_if_eq (tgt := 107) h d_M_holdBoth_100 (by decide) ?_ ?_
          · refine J_iconst (v := 0) h d_M_holdBoth_107 (by decide) ?_
            exact J_zret h rfl (by decide) d_M_holdBoth_108
          · refine J_iconst (v := 1) h d_M_holdBoth_103 (by decide) ?_
            refine J_goto (tgt := 108) h d_M_holdBoth_104 (by decide) ?_
            exact J_zret h rfl (by decide) d_M_holdBoth_108
      · refine J_sub [4, 7, 3, 2, 1, 0] rfl ?_
        exact J_M_M_holdBoth_b109 K D A ad cA N h x3 y1 y2 y3 y4 σ
    · refine J_sub [4, 7, 3, 2, 1, 0] rfl ?_
      exact J_M_M_holdBoth_b109 K D A ad cA N h x3 y1 y2 y3 y4 σ
  · refine J_iload (q := 1) h d_M_holdBoth_47 rfl ?_
    refine J_if_ne (tgt := 71) h d_M_holdBoth_49 (by decide) ?_ ?_
    · refine J_aload_n (q := 4) h d_M_holdBoth_52 rfl rfl ?_
      refine J_getf h 0 (wM_0 ad cA σ) (tb_ups in_M) rfl 10 (by decide) (tb_up q_4_92) rfl d_M_holdBoth_53 ?_
      refine J_iload (q := 3) h d_M_holdBoth_56 rfl ?_
      refine J_zald h 10 9 (wM_10 ad cA σ) rfl d_M_holdBoth_58 ?_
      refine J_if_eq (tgt := 71) h d_M_holdBoth_59 (by decide) ?_ ?_
      · refine J_iconst (v := 1) h d_M_holdBoth_71 (by decide) ?_
        refine J_goto (tgt := 76) h d_M_holdBoth_72 (by decide) ?_
        exact J_zret h rfl (by decide) d_M_holdBoth_76
      · refine J_aload_n (q := 4) h d_M_holdBoth_62 rfl rfl ?_
        refine J_iload_n (q := 5) h d_M_holdBoth_63 rfl rfl ?_
        refine J_iload_n (q := 6) h d_M_holdBoth_64 rfl rfl ?_
        refine J_callVi (As := [.int x1, .int x2]) (st := []) (rmc := rM_M_holdIn) (q0 := 0) h (fun _ _ hf => cM_M_holdIn (jl K) D ad cA N x1 x2 σ _ _ hf) (gd_V q_5_209 q_5_211 q_s_56 q_1_12 q_5_212) rfl ⟨rfl, rfl⟩ dd_M_holdIn ⟨Nat.le_of_ble_eq_true rfl, Nat.le_of_ble_eq_true rfl⟩ rfl rfl (wM_0 ad cA σ) rfl rfl (Nat.le_of_ble_eq_true rfl) ⟨Nat.zero_le _, Nat.zero_le _⟩ d_M_holdBoth_65 (fun r15 σ16 => ?_)
        refine J_if_eq (tgt := 75) h d_M_holdBoth_68 (by decide) ?_ ?_
        · refine J_iconst (v := 0) h d_M_holdBoth_75 (by decide) ?_
          exact J_zret h rfl (by decide) d_M_holdBoth_76
        · refine J_iconst (v := 1) h d_M_holdBoth_71 (by decide) ?_
          refine J_goto (tgt := 76) h d_M_holdBoth_72 (by decide) ?_
          exact J_zret h rfl (by decide) d_M_holdBoth_76
    · refine J_iconst (v := 1) h d_M_holdBoth_71 (by decide) ?_
      refine J_goto (tgt := 76) h d_M_holdBoth_72 (by decide) ?_
      exact J_zret h rfl (by decide) d_M_holdBoth_76
set_option maxRecDepth 100000 in
theorem cM_M_holdBoth (l : Launch) (D : va_G) (ad : Nat → Nat) (cA : Nat → ClassId) (N : Nat) (x1 : Int32) (x2 : Int32) (x3 : Int32) (σ : SM) (r : Int32) (σ' : SM) (hf : M_M_holdBoth N x1 x2 x3 σ = some (r, σ')) : MetI l y_M_holdBoth ((Cond.code y_M_holdBoth b_M_holdBoth 8 (some .boolean)) :: tblG) rM_M_holdBoth D clM (tysM cA) (wM ad cA) [.ref (ad 0), .int x1, .int x2, .int x3] σ r σ' :=
  jx_metI (by decide) rfl (Nat.le_of_ble_eq_true rfl) (fun K A h => J_M_M_holdBoth K D A ad cA N h x1 x2 x3 σ) hf
def rM_M_hold : Room := { frames := 9, cells := 0, slots := 0, locals := 232 }
theorem rm_ok_M_M_hold : rM_M_hold.cells = 0 ∧ rM_M_hold.slots = 0 := ⟨rfl, rfl⟩
def M_M_hold_L28 (N : Nat) (k61 : SM → Option (Int32 × SM)) : Nat → Int32 → Int32 → SM → Option (Int32 × SM)
  | 0, _, _, _ => none
  | n + 1, v1, v2, σ => (if v1 ≤ v2 then (k61  σ) else (bd (M_M_holdBoth N v2 v1 1 σ) (fun (r3 : Int32) (σ4 : SM) => (if r3 = 0 then (some (0, σ4)) else (bd (M_M_holdBoth N v1 v2 0 σ4) (fun (r5 : Int32) (σ6 : SM) => (if r5 = 0 then (some (0, σ6)) else (nm (v2 + 1) (fun (y7 : Int32) => (M_M_hold_L28 N k61 n v1 y7 σ6))))))))))
set_option maxRecDepth 100000 in
set_option maxHeartbeats 4000000 in
theorem J_M_M_hold_L28 (K : jx_E) (D : va_G) (A : Nat → Prop) (ad : Nat → Nat) (cA : Nat → ClassId) (N : Nat) (h : jx_ok K D clM (tysM cA) A 3 b_M_hold y_M_hold.cls ((Cond.code y_M_hold b_M_hold 3 (some .boolean)) :: tblG) rM_M_hold (some .boolean)) (k61 : SM → Option (Int32 × SM)) (hk61 : ∀  (σ : SM), J K D clM A 3 (wM ad cA) (jx_Qi K D clM (tysM cA) (wM ad cA) A) 0 0 61 [(0, .ref (ad 0))] [] σ (k61  σ)) : ∀ (n : Nat) (v1 : Int32) (v2 : Int32) (σ : SM), J K D clM A 3 (wM ad cA) (jx_Qi K D clM (tysM cA) (wM ad cA) A) 0 0 28 [(0, .ref (ad 0)), (1, .int v1), (2, .int v2)] [] σ (M_M_hold_L28 N k61 n v1 v2 σ) := by
  intro n
  induction n with
  | zero => intro v1 v2 σ; exact J_none
  | succ n ih =>
    intro v1 v2 σ
    rw [M_M_hold_L28]
    refine J_iload_n (q := 2) h d_M_hold_28 rfl rfl ?_
    refine J_iload_n (q := 1) h d_M_hold_29 rfl rfl ?_
    refine J_icmp_ge (tgt := 61) h d_M_hold_30 (by decide) ?_ ?_
    · refine J_sub [0] rfl ?_
      exact hk61  σ
    · refine J_aload_n (q := 0) h d_M_hold_33 rfl rfl ?_
      refine J_iload_n (q := 2) h d_M_hold_34 rfl rfl ?_
      refine J_iload_n (q := 1) h d_M_hold_35 rfl rfl ?_
      refine J_iconst (v := 1) h d_M_hold_36 (by decide) ?_
      refine J_callVi (As := [.int v2, .int v1, .int 1]) (st := []) (rmc := rM_M_holdBoth) (q0 := 0) h (fun _ _ hf => cM_M_holdBoth (jl K) D ad cA N v2 v1 1 σ _ _ hf) (gd_V q_5_205 q_5_207 q_s_55 q_1_12 q_5_208) rfl ⟨rfl, rfl⟩ dd_M_holdBoth ⟨Nat.le_of_ble_eq_true rfl, Nat.le_of_ble_eq_true rfl⟩ rfl rfl (wM_0 ad cA σ) rfl rfl (Nat.le_of_ble_eq_true rfl) ⟨Nat.zero_le _, Nat.zero_le _⟩ d_M_hold_37 (fun r3 σ4 => ?_)
      refine J_if_eq (tgt := 53) h d_M_hold_40 (by decide) ?_ ?_
      · refine J_iconst (v := 0) h d_M_hold_53 (by decide) ?_
        exact J_zret h rfl (by decide) d_M_hold_54
      · refine J_aload_n (q := 0) h d_M_hold_43 rfl rfl ?_
        refine J_iload_n (q := 1) h d_M_hold_44 rfl rfl ?_
        refine J_iload_n (q := 2) h d_M_hold_45 rfl rfl ?_
        refine J_iconst (v := 0) h d_M_hold_46 (by decide) ?_
        refine J_callVi (As := [.int v1, .int v2, .int 0]) (st := []) (rmc := rM_M_holdBoth) (q0 := 0) h (fun _ _ hf => cM_M_holdBoth (jl K) D ad cA N v1 v2 0 σ4 _ _ hf) (gd_V q_5_205 q_5_207 q_s_55 q_1_12 q_5_208) rfl ⟨rfl, rfl⟩ dd_M_holdBoth ⟨Nat.le_of_ble_eq_true rfl, Nat.le_of_ble_eq_true rfl⟩ rfl rfl (wM_0 ad cA σ4) rfl rfl (Nat.le_of_ble_eq_true rfl) ⟨Nat.zero_le _, Nat.zero_le _⟩ d_M_hold_47 (fun r5 σ6 => ?_)
        refine J_if_ne (tgt := 55) h d_M_hold_50 (by decide) ?_ ?_
        · refine J_iconst (v := 0) h d_M_hold_53 (by decide) ?_
          exact J_zret h rfl (by decide) d_M_hold_54
        · refine J_iinc (q := 2) (c := 1) (lv' := fun y7 => [(2, .int y7), (0, .ref (ad 0)), (1, .int v1)]) h d_M_hold_55 rfl (by decide) (by decide) (fun _ => rfl) (fun y7 => ?_)
          refine J_goto (tgt := 28) h d_M_hold_58 (by decide) ?_
          refine J_sub [1, 2, 0] rfl ?_
          exact ih v1 y7 σ6
def M_M_hold_b61 (N : Nat) (k0 : SM → Option (Int32 × SM))  (σ : SM) : Option (Int32 × SM) := (k0  σ)
set_option maxRecDepth 100000 in
set_option maxHeartbeats 4000000 in
theorem J_M_M_hold_b61 (K : jx_E) (D : va_G) (A : Nat → Prop) (ad : Nat → Nat) (cA : Nat → ClassId) (N : Nat) (h : jx_ok K D clM (tysM cA) A 3 b_M_hold y_M_hold.cls ((Cond.code y_M_hold b_M_hold 3 (some .boolean)) :: tblG) rM_M_hold (some .boolean)) (k0 : SM → Option (Int32 × SM)) (hk0 : ∀  (σ : SM), J K D clM A 3 (wM ad cA) (jx_Qi K D clM (tysM cA) (wM ad cA) A) 0 0 0 [(0, .ref (ad 0))] [] σ (k0  σ)) : ∀  (σ : SM), J K D clM A 3 (wM ad cA) (jx_Qi K D clM (tysM cA) (wM ad cA) A) 0 0 61 [(0, .ref (ad 0))] [] σ (M_M_hold_b61 N k0  σ) := by
  intro  σ
  rw [M_M_hold_b61]
  refine J_goto (tgt := 0) h d_M_hold_61 (by decide) ?_
  exact hk0  σ
def M_M_hold_L0 (N : Nat) : Nat → SM → Option (Int32 × SM)
  | 0, _ => none
  | n + 1, σ => (if (gM_M_bounds σ) ≤ (gM_M_held σ) then (some (1, σ)) else (nm ((gM_M_held σ)) (fun (y1 : Int32) => (nm (sM_M_held σ ((gM_M_held σ) + 1)) (fun (σ2 : SM) => (M_M_hold_L28 N (M_M_hold_b61 N (M_M_hold_L0 N  n)) N y1 0 σ2))))))
set_option maxRecDepth 100000 in
set_option maxHeartbeats 4000000 in
theorem J_M_M_hold_L0 (K : jx_E) (D : va_G) (A : Nat → Prop) (ad : Nat → Nat) (cA : Nat → ClassId) (N : Nat) (h : jx_ok K D clM (tysM cA) A 3 b_M_hold y_M_hold.cls ((Cond.code y_M_hold b_M_hold 3 (some .boolean)) :: tblG) rM_M_hold (some .boolean)) : ∀ (n : Nat)  (σ : SM), J K D clM A 3 (wM ad cA) (jx_Qi K D clM (tysM cA) (wM ad cA) A) 0 0 0 [(0, .ref (ad 0))] [] σ (M_M_hold_L0 N n  σ) := by
  intro n
  induction n with
  | zero => intro  σ; exact J_none
  | succ n ih =>
    intro  σ
    rw [M_M_hold_L0]
    refine J_aload_n (q := 0) h d_M_hold_0 rfl rfl ?_
    refine J_getf h 0 (wM_0 ad cA σ) (tb_ups in_M) rfl 50 (by decide) (tb_up q_4_132) rfl d_M_hold_1 ?_
    refine J_aload_n (q := 0) h d_M_hold_4 rfl rfl ?_
    refine J_getf h 0 (wM_0 ad cA σ) (tb_ups in_M) rfl 49 (by decide) (tb_up q_4_131) rfl d_M_hold_5 ?_
    refine J_icmp_ge (tgt := 64) h d_M_hold_8 (by decide) ?_ ?_
    · refine J_iconst (v := 1) h d_M_hold_64 (by decide) ?_
      exact J_zret h rfl (by decide) d_M_hold_65
    · refine J_aload_n (q := 0) h d_M_hold_11 rfl rfl ?_
      refine J_getf h 0 (wM_0 ad cA σ) (tb_ups in_M) rfl 50 (by decide) (tb_up q_4_132) rfl d_M_hold_12 ?_
      refine J_nmi (fun y1 => ?_)
      refine J_istore_n (lv' := [(1, .int y1), (0, .ref (ad 0))]) h d_M_hold_15 rfl (by decide) rfl ?_
      refine J_aload_n (q := 1) h d_M_hold_16 rfl rfl ?_
      refine J_dup h d_M_hold_17 rfl ?_
      refine J_getf h 0 (wM_0 ad cA σ) (tb_ups in_M) rfl 50 (by decide) (tb_up q_4_132) rfl d_M_hold_18 ?_
      refine J_iconst (v := 1) h d_M_hold_21 (by decide) ?_
      refine J_iadd h d_M_hold_22 ?_
      refine J_putf h 0 (wM_0 ad cA σ) (tb_ups in_M) rfl ft_M ft_M_ok nm_M 50 (by decide) (tb_up q_4_132) rfl rfl rfl (Nat.le_of_ble_eq_true rfl) (pM_0_50 ad cA σ ((gM_M_held σ) + 1)) d_M_hold_23 (fun σ2 => ?_)
      refine J_iconst (v := 0) h d_M_hold_26 (by decide) ?_
      refine J_istore_n (lv' := [(2, .int 0), (1, .int y1), (0, .ref (ad 0))]) h d_M_hold_27 rfl (by decide) rfl ?_
      refine J_sub [2, 1, 0] rfl ?_
      exact J_M_M_hold_L28 K D A ad cA N h (M_M_hold_b61 N (M_M_hold_L0 N  n)) (J_M_M_hold_b61 K D A ad cA N h (M_M_hold_L0 N  n) ih) N y1 0 σ2
def M_M_hold (N : Nat)  (σ : SM) : Option (Int32 × SM) := (M_M_hold_L0 N N  σ)
set_option maxRecDepth 100000 in
set_option maxHeartbeats 4000000 in
theorem J_M_M_hold (K : jx_E) (D : va_G) (A : Nat → Prop) (ad : Nat → Nat) (cA : Nat → ClassId) (N : Nat) (h : jx_ok K D clM (tysM cA) A 3 b_M_hold y_M_hold.cls ((Cond.code y_M_hold b_M_hold 3 (some .boolean)) :: tblG) rM_M_hold (some .boolean)) : ∀  (σ : SM), J K D clM A 3 (wM ad cA) (jx_Qi K D clM (tysM cA) (wM ad cA) A) 0 0 0 [(0, .ref (ad 0))] [] σ (M_M_hold N  σ) := by
  intro  σ
  rw [M_M_hold]
  exact J_M_M_hold_L0 K D A ad cA N h N  σ
set_option maxRecDepth 100000 in
theorem cM_M_hold (l : Launch) (D : va_G) (ad : Nat → Nat) (cA : Nat → ClassId) (N : Nat)  (σ : SM) (r : Int32) (σ' : SM) (hf : M_M_hold N  σ = some (r, σ')) : MetI l y_M_hold ((Cond.code y_M_hold b_M_hold 3 (some .boolean)) :: tblG) rM_M_hold D clM (tysM cA) (wM ad cA) [.ref (ad 0)] σ r σ' :=
  jx_metI (by decide) rfl (Nat.le_of_ble_eq_true rfl) (fun K A h => J_M_M_hold K D A ad cA N h  σ) hf
