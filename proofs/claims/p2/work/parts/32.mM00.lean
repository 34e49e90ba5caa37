def rM_M_make : Room := { frames := 0, cells := 0, slots := 0, locals := 0 }
theorem rm_ok_M_M_make : rM_M_make.cells = 0 ∧ rM_M_make.slots = 0 := ⟨rfl, rfl⟩
def M_M_make_b69 (N : Nat) (k12 : Int32 → Int32 → Int32 → Int32 → Int32 → SM → Option (Int32 × SM)) (v1 : Int32) (v2 : Int32) (v3 : Int32) (v4 : Int32) (v5 : Int32) (σ : SM) : Option (Int32 × SM) := (nm (v5 + 1) (fun (y1 : Int32) => (k12 v1 v2 v3 v4 y1 σ)))
set_option maxRecDepth 100000 in
set_option maxHeartbeats 4000000 in
theorem J_M_M_make_b69 (K : jx_E) (D : va_G) (A : Nat → Prop) (ad : Nat → Nat) (cA : Nat → ClassId) (N : Nat) (h : jx_ok K D clM (tysM cA) A 7 b_M_make y_M_make.cls ((Cond.code y_M_make b_M_make 7 (some .int)) :: tblG) rM_M_make (some .int)) (k12 : Int32 → Int32 → Int32 → Int32 → Int32 → SM → Option (Int32 × SM)) (hk12 : ∀ (v1 : Int32) (v2 : Int32) (v3 : Int32) (v4 : Int32) (v5 : Int32) (σ : SM), J K D clM A 7 (wM ad cA) (jx_Qi K D clM (tysM cA) (wM ad cA) A) 0 0 12 [(0, .ref (ad 0)), (1, .int v1), (2, .int v2), (3, .int v3), (4, .int v4), (5, .int v5)] [] σ (k12 v1 v2 v3 v4 v5 σ)) : ∀ (v1 : Int32) (v2 : Int32) (v3 : Int32) (v4 : Int32) (v5 : Int32) (σ : SM), J K D clM A 7 (wM ad cA) (jx_Qi K D clM (tysM cA) (wM ad cA) A) 0 0 69 [(0, .ref (ad 0)), (1, .int v1), (2, .int v2), (3, .int v3), (4, .int v4), (5, .int v5)] [] σ (M_M_make_b69 N k12 v1 v2 v3 v4 v5 σ) := by
  intro v1 v2 v3 v4 v5 σ
  rw [M_M_make_b69]
  refine J_iinc (q := 5) (c := 1) (lv' := fun y1 => [(5, .int y1), (0, .ref (ad 0)), (1, .int v1), (2, .int v2), (3, .int v3), (4, .int v4)]) h d_M_make_69 rfl (by decide) (by decide) (fun _ => rfl) (fun y1 => ?_)
  refine J_goto (tgt := 12) h d_M_make_72 (by decide) ?_
  refine J_sub [1, 2, 3, 4, 5, 0] rfl ?_
  exact hk12 v1 v2 v3 v4 y1 σ
def M_M_make_L12 (N : Nat) (k75 : Int32 → Int32 → Int32 → Int32 → SM → Option (Int32 × SM)) : Nat → Int32 → Int32 → Int32 → Int32 → Int32 → SM → Option (Int32 × SM)
  | 0, _, _, _, _, _, _ => none
  | n + 1, v1, v2, v3, v4, v5, σ => (if (gM_M_types σ) ≤ v5 then (k75 v1 v2 v3 v4 σ) else (if ck v5 500 = true then (if (aM_M_kind σ v5.toNatClampNeg) = v1 then (if ck v5 500 = true then (if (aM_M_one σ v5.toNatClampNeg) = v2 then (if ck v5 500 = true then (if (aM_M_two σ v5.toNatClampNeg) = v3 then (if ck v5 500 = true then (if (aM_M_three σ v5.toNatClampNeg) = v4 then (some (v5, σ)) else (M_M_make_b69 N (M_M_make_L12 N k75 n) v1 v2 v3 v4 v5 σ)) else none) else (M_M_make_b69 N (M_M_make_L12 N k75 n) v1 v2 v3 v4 v5 σ)) else none) else (M_M_make_b69 N (M_M_make_L12 N k75 n) v1 v2 v3 v4 v5 σ)) else none) else (M_M_make_b69 N (M_M_make_L12 N k75 n) v1 v2 v3 v4 v5 σ)) else none))
set_option maxRecDepth 100000 in
set_option maxHeartbeats 4000000 in
theorem J_M_M_make_L12 (K : jx_E) (D : va_G) (A : Nat → Prop) (ad : Nat → Nat) (cA : Nat → ClassId) (N : Nat) (h : jx_ok K D clM (tysM cA) A 7 b_M_make y_M_make.cls ((Cond.code y_M_make b_M_make 7 (some .int)) :: tblG) rM_M_make (some .int)) (k75 : Int32 → Int32 → Int32 → Int32 → SM → Option (Int32 × SM)) (hk75 : ∀ (v1 : Int32) (v2 : Int32) (v3 : Int32) (v4 : Int32) (σ : SM), J K D clM A 7 (wM ad cA) (jx_Qi K D clM (tysM cA) (wM ad cA) A) 0 0 75 [(0, .ref (ad 0)), (1, .int v1), (2, .int v2), (3, .int v3), (4, .int v4)] [] σ (k75 v1 v2 v3 v4 σ)) : ∀ (n : Nat) (v1 : Int32) (v2 : Int32) (v3 : Int32) (v4 : Int32) (v5 : Int32) (σ : SM), J K D clM A 7 (wM ad cA) (jx_Qi K D clM (tysM cA) (wM ad cA) A) 0 0 12 [(0, .ref (ad 0)), (1, .int v1), (2, .int v2), (3, .int v3), (4, .int v4), (5, .int v5)] [] σ (M_M_make_L12 N k75 n v1 v2 v3 v4 v5 σ) := by
  intro n
  induction n with
  | zero => intro v1 v2 v3 v4 v5 σ; exact J_none
  | succ n ih =>
    intro v1 v2 v3 v4 v5 σ
    rw [M_M_make_L12]
    refine J_iload (q := 5) h d_M_make_12 rfl ?_
    refine J_aload_n (q := 0) h d_M_make_14 rfl rfl ?_
    refine J_getf h 0 (wM_0 ad cA σ) (tb_ups in_M) rfl 11 (by decide) (tb_up q_4_93) rfl d_M_make_15 ?_
    refine J_icmp_ge (tgt := 75) h d_M_make_18 (by decide) ?_ ?_
    · refine J_sub [0, 1, 2, 3, 4] rfl ?_
      exact hk75 v1 v2 v3 v4 σ
    · refine J_aload_n (q := 0) h d_M_make_21 rfl rfl ?_
      refine J_getf h 0 (wM_0 ad cA σ) (tb_ups in_M) rfl 5 (by decide) (tb_up q_4_87) rfl d_M_make_22 ?_
      refine J_iload (q := 5) h d_M_make_25 rfl ?_
      refine J_iald h 5 4 (wM_5 ad cA σ) rfl d_M_make_27 ?_
      refine J_iload_n (q := 1) h d_M_make_28 rfl rfl ?_
      refine J_icmp_ne (tgt := 69) h d_M_make_29 (by decide) ?_ ?_
      · refine J_aload_n (q := 0) h d_M_make_32 rfl rfl ?_
        refine J_getf h 0 (wM_0 ad cA σ) (tb_ups in_M) rfl 6 (by decide) (tb_up q_4_88) rfl d_M_make_33 ?_
        refine J_iload (q := 5) h d_M_make_36 rfl ?_
        refine J_iald h 6 5 (wM_6 ad cA σ) rfl d_M_make_38 ?_
        refine J_iload_n (q := 2) h d_M_make_39 rfl rfl ?_
        refine J_icmp_ne (tgt := 69) h d_M_make_40 (by decide) ?_ ?_
        · refine J_aload_n (q := 0) h d_M_make_43 rfl rfl ?_
          refine J_getf h 0 (wM_0 ad cA σ) (tb_ups in_M) rfl 7 (by decide) (tb_up q_4_89) rfl d_M_make_44 ?_
          refine J_iload (q := 5) h d_M_make_47 rfl ?_
          refine J_iald h 7 6 (wM_7 ad cA σ) rfl d_M_make_49 ?_
          refine J_iload_n (q := 3) h d_M_make_50 rfl rfl ?_
          refine J_icmp_ne (tgt := 69) h d_M_make_51 (by decide) ?_ ?_
          · refine J_aload_n (q := 0) h d_M_make_54 rfl rfl ?_
            refine J_getf h 0 (wM_0 ad cA σ) (tb_ups in_M) rfl 8 (by decide) (tb_up q_4_90) rfl d_M_make_55 ?_
            refine J_iload (q := 5) h d_M_make_58 rfl ?_
            refine J_iald h 8 7 (wM_8 ad cA σ) rfl d_M_make_60 ?_
            refine J_iload (q := 4) h d_M_make_61 rfl ?_
            refine J_icmp_ne (tgt := 69) h d_M_make_63 (by decide) ?_ ?_
            · refine J_iload (q := 5) h d_M_make_66 rfl ?_
              exact J_iret h rfl d_M_make_68
            · exact J_M_M_make_b69 K D A ad cA N h (M_M_make_L12 N k75 n) ih v1 v2 v3 v4 v5 σ
          · exact J_M_M_make_b69 K D A ad cA N h (M_M_make_L12 N k75 n) ih v1 v2 v3 v4 v5 σ
        · exact J_M_M_make_b69 K D A ad cA N h (M_M_make_L12 N k75 n) ih v1 v2 v3 v4 v5 σ
      · exact J_M_M_make_b69 K D A ad cA N h (M_M_make_L12 N k75 n) ih v1 v2 v3 v4 v5 σ
def M_M_make_b215 (N : Nat) (v1 : Int32) (v2 : Int32) (v3 : Int32) (v4 : Int32) (v5 : Int32) (v6 : Int32) (σ : SM) : Option (Int32 × SM) := (if (gM_M_types σ) = 500 then (nm (sM_M_full σ 1) (fun (σ6 : SM) => (some ((-1), σ6)))) else (if v5 ≤ 20 then (if ck (gM_M_types σ) 500 = true then (nm (tM_M_kind σ (upd (aM_M_kind σ) (gM_M_types σ).toNatClampNeg v1)) (fun (σ7 : SM) => (if ck (gM_M_types σ7) 500 = true then (nm (tM_M_one σ7 (upd (aM_M_one σ7) (gM_M_types σ7).toNatClampNeg v2)) (fun (σ8 : SM) => (if ck (gM_M_types σ8) 500 = true then (nm (tM_M_two σ8 (upd (aM_M_two σ8) (gM_M_types σ8).toNatClampNeg v3)) (fun (σ9 : SM) => (if ck (gM_M_types σ9) 500 = true then (nm (tM_M_three σ9 (upd (aM_M_three σ9) (gM_M_types σ9).toNatClampNeg v4)) (fun (σ10 : SM) => (if ck (gM_M_types σ10) 500 = true then (nm (tM_M_deep σ10 (upd (aM_M_deep σ10) (gM_M_types σ10).toNatClampNeg v5)) (fun (σ11 : SM) => (if ck (gM_M_types σ11) 500 = true then (nm (tM_M_proper σ11 (upd (aM_M_proper σ11) (gM_M_types σ11).toNatClampNeg (vp_nar .boolean v6))) (fun (σ12 : SM) => (nm (sM_M_types σ12 ((gM_M_types σ12) + 1)) (fun (σ13 : SM) => (some (((gM_M_types σ13) - 1), σ13)))))) else none))) else none))) else none))) else none))) else none))) else none) else (nm (sM_M_full σ 1) (fun (σ14 : SM) => (some ((-1), σ14))))))
set_option maxRecDepth 100000 in
set_option maxHeartbeats 4000000 in
theorem J_M_M_make_b215 (K : jx_E) (D : va_G) (A : Nat → Prop) (ad : Nat → Nat) (cA : Nat → ClassId) (N : Nat) (h : jx_ok K D clM (tysM cA) A 7 b_M_make y_M_make.cls ((Cond.code y_M_make b_M_make 7 (some .int)) :: tblG) rM_M_make (some .int)) : ∀ (v1 : Int32) (v2 : Int32) (v3 : Int32) (v4 : Int32) (v5 : Int32) (v6 : Int32) (σ : SM), J K D clM A 7 (wM ad cA) (jx_Qi K D clM (tysM cA) (wM ad cA) A) 0 0 215 [(0, .ref (ad 0)), (1, .int v1), (2, .int v2), (3, .int v3), (4, .int v4), (5, .int v5), (6, .int v6)] [] σ (M_M_make_b215 N v1 v2 v3 v4 v5 v6 σ) := by
  intro v1 v2 v3 v4 v5 v6 σ
  rw [M_M_make_b215]
  refine J_aload_n (q := 0) h d_M_make_215 rfl rfl ?_
  refine J_getf h 0 (wM_0 ad cA σ) (tb_ups in_M) rfl 11 (by decide) (tb_up q_4_93) rfl d_M_make_216 ?_
  refine J_sipush (v := 500) h d_M_make_219 (by decide) ?_
  refine J_icmp_eq (tgt := 232) h d_M_make_222 (by decide) ?_ ?_
  · refine J_aload_n (q := 0) h d_M_make_232 rfl rfl ?_
    refine J_iconst (v := 1) h d_M_make_233 (by decide) ?_
    refine J_putf h 0 (wM_0 ad cA σ) (tb_ups in_M) rfl ft_M ft_M_ok nm_M 12 (by decide) (tb_up q_4_94) rfl (by decide) (by decide) (Nat.le_of_ble_eq_true rfl) (pM_0_12 ad cA σ 1) d_M_make_234 (fun σ6 => ?_)
    refine J_iconst (v := (-1)) h d_M_make_237 (by decide) ?_
    exact J_iret h rfl d_M_make_238
  · refine J_iload (q := 5) h d_M_make_225 rfl ?_
    refine J_bipush (v := 20) h d_M_make_227 (by decide) ?_
    refine J_icmp_le (tgt := 239) h d_M_make_229 (by decide) ?_ ?_
    · refine J_aload_n (q := 0) h d_M_make_239 rfl rfl ?_
      refine J_getf h 0 (wM_0 ad cA σ) (tb_ups in_M) rfl 5 (by decide) (tb_up q_4_87) rfl d_M_make_240 ?_
      refine J_aload_n (q := 0) h d_M_make_243 rfl rfl ?_
      refine J_getf h 0 (wM_0 ad cA σ) (tb_ups in_M) rfl 11 (by decide) (tb_up q_4_93) rfl d_M_make_244 ?_
      refine J_iload_n (q := 1) h d_M_make_247 rfl rfl ?_
      refine J_iast h 5 4 (wM_5 ad cA σ) rfl (uM_5 ad cA σ _) d_M_make_248 (fun σ7 => ?_)
      refine J_aload_n (q := 0) h d_M_make_249 rfl rfl ?_
      refine J_getf h 0 (wM_0 ad cA σ7) (tb_ups in_M) rfl 6 (by decide) (tb_up q_4_88) rfl d_M_make_250 ?_
      refine J_aload_n (q := 0) h d_M_make_253 rfl rfl ?_
      refine J_getf h 0 (wM_0 ad cA σ7) (tb_ups in_M) rfl 11 (by decide) (tb_up q_4_93) rfl d_M_make_254 ?_
      refine J_iload_n (q := 2) h d_M_make_257 rfl rfl ?_
      refine J_iast h 6 5 (wM_6 ad cA σ7) rfl (uM_6 ad cA σ7 _) d_M_make_258 (fun σ8 => ?_)
      refine J_aload_n (q := 0) h d_M_make_259 rfl rfl ?_
      refine J_getf h 0 (wM_0 ad cA σ8) (tb_ups in_M) rfl 7 (by decide) (tb_up q_4_89) rfl d_M_make_260 ?_
      refine J_aload_n (q := 0) h d_M_make_263 rfl rfl ?_
      refine J_getf h 0 (wM_0 ad cA σ8) (tb_ups in_M) rfl 11 (by decide) (tb_up q_4_93) rfl d_M_make_264 ?_
      refine J_iload_n (q := 3) h d_M_make_267 rfl rfl ?_
      refine J_iast h 7 6 (wM_7 ad cA σ8) rfl (uM_7 ad cA σ8 _) d_M_make_268 (fun σ9 => ?_)
      refine J_aload_n (q := 0) h d_M_make_269 rfl rfl ?_
      refine J_getf h 0 (wM_0 ad cA σ9) (tb_ups in_M) rfl 8 (by decide) (tb_up q_4_90) rfl d_M_make_270 ?_
      refine J_aload_n (q := 0) h d_M_make_273 rfl rfl ?_
      refine J_getf h 0 (wM_0 ad cA σ9) (tb_ups in_M) rfl 11 (by decide) (tb_up q_4_93) rfl d_M_make_274 ?_
      refine J_iload (q := 4) h d_M_make_277 rfl ?_
      refine J_iast h 8 7 (wM_8 ad cA σ9) rfl (uM_8 ad cA σ9 _) d_M_make_279 (fun σ10 => ?_)
      refine J_aload_n (q := 0) h d_M_make_280 rfl rfl ?_
      refine J_getf h 0 (wM_0 ad cA σ10) (tb_ups in_M) rfl 9 (by decide) (tb_up q_4_91) rfl d_M_make_281 ?_
      refine J_aload_n (q := 0) h d_M_make_284 rfl rfl ?_
      refine J_getf h 0 (wM_0 ad cA σ10) (tb_ups in_M) rfl 11 (by decide) (tb_up q_4_93) rfl d_M_make_285 ?_
      refine J_iload (q := 5) h d_M_make_288 rfl ?_
      refine J_iast h 9 8 (wM_9 ad cA σ10) rfl (uM_9 ad cA σ10 _) d_M_make_290 (fun σ11 => ?_)
      refine J_aload_n (q := 0) h d_M_make_291 rfl rfl ?_
      refine J_getf h 0 (wM_0 ad cA σ11) (tb_ups in_M) rfl 10 (by decide) (tb_up q_4_92) rfl d_M_make_292 ?_
      refine J_aload_n (q := 0) h d_M_make_295 rfl rfl ?_
      refine J_getf h 0 (wM_0 ad cA σ11) (tb_ups in_M) rfl 11 (by decide) (tb_up q_4_93) rfl d_M_make_296 ?_
      refine J_iload (q := 6) h d_M_make_299 rfl ?_
      refine J_zast h 10 9 (wM_10 ad cA σ11) rfl (uM_10 ad cA σ11 _) d_M_make_301 (fun σ12 => ?_)
      refine J_aload_n (q := 0) h d_M_make_302 rfl rfl ?_
      refine J_dup h d_M_make_303 rfl ?_
      refine J_getf h 0 (wM_0 ad cA σ12) (tb_ups in_M) rfl 11 (by decide) (tb_up q_4_93) rfl d_M_make_304 ?_
      refine J_iconst (v := 1) h d_M_make_307 (by decide) ?_
      refine J_iadd h d_M_make_308 ?_
      refine J_putf h 0 (wM_0 ad cA σ12) (tb_ups in_M) rfl ft_M ft_M_ok nm_M 11 (by decide) (tb_up q_4_93) rfl rfl rfl (Nat.le_of_ble_eq_true rfl) (pM_0_11 ad cA σ12 ((gM_M_types σ12) + 1)) d_M_make_309 (fun σ13 => ?_)
      refine J_aload_n (q := 0) h d_M_make_312 rfl rfl ?_
      refine J_getf h 0 (wM_0 ad cA σ13) (tb_ups in_M) rfl 11 (by decide) (tb_up q_4_93) rfl d_M_make_313 ?_
      refine J_iconst (v := 1) h d_M_make_316 (by decide) ?_
      refine J_isub h d_M_make_317 ?_
      exact J_iret h rfl d_M_make_318
    · refine J_aload_n (q := 0) h d_M_make_232 rfl rfl ?_
      refine J_iconst (v := 1) h d_M_make_233 (by decide) ?_
      refine J_putf h 0 (wM_0 ad cA σ) (tb_ups in_M) rfl ft_M ft_M_ok nm_M 12 (by decide) (tb_up q_4_94) rfl (by decide) (by decide) (Nat.le_of_ble_eq_true rfl) (pM_0_12 ad cA σ 1) d_M_make_234 (fun σ14 => ?_)
      refine J_iconst (v := (-1)) h d_M_make_237 (by decide) ?_
      exact J_iret h rfl d_M_make_238
def M_M_make_b213 (N : Nat) (v1 : Int32) (v2 : Int32) (v3 : Int32) (v4 : Int32) (v5 : Int32) (s0 : Int32) (σ : SM) : Option (Int32 × SM) := (M_M_make_b215 N v1 v2 v3 v4 v5 s0 σ)
set_option maxRecDepth 100000 in
set_option maxHeartbeats 4000000 in
theorem J_M_M_make_b213 (K : jx_E) (D : va_G) (A : Nat → Prop) (ad : Nat → Nat) (cA : Nat → ClassId) (N : Nat) (h : jx_ok K D clM (tysM cA) A 7 b_M_make y_M_make.cls ((Cond.code y_M_make b_M_make 7 (some .int)) :: tblG) rM_M_make (some .int)) : ∀ (v1 : Int32) (v2 : Int32) (v3 : Int32) (v4 : Int32) (v5 : Int32) (s0 : Int32) (σ : SM), J K D clM A 7 (wM ad cA) (jx_Qi K D clM (tysM cA) (wM ad cA) A) 0 0 213 [(0, .ref (ad 0)), (1, .int v1), (2, .int v2), (3, .int v3), (4, .int v4), (5, .int v5)] [.int s0] σ (M_M_make_b213 N v1 v2 v3 v4 v5 s0 σ) := by
  intro v1 v2 v3 v4 v5 s0 σ
  rw [M_M_make_b213]
  refine J_istore (lv' := [(6, .int s0), (0, .ref (ad 0)), (1, .int v1), (2, .int v2), (3, .int v3), (4, .int v4), (5, .int v5)]) h d_M_make_213 (by decide) rfl ?_
  refine J_sub [1, 2, 3, 4, 5, 6, 0] rfl ?_
  exact J_M_M_make_b215 K D A ad cA N h v1 v2 v3 v4 v5 s0 σ
def M_M_make_b212 (N : Nat) (v1 : Int32) (v2 : Int32) (v3 : Int32) (v4 : Int32) (v5 : Int32) (σ : SM) : Option (Int32 × SM) := (M_M_make_b213 N v1 v2 v3 v4 v5 0 σ)
set_option maxRecDepth 100000 in
set_option maxHeartbeats 4000000 in
theorem J_M_M_make_b212 (K : jx_E) (D : va_G) (A : Nat → Prop) (ad : Nat → Nat) (cA : Nat → ClassId) (N : Nat) (h : jx_ok K D clM (tysM cA) A 7 b_M_make y_M_make.cls ((Cond.code y_M_make b_M_make 7 (some .int)) :: tblG) rM_M_make (some .int)) : ∀ (v1 : Int32) (v2 : Int32) (v3 : Int32) (v4 : Int32) (v5 : Int32) (σ : SM), J K D clM A 7 (wM ad cA) (jx_Qi K D clM (tysM cA) (wM ad cA) A) 0 0 212 [(0, .ref (ad 0)), (1, .int v1), (2, .int v2), (3, .int v3), (4, .int v4), (5, .int v5)] [] σ (M_M_make_b212 N v1 v2 v3 v4 v5 σ) := by
  intro v1 v2 v3 v4 v5 σ
  rw [M_M_make_b212]
  refine J_iconst (v := 0) h d_M_make_212 (by decide) ?_
  exact J_M_M_make_b213 K D A ad cA N h v1 v2 v3 v4 v5 0 σ
def M_M_make_b191 (N : Nat) (v1 : Int32) (v2 : Int32) (v3 : Int32) (v4 : Int32) (v6 : Int32) (s0 : Int32) (σ : SM) : Option (Int32 × SM) := (if v6 = 0 then (M_M_make_b212 N v1 v2 v3 v4 s0 σ) else (if ck v4 500 = true then (if (aM_M_proper σ v4.toNatClampNeg) = 0 then (M_M_make_b212 N v1 v2 v3 v4 s0 σ) else (M_M_make_b213 N v1 v2 v3 v4 s0 1 σ)) else none))
set_option maxRecDepth 100000 in
set_option maxHeartbeats 4000000 in
theorem J_M_M_make_b191 (K : jx_E) (D : va_G) (A : Nat → Prop) (ad : Nat → Nat) (cA : Nat → ClassId) (N : Nat) (h : jx_ok K D clM (tysM cA) A 7 b_M_make y_M_make.cls ((Cond.code y_M_make b_M_make 7 (some .int)) :: tblG) rM_M_make (some .int)) : ∀ (v1 : Int32) (v2 : Int32) (v3 : Int32) (v4 : Int32) (v6 : Int32) (s0 : Int32) (σ : SM), J K D clM A 7 (wM ad cA) (jx_Qi K D clM (tysM cA) (wM ad cA) A) 0 0 191 [(0, .ref (ad 0)), (1, .int v1), (2, .int v2), (3, .int v3), (4, .int v4), (6, .int v6)] [.int s0] σ (M_M_make_b191 N v1 v2 v3 v4 v6 s0 σ) := by
  intro v1 v2 v3 v4 v6 s0 σ
  rw [M_M_make_b191]
  refine J_istore (lv' := [(5, .int s0), (0, .ref (ad 0)), (1, .int v1), (2, .int v2), (3, .int v3), (4, .int v4), (6, .int v6)]) h d_M_make_191 (by decide) rfl ?_
  refine J_iload (q := 6) h d_M_make_193 rfl ?_
  refine J_if_eq (tgt := 212) h d_M_make_195 (by decide) ?_ ?_
  · refine J_sub [1, 2, 3, 4, 5, 0] rfl ?_
    exact J_M_M_make_b212 K D A ad cA N h v1 v2 v3 v4 s0 σ
  · refine J_aload_n (q := 1) h d_M_make_198 rfl rfl ?_
    refine J_getf h 0 (wM_0 ad cA σ) (tb_ups in_M) rfl 10 (by decide) (tb_up q_4_92) rfl d_M_make_199 ?_
    refine J_iload (q := 5) h d_M_make_202 rfl ?_
    refine J_zald h 10 9 (wM_10 ad cA σ) rfl d_M_make_204 ?_
    refine J_if_eq (tgt := 212) h d_M_make_205 (by decide) ?_ ?_
    · refine J_sub [1, 2, 3, 4, 5, 0] rfl ?_
      exact J_M_M_make_b212 K D A ad cA N h v1 v2 v3 v4 s0 σ
    · refine J_iconst (v := 1) h d_M_make_208 (by decide) ?_
      refine J_goto (tgt := 213) h d_M_make_209 (by decide) ?_
      refine J_sub [1, 2, 3, 4, 5, 0] rfl ?_
      exact J_M_M_make_b213 K D A ad cA N h v1 v2 v3 v4 s0 1 σ
def M_M_make_b152 (N : Nat) (v1 : Int32) (v2 : Int32) (v3 : Int32) (v4 : Int32) (v5 : Int32) (v6 : Int32) (σ : SM) : Option (Int32 × SM) := (if v1 = 1 then (if v4 = (-1) then (M_M_make_b215 N v1 v2 v3 v4 v5 v6 σ) else (if ck v4 500 = true then (if v5 ≤ ((aM_M_deep σ v4.toNatClampNeg) + 1) then (if ck v4 500 = true then (M_M_make_b191 N v1 v2 v3 v4 v6 ((aM_M_deep σ v4.toNatClampNeg) + 1) σ) else none) else (M_M_make_b191 N v1 v2 v3 v4 v6 v5 σ)) else none)) else (M_M_make_b215 N v1 v2 v3 v4 v5 v6 σ))
set_option maxRecDepth 100000 in
set_option maxHeartbeats 4000000 in
theorem J_M_M_make_b152 (K : jx_E) (D : va_G) (A : Nat → Prop) (ad : Nat → Nat) (cA : Nat → ClassId) (N : Nat) (h : jx_ok K D clM (tysM cA) A 7 b_M_make y_M_make.cls ((Cond.code y_M_make b_M_make 7 (some .int)) :: tblG) rM_M_make (some .int)) : ∀ (v1 : Int32) (v2 : Int32) (v3 : Int32) (v4 : Int32) (v5 : Int32) (v6 : Int32) (σ : SM), J K D clM A 7 (wM ad cA) (jx_Qi K D clM (tysM cA) (wM ad cA) A) 0 0 152 [(0, .ref (ad 0)), (1, .int v1), (2, .int v2), (3, .int v3), (4, .int v4), (5, .int v5), (6, .int v6)] [] σ (M_M_make_b152 N v1 v2 v3 v4 v5 v6 σ) := by
  intro v1 v2 v3 v4 v5 v6 σ
  rw [M_M_make_b152]
  refine J_iload_n (q := 1) h d_M_make_152 rfl rfl ?_
  refine J_iconst (v := 1) h d_M_make_153 (by decide) ?_
  refine J_icmp_ne (tgt := 215) h d_M_make_154 (by decide) ?_ ?_
  · refine J_iload (q := 4) h d_M_make_157 rfl ?_
    refine J_iconst (v := (-1)) h d_M_make_159 (by decide) ?_
    refine J_icmp_eq (tgt := 215) h d_M_make_160 (by decide) ?_ ?_
    · exact J_M_M_make_b215 K D A ad cA N h v1 v2 v3 v4 v5 v6 σ
    · refine J_iload (q := 5) h d_M_make_163 rfl ?_
      refine J_aload_n (q := 0) h d_M_make_165 rfl rfl ?_
      refine J_getf h 0 (wM_0 ad cA σ) (tb_ups in_M) rfl 9 (by decide) (tb_up q_4_91) rfl d_M_make_166 ?_
      refine J_iload (q := 4) h d_M_make_169 rfl ?_
      refine J_iald h 9 8 (wM_9 ad cA σ) rfl d_M_make_171 ?_
      refine J_iconst (v := 1) h d_M_make_172 (by decide) ?_
      refine J_iadd h d_M_make_173 ?_
      refine J_icmp_le (tgt := 182) h d_M_make_174 (by decide) ?_ ?_
      · refine J_aload_n (q := 0) h d_M_make_182 rfl rfl ?_
        refine J_getf h 0 (wM_0 ad cA σ) (tb_ups in_M) rfl 9 (by decide) (tb_up q_4_91) rfl d_M_make_183 ?_
        refine J_iload (q := 4) h d_M_make_186 rfl ?_
        refine J_iald h 9 8 (wM_9 ad cA σ) rfl d_M_make_188 ?_
        refine J_iconst (v := 1) h d_M_make_189 (by decide) ?_
        refine J_iadd h d_M_make_190 ?_
        refine J_sub [0, 1, 2, 3, 4, 6] rfl ?_
        exact J_M_M_make_b191 K D A ad cA N h v1 v2 v3 v4 v6 ((aM_M_deep σ v4.toNatClampNeg) + 1) σ
      · refine J_iload (q := 5) h d_M_make_177 rfl ?_
        refine J_goto (tgt := 191) h d_M_make_179 (by decide) ?_
        refine J_sub [0, 1, 2, 3, 4, 6] rfl ?_
        exact J_M_M_make_b191 K D A ad cA N h v1 v2 v3 v4 v6 v5 σ
  · exact J_M_M_make_b215 K D A ad cA N h v1 v2 v3 v4 v5 v6 σ
def M_M_make_b134 (N : Nat) (v1 : Int32) (v2 : Int32) (v3 : Int32) (v4 : Int32) (σ : SM) : Option (Int32 × SM) := (if ck v3 500 = true then (nm (((aM_M_deep σ v3.toNatClampNeg) + 1)) (fun (y4 : Int32) => (if ck v3 500 = true then (nm ((aM_M_proper σ v3.toNatClampNeg)) (fun (y5 : Int32) => (M_M_make_b152 N v1 v2 v3 v4 y4 y5 σ))) else none))) else none)
set_option maxRecDepth 100000 in
set_option maxHeartbeats 4000000 in
theorem J_M_M_make_b134 (K : jx_E) (D : va_G) (A : Nat → Prop) (ad : Nat → Nat) (cA : Nat → ClassId) (N : Nat) (h : jx_ok K D clM (tysM cA) A 7 b_M_make y_M_make.cls ((Cond.code y_M_make b_M_make 7 (some .int)) :: tblG) rM_M_make (some .int)) : ∀ (v1 : Int32) (v2 : Int32) (v3 : Int32) (v4 : Int32) (σ : SM), J K D clM A 7 (wM ad cA) (jx_Qi K D clM (tysM cA) (wM ad cA) A) 0 0 134 [(0, .ref (ad 0)), (1, .int v1), (2, .int v2), (3, .int v3), (4, .int v4)] [] σ (M_M_make_b134 N v1 v2 v3 v4 σ) := by
  intro v1 v2 v3 v4 σ
  rw [M_M_make_b134]
  refine J_aload_n (q := 0) h d_M_make_134 rfl rfl ?_
  refine J_getf h 0 (wM_0 ad cA σ) (tb_ups in_M) rfl 9 (by decide) (tb_up q_4_91) rfl d_M_make_135 ?_
  refine J_iload_n (q := 3) h d_M_make_138 rfl rfl ?_
  refine J_iald h 9 8 (wM_9 ad cA σ) rfl d_M_make_139 ?_
  refine J_iconst (v := 1) h d_M_make_140 (by decide) ?_
  refine J_iadd h d_M_make_141 ?_
  refine J_nmi (fun y4 => ?_)
  refine J_istore (lv' := [(5, .int y4), (0, .ref (ad 0)), (1, .int v1), (2, .int v2), (3, .int v3), (4, .int v4)]) h d_M_make_142 (by decide) rfl ?_
  refine J_aload_n (q := 1) h d_M_make_144 rfl rfl ?_
  refine J_getf h 0 (wM_0 ad cA σ) (tb_ups in_M) rfl 10 (by decide) (tb_up q_4_92) rfl d_M_make_145 ?_
  refine J_iload_n (q := 4) h d_M_make_148 rfl rfl ?_
  refine J_zald h 10 9 (wM_10 ad cA σ) rfl d_M_make_149 ?_
  refine J_nmi (fun y5 => ?_)
  refine J_istore (lv' := [(6, .int y5), (5, .int y4), (0, .ref (ad 0)), (1, .int v1), (2, .int v2), (3, .int v3), (4, .int v4)]) h d_M_make_150 (by decide) rfl ?_
  refine J_sub [2, 3, 4, 5, 6, 1, 0] rfl ?_
  exact J_M_M_make_b152 K D A ad cA N h v1 v2 v3 v4 y4 y5 σ
def M_M_make_b120 (N : Nat) (v1 : Int32) (v2 : Int32) (v3 : Int32) (v4 : Int32) (v5 : Int32) (v6 : Int32) (σ : SM) : Option (Int32 × SM) := (if v1 = 1 then (M_M_make_b134 N v1 v2 v3 v4 σ) else (if v1 = 2 then (if v2 ≤ 0 then (M_M_make_b152 N v1 v2 v3 v4 v5 v6 σ) else (M_M_make_b134 N v1 v2 v3 v4 σ)) else (M_M_make_b152 N v1 v2 v3 v4 v5 v6 σ)))
set_option maxRecDepth 100000 in
set_option maxHeartbeats 4000000 in
theorem J_M_M_make_b120 (K : jx_E) (D : va_G) (A : Nat → Prop) (ad : Nat → Nat) (cA : Nat → ClassId) (N : Nat) (h : jx_ok K D clM (tysM cA) A 7 b_M_make y_M_make.cls ((Cond.code y_M_make b_M_make 7 (some .int)) :: tblG) rM_M_make (some .int)) : ∀ (v1 : Int32) (v2 : Int32) (v3 : Int32) (v4 : Int32) (v5 : Int32) (v6 : Int32) (σ : SM), J K D clM A 7 (wM ad cA) (jx_Qi K D clM (tysM cA) (wM ad cA) A) 0 0 120 [(0, .ref (ad 0)), (1, .int v1), (2, .int v2), (3, .int v3), (4, .int v4), (5, .int v5), (6, .int v6)] [] σ (M_M_make_b120 N v1 v2 v3 v4 v5 v6 σ) := by
  intro v1 v2 v3 v4 v5 v6 σ
  rw [M_M_make_b120]
  refine J_iload_n (q := 1) h d_M_make_120 rfl rfl ?_
  refine J_iconst (v := 1) h d_M_make_121 (by decide) ?_
  refine J_icmp_eq (tgt := 134) h d_M_make_122 (by decide) ?_ ?_
  · refine J_sub [0, 1, 2, 3, 4] rfl ?_
    exact J_M_M_make_b134 K D A ad cA N h v1 v2 v3 v4 σ
  · refine J_iload_n (q := 1) h d_M_make_125 rfl rfl ?_
    refine J_iconst (v := 2) h d_M_make_126 (by decide) ?_
    refine J_icmp_ne (tgt := 152) h d_M_make_127 (by decide) ?_ ?_
    · refine J_iload_n (q := 2) h d_M_make_130 rfl rfl ?_
      refine J_if_le (tgt := 152) h d_M_make_131 (by decide) ?_ ?_
      · exact J_M_M_make_b152 K D A ad cA N h v1 v2 v3 v4 v5 v6 σ
      · refine J_sub [0, 1, 2, 3, 4] rfl ?_
        exact J_M_M_make_b134 K D A ad cA N h v1 v2 v3 v4 σ
    · exact J_M_M_make_b152 K D A ad cA N h v1 v2 v3 v4 v5 v6 σ
def M_M_make_b102 (N : Nat) (v1 : Int32) (v2 : Int32) (v3 : Int32) (v4 : Int32) (σ : SM) : Option (Int32 × SM) := (if ck v2 500 = true then (nm (((aM_M_deep σ v2.toNatClampNeg) + 1)) (fun (y2 : Int32) => (if ck v2 500 = true then (nm ((aM_M_proper σ v2.toNatClampNeg)) (fun (y3 : Int32) => (M_M_make_b120 N v1 v2 v3 v4 y2 y3 σ))) else none))) else none)
set_option maxRecDepth 100000 in
set_option maxHeartbeats 4000000 in
theorem J_M_M_make_b102 (K : jx_E) (D : va_G) (A : Nat → Prop) (ad : Nat → Nat) (cA : Nat → ClassId) (N : Nat) (h : jx_ok K D clM (tysM cA) A 7 b_M_make y_M_make.cls ((Cond.code y_M_make b_M_make 7 (some .int)) :: tblG) rM_M_make (some .int)) : ∀ (v1 : Int32) (v2 : Int32) (v3 : Int32) (v4 : Int32) (σ : SM), J K D clM A 7 (wM ad cA) (jx_Qi K D clM (tysM cA) (wM ad cA) A) 0 0 102 [(0, .ref (ad 0)), (1, .int v1), (2, .int v2), (3, .int v3), (4, .int v4)] [] σ (M_M_make_b102 N v1 v2 v3 v4 σ) := by
  intro v1 v2 v3 v4 σ
  rw [M_M_make_b102]
  refine J_aload_n (q := 0) h d_M_make_102 rfl rfl ?_
  refine J_getf h 0 (wM_0 ad cA σ) (tb_ups in_M) rfl 9 (by decide) (tb_up q_4_91) rfl d_M_make_103 ?_
  refine J_iload_n (q := 2) h d_M_make_106 rfl rfl ?_
  refine J_iald h 9 8 (wM_9 ad cA σ) rfl d_M_make_107 ?_
  refine J_iconst (v := 1) h d_M_make_108 (by decide) ?_
  refine J_iadd h d_M_make_109 ?_
  refine J_nmi (fun y2 => ?_)
  refine J_istore (lv' := [(5, .int y2), (0, .ref (ad 0)), (1, .int v1), (2, .int v2), (3, .int v3), (4, .int v4)]) h d_M_make_110 (by decide) rfl ?_
  refine J_aload_n (q := 1) h d_M_make_112 rfl rfl ?_
  refine J_getf h 0 (wM_0 ad cA σ) (tb_ups in_M) rfl 10 (by decide) (tb_up q_4_92) rfl d_M_make_113 ?_
  refine J_iload_n (q := 3) h d_M_make_116 rfl rfl ?_
  refine J_zald h 10 9 (wM_10 ad cA σ) rfl d_M_make_117 ?_
  refine J_nmi (fun y3 => ?_)
  refine J_istore (lv' := [(6, .int y3), (5, .int y2), (0, .ref (ad 0)), (1, .int v1), (2, .int v2), (3, .int v3), (4, .int v4)]) h d_M_make_118 (by decide) rfl ?_
  refine J_sub [2, 3, 4, 5, 6, 1, 0] rfl ?_
  exact J_M_M_make_b120 K D A ad cA N h v1 v2 v3 v4 y2 y3 σ
def M_M_make_b89 (N : Nat) (v1 : Int32) (v2 : Int32) (v3 : Int32) (v4 : Int32) (v5 : Int32) (s0 : Int32) (σ : SM) : Option (Int32 × SM) := (if v1 = 4 then (M_M_make_b102 N v1 v2 v3 v4 σ) else (if v1 = 8 then (M_M_make_b102 N v1 v2 v3 v4 σ) else (M_M_make_b120 N v1 v2 v3 v4 v5 s0 σ)))
set_option maxRecDepth 100000 in
set_option maxHeartbeats 4000000 in
theorem J_M_M_make_b89 (K : jx_E) (D : va_G) (A : Nat → Prop) (ad : Nat → Nat) (cA : Nat → ClassId) (N : Nat) (h : jx_ok K D clM (tysM cA) A 7 b_M_make y_M_make.cls ((Cond.code y_M_make b_M_make 7 (some .int)) :: tblG) rM_M_make (some .int)) : ∀ (v1 : Int32) (v2 : Int32) (v3 : Int32) (v4 : Int32) (v5 : Int32) (s0 : Int32) (σ : SM), J K D clM A 7 (wM ad cA) (jx_Qi K D clM (tysM cA) (wM ad cA) A) 0 0 89 [(0, .ref (ad 0)), (1, .int v1), (2, .int v2), (3, .int v3), (4, .int v4), (5, .int v5)] [.int s0] σ (M_M_make_b89 N v1 v2 v3 v4 v5 s0 σ) := by
  intro v1 v2 v3 v4 v5 s0 σ
  rw [M_M_make_b89]
  refine J_istore (lv' := [(6, .int s0), (0, .ref (ad 0)), (1, .int v1), (2, .int v2), (3, .int v3), (4, .int v4), (5, .int v5)]) h d_M_make_89 (by decide) rfl ?_
  refine J_iload_n (q := 2) h d_M_make_91 rfl rfl ?_
  refine J_iconst (v := 4) h d_M_make_92 (by decide) ?_
  refine J_icmp_eq (tgt := 102) h d_M_make_93 (by decide) ?_ ?_
  · refine J_sub [1, 2, 3, 4, 5] rfl ?_
    exact J_M_M_make_b102 K D A ad cA N h v1 v2 v3 v4 σ
  · refine J_iload_n (q := 2) h d_M_make_96 rfl rfl ?_
    refine J_bipush (v := 8) h d_M_make_97 (by decide) ?_
    refine J_icmp_ne (tgt := 120) h d_M_make_99 (by decide) ?_ ?_
    · refine J_sub [1, 2, 3, 4, 5] rfl ?_
      exact J_M_M_make_b102 K D A ad cA N h v1 v2 v3 v4 σ
    · refine J_sub [1, 2, 3, 4, 5, 6, 0] rfl ?_
      exact J_M_M_make_b120 K D A ad cA N h v1 v2 v3 v4 v5 s0 σ
def M_M_make_b75 (N : Nat) (v1 : Int32) (v2 : Int32) (v3 : Int32) (v4 : Int32) (σ : SM) : Option (Int32 × SM) := (if v1 = 7 then (M_M_make_b89 N v1 v2 v3 v4 1 0 σ) else (M_M_make_b89 N v1 v2 v3 v4 1 1 σ))
set_option maxRecDepth 100000 in
set_option maxHeartbeats 4000000 in
theorem J_M_M_make_b75 (K : jx_E) (D : va_G) (A : Nat → Prop) (ad : Nat → Nat) (cA : Nat → ClassId) (N : Nat) (h : jx_ok K D clM (tysM cA) A 7 b_M_make y_M_make.cls ((Cond.code y_M_make b_M_make 7 (some .int)) :: tblG) rM_M_make (some .int)) : ∀ (v1 : Int32) (v2 : Int32) (v3 : Int32) (v4 : Int32) (σ : SM), J K D clM A 7 (wM ad cA) (jx_Qi K D clM (tysM cA) (wM ad cA) A) 0 0 75 [(0, .ref (ad 0)), (1, .int v1), (2, .int v2), (3, .int v3), (4, .int v4)] [] σ (M_M_make_b75 N v1 v2 v3 v4 σ) := by
  intro v1 v2 v3 v4 σ
  rw [M_M_make_b75]
  refine J_iconst (v := 1) h d_M_make_75 (by decide) ?_
  refine J_istore (lv' := [(5, .int 1), (0, .ref (ad 0)), (1, .int v1), (2, .int v2), (3, .int v3), (4, .int v4)]) h d_M_make_76 (by decide) rfl ?_
  refine J_iload_n (q := 2) h d_M_make_78 rfl rfl ?_
  refine J_bipush (v := 7) h d_M_make_79 (by decide) ?_
  refine J_icmp_eq (tgt := 88) h d_M_make_81 (by decide) ?_ ?_
  · refine J_iconst (v := 0) h d_M_make_88 (by decide) ?_
    refine J_sub [1, 2, 3, 4, 5, 0] rfl ?_
    exact J_M_M_make_b89 K D A ad cA N h v1 v2 v3 v4 1 0 σ
  · refine J_iconst (v := 1) h d_M_make_84 (by decide) ?_
    refine J_goto (tgt := 89) h d_M_make_85 (by decide) ?_
    refine J_sub [1, 2, 3, 4, 5, 0] rfl ?_
    exact J_M_M_make_b89 K D A ad cA N h v1 v2 v3 v4 1 1 σ
def M_M_make (N : Nat) (x1 : Int32) (x2 : Int32) (x3 : Int32) (x4 : Int32) (σ : SM) : Option (Int32 × SM) := (if (gM_M_full σ) = 0 then (M_M_make_L12 N (M_M_make_b75 N) N x1 x2 x3 x4 0 σ) else (some ((-1), σ)))
set_option maxRecDepth 100000 in
set_option maxHeartbeats 4000000 in
theorem J_M_M_make (K : jx_E) (D : va_G) (A : Nat → Prop) (ad : Nat → Nat) (cA : Nat → ClassId) (N : Nat) (h : jx_ok K D clM (tysM cA) A 7 b_M_make y_M_make.cls ((Cond.code y_M_make b_M_make 7 (some .int)) :: tblG) rM_M_make (some .int)) : ∀ (x1 : Int32) (x2 : Int32) (x3 : Int32) (x4 : Int32) (σ : SM), J K D clM A 7 (wM ad cA) (jx_Qi K D clM (tysM cA) (wM ad cA) A) 0 0 0 [(0, .ref (ad 0)), (1, .int x1), (2, .int x2), (3, .int x3), (4, .int x4)] [] σ (M_M_make N x1 x2 x3 x4 σ) := by
  intro x1 x2 x3 x4 σ
  rw [M_M_make]
  refine J_aload_n (q := 0) h d_M_make_0 rfl rfl ?_
  refine J_getf h 0 (wM_0 ad cA σ) (tb_ups in_M) rfl 12 (by decide) (tb_up q_4_94) rfl d_M_make_1 ?_
  refine J_if_eq (tgt := 9) h d_M_make_4 (by decide) ?_ ?_
  · refine J_iconst (v := 0) h d_M_make_9 (by decide) ?_
    refine J_istore (lv' := [(5, .int 0), (0, .ref (ad 0)), (1, .int x1), (2, .int x2), (3, .int x3), (4, .int x4)]) h d_M_make_10 (by decide) rfl ?_
    refine J_sub [1, 2, 3, 4, 5, 0] rfl ?_
    exact J_M_M_make_L12 K D A ad cA N h (M_M_make_b75 N) (J_M_M_make_b75 K D A ad cA N h) N x1 x2 x3 x4 0 σ
  · refine J_iconst (v := (-1)) h d_M_make_7 (by decide) ?_
    exact J_iret h rfl d_M_make_8
set_option maxRecDepth 100000 in
theorem cM_M_make (l : Launch) (D : va_G) (ad : Nat → Nat) (cA : Nat → ClassId) (N : Nat) (x1 : Int32) (x2 : Int32) (x3 : Int32) (x4 : Int32) (σ : SM) (r : Int32) (σ' : SM) (hf : M_M_make N x1 x2 x3 x4 σ = some (r, σ')) : MetI l y_M_make ((Cond.code y_M_make b_M_make 7 (some .int)) :: tblG) rM_M_make D clM (tysM cA) (wM ad cA) [.ref (ad 0), .int x1, .int x2, .int x3, .int x4] σ r σ' :=
  jx_metI (by decide) rfl (Nat.le_of_ble_eq_true rfl) (fun K A h => J_M_M_make K D A ad cA N h x1 x2 x3 x4 σ) hf
def rM_M_made : Room := { frames := 0, cells := 0, slots := 0, locals := 0 }
theorem rm_ok_M_M_made : rM_M_made.cells = 0 ∧ rM_M_made.slots = 0 := ⟨rfl, rfl⟩
def M_M_made (x1 : Int32) (σ : SM) : Option (Int32 × SM) := (nm ((gM_M_full σ)) (fun (y1 : Int32) => (nm (sM_M_full σ 0) (fun (σ2 : SM) => (if y1 = 0 then (some (x1, σ2)) else (some ((-3), σ2)))))))
set_option maxRecDepth 100000 in
set_option maxHeartbeats 4000000 in
theorem J_M_M_made (K : jx_E) (D : va_G) (A : Nat → Prop) (ad : Nat → Nat) (cA : Nat → ClassId) (h : jx_ok K D clM (tysM cA) A 3 b_M_made y_M_made.cls ((Cond.code y_M_made b_M_made 3 (some .int)) :: tblG) rM_M_made (some .int)) : ∀ (x1 : Int32) (σ : SM), J K D clM A 3 (wM ad cA) (jx_Qi K D clM (tysM cA) (wM ad cA) A) 0 0 0 [(0, .ref (ad 0)), (1, .int x1)] [] σ (M_M_made x1 σ) := by
  intro x1 σ
  rw [M_M_made]
  refine J_aload_n (q := 0) h d_M_made_0 rfl rfl ?_
  refine J_getf h 0 (wM_0 ad cA σ) (tb_ups in_M) rfl 12 (by decide) (tb_up q_4_94) rfl d_M_made_1 ?_
  refine J_nmi (fun y1 => ?_)
  refine J_istore_n (lv' := [(2, .int y1), (0, .ref (ad 0)), (1, .int x1)]) h d_M_made_4 rfl (by decide) rfl ?_
  refine J_aload_n (q := 1) h d_M_made_5 rfl rfl ?_
  refine J_iconst (v := 0) h d_M_made_6 (by decide) ?_
  refine J_putf h 0 (wM_0 ad cA σ) (tb_ups in_M) rfl ft_M ft_M_ok nm_M 12 (by decide) (tb_up q_4_94) rfl (by decide) (by decide) (Nat.le_of_ble_eq_true rfl) (pM_0_12 ad cA σ 0) d_M_made_7 (fun σ2 => ?_)
  refine J_iload_n (q := 0) h d_M_made_10 rfl rfl ?_
  refine J_if_eq (tgt := 19) h d_M_made_11 (by decide) ?_ ?_
  · refine J_iload_n (q := 2) h d_M_made_19 rfl rfl ?_
    exact J_iret h rfl d_M_made_20
  · refine J_bipush (v := (-3)) h d_M_made_14 (by decide) ?_
    refine J_goto (tgt := 20) h d_M_made_16 (by decide) ?_
    exact J_iret h rfl d_M_made_20
set_option maxRecDepth 100000 in
theorem cM_M_made (l : Launch) (D : va_G) (ad : Nat → Nat) (cA : Nat → ClassId) (x1 : Int32) (σ : SM) (r : Int32) (σ' : SM) (hf : M_M_made x1 σ = some (r, σ')) : MetI l y_M_made ((Cond.code y_M_made b_M_made 3 (some .int)) :: tblG) rM_M_made D clM (tysM cA) (wM ad cA) [.ref (ad 0), .int x1] σ r σ' :=
  jx_metI (by decide) rfl (Nat.le_of_ble_eq_true rfl) (fun K A h => J_M_M_made K D A ad cA h x1 σ) hf
def rM_M_plainOf : Room := { frames := 1, cells := 0, slots := 0, locals := 26 }
theorem rm_ok_M_M_plainOf : rM_M_plainOf.cells = 0 ∧ rM_M_plainOf.slots = 0 := ⟨rfl, rfl⟩
def M_M_plainOf (N : Nat) (x1 : Int32) (σ : SM) : Option (Int32 × SM) := (bd (M_M_make N 0 x1 (-1) (-1) σ) (fun (r1 : Int32) (σ2 : SM) => (some (r1, σ2))))
set_option maxRecDepth 100000 in
set_option maxHeartbeats 4000000 in
theorem J_M_M_plainOf (K : jx_E) (D : va_G) (A : Nat → Prop) (ad : Nat → Nat) (cA : Nat → ClassId) (N : Nat) (h : jx_ok K D clM (tysM cA) A 2 b_M_plainOf y_M_plainOf.cls ((Cond.code y_M_plainOf b_M_plainOf 2 (some .int)) :: tblG) rM_M_plainOf (some .int)) : ∀ (x1 : Int32) (σ : SM), J K D clM A 2 (wM ad cA) (jx_Qi K D clM (tysM cA) (wM ad cA) A) 0 0 0 [(0, .ref (ad 0)), (1, .int x1)] [] σ (M_M_plainOf N x1 σ) := by
  intro x1 σ
  rw [M_M_plainOf]
  refine J_aload_n (q := 0) h d_M_plainOf_0 rfl rfl ?_
  refine J_iconst (v := 0) h d_M_plainOf_1 (by decide) ?_
  refine J_iload_n (q := 1) h d_M_plainOf_2 rfl rfl ?_
  refine J_iconst (v := (-1)) h d_M_plainOf_3 (by decide) ?_
  refine J_iconst (v := (-1)) h d_M_plainOf_4 (by decide) ?_
  refine J_callVi (As := [.int 0, .int x1, .int (-1), .int (-1)]) (st := []) (rmc := rM_M_make) (q0 := 0) h (fun _ _ hf => cM_M_make (jl K) D ad cA N 0 x1 (-1) (-1) σ _ _ hf) (gd_V q_5_74 q_5_76 q_s_32 q_1_12 q_5_77) rfl ⟨rfl, rfl⟩ dd_M_make ⟨Nat.le_of_ble_eq_true rfl, Nat.le_of_ble_eq_true rfl⟩ rfl rfl (wM_0 ad cA σ) rfl rfl (Nat.le_of_ble_eq_true rfl) ⟨Nat.zero_le _, Nat.zero_le _⟩ d_M_plainOf_5 (fun r1 σ2 => ?_)
  exact J_iret h rfl d_M_plainOf_8
set_option maxRecDepth 100000 in
theorem cM_M_plainOf (l : Launch) (D : va_G) (ad : Nat → Nat) (cA : Nat → ClassId) (N : Nat) (x1 : Int32) (σ : SM) (r : Int32) (σ' : SM) (hf : M_M_plainOf N x1 σ = some (r, σ')) : MetI l y_M_plainOf ((Cond.code y_M_plainOf b_M_plainOf 2 (some .int)) :: tblG) rM_M_plainOf D clM (tysM cA) (wM ad cA) [.ref (ad 0), .int x1] σ r σ' :=
  jx_metI (by decide) rfl (Nat.le_of_ble_eq_true rfl) (fun K A h => J_M_M_plainOf K D A ad cA N h x1 σ) hf
def rM_M_isType : Room := { frames := 0, cells := 0, slots := 0, locals := 0 }
theorem rm_ok_M_M_isType : rM_M_isType.cells = 0 ∧ rM_M_isType.slots = 0 := ⟨rfl, rfl⟩
def M_M_isType (x1 : Int32) (σ : SM) : Option (Int32 × SM) := (if x1 < 0 then (some (0, σ)) else (if (gM_M_types σ) ≤ x1 then (some (0, σ)) else (some (1, σ))))
set_option maxRecDepth 100000 in
set_option maxHeartbeats 4000000 in
theorem J_M_M_isType (K : jx_E) (D : va_G) (A : Nat → Prop) (ad : Nat → Nat) (cA : Nat → ClassId) (h : jx_ok K D clM (tysM cA) A 2 b_M_isType y_M_isType.cls ((Cond.code y_M_isType b_M_isType 2 (some .boolean)) :: tblG) rM_M_isType (some .boolean)) : ∀ (x1 : Int32) (σ : SM), J K D clM A 2 (wM ad cA) (jx_Qi K D clM (tysM cA) (wM ad cA) A) 0 0 0 [(0, .ref (ad 0)), (1, .int x1)] [] σ (M_M_isType x1 σ) := by
  intro x1 σ
  rw [M_M_isType]
  refine J_iload_n (q := 1) h d_M_isType_0 rfl rfl ?_
  refine J_if_lt (tgt := 16) h d_M_isType_1 (by decide) ?_ ?_
  · refine J_iconst (v := 0) h d_M_isType_16 (by decide) ?_
    exact J_zret h rfl (by decide) d_M_isType_17
  · refine J_iload_n (q := 1) h d_M_isType_4 rfl rfl ?_
    refine J_aload_n (q := 0) h d_M_isType_5 rfl rfl ?_
    refine J_getf h 0 (wM_0 ad cA σ) (tb_ups in_M) rfl 11 (by decide) (tb_up q_4_93) rfl d_M_isType_6 ?_
    refine J_icmp_ge (tgt := 16) h d_M_isType_9 (by decide) ?_ ?_
    · refine J_iconst (v := 0) h d_M_isType_16 (by decide) ?_
      exact J_zret h rfl (by decide) d_M_isType_17
    · refine J_iconst (v := 1) h d_M_isType_12 (by decide) ?_
      refine J_goto (tgt := 17) h d_M_isType_13 (by decide) ?_
      exact J_zret h rfl (by decide) d_M_isType_17
set_option maxRecDepth 100000 in
theorem cM_M_isType (l : Launch) (D : va_G) (ad : Nat → Nat) (cA : Nat → ClassId) (x1 : Int32) (σ : SM) (r : Int32) (σ' : SM) (hf : M_M_isType x1 σ = some (r, σ')) : MetI l y_M_isType ((Cond.code y_M_isType b_M_isType 2 (some .boolean)) :: tblG) rM_M_isType D clM (tysM cA) (wM ad cA) [.ref (ad 0), .int x1] σ r σ' :=
  jx_metI (by decide) rfl (Nat.le_of_ble_eq_true rfl) (fun K A h => J_M_M_isType K D A ad cA h x1 σ) hf
def rM_M_isClass : Room := { frames := 0, cells := 0, slots := 0, locals := 0 }
theorem rm_ok_M_M_isClass : rM_M_isClass.cells = 0 ∧ rM_M_isClass.slots = 0 := ⟨rfl, rfl⟩
def M_M_isClass (x1 : Int32) (σ : SM) : Option (Int32 × SM) := (if x1 < 0 then (some (0, σ)) else (if (gM_M_classes σ) ≤ x1 then (some (0, σ)) else (some (1, σ))))
set_option maxRecDepth 100000 in
set_option maxHeartbeats 4000000 in
theorem J_M_M_isClass (K : jx_E) (D : va_G) (A : Nat → Prop) (ad : Nat → Nat) (cA : Nat → ClassId) (h : jx_ok K D clM (tysM cA) A 2 b_M_isClass y_M_isClass.cls ((Cond.code y_M_isClass b_M_isClass 2 (some .boolean)) :: tblG) rM_M_isClass (some .boolean)) : ∀ (x1 : Int32) (σ : SM), J K D clM A 2 (wM ad cA) (jx_Qi K D clM (tysM cA) (wM ad cA) A) 0 0 0 [(0, .ref (ad 0)), (1, .int x1)] [] σ (M_M_isClass x1 σ) := by
  intro x1 σ
  rw [M_M_isClass]
  refine J_iload_n (q := 1) h d_M_isClass_0 rfl rfl ?_
  refine J_if_lt (tgt := 16) h d_M_isClass_1 (by decide) ?_ ?_
  · refine J_iconst (v := 0) h d_M_isClass_16 (by decide) ?_
    exact J_zret h rfl (by decide) d_M_isClass_17
  · refine J_iload_n (q := 1) h d_M_isClass_4 rfl rfl ?_
    refine J_aload_n (q := 0) h d_M_isClass_5 rfl rfl ?_
    refine J_getf h 0 (wM_0 ad cA σ) (tb_ups in_M) rfl 4 (by decide) (tb_up q_4_86) rfl d_M_isClass_6 ?_
    refine J_icmp_ge (tgt := 16) h d_M_isClass_9 (by decide) ?_ ?_
    · refine J_iconst (v := 0) h d_M_isClass_16 (by decide) ?_
      exact J_zret h rfl (by decide) d_M_isClass_17
    · refine J_iconst (v := 1) h d_M_isClass_12 (by decide) ?_
      refine J_goto (tgt := 17) h d_M_isClass_13 (by decide) ?_
      exact J_zret h rfl (by decide) d_M_isClass_17
set_option maxRecDepth 100000 in
theorem cM_M_isClass (l : Launch) (D : va_G) (ad : Nat → Nat) (cA : Nat → ClassId) (x1 : Int32) (σ : SM) (r : Int32) (σ' : SM) (hf : M_M_isClass x1 σ = some (r, σ')) : MetI l y_M_isClass ((Cond.code y_M_isClass b_M_isClass 2 (some .boolean)) :: tblG) rM_M_isClass D clM (tysM cA) (wM ad cA) [.ref (ad 0), .int x1] σ r σ' :=
  jx_metI (by decide) rfl (Nat.le_of_ble_eq_true rfl) (fun K A h => J_M_M_isClass K D A ad cA h x1 σ) hf
def rM_M_declare : Room := { frames := 0, cells := 0, slots := 0, locals := 0 }
theorem rm_ok_M_M_declare : rM_M_declare.cells = 0 ∧ rM_M_declare.slots = 0 := ⟨rfl, rfl⟩
def M_M_declare (x1 : Int32) (σ : SM) : Option (Int32 × SM) := (if x1 < 0 then (some ((-2), σ)) else (if x1 ≤ 2 then (if (gM_M_classes σ) = 40 then (some ((-3), σ)) else (if ck (gM_M_classes σ) 40 = true then (nm (tM_M_parameters σ (upd (aM_M_parameters σ) (gM_M_classes σ).toNatClampNeg x1)) (fun (σ1 : SM) => (nm (sM_M_classes σ1 ((gM_M_classes σ1) + 1)) (fun (σ2 : SM) => (some (((gM_M_classes σ2) - 1), σ2)))))) else none)) else (some ((-2), σ))))
set_option maxRecDepth 100000 in
set_option maxHeartbeats 4000000 in
theorem J_M_M_declare (K : jx_E) (D : va_G) (A : Nat → Prop) (ad : Nat → Nat) (cA : Nat → ClassId) (h : jx_ok K D clM (tysM cA) A 2 b_M_declare y_M_declare.cls ((Cond.code y_M_declare b_M_declare 2 (some .int)) :: tblG) rM_M_declare (some .int)) : ∀ (x1 : Int32) (σ : SM), J K D clM A 2 (wM ad cA) (jx_Qi K D clM (tysM cA) (wM ad cA) A) 0 0 0 [(0, .ref (ad 0)), (1, .int x1)] [] σ (M_M_declare x1 σ) := by
  intro x1 σ
  rw [M_M_declare]
  refine J_iload_n (q := 1) h d_M_declare_0 rfl rfl ?_
  refine J_if_lt (tgt := 9) h d_M_declare_1 (by decide) ?_ ?_
  · refine J_bipush (v := (-2)) h d_M_declare_9 (by decide) ?_
    exact J_iret h rfl d_M_declare_11
  · refine J_iload_n (q := 1) h d_M_declare_4 rfl rfl ?_
    refine J_iconst (v := 2) h d_M_declare_5 (by decide) ?_
    refine J_icmp_le (tgt := 12) h d_M_declare_6 (by decide) ?_ ?_
    · refine J_aload_n (q := 0) h d_M_declare_12 rfl rfl ?_
      refine J_getf h 0 (wM_0 ad cA σ) (tb_ups in_M) rfl 4 (by decide) (tb_up q_4_86) rfl d_M_declare_13 ?_
      refine J_bipush (v := 40) h d_M_declare_16 (by decide) ?_
      refine J_icmp_ne (tgt := 24) h d_M_declare_18 (by decide) ?_ ?_
      · refine J_bipush (v := (-3)) h d_M_declare_21 (by decide) ?_
        exact J_iret h rfl d_M_declare_23
      · refine J_aload_n (q := 0) h d_M_declare_24 rfl rfl ?_
        refine J_getf h 0 (wM_0 ad cA σ) (tb_ups in_M) rfl 0 (by decide) (tb_up q_4_82) rfl d_M_declare_25 ?_
        refine J_aload_n (q := 0) h d_M_declare_28 rfl rfl ?_
        refine J_getf h 0 (wM_0 ad cA σ) (tb_ups in_M) rfl 4 (by decide) (tb_up q_4_86) rfl d_M_declare_29 ?_
        refine J_iload_n (q := 1) h d_M_declare_32 rfl rfl ?_
        refine J_iast h 1 0 (wM_1 ad cA σ) rfl (uM_1 ad cA σ _) d_M_declare_33 (fun σ1 => ?_)
        refine J_aload_n (q := 0) h d_M_declare_34 rfl rfl ?_
        refine J_dup h d_M_declare_35 rfl ?_
        refine J_getf h 0 (wM_0 ad cA σ1) (tb_ups in_M) rfl 4 (by decide) (tb_up q_4_86) rfl d_M_declare_36 ?_
        refine J_iconst (v := 1) h d_M_declare_39 (by decide) ?_
        refine J_iadd h d_M_declare_40 ?_
        refine J_putf h 0 (wM_0 ad cA σ1) (tb_ups in_M) rfl ft_M ft_M_ok nm_M 4 (by decide) (tb_up q_4_86) rfl rfl rfl (Nat.le_of_ble_eq_true rfl) (pM_0_4 ad cA σ1 ((gM_M_classes σ1) + 1)) d_M_declare_41 (fun σ2 => ?_)
        refine J_aload_n (q := 0) h d_M_declare_44 rfl rfl ?_
        refine J_getf h 0 (wM_0 ad cA σ2) (tb_ups in_M) rfl 4 (by decide) (tb_up q_4_86) rfl d_M_declare_45 ?_
        refine J_iconst (v := 1) h d_M_declare_48 (by decide) ?_
        refine J_isub h d_M_declare_49 ?_
        exact J_iret h rfl d_M_declare_50
    · refine J_bipush (v := (-2)) h d_M_declare_9 (by decide) ?_
      exact J_iret h rfl d_M_declare_11
set_option maxRecDepth 100000 in
theorem cM_M_declare (l : Launch) (D : va_G) (ad : Nat → Nat) (cA : Nat → ClassId) (x1 : Int32) (σ : SM) (r : Int32) (σ' : SM) (hf : M_M_declare x1 σ = some (r, σ')) : MetI l y_M_declare ((Cond.code y_M_declare b_M_declare 2 (some .int)) :: tblG) rM_M_declare D clM (tysM cA) (wM ad cA) [.ref (ad 0), .int x1] σ r σ' :=
  jx_metI (by decide) rfl (Nat.le_of_ble_eq_true rfl) (fun K A h => J_M_M_declare K D A ad cA h x1 σ) hf
def rM_M_isSeen : Room := { frames := 0, cells := 0, slots := 0, locals := 0 }
theorem rm_ok_M_M_isSeen : rM_M_isSeen.cells = 0 ∧ rM_M_isSeen.slots = 0 := ⟨rfl, rfl⟩
def M_M_isSeen_b18 (v1 : Int32) (s0 : Int32) (σ : SM) : Option (Int32 × SM) := (if ck v1 500 = true then (nm (tM_M_seen σ (upd (aM_M_seen σ) v1.toNatClampNeg (gM_M_looks σ))) (fun (σ1 : SM) => (if zb s0 = true then some (s0, σ1) else none))) else none)
set_option maxRecDepth 100000 in
set_option maxHeartbeats 4000000 in
theorem J_M_M_isSeen_b18 (K : jx_E) (D : va_G) (A : Nat → Prop) (ad : Nat → Nat) (cA : Nat → ClassId) (h : jx_ok K D clM (tysM cA) A 3 b_M_isSeen y_M_isSeen.cls ((Cond.code y_M_isSeen b_M_isSeen 3 (some .boolean)) :: tblG) rM_M_isSeen (some .boolean)) : ∀ (v1 : Int32) (s0 : Int32) (σ : SM), J K D clM A 3 (wM ad cA) (jx_Qi K D clM (tysM cA) (wM ad cA) A) 0 0 18 [(0, .ref (ad 0)), (1, .int v1)] [.int s0] σ (M_M_isSeen_b18 v1 s0 σ) := by
  intro v1 s0 σ
  rw [M_M_isSeen_b18]
  refine J_istore_n (lv' := [(2, .int s0), (0, .ref (ad 0)), (1, .int v1)]) h d_M_isSeen_18 rfl (by decide) rfl ?_
  refine J_aload_n (q := 1) h d_M_isSeen_19 rfl rfl ?_
  refine J_getf h 0 (wM_0 ad cA σ) (tb_ups in_M) rfl 23 (by decide) (tb_up q_4_105) rfl d_M_isSeen_20 ?_
  refine J_iload_n (q := 2) h d_M_isSeen_23 rfl rfl ?_
  refine J_aload_n (q := 1) h d_M_isSeen_24 rfl rfl ?_
  refine J_getf h 0 (wM_0 ad cA σ) (tb_ups in_M) rfl 24 (by decide) (tb_up q_4_106) rfl d_M_isSeen_25 ?_
  refine J_iast h 19 18 (wM_19 ad cA σ) rfl (uM_19 ad cA σ _) d_M_isSeen_28 (fun σ1 => ?_)
  refine J_iload_n (q := 0) h d_M_isSeen_29 rfl rfl ?_
  exact J_zretc h rfl d_M_isSeen_30
def M_M_isSeen (x1 : Int32) (σ : SM) : Option (Int32 × SM) := (if ck x1 500 = true then (if (aM_M_seen σ x1.toNatClampNeg) = (gM_M_looks σ) then (M_M_isSeen_b18 x1 1 σ) else (M_M_isSeen_b18 x1 0 σ)) else none)
set_option maxRecDepth 100000 in
set_option maxHeartbeats 4000000 in
theorem J_M_M_isSeen (K : jx_E) (D : va_G) (A : Nat → Prop) (ad : Nat → Nat) (cA : Nat → ClassId) (h : jx_ok K D clM (tysM cA) A 3 b_M_isSeen y_M_isSeen.cls ((Cond.code y_M_isSeen b_M_isSeen 3 (some .boolean)) :: tblG) rM_M_isSeen (some .boolean)) : ∀ (x1 : Int32) (σ : SM), J K D clM A 3 (wM ad cA) (jx_Qi K D clM (tysM cA) (wM ad cA) A) 0 0 0 [(0, .ref (ad 0)), (1, .int x1)] [] σ (M_M_isSeen x1 σ) := by
  intro x1 σ
  rw [M_M_isSeen]
  refine J_aload_n (q := 0) h d_M_isSeen_0 rfl rfl ?_
  refine J_getf h 0 (wM_0 ad cA σ) (tb_ups in_M) rfl 23 (by decide) (tb_up q_4_105) rfl d_M_isSeen_1 ?_
  refine J_iload_n (q := 1) h d_M_isSeen_4 rfl rfl ?_
  refine J_iald h 19 18 (wM_19 ad cA σ) rfl d_M_isSeen_5 ?_
  refine J_aload_n (q := 0) h d_M_isSeen_6 rfl rfl ?_
  refine J_getf h 0 (wM_0 ad cA σ) (tb_ups in_M) rfl 24 (by decide) (tb_up q_4_106) rfl d_M_isSeen_7 ?_
  refine J_icmp_ne (tgt := 17) h d_M_isSeen_10 (by decide) ?_ ?_
  · refine J_iconst (v := 1) h d_M_isSeen_13 (by decide) ?_
    refine J_goto (tgt := 18) h d_M_isSeen_14 (by decide) ?_
    exact J_M_M_isSeen_b18 K D A ad cA h x1 1 σ
  · refine J_iconst (v := 0) h d_M_isSeen_17 (by decide) ?_
    exact J_M_M_isSeen_b18 K D A ad cA h x1 0 σ
set_option maxRecDepth 100000 in
theorem cM_M_isSeen (l : Launch) (D : va_G) (ad : Nat → Nat) (cA : Nat → ClassId) (x1 : Int32) (σ : SM) (r : Int32) (σ' : SM) (hf : M_M_isSeen x1 σ = some (r, σ')) : MetI l y_M_isSeen ((Cond.code y_M_isSeen b_M_isSeen 3 (some .boolean)) :: tblG) rM_M_isSeen D clM (tysM cA) (wM ad cA) [.ref (ad 0), .int x1] σ r σ' :=
  jx_metI (by decide) rfl (Nat.le_of_ble_eq_true rfl) (fun K A h => J_M_M_isSeen K D A ad cA h x1 σ) hf
def rM_M_isOfBefore : Room := { frames := 1, cells := 0, slots := 0, locals := 22 }
theorem rm_ok_M_M_isOfBefore : rM_M_isOfBefore.cells = 0 ∧ rM_M_isOfBefore.slots = 0 := ⟨rfl, rfl⟩
def M_M_isOfBefore_b277 (N : Nat) (k34 : Int32 → Int32 → SM → Option (Int32 × SM)) (v1 : Int32) (v3 : Int32) (σ : SM) : Option (Int32 × SM) := (k34 v1 v3 σ)
set_option maxRecDepth 100000 in
set_option maxHeartbeats 4000000 in
theorem J_M_M_isOfBefore_b277 (K : jx_E) (D : va_G) (A : Nat → Prop) (ad : Nat → Nat) (cA : Nat → ClassId) (N : Nat) (h : jx_ok K D clM (tysM cA) A 6 b_M_isOfBefore y_M_isOfBefore.cls ((Cond.code y_M_isOfBefore b_M_isOfBefore 6 (some .boolean)) :: tblG) rM_M_isOfBefore (some .boolean)) (k34 : Int32 → Int32 → SM → Option (Int32 × SM)) (hk34 : ∀ (v1 : Int32) (v3 : Int32) (σ : SM), J K D clM A 6 (wM ad cA) (jx_Qi K D clM (tysM cA) (wM ad cA) A) 0 0 34 [(0, .ref (ad 0)), (1, .int v1), (3, .int v3)] [] σ (k34 v1 v3 σ)) : ∀ (v1 : Int32) (v3 : Int32) (σ : SM), J K D clM A 6 (wM ad cA) (jx_Qi K D clM (tysM cA) (wM ad cA) A) 0 0 277 [(0, .ref (ad 0)), (1, .int v1), (3, .int v3)] [] σ (M_M_isOfBefore_b277 N k34 v1 v3 σ) := by
  intro v1 v3 σ
  rw [M_M_isOfBefore_b277]
  refine J_goto (tgt := 34) h d_M_isOfBefore_277 (by decide) ?_
  exact hk34 v1 v3 σ
def M_M_isOfBefore_b237 (N : Nat) (k34 : Int32 → Int32 → SM → Option (Int32 × SM)) (v1 : Int32) (v3 : Int32) (v4 : Int32) (v5 : Int32) (σ : SM) : Option (Int32 × SM) := (if v5 = 1 then (if ck v4 500 = true then (if (aM_M_three σ v4.toNatClampNeg) = (-1) then (M_M_isOfBefore_b277 N k34 v1 v3 σ) else (nm ((gM_M_todos σ)) (fun (y18 : Int32) => (nm (sM_M_todos σ (y18 + 1)) (fun (σ19 : SM) => (if ck v4 500 = true then (if ck y18 2000 = true then (nm (tM_M_todo σ19 (upd (aM_M_todo σ19) y18.toNatClampNeg (aM_M_three σ19 v4.toNatClampNeg))) (fun (σ20 : SM) => (M_M_isOfBefore_b277 N k34 v1 v3 σ20))) else none) else none)))))) else none) else (M_M_isOfBefore_b277 N k34 v1 v3 σ))
set_option maxRecDepth 100000 in
set_option maxHeartbeats 4000000 in
theorem J_M_M_isOfBefore_b237 (K : jx_E) (D : va_G) (A : Nat → Prop) (ad : Nat → Nat) (cA : Nat → ClassId) (N : Nat) (h : jx_ok K D clM (tysM cA) A 6 b_M_isOfBefore y_M_isOfBefore.cls ((Cond.code y_M_isOfBefore b_M_isOfBefore 6 (some .boolean)) :: tblG) rM_M_isOfBefore (some .boolean)) (k34 : Int32 → Int32 → SM → Option (Int32 × SM)) (hk34 : ∀ (v1 : Int32) (v3 : Int32) (σ : SM), J K D clM A 6 (wM ad cA) (jx_Qi K D clM (tysM cA) (wM ad cA) A) 0 0 34 [(0, .ref (ad 0)), (1, .int v1), (3, .int v3)] [] σ (k34 v1 v3 σ)) : ∀ (v1 : Int32) (v3 : Int32) (v4 : Int32) (v5 : Int32) (σ : SM), J K D clM A 6 (wM ad cA) (jx_Qi K D clM (tysM cA) (wM ad cA) A) 0 0 237 [(0, .ref (ad 0)), (1, .int v1), (3, .int v3), (4, .int v4), (5, .int v5)] [] σ (M_M_isOfBefore_b237 N k34 v1 v3 v4 v5 σ) := by
  intro v1 v3 v4 v5 σ
  rw [M_M_isOfBefore_b237]
  refine J_iload (q := 4) h d_M_isOfBefore_237 rfl ?_
  refine J_iconst (v := 1) h d_M_isOfBefore_239 (by decide) ?_
  refine J_icmp_ne (tgt := 277) h d_M_isOfBefore_240 (by decide) ?_ ?_
  · refine J_aload_n (q := 0) h d_M_isOfBefore_243 rfl rfl ?_
    refine J_getf h 0 (wM_0 ad cA σ) (tb_ups in_M) rfl 8 (by decide) (tb_up q_4_90) rfl d_M_isOfBefore_244 ?_
    refine J_iload (q := 3) h d_M_isOfBefore_247 rfl ?_
    refine J_iald h 8 7 (wM_8 ad cA σ) rfl d_M_isOfBefore_249 ?_
    refine J_iconst (v := (-1)) h d_M_isOfBefore_250 (by decide) ?_
    refine J_icmp_eq (tgt := 277) h d_M_isOfBefore_251 (by decide) ?_ ?_
    · refine J_sub [0, 1, 2] rfl ?_
      exact J_M_M_isOfBefore_b277 K D A ad cA N h k34 hk34 v1 v3 σ
    · refine J_aload_n (q := 0) h d_M_isOfBefore_254 rfl rfl ?_
      refine J_getf h 0 (wM_0 ad cA σ) (tb_ups in_M) rfl 13 (by decide) (tb_up q_4_95) rfl d_M_isOfBefore_255 ?_
      refine J_aload_n (q := 0) h d_M_isOfBefore_258 rfl rfl ?_
      refine J_dup h d_M_isOfBefore_259 rfl ?_
      refine J_getf h 0 (wM_0 ad cA σ) (tb_ups in_M) rfl 16 (by decide) (tb_up q_4_98) rfl d_M_isOfBefore_260 ?_
      refine J_nmi (fun y18 => ?_)
      refine J_dup_x1 h d_M_isOfBefore_263 rfl rfl ?_
      refine J_iconst (v := 1) h d_M_isOfBefore_264 (by decide) ?_
      refine J_iadd h d_M_isOfBefore_265 ?_
      refine J_putf h 0 (wM_0 ad cA σ) (tb_ups in_M) rfl ft_M ft_M_ok nm_M 16 (by decide) (tb_up q_4_98) rfl rfl rfl (Nat.le_of_ble_eq_true rfl) (pM_0_16 ad cA σ (y18 + 1)) d_M_isOfBefore_266 (fun σ19 => ?_)
      refine J_aload_n (q := 0) h d_M_isOfBefore_269 rfl rfl ?_
      refine J_getf h 0 (wM_0 ad cA σ19) (tb_ups in_M) rfl 8 (by decide) (tb_up q_4_90) rfl d_M_isOfBefore_270 ?_
      refine J_iload (q := 3) h d_M_isOfBefore_273 rfl ?_
      refine J_iald h 8 7 (wM_8 ad cA σ19) rfl d_M_isOfBefore_275 ?_
      refine J_iast h 11 10 (wM_11 ad cA σ19) rfl (uM_11 ad cA σ19 _) d_M_isOfBefore_276 (fun σ20 => ?_)
      refine J_sub [0, 1, 2] rfl ?_
      exact J_M_M_isOfBefore_b277 K D A ad cA N h k34 hk34 v1 v3 σ20
  · refine J_sub [0, 1, 2] rfl ?_
    exact J_M_M_isOfBefore_b277 K D A ad cA N h k34 hk34 v1 v3 σ
def M_M_isOfBefore_b214 (N : Nat) (k34 : Int32 → Int32 → SM → Option (Int32 × SM)) (v1 : Int32) (v3 : Int32) (v4 : Int32) (v5 : Int32) (σ : SM) : Option (Int32 × SM) := (nm ((gM_M_todos σ)) (fun (y15 : Int32) => (nm (sM_M_todos σ (y15 + 1)) (fun (σ16 : SM) => (if ck v4 500 = true then (if ck y15 2000 = true then (nm (tM_M_todo σ16 (upd (aM_M_todo σ16) y15.toNatClampNeg (aM_M_two σ16 v4.toNatClampNeg))) (fun (σ17 : SM) => (M_M_isOfBefore_b237 N k34 v1 v3 v4 v5 σ17))) else none) else none)))))
set_option maxRecDepth 100000 in
set_option maxHeartbeats 4000000 in
theorem J_M_M_isOfBefore_b214 (K : jx_E) (D : va_G) (A : Nat → Prop) (ad : Nat → Nat) (cA : Nat → ClassId) (N : Nat) (h : jx_ok K D clM (tysM cA) A 6 b_M_isOfBefore y_M_isOfBefore.cls ((Cond.code y_M_isOfBefore b_M_isOfBefore 6 (some .boolean)) :: tblG) rM_M_isOfBefore (some .boolean)) (k34 : Int32 → Int32 → SM → Option (Int32 × SM)) (hk34 : ∀ (v1 : Int32) (v3 : Int32) (σ : SM), J K D clM A 6 (wM ad cA) (jx_Qi K D clM (tysM cA) (wM ad cA) A) 0 0 34 [(0, .ref (ad 0)), (1, .int v1), (3, .int v3)] [] σ (k34 v1 v3 σ)) : ∀ (v1 : Int32) (v3 : Int32) (v4 : Int32) (v5 : Int32) (σ : SM), J K D clM A 6 (wM ad cA) (jx_Qi K D clM (tysM cA) (wM ad cA) A) 0 0 214 [(0, .ref (ad 0)), (1, .int v1), (3, .int v3), (4, .int v4), (5, .int v5)] [] σ (M_M_isOfBefore_b214 N k34 v1 v3 v4 v5 σ) := by
  intro v1 v3 v4 v5 σ
  rw [M_M_isOfBefore_b214]
  refine J_aload_n (q := 0) h d_M_isOfBefore_214 rfl rfl ?_
  refine J_getf h 0 (wM_0 ad cA σ) (tb_ups in_M) rfl 13 (by decide) (tb_up q_4_95) rfl d_M_isOfBefore_215 ?_
  refine J_aload_n (q := 0) h d_M_isOfBefore_218 rfl rfl ?_
  refine J_dup h d_M_isOfBefore_219 rfl ?_
  refine J_getf h 0 (wM_0 ad cA σ) (tb_ups in_M) rfl 16 (by decide) (tb_up q_4_98) rfl d_M_isOfBefore_220 ?_
  refine J_nmi (fun y15 => ?_)
  refine J_dup_x1 h d_M_isOfBefore_223 rfl rfl ?_
  refine J_iconst (v := 1) h d_M_isOfBefore_224 (by decide) ?_
  refine J_iadd h d_M_isOfBefore_225 ?_
  refine J_putf h 0 (wM_0 ad cA σ) (tb_ups in_M) rfl ft_M ft_M_ok nm_M 16 (by decide) (tb_up q_4_98) rfl rfl rfl (Nat.le_of_ble_eq_true rfl) (pM_0_16 ad cA σ (y15 + 1)) d_M_isOfBefore_226 (fun σ16 => ?_)
  refine J_aload_n (q := 0) h d_M_isOfBefore_229 rfl rfl ?_
  refine J_getf h 0 (wM_0 ad cA σ16) (tb_ups in_M) rfl 7 (by decide) (tb_up q_4_89) rfl d_M_isOfBefore_230 ?_
  refine J_iload (q := 3) h d_M_isOfBefore_233 rfl ?_
  refine J_iald h 7 6 (wM_7 ad cA σ16) rfl d_M_isOfBefore_235 ?_
  refine J_iast h 11 10 (wM_11 ad cA σ16) rfl (uM_11 ad cA σ16 _) d_M_isOfBefore_236 (fun σ17 => ?_)
  exact J_M_M_isOfBefore_b237 K D A ad cA N h k34 hk34 v1 v3 v4 v5 σ17
def M_M_isOfBefore_b192 (N : Nat) (k34 : Int32 → Int32 → SM → Option (Int32 × SM)) (v1 : Int32) (v3 : Int32) (v4 : Int32) (v5 : Int32) (σ : SM) : Option (Int32 × SM) := (if v5 = 1 then (M_M_isOfBefore_b214 N k34 v1 v3 v4 v5 σ) else (if v5 = 2 then (if ck v4 500 = true then (if (aM_M_one σ v4.toNatClampNeg) ≤ 0 then (M_M_isOfBefore_b237 N k34 v1 v3 v4 v5 σ) else (M_M_isOfBefore_b214 N k34 v1 v3 v4 v5 σ)) else none) else (M_M_isOfBefore_b237 N k34 v1 v3 v4 v5 σ)))
set_option maxRecDepth 100000 in
set_option maxHeartbeats 4000000 in
theorem J_M_M_isOfBefore_b192 (K : jx_E) (D : va_G) (A : Nat → Prop) (ad : Nat → Nat) (cA : Nat → ClassId) (N : Nat) (h : jx_ok K D clM (tysM cA) A 6 b_M_isOfBefore y_M_isOfBefore.cls ((Cond.code y_M_isOfBefore b_M_isOfBefore 6 (some .boolean)) :: tblG) rM_M_isOfBefore (some .boolean)) (k34 : Int32 → Int32 → SM → Option (Int32 × SM)) (hk34 : ∀ (v1 : Int32) (v3 : Int32) (σ : SM), J K D clM A 6 (wM ad cA) (jx_Qi K D clM (tysM cA) (wM ad cA) A) 0 0 34 [(0, .ref (ad 0)), (1, .int v1), (3, .int v3)] [] σ (k34 v1 v3 σ)) : ∀ (v1 : Int32) (v3 : Int32) (v4 : Int32) (v5 : Int32) (σ : SM), J K D clM A 6 (wM ad cA) (jx_Qi K D clM (tysM cA) (wM ad cA) A) 0 0 192 [(0, .ref (ad 0)), (1, .int v1), (3, .int v3), (4, .int v4), (5, .int v5)] [] σ (M_M_isOfBefore_b192 N k34 v1 v3 v4 v5 σ) := by
  intro v1 v3 v4 v5 σ
  rw [M_M_isOfBefore_b192]
  refine J_iload (q := 4) h d_M_isOfBefore_192 rfl ?_
  refine J_iconst (v := 1) h d_M_isOfBefore_194 (by decide) ?_
  refine J_icmp_eq (tgt := 214) h d_M_isOfBefore_195 (by decide) ?_ ?_
  · exact J_M_M_isOfBefore_b214 K D A ad cA N h k34 hk34 v1 v3 v4 v5 σ
  · refine J_iload (q := 4) h d_M_isOfBefore_198 rfl ?_
    refine J_iconst (v := 2) h d_M_isOfBefore_200 (by decide) ?_
    refine J_icmp_ne (tgt := 237) h d_M_isOfBefore_201 (by decide) ?_ ?_
    · refine J_aload_n (q := 0) h d_M_isOfBefore_204 rfl rfl ?_
      refine J_getf h 0 (wM_0 ad cA σ) (tb_ups in_M) rfl 6 (by decide) (tb_up q_4_88) rfl d_M_isOfBefore_205 ?_
      refine J_iload (q := 3) h d_M_isOfBefore_208 rfl ?_
      refine J_iald h 6 5 (wM_6 ad cA σ) rfl d_M_isOfBefore_210 ?_
      refine J_if_le (tgt := 237) h d_M_isOfBefore_211 (by decide) ?_ ?_
      · exact J_M_M_isOfBefore_b237 K D A ad cA N h k34 hk34 v1 v3 v4 v5 σ
      · exact J_M_M_isOfBefore_b214 K D A ad cA N h k34 hk34 v1 v3 v4 v5 σ
    · exact J_M_M_isOfBefore_b237 K D A ad cA N h k34 hk34 v1 v3 v4 v5 σ
def M_M_isOfBefore_b162 (N : Nat) (k34 : Int32 → Int32 → SM → Option (Int32 × SM)) (v1 : Int32) (v4 : Int32) (v5 : Int32) (s0 : Int32) (σ : SM) : Option (Int32 × SM) := (if v5 = 4 then (nm ((gM_M_todos σ)) (fun (y12 : Int32) => (nm (sM_M_todos σ (y12 + 1)) (fun (σ13 : SM) => (if ck v4 500 = true then (if ck y12 2000 = true then (nm (tM_M_todo σ13 (upd (aM_M_todo σ13) y12.toNatClampNeg (aM_M_one σ13 v4.toNatClampNeg))) (fun (σ14 : SM) => (M_M_isOfBefore_b192 N k34 v1 s0 v4 v5 σ14))) else none) else none))))) else (M_M_isOfBefore_b192 N k34 v1 s0 v4 v5 σ))
set_option maxRecDepth 100000 in
set_option maxHeartbeats 4000000 in
theorem J_M_M_isOfBefore_b162 (K : jx_E) (D : va_G) (A : Nat → Prop) (ad : Nat → Nat) (cA : Nat → ClassId) (N : Nat) (h : jx_ok K D clM (tysM cA) A 6 b_M_isOfBefore y_M_isOfBefore.cls ((Cond.code y_M_isOfBefore b_M_isOfBefore 6 (some .boolean)) :: tblG) rM_M_isOfBefore (some .boolean)) (k34 : Int32 → Int32 → SM → Option (Int32 × SM)) (hk34 : ∀ (v1 : Int32) (v3 : Int32) (σ : SM), J K D clM A 6 (wM ad cA) (jx_Qi K D clM (tysM cA) (wM ad cA) A) 0 0 34 [(0, .ref (ad 0)), (1, .int v1), (3, .int v3)] [] σ (k34 v1 v3 σ)) : ∀ (v1 : Int32) (v4 : Int32) (v5 : Int32) (s0 : Int32) (σ : SM), J K D clM A 6 (wM ad cA) (jx_Qi K D clM (tysM cA) (wM ad cA) A) 0 0 162 [(0, .ref (ad 0)), (1, .int v1), (4, .int v4), (5, .int v5)] [.int s0] σ (M_M_isOfBefore_b162 N k34 v1 v4 v5 s0 σ) := by
  intro v1 v4 v5 s0 σ
  rw [M_M_isOfBefore_b162]
  refine J_istore_n (lv' := [(3, .int s0), (0, .ref (ad 0)), (1, .int v1), (4, .int v4), (5, .int v5)]) h d_M_isOfBefore_162 rfl (by decide) rfl ?_
  refine J_iload (q := 4) h d_M_isOfBefore_163 rfl ?_
  refine J_iconst (v := 4) h d_M_isOfBefore_165 (by decide) ?_
  refine J_icmp_ne (tgt := 192) h d_M_isOfBefore_166 (by decide) ?_ ?_
  · refine J_aload_n (q := 1) h d_M_isOfBefore_169 rfl rfl ?_
    refine J_getf h 0 (wM_0 ad cA σ) (tb_ups in_M) rfl 13 (by decide) (tb_up q_4_95) rfl d_M_isOfBefore_170 ?_
    refine J_aload_n (q := 1) h d_M_isOfBefore_173 rfl rfl ?_
    refine J_dup h d_M_isOfBefore_174 rfl ?_
    refine J_getf h 0 (wM_0 ad cA σ) (tb_ups in_M) rfl 16 (by decide) (tb_up q_4_98) rfl d_M_isOfBefore_175 ?_
    refine J_nmi (fun y12 => ?_)
    refine J_dup_x1 h d_M_isOfBefore_178 rfl rfl ?_
    refine J_iconst (v := 1) h d_M_isOfBefore_179 (by decide) ?_
    refine J_iadd h d_M_isOfBefore_180 ?_
    refine J_putf h 0 (wM_0 ad cA σ) (tb_ups in_M) rfl ft_M ft_M_ok nm_M 16 (by decide) (tb_up q_4_98) rfl rfl rfl (Nat.le_of_ble_eq_true rfl) (pM_0_16 ad cA σ (y12 + 1)) d_M_isOfBefore_181 (fun σ13 => ?_)
    refine J_aload_n (q := 1) h d_M_isOfBefore_184 rfl rfl ?_
    refine J_getf h 0 (wM_0 ad cA σ13) (tb_ups in_M) rfl 6 (by decide) (tb_up q_4_88) rfl d_M_isOfBefore_185 ?_
    refine J_iload (q := 3) h d_M_isOfBefore_188 rfl ?_
    refine J_iald h 6 5 (wM_6 ad cA σ13) rfl d_M_isOfBefore_190 ?_
    refine J_iast h 11 10 (wM_11 ad cA σ13) rfl (uM_11 ad cA σ13 _) d_M_isOfBefore_191 (fun σ14 => ?_)
    refine J_sub [1, 2, 0, 3, 4] rfl ?_
    exact J_M_M_isOfBefore_b192 K D A ad cA N h k34 hk34 v1 s0 v4 v5 σ14
  · refine J_sub [1, 2, 0, 3, 4] rfl ?_
    exact J_M_M_isOfBefore_b192 K D A ad cA N h k34 hk34 v1 s0 v4 v5 σ
def M_M_isOfBefore_b95 (N : Nat) (k34 : Int32 → Int32 → SM → Option (Int32 × SM)) (v1 : Int32) (v4 : Int32) (v5 : Int32) (σ : SM) : Option (Int32 × SM) := (if ck v4 500 = true then (if v1 ≤ (aM_M_one σ v4.toNatClampNeg) then (M_M_isOfBefore_b162 N k34 v1 v4 v5 0 σ) else (M_M_isOfBefore_b162 N k34 v1 v4 v5 1 σ)) else none)
set_option maxRecDepth 100000 in
set_option maxHeartbeats 4000000 in
theorem J_M_M_isOfBefore_b95 (K : jx_E) (D : va_G) (A : Nat → Prop) (ad : Nat → Nat) (cA : Nat → ClassId) (N : Nat) (h : jx_ok K D clM (tysM cA) A 6 b_M_isOfBefore y_M_isOfBefore.cls ((Cond.code y_M_isOfBefore b_M_isOfBefore 6 (some .boolean)) :: tblG) rM_M_isOfBefore (some .boolean)) (k34 : Int32 → Int32 → SM → Option (Int32 × SM)) (hk34 : ∀ (v1 : Int32) (v3 : Int32) (σ : SM), J K D clM A 6 (wM ad cA) (jx_Qi K D clM (tysM cA) (wM ad cA) A) 0 0 34 [(0, .ref (ad 0)), (1, .int v1), (3, .int v3)] [] σ (k34 v1 v3 σ)) : ∀ (v1 : Int32) (v4 : Int32) (v5 : Int32) (σ : SM), J K D clM A 6 (wM ad cA) (jx_Qi K D clM (tysM cA) (wM ad cA) A) 0 0 95 [(0, .ref (ad 0)), (1, .int v1), (4, .int v4), (5, .int v5)] [] σ (M_M_isOfBefore_b95 N k34 v1 v4 v5 σ) := by
  intro v1 v4 v5 σ
  rw [M_M_isOfBefore_b95]
  refine J_aload_n (q := 0) h d_M_isOfBefore_95 rfl rfl ?_
  refine J_getf h 0 (wM_0 ad cA σ) (tb_ups in_M) rfl 6 (by decide) (tb_up q_4_88) rfl d_M_isOfBefore_96 ?_
  refine J_iload (q := 2) h d_M_isOfBefore_99 rfl ?_
  refine J_iald h 6 5 (wM_6 ad cA σ) rfl d_M_isOfBefore_101 ?_
  refine J_iload_n (q := 1) h d_M_isOfBefore_102 rfl rfl ?_
  refine J_icmp_ge (tgt := 110) h d_M_isOfBefore_103 (by decide) ?_ ?_
  · refine J_iconst (v := 0) h d_M_isOfBefore_110 (by decide) ?_
    refine J_goto (tgt := 162) h d_M_isOfBefore_111 (by decide) ?_
    exact J_M_M_isOfBefore_b162 K D A ad cA N h k34 hk34 v1 v4 v5 0 σ
  · refine J_iconst (v := 1) h d_M_isOfBefore_106 (by decide) ?_
    refine J_goto (tgt := 162) h d_M_isOfBefore_107 (by decide) ?_
    exact J_M_M_isOfBefore_b162 K D A ad cA N h k34 hk34 v1 v4 v5 1 σ
def M_M_isOfBefore_b157 (N : Nat) (k34 : Int32 → Int32 → SM → Option (Int32 × SM)) (v1 : Int32) (v4 : Int32) (v5 : Int32) (σ : SM) : Option (Int32 × SM) := (M_M_isOfBefore_b162 N k34 v1 v4 v5 1 σ)
set_option maxRecDepth 100000 in
set_option maxHeartbeats 4000000 in
theorem J_M_M_isOfBefore_b157 (K : jx_E) (D : va_G) (A : Nat → Prop) (ad : Nat → Nat) (cA : Nat → ClassId) (N : Nat) (h : jx_ok K D clM (tysM cA) A 6 b_M_isOfBefore y_M_isOfBefore.cls ((Cond.code y_M_isOfBefore b_M_isOfBefore 6 (some .boolean)) :: tblG) rM_M_isOfBefore (some .boolean)) (k34 : Int32 → Int32 → SM → Option (Int32 × SM)) (hk34 : ∀ (v1 : Int32) (v3 : Int32) (σ : SM), J K D clM A 6 (wM ad cA) (jx_Qi K D clM (tysM cA) (wM ad cA) A) 0 0 34 [(0, .ref (ad 0)), (1, .int v1), (3, .int v3)] [] σ (k34 v1 v3 σ)) : ∀ (v1 : Int32) (v4 : Int32) (v5 : Int32) (σ : SM), J K D clM A 6 (wM ad cA) (jx_Qi K D clM (tysM cA) (wM ad cA) A) 0 0 157 [(0, .ref (ad 0)), (1, .int v1), (4, .int v4), (5, .int v5)] [] σ (M_M_isOfBefore_b157 N k34 v1 v4 v5 σ) := by
  intro v1 v4 v5 σ
  rw [M_M_isOfBefore_b157]
  refine J_iconst (v := 1) h d_M_isOfBefore_157 (by decide) ?_
  refine J_goto (tgt := 162) h d_M_isOfBefore_158 (by decide) ?_
  exact J_M_M_isOfBefore_b162 K D A ad cA N h k34 hk34 v1 v4 v5 1 σ
def M_M_isOfBefore_L34 (N : Nat) : Nat → Int32 → Int32 → SM → Option (Int32 × SM)
  | 0, _, _, _ => none
  | n + 1, v1, v3, σ => (if (gM_M_todos σ) ≤ 0 then (if zb v3 = true then some (v3, σ) else none) else (if v3 = 0 then (if zb v3 = true then some (v3, σ) else none) else (nm (((gM_M_todos σ) - 1)) (fun (y6 : Int32) => (nm (sM_M_todos σ y6) (fun (σ7 : SM) => (if ck y6 2000 = true then (nm ((aM_M_todo σ7 y6.toNatClampNeg)) (fun (y8 : Int32) => (bd (M_M_isSeen y8 σ7) (fun (r9 : Int32) (σ10 : SM) => (if r9 = 0 then (if ck y8 500 = true then (nm ((aM_M_kind σ10 y8.toNatClampNeg)) (fun (y11 : Int32) => (if y11 = 0 then (M_M_isOfBefore_b95 N (M_M_isOfBefore_L34 N  n) v1 y8 y11 σ10) else (if y11 = 1 then (M_M_isOfBefore_b95 N (M_M_isOfBefore_L34 N  n) v1 y8 y11 σ10) else (if y11 = 3 then (if ck y8 500 = true then (if (aM_M_one σ10 y8.toNatClampNeg) = v1 then (M_M_isOfBefore_b162 N (M_M_isOfBefore_L34 N  n) v1 y8 y11 1 σ10) else (M_M_isOfBefore_b162 N (M_M_isOfBefore_L34 N  n) v1 y8 y11 0 σ10)) else none) else (if y11 = 2 then (M_M_isOfBefore_b157 N (M_M_isOfBefore_L34 N  n) v1 y8 y11 σ10) else (if y11 = 4 then (M_M_isOfBefore_b157 N (M_M_isOfBefore_L34 N  n) v1 y8 y11 σ10) else (if y11 = 5 then (M_M_isOfBefore_b157 N (M_M_isOfBefore_L34 N  n) v1 y8 y11 σ10) else (M_M_isOfBefore_b162 N (M_M_isOfBefore_L34 N  n) v1 y8 y11 0 σ10))))))))) else none) else (M_M_isOfBefore_L34 N  n v1 v3 σ10)))))) else none)))))))
set_option maxRecDepth 100000 in
set_option maxHeartbeats 4000000 in
theorem J_M_M_isOfBefore_L34 (K : jx_E) (D : va_G) (A : Nat → Prop) (ad : Nat → Nat) (cA : Nat → ClassId) (N : Nat) (h : jx_ok K D clM (tysM cA) A 6 b_M_isOfBefore y_M_isOfBefore.cls ((Cond.code y_M_isOfBefore b_M_isOfBefore 6 (some .boolean)) :: tblG) rM_M_isOfBefore (some .boolean)) : ∀ (n : Nat) (v1 : Int32) (v3 : Int32) (σ : SM), J K D clM A 6 (wM ad cA) (jx_Qi K D clM (tysM cA) (wM ad cA) A) 0 0 34 [(0, .ref (ad 0)), (1, .int v1), (3, .int v3)] [] σ (M_M_isOfBefore_L34 N n v1 v3 σ) := by
  intro n
  induction n with
  | zero => intro v1 v3 σ; exact J_none
  | succ n ih =>
    intro v1 v3 σ
    rw [M_M_isOfBefore_L34]
    refine J_aload_n (q := 0) h d_M_isOfBefore_34 rfl rfl ?_
    refine J_getf h 0 (wM_0 ad cA σ) (tb_ups in_M) rfl 16 (by decide) (tb_up q_4_98) rfl d_M_isOfBefore_35 ?_
    refine J_if_le (tgt := 280) h d_M_isOfBefore_38 (by decide) ?_ ?_
    · refine J_iload_n (q := 2) h d_M_isOfBefore_280 rfl rfl ?_
      exact J_zretc h rfl d_M_isOfBefore_281
    · refine J_iload_n (q := 2) h d_M_isOfBefore_41 rfl rfl ?_
      refine J_if_eq (tgt := 280) h d_M_isOfBefore_42 (by decide) ?_ ?_
      · refine J_iload_n (q := 2) h d_M_isOfBefore_280 rfl rfl ?_
        exact J_zretc h rfl d_M_isOfBefore_281
      · refine J_aload_n (q := 0) h d_M_isOfBefore_45 rfl rfl ?_
        refine J_getf h 0 (wM_0 ad cA σ) (tb_ups in_M) rfl 13 (by decide) (tb_up q_4_95) rfl d_M_isOfBefore_46 ?_
        refine J_aload_n (q := 0) h d_M_isOfBefore_49 rfl rfl ?_
        refine J_dup h d_M_isOfBefore_50 rfl ?_
        refine J_getf h 0 (wM_0 ad cA σ) (tb_ups in_M) rfl 16 (by decide) (tb_up q_4_98) rfl d_M_isOfBefore_51 ?_
        refine J_iconst (v := 1) h d_M_isOfBefore_54 (by decide) ?_
        refine J_isub h d_M_isOfBefore_55 ?_
        refine J_nmi (fun y6 => ?_)
        refine J_dup_x1 h d_M_isOfBefore_56 rfl rfl ?_
        refine J_putf h 0 (wM_0 ad cA σ) (tb_ups in_M) rfl ft_M ft_M_ok nm_M 16 (by decide) (tb_up q_4_98) rfl rfl rfl (Nat.le_of_ble_eq_true rfl) (pM_0_16 ad cA σ y6) d_M_isOfBefore_57 (fun σ7 => ?_)
        refine J_iald h 11 10 (wM_11 ad cA σ7) rfl d_M_isOfBefore_60 ?_
        refine J_nmi (fun y8 => ?_)
        refine J_istore (lv' := [(4, .int y8), (0, .ref (ad 0)), (1, .int v1), (3, .int v3)]) h d_M_isOfBefore_61 (by decide) rfl ?_
        refine J_aload_n (q := 1) h d_M_isOfBefore_63 rfl rfl ?_
        refine J_iload (q := 0) h d_M_isOfBefore_64 rfl ?_
        refine J_callVi (As := [.int y8]) (st := []) (rmc := rM_M_isSeen) (q0 := 0) h (fun _ _ hf => cM_M_isSeen (jl K) D ad cA y8 σ7 _ _ hf) (gd_V q_5_62 q_5_64 q_s_30 q_1_12 q_5_65) rfl ⟨rfl, rfl⟩ dd_M_isSeen ⟨Nat.le_of_ble_eq_true rfl, Nat.le_of_ble_eq_true rfl⟩ rfl rfl (wM_0 ad cA σ7) rfl rfl (Nat.le_of_ble_eq_true rfl) ⟨Nat.zero_le _, Nat.zero_le _⟩ d_M_isOfBefore_66 (fun r9 σ10 => ?_)
        refine J_if_eq (tgt := 75) h d_M_isOfBefore_69 (by decide) ?_ ?_
        · refine J_aload_n (q := 1) h d_M_isOfBefore_75 rfl rfl ?_
          refine J_getf h 0 (wM_0 ad cA σ10) (tb_ups in_M) rfl 5 (by decide) (tb_up q_4_87) rfl d_M_isOfBefore_76 ?_
          refine J_iload (q := 0) h d_M_isOfBefore_79 rfl ?_
          refine J_iald h 5 4 (wM_5 ad cA σ10) rfl d_M_isOfBefore_81 ?_
          refine J_nmi (fun y11 => ?_)
          refine J_istore (lv' := [(5, .int y11), (4, .int y8), (0, .ref (ad 0)), (1, .int v1), (3, .int v3)]) h d_M_isOfBefore_82 (by decide) rfl ?_
          refine J_iload (q := 0) h d_M_isOfBefore_84 rfl ?_
          refine J_if_eq (tgt := 95) h d_M_isOfBefore_86 (by decide) ?_ ?_
          · refine J_sub [2, 3, 1, 0] rfl ?_
            exact J_M_M_isOfBefore_b95 K D A ad cA N h (M_M_isOfBefore_L34 N  n) ih v1 y8 y11 σ10
          · refine J_iload (q := 0) h d_M_isOfBefore_89 rfl ?_
            refine J_iconst (v := 1) h d_M_isOfBefore_91 (by decide) ?_
            refine J_icmp_ne (tgt := 114) h d_M_isOfBefore_92 (by decide) ?_ ?_
            · refine J_sub [2, 3, 1, 0] rfl ?_
              exact J_M_M_isOfBefore_b95 K D A ad cA N h (M_M_isOfBefore_L34 N  n) ih v1 y8 y11 σ10
            · refine J_iload (q := 0) h d_M_isOfBefore_114 rfl ?_
              refine J_iconst (v := 3) h d_M_isOfBefore_116 (by decide) ?_
              refine J_icmp_ne (tgt := 139) h d_M_isOfBefore_117 (by decide) ?_ ?_
              · refine J_aload_n (q := 2) h d_M_isOfBefore_120 rfl rfl ?_
                refine J_getf h 0 (wM_0 ad cA σ10) (tb_ups in_M) rfl 6 (by decide) (tb_up q_4_88) rfl d_M_isOfBefore_121 ?_
                refine J_iload (q := 1) h d_M_isOfBefore_124 rfl ?_
                refine J_iald h 6 5 (wM_6 ad cA σ10) rfl d_M_isOfBefore_126 ?_
                refine J_iload_n (q := 3) h d_M_isOfBefore_127 rfl rfl ?_
                refine J_icmp_ne (tgt := 135) h d_M_isOfBefore_128 (by decide) ?_ ?_
                · refine J_iconst (v := 1) h d_M_isOfBefore_131 (by decide) ?_
                  refine J_goto (tgt := 162) h d_M_isOfBefore_132 (by decide) ?_
                  refine J_sub [2, 3, 1, 0] rfl ?_
                  exact J_M_M_isOfBefore_b162 K D A ad cA N h (M_M_isOfBefore_L34 N  n) ih v1 y8 y11 1 σ10
                · refine J_iconst (v := 0) h d_M_isOfBefore_135 (by decide) ?_
                  refine J_goto (tgt := 162) h d_M_isOfBefore_136 (by decide) ?_
                  refine J_sub [2, 3, 1, 0] rfl ?_
                  exact J_M_M_isOfBefore_b162 K D A ad cA N h (M_M_isOfBefore_L34 N  n) ih v1 y8 y11 0 σ10
              · refine J_iload (q := 0) h d_M_isOfBefore_139 rfl ?_
                refine J_iconst (v := 2) h d_M_isOfBefore_141 (by decide) ?_
                refine J_icmp_eq (tgt := 157) h d_M_isOfBefore_142 (by decide) ?_ ?_
                · refine J_sub [2, 3, 1, 0] rfl ?_
                  exact J_M_M_isOfBefore_b157 K D A ad cA N h (M_M_isOfBefore_L34 N  n) ih v1 y8 y11 σ10
                · refine J_iload (q := 0) h d_M_isOfBefore_145 rfl ?_
                  refine J_iconst (v := 4) h d_M_isOfBefore_147 (by decide) ?_
                  refine J_icmp_eq (tgt := 157) h d_M_isOfBefore_148 (by decide) ?_ ?_
                  · refine J_sub [2, 3, 1, 0] rfl ?_
                    exact J_M_M_isOfBefore_b157 K D A ad cA N h (M_M_isOfBefore_L34 N  n) ih v1 y8 y11 σ10
                  · refine J_iload (q := 0) h d_M_isOfBefore_151 rfl ?_
                    refine J_iconst (v := 5) h d_M_isOfBefore_153 (by decide) ?_
                    refine J_icmp_ne (tgt := 161) h d_M_isOfBefore_154 (by decide) ?_ ?_
                    · refine J_sub [2, 3, 1, 0] rfl ?_
                      exact J_M_M_isOfBefore_b157 K D A ad cA N h (M_M_isOfBefore_L34 N  n) ih v1 y8 y11 σ10
                    · refine J_iconst (v := 0) h d_M_isOfBefore_161 (by decide) ?_
                      refine J_sub [2, 3, 1, 0] rfl ?_
                      exact J_M_M_isOfBefore_b162 K D A ad cA N h (M_M_isOfBefore_L34 N  n) ih v1 y8 y11 0 σ10
        · refine J_goto (tgt := 34) h d_M_isOfBefore_72 (by decide) ?_
          refine J_sub [1, 2, 3] rfl ?_
          exact ih v1 v3 σ10
def M_M_isOfBefore (N : Nat) (x1 : Int32) (x2 : Int32) (σ : SM) : Option (Int32 × SM) := (nm (sM_M_looks σ ((gM_M_looks σ) + 1)) (fun (σ1 : SM) => (nm (sM_M_todos σ1 0) (fun (σ2 : SM) => (nm ((gM_M_todos σ2)) (fun (y3 : Int32) => (nm (sM_M_todos σ2 (y3 + 1)) (fun (σ4 : SM) => (if ck y3 2000 = true then (nm (tM_M_todo σ4 (upd (aM_M_todo σ4) y3.toNatClampNeg x2)) (fun (σ5 : SM) => (M_M_isOfBefore_L34 N N x1 1 σ5))) else none)))))))))
set_option maxRecDepth 100000 in
set_option maxHeartbeats 4000000 in
theorem J_M_M_isOfBefore (K : jx_E) (D : va_G) (A : Nat → Prop) (ad : Nat → Nat) (cA : Nat → ClassId) (N : Nat) (h : jx_ok K D clM (tysM cA) A 6 b_M_isOfBefore y_M_isOfBefore.cls ((Cond.code y_M_isOfBefore b_M_isOfBefore 6 (some .boolean)) :: tblG) rM_M_isOfBefore (some .boolean)) : ∀ (x1 : Int32) (x2 : Int32) (σ : SM), J K D clM A 6 (wM ad cA) (jx_Qi K D clM (tysM cA) (wM ad cA) A) 0 0 0 [(0, .ref (ad 0)), (1, .int x1), (2, .int x2)] [] σ (M_M_isOfBefore N x1 x2 σ) := by
  intro x1 x2 σ
  rw [M_M_isOfBefore]
  refine J_iconst (v := 1) h d_M_isOfBefore_0 (by decide) ?_
  refine J_istore_n (lv' := [(3, .int 1), (0, .ref (ad 0)), (1, .int x1), (2, .int x2)]) h d_M_isOfBefore_1 rfl (by decide) rfl ?_
  refine J_aload_n (q := 1) h d_M_isOfBefore_2 rfl rfl ?_
  refine J_dup h d_M_isOfBefore_3 rfl ?_
  refine J_getf h 0 (wM_0 ad cA σ) (tb_ups in_M) rfl 24 (by decide) (tb_up q_4_106) rfl d_M_isOfBefore_4 ?_
  refine J_iconst (v := 1) h d_M_isOfBefore_7 (by decide) ?_
  refine J_iadd h d_M_isOfBefore_8 ?_
  refine J_putf h 0 (wM_0 ad cA σ) (tb_ups in_M) rfl ft_M ft_M_ok nm_M 24 (by decide) (tb_up q_4_106) rfl rfl rfl (Nat.le_of_ble_eq_true rfl) (pM_0_24 ad cA σ ((gM_M_looks σ) + 1)) d_M_isOfBefore_9 (fun σ1 => ?_)
  refine J_aload_n (q := 1) h d_M_isOfBefore_12 rfl rfl ?_
  refine J_iconst (v := 0) h d_M_isOfBefore_13 (by decide) ?_
  refine J_putf h 0 (wM_0 ad cA σ1) (tb_ups in_M) rfl ft_M ft_M_ok nm_M 16 (by decide) (tb_up q_4_98) rfl rfl rfl (Nat.le_of_ble_eq_true rfl) (pM_0_16 ad cA σ1 0) d_M_isOfBefore_14 (fun σ2 => ?_)
  refine J_aload_n (q := 1) h d_M_isOfBefore_17 rfl rfl ?_
  refine J_getf h 0 (wM_0 ad cA σ2) (tb_ups in_M) rfl 13 (by decide) (tb_up q_4_95) rfl d_M_isOfBefore_18 ?_
  refine J_aload_n (q := 1) h d_M_isOfBefore_21 rfl rfl ?_
  refine J_dup h d_M_isOfBefore_22 rfl ?_
  refine J_getf h 0 (wM_0 ad cA σ2) (tb_ups in_M) rfl 16 (by decide) (tb_up q_4_98) rfl d_M_isOfBefore_23 ?_
  refine J_nmi (fun y3 => ?_)
  refine J_dup_x1 h d_M_isOfBefore_26 rfl rfl ?_
  refine J_iconst (v := 1) h d_M_isOfBefore_27 (by decide) ?_
  refine J_iadd h d_M_isOfBefore_28 ?_
  refine J_putf h 0 (wM_0 ad cA σ2) (tb_ups in_M) rfl ft_M ft_M_ok nm_M 16 (by decide) (tb_up q_4_98) rfl rfl rfl (Nat.le_of_ble_eq_true rfl) (pM_0_16 ad cA σ2 (y3 + 1)) d_M_isOfBefore_29 (fun σ4 => ?_)
  refine J_iload_n (q := 3) h d_M_isOfBefore_32 rfl rfl ?_
  refine J_iast h 11 10 (wM_11 ad cA σ4) rfl (uM_11 ad cA σ4 _) d_M_isOfBefore_33 (fun σ5 => ?_)
  refine J_sub [1, 2, 0] rfl ?_
  exact J_M_M_isOfBefore_L34 K D A ad cA N h N x1 1 σ5
set_option maxRecDepth 100000 in
theorem cM_M_isOfBefore (l : Launch) (D : va_G) (ad : Nat → Nat) (cA : Nat → ClassId) (N : Nat) (x1 : Int32) (x2 : Int32) (σ : SM) (r : Int32) (σ' : SM) (hf : M_M_isOfBefore N x1 x2 σ = some (r, σ')) : MetI l y_M_isOfBefore ((Cond.code y_M_isOfBefore b_M_isOfBefore 6 (some .boolean)) :: tblG) rM_M_isOfBefore D clM (tysM cA) (wM ad cA) [.ref (ad 0), .int x1, .int x2] σ r σ' :=
  jx_metI (by decide) rfl (Nat.le_of_ble_eq_true rfl) (fun K A h => J_M_M_isOfBefore K D A ad cA N h x1 x2 σ) hf
def rM_M_isParent : Room := { frames := 2, cells := 0, slots := 0, locals := 47 }
theorem rm_ok_M_M_isParent : rM_M_isParent.cells = 0 ∧ rM_M_isParent.slots = 0 := ⟨rfl, rfl⟩
def M_M_isParent_b124 (N : Nat) (v1 : Int32) (v2 : Int32) (σ : SM) : Option (Int32 × SM) := (bd (M_M_isOfBefore N v1 v2 σ) (fun (r3 : Int32) (σ4 : SM) => (if zb r3 = true then some (r3, σ4) else none)))
set_option maxRecDepth 100000 in
set_option maxHeartbeats 4000000 in
theorem J_M_M_isParent_b124 (K : jx_E) (D : va_G) (A : Nat → Prop) (ad : Nat → Nat) (cA : Nat → ClassId) (N : Nat) (h : jx_ok K D clM (tysM cA) A 4 b_M_isParent y_M_isParent.cls ((Cond.code y_M_isParent b_M_isParent 4 (some .boolean)) :: tblG) rM_M_isParent (some .boolean)) : ∀ (v1 : Int32) (v2 : Int32) (σ : SM), J K D clM A 4 (wM ad cA) (jx_Qi K D clM (tysM cA) (wM ad cA) A) 0 0 124 [(0, .ref (ad 0)), (1, .int v1), (2, .int v2)] [] σ (M_M_isParent_b124 N v1 v2 σ) := by
  intro v1 v2 σ
  rw [M_M_isParent_b124]
  refine J_aload_n (q := 0) h d_M_isParent_124 rfl rfl ?_
  refine J_iload_n (q := 1) h d_M_isParent_125 rfl rfl ?_
  refine J_iload_n (q := 2) h d_M_isParent_126 rfl rfl ?_
  refine J_callVi (As := [.int v1, .int v2]) (st := []) (rmc := rM_M_isOfBefore) (q0 := 0) h (fun _ _ hf => cM_M_isOfBefore (jl K) D ad cA N v1 v2 σ _ _ hf) (gd_V q_5_58 q_5_60 q_s_29 q_1_12 q_5_61) rfl ⟨rfl, rfl⟩ dd_M_isOfBefore ⟨Nat.le_of_ble_eq_true rfl, Nat.le_of_ble_eq_true rfl⟩ rfl rfl (wM_0 ad cA σ) rfl rfl (Nat.le_of_ble_eq_true rfl) ⟨Nat.zero_le _, Nat.zero_le _⟩ d_M_isParent_127 (fun r3 σ4 => ?_)
  exact J_zretc h rfl d_M_isParent_130
def M_M_isParent_b55 (N : Nat) (v1 : Int32) (v2 : Int32) (s0 : Int32) (σ : SM) : Option (Int32 × SM) := (if s0 = 0 then (some (0, σ)) else (if ck v2 500 = true then (if (aM_M_one σ v2.toNatClampNeg) < v1 then (if ck v2 500 = true then (if (aM_M_kind σ v2.toNatClampNeg) = 1 then (if ck v2 500 = true then (if ck (aM_M_two σ v2.toNatClampNeg) 500 = true then (if (aM_M_kind σ (aM_M_two σ v2.toNatClampNeg).toNatClampNeg) = 2 then (some (0, σ)) else (if ck v2 500 = true then (if (aM_M_three σ v2.toNatClampNeg) = (-1) then (M_M_isParent_b124 N v1 v2 σ) else (if ck v2 500 = true then (if ck (aM_M_three σ v2.toNatClampNeg) 500 = true then (if (aM_M_kind σ (aM_M_three σ v2.toNatClampNeg).toNatClampNeg) = 2 then (some (0, σ)) else (M_M_isParent_b124 N v1 v2 σ)) else none) else none)) else none)) else none) else none) else (M_M_isParent_b124 N v1 v2 σ)) else none) else (some (0, σ))) else none))
set_option maxRecDepth 100000 in
set_option maxHeartbeats 4000000 in
theorem J_M_M_isParent_b55 (K : jx_E) (D : va_G) (A : Nat → Prop) (ad : Nat → Nat) (cA : Nat → ClassId) (N : Nat) (h : jx_ok K D clM (tysM cA) A 4 b_M_isParent y_M_isParent.cls ((Cond.code y_M_isParent b_M_isParent 4 (some .boolean)) :: tblG) rM_M_isParent (some .boolean)) : ∀ (v1 : Int32) (v2 : Int32) (s0 : Int32) (σ : SM), J K D clM A 4 (wM ad cA) (jx_Qi K D clM (tysM cA) (wM ad cA) A) 0 0 55 [(0, .ref (ad 0)), (1, .int v1), (2, .int v2)] [.int s0] σ (M_M_isParent_b55 N v1 v2 s0 σ) := by
  intro v1 v2 s0 σ
  rw [M_M_isParent_b55]
  refine J_istore_n (lv' := [(3, .int s0), (0, .ref (ad 0)), (1, .int v1), (2, .int v2)]) h d_M_isParent_55 rfl (by decide) rfl ?_
  refine J_iload_n (q := 0) h d_M_isParent_56 rfl rfl ?_
  refine J_if_eq (tgt := 70) h d_M_isParent_57 (by decide) ?_ ?_
  · refine J_iconst (v := 0) h d_M_isParent_70 (by decide) ?_
    exact J_zret h rfl (by decide) d_M_isParent_71
  · refine J_aload_n (q := 1) h d_M_isParent_60 rfl rfl ?_
    refine J_getf h 0 (wM_0 ad cA σ) (tb_ups in_M) rfl 6 (by decide) (tb_up q_4_88) rfl d_M_isParent_61 ?_
    refine J_iload_n (q := 3) h d_M_isParent_64 rfl rfl ?_
    refine J_iald h 6 5 (wM_6 ad cA σ) rfl d_M_isParent_65 ?_
    refine J_iload_n (q := 2) h d_M_isParent_66 rfl rfl ?_
    refine J_icmp_lt (tgt := 72) h d_M_isParent_67 (by decide) ?_ ?_
    · refine J_aload_n (q := 1) h d_M_isParent_72 rfl rfl ?_
      refine J_getf h 0 (wM_0 ad cA σ) (tb_ups in_M) rfl 5 (by decide) (tb_up q_4_87) rfl d_M_isParent_73 ?_
      refine J_iload_n (q := 3) h d_M_isParent_76 rfl rfl ?_
      refine J_iald h 5 4 (wM_5 ad cA σ) rfl d_M_isParent_77 ?_
      refine J_iconst (v := 1) h d_M_isParent_78 (by decide) ?_
      refine J_icmp_ne (tgt := 124) h d_M_isParent_79 (by decide) ?_ ?_
      · refine J_aload_n (q := 1) h d_M_isParent_82 rfl rfl ?_
        refine J_getf h 0 (wM_0 ad cA σ) (tb_ups in_M) rfl 5 (by decide) (tb_up q_4_87) rfl d_M_isParent_83 ?_
        refine J_aload_n (q := 1) h d_M_isParent_86 rfl rfl ?_
        refine J_getf h 0 (wM_0 ad cA σ) (tb_ups in_M) rfl 7 (by decide) (tb_up q_4_89) rfl d_M_isParent_87 ?_
        refine J_iload_n (q := 3) h d_M_isParent_90 rfl rfl ?_
        refine J_iald h 7 6 (wM_7 ad cA σ) rfl d_M_isParent_91 ?_
        refine J_iald h 5 4 (wM_5 ad cA σ) rfl d_M_isParent_92 ?_
        refine J_iconst (v := 2) h d_M_isParent_93 (by decide) ?_
        refine J_icmp_eq (tgt := 122) h d_M_isParent_94 (by decide) ?_ ?_
        · refine J_iconst (v := 0) h d_M_isParent_122 (by decide) ?_
          exact J_zret h rfl (by decide) d_M_isParent_123
        · refine J_aload_n (q := 1) h d_M_isParent_97 rfl rfl ?_
          refine J_getf h 0 (wM_0 ad cA σ) (tb_ups in_M) rfl 8 (by decide) (tb_up q_4_90) rfl d_M_isParent_98 ?_
          refine J_iload_n (q := 3) h d_M_isParent_101 rfl rfl ?_
          refine J_iald h 8 7 (wM_8 ad cA σ) rfl d_M_isParent_102 ?_
          refine J_iconst (v := (-1)) h d_M_isParent_103 (by decide) ?_
          refine J_icmp_eq (tgt := 124) h d_M_isParent_104 (by decide) ?_ ?_
          · refine J_sub [1, 2, 3] rfl ?_
            exact J_M_M_isParent_b124 K D A ad cA N h v1 v2 σ
          · refine J_aload_n (q := 1) h d_M_isParent_107 rfl rfl ?_
            refine J_getf h 0 (wM_0 ad cA σ) (tb_ups in_M) rfl 5 (by decide) (tb_up q_4_87) rfl d_M_isParent_108 ?_
            refine J_aload_n (q := 1) h d_M_isParent_111 rfl rfl ?_
            refine J_getf h 0 (wM_0 ad cA σ) (tb_ups in_M) rfl 8 (by decide) (tb_up q_4_90) rfl d_M_isParent_112 ?_
            refine J_iload_n (q := 3) h d_M_isParent_115 rfl rfl ?_
            refine J_iald h 8 7 (wM_8 ad cA σ) rfl d_M_isParent_116 ?_
            refine J_iald h 5 4 (wM_5 ad cA σ) rfl d_M_isParent_117 ?_
            refine J_iconst (v := 2) h d_M_isParent_118 (by decide) ?_
            refine J_icmp_ne (tgt := 124) h d_M_isParent_119 (by decide) ?_ ?_
            · refine J_iconst (v := 0) h d_M_isParent_122 (by decide) ?_
              exact J_zret h rfl (by decide) d_M_isParent_123
            · refine J_sub [1, 2, 3] rfl ?_
              exact J_M_M_isParent_b124 K D A ad cA N h v1 v2 σ
      · refine J_sub [1, 2, 3] rfl ?_
        exact J_M_M_isParent_b124 K D A ad cA N h v1 v2 σ
    · refine J_iconst (v := 0) h d_M_isParent_70 (by decide) ?_
      exact J_zret h rfl (by decide) d_M_isParent_71
def M_M_isParent_b54 (N : Nat) (v1 : Int32) (v2 : Int32) (σ : SM) : Option (Int32 × SM) := (M_M_isParent_b55 N v1 v2 0 σ)
set_option maxRecDepth 100000 in
set_option maxHeartbeats 4000000 in
theorem J_M_M_isParent_b54 (K : jx_E) (D : va_G) (A : Nat → Prop) (ad : Nat → Nat) (cA : Nat → ClassId) (N : Nat) (h : jx_ok K D clM (tysM cA) A 4 b_M_isParent y_M_isParent.cls ((Cond.code y_M_isParent b_M_isParent 4 (some .boolean)) :: tblG) rM_M_isParent (some .boolean)) : ∀ (v1 : Int32) (v2 : Int32) (σ : SM), J K D clM A 4 (wM ad cA) (jx_Qi K D clM (tysM cA) (wM ad cA) A) 0 0 54 [(0, .ref (ad 0)), (1, .int v1), (2, .int v2)] [] σ (M_M_isParent_b54 N v1 v2 σ) := by
  intro v1 v2 σ
  rw [M_M_isParent_b54]
  refine J_iconst (v := 0) h d_M_isParent_54 (by decide) ?_
  exact J_M_M_isParent_b55 K D A ad cA N h v1 v2 0 σ
def M_M_isParent_b50 (N : Nat) (v1 : Int32) (v2 : Int32) (σ : SM) : Option (Int32 × SM) := (M_M_isParent_b55 N v1 v2 1 σ)
set_option maxRecDepth 100000 in
set_option maxHeartbeats 4000000 in
theorem J_M_M_isParent_b50 (K : jx_E) (D : va_G) (A : Nat → Prop) (ad : Nat → Nat) (cA : Nat → ClassId) (N : Nat) (h : jx_ok K D clM (tysM cA) A 4 b_M_isParent y_M_isParent.cls ((Cond.code y_M_isParent b_M_isParent 4 (some .boolean)) :: tblG) rM_M_isParent (some .boolean)) : ∀ (v1 : Int32) (v2 : Int32) (σ : SM), J K D clM A 4 (wM ad cA) (jx_Qi K D clM (tysM cA) (wM ad cA) A) 0 0 50 [(0, .ref (ad 0)), (1, .int v1), (2, .int v2)] [] σ (M_M_isParent_b50 N v1 v2 σ) := by
  intro v1 v2 σ
  rw [M_M_isParent_b50]
  refine J_iconst (v := 1) h d_M_isParent_50 (by decide) ?_
  refine J_goto (tgt := 55) h d_M_isParent_51 (by decide) ?_
  exact J_M_M_isParent_b55 K D A ad cA N h v1 v2 1 σ
def M_M_isParent (N : Nat) (x1 : Int32) (x2 : Int32) (σ : SM) : Option (Int32 × SM) := (bd (M_M_isType x2 σ) (fun (r1 : Int32) (σ2 : SM) => (if r1 = 0 then (M_M_isParent_b54 N x1 x2 σ2) else (if ck x2 500 = true then (if (aM_M_kind σ2 x2.toNatClampNeg) = 1 then (M_M_isParent_b50 N x1 x2 σ2) else (if ck x2 500 = true then (if (aM_M_kind σ2 x2.toNatClampNeg) = 0 then (if ck x2 500 = true then (if ck (aM_M_one σ2 x2.toNatClampNeg) 40 = true then (if (aM_M_parameters σ2 (aM_M_one σ2 x2.toNatClampNeg).toNatClampNeg) = 0 then (if ck x2 500 = true then (if (aM_M_one σ2 x2.toNatClampNeg) = 0 then (M_M_isParent_b54 N x1 x2 σ2) else (M_M_isParent_b50 N x1 x2 σ2)) else none) else (M_M_isParent_b54 N x1 x2 σ2)) else none) else none) else (M_M_isParent_b54 N x1 x2 σ2)) else none)) else none))))
set_option maxRecDepth 100000 in
set_option maxHeartbeats 4000000 in
theorem J_M_M_isParent (K : jx_E) (D : va_G) (A : Nat → Prop) (ad : Nat → Nat) (cA : Nat → ClassId) (N : Nat) (h : jx_ok K D clM (tysM cA) A 4 b_M_isParent y_M_isParent.cls ((Cond.code y_M_isParent b_M_isParent 4 (some .boolean)) :: tblG) rM_M_isParent (some .boolean)) : ∀ (x1 : Int32) (x2 : Int32) (σ : SM), J K D clM A 4 (wM ad cA) (jx_Qi K D clM (tysM cA) (wM ad cA) A) 0 0 0 [(0, .ref (ad 0)), (1, .int x1), (2, .int x2)] [] σ (M_M_isParent N x1 x2 σ) := by
  intro x1 x2 σ
  rw [M_M_isParent]
  refine J_aload_n (q := 0) h d_M_isParent_0 rfl rfl ?_
  refine J_iload_n (q := 2) h d_M_isParent_1 rfl rfl ?_
  refine J_callVi (As := [.int x2]) (st := []) (rmc := rM_M_isType) (q0 := 0) h (fun _ _ hf => cM_M_isType (jl K) D ad cA x2 σ _ _ hf) (gd_V q_5_54 q_5_56 q_s_28 q_1_12 q_5_57) rfl ⟨rfl, rfl⟩ dd_M_isType ⟨Nat.le_of_ble_eq_true rfl, Nat.le_of_ble_eq_true rfl⟩ rfl rfl (wM_0 ad cA σ) rfl rfl (Nat.le_of_ble_eq_true rfl) ⟨Nat.zero_le _, Nat.zero_le _⟩ d_M_isParent_2 (fun r1 σ2 => ?_)
  refine J_if_eq (tgt := 54) h d_M_isParent_5 (by decide) ?_ ?_
  · exact J_M_M_isParent_b54 K D A ad cA N h x1 x2 σ2
  · refine J_aload_n (q := 0) h d_M_isParent_8 rfl rfl ?_
    refine J_getf h 0 (wM_0 ad cA σ2) (tb_ups in_M) rfl 5 (by decide) (tb_up q_4_87) rfl d_M_isParent_9 ?_
    refine J_iload_n (q := 2) h d_M_isParent_12 rfl rfl ?_
    refine J_iald h 5 4 (wM_5 ad cA σ2) rfl d_M_isParent_13 ?_
    refine J_iconst (v := 1) h d_M_isParent_14 (by decide) ?_
    refine J_icmp_eq (tgt := 50) h d_M_isParent_15 (by decide) ?_ ?_
    · exact J_M_M_isParent_b50 K D A ad cA N h x1 x2 σ2
    · refine J_aload_n (q := 0) h d_M_isParent_18 rfl rfl ?_
      refine J_getf h 0 (wM_0 ad cA σ2) (tb_ups in_M) rfl 5 (by decide) (tb_up q_4_87) rfl d_M_isParent_19 ?_
      refine J_iload_n (q := 2) h d_M_isParent_22 rfl rfl ?_
      refine J_iald h 5 4 (wM_5 ad cA σ2) rfl d_M_isParent_23 ?_
      refine J_if_ne (tgt := 54) h d_M_isParent_24 (by decide) ?_ ?_
      · refine J_aload_n (q := 0) h d_M_isParent_27 rfl rfl ?_
        refine J_getf h 0 (wM_0 ad cA σ2) (tb_ups in_M) rfl 0 (by decide) (tb_up q_4_82) rfl d_M_isParent_28 ?_
        refine J_aload_n (q := 0) h d_M_isParent_31 rfl rfl ?_
        refine J_getf h 0 (wM_0 ad cA σ2) (tb_ups in_M) rfl 6 (by decide) (tb_up q_4_88) rfl d_M_isParent_32 ?_
        refine J_iload_n (q := 2) h d_M_isParent_35 rfl rfl ?_
        refine J_iald h 6 5 (wM_6 ad cA σ2) rfl d_M_isParent_36 ?_
        refine J_iald h 1 0 (wM_1 ad cA σ2) rfl d_M_isParent_37 ?_
        refine J_if_ne (tgt := 54) h d_M_isParent_38 (by decide) ?_ ?_
        · refine J_aload_n (q := 0) h d_M_isParent_41 rfl rfl ?_
          refine J_getf h 0 (wM_0 ad cA σ2) (tb_ups in_M) rfl 6 (by decide) (tb_up q_4_88) rfl d_M_isParent_42 ?_
          refine J_iload_n (q := 2) h d_M_isParent_45 rfl rfl ?_
          refine J_iald h 6 5 (wM_6 ad cA σ2) rfl d_M_isParent_46 ?_
          refine J_if_eq (tgt := 54) h d_M_isParent_47 (by decide) ?_ ?_
          · exact J_M_M_isParent_b54 K D A ad cA N h x1 x2 σ2
          · exact J_M_M_isParent_b50 K D A ad cA N h x1 x2 σ2
        · exact J_M_M_isParent_b54 K D A ad cA N h x1 x2 σ2
      · exact J_M_M_isParent_b54 K D A ad cA N h x1 x2 σ2
set_option maxRecDepth 100000 in
theorem cM_M_isParent (l : Launch) (D : va_G) (ad : Nat → Nat) (cA : Nat → ClassId) (N : Nat) (x1 : Int32) (x2 : Int32) (σ : SM) (r : Int32) (σ' : SM) (hf : M_M_isParent N x1 x2 σ = some (r, σ')) : MetI l y_M_isParent ((Cond.code y_M_isParent b_M_isParent 4 (some .boolean)) :: tblG) rM_M_isParent D clM (tysM cA) (wM ad cA) [.ref (ad 0), .int x1, .int x2] σ r σ' :=
  jx_metI (by decide) rfl (Nat.le_of_ble_eq_true rfl) (fun K A h => J_M_M_isParent K D A ad cA N h x1 x2 σ) hf
