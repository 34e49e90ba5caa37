def rX_Reducer_less : Room := { frames := 26, cells := 0, slots := 0, locals := 777 }
theorem rm_ok_X_Reducer_less : rX_Reducer_less.cells = 0 ∧ rX_Reducer_less.slots = 0 := ⟨rfl, rfl⟩
def X_Reducer_less_b193 (N : Nat) (k4 : Int32 → Int32 → SX → Option (Int32 × SX)) (v1 : Int32) (v2 : Int32) (σ : SX) : Option (Int32 × SX) := (nm (v2 + 1) (fun (y5 : Int32) => (k4 v1 y5 σ)))
set_option maxRecDepth 100000 in
set_option maxHeartbeats 4000000 in
theorem J_X_Reducer_less_b193 (K : jx_E) (D : va_G) (A : Nat → Prop) (ad : Nat → Nat) (cA : Nat → ClassId) (N : Nat) (h : jx_ok K D clX (tysX cA) A 3 b_Reducer_less y_Reducer_less.cls ((Cond.code y_Reducer_less b_Reducer_less 3 (some .int)) :: tblG) rX_Reducer_less (some .int)) (k4 : Int32 → Int32 → SX → Option (Int32 × SX)) (hk4 : ∀ (v1 : Int32) (v2 : Int32) (σ : SX), J K D clX A 3 (wX ad cA) (jx_Qi K D clX (tysX cA) (wX ad cA) A) 0 0 4 [(0, .ref (ad 29)), (1, .int v1), (2, .int v2)] [] σ (k4 v1 v2 σ)) : ∀ (v1 : Int32) (v2 : Int32) (σ : SX), J K D clX A 3 (wX ad cA) (jx_Qi K D clX (tysX cA) (wX ad cA) A) 0 0 193 [(0, .ref (ad 29)), (1, .int v1), (2, .int v2)] [] σ (X_Reducer_less_b193 N k4 v1 v2 σ) := by
  intro v1 v2 σ
  rw [X_Reducer_less_b193]
  refine J_iinc (q := 2) (c := 1) (lv' := fun y5 => [(2, .int y5), (0, .ref (ad 29)), (1, .int v1)]) h d_Reducer_less_193 rfl (by decide) (by decide) (fun _ => rfl) (fun y5 => ?_)
  refine J_goto (tgt := 4) h d_Reducer_less_196 (by decide) ?_
  refine J_sub [1, 2, 0] rfl ?_
  exact hk4 v1 y5 σ
def X_Reducer_less_b48 (N : Nat) (k4 : Int32 → Int32 → SX → Option (Int32 × SX)) (v2 : Int32) (σ : SX) : Option (Int32 × SX) := (X_Reducer_less_b193 N k4 (-3) v2 σ)
set_option maxRecDepth 100000 in
set_option maxHeartbeats 4000000 in
theorem J_X_Reducer_less_b48 (K : jx_E) (D : va_G) (A : Nat → Prop) (ad : Nat → Nat) (cA : Nat → ClassId) (N : Nat) (h : jx_ok K D clX (tysX cA) A 3 b_Reducer_less y_Reducer_less.cls ((Cond.code y_Reducer_less b_Reducer_less 3 (some .int)) :: tblG) rX_Reducer_less (some .int)) (k4 : Int32 → Int32 → SX → Option (Int32 × SX)) (hk4 : ∀ (v1 : Int32) (v2 : Int32) (σ : SX), J K D clX A 3 (wX ad cA) (jx_Qi K D clX (tysX cA) (wX ad cA) A) 0 0 4 [(0, .ref (ad 29)), (1, .int v1), (2, .int v2)] [] σ (k4 v1 v2 σ)) : ∀ (v2 : Int32) (σ : SX), J K D clX A 3 (wX ad cA) (jx_Qi K D clX (tysX cA) (wX ad cA) A) 0 0 48 [(0, .ref (ad 29)), (2, .int v2)] [] σ (X_Reducer_less_b48 N k4 v2 σ) := by
  intro v2 σ
  rw [X_Reducer_less_b48]
  refine J_bipush (v := (-3)) h d_Reducer_less_48 (by decide) ?_
  refine J_istore_n (lv' := [(1, .int (-3)), (0, .ref (ad 29)), (2, .int v2)]) h d_Reducer_less_50 rfl (by decide) rfl ?_
  refine J_goto (tgt := 193) h d_Reducer_less_51 (by decide) ?_
  refine J_sub [1, 0, 2] rfl ?_
  exact J_X_Reducer_less_b193 K D A ad cA N h k4 hk4 (-3) v2 σ
def X_Reducer_less_L4 (N : Nat) : Nat → Int32 → Int32 → SX → Option (Int32 × SX)
  | 0, _, _, _ => none
  | n + 1, v1, v2, σ => (if (20000 : Int32) < v2 then (nm (sX_Work_size σ 0) (fun (σ1 : SX) => (some (v1, σ1)))) else (if v1 = 1 then (bd (X_Work_take σ) (fun (r2 : Int32) (σ3 : SX) => (if r2 = 0 then (nm (sX_Work_size σ3 0) (fun (σ4 : SX) => (some (v1, σ4)))) else (if (60 : Int32) < (gX_Work_level σ3) then (X_Reducer_less_b48 N (X_Reducer_less_L4 N  n) v2 σ3) else (if (gX_Reducer_madeInCall σ3) < 20000 then (nm (sX_Reducer_madeInCall σ3 ((gX_Reducer_madeInCall σ3) + 1)) (fun (σ6 : SX) => (nm (sX_Reducer_made σ6 ((gX_Reducer_made σ6) + 1)) (fun (σ7 : SX) => (nm ((gX_Work_sort σ7)) (fun (y8 : Int32) => (if y8 = 0 then (bd (X_Reducer_lessCompatible N (gX_Work_left σ7) (gX_Work_right σ7) σ7) (fun (r9 : Int32) (σ10 : SX) => (X_Reducer_less_b193 N (X_Reducer_less_L4 N  n) r9 v2 σ10))) else (if y8 = 1 then (bd (X_Reducer_lessSub N (gX_Work_left σ7) (gX_Work_right σ7) σ7) (fun (r11 : Int32) (σ12 : SX) => (X_Reducer_less_b193 N (X_Reducer_less_L4 N  n) r11 v2 σ12))) else (if y8 = 2 then (bd (X_Reducer_lessContained N (gX_Work_left σ7) (gX_Work_right σ7) σ7) (fun (r13 : Int32) (σ14 : SX) => (X_Reducer_less_b193 N (X_Reducer_less_L4 N  n) r13 v2 σ14))) else (bd (X_Reducer_lessEqual N (gX_Work_left σ7) (gX_Work_right σ7) σ7) (fun (r15 : Int32) (σ16 : SX) => (X_Reducer_less_b193 N (X_Reducer_less_L4 N  n) r15 v2 σ16)))))))))))) else (X_Reducer_less_b48 N (X_Reducer_less_L4 N  n) v2 σ3)))))) else (nm (sX_Work_size σ 0) (fun (σ17 : SX) => (some (v1, σ17))))))
set_option maxRecDepth 100000 in
set_option maxHeartbeats 4000000 in
theorem J_X_Reducer_less_L4 (K : jx_E) (D : va_G) (A : Nat → Prop) (ad : Nat → Nat) (cA : Nat → ClassId) (N : Nat) (h : jx_ok K D clX (tysX cA) A 3 b_Reducer_less y_Reducer_less.cls ((Cond.code y_Reducer_less b_Reducer_less 3 (some .int)) :: tblG) rX_Reducer_less (some .int)) : ∀ (n : Nat) (v1 : Int32) (v2 : Int32) (σ : SX), J K D clX A 3 (wX ad cA) (jx_Qi K D clX (tysX cA) (wX ad cA) A) 0 0 4 [(0, .ref (ad 29)), (1, .int v1), (2, .int v2)] [] σ (X_Reducer_less_L4 N n v1 v2 σ) := by
  intro n
  induction n with
  | zero => intro v1 v2 σ; exact J_none
  | succ n ih =>
    intro v1 v2 σ
    rw [X_Reducer_less_L4]
    refine J_iload_n (q := 2) h d_Reducer_less_4 rfl rfl ?_
    refine J_sipush (v := 20000) h d_Reducer_less_5 (by decide) ?_
    refine J_icmp_gt (tgt := 199) h d_Reducer_less_8 (by decide) ?_ ?_
    · refine J_aload_n (q := 0) h d_Reducer_less_199 rfl rfl ?_
      refine J_getf h 29 (wX_29 ad cA σ) (tb_ups in_Reducer) rfl 4 (by decide) (tb_up q_1_202) rfl d_Reducer_less_200 ?_
      refine J_iconst (v := 0) h d_Reducer_less_203 (by decide) ?_
      refine J_putf h 30 (wX_30 ad cA σ) (tb_ups in_Work) rfl ft_Work ft_Work_ok nm_Work 4 (by decide) (tb_up q_1_169) rfl rfl rfl (Nat.le_of_ble_eq_true rfl) (pX_30_4 ad cA σ 0) d_Reducer_less_204 (fun σ1 => ?_)
      refine J_iload_n (q := 1) h d_Reducer_less_207 rfl rfl ?_
      exact J_iret h rfl d_Reducer_less_208
    · refine J_iload_n (q := 1) h d_Reducer_less_11 rfl rfl ?_
      refine J_iconst (v := 1) h d_Reducer_less_12 (by decide) ?_
      refine J_icmp_ne (tgt := 199) h d_Reducer_less_13 (by decide) ?_ ?_
      · refine J_aload_n (q := 0) h d_Reducer_less_16 rfl rfl ?_
        refine J_getf h 29 (wX_29 ad cA σ) (tb_ups in_Reducer) rfl 4 (by decide) (tb_up q_1_202) rfl d_Reducer_less_17 ?_
        refine J_callVi (As := []) (st := []) (rmc := rX_Work_take) (q0 := 30) h (fun _ _ hf => cX_Work_take (jl K) D ad cA  σ _ _ hf) (gd_V q_3_13 q_3_14 q_3_15 q_1_8 q_3_16) rfl ⟨rfl, rfl⟩ dd_Work_take ⟨Nat.le_of_ble_eq_true rfl, Nat.le_of_ble_eq_true rfl⟩ rfl rfl (wX_30 ad cA σ) rfl rfl (Nat.le_of_ble_eq_true rfl) ⟨Nat.zero_le _, Nat.zero_le _⟩ d_Reducer_less_20 (fun r2 σ3 => ?_)
        refine J_if_eq (tgt := 199) h d_Reducer_less_23 (by decide) ?_ ?_
        · refine J_aload_n (q := 0) h d_Reducer_less_199 rfl rfl ?_
          refine J_getf h 29 (wX_29 ad cA σ3) (tb_ups in_Reducer) rfl 4 (by decide) (tb_up q_1_202) rfl d_Reducer_less_200 ?_
          refine J_iconst (v := 0) h d_Reducer_less_203 (by decide) ?_
          refine J_putf h 30 (wX_30 ad cA σ3) (tb_ups in_Work) rfl ft_Work ft_Work_ok nm_Work 4 (by decide) (tb_up q_1_169) rfl rfl rfl (Nat.le_of_ble_eq_true rfl) (pX_30_4 ad cA σ3 0) d_Reducer_less_204 (fun σ4 => ?_)
          refine J_iload_n (q := 1) h d_Reducer_less_207 rfl rfl ?_
          exact J_iret h rfl d_Reducer_less_208
        · refine J_aload_n (q := 0) h d_Reducer_less_26 rfl rfl ?_
          refine J_getf h 29 (wX_29 ad cA σ3) (tb_ups in_Reducer) rfl 4 (by decide) (tb_up q_1_202) rfl d_Reducer_less_27 ?_
          refine J_getf h 30 (wX_30 ad cA σ3) (tb_ups in_Work) rfl 8 (by decide) (tb_up q_1_177) rfl d_Reducer_less_30 ?_
          refine J_bipush (v := 60) h d_Reducer_less_33 (by decide) ?_
          refine J_icmp_gt (tgt := 48) h d_Reducer_less_35 (by decide) ?_ ?_
          · refine J_sub [0, 2] rfl ?_
            exact J_X_Reducer_less_b48 K D A ad cA N h (X_Reducer_less_L4 N  n) ih v2 σ3
          · refine J_aload_n (q := 0) h d_Reducer_less_38 rfl rfl ?_
            refine J_getf h 29 (wX_29 ad cA σ3) (tb_ups in_Reducer) rfl 6 (by decide) (tb_up q_1_205) rfl d_Reducer_less_39 ?_
            refine J_sipush (v := 20000) h d_Reducer_less_42 (by decide) ?_
            refine J_icmp_lt (tgt := 54) h d_Reducer_less_45 (by decide) ?_ ?_
            · refine J_aload_n (q := 0) h d_Reducer_less_54 rfl rfl ?_
              refine J_dup h d_Reducer_less_55 rfl ?_
              refine J_getf h 29 (wX_29 ad cA σ3) (tb_ups in_Reducer) rfl 6 (by decide) (tb_up q_1_205) rfl d_Reducer_less_56 ?_
              refine J_iconst (v := 1) h d_Reducer_less_59 (by decide) ?_
              refine J_iadd h d_Reducer_less_60 ?_
              refine J_putf h 29 (wX_29 ad cA σ3) (tb_ups in_Reducer) rfl ft_Reducer ft_Reducer_ok nm_Reducer 6 (by decide) (tb_up q_1_205) rfl rfl rfl (Nat.le_of_ble_eq_true rfl) (pX_29_6 ad cA σ3 ((gX_Reducer_madeInCall σ3) + 1)) d_Reducer_less_61 (fun σ6 => ?_)
              refine J_aload_n (q := 0) h d_Reducer_less_64 rfl rfl ?_
              refine J_dup h d_Reducer_less_65 rfl ?_
              refine J_getf h 29 (wX_29 ad cA σ6) (tb_ups in_Reducer) rfl 5 (by decide) (tb_up q_1_203) rfl d_Reducer_less_66 ?_
              refine J_iconst (v := 1) h d_Reducer_less_69 (by decide) ?_
              refine J_iadd h d_Reducer_less_70 ?_
              refine J_putf h 29 (wX_29 ad cA σ6) (tb_ups in_Reducer) rfl ft_Reducer ft_Reducer_ok nm_Reducer 5 (by decide) (tb_up q_1_203) rfl rfl rfl (Nat.le_of_ble_eq_true rfl) (pX_29_5 ad cA σ6 ((gX_Reducer_made σ6) + 1)) d_Reducer_less_71 (fun σ7 => ?_)
              refine J_aload_n (q := 0) h d_Reducer_less_74 rfl rfl ?_
              refine J_getf h 29 (wX_29 ad cA σ7) (tb_ups in_Reducer) rfl 4 (by decide) (tb_up q_1_202) rfl d_Reducer_less_75 ?_
              refine J_getf h 30 (wX_30 ad cA σ7) (tb_ups in_Work) rfl 5 (by decide) (tb_up q_1_171) rfl d_Reducer_less_78 ?_
              refine J_nmi (fun y8 => ?_)
              refine J_if (fun c0 => ?_) (fun c0 => ?_)
              · refine J_tblIn (v := 0) (off := 27) (tgt := 108) h c0 d_Reducer_less_81 (by decide) (by decide) (by decide) (by decide) ?_
                refine J_aload_n (q := 0) h d_Reducer_less_108 rfl rfl ?_
                refine J_aload_n (q := 0) h d_Reducer_less_109 rfl rfl ?_
                refine J_getf h 29 (wX_29 ad cA σ7) (tb_ups in_Reducer) rfl 4 (by decide) (tb_up q_1_202) rfl d_Reducer_less_110 ?_
                refine J_getf h 30 (wX_30 ad cA σ7) (tb_ups in_Work) rfl 6 (by decide) (tb_up q_1_173) rfl d_Reducer_less_113 ?_
                refine J_aload_n (q := 0) h d_Reducer_less_116 rfl rfl ?_
                refine J_getf h 29 (wX_29 ad cA σ7) (tb_ups in_Reducer) rfl 4 (by decide) (tb_up q_1_202) rfl d_Reducer_less_117 ?_
                refine J_getf h 30 (wX_30 ad cA σ7) (tb_ups in_Work) rfl 7 (by decide) (tb_up q_1_175) rfl d_Reducer_less_120 ?_
                refine J_callVi (As := [.int (gX_Work_left σ7), .int (gX_Work_right σ7)]) (st := []) (rmc := rX_Reducer_lessCompatible) (q0 := 29) h (fun _ _ hf => cX_Reducer_lessCompatible (jl K) D ad cA N (gX_Work_left σ7) (gX_Work_right σ7) σ7 _ _ hf) (gd_V q_3_17 q_3_19 q_s_4 q_1_7 q_3_20) rfl ⟨rfl, rfl⟩ dd_Reducer_lessCompatible ⟨Nat.le_of_ble_eq_true rfl, Nat.le_of_ble_eq_true rfl⟩ rfl rfl (wX_29 ad cA σ7) rfl rfl (Nat.le_of_ble_eq_true rfl) ⟨Nat.zero_le _, Nat.zero_le _⟩ d_Reducer_less_123 (fun r9 σ10 => ?_)
                refine J_istore_n (lv' := [(1, .int r9), (0, .ref (ad 29)), (2, .int v2)]) h d_Reducer_less_126 rfl (by decide) rfl ?_
                refine J_goto (tgt := 193) h d_Reducer_less_127 (by decide) ?_
                refine J_sub [1, 0, 2] rfl ?_
                exact J_X_Reducer_less_b193 K D A ad cA N h (X_Reducer_less_L4 N  n) ih r9 v2 σ10
              refine J_if (fun c1 => ?_) (fun c1 => ?_)
              · refine J_tblIn (v := 1) (off := 49) (tgt := 130) h c1 d_Reducer_less_81 (by decide) (by decide) (by decide) (by decide) ?_
                refine J_aload_n (q := 0) h d_Reducer_less_130 rfl rfl ?_
                refine J_aload_n (q := 0) h d_Reducer_less_131 rfl rfl ?_
                refine J_getf h 29 (wX_29 ad cA σ7) (tb_ups in_Reducer) rfl 4 (by decide) (tb_up q_1_202) rfl d_Reducer_less_132 ?_
                refine J_getf h 30 (wX_30 ad cA σ7) (tb_ups in_Work) rfl 6 (by decide) (tb_up q_1_173) rfl d_Reducer_less_135 ?_
                refine J_aload_n (q := 0) h d_Reducer_less_138 rfl rfl ?_
                refine J_getf h 29 (wX_29 ad cA σ7) (tb_ups in_Reducer) rfl 4 (by decide) (tb_up q_1_202) rfl d_Reducer_less_139 ?_
                refine J_getf h 30 (wX_30 ad cA σ7) (tb_ups in_Work) rfl 7 (by decide) (tb_up q_1_175) rfl d_Reducer_less_142 ?_
                refine J_callVi (As := [.int (gX_Work_left σ7), .int (gX_Work_right σ7)]) (st := []) (rmc := rX_Reducer_lessSub) (q0 := 29) h (fun _ _ hf => cX_Reducer_lessSub (jl K) D ad cA N (gX_Work_left σ7) (gX_Work_right σ7) σ7 _ _ hf) (gd_V q_3_91 q_3_93 q_s_8 q_1_7 q_3_94) rfl ⟨rfl, rfl⟩ dd_Reducer_lessSub ⟨Nat.le_of_ble_eq_true rfl, Nat.le_of_ble_eq_true rfl⟩ rfl rfl (wX_29 ad cA σ7) rfl rfl (Nat.le_of_ble_eq_true rfl) ⟨Nat.zero_le _, Nat.zero_le _⟩ d_Reducer_less_145 (fun r11 σ12 => ?_)
                refine J_istore_n (lv' := [(1, .int r11), (0, .ref (ad 29)), (2, .int v2)]) h d_Reducer_less_148 rfl (by decide) rfl ?_
                refine J_goto (tgt := 193) h d_Reducer_less_149 (by decide) ?_
                refine J_sub [1, 0, 2] rfl ?_
                exact J_X_Reducer_less_b193 K D A ad cA N h (X_Reducer_less_L4 N  n) ih r11 v2 σ12
              refine J_if (fun c2 => ?_) (fun c2 => ?_)
              · refine J_tblIn (v := 2) (off := 71) (tgt := 152) h c2 d_Reducer_less_81 (by decide) (by decide) (by decide) (by decide) ?_
                refine J_aload_n (q := 0) h d_Reducer_less_152 rfl rfl ?_
                refine J_aload_n (q := 0) h d_Reducer_less_153 rfl rfl ?_
                refine J_getf h 29 (wX_29 ad cA σ7) (tb_ups in_Reducer) rfl 4 (by decide) (tb_up q_1_202) rfl d_Reducer_less_154 ?_
                refine J_getf h 30 (wX_30 ad cA σ7) (tb_ups in_Work) rfl 6 (by decide) (tb_up q_1_173) rfl d_Reducer_less_157 ?_
                refine J_aload_n (q := 0) h d_Reducer_less_160 rfl rfl ?_
                refine J_getf h 29 (wX_29 ad cA σ7) (tb_ups in_Reducer) rfl 4 (by decide) (tb_up q_1_202) rfl d_Reducer_less_161 ?_
                refine J_getf h 30 (wX_30 ad cA σ7) (tb_ups in_Work) rfl 7 (by decide) (tb_up q_1_175) rfl d_Reducer_less_164 ?_
                refine J_callVi (As := [.int (gX_Work_left σ7), .int (gX_Work_right σ7)]) (st := []) (rmc := rX_Reducer_lessContained) (q0 := 29) h (fun _ _ hf => cX_Reducer_lessContained (jl K) D ad cA N (gX_Work_left σ7) (gX_Work_right σ7) σ7 _ _ hf) (gd_V q_3_108 q_3_110 q_s_11 q_1_7 q_3_111) rfl ⟨rfl, rfl⟩ dd_Reducer_lessContained ⟨Nat.le_of_ble_eq_true rfl, Nat.le_of_ble_eq_true rfl⟩ rfl rfl (wX_29 ad cA σ7) rfl rfl (Nat.le_of_ble_eq_true rfl) ⟨Nat.zero_le _, Nat.zero_le _⟩ d_Reducer_less_167 (fun r13 σ14 => ?_)
                refine J_istore_n (lv' := [(1, .int r13), (0, .ref (ad 29)), (2, .int v2)]) h d_Reducer_less_170 rfl (by decide) rfl ?_
                refine J_goto (tgt := 193) h d_Reducer_less_171 (by decide) ?_
                refine J_sub [1, 0, 2] rfl ?_
                exact J_X_Reducer_less_b193 K D A ad cA N h (X_Reducer_less_L4 N  n) ih r13 v2 σ14
              refine J_tblOut (tgt := 174) h (by have t0 := lv_neT (a := 0) c0 (by decide); have t1 := lv_neT (a := 1) c1 (by decide); have t2 := lv_neT (a := 2) c2 (by decide); omega) d_Reducer_less_81 (by decide) ?_
              refine J_aload_n (q := 0) h d_Reducer_less_174 rfl rfl ?_
              refine J_aload_n (q := 0) h d_Reducer_less_175 rfl rfl ?_
              refine J_getf h 29 (wX_29 ad cA σ7) (tb_ups in_Reducer) rfl 4 (by decide) (tb_up q_1_202) rfl d_Reducer_less_176 ?_
              refine J_getf h 30 (wX_30 ad cA σ7) (tb_ups in_Work) rfl 6 (by decide) (tb_up q_1_173) rfl d_Reducer_less_179 ?_
              refine J_aload_n (q := 0) h d_Reducer_less_182 rfl rfl ?_
              refine J_getf h 29 (wX_29 ad cA σ7) (tb_ups in_Reducer) rfl 4 (by decide) (tb_up q_1_202) rfl d_Reducer_less_183 ?_
              refine J_getf h 30 (wX_30 ad cA σ7) (tb_ups in_Work) rfl 7 (by decide) (tb_up q_1_175) rfl d_Reducer_less_186 ?_
              refine J_callVi (As := [.int (gX_Work_left σ7), .int (gX_Work_right σ7)]) (st := []) (rmc := rX_Reducer_lessEqual) (q0 := 29) h (fun _ _ hf => cX_Reducer_lessEqual (jl K) D ad cA N (gX_Work_left σ7) (gX_Work_right σ7) σ7 _ _ hf) (gd_V q_3_113 q_3_115 q_s_12 q_1_7 q_3_116) rfl ⟨rfl, rfl⟩ dd_Reducer_lessEqual ⟨Nat.le_of_ble_eq_true rfl, Nat.le_of_ble_eq_true rfl⟩ rfl rfl (wX_29 ad cA σ7) rfl rfl (Nat.le_of_ble_eq_true rfl) ⟨Nat.zero_le _, Nat.zero_le _⟩ d_Reducer_less_189 (fun r15 σ16 => ?_)
              refine J_istore_n (lv' := [(1, .int r15), (0, .ref (ad 29)), (2, .int v2)]) h d_Reducer_less_192 rfl (by decide) rfl ?_
              refine J_sub [1, 0, 2] rfl ?_
              exact J_X_Reducer_less_b193 K D A ad cA N h (X_Reducer_less_L4 N  n) ih r15 v2 σ16
            · refine J_sub [0, 2] rfl ?_
              exact J_X_Reducer_less_b48 K D A ad cA N h (X_Reducer_less_L4 N  n) ih v2 σ3
      · refine J_aload_n (q := 0) h d_Reducer_less_199 rfl rfl ?_
        refine J_getf h 29 (wX_29 ad cA σ) (tb_ups in_Reducer) rfl 4 (by decide) (tb_up q_1_202) rfl d_Reducer_less_200 ?_
        refine J_iconst (v := 0) h d_Reducer_less_203 (by decide) ?_
        refine J_putf h 30 (wX_30 ad cA σ) (tb_ups in_Work) rfl ft_Work ft_Work_ok nm_Work 4 (by decide) (tb_up q_1_169) rfl rfl rfl (Nat.le_of_ble_eq_true rfl) (pX_30_4 ad cA σ 0) d_Reducer_less_204 (fun σ17 => ?_)
        refine J_iload_n (q := 1) h d_Reducer_less_207 rfl rfl ?_
        exact J_iret h rfl d_Reducer_less_208
def X_Reducer_less (N : Nat)  (σ : SX) : Option (Int32 × SX) := (X_Reducer_less_L4 N N 1 0 σ)
set_option maxRecDepth 100000 in
set_option maxHeartbeats 4000000 in
theorem J_X_Reducer_less (K : jx_E) (D : va_G) (A : Nat → Prop) (ad : Nat → Nat) (cA : Nat → ClassId) (N : Nat) (h : jx_ok K D clX (tysX cA) A 3 b_Reducer_less y_Reducer_less.cls ((Cond.code y_Reducer_less b_Reducer_less 3 (some .int)) :: tblG) rX_Reducer_less (some .int)) : ∀  (σ : SX), J K D clX A 3 (wX ad cA) (jx_Qi K D clX (tysX cA) (wX ad cA) A) 0 0 0 [(0, .ref (ad 29))] [] σ (X_Reducer_less N  σ) := by
  intro  σ
  rw [X_Reducer_less]
  refine J_iconst (v := 1) h d_Reducer_less_0 (by decide) ?_
  refine J_istore_n (lv' := [(1, .int 1), (0, .ref (ad 29))]) h d_Reducer_less_1 rfl (by decide) rfl ?_
  refine J_iconst (v := 0) h d_Reducer_less_2 (by decide) ?_
  refine J_istore_n (lv' := [(2, .int 0), (1, .int 1), (0, .ref (ad 29))]) h d_Reducer_less_3 rfl (by decide) rfl ?_
  refine J_sub [2, 1, 0] rfl ?_
  exact J_X_Reducer_less_L4 K D A ad cA N h N 1 0 σ
set_option maxRecDepth 100000 in
theorem cX_Reducer_less (l : Launch) (D : va_G) (ad : Nat → Nat) (cA : Nat → ClassId) (N : Nat)  (σ : SX) (r : Int32) (σ' : SX) (hf : X_Reducer_less N  σ = some (r, σ')) : MetI l y_Reducer_less ((Cond.code y_Reducer_less b_Reducer_less 3 (some .int)) :: tblG) rX_Reducer_less D clX (tysX cA) (wX ad cA) [.ref (ad 29)] σ r σ' :=
  jx_metI (by decide) rfl (Nat.le_of_ble_eq_true rfl) (fun K A h => J_X_Reducer_less K D A ad cA N h  σ) hf
def rX_Reducer_ask : Room := { frames := 1, cells := 0, slots := 0, locals := 24 }
theorem rm_ok_X_Reducer_ask : rX_Reducer_ask.cells = 0 ∧ rX_Reducer_ask.slots = 0 := ⟨rfl, rfl⟩
def X_Reducer_ask (x1 : Int32) (x2 : Int32) (x3 : Int32) (σ : SX) : Option (Int32 × SX) := (if x2 < 0 then (some ((-3), σ)) else (if (0 : Int32) ≤ x3 then (bd (X_Work_add x1 x2 x3 1 σ) (fun (r1 : Int32) (σ2 : SX) => (if r1 = 0 then (some ((-3), σ2)) else (some (1, σ2))))) else (some ((-3), σ))))
set_option maxRecDepth 100000 in
set_option maxHeartbeats 4000000 in
theorem J_X_Reducer_ask (K : jx_E) (D : va_G) (A : Nat → Prop) (ad : Nat → Nat) (cA : Nat → ClassId) (h : jx_ok K D clX (tysX cA) A 4 b_Reducer_ask y_Reducer_ask.cls ((Cond.code y_Reducer_ask b_Reducer_ask 4 (some .int)) :: tblG) rX_Reducer_ask (some .int)) : ∀ (x1 : Int32) (x2 : Int32) (x3 : Int32) (σ : SX), J K D clX A 4 (wX ad cA) (jx_Qi K D clX (tysX cA) (wX ad cA) A) 0 0 0 [(0, .ref (ad 29)), (1, .int x1), (2, .int x2), (3, .int x3)] [] σ (X_Reducer_ask x1 x2 x3 σ) := by
  intro x1 x2 x3 σ
  rw [X_Reducer_ask]
  refine J_iload_n (q := 2) h d_Reducer_ask_0 rfl rfl ?_
  refine J_if_lt (tgt := 8) h d_Reducer_ask_1 (by decide) ?_ ?_
  · refine J_bipush (v := (-3)) h d_Reducer_ask_8 (by decide) ?_
    exact J_iret h rfl d_Reducer_ask_10
  · refine J_iload_n (q := 3) h d_Reducer_ask_4 rfl rfl ?_
    refine J_if_ge (tgt := 11) h d_Reducer_ask_5 (by decide) ?_ ?_
    · refine J_aload_n (q := 0) h d_Reducer_ask_11 rfl rfl ?_
      refine J_getf h 29 (wX_29 ad cA σ) (tb_ups in_Reducer) rfl 4 (by decide) (tb_up q_1_202) rfl d_Reducer_ask_12 ?_
      refine J_iload_n (q := 1) h d_Reducer_ask_15 rfl rfl ?_
      refine J_iload_n (q := 2) h d_Reducer_ask_16 rfl rfl ?_
      refine J_iload_n (q := 3) h d_Reducer_ask_17 rfl rfl ?_
      refine J_iconst (v := 1) h d_Reducer_ask_18 (by decide) ?_
      refine J_callVi (As := [.int x1, .int x2, .int x3, .int 1]) (st := []) (rmc := rX_Work_add) (q0 := 30) h (fun _ _ hf => cX_Work_add (jl K) D ad cA x1 x2 x3 1 σ _ _ hf) (gd_V q_3_1 q_3_2 q_3_3 q_1_8 q_3_4) rfl ⟨rfl, rfl⟩ dd_Work_add ⟨Nat.le_of_ble_eq_true rfl, Nat.le_of_ble_eq_true rfl⟩ rfl rfl (wX_30 ad cA σ) rfl rfl (Nat.le_of_ble_eq_true rfl) ⟨Nat.zero_le _, Nat.zero_le _⟩ d_Reducer_ask_19 (fun r1 σ2 => ?_)
      refine J_if_eq (tgt := 29) h d_Reducer_ask_22 (by decide) ?_ ?_
      · refine J_bipush (v := (-3)) h d_Reducer_ask_29 (by decide) ?_
        exact J_iret h rfl d_Reducer_ask_31
      · refine J_iconst (v := 1) h d_Reducer_ask_25 (by decide) ?_
        refine J_goto (tgt := 31) h d_Reducer_ask_26 (by decide) ?_
        exact J_iret h rfl d_Reducer_ask_31
    · refine J_bipush (v := (-3)) h d_Reducer_ask_8 (by decide) ?_
      exact J_iret h rfl d_Reducer_ask_10
set_option maxRecDepth 100000 in
theorem cX_Reducer_ask (l : Launch) (D : va_G) (ad : Nat → Nat) (cA : Nat → ClassId) (x1 : Int32) (x2 : Int32) (x3 : Int32) (σ : SX) (r : Int32) (σ' : SX) (hf : X_Reducer_ask x1 x2 x3 σ = some (r, σ')) : MetI l y_Reducer_ask ((Cond.code y_Reducer_ask b_Reducer_ask 4 (some .int)) :: tblG) rX_Reducer_ask D clX (tysX cA) (wX ad cA) [.ref (ad 29), .int x1, .int x2, .int x3] σ r σ' :=
  jx_metI (by decide) rfl (Nat.le_of_ble_eq_true rfl) (fun K A h => J_X_Reducer_ask K D A ad cA h x1 x2 x3 σ) hf
def rX_Holder_putsInto : Room := { frames := 24, cells := 0, slots := 0, locals := 725 }
theorem rm_ok_X_Holder_putsInto : rX_Holder_putsInto.cells = 0 ∧ rX_Holder_putsInto.slots = 0 := ⟨rfl, rfl⟩
def X_Holder_putsInto (N : Nat) (x1 : Int32) (x2 : Int32) (σ : SX) : Option (Int32 × SX) := (bd (X_Bounds_variableOf x1 σ) (fun (r1 : Int32) (σ2 : SX) => (bd (X_Bounds_variableOf x2 σ2) (fun (r3 : Int32) (σ4 : SX) => (bd (X_Bounds_typeOf x1 σ4) (fun (r5 : Int32) (σ6 : SX) => (bd (X_Bounds_typeOf x2 σ6) (fun (r7 : Int32) (σ8 : SX) => (bd (X_Bounds_sortOf x1 σ8) (fun (r9 : Int32) (σ10 : SX) => (if r9 = 0 then (bd (X_Types_isProper r5 σ10) (fun (r11 : Int32) (σ12 : SX) => (if r11 = 0 then (some (1, σ12)) else (if r3 < 0 then (some (1, σ12)) else (if (12 : Int32) ≤ r3 then (some (1, σ12)) else (bd (X_Types_variablesIn r7 σ12) (fun (r13 : Int32) (σ14 : SX) => (if ((r13 >>> (r1 &&& 31)) &&& 1) = 0 then (some (1, σ14)) else (bd (X_Exchange_forVariables σ14) (fun (r15 : Unit) (σ16 : SX) => (bd (X_Exchange_setInstead r1 r5 σ16) (fun (r17 : Unit) (σ18 : SX) => (bd (X_Exchange_put N 22 r7 1 σ18) (fun (r19 : Int32) (σ20 : SX) => (bd (X_Bounds_sortOf x2 σ20) (fun (r21 : Int32) (σ22 : SX) => (if r21 = 0 then (if ck r3 12 = true then (bd (X_Reducer_ask 3 (aX_I_variableTypes σ22 r3.toNatClampNeg) r19 σ22) (fun (r23 : Int32) (σ24 : SX) => (some (r23, σ24)))) else none) else (if r21 = 1 then (if ck r3 12 = true then (bd (X_Reducer_ask 1 (aX_I_variableTypes σ22 r3.toNatClampNeg) r19 σ22) (fun (r25 : Int32) (σ26 : SX) => (some (r25, σ26)))) else none) else (if ck r3 12 = true then (bd (X_Reducer_ask 1 r19 (aX_I_variableTypes σ22 r3.toNatClampNeg) σ22) (fun (r27 : Int32) (σ28 : SX) => (some (r27, σ28)))) else none))))))))))))))))))) else (some (1, σ10)))))))))))))
set_option maxRecDepth 100000 in
set_option maxHeartbeats 4000000 in
theorem J_X_Holder_putsInto (K : jx_E) (D : va_G) (A : Nat → Prop) (ad : Nat → Nat) (cA : Nat → ClassId) (N : Nat) (h : jx_ok K D clX (tysX cA) A 8 b_Holder_putsInto y_Holder_putsInto.cls ((Cond.code y_Holder_putsInto b_Holder_putsInto 8 (some .int)) :: tblG) rX_Holder_putsInto (some .int)) : ∀ (x1 : Int32) (x2 : Int32) (σ : SX), J K D clX A 8 (wX ad cA) (jx_Qi K D clX (tysX cA) (wX ad cA) A) 0 0 0 [(0, .ref (ad 35)), (1, .int x1), (2, .int x2)] [] σ (X_Holder_putsInto N x1 x2 σ) := by
  intro x1 x2 σ
  rw [X_Holder_putsInto]
  refine J_aload_n (q := 0) h d_Holder_putsInto_0 rfl rfl ?_
  refine J_getf h 35 (wX_35 ad cA σ) (tb_ups in_Holder) rfl 2 (by decide) (tb_up q_1_236) rfl d_Holder_putsInto_1 ?_
  refine J_iload_n (q := 1) h d_Holder_putsInto_4 rfl rfl ?_
  refine J_callVi (As := [.int x1]) (st := []) (rmc := rX_Bounds_variableOf) (q0 := 19) h (fun _ _ hf => cX_Bounds_variableOf (jl K) D ad cA x1 σ _ _ hf) (gd_V q_3_121 q_3_122 q_3_123 q_1_5 q_3_124) rfl ⟨rfl, rfl⟩ dd_Bounds_variableOf ⟨Nat.le_of_ble_eq_true rfl, Nat.le_of_ble_eq_true rfl⟩ rfl rfl (wX_19 ad cA σ) rfl rfl (Nat.le_of_ble_eq_true rfl) ⟨Nat.zero_le _, Nat.zero_le _⟩ d_Holder_putsInto_5 (fun r1 σ2 => ?_)
  refine J_istore_n (lv' := [(3, .int r1), (0, .ref (ad 35)), (1, .int x1), (2, .int x2)]) h d_Holder_putsInto_8 rfl (by decide) rfl ?_
  refine J_aload_n (q := 1) h d_Holder_putsInto_9 rfl rfl ?_
  refine J_getf h 35 (wX_35 ad cA σ2) (tb_ups in_Holder) rfl 2 (by decide) (tb_up q_1_236) rfl d_Holder_putsInto_10 ?_
  refine J_iload_n (q := 3) h d_Holder_putsInto_13 rfl rfl ?_
  refine J_callVi (As := [.int x2]) (st := []) (rmc := rX_Bounds_variableOf) (q0 := 19) h (fun _ _ hf => cX_Bounds_variableOf (jl K) D ad cA x2 σ2 _ _ hf) (gd_V q_3_121 q_3_122 q_3_123 q_1_5 q_3_124) rfl ⟨rfl, rfl⟩ dd_Bounds_variableOf ⟨Nat.le_of_ble_eq_true rfl, Nat.le_of_ble_eq_true rfl⟩ rfl rfl (wX_19 ad cA σ2) rfl rfl (Nat.le_of_ble_eq_true rfl) ⟨Nat.zero_le _, Nat.zero_le _⟩ d_Holder_putsInto_14 (fun r3 σ4 => ?_)
  refine J_istore (lv' := [(4, .int r3), (3, .int r1), (0, .ref (ad 35)), (1, .int x1), (2, .int x2)]) h d_Holder_putsInto_17 (by decide) rfl ?_
  refine J_aload_n (q := 2) h d_Holder_putsInto_19 rfl rfl ?_
  refine J_getf h 35 (wX_35 ad cA σ4) (tb_ups in_Holder) rfl 2 (by decide) (tb_up q_1_236) rfl d_Holder_putsInto_20 ?_
  refine J_iload_n (q := 3) h d_Holder_putsInto_23 rfl rfl ?_
  refine J_callVi (As := [.int x1]) (st := []) (rmc := rX_Bounds_typeOf) (q0 := 19) h (fun _ _ hf => cX_Bounds_typeOf (jl K) D ad cA x1 σ4 _ _ hf) (gd_V q_3_129 q_3_130 q_3_131 q_1_5 q_3_132) rfl ⟨rfl, rfl⟩ dd_Bounds_typeOf ⟨Nat.le_of_ble_eq_true rfl, Nat.le_of_ble_eq_true rfl⟩ rfl rfl (wX_19 ad cA σ4) rfl rfl (Nat.le_of_ble_eq_true rfl) ⟨Nat.zero_le _, Nat.zero_le _⟩ d_Holder_putsInto_24 (fun r5 σ6 => ?_)
  refine J_istore (lv' := [(5, .int r5), (4, .int r3), (3, .int r1), (0, .ref (ad 35)), (1, .int x1), (2, .int x2)]) h d_Holder_putsInto_27 (by decide) rfl ?_
  refine J_aload_n (q := 3) h d_Holder_putsInto_29 rfl rfl ?_
  refine J_getf h 35 (wX_35 ad cA σ6) (tb_ups in_Holder) rfl 2 (by decide) (tb_up q_1_236) rfl d_Holder_putsInto_30 ?_
  refine J_iload_n (q := 5) h d_Holder_putsInto_33 rfl rfl ?_
  refine J_callVi (As := [.int x2]) (st := []) (rmc := rX_Bounds_typeOf) (q0 := 19) h (fun _ _ hf => cX_Bounds_typeOf (jl K) D ad cA x2 σ6 _ _ hf) (gd_V q_3_129 q_3_130 q_3_131 q_1_5 q_3_132) rfl ⟨rfl, rfl⟩ dd_Bounds_typeOf ⟨Nat.le_of_ble_eq_true rfl, Nat.le_of_ble_eq_true rfl⟩ rfl rfl (wX_19 ad cA σ6) rfl rfl (Nat.le_of_ble_eq_true rfl) ⟨Nat.zero_le _, Nat.zero_le _⟩ d_Holder_putsInto_34 (fun r7 σ8 => ?_)
  refine J_istore (lv' := [(6, .int r7), (5, .int r5), (4, .int r3), (3, .int r1), (0, .ref (ad 35)), (1, .int x1), (2, .int x2)]) h d_Holder_putsInto_37 (by decide) rfl ?_
  refine J_aload_n (q := 4) h d_Holder_putsInto_39 rfl rfl ?_
  refine J_getf h 35 (wX_35 ad cA σ8) (tb_ups in_Holder) rfl 2 (by decide) (tb_up q_1_236) rfl d_Holder_putsInto_40 ?_
  refine J_iload_n (q := 5) h d_Holder_putsInto_43 rfl rfl ?_
  refine J_callVi (As := [.int x1]) (st := []) (rmc := rX_Bounds_sortOf) (q0 := 19) h (fun _ _ hf => cX_Bounds_sortOf (jl K) D ad cA x1 σ8 _ _ hf) (gd_V q_3_133 q_3_134 q_3_135 q_1_5 q_3_136) rfl ⟨rfl, rfl⟩ dd_Bounds_sortOf ⟨Nat.le_of_ble_eq_true rfl, Nat.le_of_ble_eq_true rfl⟩ rfl rfl (wX_19 ad cA σ8) rfl rfl (Nat.le_of_ble_eq_true rfl) ⟨Nat.zero_le _, Nat.zero_le _⟩ d_Holder_putsInto_44 (fun r9 σ10 => ?_)
  refine J_if_ne (tgt := 62) h d_Holder_putsInto_47 (by decide) ?_ ?_
  · refine J_aload_n (q := 4) h d_Holder_putsInto_50 rfl rfl ?_
    refine J_getf h 35 (wX_35 ad cA σ10) (tb_ups in_Holder) rfl 1 (by decide) (tb_up q_1_235) rfl d_Holder_putsInto_51 ?_
    refine J_iload (q := 1) h d_Holder_putsInto_54 rfl ?_
    refine J_callVi (As := [.int r5]) (st := []) (rmc := rX_Types_isProper) (q0 := 7) h (fun _ _ hf => cX_Types_isProper (jl K) D ad cA r5 σ10 _ _ hf) (gd_V q_3_137 q_3_23 q_3_24 q_1_3 q_3_25) rfl ⟨rfl, rfl⟩ dd_Types_isProper ⟨Nat.le_of_ble_eq_true rfl, Nat.le_of_ble_eq_true rfl⟩ rfl rfl (wX_7 ad cA σ10) rfl rfl (Nat.le_of_ble_eq_true rfl) ⟨Nat.zero_le _, Nat.zero_le _⟩ d_Holder_putsInto_56 (fun r11 σ12 => ?_)
    refine J_if_ne (tgt := 64) h d_Holder_putsInto_59 (by decide) ?_ ?_
    · refine J_iconst (v := 1) h d_Holder_putsInto_62 (by decide) ?_
      exact J_iret h rfl d_Holder_putsInto_63
    · refine J_iload (q := 2) h d_Holder_putsInto_64 rfl ?_
      refine J_if_lt (tgt := 92) h d_Holder_putsInto_66 (by decide) ?_ ?_
      · refine J_iconst (v := 1) h d_Holder_putsInto_92 (by decide) ?_
        exact J_iret h rfl d_Holder_putsInto_93
      · refine J_iload (q := 2) h d_Holder_putsInto_69 rfl ?_
        refine J_bipush (v := 12) h d_Holder_putsInto_71 (by decide) ?_
        refine J_icmp_ge (tgt := 92) h d_Holder_putsInto_73 (by decide) ?_ ?_
        · refine J_iconst (v := 1) h d_Holder_putsInto_92 (by decide) ?_
          exact J_iret h rfl d_Holder_putsInto_93
        · refine J_aload_n (q := 4) h d_Holder_putsInto_76 rfl rfl ?_
          refine J_getf h 35 (wX_35 ad cA σ12) (tb_ups in_Holder) rfl 1 (by decide) (tb_up q_1_235) rfl d_Holder_putsInto_77 ?_
          refine J_iload (q := 0) h d_Holder_putsInto_80 rfl ?_
          refine J_callVi (As := [.int r7]) (st := []) (rmc := rX_Types_variablesIn) (q0 := 7) h (fun _ _ hf => cX_Types_variablesIn (jl K) D ad cA r7 σ12 _ _ hf) (gd_V q_3_138 q_2_221 q_2_222 q_1_3 q_2_223) rfl ⟨rfl, rfl⟩ dd_Types_variablesIn ⟨Nat.le_of_ble_eq_true rfl, Nat.le_of_ble_eq_true rfl⟩ rfl rfl (wX_7 ad cA σ12) rfl rfl (Nat.le_of_ble_eq_true rfl) ⟨Nat.zero_le _, Nat.zero_le _⟩ d_Holder_putsInto_82 (fun r13 σ14 => ?_)
          refine J_iload_n (q := 3) h d_Holder_putsInto_85 rfl rfl ?_
          refine J_ishr h d_Holder_putsInto_86 ?_
          refine J_iconst (v := 1) h d_Holder_putsInto_87 (by decide) ?_
          refine J_iand h d_Holder_putsInto_88 ?_
          refine J_if_ne (tgt := 94) h d_Holder_putsInto_89 (by decide) ?_ ?_
          · refine J_iconst (v := 1) h d_Holder_putsInto_92 (by decide) ?_
            exact J_iret h rfl d_Holder_putsInto_93
          · refine J_aload_n (q := 4) h d_Holder_putsInto_94 rfl rfl ?_
            refine J_getf h 35 (wX_35 ad cA σ14) (tb_ups in_Holder) rfl 3 (by decide) (tb_up q_1_237) rfl d_Holder_putsInto_95 ?_
            refine J_callVv (As := []) (st := []) (rmc := rX_Exchange_forVariables) (q0 := 25) h (fun _ _ hf => cX_Exchange_forVariables (jl K) D ad cA  σ14 _ _ hf) (gd_V q_3_139 q_3_140 q_3_141 q_1_6 q_3_142) rfl ⟨rfl, rfl⟩ dd_Exchange_forVariables ⟨Nat.le_of_ble_eq_true rfl, Nat.le_of_ble_eq_true rfl⟩ rfl rfl (wX_25 ad cA σ14) rfl rfl (Nat.le_of_ble_eq_true rfl) ⟨Nat.zero_le _, Nat.zero_le _⟩ d_Holder_putsInto_98 (fun r15 σ16 => ?_)
            refine J_aload_n (q := 4) h d_Holder_putsInto_101 rfl rfl ?_
            refine J_getf h 35 (wX_35 ad cA σ16) (tb_ups in_Holder) rfl 3 (by decide) (tb_up q_1_237) rfl d_Holder_putsInto_102 ?_
            refine J_iload_n (q := 3) h d_Holder_putsInto_105 rfl rfl ?_
            refine J_iload (q := 1) h d_Holder_putsInto_106 rfl ?_
            refine J_callVv (As := [.int r1, .int r5]) (st := []) (rmc := rX_Exchange_setInstead) (q0 := 25) h (fun _ _ hf => cX_Exchange_setInstead (jl K) D ad cA r1 r5 σ16 _ _ hf) (gd_V q_3_143 q_3_144 q_3_145 q_1_6 q_3_146) rfl ⟨rfl, rfl⟩ dd_Exchange_setInstead ⟨Nat.le_of_ble_eq_true rfl, Nat.le_of_ble_eq_true rfl⟩ rfl rfl (wX_25 ad cA σ16) rfl rfl (Nat.le_of_ble_eq_true rfl) ⟨Nat.zero_le _, Nat.zero_le _⟩ d_Holder_putsInto_108 (fun r17 σ18 => ?_)
            refine J_aload_n (q := 4) h d_Holder_putsInto_111 rfl rfl ?_
            refine J_getf h 35 (wX_35 ad cA σ18) (tb_ups in_Holder) rfl 3 (by decide) (tb_up q_1_237) rfl d_Holder_putsInto_112 ?_
            refine J_iload (q := 0) h d_Holder_putsInto_115 rfl ?_
            refine J_iconst (v := 1) h d_Holder_putsInto_117 (by decide) ?_
            refine J_callVi (As := [.int r7, .int 1]) (st := []) (rmc := (rX_rec29 22)) (q0 := 25) h (fun _ _ hf => cX_Exchange_put (jl K) D ad cA N 22 r7 1 σ18 _ _ hf) (gd_V q_3_147 q_3_77 q_3_78 q_1_6 q_3_79) rfl ⟨rfl, rfl⟩ dd_Exchange_put ⟨Nat.le_of_ble_eq_true rfl, Nat.le_of_ble_eq_true rfl⟩ rfl rfl (wX_25 ad cA σ18) rfl rfl (Nat.le_of_ble_eq_true rfl) ⟨Nat.zero_le _, Nat.zero_le _⟩ d_Holder_putsInto_118 (fun r19 σ20 => ?_)
            refine J_istore (lv' := [(7, .int r19), (6, .int r7), (5, .int r5), (4, .int r3), (3, .int r1), (0, .ref (ad 35)), (1, .int x1), (2, .int x2)]) h d_Holder_putsInto_121 (by decide) rfl ?_
            refine J_aload_n (q := 5) h d_Holder_putsInto_123 rfl rfl ?_
            refine J_getf h 35 (wX_35 ad cA σ20) (tb_ups in_Holder) rfl 2 (by decide) (tb_up q_1_236) rfl d_Holder_putsInto_124 ?_
            refine J_iload_n (q := 7) h d_Holder_putsInto_127 rfl rfl ?_
            refine J_callVi (As := [.int x2]) (st := []) (rmc := rX_Bounds_sortOf) (q0 := 19) h (fun _ _ hf => cX_Bounds_sortOf (jl K) D ad cA x2 σ20 _ _ hf) (gd_V q_3_133 q_3_134 q_3_135 q_1_5 q_3_136) rfl ⟨rfl, rfl⟩ dd_Bounds_sortOf ⟨Nat.le_of_ble_eq_true rfl, Nat.le_of_ble_eq_true rfl⟩ rfl rfl (wX_19 ad cA σ20) rfl rfl (Nat.le_of_ble_eq_true rfl) ⟨Nat.zero_le _, Nat.zero_le _⟩ d_Holder_putsInto_128 (fun r21 σ22 => ?_)
            refine J_if (fun c0 => ?_) (fun c0 => ?_)
            · refine J_lkp (off := 25) (tgt := 156) h (by subst c0; rfl) d_Holder_putsInto_131 (by decide) (by decide) ?_
              refine J_aload_n (q := 5) h d_Holder_putsInto_156 rfl rfl ?_
              refine J_getf h 35 (wX_35 ad cA σ22) (tb_ups in_Holder) rfl 4 (by decide) (tb_up q_1_238) rfl d_Holder_putsInto_157 ?_
              refine J_iconst (v := 3) h d_Holder_putsInto_160 (by decide) ?_
              refine J_aload_n (q := 5) h d_Holder_putsInto_161 rfl rfl ?_
              refine J_getf h 35 (wX_35 ad cA σ22) (tb_ups in_Holder) rfl 5 (by decide) (tb_up q_1_239) rfl d_Holder_putsInto_162 ?_
              refine J_iload (q := 3) h d_Holder_putsInto_165 rfl ?_
              refine J_iald h 24 20 (wX_24 ad cA σ22) rfl d_Holder_putsInto_167 ?_
              refine J_iload (q := 0) h d_Holder_putsInto_168 rfl ?_
              refine J_callVi (As := [.int 3, .int (aX_I_variableTypes σ22 r3.toNatClampNeg), .int r19]) (st := []) (rmc := rX_Reducer_ask) (q0 := 29) h (fun _ _ hf => cX_Reducer_ask (jl K) D ad cA 3 (aX_I_variableTypes σ22 r3.toNatClampNeg) r19 σ22 _ _ hf) (gd_V q_3_148 q_2_238 q_2_239 q_1_7 q_3_0) rfl ⟨rfl, rfl⟩ dd_Reducer_ask ⟨Nat.le_of_ble_eq_true rfl, Nat.le_of_ble_eq_true rfl⟩ rfl rfl (wX_29 ad cA σ22) rfl rfl (Nat.le_of_ble_eq_true rfl) ⟨Nat.zero_le _, Nat.zero_le _⟩ d_Holder_putsInto_170 (fun r23 σ24 => ?_)
              exact J_iret h rfl d_Holder_putsInto_173
            refine J_if (fun c1 => ?_) (fun c1 => ?_)
            · refine J_lkp (off := 43) (tgt := 174) h (by subst c1; rfl) d_Holder_putsInto_131 (by decide) (by decide) ?_
              refine J_aload_n (q := 5) h d_Holder_putsInto_174 rfl rfl ?_
              refine J_getf h 35 (wX_35 ad cA σ22) (tb_ups in_Holder) rfl 4 (by decide) (tb_up q_1_238) rfl d_Holder_putsInto_175 ?_
              refine J_iconst (v := 1) h d_Holder_putsInto_178 (by decide) ?_
              refine J_aload_n (q := 5) h d_Holder_putsInto_179 rfl rfl ?_
              refine J_getf h 35 (wX_35 ad cA σ22) (tb_ups in_Holder) rfl 5 (by decide) (tb_up q_1_239) rfl d_Holder_putsInto_180 ?_
              refine J_iload (q := 3) h d_Holder_putsInto_183 rfl ?_
              refine J_iald h 24 20 (wX_24 ad cA σ22) rfl d_Holder_putsInto_185 ?_
              refine J_iload (q := 0) h d_Holder_putsInto_186 rfl ?_
              refine J_callVi (As := [.int 1, .int (aX_I_variableTypes σ22 r3.toNatClampNeg), .int r19]) (st := []) (rmc := rX_Reducer_ask) (q0 := 29) h (fun _ _ hf => cX_Reducer_ask (jl K) D ad cA 1 (aX_I_variableTypes σ22 r3.toNatClampNeg) r19 σ22 _ _ hf) (gd_V q_3_148 q_2_238 q_2_239 q_1_7 q_3_0) rfl ⟨rfl, rfl⟩ dd_Reducer_ask ⟨Nat.le_of_ble_eq_true rfl, Nat.le_of_ble_eq_true rfl⟩ rfl rfl (wX_29 ad cA σ22) rfl rfl (Nat.le_of_ble_eq_true rfl) ⟨Nat.zero_le _, Nat.zero_le _⟩ d_Holder_putsInto_188 (fun r25 σ26 => ?_)
              exact J_iret h rfl d_Holder_putsInto_191
            refine J_lkp (off := 61) (tgt := 192) h (by show Op.lookupswitch.offset _ _ _ = _; rw [lv_osw c0 (by decide)]; rw [lv_osw c1 (by decide)]; rfl) d_Holder_putsInto_131 (by decide) (by decide) ?_
            refine J_aload_n (q := 5) h d_Holder_putsInto_192 rfl rfl ?_
            refine J_getf h 35 (wX_35 ad cA σ22) (tb_ups in_Holder) rfl 4 (by decide) (tb_up q_1_238) rfl d_Holder_putsInto_193 ?_
            refine J_iconst (v := 1) h d_Holder_putsInto_196 (by decide) ?_
            refine J_iload (q := 0) h d_Holder_putsInto_197 rfl ?_
            refine J_aload_n (q := 5) h d_Holder_putsInto_199 rfl rfl ?_
            refine J_getf h 35 (wX_35 ad cA σ22) (tb_ups in_Holder) rfl 5 (by decide) (tb_up q_1_239) rfl d_Holder_putsInto_200 ?_
            refine J_iload (q := 3) h d_Holder_putsInto_203 rfl ?_
            refine J_iald h 24 20 (wX_24 ad cA σ22) rfl d_Holder_putsInto_205 ?_
            refine J_callVi (As := [.int 1, .int r19, .int (aX_I_variableTypes σ22 r3.toNatClampNeg)]) (st := []) (rmc := rX_Reducer_ask) (q0 := 29) h (fun _ _ hf => cX_Reducer_ask (jl K) D ad cA 1 r19 (aX_I_variableTypes σ22 r3.toNatClampNeg) σ22 _ _ hf) (gd_V q_3_148 q_2_238 q_2_239 q_1_7 q_3_0) rfl ⟨rfl, rfl⟩ dd_Reducer_ask ⟨Nat.le_of_ble_eq_true rfl, Nat.le_of_ble_eq_true rfl⟩ rfl rfl (wX_29 ad cA σ22) rfl rfl (Nat.le_of_ble_eq_true rfl) ⟨Nat.zero_le _, Nat.zero_le _⟩ d_Holder_putsInto_206 (fun r27 σ28 => ?_)
            exact J_iret h rfl d_Holder_putsInto_209
  · refine J_iconst (v := 1) h d_Holder_putsInto_62 (by decide) ?_
    exact J_iret h rfl d_Holder_putsInto_63
set_option maxRecDepth 100000 in
theorem cX_Holder_putsInto (l : Launch) (D : va_G) (ad : Nat → Nat) (cA : Nat → ClassId) (N : Nat) (x1 : Int32) (x2 : Int32) (σ : SX) (r : Int32) (σ' : SX) (hf : X_Holder_putsInto N x1 x2 σ = some (r, σ')) : MetI l y_Holder_putsInto ((Cond.code y_Holder_putsInto b_Holder_putsInto 8 (some .int)) :: tblG) rX_Holder_putsInto D clX (tysX cA) (wX ad cA) [.ref (ad 35), .int x1, .int x2] σ r σ' :=
  jx_metI (by decide) rfl (Nat.le_of_ble_eq_true rfl) (fun K A h => J_X_Holder_putsInto K D A ad cA N h x1 x2 σ) hf
def rX_Holder_comes : Room := { frames := 25, cells := 0, slots := 0, locals := 752 }
theorem rm_ok_X_Holder_comes : rX_Holder_comes.cells = 0 ∧ rX_Holder_comes.slots = 0 := ⟨rfl, rfl⟩
def X_Holder_comes_b119 (N : Nat) (v3 : Int32) (v4 : Int32) (v5 : Int32) (v6 : Int32) (σ : SX) : Option (Int32 × SX) := (if v3 = 1 then (some (1, σ)) else (if v4 = 1 then (bd (X_Reducer_ask 1 v5 v6 σ) (fun (r17 : Int32) (σ18 : SX) => (some (r17, σ18)))) else (some (1, σ))))
set_option maxRecDepth 100000 in
set_option maxHeartbeats 4000000 in
theorem J_X_Holder_comes_b119 (K : jx_E) (D : va_G) (A : Nat → Prop) (ad : Nat → Nat) (cA : Nat → ClassId) (N : Nat) (h : jx_ok K D clX (tysX cA) A 7 b_Holder_comes y_Holder_comes.cls ((Cond.code y_Holder_comes b_Holder_comes 7 (some .int)) :: tblG) rX_Holder_comes (some .int)) : ∀ (v3 : Int32) (v4 : Int32) (v5 : Int32) (v6 : Int32) (σ : SX), J K D clX A 7 (wX ad cA) (jx_Qi K D clX (tysX cA) (wX ad cA) A) 0 0 119 [(0, .ref (ad 35)), (3, .int v3), (4, .int v4), (5, .int v5), (6, .int v6)] [] σ (X_Holder_comes_b119 N v3 v4 v5 v6 σ) := by
  intro v3 v4 v5 v6 σ
  rw [X_Holder_comes_b119]
  refine J_iload_n (q := 1) h d_Holder_comes_119 rfl rfl ?_
  refine J_iconst (v := 1) h d_Holder_comes_120 (by decide) ?_
  refine J_icmp_eq (tgt := 143) h d_Holder_comes_121 (by decide) ?_ ?_
  · refine J_iconst (v := 1) h d_Holder_comes_143 (by decide) ?_
    exact J_iret h rfl d_Holder_comes_144
  · refine J_iload (q := 2) h d_Holder_comes_124 rfl ?_
    refine J_iconst (v := 1) h d_Holder_comes_126 (by decide) ?_
    refine J_icmp_ne (tgt := 143) h d_Holder_comes_127 (by decide) ?_ ?_
    · refine J_aload_n (q := 0) h d_Holder_comes_130 rfl rfl ?_
      refine J_getf h 35 (wX_35 ad cA σ) (tb_ups in_Holder) rfl 4 (by decide) (tb_up q_1_238) rfl d_Holder_comes_131 ?_
      refine J_iconst (v := 1) h d_Holder_comes_134 (by decide) ?_
      refine J_iload (q := 3) h d_Holder_comes_135 rfl ?_
      refine J_iload (q := 4) h d_Holder_comes_137 rfl ?_
      refine J_callVi (As := [.int 1, .int v5, .int v6]) (st := []) (rmc := rX_Reducer_ask) (q0 := 29) h (fun _ _ hf => cX_Reducer_ask (jl K) D ad cA 1 v5 v6 σ _ _ hf) (gd_V q_3_148 q_2_238 q_2_239 q_1_7 q_3_0) rfl ⟨rfl, rfl⟩ dd_Reducer_ask ⟨Nat.le_of_ble_eq_true rfl, Nat.le_of_ble_eq_true rfl⟩ rfl rfl (wX_29 ad cA σ) rfl rfl (Nat.le_of_ble_eq_true rfl) ⟨Nat.zero_le _, Nat.zero_le _⟩ d_Holder_comes_139 (fun r17 σ18 => ?_)
      exact J_iret h rfl d_Holder_comes_142
    · refine J_iconst (v := 1) h d_Holder_comes_143 (by decide) ?_
      exact J_iret h rfl d_Holder_comes_144
def X_Holder_comes_b96 (N : Nat) (v3 : Int32) (v4 : Int32) (v5 : Int32) (v6 : Int32) (σ : SX) : Option (Int32 × SX) := (if v3 = 0 then (if v4 = 2 then (bd (X_Reducer_ask 1 v6 v5 σ) (fun (r15 : Int32) (σ16 : SX) => (some (r15, σ16)))) else (X_Holder_comes_b119 N v3 v4 v5 v6 σ)) else (X_Holder_comes_b119 N v3 v4 v5 v6 σ))
set_option maxRecDepth 100000 in
set_option maxHeartbeats 4000000 in
theorem J_X_Holder_comes_b96 (K : jx_E) (D : va_G) (A : Nat → Prop) (ad : Nat → Nat) (cA : Nat → ClassId) (N : Nat) (h : jx_ok K D clX (tysX cA) A 7 b_Holder_comes y_Holder_comes.cls ((Cond.code y_Holder_comes b_Holder_comes 7 (some .int)) :: tblG) rX_Holder_comes (some .int)) : ∀ (v3 : Int32) (v4 : Int32) (v5 : Int32) (v6 : Int32) (σ : SX), J K D clX A 7 (wX ad cA) (jx_Qi K D clX (tysX cA) (wX ad cA) A) 0 0 96 [(0, .ref (ad 35)), (3, .int v3), (4, .int v4), (5, .int v5), (6, .int v6)] [] σ (X_Holder_comes_b96 N v3 v4 v5 v6 σ) := by
  intro v3 v4 v5 v6 σ
  rw [X_Holder_comes_b96]
  refine J_iload_n (q := 1) h d_Holder_comes_96 rfl rfl ?_
  refine J_if_ne (tgt := 119) h d_Holder_comes_97 (by decide) ?_ ?_
  · refine J_iload (q := 2) h d_Holder_comes_100 rfl ?_
    refine J_iconst (v := 2) h d_Holder_comes_102 (by decide) ?_
    refine J_icmp_ne (tgt := 119) h d_Holder_comes_103 (by decide) ?_ ?_
    · refine J_aload_n (q := 0) h d_Holder_comes_106 rfl rfl ?_
      refine J_getf h 35 (wX_35 ad cA σ) (tb_ups in_Holder) rfl 4 (by decide) (tb_up q_1_238) rfl d_Holder_comes_107 ?_
      refine J_iconst (v := 1) h d_Holder_comes_110 (by decide) ?_
      refine J_iload (q := 4) h d_Holder_comes_111 rfl ?_
      refine J_iload (q := 3) h d_Holder_comes_113 rfl ?_
      refine J_callVi (As := [.int 1, .int v6, .int v5]) (st := []) (rmc := rX_Reducer_ask) (q0 := 29) h (fun _ _ hf => cX_Reducer_ask (jl K) D ad cA 1 v6 v5 σ _ _ hf) (gd_V q_3_148 q_2_238 q_2_239 q_1_7 q_3_0) rfl ⟨rfl, rfl⟩ dd_Reducer_ask ⟨Nat.le_of_ble_eq_true rfl, Nat.le_of_ble_eq_true rfl⟩ rfl rfl (wX_29 ad cA σ) rfl rfl (Nat.le_of_ble_eq_true rfl) ⟨Nat.zero_le _, Nat.zero_le _⟩ d_Holder_comes_115 (fun r15 σ16 => ?_)
      exact J_iret h rfl d_Holder_comes_118
    · exact J_X_Holder_comes_b119 K D A ad cA N h v3 v4 v5 v6 σ
  · exact J_X_Holder_comes_b119 K D A ad cA N h v3 v4 v5 v6 σ
def X_Holder_comes (N : Nat) (x1 : Int32) (x2 : Int32) (σ : SX) : Option (Int32 × SX) := (bd (X_Bounds_variableOf x1 σ) (fun (r1 : Int32) (σ2 : SX) => (bd (X_Bounds_variableOf x2 σ2) (fun (r3 : Int32) (σ4 : SX) => (if r1 = r3 then (bd (X_Bounds_sortOf x1 σ4) (fun (r5 : Int32) (σ6 : SX) => (bd (X_Bounds_sortOf x2 σ6) (fun (r7 : Int32) (σ8 : SX) => (bd (X_Bounds_typeOf x1 σ8) (fun (r9 : Int32) (σ10 : SX) => (bd (X_Bounds_typeOf x2 σ10) (fun (r11 : Int32) (σ12 : SX) => (if r5 = 0 then (if r7 = 0 then (if x2 ≤ x1 then (some (1, σ12)) else (bd (X_Reducer_ask 3 r9 r11 σ12) (fun (r13 : Int32) (σ14 : SX) => (some (r13, σ14))))) else (X_Holder_comes_b96 N r5 r7 r9 r11 σ12)) else (X_Holder_comes_b96 N r5 r7 r9 r11 σ12)))))))))) else (bd (X_Holder_putsInto N x1 x2 σ4) (fun (r19 : Int32) (σ20 : SX) => (some (r19, σ20)))))))))
set_option maxRecDepth 100000 in
set_option maxHeartbeats 4000000 in
theorem J_X_Holder_comes (K : jx_E) (D : va_G) (A : Nat → Prop) (ad : Nat → Nat) (cA : Nat → ClassId) (N : Nat) (h : jx_ok K D clX (tysX cA) A 7 b_Holder_comes y_Holder_comes.cls ((Cond.code y_Holder_comes b_Holder_comes 7 (some .int)) :: tblG) rX_Holder_comes (some .int)) : ∀ (x1 : Int32) (x2 : Int32) (σ : SX), J K D clX A 7 (wX ad cA) (jx_Qi K D clX (tysX cA) (wX ad cA) A) 0 0 0 [(0, .ref (ad 35)), (1, .int x1), (2, .int x2)] [] σ (X_Holder_comes N x1 x2 σ) := by
  intro x1 x2 σ
  rw [X_Holder_comes]
  refine J_aload_n (q := 0) h d_Holder_comes_0 rfl rfl ?_
  refine J_getf h 35 (wX_35 ad cA σ) (tb_ups in_Holder) rfl 2 (by decide) (tb_up q_1_236) rfl d_Holder_comes_1 ?_
  refine J_iload_n (q := 1) h d_Holder_comes_4 rfl rfl ?_
  refine J_callVi (As := [.int x1]) (st := []) (rmc := rX_Bounds_variableOf) (q0 := 19) h (fun _ _ hf => cX_Bounds_variableOf (jl K) D ad cA x1 σ _ _ hf) (gd_V q_3_121 q_3_122 q_3_123 q_1_5 q_3_124) rfl ⟨rfl, rfl⟩ dd_Bounds_variableOf ⟨Nat.le_of_ble_eq_true rfl, Nat.le_of_ble_eq_true rfl⟩ rfl rfl (wX_19 ad cA σ) rfl rfl (Nat.le_of_ble_eq_true rfl) ⟨Nat.zero_le _, Nat.zero_le _⟩ d_Holder_comes_5 (fun r1 σ2 => ?_)
  refine J_aload_n (q := 0) h d_Holder_comes_8 rfl rfl ?_
  refine J_getf h 35 (wX_35 ad cA σ2) (tb_ups in_Holder) rfl 2 (by decide) (tb_up q_1_236) rfl d_Holder_comes_9 ?_
  refine J_iload_n (q := 2) h d_Holder_comes_12 rfl rfl ?_
  refine J_callVi (As := [.int x2]) (st := [.int r1]) (rmc := rX_Bounds_variableOf) (q0 := 19) h (fun _ _ hf => cX_Bounds_variableOf (jl K) D ad cA x2 σ2 _ _ hf) (gd_V q_3_121 q_3_122 q_3_123 q_1_5 q_3_124) rfl ⟨rfl, rfl⟩ dd_Bounds_variableOf ⟨Nat.le_of_ble_eq_true rfl, Nat.le_of_ble_eq_true rfl⟩ rfl rfl (wX_19 ad cA σ2) rfl rfl (Nat.le_of_ble_eq_true rfl) ⟨Nat.zero_le _, Nat.zero_le _⟩ d_Holder_comes_13 (fun r3 σ4 => ?_)
  refine J_icmp_eq (tgt := 26) h d_Holder_comes_16 (by decide) ?_ ?_
  · refine J_aload_n (q := 0) h d_Holder_comes_26 rfl rfl ?_
    refine J_getf h 35 (wX_35 ad cA σ4) (tb_ups in_Holder) rfl 2 (by decide) (tb_up q_1_236) rfl d_Holder_comes_27 ?_
    refine J_iload_n (q := 1) h d_Holder_comes_30 rfl rfl ?_
    refine J_callVi (As := [.int x1]) (st := []) (rmc := rX_Bounds_sortOf) (q0 := 19) h (fun _ _ hf => cX_Bounds_sortOf (jl K) D ad cA x1 σ4 _ _ hf) (gd_V q_3_133 q_3_134 q_3_135 q_1_5 q_3_136) rfl ⟨rfl, rfl⟩ dd_Bounds_sortOf ⟨Nat.le_of_ble_eq_true rfl, Nat.le_of_ble_eq_true rfl⟩ rfl rfl (wX_19 ad cA σ4) rfl rfl (Nat.le_of_ble_eq_true rfl) ⟨Nat.zero_le _, Nat.zero_le _⟩ d_Holder_comes_31 (fun r5 σ6 => ?_)
    refine J_istore_n (lv' := [(3, .int r5), (0, .ref (ad 35)), (1, .int x1), (2, .int x2)]) h d_Holder_comes_34 rfl (by decide) rfl ?_
    refine J_aload_n (q := 1) h d_Holder_comes_35 rfl rfl ?_
    refine J_getf h 35 (wX_35 ad cA σ6) (tb_ups in_Holder) rfl 2 (by decide) (tb_up q_1_236) rfl d_Holder_comes_36 ?_
    refine J_iload_n (q := 3) h d_Holder_comes_39 rfl rfl ?_
    refine J_callVi (As := [.int x2]) (st := []) (rmc := rX_Bounds_sortOf) (q0 := 19) h (fun _ _ hf => cX_Bounds_sortOf (jl K) D ad cA x2 σ6 _ _ hf) (gd_V q_3_133 q_3_134 q_3_135 q_1_5 q_3_136) rfl ⟨rfl, rfl⟩ dd_Bounds_sortOf ⟨Nat.le_of_ble_eq_true rfl, Nat.le_of_ble_eq_true rfl⟩ rfl rfl (wX_19 ad cA σ6) rfl rfl (Nat.le_of_ble_eq_true rfl) ⟨Nat.zero_le _, Nat.zero_le _⟩ d_Holder_comes_40 (fun r7 σ8 => ?_)
    refine J_istore (lv' := [(4, .int r7), (3, .int r5), (0, .ref (ad 35)), (1, .int x1), (2, .int x2)]) h d_Holder_comes_43 (by decide) rfl ?_
    refine J_aload_n (q := 2) h d_Holder_comes_45 rfl rfl ?_
    refine J_getf h 35 (wX_35 ad cA σ8) (tb_ups in_Holder) rfl 2 (by decide) (tb_up q_1_236) rfl d_Holder_comes_46 ?_
    refine J_iload_n (q := 3) h d_Holder_comes_49 rfl rfl ?_
    refine J_callVi (As := [.int x1]) (st := []) (rmc := rX_Bounds_typeOf) (q0 := 19) h (fun _ _ hf => cX_Bounds_typeOf (jl K) D ad cA x1 σ8 _ _ hf) (gd_V q_3_129 q_3_130 q_3_131 q_1_5 q_3_132) rfl ⟨rfl, rfl⟩ dd_Bounds_typeOf ⟨Nat.le_of_ble_eq_true rfl, Nat.le_of_ble_eq_true rfl⟩ rfl rfl (wX_19 ad cA σ8) rfl rfl (Nat.le_of_ble_eq_true rfl) ⟨Nat.zero_le _, Nat.zero_le _⟩ d_Holder_comes_50 (fun r9 σ10 => ?_)
    refine J_istore (lv' := [(5, .int r9), (4, .int r7), (3, .int r5), (0, .ref (ad 35)), (1, .int x1), (2, .int x2)]) h d_Holder_comes_53 (by decide) rfl ?_
    refine J_aload_n (q := 3) h d_Holder_comes_55 rfl rfl ?_
    refine J_getf h 35 (wX_35 ad cA σ10) (tb_ups in_Holder) rfl 2 (by decide) (tb_up q_1_236) rfl d_Holder_comes_56 ?_
    refine J_iload_n (q := 5) h d_Holder_comes_59 rfl rfl ?_
    refine J_callVi (As := [.int x2]) (st := []) (rmc := rX_Bounds_typeOf) (q0 := 19) h (fun _ _ hf => cX_Bounds_typeOf (jl K) D ad cA x2 σ10 _ _ hf) (gd_V q_3_129 q_3_130 q_3_131 q_1_5 q_3_132) rfl ⟨rfl, rfl⟩ dd_Bounds_typeOf ⟨Nat.le_of_ble_eq_true rfl, Nat.le_of_ble_eq_true rfl⟩ rfl rfl (wX_19 ad cA σ10) rfl rfl (Nat.le_of_ble_eq_true rfl) ⟨Nat.zero_le _, Nat.zero_le _⟩ d_Holder_comes_60 (fun r11 σ12 => ?_)
    refine J_istore (lv' := [(6, .int r11), (5, .int r9), (4, .int r7), (3, .int r5), (0, .ref (ad 35)), (1, .int x1), (2, .int x2)]) h d_Holder_comes_63 (by decide) rfl ?_
    refine J_iload_n (q := 3) h d_Holder_comes_65 rfl rfl ?_
    refine J_if_ne (tgt := 96) h d_Holder_comes_66 (by decide) ?_ ?_
    · refine J_iload (q := 2) h d_Holder_comes_69 rfl ?_
      refine J_if_ne (tgt := 96) h d_Holder_comes_71 (by decide) ?_ ?_
      · refine J_iload_n (q := 5) h d_Holder_comes_74 rfl rfl ?_
        refine J_iload_n (q := 6) h d_Holder_comes_75 rfl rfl ?_
        refine J_icmp_ge (tgt := 94) h d_Holder_comes_76 (by decide) ?_ ?_
        · refine J_iconst (v := 1) h d_Holder_comes_94 (by decide) ?_
          exact J_iret h rfl d_Holder_comes_95
        · refine J_aload_n (q := 4) h d_Holder_comes_79 rfl rfl ?_
          refine J_getf h 35 (wX_35 ad cA σ12) (tb_ups in_Holder) rfl 4 (by decide) (tb_up q_1_238) rfl d_Holder_comes_80 ?_
          refine J_iconst (v := 3) h d_Holder_comes_83 (by decide) ?_
          refine J_iload (q := 1) h d_Holder_comes_84 rfl ?_
          refine J_iload (q := 0) h d_Holder_comes_86 rfl ?_
          refine J_callVi (As := [.int 3, .int r9, .int r11]) (st := []) (rmc := rX_Reducer_ask) (q0 := 29) h (fun _ _ hf => cX_Reducer_ask (jl K) D ad cA 3 r9 r11 σ12 _ _ hf) (gd_V q_3_148 q_2_238 q_2_239 q_1_7 q_3_0) rfl ⟨rfl, rfl⟩ dd_Reducer_ask ⟨Nat.le_of_ble_eq_true rfl, Nat.le_of_ble_eq_true rfl⟩ rfl rfl (wX_29 ad cA σ12) rfl rfl (Nat.le_of_ble_eq_true rfl) ⟨Nat.zero_le _, Nat.zero_le _⟩ d_Holder_comes_88 (fun r13 σ14 => ?_)
          refine J_goto (tgt := 95) h d_Holder_comes_91 (by decide) ?_
          exact J_iret h rfl d_Holder_comes_95
      · refine J_sub [4, 3, 2, 1, 0] rfl ?_
        exact J_X_Holder_comes_b96 K D A ad cA N h r5 r7 r9 r11 σ12
    · refine J_sub [4, 3, 2, 1, 0] rfl ?_
      exact J_X_Holder_comes_b96 K D A ad cA N h r5 r7 r9 r11 σ12
  · refine J_aload_n (q := 0) h d_Holder_comes_19 rfl rfl ?_
    refine J_iload_n (q := 1) h d_Holder_comes_20 rfl rfl ?_
    refine J_iload_n (q := 2) h d_Holder_comes_21 rfl rfl ?_
    refine J_callVi (As := [.int x1, .int x2]) (st := []) (rmc := rX_Holder_putsInto) (q0 := 35) h (fun _ _ hf => cX_Holder_putsInto (jl K) D ad cA N x1 x2 σ4 _ _ hf) (gd_V q_3_125 q_3_127 q_s_14 q_1_9 q_3_128) rfl ⟨rfl, rfl⟩ dd_Holder_putsInto ⟨Nat.le_of_ble_eq_true rfl, Nat.le_of_ble_eq_true rfl⟩ rfl rfl (wX_35 ad cA σ4) rfl rfl (Nat.le_of_ble_eq_true rfl) ⟨Nat.zero_le _, Nat.zero_le _⟩ d_Holder_comes_22 (fun r19 σ20 => ?_)
    exact J_iret h rfl d_Holder_comes_25
set_option maxRecDepth 100000 in
theorem cX_Holder_comes (l : Launch) (D : va_G) (ad : Nat → Nat) (cA : Nat → ClassId) (N : Nat) (x1 : Int32) (x2 : Int32) (σ : SX) (r : Int32) (σ' : SX) (hf : X_Holder_comes N x1 x2 σ = some (r, σ')) : MetI l y_Holder_comes ((Cond.code y_Holder_comes b_Holder_comes 7 (some .int)) :: tblG) rX_Holder_comes D clX (tysX cA) (wX ad cA) [.ref (ad 35), .int x1, .int x2] σ r σ' :=
  jx_metI (by decide) rfl (Nat.le_of_ble_eq_true rfl) (fun K A h => J_X_Holder_comes K D A ad cA N h x1 x2 σ) hf
def rX_Holder_shareArguments : Room := { frames := 27, cells := 0, slots := 0, locals := 799 }
theorem rm_ok_X_Holder_shareArguments : rX_Holder_shareArguments.cells = 0 ∧ rX_Holder_shareArguments.slots = 0 := ⟨rfl, rfl⟩
def X_Holder_shareArguments_b283 (N : Nat) (k52 : Int32 → Int32 → Int32 → Int32 → SX → Option (Int32 × SX)) (v1 : Int32) (v2 : Int32) (v3 : Int32) (v4 : Int32) (σ : SX) : Option (Int32 × SX) := (nm (v4 + 1) (fun (y11 : Int32) => (k52 v1 v2 v3 y11 σ)))
set_option maxRecDepth 100000 in
set_option maxHeartbeats 4000000 in
theorem J_X_Holder_shareArguments_b283 (K : jx_E) (D : va_G) (A : Nat → Prop) (ad : Nat → Nat) (cA : Nat → ClassId) (N : Nat) (h : jx_ok K D clX (tysX cA) A 10 b_Holder_shareArguments y_Holder_shareArguments.cls ((Cond.code y_Holder_shareArguments b_Holder_shareArguments 10 (some .int)) :: tblG) rX_Holder_shareArguments (some .int)) (k52 : Int32 → Int32 → Int32 → Int32 → SX → Option (Int32 × SX)) (hk52 : ∀ (v1 : Int32) (v2 : Int32) (v3 : Int32) (v4 : Int32) (σ : SX), J K D clX A 10 (wX ad cA) (jx_Qi K D clX (tysX cA) (wX ad cA) A) 0 0 52 [(0, .ref (ad 35)), (1, .int v1), (2, .int v2), (3, .int v3), (4, .int v4)] [] σ (k52 v1 v2 v3 v4 σ)) : ∀ (v1 : Int32) (v2 : Int32) (v3 : Int32) (v4 : Int32) (σ : SX), J K D clX A 10 (wX ad cA) (jx_Qi K D clX (tysX cA) (wX ad cA) A) 0 0 283 [(0, .ref (ad 35)), (1, .int v1), (2, .int v2), (3, .int v3), (4, .int v4)] [] σ (X_Holder_shareArguments_b283 N k52 v1 v2 v3 v4 σ) := by
  intro v1 v2 v3 v4 σ
  rw [X_Holder_shareArguments_b283]
  refine J_iinc (q := 4) (c := 1) (lv' := fun y11 => [(4, .int y11), (0, .ref (ad 35)), (1, .int v1), (2, .int v2), (3, .int v3)]) h d_Holder_shareArguments_283 rfl (by decide) (by decide) (fun _ => rfl) (fun y11 => ?_)
  refine J_goto (tgt := 52) h d_Holder_shareArguments_286 (by decide) ?_
  refine J_sub [1, 2, 3, 4, 0] rfl ?_
  exact hk52 v1 v2 v3 y11 σ
def X_Holder_shareArguments_b277 (N : Nat) (k177 : Int32 → Int32 → Int32 → Int32 → Int32 → Int32 → Int32 → SX → Option (Int32 × SX)) (v1 : Int32) (v2 : Int32) (v3 : Int32) (v4 : Int32) (v5 : Int32) (v6 : Int32) (v7 : Int32) (σ : SX) : Option (Int32 × SX) := (nm (v7 + 1) (fun (y32 : Int32) => (k177 v1 v2 v3 v4 v5 v6 y32 σ)))
set_option maxRecDepth 100000 in
set_option maxHeartbeats 4000000 in
theorem J_X_Holder_shareArguments_b277 (K : jx_E) (D : va_G) (A : Nat → Prop) (ad : Nat → Nat) (cA : Nat → ClassId) (N : Nat) (h : jx_ok K D clX (tysX cA) A 10 b_Holder_shareArguments y_Holder_shareArguments.cls ((Cond.code y_Holder_shareArguments b_Holder_shareArguments 10 (some .int)) :: tblG) rX_Holder_shareArguments (some .int)) (k177 : Int32 → Int32 → Int32 → Int32 → Int32 → Int32 → Int32 → SX → Option (Int32 × SX)) (hk177 : ∀ (v1 : Int32) (v2 : Int32) (v3 : Int32) (v4 : Int32) (v5 : Int32) (v6 : Int32) (v7 : Int32) (σ : SX), J K D clX A 10 (wX ad cA) (jx_Qi K D clX (tysX cA) (wX ad cA) A) 0 0 177 [(0, .ref (ad 35)), (1, .int v1), (2, .int v2), (3, .int v3), (4, .int v4), (5, .int v5), (6, .int v6), (7, .int v7)] [] σ (k177 v1 v2 v3 v4 v5 v6 v7 σ)) : ∀ (v1 : Int32) (v2 : Int32) (v3 : Int32) (v4 : Int32) (v5 : Int32) (v6 : Int32) (v7 : Int32) (σ : SX), J K D clX A 10 (wX ad cA) (jx_Qi K D clX (tysX cA) (wX ad cA) A) 0 0 277 [(0, .ref (ad 35)), (1, .int v1), (2, .int v2), (3, .int v3), (4, .int v4), (5, .int v5), (6, .int v6), (7, .int v7)] [] σ (X_Holder_shareArguments_b277 N k177 v1 v2 v3 v4 v5 v6 v7 σ) := by
  intro v1 v2 v3 v4 v5 v6 v7 σ
  rw [X_Holder_shareArguments_b277]
  refine J_iinc (q := 7) (c := 1) (lv' := fun y32 => [(7, .int y32), (0, .ref (ad 35)), (1, .int v1), (2, .int v2), (3, .int v3), (4, .int v4), (5, .int v5), (6, .int v6)]) h d_Holder_shareArguments_277 rfl (by decide) (by decide) (fun _ => rfl) (fun y32 => ?_)
  refine J_goto (tgt := 177) h d_Holder_shareArguments_280 (by decide) ?_
  refine J_sub [1, 2, 3, 4, 5, 6, 7, 0] rfl ?_
  exact hk177 v1 v2 v3 v4 v5 v6 y32 σ
def X_Holder_shareArguments_L177 (N : Nat) (k283 : Int32 → Int32 → Int32 → Int32 → SX → Option (Int32 × SX)) : Nat → Int32 → Int32 → Int32 → Int32 → Int32 → Int32 → Int32 → SX → Option (Int32 × SX)
  | 0, _, _, _, _, _, _, _, _ => none
  | n + 1, v1, v2, v3, v4, v5, v6, v7, σ => (bd (X_Classes_parametersOf v4 σ) (fun (r24 : Int32) (σ25 : SX) => (if r24 ≤ v7 then (k283 v1 v2 v3 v4 σ25) else (if v3 = 1 then (bd (X_Types_argumentOf v5 v7 σ25) (fun (r26 : Int32) (σ27 : SX) => (bd (X_Types_argumentOf v6 v7 σ27) (fun (r28 : Int32) (σ29 : SX) => (bd (X_Types_kindOf r26 σ29) (fun (r30 : Int32) (σ31 : SX) => (if r30 = 2 then (X_Holder_shareArguments_b277 N (X_Holder_shareArguments_L177 N k283 n) v1 v2 v3 v4 v5 v6 v7 σ31) else (bd (X_Types_kindOf r28 σ31) (fun (r33 : Int32) (σ34 : SX) => (if r33 = 2 then (X_Holder_shareArguments_b277 N (X_Holder_shareArguments_L177 N k283 n) v1 v2 v3 v4 v5 v6 v7 σ34) else (bd (X_Reducer_ask 3 r26 r28 σ34) (fun (r35 : Int32) (σ36 : SX) => (if r35 = 1 then (bd (X_Reducer_less N σ36) (fun (r37 : Int32) (σ38 : SX) => (X_Holder_shareArguments_b277 N (X_Holder_shareArguments_L177 N k283 n) v1 v2 r37 v4 v5 v6 v7 σ38))) else (X_Holder_shareArguments_b277 N (X_Holder_shareArguments_L177 N k283 n) v1 v2 r35 v4 v5 v6 v7 σ36)))))))))))))) else (k283 v1 v2 v3 v4 σ25)))))
set_option maxRecDepth 100000 in
set_option maxHeartbeats 4000000 in
theorem J_X_Holder_shareArguments_L177 (K : jx_E) (D : va_G) (A : Nat → Prop) (ad : Nat → Nat) (cA : Nat → ClassId) (N : Nat) (h : jx_ok K D clX (tysX cA) A 10 b_Holder_shareArguments y_Holder_shareArguments.cls ((Cond.code y_Holder_shareArguments b_Holder_shareArguments 10 (some .int)) :: tblG) rX_Holder_shareArguments (some .int)) (k283 : Int32 → Int32 → Int32 → Int32 → SX → Option (Int32 × SX)) (hk283 : ∀ (v1 : Int32) (v2 : Int32) (v3 : Int32) (v4 : Int32) (σ : SX), J K D clX A 10 (wX ad cA) (jx_Qi K D clX (tysX cA) (wX ad cA) A) 0 0 283 [(0, .ref (ad 35)), (1, .int v1), (2, .int v2), (3, .int v3), (4, .int v4)] [] σ (k283 v1 v2 v3 v4 σ)) : ∀ (n : Nat) (v1 : Int32) (v2 : Int32) (v3 : Int32) (v4 : Int32) (v5 : Int32) (v6 : Int32) (v7 : Int32) (σ : SX), J K D clX A 10 (wX ad cA) (jx_Qi K D clX (tysX cA) (wX ad cA) A) 0 0 177 [(0, .ref (ad 35)), (1, .int v1), (2, .int v2), (3, .int v3), (4, .int v4), (5, .int v5), (6, .int v6), (7, .int v7)] [] σ (X_Holder_shareArguments_L177 N k283 n v1 v2 v3 v4 v5 v6 v7 σ) := by
  intro n
  induction n with
  | zero => intro v1 v2 v3 v4 v5 v6 v7 σ; exact J_none
  | succ n ih =>
    intro v1 v2 v3 v4 v5 v6 v7 σ
    rw [X_Holder_shareArguments_L177]
    refine J_iload (q := 7) h d_Holder_shareArguments_177 rfl ?_
    refine J_aload_n (q := 0) h d_Holder_shareArguments_179 rfl rfl ?_
    refine J_getf h 35 (wX_35 ad cA σ) (tb_ups in_Holder) rfl 0 (by decide) (tb_up q_1_234) rfl d_Holder_shareArguments_180 ?_
    refine J_iload (q := 4) h d_Holder_shareArguments_183 rfl ?_
    refine J_callVi (As := [.int v4]) (st := [.int v7]) (rmc := rX_Classes_parametersOf) (q0 := 1) h (fun _ _ hf => cX_Classes_parametersOf (jl K) D ad cA v4 σ _ _ hf) (gd_V q_3_153 q_2_139 q_2_140 q_1_2 q_2_141) rfl ⟨rfl, rfl⟩ dd_Classes_parametersOf ⟨Nat.le_of_ble_eq_true rfl, Nat.le_of_ble_eq_true rfl⟩ rfl rfl (wX_1 ad cA σ) rfl rfl (Nat.le_of_ble_eq_true rfl) ⟨Nat.zero_le _, Nat.zero_le _⟩ d_Holder_shareArguments_185 (fun r24 σ25 => ?_)
    refine J_icmp_ge (tgt := 283) h d_Holder_shareArguments_188 (by decide) ?_ ?_
    · refine J_sub [0, 1, 2, 3, 4] rfl ?_
      exact hk283 v1 v2 v3 v4 σ25
    · refine J_iload_n (q := 3) h d_Holder_shareArguments_191 rfl rfl ?_
      refine J_iconst (v := 1) h d_Holder_shareArguments_192 (by decide) ?_
      refine J_icmp_ne (tgt := 283) h d_Holder_shareArguments_193 (by decide) ?_ ?_
      · refine J_aload_n (q := 0) h d_Holder_shareArguments_196 rfl rfl ?_
        refine J_getf h 35 (wX_35 ad cA σ25) (tb_ups in_Holder) rfl 1 (by decide) (tb_up q_1_235) rfl d_Holder_shareArguments_197 ?_
        refine J_iload (q := 5) h d_Holder_shareArguments_200 rfl ?_
        refine J_iload (q := 7) h d_Holder_shareArguments_202 rfl ?_
        refine J_callVi (As := [.int v5, .int v7]) (st := []) (rmc := rX_Types_argumentOf) (q0 := 7) h (fun _ _ hf => cX_Types_argumentOf (jl K) D ad cA v5 v7 σ25 _ _ hf) (gd_V q_3_156 q_3_55 q_3_56 q_1_3 q_3_57) rfl ⟨rfl, rfl⟩ dd_Types_argumentOf ⟨Nat.le_of_ble_eq_true rfl, Nat.le_of_ble_eq_true rfl⟩ rfl rfl (wX_7 ad cA σ25) rfl rfl (Nat.le_of_ble_eq_true rfl) ⟨Nat.zero_le _, Nat.zero_le _⟩ d_Holder_shareArguments_204 (fun r26 σ27 => ?_)
        refine J_istore (lv' := [(8, .int r26), (0, .ref (ad 35)), (1, .int v1), (2, .int v2), (3, .int v3), (4, .int v4), (5, .int v5), (6, .int v6), (7, .int v7)]) h d_Holder_shareArguments_207 (by decide) rfl ?_
        refine J_aload_n (q := 1) h d_Holder_shareArguments_209 rfl rfl ?_
        refine J_getf h 35 (wX_35 ad cA σ27) (tb_ups in_Holder) rfl 1 (by decide) (tb_up q_1_235) rfl d_Holder_shareArguments_210 ?_
        refine J_iload (q := 7) h d_Holder_shareArguments_213 rfl ?_
        refine J_iload (q := 8) h d_Holder_shareArguments_215 rfl ?_
        refine J_callVi (As := [.int v6, .int v7]) (st := []) (rmc := rX_Types_argumentOf) (q0 := 7) h (fun _ _ hf => cX_Types_argumentOf (jl K) D ad cA v6 v7 σ27 _ _ hf) (gd_V q_3_156 q_3_55 q_3_56 q_1_3 q_3_57) rfl ⟨rfl, rfl⟩ dd_Types_argumentOf ⟨Nat.le_of_ble_eq_true rfl, Nat.le_of_ble_eq_true rfl⟩ rfl rfl (wX_7 ad cA σ27) rfl rfl (Nat.le_of_ble_eq_true rfl) ⟨Nat.zero_le _, Nat.zero_le _⟩ d_Holder_shareArguments_217 (fun r28 σ29 => ?_)
        refine J_istore (lv' := [(9, .int r28), (8, .int r26), (0, .ref (ad 35)), (1, .int v1), (2, .int v2), (3, .int v3), (4, .int v4), (5, .int v5), (6, .int v6), (7, .int v7)]) h d_Holder_shareArguments_220 (by decide) rfl ?_
        refine J_aload_n (q := 2) h d_Holder_shareArguments_222 rfl rfl ?_
        refine J_getf h 35 (wX_35 ad cA σ29) (tb_ups in_Holder) rfl 1 (by decide) (tb_up q_1_235) rfl d_Holder_shareArguments_223 ?_
        refine J_iload (q := 1) h d_Holder_shareArguments_226 rfl ?_
        refine J_callVi (As := [.int r26]) (st := []) (rmc := rX_Types_kindOf) (q0 := 7) h (fun _ _ hf => cX_Types_kindOf (jl K) D ad cA r26 σ29 _ _ hf) (gd_V q_3_155 q_2_127 q_2_128 q_1_3 q_2_129) rfl ⟨rfl, rfl⟩ dd_Types_kindOf ⟨Nat.le_of_ble_eq_true rfl, Nat.le_of_ble_eq_true rfl⟩ rfl rfl (wX_7 ad cA σ29) rfl rfl (Nat.le_of_ble_eq_true rfl) ⟨Nat.zero_le _, Nat.zero_le _⟩ d_Holder_shareArguments_228 (fun r30 σ31 => ?_)
        refine J_iconst (v := 2) h d_Holder_shareArguments_231 (by decide) ?_
        refine J_icmp_eq (tgt := 277) h d_Holder_shareArguments_232 (by decide) ?_ ?_
        · refine J_sub [2, 3, 4, 5, 6, 7, 8, 9] rfl ?_
          exact J_X_Holder_shareArguments_b277 K D A ad cA N h (X_Holder_shareArguments_L177 N k283 n) ih v1 v2 v3 v4 v5 v6 v7 σ31
        · refine J_aload_n (q := 2) h d_Holder_shareArguments_235 rfl rfl ?_
          refine J_getf h 35 (wX_35 ad cA σ31) (tb_ups in_Holder) rfl 1 (by decide) (tb_up q_1_235) rfl d_Holder_shareArguments_236 ?_
          refine J_iload (q := 0) h d_Holder_shareArguments_239 rfl ?_
          refine J_callVi (As := [.int r28]) (st := []) (rmc := rX_Types_kindOf) (q0 := 7) h (fun _ _ hf => cX_Types_kindOf (jl K) D ad cA r28 σ31 _ _ hf) (gd_V q_3_155 q_2_127 q_2_128 q_1_3 q_2_129) rfl ⟨rfl, rfl⟩ dd_Types_kindOf ⟨Nat.le_of_ble_eq_true rfl, Nat.le_of_ble_eq_true rfl⟩ rfl rfl (wX_7 ad cA σ31) rfl rfl (Nat.le_of_ble_eq_true rfl) ⟨Nat.zero_le _, Nat.zero_le _⟩ d_Holder_shareArguments_241 (fun r33 σ34 => ?_)
          refine J_iconst (v := 2) h d_Holder_shareArguments_244 (by decide) ?_
          refine J_icmp_ne (tgt := 251) h d_Holder_shareArguments_245 (by decide) ?_ ?_
          · refine J_goto (tgt := 277) h d_Holder_shareArguments_248 (by decide) ?_
            refine J_sub [2, 3, 4, 5, 6, 7, 8, 9] rfl ?_
            exact J_X_Holder_shareArguments_b277 K D A ad cA N h (X_Holder_shareArguments_L177 N k283 n) ih v1 v2 v3 v4 v5 v6 v7 σ34
          · refine J_aload_n (q := 2) h d_Holder_shareArguments_251 rfl rfl ?_
            refine J_getf h 35 (wX_35 ad cA σ34) (tb_ups in_Holder) rfl 4 (by decide) (tb_up q_1_238) rfl d_Holder_shareArguments_252 ?_
            refine J_iconst (v := 3) h d_Holder_shareArguments_255 (by decide) ?_
            refine J_iload (q := 1) h d_Holder_shareArguments_256 rfl ?_
            refine J_iload (q := 0) h d_Holder_shareArguments_258 rfl ?_
            refine J_callVi (As := [.int 3, .int r26, .int r28]) (st := []) (rmc := rX_Reducer_ask) (q0 := 29) h (fun _ _ hf => cX_Reducer_ask (jl K) D ad cA 3 r26 r28 σ34 _ _ hf) (gd_V q_3_148 q_2_238 q_2_239 q_1_7 q_3_0) rfl ⟨rfl, rfl⟩ dd_Reducer_ask ⟨Nat.le_of_ble_eq_true rfl, Nat.le_of_ble_eq_true rfl⟩ rfl rfl (wX_29 ad cA σ34) rfl rfl (Nat.le_of_ble_eq_true rfl) ⟨Nat.zero_le _, Nat.zero_le _⟩ d_Holder_shareArguments_260 (fun r35 σ36 => ?_)
            refine J_istore_n (lv' := [(3, .int r35), (9, .int r28), (8, .int r26), (0, .ref (ad 35)), (1, .int v1), (2, .int v2), (4, .int v4), (5, .int v5), (6, .int v6), (7, .int v7)]) h d_Holder_shareArguments_263 rfl (by decide) rfl ?_
            refine J_iload_n (q := 0) h d_Holder_shareArguments_264 rfl rfl ?_
            refine J_iconst (v := 1) h d_Holder_shareArguments_265 (by decide) ?_
            refine J_icmp_ne (tgt := 277) h d_Holder_shareArguments_266 (by decide) ?_ ?_
            · refine J_aload_n (q := 3) h d_Holder_shareArguments_269 rfl rfl ?_
              refine J_getf h 35 (wX_35 ad cA σ36) (tb_ups in_Holder) rfl 4 (by decide) (tb_up q_1_238) rfl d_Holder_shareArguments_270 ?_
              refine J_callVi (As := []) (st := []) (rmc := rX_Reducer_less) (q0 := 29) h (fun _ _ hf => cX_Reducer_less (jl K) D ad cA N  σ36 _ _ hf) (gd_V q_3_9 q_3_10 q_3_11 q_1_7 q_3_12) rfl ⟨rfl, rfl⟩ dd_Reducer_less ⟨Nat.le_of_ble_eq_true rfl, Nat.le_of_ble_eq_true rfl⟩ rfl rfl (wX_29 ad cA σ36) rfl rfl (Nat.le_of_ble_eq_true rfl) ⟨Nat.zero_le _, Nat.zero_le _⟩ d_Holder_shareArguments_273 (fun r37 σ38 => ?_)
              refine J_istore_n (lv' := [(3, .int r37), (9, .int r28), (8, .int r26), (0, .ref (ad 35)), (1, .int v1), (2, .int v2), (4, .int v4), (5, .int v5), (6, .int v6), (7, .int v7)]) h d_Holder_shareArguments_276 rfl (by decide) rfl ?_
              refine J_sub [3, 4, 5, 0, 6, 7, 8, 9] rfl ?_
              exact J_X_Holder_shareArguments_b277 K D A ad cA N h (X_Holder_shareArguments_L177 N k283 n) ih v1 v2 r37 v4 v5 v6 v7 σ38
            · refine J_sub [3, 4, 5, 0, 6, 7, 8, 9] rfl ?_
              exact J_X_Holder_shareArguments_b277 K D A ad cA N h (X_Holder_shareArguments_L177 N k283 n) ih v1 v2 r35 v4 v5 v6 v7 σ36
      · refine J_sub [0, 1, 2, 3, 4] rfl ?_
        exact hk283 v1 v2 v3 v4 σ25
def X_Holder_shareArguments_L52 (N : Nat) : Nat → Int32 → Int32 → Int32 → Int32 → SX → Option (Int32 × SX)
  | 0, _, _, _, _, _ => none
  | n + 1, v1, v2, v3, v4, σ => (if (gX_Classes_size σ) ≤ v4 then (some (v3, σ)) else (if v3 = 1 then (bd (X_Classes_parametersOf v4 σ) (fun (r9 : Int32) (σ10 : SX) => (if r9 = 0 then (X_Holder_shareArguments_b283 N (X_Holder_shareArguments_L52 N  n) v1 v2 v3 v4 σ10) else (bd (X_Bounds_typeOf v1 σ10) (fun (r12 : Int32) (σ13 : SX) => (bd (X_Reducer_aboveOf N r12 v4 σ13) (fun (r14 : Int32) (σ15 : SX) => (if r14 = (-3) then (some ((-3), σ15)) else (bd (X_Types_kindOf r14 σ15) (fun (r16 : Int32) (σ17 : SX) => (if r16 = 1 then (bd (X_Bounds_typeOf v2 σ17) (fun (r18 : Int32) (σ19 : SX) => (bd (X_Reducer_aboveOf N r18 v4 σ19) (fun (r20 : Int32) (σ21 : SX) => (if r20 = (-3) then (some ((-3), σ21)) else (bd (X_Types_kindOf r20 σ21) (fun (r22 : Int32) (σ23 : SX) => (if r22 = 1 then (X_Holder_shareArguments_L177 N (X_Holder_shareArguments_b283 N (X_Holder_shareArguments_L52 N  n)) N v1 v2 v3 v4 r14 r20 0 σ23) else (X_Holder_shareArguments_b283 N (X_Holder_shareArguments_L52 N  n) v1 v2 v3 v4 σ23))))))))) else (X_Holder_shareArguments_b283 N (X_Holder_shareArguments_L52 N  n) v1 v2 v3 v4 σ17)))))))))))) else (some (v3, σ))))
set_option maxRecDepth 100000 in
set_option maxHeartbeats 4000000 in
theorem J_X_Holder_shareArguments_L52 (K : jx_E) (D : va_G) (A : Nat → Prop) (ad : Nat → Nat) (cA : Nat → ClassId) (N : Nat) (h : jx_ok K D clX (tysX cA) A 10 b_Holder_shareArguments y_Holder_shareArguments.cls ((Cond.code y_Holder_shareArguments b_Holder_shareArguments 10 (some .int)) :: tblG) rX_Holder_shareArguments (some .int)) : ∀ (n : Nat) (v1 : Int32) (v2 : Int32) (v3 : Int32) (v4 : Int32) (σ : SX), J K D clX A 10 (wX ad cA) (jx_Qi K D clX (tysX cA) (wX ad cA) A) 0 0 52 [(0, .ref (ad 35)), (1, .int v1), (2, .int v2), (3, .int v3), (4, .int v4)] [] σ (X_Holder_shareArguments_L52 N n v1 v2 v3 v4 σ) := by
  intro n
  induction n with
  | zero => intro v1 v2 v3 v4 σ; exact J_none
  | succ n ih =>
    intro v1 v2 v3 v4 σ
    rw [X_Holder_shareArguments_L52]
    refine J_iload (q := 4) h d_Holder_shareArguments_52 rfl ?_
    refine J_aload_n (q := 0) h d_Holder_shareArguments_54 rfl rfl ?_
    refine J_getf h 35 (wX_35 ad cA σ) (tb_ups in_Holder) rfl 0 (by decide) (tb_up q_1_234) rfl d_Holder_shareArguments_55 ?_
    refine J_getf h 1 (wX_1 ad cA σ) (tb_ups in_Classes) rfl 5 (by decide) (tb_up q_1_34) rfl d_Holder_shareArguments_58 ?_
    refine J_icmp_ge (tgt := 289) h d_Holder_shareArguments_61 (by decide) ?_ ?_
    · refine J_iload_n (q := 3) h d_Holder_shareArguments_289 rfl rfl ?_
      exact J_iret h rfl d_Holder_shareArguments_290
    · refine J_iload_n (q := 3) h d_Holder_shareArguments_64 rfl rfl ?_
      refine J_iconst (v := 1) h d_Holder_shareArguments_65 (by decide) ?_
      refine J_icmp_ne (tgt := 289) h d_Holder_shareArguments_66 (by decide) ?_ ?_
      · refine J_aload_n (q := 0) h d_Holder_shareArguments_69 rfl rfl ?_
        refine J_getf h 35 (wX_35 ad cA σ) (tb_ups in_Holder) rfl 0 (by decide) (tb_up q_1_234) rfl d_Holder_shareArguments_70 ?_
        refine J_iload (q := 4) h d_Holder_shareArguments_73 rfl ?_
        refine J_callVi (As := [.int v4]) (st := []) (rmc := rX_Classes_parametersOf) (q0 := 1) h (fun _ _ hf => cX_Classes_parametersOf (jl K) D ad cA v4 σ _ _ hf) (gd_V q_3_153 q_2_139 q_2_140 q_1_2 q_2_141) rfl ⟨rfl, rfl⟩ dd_Classes_parametersOf ⟨Nat.le_of_ble_eq_true rfl, Nat.le_of_ble_eq_true rfl⟩ rfl rfl (wX_1 ad cA σ) rfl rfl (Nat.le_of_ble_eq_true rfl) ⟨Nat.zero_le _, Nat.zero_le _⟩ d_Holder_shareArguments_75 (fun r9 σ10 => ?_)
        refine J_if_ne (tgt := 84) h d_Holder_shareArguments_78 (by decide) ?_ ?_
        · refine J_goto (tgt := 283) h d_Holder_shareArguments_81 (by decide) ?_
          exact J_X_Holder_shareArguments_b283 K D A ad cA N h (X_Holder_shareArguments_L52 N  n) ih v1 v2 v3 v4 σ10
        · refine J_aload_n (q := 0) h d_Holder_shareArguments_84 rfl rfl ?_
          refine J_getf h 35 (wX_35 ad cA σ10) (tb_ups in_Holder) rfl 4 (by decide) (tb_up q_1_238) rfl d_Holder_shareArguments_85 ?_
          refine J_aload_n (q := 0) h d_Holder_shareArguments_88 rfl rfl ?_
          refine J_getf h 35 (wX_35 ad cA σ10) (tb_ups in_Holder) rfl 2 (by decide) (tb_up q_1_236) rfl d_Holder_shareArguments_89 ?_
          refine J_iload_n (q := 1) h d_Holder_shareArguments_92 rfl rfl ?_
          refine J_callVi (As := [.int v1]) (st := [.ref (ad 29)]) (rmc := rX_Bounds_typeOf) (q0 := 19) h (fun _ _ hf => cX_Bounds_typeOf (jl K) D ad cA v1 σ10 _ _ hf) (gd_V q_3_129 q_3_130 q_3_131 q_1_5 q_3_132) rfl ⟨rfl, rfl⟩ dd_Bounds_typeOf ⟨Nat.le_of_ble_eq_true rfl, Nat.le_of_ble_eq_true rfl⟩ rfl rfl (wX_19 ad cA σ10) rfl rfl (Nat.le_of_ble_eq_true rfl) ⟨Nat.zero_le _, Nat.zero_le _⟩ d_Holder_shareArguments_93 (fun r12 σ13 => ?_)
          refine J_iload (q := 4) h d_Holder_shareArguments_96 rfl ?_
          refine J_callVi (As := [.int r12, .int v4]) (st := []) (rmc := rX_Reducer_aboveOf) (q0 := 29) h (fun _ _ hf => cX_Reducer_aboveOf (jl K) D ad cA N r12 v4 σ13 _ _ hf) (gd_V q_3_154 q_3_47 q_3_48 q_1_7 q_3_49) rfl ⟨rfl, rfl⟩ dd_Reducer_aboveOf ⟨Nat.le_of_ble_eq_true rfl, Nat.le_of_ble_eq_true rfl⟩ rfl rfl (wX_29 ad cA σ13) rfl rfl (Nat.le_of_ble_eq_true rfl) ⟨Nat.zero_le _, Nat.zero_le _⟩ d_Holder_shareArguments_98 (fun r14 σ15 => ?_)
          refine J_istore (lv' := [(5, .int r14), (0, .ref (ad 35)), (1, .int v1), (2, .int v2), (3, .int v3), (4, .int v4)]) h d_Holder_shareArguments_101 (by decide) rfl ?_
          refine J_iload (q := 0) h d_Holder_shareArguments_103 rfl ?_
          refine J_bipush (v := (-3)) h d_Holder_shareArguments_105 (by decide) ?_
          refine J_icmp_ne (tgt := 113) h d_Holder_shareArguments_107 (by decide) ?_ ?_
          · refine J_bipush (v := (-3)) h d_Holder_shareArguments_110 (by decide) ?_
            exact J_iret h rfl d_Holder_shareArguments_112
          · refine J_aload_n (q := 1) h d_Holder_shareArguments_113 rfl rfl ?_
            refine J_getf h 35 (wX_35 ad cA σ15) (tb_ups in_Holder) rfl 1 (by decide) (tb_up q_1_235) rfl d_Holder_shareArguments_114 ?_
            refine J_iload (q := 0) h d_Holder_shareArguments_117 rfl ?_
            refine J_callVi (As := [.int r14]) (st := []) (rmc := rX_Types_kindOf) (q0 := 7) h (fun _ _ hf => cX_Types_kindOf (jl K) D ad cA r14 σ15 _ _ hf) (gd_V q_3_155 q_2_127 q_2_128 q_1_3 q_2_129) rfl ⟨rfl, rfl⟩ dd_Types_kindOf ⟨Nat.le_of_ble_eq_true rfl, Nat.le_of_ble_eq_true rfl⟩ rfl rfl (wX_7 ad cA σ15) rfl rfl (Nat.le_of_ble_eq_true rfl) ⟨Nat.zero_le _, Nat.zero_le _⟩ d_Holder_shareArguments_119 (fun r16 σ17 => ?_)
            refine J_iconst (v := 1) h d_Holder_shareArguments_122 (by decide) ?_
            refine J_icmp_eq (tgt := 129) h d_Holder_shareArguments_123 (by decide) ?_ ?_
            · refine J_aload_n (q := 1) h d_Holder_shareArguments_129 rfl rfl ?_
              refine J_getf h 35 (wX_35 ad cA σ17) (tb_ups in_Holder) rfl 4 (by decide) (tb_up q_1_238) rfl d_Holder_shareArguments_130 ?_
              refine J_aload_n (q := 1) h d_Holder_shareArguments_133 rfl rfl ?_
              refine J_getf h 35 (wX_35 ad cA σ17) (tb_ups in_Holder) rfl 2 (by decide) (tb_up q_1_236) rfl d_Holder_shareArguments_134 ?_
              refine J_iload_n (q := 3) h d_Holder_shareArguments_137 rfl rfl ?_
              refine J_callVi (As := [.int v2]) (st := [.ref (ad 29)]) (rmc := rX_Bounds_typeOf) (q0 := 19) h (fun _ _ hf => cX_Bounds_typeOf (jl K) D ad cA v2 σ17 _ _ hf) (gd_V q_3_129 q_3_130 q_3_131 q_1_5 q_3_132) rfl ⟨rfl, rfl⟩ dd_Bounds_typeOf ⟨Nat.le_of_ble_eq_true rfl, Nat.le_of_ble_eq_true rfl⟩ rfl rfl (wX_19 ad cA σ17) rfl rfl (Nat.le_of_ble_eq_true rfl) ⟨Nat.zero_le _, Nat.zero_le _⟩ d_Holder_shareArguments_138 (fun r18 σ19 => ?_)
              refine J_iload (q := 5) h d_Holder_shareArguments_141 rfl ?_
              refine J_callVi (As := [.int r18, .int v4]) (st := []) (rmc := rX_Reducer_aboveOf) (q0 := 29) h (fun _ _ hf => cX_Reducer_aboveOf (jl K) D ad cA N r18 v4 σ19 _ _ hf) (gd_V q_3_154 q_3_47 q_3_48 q_1_7 q_3_49) rfl ⟨rfl, rfl⟩ dd_Reducer_aboveOf ⟨Nat.le_of_ble_eq_true rfl, Nat.le_of_ble_eq_true rfl⟩ rfl rfl (wX_29 ad cA σ19) rfl rfl (Nat.le_of_ble_eq_true rfl) ⟨Nat.zero_le _, Nat.zero_le _⟩ d_Holder_shareArguments_143 (fun r20 σ21 => ?_)
              refine J_istore (lv' := [(6, .int r20), (5, .int r14), (0, .ref (ad 35)), (1, .int v1), (2, .int v2), (3, .int v3), (4, .int v4)]) h d_Holder_shareArguments_146 (by decide) rfl ?_
              refine J_iload (q := 0) h d_Holder_shareArguments_148 rfl ?_
              refine J_bipush (v := (-3)) h d_Holder_shareArguments_150 (by decide) ?_
              refine J_icmp_ne (tgt := 158) h d_Holder_shareArguments_152 (by decide) ?_ ?_
              · refine J_bipush (v := (-3)) h d_Holder_shareArguments_155 (by decide) ?_
                exact J_iret h rfl d_Holder_shareArguments_157
              · refine J_aload_n (q := 2) h d_Holder_shareArguments_158 rfl rfl ?_
                refine J_getf h 35 (wX_35 ad cA σ21) (tb_ups in_Holder) rfl 1 (by decide) (tb_up q_1_235) rfl d_Holder_shareArguments_159 ?_
                refine J_iload (q := 0) h d_Holder_shareArguments_162 rfl ?_
                refine J_callVi (As := [.int r20]) (st := []) (rmc := rX_Types_kindOf) (q0 := 7) h (fun _ _ hf => cX_Types_kindOf (jl K) D ad cA r20 σ21 _ _ hf) (gd_V q_3_155 q_2_127 q_2_128 q_1_3 q_2_129) rfl ⟨rfl, rfl⟩ dd_Types_kindOf ⟨Nat.le_of_ble_eq_true rfl, Nat.le_of_ble_eq_true rfl⟩ rfl rfl (wX_7 ad cA σ21) rfl rfl (Nat.le_of_ble_eq_true rfl) ⟨Nat.zero_le _, Nat.zero_le _⟩ d_Holder_shareArguments_164 (fun r22 σ23 => ?_)
                refine J_iconst (v := 1) h d_Holder_shareArguments_167 (by decide) ?_
                refine J_icmp_eq (tgt := 174) h d_Holder_shareArguments_168 (by decide) ?_ ?_
                · refine J_iconst (v := 0) h d_Holder_shareArguments_174 (by decide) ?_
                  refine J_istore (lv' := [(7, .int 0), (6, .int r20), (5, .int r14), (0, .ref (ad 35)), (1, .int v1), (2, .int v2), (3, .int v3), (4, .int v4)]) h d_Holder_shareArguments_175 (by decide) rfl ?_
                  refine J_sub [3, 4, 5, 6, 7, 2, 1, 0] rfl ?_
                  exact J_X_Holder_shareArguments_L177 K D A ad cA N h (X_Holder_shareArguments_b283 N (X_Holder_shareArguments_L52 N  n)) (J_X_Holder_shareArguments_b283 K D A ad cA N h (X_Holder_shareArguments_L52 N  n) ih) N v1 v2 v3 v4 r14 r20 0 σ23
                · refine J_goto (tgt := 283) h d_Holder_shareArguments_171 (by decide) ?_
                  refine J_sub [2, 3, 4, 5, 6] rfl ?_
                  exact J_X_Holder_shareArguments_b283 K D A ad cA N h (X_Holder_shareArguments_L52 N  n) ih v1 v2 v3 v4 σ23
            · refine J_goto (tgt := 283) h d_Holder_shareArguments_126 (by decide) ?_
              refine J_sub [1, 2, 3, 4, 5] rfl ?_
              exact J_X_Holder_shareArguments_b283 K D A ad cA N h (X_Holder_shareArguments_L52 N  n) ih v1 v2 v3 v4 σ17
      · refine J_iload_n (q := 3) h d_Holder_shareArguments_289 rfl rfl ?_
        exact J_iret h rfl d_Holder_shareArguments_290
def X_Holder_shareArguments (N : Nat) (x1 : Int32) (x2 : Int32) (σ : SX) : Option (Int32 × SX) := (bd (X_Bounds_variableOf x1 σ) (fun (r1 : Int32) (σ2 : SX) => (bd (X_Bounds_variableOf x2 σ2) (fun (r3 : Int32) (σ4 : SX) => (if r1 = r3 then (bd (X_Bounds_sortOf x1 σ4) (fun (r5 : Int32) (σ6 : SX) => (if r5 = 1 then (bd (X_Bounds_sortOf x2 σ6) (fun (r7 : Int32) (σ8 : SX) => (if r7 = 1 then (X_Holder_shareArguments_L52 N N x1 x2 1 0 σ8) else (some (1, σ8))))) else (some (1, σ6))))) else (some (1, σ4)))))))
set_option maxRecDepth 100000 in
set_option maxHeartbeats 4000000 in
theorem J_X_Holder_shareArguments (K : jx_E) (D : va_G) (A : Nat → Prop) (ad : Nat → Nat) (cA : Nat → ClassId) (N : Nat) (h : jx_ok K D clX (tysX cA) A 10 b_Holder_shareArguments y_Holder_shareArguments.cls ((Cond.code y_Holder_shareArguments b_Holder_shareArguments 10 (some .int)) :: tblG) rX_Holder_shareArguments (some .int)) : ∀ (x1 : Int32) (x2 : Int32) (σ : SX), J K D clX A 10 (wX ad cA) (jx_Qi K D clX (tysX cA) (wX ad cA) A) 0 0 0 [(0, .ref (ad 35)), (1, .int x1), (2, .int x2)] [] σ (X_Holder_shareArguments N x1 x2 σ) := by
  intro x1 x2 σ
  rw [X_Holder_shareArguments]
  refine J_aload_n (q := 0) h d_Holder_shareArguments_0 rfl rfl ?_
  refine J_getf h 35 (wX_35 ad cA σ) (tb_ups in_Holder) rfl 2 (by decide) (tb_up q_1_236) rfl d_Holder_shareArguments_1 ?_
  refine J_iload_n (q := 1) h d_Holder_shareArguments_4 rfl rfl ?_
  refine J_callVi (As := [.int x1]) (st := []) (rmc := rX_Bounds_variableOf) (q0 := 19) h (fun _ _ hf => cX_Bounds_variableOf (jl K) D ad cA x1 σ _ _ hf) (gd_V q_3_121 q_3_122 q_3_123 q_1_5 q_3_124) rfl ⟨rfl, rfl⟩ dd_Bounds_variableOf ⟨Nat.le_of_ble_eq_true rfl, Nat.le_of_ble_eq_true rfl⟩ rfl rfl (wX_19 ad cA σ) rfl rfl (Nat.le_of_ble_eq_true rfl) ⟨Nat.zero_le _, Nat.zero_le _⟩ d_Holder_shareArguments_5 (fun r1 σ2 => ?_)
  refine J_aload_n (q := 0) h d_Holder_shareArguments_8 rfl rfl ?_
  refine J_getf h 35 (wX_35 ad cA σ2) (tb_ups in_Holder) rfl 2 (by decide) (tb_up q_1_236) rfl d_Holder_shareArguments_9 ?_
  refine J_iload_n (q := 2) h d_Holder_shareArguments_12 rfl rfl ?_
  refine J_callVi (As := [.int x2]) (st := [.int r1]) (rmc := rX_Bounds_variableOf) (q0 := 19) h (fun _ _ hf => cX_Bounds_variableOf (jl K) D ad cA x2 σ2 _ _ hf) (gd_V q_3_121 q_3_122 q_3_123 q_1_5 q_3_124) rfl ⟨rfl, rfl⟩ dd_Bounds_variableOf ⟨Nat.le_of_ble_eq_true rfl, Nat.le_of_ble_eq_true rfl⟩ rfl rfl (wX_19 ad cA σ2) rfl rfl (Nat.le_of_ble_eq_true rfl) ⟨Nat.zero_le _, Nat.zero_le _⟩ d_Holder_shareArguments_13 (fun r3 σ4 => ?_)
  refine J_icmp_eq (tgt := 21) h d_Holder_shareArguments_16 (by decide) ?_ ?_
  · refine J_aload_n (q := 0) h d_Holder_shareArguments_21 rfl rfl ?_
    refine J_getf h 35 (wX_35 ad cA σ4) (tb_ups in_Holder) rfl 2 (by decide) (tb_up q_1_236) rfl d_Holder_shareArguments_22 ?_
    refine J_iload_n (q := 1) h d_Holder_shareArguments_25 rfl rfl ?_
    refine J_callVi (As := [.int x1]) (st := []) (rmc := rX_Bounds_sortOf) (q0 := 19) h (fun _ _ hf => cX_Bounds_sortOf (jl K) D ad cA x1 σ4 _ _ hf) (gd_V q_3_133 q_3_134 q_3_135 q_1_5 q_3_136) rfl ⟨rfl, rfl⟩ dd_Bounds_sortOf ⟨Nat.le_of_ble_eq_true rfl, Nat.le_of_ble_eq_true rfl⟩ rfl rfl (wX_19 ad cA σ4) rfl rfl (Nat.le_of_ble_eq_true rfl) ⟨Nat.zero_le _, Nat.zero_le _⟩ d_Holder_shareArguments_26 (fun r5 σ6 => ?_)
    refine J_iconst (v := 1) h d_Holder_shareArguments_29 (by decide) ?_
    refine J_icmp_ne (tgt := 45) h d_Holder_shareArguments_30 (by decide) ?_ ?_
    · refine J_aload_n (q := 0) h d_Holder_shareArguments_33 rfl rfl ?_
      refine J_getf h 35 (wX_35 ad cA σ6) (tb_ups in_Holder) rfl 2 (by decide) (tb_up q_1_236) rfl d_Holder_shareArguments_34 ?_
      refine J_iload_n (q := 2) h d_Holder_shareArguments_37 rfl rfl ?_
      refine J_callVi (As := [.int x2]) (st := []) (rmc := rX_Bounds_sortOf) (q0 := 19) h (fun _ _ hf => cX_Bounds_sortOf (jl K) D ad cA x2 σ6 _ _ hf) (gd_V q_3_133 q_3_134 q_3_135 q_1_5 q_3_136) rfl ⟨rfl, rfl⟩ dd_Bounds_sortOf ⟨Nat.le_of_ble_eq_true rfl, Nat.le_of_ble_eq_true rfl⟩ rfl rfl (wX_19 ad cA σ6) rfl rfl (Nat.le_of_ble_eq_true rfl) ⟨Nat.zero_le _, Nat.zero_le _⟩ d_Holder_shareArguments_38 (fun r7 σ8 => ?_)
      refine J_iconst (v := 1) h d_Holder_shareArguments_41 (by decide) ?_
      refine J_icmp_eq (tgt := 47) h d_Holder_shareArguments_42 (by decide) ?_ ?_
      · refine J_iconst (v := 1) h d_Holder_shareArguments_47 (by decide) ?_
        refine J_istore_n (lv' := [(3, .int 1), (0, .ref (ad 35)), (1, .int x1), (2, .int x2)]) h d_Holder_shareArguments_48 rfl (by decide) rfl ?_
        refine J_iconst (v := 0) h d_Holder_shareArguments_49 (by decide) ?_
        refine J_istore (lv' := [(4, .int 0), (3, .int 1), (0, .ref (ad 35)), (1, .int x1), (2, .int x2)]) h d_Holder_shareArguments_50 (by decide) rfl ?_
        refine J_sub [2, 3, 4, 1, 0] rfl ?_
        exact J_X_Holder_shareArguments_L52 K D A ad cA N h N x1 x2 1 0 σ8
      · refine J_iconst (v := 1) h d_Holder_shareArguments_45 (by decide) ?_
        exact J_iret h rfl d_Holder_shareArguments_46
    · refine J_iconst (v := 1) h d_Holder_shareArguments_45 (by decide) ?_
      exact J_iret h rfl d_Holder_shareArguments_46
  · refine J_iconst (v := 1) h d_Holder_shareArguments_19 (by decide) ?_
    exact J_iret h rfl d_Holder_shareArguments_20
set_option maxRecDepth 100000 in
theorem cX_Holder_shareArguments (l : Launch) (D : va_G) (ad : Nat → Nat) (cA : Nat → ClassId) (N : Nat) (x1 : Int32) (x2 : Int32) (σ : SX) (r : Int32) (σ' : SX) (hf : X_Holder_shareArguments N x1 x2 σ = some (r, σ')) : MetI l y_Holder_shareArguments ((Cond.code y_Holder_shareArguments b_Holder_shareArguments 10 (some .int)) :: tblG) rX_Holder_shareArguments D clX (tysX cA) (wX ad cA) [.ref (ad 35), .int x1, .int x2] σ r σ' :=
  jx_metI (by decide) rfl (Nat.le_of_ble_eq_true rfl) (fun K A h => J_X_Holder_shareArguments K D A ad cA N h x1 x2 σ) hf
