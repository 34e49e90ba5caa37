def rX_I_judge : Room := { frames := 27, cells := 0, slots := 0, locals := 799 }
theorem rm_ok_X_I_judge : rX_I_judge.cells = 0 ∧ rX_I_judge.slots = 0 := ⟨rfl, rfl⟩
def X_I_judge_b62 (N : Nat) (k28 : Int32 → Int32 → SX → Option (Int32 × SX)) (v1 : Int32) (v3 : Int32) (σ : SX) : Option (Int32 × SX) := (nm (v3 + 1) (fun (y7 : Int32) => (k28 v1 y7 σ)))
set_option maxRecDepth 100000 in
set_option maxHeartbeats 4000000 in
theorem J_X_I_judge_b62 (K : jx_E) (D : va_G) (A : Nat → Prop) (ad : Nat → Nat) (cA : Nat → ClassId) (N : Nat) (h : jx_ok K D clX (tysX cA) A 7 b_I_judge y_I_judge.cls ((Cond.code y_I_judge b_I_judge 7 (some .int)) :: tblG) rX_I_judge (some .int)) (k28 : Int32 → Int32 → SX → Option (Int32 × SX)) (hk28 : ∀ (v1 : Int32) (v3 : Int32) (σ : SX), J K D clX A 7 (wX ad cA) (jx_Qi K D clX (tysX cA) (wX ad cA) A) 0 0 28 [(0, .ref (ad 0)), (1, .int v1), (2, .ref (ad 25)), (3, .int v3)] [] σ (k28 v1 v3 σ)) : ∀ (v1 : Int32) (v3 : Int32) (σ : SX), J K D clX A 7 (wX ad cA) (jx_Qi K D clX (tysX cA) (wX ad cA) A) 0 0 62 [(0, .ref (ad 0)), (1, .int v1), (2, .ref (ad 25)), (3, .int v3)] [] σ (X_I_judge_b62 N k28 v1 v3 σ) := by
  intro v1 v3 σ
  rw [X_I_judge_b62]
  refine J_iinc (q := 3) (c := 1) (lv' := fun y7 => [(3, .int y7), (0, .ref (ad 0)), (1, .int v1), (2, .ref (ad 25))]) h d_I_judge_62 rfl (by decide) (by decide) (fun _ => rfl) (fun y7 => ?_)
  refine J_goto (tgt := 28) h d_I_judge_65 (by decide) ?_
  refine J_sub [1, 2, 3, 0] rfl ?_
  exact hk28 v1 y7 σ
def X_I_judge_L28 (N : Nat) (k68 : Int32 → SX → Option (Int32 × SX)) : Nat → Int32 → Int32 → SX → Option (Int32 × SX)
  | 0, _, _, _ => none
  | n + 1, v1, v3, σ => (if (gX_I_variables σ) ≤ v3 then (k68 v1 σ) else (bd (X_Bounds_settledAs N v3 σ) (fun (r5 : Int32) (σ6 : SX) => (if r5 < 0 then (X_I_judge_b62 N (X_I_judge_L28 N k68 n) v1 v3 σ6) else (bd (X_Exchange_setInstead v3 r5 σ6) (fun (r8 : Unit) (σ9 : SX) => (X_I_judge_b62 N (X_I_judge_L28 N k68 n) v1 v3 σ9)))))))
set_option maxRecDepth 100000 in
set_option maxHeartbeats 4000000 in
theorem J_X_I_judge_L28 (K : jx_E) (D : va_G) (A : Nat → Prop) (ad : Nat → Nat) (cA : Nat → ClassId) (N : Nat) (h : jx_ok K D clX (tysX cA) A 7 b_I_judge y_I_judge.cls ((Cond.code y_I_judge b_I_judge 7 (some .int)) :: tblG) rX_I_judge (some .int)) (k68 : Int32 → SX → Option (Int32 × SX)) (hk68 : ∀ (v1 : Int32) (σ : SX), J K D clX A 7 (wX ad cA) (jx_Qi K D clX (tysX cA) (wX ad cA) A) 0 0 68 [(0, .ref (ad 0)), (1, .int v1), (2, .ref (ad 25))] [] σ (k68 v1 σ)) : ∀ (n : Nat) (v1 : Int32) (v3 : Int32) (σ : SX), J K D clX A 7 (wX ad cA) (jx_Qi K D clX (tysX cA) (wX ad cA) A) 0 0 28 [(0, .ref (ad 0)), (1, .int v1), (2, .ref (ad 25)), (3, .int v3)] [] σ (X_I_judge_L28 N k68 n v1 v3 σ) := by
  intro n
  induction n with
  | zero => intro v1 v3 σ; exact J_none
  | succ n ih =>
    intro v1 v3 σ
    rw [X_I_judge_L28]
    refine J_iload_n (q := 3) h d_I_judge_28 rfl rfl ?_
    refine J_aload_n (q := 0) h d_I_judge_29 rfl rfl ?_
    refine J_getf h 0 (wX_0 ad cA σ) (tb_ups in_I) rfl 8 (by decide) (tb_up q_2_80) rfl d_I_judge_30 ?_
    refine J_icmp_ge (tgt := 68) h d_I_judge_33 (by decide) ?_ ?_
    · refine J_sub [0, 1, 2] rfl ?_
      exact hk68 v1 σ
    · refine J_aload_n (q := 0) h d_I_judge_36 rfl rfl ?_
      refine J_getf h 0 (wX_0 ad cA σ) (tb_ups in_I) rfl 2 (by decide) (tb_up q_2_74) rfl d_I_judge_37 ?_
      refine J_iload_n (q := 3) h d_I_judge_40 rfl rfl ?_
      refine J_aload_n (q := 0) h d_I_judge_41 rfl rfl ?_
      refine J_getf h 0 (wX_0 ad cA σ) (tb_ups in_I) rfl 1 (by decide) (tb_up q_2_73) rfl d_I_judge_42 ?_
      refine J_callVi (As := [.int v3, .ref (ad 7)]) (st := []) (rmc := rX_Bounds_settledAs) (q0 := 19) h (fun _ _ hf => cX_Bounds_settledAs (jl K) D ad cA N v3 σ _ _ hf) (gd_V q_4_41 q_3_178 q_3_179 q_1_5 q_3_180) rfl ⟨rfl, rfl⟩ dd_Bounds_settledAs ⟨Nat.le_of_ble_eq_true rfl, Nat.le_of_ble_eq_true rfl⟩ rfl rfl (wX_19 ad cA σ) rfl rfl (Nat.le_of_ble_eq_true rfl) ⟨Nat.zero_le _, Nat.zero_le _⟩ d_I_judge_45 (fun r5 σ6 => ?_)
      refine J_istore (lv' := [(4, .int r5), (0, .ref (ad 0)), (1, .int v1), (2, .ref (ad 25)), (3, .int v3)]) h d_I_judge_48 (by decide) rfl ?_
      refine J_iload (q := 0) h d_I_judge_50 rfl ?_
      refine J_if_lt (tgt := 62) h d_I_judge_52 (by decide) ?_ ?_
      · refine J_sub [1, 2, 3, 4] rfl ?_
        exact J_X_I_judge_b62 K D A ad cA N h (X_I_judge_L28 N k68 n) ih v1 v3 σ6
      · refine J_aload_n (q := 3) h d_I_judge_55 rfl rfl ?_
        refine J_iload_n (q := 4) h d_I_judge_56 rfl rfl ?_
        refine J_iload (q := 0) h d_I_judge_57 rfl ?_
        refine J_callVv (As := [.int v3, .int r5]) (st := []) (rmc := rX_Exchange_setInstead) (q0 := 25) h (fun _ _ hf => cX_Exchange_setInstead (jl K) D ad cA v3 r5 σ6 _ _ hf) (gd_V q_4_61 q_3_144 q_3_145 q_1_6 q_3_146) rfl ⟨rfl, rfl⟩ dd_Exchange_setInstead ⟨Nat.le_of_ble_eq_true rfl, Nat.le_of_ble_eq_true rfl⟩ rfl rfl (wX_25 ad cA σ6) rfl rfl (Nat.le_of_ble_eq_true rfl) ⟨Nat.zero_le _, Nat.zero_le _⟩ d_I_judge_59 (fun r8 σ9 => ?_)
        refine J_sub [1, 2, 3, 4] rfl ?_
        exact J_X_I_judge_b62 K D A ad cA N h (X_I_judge_L28 N k68 n) ih v1 v3 σ9
def X_I_judge_b195 (N : Nat) (v5 : Int32) (v6 : Int32) (σ : SX) : Option (Int32 × SX) := (nm (sX_Reducer_made σ v5) (fun (σ31 : SX) => (if v6 = 1 then (if (gX_Reducer_sawUnchecked σ31) = 0 then (some (v6, σ31)) else (some (2, σ31))) else (some (v6, σ31)))))
set_option maxRecDepth 100000 in
set_option maxHeartbeats 4000000 in
theorem J_X_I_judge_b195 (K : jx_E) (D : va_G) (A : Nat → Prop) (ad : Nat → Nat) (cA : Nat → ClassId) (N : Nat) (h : jx_ok K D clX (tysX cA) A 7 b_I_judge y_I_judge.cls ((Cond.code y_I_judge b_I_judge 7 (some .int)) :: tblG) rX_I_judge (some .int)) : ∀ (v5 : Int32) (v6 : Int32) (σ : SX), J K D clX A 7 (wX ad cA) (jx_Qi K D clX (tysX cA) (wX ad cA) A) 0 0 195 [(0, .ref (ad 0)), (5, .int v5), (6, .int v6)] [] σ (X_I_judge_b195 N v5 v6 σ) := by
  intro v5 v6 σ
  rw [X_I_judge_b195]
  refine J_aload_n (q := 0) h d_I_judge_195 rfl rfl ?_
  refine J_getf h 0 (wX_0 ad cA σ) (tb_ups in_I) rfl 3 (by decide) (tb_up q_2_75) rfl d_I_judge_196 ?_
  refine J_iload (q := 1) h d_I_judge_199 rfl ?_
  refine J_putf h 29 (wX_29 ad cA σ) (tb_ups in_Reducer) rfl ft_Reducer ft_Reducer_ok nm_Reducer 5 (by decide) (tb_up q_1_204) rfl rfl rfl (Nat.le_of_ble_eq_true rfl) (pX_29_5 ad cA σ v5) d_I_judge_201 (fun σ31 => ?_)
  refine J_iload (q := 2) h d_I_judge_204 rfl ?_
  refine J_iconst (v := 1) h d_I_judge_206 (by decide) ?_
  refine J_icmp_ne (tgt := 222) h d_I_judge_207 (by decide) ?_ ?_
  · refine J_aload_n (q := 0) h d_I_judge_210 rfl rfl ?_
    refine J_getf h 0 (wX_0 ad cA σ31) (tb_ups in_I) rfl 3 (by decide) (tb_up q_2_75) rfl d_I_judge_211 ?_
    refine J_getf h 29 (wX_29 ad cA σ31) (tb_ups in_Reducer) rfl 8 (by decide) (tb_up q_1_208) rfl d_I_judge_214 ?_
    refine J_if_eq (tgt := 222) h d_I_judge_217 (by decide) ?_ ?_
    · refine J_iload (q := 2) h d_I_judge_222 rfl ?_
      exact J_iret h rfl d_I_judge_224
    · refine J_iconst (v := 2) h d_I_judge_220 (by decide) ?_
      exact J_iret h rfl d_I_judge_221
  · refine J_iload (q := 2) h d_I_judge_222 rfl ?_
    exact J_iret h rfl d_I_judge_224
def X_I_judge_b104 (N : Nat) (v1 : Int32) (v3 : Int32) (s0 : Int32) (σ : SX) : Option (Int32 × SX) := (if v3 < 0 then (some ((-3), σ)) else (if (0 : Int32) ≤ s0 then (bd (X_Types_isProper v3 σ) (fun (r18 : Int32) (σ19 : SX) => (if r18 = 0 then (some (0, σ19)) else (bd (X_Types_isProper s0 σ19) (fun (r20 : Int32) (σ21 : SX) => (if r20 = 0 then (some (0, σ21)) else (nm ((gX_Reducer_made σ21)) (fun (y22 : Int32) => (bd (X_Reducer_begin (-1) σ21) (fun (r23 : Unit) (σ24 : SX) => (bd (X_Told_sortOf v1 σ24) (fun (r25 : Int32) (σ26 : SX) => (bd (X_Reducer_ask r25 v3 s0 σ26) (fun (r27 : Int32) (σ28 : SX) => (if r27 = 1 then (bd (X_Reducer_less N σ28) (fun (r29 : Int32) (σ30 : SX) => (X_I_judge_b195 N y22 r29 σ30))) else (X_I_judge_b195 N y22 r27 σ28)))))))))))))))) else (some ((-3), σ))))
set_option maxRecDepth 100000 in
set_option maxHeartbeats 4000000 in
theorem J_X_I_judge_b104 (K : jx_E) (D : va_G) (A : Nat → Prop) (ad : Nat → Nat) (cA : Nat → ClassId) (N : Nat) (h : jx_ok K D clX (tysX cA) A 7 b_I_judge y_I_judge.cls ((Cond.code y_I_judge b_I_judge 7 (some .int)) :: tblG) rX_I_judge (some .int)) : ∀ (v1 : Int32) (v3 : Int32) (s0 : Int32) (σ : SX), J K D clX A 7 (wX ad cA) (jx_Qi K D clX (tysX cA) (wX ad cA) A) 0 0 104 [(0, .ref (ad 0)), (1, .int v1), (3, .int v3)] [.int s0] σ (X_I_judge_b104 N v1 v3 s0 σ) := by
  intro v1 v3 s0 σ
  rw [X_I_judge_b104]
  refine J_istore (lv' := [(4, .int s0), (0, .ref (ad 0)), (1, .int v1), (3, .int v3)]) h d_I_judge_104 (by decide) rfl ?_
  refine J_iload_n (q := 3) h d_I_judge_106 rfl rfl ?_
  refine J_if_lt (tgt := 115) h d_I_judge_107 (by decide) ?_ ?_
  · refine J_bipush (v := (-3)) h d_I_judge_115 (by decide) ?_
    exact J_iret h rfl d_I_judge_117
  · refine J_iload (q := 0) h d_I_judge_110 rfl ?_
    refine J_if_ge (tgt := 118) h d_I_judge_112 (by decide) ?_ ?_
    · refine J_aload_n (q := 1) h d_I_judge_118 rfl rfl ?_
      refine J_getf h 0 (wX_0 ad cA σ) (tb_ups in_I) rfl 1 (by decide) (tb_up q_2_73) rfl d_I_judge_119 ?_
      refine J_iload_n (q := 3) h d_I_judge_122 rfl rfl ?_
      refine J_callVi (As := [.int v3]) (st := []) (rmc := rX_Types_isProper) (q0 := 7) h (fun _ _ hf => cX_Types_isProper (jl K) D ad cA v3 σ _ _ hf) (gd_V q_4_21 q_3_23 q_3_24 q_1_3 q_3_25) rfl ⟨rfl, rfl⟩ dd_Types_isProper ⟨Nat.le_of_ble_eq_true rfl, Nat.le_of_ble_eq_true rfl⟩ rfl rfl (wX_7 ad cA σ) rfl rfl (Nat.le_of_ble_eq_true rfl) ⟨Nat.zero_le _, Nat.zero_le _⟩ d_I_judge_123 (fun r18 σ19 => ?_)
      refine J_if_eq (tgt := 141) h d_I_judge_126 (by decide) ?_ ?_
      · refine J_iconst (v := 0) h d_I_judge_141 (by decide) ?_
        exact J_iret h rfl d_I_judge_142
      · refine J_aload_n (q := 1) h d_I_judge_129 rfl rfl ?_
        refine J_getf h 0 (wX_0 ad cA σ19) (tb_ups in_I) rfl 1 (by decide) (tb_up q_2_73) rfl d_I_judge_130 ?_
        refine J_iload (q := 0) h d_I_judge_133 rfl ?_
        refine J_callVi (As := [.int s0]) (st := []) (rmc := rX_Types_isProper) (q0 := 7) h (fun _ _ hf => cX_Types_isProper (jl K) D ad cA s0 σ19 _ _ hf) (gd_V q_4_21 q_3_23 q_3_24 q_1_3 q_3_25) rfl ⟨rfl, rfl⟩ dd_Types_isProper ⟨Nat.le_of_ble_eq_true rfl, Nat.le_of_ble_eq_true rfl⟩ rfl rfl (wX_7 ad cA σ19) rfl rfl (Nat.le_of_ble_eq_true rfl) ⟨Nat.zero_le _, Nat.zero_le _⟩ d_I_judge_135 (fun r20 σ21 => ?_)
        refine J_if_ne (tgt := 143) h d_I_judge_138 (by decide) ?_ ?_
        · refine J_iconst (v := 0) h d_I_judge_141 (by decide) ?_
          exact J_iret h rfl d_I_judge_142
        · refine J_aload_n (q := 1) h d_I_judge_143 rfl rfl ?_
          refine J_getf h 0 (wX_0 ad cA σ21) (tb_ups in_I) rfl 3 (by decide) (tb_up q_2_75) rfl d_I_judge_144 ?_
          refine J_getf h 29 (wX_29 ad cA σ21) (tb_ups in_Reducer) rfl 5 (by decide) (tb_up q_1_204) rfl d_I_judge_147 ?_
          refine J_nmi (fun y22 => ?_)
          refine J_istore (lv' := [(5, .int y22), (4, .int s0), (0, .ref (ad 0)), (1, .int v1), (3, .int v3)]) h d_I_judge_150 (by decide) rfl ?_
          refine J_aload_n (q := 2) h d_I_judge_152 rfl rfl ?_
          refine J_getf h 0 (wX_0 ad cA σ21) (tb_ups in_I) rfl 3 (by decide) (tb_up q_2_75) rfl d_I_judge_153 ?_
          refine J_iconst (v := (-1)) h d_I_judge_156 (by decide) ?_
          refine J_callVv (As := [.int (-1)]) (st := []) (rmc := rX_Reducer_begin) (q0 := 29) h (fun _ _ hf => cX_Reducer_begin (jl K) D ad cA (-1) σ21 _ _ hf) (gd_V q_2_233 q_2_234 q_2_235 q_1_7 q_2_236) rfl ⟨rfl, rfl⟩ dd_Reducer_begin ⟨Nat.le_of_ble_eq_true rfl, Nat.le_of_ble_eq_true rfl⟩ rfl rfl (wX_29 ad cA σ21) rfl rfl (Nat.le_of_ble_eq_true rfl) ⟨Nat.zero_le _, Nat.zero_le _⟩ d_I_judge_157 (fun r23 σ24 => ?_)
          refine J_aload_n (q := 2) h d_I_judge_160 rfl rfl ?_
          refine J_getf h 0 (wX_0 ad cA σ24) (tb_ups in_I) rfl 3 (by decide) (tb_up q_2_75) rfl d_I_judge_161 ?_
          refine J_aload_n (q := 2) h d_I_judge_164 rfl rfl ?_
          refine J_getf h 0 (wX_0 ad cA σ24) (tb_ups in_I) rfl 6 (by decide) (tb_up q_2_78) rfl d_I_judge_165 ?_
          refine J_iload_n (q := 3) h d_I_judge_168 rfl rfl ?_
          refine J_callVi (As := [.int v1]) (st := [.ref (ad 29)]) (rmc := rX_Told_sortOf) (q0 := 40) h (fun _ _ hf => cX_Told_sortOf (jl K) D ad cA v1 σ24 _ _ hf) (gd_V q_4_71 q_4_72 q_4_73 q_1_11 q_4_74) rfl ⟨rfl, rfl⟩ dd_Told_sortOf ⟨Nat.le_of_ble_eq_true rfl, Nat.le_of_ble_eq_true rfl⟩ rfl rfl (wX_40 ad cA σ24) rfl rfl (Nat.le_of_ble_eq_true rfl) ⟨Nat.zero_le _, Nat.zero_le _⟩ d_I_judge_169 (fun r25 σ26 => ?_)
          refine J_iload_n (q := 4) h d_I_judge_172 rfl rfl ?_
          refine J_iload (q := 1) h d_I_judge_173 rfl ?_
          refine J_callVi (As := [.int r25, .int v3, .int s0]) (st := []) (rmc := rX_Reducer_ask) (q0 := 29) h (fun _ _ hf => cX_Reducer_ask (jl K) D ad cA r25 v3 s0 σ26 _ _ hf) (gd_V q_2_237 q_2_238 q_2_239 q_1_7 q_3_0) rfl ⟨rfl, rfl⟩ dd_Reducer_ask ⟨Nat.le_of_ble_eq_true rfl, Nat.le_of_ble_eq_true rfl⟩ rfl rfl (wX_29 ad cA σ26) rfl rfl (Nat.le_of_ble_eq_true rfl) ⟨Nat.zero_le _, Nat.zero_le _⟩ d_I_judge_175 (fun r27 σ28 => ?_)
          refine J_istore (lv' := [(6, .int r27), (5, .int y22), (4, .int s0), (0, .ref (ad 0)), (1, .int v1), (3, .int v3)]) h d_I_judge_178 (by decide) rfl ?_
          refine J_iload (q := 0) h d_I_judge_180 rfl ?_
          refine J_iconst (v := 1) h d_I_judge_182 (by decide) ?_
          refine J_icmp_ne (tgt := 195) h d_I_judge_183 (by decide) ?_ ?_
          · refine J_aload_n (q := 3) h d_I_judge_186 rfl rfl ?_
            refine J_getf h 0 (wX_0 ad cA σ28) (tb_ups in_I) rfl 3 (by decide) (tb_up q_2_75) rfl d_I_judge_187 ?_
            refine J_callVi (As := []) (st := []) (rmc := rX_Reducer_less) (q0 := 29) h (fun _ _ hf => cX_Reducer_less (jl K) D ad cA N  σ28 _ _ hf) (gd_V q_4_75 q_3_10 q_3_11 q_1_7 q_3_12) rfl ⟨rfl, rfl⟩ dd_Reducer_less ⟨Nat.le_of_ble_eq_true rfl, Nat.le_of_ble_eq_true rfl⟩ rfl rfl (wX_29 ad cA σ28) rfl rfl (Nat.le_of_ble_eq_true rfl) ⟨Nat.zero_le _, Nat.zero_le _⟩ d_I_judge_190 (fun r29 σ30 => ?_)
            refine J_istore (lv' := [(6, .int r29), (5, .int y22), (4, .int s0), (0, .ref (ad 0)), (1, .int v1), (3, .int v3)]) h d_I_judge_193 (by decide) rfl ?_
            refine J_sub [3, 1, 0] rfl ?_
            exact J_X_I_judge_b195 K D A ad cA N h y22 r29 σ30
          · refine J_sub [3, 1, 0] rfl ?_
            exact J_X_I_judge_b195 K D A ad cA N h y22 r27 σ28
    · refine J_bipush (v := (-3)) h d_I_judge_115 (by decide) ?_
      exact J_iret h rfl d_I_judge_117
def X_I_judge_b68 (N : Nat) (v1 : Int32) (σ : SX) : Option (Int32 × SX) := (bd (X_Told_leftOf v1 σ) (fun (r10 : Int32) (σ11 : SX) => (bd (X_Exchange_put N 22 r10 1 σ11) (fun (r12 : Int32) (σ13 : SX) => (if (0 : Int32) ≤ r12 then (bd (X_Told_rightOf v1 σ13) (fun (r14 : Int32) (σ15 : SX) => (bd (X_Exchange_put N 22 r14 1 σ15) (fun (r16 : Int32) (σ17 : SX) => (X_I_judge_b104 N v1 r12 r16 σ17))))) else (X_I_judge_b104 N v1 r12 (-3) σ13))))))
set_option maxRecDepth 100000 in
set_option maxHeartbeats 4000000 in
theorem J_X_I_judge_b68 (K : jx_E) (D : va_G) (A : Nat → Prop) (ad : Nat → Nat) (cA : Nat → ClassId) (N : Nat) (h : jx_ok K D clX (tysX cA) A 7 b_I_judge y_I_judge.cls ((Cond.code y_I_judge b_I_judge 7 (some .int)) :: tblG) rX_I_judge (some .int)) : ∀ (v1 : Int32) (σ : SX), J K D clX A 7 (wX ad cA) (jx_Qi K D clX (tysX cA) (wX ad cA) A) 0 0 68 [(0, .ref (ad 0)), (1, .int v1), (2, .ref (ad 25))] [] σ (X_I_judge_b68 N v1 σ) := by
  intro v1 σ
  rw [X_I_judge_b68]
  refine J_aload_n (q := 2) h d_I_judge_68 rfl rfl ?_
  refine J_aload_n (q := 0) h d_I_judge_69 rfl rfl ?_
  refine J_getf h 0 (wX_0 ad cA σ) (tb_ups in_I) rfl 6 (by decide) (tb_up q_2_78) rfl d_I_judge_70 ?_
  refine J_iload_n (q := 1) h d_I_judge_73 rfl rfl ?_
  refine J_callVi (As := [.int v1]) (st := [.ref (ad 25)]) (rmc := rX_Told_leftOf) (q0 := 40) h (fun _ _ hf => cX_Told_leftOf (jl K) D ad cA v1 σ _ _ hf) (gd_V q_4_62 q_4_63 q_4_64 q_1_11 q_4_65) rfl ⟨rfl, rfl⟩ dd_Told_leftOf ⟨Nat.le_of_ble_eq_true rfl, Nat.le_of_ble_eq_true rfl⟩ rfl rfl (wX_40 ad cA σ) rfl rfl (Nat.le_of_ble_eq_true rfl) ⟨Nat.zero_le _, Nat.zero_le _⟩ d_I_judge_74 (fun r10 σ11 => ?_)
  refine J_iconst (v := 1) h d_I_judge_77 (by decide) ?_
  refine J_callVi (As := [.int r10, .int 1]) (st := []) (rmc := (rX_rec29 22)) (q0 := 25) h (fun _ _ hf => cX_Exchange_put (jl K) D ad cA N 22 r10 1 σ11 _ _ hf) (gd_V q_4_66 q_3_77 q_3_78 q_1_6 q_3_79) rfl ⟨rfl, rfl⟩ dd_Exchange_put ⟨Nat.le_of_ble_eq_true rfl, Nat.le_of_ble_eq_true rfl⟩ rfl rfl (wX_25 ad cA σ11) rfl rfl (Nat.le_of_ble_eq_true rfl) ⟨Nat.zero_le _, Nat.zero_le _⟩ d_I_judge_78 (fun r12 σ13 => ?_)
  refine J_istore_n (lv' := [(3, .int r12), (0, .ref (ad 0)), (1, .int v1), (2, .ref (ad 25))]) h d_I_judge_81 rfl (by decide) rfl ?_
  refine J_iload_n (q := 0) h d_I_judge_82 rfl rfl ?_
  refine J_if_ge (tgt := 91) h d_I_judge_83 (by decide) ?_ ?_
  · refine J_aload_n (q := 3) h d_I_judge_91 rfl rfl ?_
    refine J_aload_n (q := 1) h d_I_judge_92 rfl rfl ?_
    refine J_getf h 0 (wX_0 ad cA σ13) (tb_ups in_I) rfl 6 (by decide) (tb_up q_2_78) rfl d_I_judge_93 ?_
    refine J_iload_n (q := 2) h d_I_judge_96 rfl rfl ?_
    refine J_callVi (As := [.int v1]) (st := [.ref (ad 25)]) (rmc := rX_Told_rightOf) (q0 := 40) h (fun _ _ hf => cX_Told_rightOf (jl K) D ad cA v1 σ13 _ _ hf) (gd_V q_4_67 q_4_68 q_4_69 q_1_11 q_4_70) rfl ⟨rfl, rfl⟩ dd_Told_rightOf ⟨Nat.le_of_ble_eq_true rfl, Nat.le_of_ble_eq_true rfl⟩ rfl rfl (wX_40 ad cA σ13) rfl rfl (Nat.le_of_ble_eq_true rfl) ⟨Nat.zero_le _, Nat.zero_le _⟩ d_I_judge_97 (fun r14 σ15 => ?_)
    refine J_iconst (v := 1) h d_I_judge_100 (by decide) ?_
    refine J_callVi (As := [.int r14, .int 1]) (st := []) (rmc := (rX_rec29 22)) (q0 := 25) h (fun _ _ hf => cX_Exchange_put (jl K) D ad cA N 22 r14 1 σ15 _ _ hf) (gd_V q_4_66 q_3_77 q_3_78 q_1_6 q_3_79) rfl ⟨rfl, rfl⟩ dd_Exchange_put ⟨Nat.le_of_ble_eq_true rfl, Nat.le_of_ble_eq_true rfl⟩ rfl rfl (wX_25 ad cA σ15) rfl rfl (Nat.le_of_ble_eq_true rfl) ⟨Nat.zero_le _, Nat.zero_le _⟩ d_I_judge_101 (fun r16 σ17 => ?_)
    refine J_sub [1, 2, 0] rfl ?_
    exact J_X_I_judge_b104 K D A ad cA N h v1 r12 r16 σ17
  · refine J_bipush (v := (-3)) h d_I_judge_86 (by decide) ?_
    refine J_goto (tgt := 104) h d_I_judge_88 (by decide) ?_
    refine J_sub [1, 2, 0] rfl ?_
    exact J_X_I_judge_b104 K D A ad cA N h v1 r12 (-3) σ13
def X_I_judge (N : Nat) (x1 : Int32) (σ : SX) : Option (Int32 × SX) := (bd (X_Told_has x1 σ) (fun (r1 : Int32) (σ2 : SX) => (if r1 = 0 then (some ((-2), σ2)) else (bd (X_Exchange_forVariables σ2) (fun (r3 : Unit) (σ4 : SX) => (X_I_judge_L28 N (X_I_judge_b68 N) N x1 0 σ4))))))
set_option maxRecDepth 100000 in
set_option maxHeartbeats 4000000 in
theorem J_X_I_judge (K : jx_E) (D : va_G) (A : Nat → Prop) (ad : Nat → Nat) (cA : Nat → ClassId) (N : Nat) (h : jx_ok K D clX (tysX cA) A 7 b_I_judge y_I_judge.cls ((Cond.code y_I_judge b_I_judge 7 (some .int)) :: tblG) rX_I_judge (some .int)) : ∀ (x1 : Int32) (σ : SX), J K D clX A 7 (wX ad cA) (jx_Qi K D clX (tysX cA) (wX ad cA) A) 0 0 0 [(0, .ref (ad 0)), (1, .int x1)] [] σ (X_I_judge N x1 σ) := by
  intro x1 σ
  rw [X_I_judge]
  refine J_aload_n (q := 0) h d_I_judge_0 rfl rfl ?_
  refine J_getf h 0 (wX_0 ad cA σ) (tb_ups in_I) rfl 6 (by decide) (tb_up q_2_78) rfl d_I_judge_1 ?_
  refine J_iload_n (q := 1) h d_I_judge_4 rfl rfl ?_
  refine J_callVi (As := [.int x1]) (st := []) (rmc := rX_Told_has) (q0 := 40) h (fun _ _ hf => cX_Told_has (jl K) D ad cA x1 σ _ _ hf) (gd_V q_4_51 q_3_162 q_3_163 q_1_11 q_3_164) rfl ⟨rfl, rfl⟩ dd_Told_has ⟨Nat.le_of_ble_eq_true rfl, Nat.le_of_ble_eq_true rfl⟩ rfl rfl (wX_40 ad cA σ) rfl rfl (Nat.le_of_ble_eq_true rfl) ⟨Nat.zero_le _, Nat.zero_le _⟩ d_I_judge_5 (fun r1 σ2 => ?_)
  refine J_if_ne (tgt := 14) h d_I_judge_8 (by decide) ?_ ?_
  · refine J_bipush (v := (-2)) h d_I_judge_11 (by decide) ?_
    exact J_iret h rfl d_I_judge_13
  · refine J_aload_n (q := 0) h d_I_judge_14 rfl rfl ?_
    refine J_getf h 0 (wX_0 ad cA σ2) (tb_ups in_I) rfl 3 (by decide) (tb_up q_2_75) rfl d_I_judge_15 ?_
    refine J_getf h 29 (wX_29 ad cA σ2) (tb_ups in_Reducer) rfl 3 (by decide) (tb_up q_1_201) rfl d_I_judge_18 ?_
    refine J_astore_n (lv' := [(2, .ref (ad 25)), (0, .ref (ad 0)), (1, .int x1)]) h d_I_judge_21 rfl (by decide) rfl ?_
    refine J_aload_n (q := 0) h d_I_judge_22 rfl rfl ?_
    refine J_callVv (As := []) (st := []) (rmc := rX_Exchange_forVariables) (q0 := 25) h (fun _ _ hf => cX_Exchange_forVariables (jl K) D ad cA  σ2 _ _ hf) (gd_V q_4_60 q_3_140 q_3_141 q_1_6 q_3_142) rfl ⟨rfl, rfl⟩ dd_Exchange_forVariables ⟨Nat.le_of_ble_eq_true rfl, Nat.le_of_ble_eq_true rfl⟩ rfl rfl (wX_25 ad cA σ2) rfl rfl (Nat.le_of_ble_eq_true rfl) ⟨Nat.zero_le _, Nat.zero_le _⟩ d_I_judge_23 (fun r3 σ4 => ?_)
    refine J_iconst (v := 0) h d_I_judge_26 (by decide) ?_
    refine J_istore_n (lv' := [(3, .int 0), (2, .ref (ad 25)), (0, .ref (ad 0)), (1, .int x1)]) h d_I_judge_27 rfl (by decide) rfl ?_
    refine J_sub [2, 3, 1, 0] rfl ?_
    exact J_X_I_judge_L28 K D A ad cA N h (X_I_judge_b68 N) (J_X_I_judge_b68 K D A ad cA N h) N x1 0 σ4
set_option maxRecDepth 100000 in
theorem cX_I_judge (l : Launch) (D : va_G) (ad : Nat → Nat) (cA : Nat → ClassId) (N : Nat) (x1 : Int32) (σ : SX) (r : Int32) (σ' : SX) (hf : X_I_judge N x1 σ = some (r, σ')) : MetI l y_I_judge ((Cond.code y_I_judge b_I_judge 7 (some .int)) :: tblG) rX_I_judge D clX (tysX cA) (wX ad cA) [.ref (ad 0), .int x1] σ r σ' :=
  jx_metI (by decide) rfl (Nat.le_of_ble_eq_true rfl) (fun K A h => J_X_I_judge K D A ad cA N h x1 σ) hf
