def rX_rec29 (d : Nat) : Room := { frames := 1 + d, cells := 0, slots := 0, locals := 35 + 30 * d }
def X_Exchange_put_b374 (N : Nat) (rc : Int32 → Int32 → SX → Option (Int32 × SX)) (v1 : Int32) (v8 : Int32) (σ : SX) : Option (Int32 × SX) := (if ck v1 500 = true then (nm (tX_Exchange_done σ (upd (aX_Exchange_done σ) v1.toNatClampNeg v8)) (fun (σ19 : SX) => (if ck v1 500 = true then (nm (tX_Exchange_doneAt σ19 (upd (aX_Exchange_doneAt σ19) v1.toNatClampNeg (gX_Exchange_stamp σ19))) (fun (σ20 : SX) => (some (v8, σ20)))) else none))) else none)
set_option maxRecDepth 100000 in
set_option maxHeartbeats 4000000 in
theorem J_X_Exchange_put_b374 (K : jx_E) (D : va_G) (A : Nat → Prop) (ad : Nat → Nat) (cA : Nat → ClassId) (N : Nat) (rc : Int32 → Int32 → SX → Option (Int32 × SX)) (d : Nat) (h : jx_ok K D clX (tysX cA) A 11 b_Exchange_put y_Exchange_put.cls ((Cond.code y_Exchange_put b_Exchange_put 11 (some .int)) :: tblG) (rX_rec29 (d + 1)) (some .int)) (hrc : ∀ (x1 x2 : Int32) (σ : SX) (r : Int32) (σ' : SX), rc x1 x2 σ = some (r, σ') → MetI (jl K) y_Exchange_put ((Cond.code y_Exchange_put b_Exchange_put 11 (some .int)) :: tblG) (rX_rec29 d) D clX (tysX cA) (wX ad cA) [.ref (ad 25), .int x1, .int x2] σ r σ') : ∀ (v1 : Int32) (v8 : Int32) (σ : SX), J K D clX A 11 (wX ad cA) (jx_Qi K D clX (tysX cA) (wX ad cA) A) 0 0 374 [(0, .ref (ad 25)), (1, .int v1), (8, .int v8)] [] σ (X_Exchange_put_b374 N rc v1 v8 σ) := by
  intro v1 v8 σ
  rw [X_Exchange_put_b374]
  refine J_aload_n (q := 0) h d_Exchange_put_374 rfl rfl ?_
  refine J_getf h 25 (wX_25 ad cA σ) (tb_ups in_Exchange) rfl 2 (by decide) (tb_up q_1_132) rfl d_Exchange_put_375 ?_
  refine J_iload_n (q := 1) h d_Exchange_put_378 rfl rfl ?_
  refine J_iload (q := 2) h d_Exchange_put_379 rfl ?_
  refine J_iast h 27 22 (wX_27 ad cA σ) rfl (uX_27 ad cA σ _) d_Exchange_put_381 (fun σ19 => ?_)
  refine J_aload_n (q := 0) h d_Exchange_put_382 rfl rfl ?_
  refine J_getf h 25 (wX_25 ad cA σ19) (tb_ups in_Exchange) rfl 3 (by decide) (tb_up q_1_133) rfl d_Exchange_put_383 ?_
  refine J_iload_n (q := 1) h d_Exchange_put_386 rfl rfl ?_
  refine J_aload_n (q := 0) h d_Exchange_put_387 rfl rfl ?_
  refine J_getf h 25 (wX_25 ad cA σ19) (tb_ups in_Exchange) rfl 4 (by decide) (tb_up q_1_134) rfl d_Exchange_put_388 ?_
  refine J_iast h 28 23 (wX_28 ad cA σ19) rfl (uX_28 ad cA σ19 _) d_Exchange_put_391 (fun σ20 => ?_)
  refine J_iload (q := 2) h d_Exchange_put_392 rfl ?_
  exact J_iret h rfl d_Exchange_put_394
def X_Exchange_put_b294 (N : Nat) (rc : Int32 → Int32 → SX → Option (Int32 × SX)) (v1 : Int32) (s0 : Int32) (σ : SX) : Option (Int32 × SX) := (X_Exchange_put_b374 N rc v1 s0 σ)
set_option maxRecDepth 100000 in
set_option maxHeartbeats 4000000 in
theorem J_X_Exchange_put_b294 (K : jx_E) (D : va_G) (A : Nat → Prop) (ad : Nat → Nat) (cA : Nat → ClassId) (N : Nat) (rc : Int32 → Int32 → SX → Option (Int32 × SX)) (d : Nat) (h : jx_ok K D clX (tysX cA) A 11 b_Exchange_put y_Exchange_put.cls ((Cond.code y_Exchange_put b_Exchange_put 11 (some .int)) :: tblG) (rX_rec29 (d + 1)) (some .int)) (hrc : ∀ (x1 x2 : Int32) (σ : SX) (r : Int32) (σ' : SX), rc x1 x2 σ = some (r, σ') → MetI (jl K) y_Exchange_put ((Cond.code y_Exchange_put b_Exchange_put 11 (some .int)) :: tblG) (rX_rec29 d) D clX (tysX cA) (wX ad cA) [.ref (ad 25), .int x1, .int x2] σ r σ') : ∀ (v1 : Int32) (s0 : Int32) (σ : SX), J K D clX A 11 (wX ad cA) (jx_Qi K D clX (tysX cA) (wX ad cA) A) 0 0 294 [(0, .ref (ad 25)), (1, .int v1)] [.int s0] σ (X_Exchange_put_b294 N rc v1 s0 σ) := by
  intro v1 s0 σ
  rw [X_Exchange_put_b294]
  refine J_istore (lv' := [(8, .int s0), (0, .ref (ad 25)), (1, .int v1)]) h d_Exchange_put_294 (by decide) rfl ?_
  refine J_goto (tgt := 374) h d_Exchange_put_296 (by decide) ?_
  refine J_sub [1, 2, 0] rfl ?_
  exact J_X_Exchange_put_b374 K D A ad cA N rc d h hrc v1 s0 σ
def X_Exchange_put_b257 (N : Nat) (rc : Int32 → Int32 → SX → Option (Int32 × SX)) (v1 : Int32) (v2 : Int32) (v4 : Int32) (v5 : Int32) (v6 : Int32) (σ : SX) : Option (Int32 × SX) := (bd (rc v5 (v2 + 1) σ) (fun (r21 : Int32) (σ22 : SX) => (if r21 = (-3) then (X_Exchange_put_b294 N rc v1 (-3) σ22) else (bd (X_Types_make N v4 r21 v6 (-1) σ22) (fun (r23 : Int32) (σ24 : SX) => (X_Exchange_put_b294 N rc v1 r23 σ24))))))
set_option maxRecDepth 100000 in
set_option maxHeartbeats 4000000 in
theorem J_X_Exchange_put_b257 (K : jx_E) (D : va_G) (A : Nat → Prop) (ad : Nat → Nat) (cA : Nat → ClassId) (N : Nat) (rc : Int32 → Int32 → SX → Option (Int32 × SX)) (d : Nat) (h : jx_ok K D clX (tysX cA) A 11 b_Exchange_put y_Exchange_put.cls ((Cond.code y_Exchange_put b_Exchange_put 11 (some .int)) :: tblG) (rX_rec29 (d + 1)) (some .int)) (hrc : ∀ (x1 x2 : Int32) (σ : SX) (r : Int32) (σ' : SX), rc x1 x2 σ = some (r, σ') → MetI (jl K) y_Exchange_put ((Cond.code y_Exchange_put b_Exchange_put 11 (some .int)) :: tblG) (rX_rec29 d) D clX (tysX cA) (wX ad cA) [.ref (ad 25), .int x1, .int x2] σ r σ') : ∀ (v1 : Int32) (v2 : Int32) (v4 : Int32) (v5 : Int32) (v6 : Int32) (σ : SX), J K D clX A 11 (wX ad cA) (jx_Qi K D clX (tysX cA) (wX ad cA) A) 0 0 257 [(0, .ref (ad 25)), (1, .int v1), (2, .int v2), (4, .int v4), (5, .int v5), (6, .int v6)] [] σ (X_Exchange_put_b257 N rc v1 v2 v4 v5 v6 σ) := by
  intro v1 v2 v4 v5 v6 σ
  rw [X_Exchange_put_b257]
  refine J_aload_n (q := 0) h d_Exchange_put_257 rfl rfl ?_
  refine J_iload (q := 4) h d_Exchange_put_258 rfl ?_
  refine J_iload_n (q := 2) h d_Exchange_put_260 rfl rfl ?_
  refine J_iconst (v := 1) h d_Exchange_put_261 (by decide) ?_
  refine J_iadd h d_Exchange_put_262 ?_
  refine J_callVi (As := [.int v5, .int (v2 + 1)]) (st := []) (rmc := (rX_rec29 d)) (q0 := 25) h (fun _ _ hf => hrc v5 (v2 + 1) σ _ _ hf) (gd_V q_3_88 q_3_77 q_3_78 q_1_6 q_3_79) rfl ⟨rfl, rfl⟩ dd_Exchange_put ⟨by simp only [rX_rec29]; omega, by simp only [rX_rec29]; omega⟩ rfl rfl (wX_25 ad cA σ) rfl rfl (Nat.le_of_ble_eq_true rfl) ⟨Nat.zero_le _, Nat.zero_le _⟩ d_Exchange_put_263 (fun r21 σ22 => ?_)
  refine J_istore (lv' := [(9, .int r21), (0, .ref (ad 25)), (1, .int v1), (2, .int v2), (4, .int v4), (5, .int v5), (6, .int v6)]) h d_Exchange_put_266 (by decide) rfl ?_
  refine J_iload (q := 0) h d_Exchange_put_268 rfl ?_
  refine J_bipush (v := (-3)) h d_Exchange_put_270 (by decide) ?_
  refine J_icmp_ne (tgt := 280) h d_Exchange_put_272 (by decide) ?_ ?_
  · refine J_bipush (v := (-3)) h d_Exchange_put_275 (by decide) ?_
    refine J_goto (tgt := 294) h d_Exchange_put_277 (by decide) ?_
    refine J_sub [1, 2] rfl ?_
    exact J_X_Exchange_put_b294 K D A ad cA N rc d h hrc v1 (-3) σ22
  · refine J_aload_n (q := 1) h d_Exchange_put_280 rfl rfl ?_
    refine J_getf h 25 (wX_25 ad cA σ22) (tb_ups in_Exchange) rfl 0 (by decide) (tb_up q_1_130) rfl d_Exchange_put_281 ?_
    refine J_iload (q := 4) h d_Exchange_put_284 rfl ?_
    refine J_iload (q := 0) h d_Exchange_put_286 rfl ?_
    refine J_iload (q := 6) h d_Exchange_put_288 rfl ?_
    refine J_iconst (v := (-1)) h d_Exchange_put_290 (by decide) ?_
    refine J_callVi (As := [.int v4, .int r21, .int v6, .int (-1)]) (st := []) (rmc := rX_Types_make) (q0 := 7) h (fun _ _ hf => cX_Types_make (jl K) D ad cA N v4 r21 v6 (-1) σ22 _ _ hf) (gd_V q_3_87 q_2_173 q_2_174 q_1_3 q_2_175) rfl ⟨rfl, rfl⟩ dd_Types_make ⟨by simp only [rX_rec29, rX_Types_make]; omega, by simp only [rX_rec29, rX_Types_make]; omega⟩ rfl rfl (wX_7 ad cA σ22) rfl rfl (Nat.le_of_ble_eq_true rfl) ⟨Nat.zero_le _, Nat.zero_le _⟩ d_Exchange_put_291 (fun r23 σ24 => ?_)
    refine J_sub [1, 2] rfl ?_
    exact J_X_Exchange_put_b294 K D A ad cA N rc d h hrc v1 r23 σ24
def X_Exchange_put_b372 (N : Nat) (rc : Int32 → Int32 → SX → Option (Int32 × SX)) (v1 : Int32) (s0 : Int32) (σ : SX) : Option (Int32 × SX) := (X_Exchange_put_b374 N rc v1 s0 σ)
set_option maxRecDepth 100000 in
set_option maxHeartbeats 4000000 in
theorem J_X_Exchange_put_b372 (K : jx_E) (D : va_G) (A : Nat → Prop) (ad : Nat → Nat) (cA : Nat → ClassId) (N : Nat) (rc : Int32 → Int32 → SX → Option (Int32 × SX)) (d : Nat) (h : jx_ok K D clX (tysX cA) A 11 b_Exchange_put y_Exchange_put.cls ((Cond.code y_Exchange_put b_Exchange_put 11 (some .int)) :: tblG) (rX_rec29 (d + 1)) (some .int)) (hrc : ∀ (x1 x2 : Int32) (σ : SX) (r : Int32) (σ' : SX), rc x1 x2 σ = some (r, σ') → MetI (jl K) y_Exchange_put ((Cond.code y_Exchange_put b_Exchange_put 11 (some .int)) :: tblG) (rX_rec29 d) D clX (tysX cA) (wX ad cA) [.ref (ad 25), .int x1, .int x2] σ r σ') : ∀ (v1 : Int32) (s0 : Int32) (σ : SX), J K D clX A 11 (wX ad cA) (jx_Qi K D clX (tysX cA) (wX ad cA) A) 0 0 372 [(0, .ref (ad 25)), (1, .int v1)] [.int s0] σ (X_Exchange_put_b372 N rc v1 s0 σ) := by
  intro v1 s0 σ
  rw [X_Exchange_put_b372]
  refine J_istore (lv' := [(8, .int s0), (0, .ref (ad 25)), (1, .int v1)]) h d_Exchange_put_372 (by decide) rfl ?_
  refine J_sub [1, 2, 0] rfl ?_
  exact J_X_Exchange_put_b374 K D A ad cA N rc d h hrc v1 s0 σ
def X_Exchange_put_b343 (N : Nat) (rc : Int32 → Int32 → SX → Option (Int32 × SX)) (v1 : Int32) (v4 : Int32) (v5 : Int32) (v9 : Int32) (s0 : Int32) (σ : SX) : Option (Int32 × SX) := (if s0 = (-3) then (X_Exchange_put_b372 N rc v1 (-3) σ) else (bd (X_Types_make N v4 v5 v9 s0 σ) (fun (r27 : Int32) (σ28 : SX) => (X_Exchange_put_b372 N rc v1 r27 σ28))))
set_option maxRecDepth 100000 in
set_option maxHeartbeats 4000000 in
theorem J_X_Exchange_put_b343 (K : jx_E) (D : va_G) (A : Nat → Prop) (ad : Nat → Nat) (cA : Nat → ClassId) (N : Nat) (rc : Int32 → Int32 → SX → Option (Int32 × SX)) (d : Nat) (h : jx_ok K D clX (tysX cA) A 11 b_Exchange_put y_Exchange_put.cls ((Cond.code y_Exchange_put b_Exchange_put 11 (some .int)) :: tblG) (rX_rec29 (d + 1)) (some .int)) (hrc : ∀ (x1 x2 : Int32) (σ : SX) (r : Int32) (σ' : SX), rc x1 x2 σ = some (r, σ') → MetI (jl K) y_Exchange_put ((Cond.code y_Exchange_put b_Exchange_put 11 (some .int)) :: tblG) (rX_rec29 d) D clX (tysX cA) (wX ad cA) [.ref (ad 25), .int x1, .int x2] σ r σ') : ∀ (v1 : Int32) (v4 : Int32) (v5 : Int32) (v9 : Int32) (s0 : Int32) (σ : SX), J K D clX A 11 (wX ad cA) (jx_Qi K D clX (tysX cA) (wX ad cA) A) 0 0 343 [(0, .ref (ad 25)), (1, .int v1), (4, .int v4), (5, .int v5), (9, .int v9)] [.int s0] σ (X_Exchange_put_b343 N rc v1 v4 v5 v9 s0 σ) := by
  intro v1 v4 v5 v9 s0 σ
  rw [X_Exchange_put_b343]
  refine J_istore (lv' := [(10, .int s0), (0, .ref (ad 25)), (1, .int v1), (4, .int v4), (5, .int v5), (9, .int v9)]) h d_Exchange_put_343 (by decide) rfl ?_
  refine J_iload (q := 0) h d_Exchange_put_345 rfl ?_
  refine J_bipush (v := (-3)) h d_Exchange_put_347 (by decide) ?_
  refine J_icmp_ne (tgt := 357) h d_Exchange_put_349 (by decide) ?_ ?_
  · refine J_bipush (v := (-3)) h d_Exchange_put_352 (by decide) ?_
    refine J_goto (tgt := 372) h d_Exchange_put_354 (by decide) ?_
    refine J_sub [1, 2] rfl ?_
    exact J_X_Exchange_put_b372 K D A ad cA N rc d h hrc v1 (-3) σ
  · refine J_aload_n (q := 1) h d_Exchange_put_357 rfl rfl ?_
    refine J_getf h 25 (wX_25 ad cA σ) (tb_ups in_Exchange) rfl 0 (by decide) (tb_up q_1_130) rfl d_Exchange_put_358 ?_
    refine J_iload (q := 3) h d_Exchange_put_361 rfl ?_
    refine J_iload (q := 4) h d_Exchange_put_363 rfl ?_
    refine J_iload (q := 5) h d_Exchange_put_365 rfl ?_
    refine J_iload (q := 0) h d_Exchange_put_367 rfl ?_
    refine J_callVi (As := [.int v4, .int v5, .int v9, .int s0]) (st := []) (rmc := rX_Types_make) (q0 := 7) h (fun _ _ hf => cX_Types_make (jl K) D ad cA N v4 v5 v9 s0 σ _ _ hf) (gd_V q_3_87 q_2_173 q_2_174 q_1_3 q_2_175) rfl ⟨rfl, rfl⟩ dd_Types_make ⟨by simp only [rX_rec29, rX_Types_make]; omega, by simp only [rX_rec29, rX_Types_make]; omega⟩ rfl rfl (wX_7 ad cA σ) rfl rfl (Nat.le_of_ble_eq_true rfl) ⟨Nat.zero_le _, Nat.zero_le _⟩ d_Exchange_put_369 (fun r27 σ28 => ?_)
    refine J_sub [1, 2] rfl ?_
    exact J_X_Exchange_put_b372 K D A ad cA N rc d h hrc v1 r27 σ28
def X_Exchange_put_b311 (N : Nat) (rc : Int32 → Int32 → SX → Option (Int32 × SX)) (v1 : Int32) (v2 : Int32) (v4 : Int32) (v5 : Int32) (v6 : Int32) (v7 : Int32) (σ : SX) : Option (Int32 × SX) := (bd (rc v6 (v2 + 1) σ) (fun (r25 : Int32) (σ26 : SX) => (if r25 = (-3) then (X_Exchange_put_b343 N rc v1 v4 v5 r25 (-3) σ26) else (bd (rc v7 (v2 + 1) σ26) (fun (r29 : Int32) (σ30 : SX) => (X_Exchange_put_b343 N rc v1 v4 v5 r25 r29 σ30))))))
set_option maxRecDepth 100000 in
set_option maxHeartbeats 4000000 in
theorem J_X_Exchange_put_b311 (K : jx_E) (D : va_G) (A : Nat → Prop) (ad : Nat → Nat) (cA : Nat → ClassId) (N : Nat) (rc : Int32 → Int32 → SX → Option (Int32 × SX)) (d : Nat) (h : jx_ok K D clX (tysX cA) A 11 b_Exchange_put y_Exchange_put.cls ((Cond.code y_Exchange_put b_Exchange_put 11 (some .int)) :: tblG) (rX_rec29 (d + 1)) (some .int)) (hrc : ∀ (x1 x2 : Int32) (σ : SX) (r : Int32) (σ' : SX), rc x1 x2 σ = some (r, σ') → MetI (jl K) y_Exchange_put ((Cond.code y_Exchange_put b_Exchange_put 11 (some .int)) :: tblG) (rX_rec29 d) D clX (tysX cA) (wX ad cA) [.ref (ad 25), .int x1, .int x2] σ r σ') : ∀ (v1 : Int32) (v2 : Int32) (v4 : Int32) (v5 : Int32) (v6 : Int32) (v7 : Int32) (σ : SX), J K D clX A 11 (wX ad cA) (jx_Qi K D clX (tysX cA) (wX ad cA) A) 0 0 311 [(0, .ref (ad 25)), (1, .int v1), (2, .int v2), (4, .int v4), (5, .int v5), (6, .int v6), (7, .int v7)] [] σ (X_Exchange_put_b311 N rc v1 v2 v4 v5 v6 v7 σ) := by
  intro v1 v2 v4 v5 v6 v7 σ
  rw [X_Exchange_put_b311]
  refine J_aload_n (q := 0) h d_Exchange_put_311 rfl rfl ?_
  refine J_iload (q := 5) h d_Exchange_put_312 rfl ?_
  refine J_iload_n (q := 2) h d_Exchange_put_314 rfl rfl ?_
  refine J_iconst (v := 1) h d_Exchange_put_315 (by decide) ?_
  refine J_iadd h d_Exchange_put_316 ?_
  refine J_callVi (As := [.int v6, .int (v2 + 1)]) (st := []) (rmc := (rX_rec29 d)) (q0 := 25) h (fun _ _ hf => hrc v6 (v2 + 1) σ _ _ hf) (gd_V q_3_88 q_3_77 q_3_78 q_1_6 q_3_79) rfl ⟨rfl, rfl⟩ dd_Exchange_put ⟨by simp only [rX_rec29]; omega, by simp only [rX_rec29]; omega⟩ rfl rfl (wX_25 ad cA σ) rfl rfl (Nat.le_of_ble_eq_true rfl) ⟨Nat.zero_le _, Nat.zero_le _⟩ d_Exchange_put_317 (fun r25 σ26 => ?_)
  refine J_istore (lv' := [(9, .int r25), (0, .ref (ad 25)), (1, .int v1), (2, .int v2), (4, .int v4), (5, .int v5), (6, .int v6), (7, .int v7)]) h d_Exchange_put_320 (by decide) rfl ?_
  refine J_iload (q := 0) h d_Exchange_put_322 rfl ?_
  refine J_bipush (v := (-3)) h d_Exchange_put_324 (by decide) ?_
  refine J_icmp_ne (tgt := 334) h d_Exchange_put_326 (by decide) ?_ ?_
  · refine J_bipush (v := (-3)) h d_Exchange_put_329 (by decide) ?_
    refine J_goto (tgt := 343) h d_Exchange_put_331 (by decide) ?_
    refine J_sub [1, 2, 4, 5, 0] rfl ?_
    exact J_X_Exchange_put_b343 K D A ad cA N rc d h hrc v1 v4 v5 r25 (-3) σ26
  · refine J_aload_n (q := 1) h d_Exchange_put_334 rfl rfl ?_
    refine J_iload (q := 7) h d_Exchange_put_335 rfl ?_
    refine J_iload_n (q := 3) h d_Exchange_put_337 rfl rfl ?_
    refine J_iconst (v := 1) h d_Exchange_put_338 (by decide) ?_
    refine J_iadd h d_Exchange_put_339 ?_
    refine J_callVi (As := [.int v7, .int (v2 + 1)]) (st := []) (rmc := (rX_rec29 d)) (q0 := 25) h (fun _ _ hf => hrc v7 (v2 + 1) σ26 _ _ hf) (gd_V q_3_88 q_3_77 q_3_78 q_1_6 q_3_79) rfl ⟨rfl, rfl⟩ dd_Exchange_put ⟨by simp only [rX_rec29]; omega, by simp only [rX_rec29]; omega⟩ rfl rfl (wX_25 ad cA σ26) rfl rfl (Nat.le_of_ble_eq_true rfl) ⟨Nat.zero_le _, Nat.zero_le _⟩ d_Exchange_put_340 (fun r29 σ30 => ?_)
    refine J_sub [1, 2, 4, 5, 0] rfl ?_
    exact J_X_Exchange_put_b343 K D A ad cA N rc d h hrc v1 v4 v5 r25 r29 σ30
def X_Exchange_put_b244 (N : Nat) (rc : Int32 → Int32 → SX → Option (Int32 × SX)) (v1 : Int32) (v2 : Int32) (v4 : Int32) (v5 : Int32) (v6 : Int32) (v7 : Int32) (v8 : Int32) (σ : SX) : Option (Int32 × SX) := (if v4 = 4 then (X_Exchange_put_b257 N rc v1 v2 v4 v5 v6 σ) else (if v4 = 8 then (X_Exchange_put_b257 N rc v1 v2 v4 v5 v6 σ) else (if v4 = 2 then (X_Exchange_put_b311 N rc v1 v2 v4 v5 v6 v7 σ) else (if v4 = 1 then (X_Exchange_put_b311 N rc v1 v2 v4 v5 v6 v7 σ) else (X_Exchange_put_b374 N rc v1 v8 σ)))))
set_option maxRecDepth 100000 in
set_option maxHeartbeats 4000000 in
theorem J_X_Exchange_put_b244 (K : jx_E) (D : va_G) (A : Nat → Prop) (ad : Nat → Nat) (cA : Nat → ClassId) (N : Nat) (rc : Int32 → Int32 → SX → Option (Int32 × SX)) (d : Nat) (h : jx_ok K D clX (tysX cA) A 11 b_Exchange_put y_Exchange_put.cls ((Cond.code y_Exchange_put b_Exchange_put 11 (some .int)) :: tblG) (rX_rec29 (d + 1)) (some .int)) (hrc : ∀ (x1 x2 : Int32) (σ : SX) (r : Int32) (σ' : SX), rc x1 x2 σ = some (r, σ') → MetI (jl K) y_Exchange_put ((Cond.code y_Exchange_put b_Exchange_put 11 (some .int)) :: tblG) (rX_rec29 d) D clX (tysX cA) (wX ad cA) [.ref (ad 25), .int x1, .int x2] σ r σ') : ∀ (v1 : Int32) (v2 : Int32) (v4 : Int32) (v5 : Int32) (v6 : Int32) (v7 : Int32) (v8 : Int32) (σ : SX), J K D clX A 11 (wX ad cA) (jx_Qi K D clX (tysX cA) (wX ad cA) A) 0 0 244 [(0, .ref (ad 25)), (1, .int v1), (2, .int v2), (4, .int v4), (5, .int v5), (6, .int v6), (7, .int v7), (8, .int v8)] [] σ (X_Exchange_put_b244 N rc v1 v2 v4 v5 v6 v7 v8 σ) := by
  intro v1 v2 v4 v5 v6 v7 v8 σ
  rw [X_Exchange_put_b244]
  refine J_iload (q := 3) h d_Exchange_put_244 rfl ?_
  refine J_iconst (v := 4) h d_Exchange_put_246 (by decide) ?_
  refine J_icmp_eq (tgt := 257) h d_Exchange_put_247 (by decide) ?_ ?_
  · refine J_sub [0, 1, 2, 3, 4, 5] rfl ?_
    exact J_X_Exchange_put_b257 K D A ad cA N rc d h hrc v1 v2 v4 v5 v6 σ
  · refine J_iload (q := 3) h d_Exchange_put_250 rfl ?_
    refine J_bipush (v := 8) h d_Exchange_put_252 (by decide) ?_
    refine J_icmp_ne (tgt := 299) h d_Exchange_put_254 (by decide) ?_ ?_
    · refine J_sub [0, 1, 2, 3, 4, 5] rfl ?_
      exact J_X_Exchange_put_b257 K D A ad cA N rc d h hrc v1 v2 v4 v5 v6 σ
    · refine J_iload (q := 3) h d_Exchange_put_299 rfl ?_
      refine J_iconst (v := 2) h d_Exchange_put_301 (by decide) ?_
      refine J_icmp_eq (tgt := 311) h d_Exchange_put_302 (by decide) ?_ ?_
      · refine J_sub [0, 1, 2, 3, 4, 5, 6] rfl ?_
        exact J_X_Exchange_put_b311 K D A ad cA N rc d h hrc v1 v2 v4 v5 v6 v7 σ
      · refine J_iload (q := 3) h d_Exchange_put_305 rfl ?_
        refine J_iconst (v := 1) h d_Exchange_put_307 (by decide) ?_
        refine J_icmp_ne (tgt := 374) h d_Exchange_put_308 (by decide) ?_ ?_
        · refine J_sub [0, 1, 2, 3, 4, 5, 6] rfl ?_
          exact J_X_Exchange_put_b311 K D A ad cA N rc d h hrc v1 v2 v4 v5 v6 v7 σ
        · refine J_sub [0, 1, 7] rfl ?_
          exact J_X_Exchange_put_b374 K D A ad cA N rc d h hrc v1 v8 σ
def X_Exchange_put_b173 (N : Nat) (rc : Int32 → Int32 → SX → Option (Int32 × SX)) (v1 : Int32) (v2 : Int32) (v4 : Int32) (v5 : Int32) (v6 : Int32) (v7 : Int32) (v8 : Int32) (σ : SX) : Option (Int32 × SX) := (if v4 = 3 then (bd (X_Types_firstOf (gX_Exchange_owner σ) σ) (fun (r11 : Int32) (σ12 : SX) => (if v5 = r11 then (bd (X_Types_argumentOf (gX_Exchange_owner σ12) v6 σ12) (fun (r13 : Int32) (σ14 : SX) => (bd (X_Types_kindOf r13 σ14) (fun (r15 : Int32) (σ16 : SX) => (if r15 = 2 then (bd (X_Types_make N 8 (gX_Exchange_owner σ16) v6 (-1) σ16) (fun (r17 : Int32) (σ18 : SX) => (X_Exchange_put_b374 N rc v1 r17 σ18))) else (X_Exchange_put_b374 N rc v1 r13 σ16)))))) else (X_Exchange_put_b244 N rc v1 v2 v4 v5 v6 v7 v8 σ12)))) else (X_Exchange_put_b244 N rc v1 v2 v4 v5 v6 v7 v8 σ))
set_option maxRecDepth 100000 in
set_option maxHeartbeats 4000000 in
theorem J_X_Exchange_put_b173 (K : jx_E) (D : va_G) (A : Nat → Prop) (ad : Nat → Nat) (cA : Nat → ClassId) (N : Nat) (rc : Int32 → Int32 → SX → Option (Int32 × SX)) (d : Nat) (h : jx_ok K D clX (tysX cA) A 11 b_Exchange_put y_Exchange_put.cls ((Cond.code y_Exchange_put b_Exchange_put 11 (some .int)) :: tblG) (rX_rec29 (d + 1)) (some .int)) (hrc : ∀ (x1 x2 : Int32) (σ : SX) (r : Int32) (σ' : SX), rc x1 x2 σ = some (r, σ') → MetI (jl K) y_Exchange_put ((Cond.code y_Exchange_put b_Exchange_put 11 (some .int)) :: tblG) (rX_rec29 d) D clX (tysX cA) (wX ad cA) [.ref (ad 25), .int x1, .int x2] σ r σ') : ∀ (v1 : Int32) (v2 : Int32) (v4 : Int32) (v5 : Int32) (v6 : Int32) (v7 : Int32) (v8 : Int32) (σ : SX), J K D clX A 11 (wX ad cA) (jx_Qi K D clX (tysX cA) (wX ad cA) A) 0 0 173 [(0, .ref (ad 25)), (1, .int v1), (2, .int v2), (4, .int v4), (5, .int v5), (6, .int v6), (7, .int v7), (8, .int v8)] [] σ (X_Exchange_put_b173 N rc v1 v2 v4 v5 v6 v7 v8 σ) := by
  intro v1 v2 v4 v5 v6 v7 v8 σ
  rw [X_Exchange_put_b173]
  refine J_iload (q := 3) h d_Exchange_put_173 rfl ?_
  refine J_iconst (v := 3) h d_Exchange_put_175 (by decide) ?_
  refine J_icmp_ne (tgt := 244) h d_Exchange_put_176 (by decide) ?_ ?_
  · refine J_iload (q := 4) h d_Exchange_put_179 rfl ?_
    refine J_aload_n (q := 0) h d_Exchange_put_181 rfl rfl ?_
    refine J_getf h 25 (wX_25 ad cA σ) (tb_ups in_Exchange) rfl 0 (by decide) (tb_up q_1_130) rfl d_Exchange_put_182 ?_
    refine J_aload_n (q := 0) h d_Exchange_put_185 rfl rfl ?_
    refine J_getf h 25 (wX_25 ad cA σ) (tb_ups in_Exchange) rfl 6 (by decide) (tb_up q_1_136) rfl d_Exchange_put_186 ?_
    refine J_callVi (As := [.int (gX_Exchange_owner σ)]) (st := [.int v5]) (rmc := rX_Types_firstOf) (q0 := 7) h (fun _ _ hf => cX_Types_firstOf (jl K) D ad cA (gX_Exchange_owner σ) σ _ _ hf) (gd_V q_3_83 q_2_131 q_2_132 q_1_3 q_2_133) rfl ⟨rfl, rfl⟩ dd_Types_firstOf ⟨by simp only [rX_rec29, rX_Types_firstOf]; omega, by simp only [rX_rec29, rX_Types_firstOf]; omega⟩ rfl rfl (wX_7 ad cA σ) rfl rfl (Nat.le_of_ble_eq_true rfl) ⟨Nat.zero_le _, Nat.zero_le _⟩ d_Exchange_put_189 (fun r11 σ12 => ?_)
    refine J_icmp_ne (tgt := 244) h d_Exchange_put_192 (by decide) ?_ ?_
    · refine J_aload_n (q := 0) h d_Exchange_put_195 rfl rfl ?_
      refine J_getf h 25 (wX_25 ad cA σ12) (tb_ups in_Exchange) rfl 0 (by decide) (tb_up q_1_130) rfl d_Exchange_put_196 ?_
      refine J_aload_n (q := 0) h d_Exchange_put_199 rfl rfl ?_
      refine J_getf h 25 (wX_25 ad cA σ12) (tb_ups in_Exchange) rfl 6 (by decide) (tb_up q_1_136) rfl d_Exchange_put_200 ?_
      refine J_iload (q := 5) h d_Exchange_put_203 rfl ?_
      refine J_callVi (As := [.int (gX_Exchange_owner σ12), .int v6]) (st := []) (rmc := rX_Types_argumentOf) (q0 := 7) h (fun _ _ hf => cX_Types_argumentOf (jl K) D ad cA (gX_Exchange_owner σ12) v6 σ12 _ _ hf) (gd_V q_3_86 q_3_55 q_3_56 q_1_3 q_3_57) rfl ⟨rfl, rfl⟩ dd_Types_argumentOf ⟨by simp only [rX_rec29, rX_Types_argumentOf]; omega, by simp only [rX_rec29, rX_Types_argumentOf]; omega⟩ rfl rfl (wX_7 ad cA σ12) rfl rfl (Nat.le_of_ble_eq_true rfl) ⟨Nat.zero_le _, Nat.zero_le _⟩ d_Exchange_put_205 (fun r13 σ14 => ?_)
      refine J_istore (lv' := [(8, .int r13), (0, .ref (ad 25)), (1, .int v1), (2, .int v2), (4, .int v4), (5, .int v5), (6, .int v6), (7, .int v7)]) h d_Exchange_put_208 (by decide) rfl ?_
      refine J_aload_n (q := 1) h d_Exchange_put_210 rfl rfl ?_
      refine J_getf h 25 (wX_25 ad cA σ14) (tb_ups in_Exchange) rfl 0 (by decide) (tb_up q_1_130) rfl d_Exchange_put_211 ?_
      refine J_iload (q := 0) h d_Exchange_put_214 rfl ?_
      refine J_callVi (As := [.int r13]) (st := []) (rmc := rX_Types_kindOf) (q0 := 7) h (fun _ _ hf => cX_Types_kindOf (jl K) D ad cA r13 σ14 _ _ hf) (gd_V q_3_82 q_2_127 q_2_128 q_1_3 q_2_129) rfl ⟨rfl, rfl⟩ dd_Types_kindOf ⟨by simp only [rX_rec29, rX_Types_kindOf]; omega, by simp only [rX_rec29, rX_Types_kindOf]; omega⟩ rfl rfl (wX_7 ad cA σ14) rfl rfl (Nat.le_of_ble_eq_true rfl) ⟨Nat.zero_le _, Nat.zero_le _⟩ d_Exchange_put_216 (fun r15 σ16 => ?_)
      refine J_iconst (v := 2) h d_Exchange_put_219 (by decide) ?_
      refine J_icmp_ne (tgt := 374) h d_Exchange_put_220 (by decide) ?_ ?_
      · refine J_aload_n (q := 1) h d_Exchange_put_223 rfl rfl ?_
        refine J_getf h 25 (wX_25 ad cA σ16) (tb_ups in_Exchange) rfl 0 (by decide) (tb_up q_1_130) rfl d_Exchange_put_224 ?_
        refine J_bipush (v := 8) h d_Exchange_put_227 (by decide) ?_
        refine J_aload_n (q := 1) h d_Exchange_put_229 rfl rfl ?_
        refine J_getf h 25 (wX_25 ad cA σ16) (tb_ups in_Exchange) rfl 6 (by decide) (tb_up q_1_136) rfl d_Exchange_put_230 ?_
        refine J_iload (q := 6) h d_Exchange_put_233 rfl ?_
        refine J_iconst (v := (-1)) h d_Exchange_put_235 (by decide) ?_
        refine J_callVi (As := [.int 8, .int (gX_Exchange_owner σ16), .int v6, .int (-1)]) (st := []) (rmc := rX_Types_make) (q0 := 7) h (fun _ _ hf => cX_Types_make (jl K) D ad cA N 8 (gX_Exchange_owner σ16) v6 (-1) σ16 _ _ hf) (gd_V q_3_87 q_2_173 q_2_174 q_1_3 q_2_175) rfl ⟨rfl, rfl⟩ dd_Types_make ⟨by simp only [rX_rec29, rX_Types_make]; omega, by simp only [rX_rec29, rX_Types_make]; omega⟩ rfl rfl (wX_7 ad cA σ16) rfl rfl (Nat.le_of_ble_eq_true rfl) ⟨Nat.zero_le _, Nat.zero_le _⟩ d_Exchange_put_236 (fun r17 σ18 => ?_)
        refine J_istore (lv' := [(8, .int r17), (0, .ref (ad 25)), (1, .int v1), (2, .int v2), (4, .int v4), (5, .int v5), (6, .int v6), (7, .int v7)]) h d_Exchange_put_239 (by decide) rfl ?_
        refine J_goto (tgt := 374) h d_Exchange_put_241 (by decide) ?_
        refine J_sub [1, 2, 0] rfl ?_
        exact J_X_Exchange_put_b374 K D A ad cA N rc d h hrc v1 r17 σ18
      · refine J_sub [1, 2, 0] rfl ?_
        exact J_X_Exchange_put_b374 K D A ad cA N rc d h hrc v1 r13 σ16
    · exact J_X_Exchange_put_b244 K D A ad cA N rc d h hrc v1 v2 v4 v5 v6 v7 v8 σ12
  · exact J_X_Exchange_put_b244 K D A ad cA N rc d h hrc v1 v2 v4 v5 v6 v7 v8 σ
def X_Exchange_put_b63 (N : Nat) (rc : Int32 → Int32 → SX → Option (Int32 × SX)) (v1 : Int32) (v2 : Int32) (s0 : Int32) (σ : SX) : Option (Int32 × SX) := (if s0 = 0 then (some (v1, σ)) else (if v2 ≤ 20 then (if ck v1 500 = true then (if (aX_Exchange_doneAt σ v1.toNatClampNeg) = (gX_Exchange_stamp σ) then (if ck v1 500 = true then (some ((aX_Exchange_done σ v1.toNatClampNeg), σ)) else none) else (bd (X_Types_kindOf v1 σ) (fun (r3 : Int32) (σ4 : SX) => (bd (X_Types_firstOf v1 σ4) (fun (r5 : Int32) (σ6 : SX) => (bd (X_Types_secondOf v1 σ6) (fun (r7 : Int32) (σ8 : SX) => (bd (X_Types_thirdOf v1 σ8) (fun (r9 : Int32) (σ10 : SX) => (if r3 = 7 then (if r5 < 0 then (X_Exchange_put_b173 N rc v1 v2 r3 r5 r7 r9 v1 σ10) else (if (12 : Int32) ≤ r5 then (X_Exchange_put_b173 N rc v1 v2 r3 r5 r7 r9 v1 σ10) else (if ck r5 12 = true then (nm ((aX_Exchange_instead σ10 r5.toNatClampNeg)) (fun (y31 : Int32) => (X_Exchange_put_b374 N rc v1 y31 σ10))) else none))) else (X_Exchange_put_b173 N rc v1 v2 r3 r5 r7 r9 v1 σ10))))))))))) else none) else (some ((-3), σ))))
set_option maxRecDepth 100000 in
set_option maxHeartbeats 4000000 in
theorem J_X_Exchange_put_b63 (K : jx_E) (D : va_G) (A : Nat → Prop) (ad : Nat → Nat) (cA : Nat → ClassId) (N : Nat) (rc : Int32 → Int32 → SX → Option (Int32 × SX)) (d : Nat) (h : jx_ok K D clX (tysX cA) A 11 b_Exchange_put y_Exchange_put.cls ((Cond.code y_Exchange_put b_Exchange_put 11 (some .int)) :: tblG) (rX_rec29 (d + 1)) (some .int)) (hrc : ∀ (x1 x2 : Int32) (σ : SX) (r : Int32) (σ' : SX), rc x1 x2 σ = some (r, σ') → MetI (jl K) y_Exchange_put ((Cond.code y_Exchange_put b_Exchange_put 11 (some .int)) :: tblG) (rX_rec29 d) D clX (tysX cA) (wX ad cA) [.ref (ad 25), .int x1, .int x2] σ r σ') : ∀ (v1 : Int32) (v2 : Int32) (s0 : Int32) (σ : SX), J K D clX A 11 (wX ad cA) (jx_Qi K D clX (tysX cA) (wX ad cA) A) 0 0 63 [(0, .ref (ad 25)), (1, .int v1), (2, .int v2)] [.int s0] σ (X_Exchange_put_b63 N rc v1 v2 s0 σ) := by
  intro v1 v2 s0 σ
  rw [X_Exchange_put_b63]
  refine J_istore_n (lv' := [(3, .int s0), (0, .ref (ad 25)), (1, .int v1), (2, .int v2)]) h d_Exchange_put_63 rfl (by decide) rfl ?_
  refine J_iload_n (q := 0) h d_Exchange_put_64 rfl rfl ?_
  refine J_if_ne (tgt := 70) h d_Exchange_put_65 (by decide) ?_ ?_
  · refine J_iload_n (q := 2) h d_Exchange_put_68 rfl rfl ?_
    exact J_iret h rfl d_Exchange_put_69
  · refine J_iload_n (q := 3) h d_Exchange_put_70 rfl rfl ?_
    refine J_bipush (v := 20) h d_Exchange_put_71 (by decide) ?_
    refine J_icmp_le (tgt := 79) h d_Exchange_put_73 (by decide) ?_ ?_
    · refine J_aload_n (q := 1) h d_Exchange_put_79 rfl rfl ?_
      refine J_getf h 25 (wX_25 ad cA σ) (tb_ups in_Exchange) rfl 3 (by decide) (tb_up q_1_133) rfl d_Exchange_put_80 ?_
      refine J_iload_n (q := 2) h d_Exchange_put_83 rfl rfl ?_
      refine J_iald h 28 23 (wX_28 ad cA σ) rfl d_Exchange_put_84 ?_
      refine J_aload_n (q := 1) h d_Exchange_put_85 rfl rfl ?_
      refine J_getf h 25 (wX_25 ad cA σ) (tb_ups in_Exchange) rfl 4 (by decide) (tb_up q_1_134) rfl d_Exchange_put_86 ?_
      refine J_icmp_ne (tgt := 99) h d_Exchange_put_89 (by decide) ?_ ?_
      · refine J_aload_n (q := 1) h d_Exchange_put_92 rfl rfl ?_
        refine J_getf h 25 (wX_25 ad cA σ) (tb_ups in_Exchange) rfl 2 (by decide) (tb_up q_1_132) rfl d_Exchange_put_93 ?_
        refine J_iload_n (q := 2) h d_Exchange_put_96 rfl rfl ?_
        refine J_iald h 27 22 (wX_27 ad cA σ) rfl d_Exchange_put_97 ?_
        exact J_iret h rfl d_Exchange_put_98
      · refine J_aload_n (q := 1) h d_Exchange_put_99 rfl rfl ?_
        refine J_getf h 25 (wX_25 ad cA σ) (tb_ups in_Exchange) rfl 0 (by decide) (tb_up q_1_130) rfl d_Exchange_put_100 ?_
        refine J_iload_n (q := 2) h d_Exchange_put_103 rfl rfl ?_
        refine J_callVi (As := [.int v1]) (st := []) (rmc := rX_Types_kindOf) (q0 := 7) h (fun _ _ hf => cX_Types_kindOf (jl K) D ad cA v1 σ _ _ hf) (gd_V q_3_82 q_2_127 q_2_128 q_1_3 q_2_129) rfl ⟨rfl, rfl⟩ dd_Types_kindOf ⟨by simp only [rX_rec29, rX_Types_kindOf]; omega, by simp only [rX_rec29, rX_Types_kindOf]; omega⟩ rfl rfl (wX_7 ad cA σ) rfl rfl (Nat.le_of_ble_eq_true rfl) ⟨Nat.zero_le _, Nat.zero_le _⟩ d_Exchange_put_104 (fun r3 σ4 => ?_)
        refine J_istore (lv' := [(4, .int r3), (3, .int s0), (0, .ref (ad 25)), (1, .int v1), (2, .int v2)]) h d_Exchange_put_107 (by decide) rfl ?_
        refine J_aload_n (q := 2) h d_Exchange_put_109 rfl rfl ?_
        refine J_getf h 25 (wX_25 ad cA σ4) (tb_ups in_Exchange) rfl 0 (by decide) (tb_up q_1_130) rfl d_Exchange_put_110 ?_
        refine J_iload_n (q := 3) h d_Exchange_put_113 rfl rfl ?_
        refine J_callVi (As := [.int v1]) (st := []) (rmc := rX_Types_firstOf) (q0 := 7) h (fun _ _ hf => cX_Types_firstOf (jl K) D ad cA v1 σ4 _ _ hf) (gd_V q_3_83 q_2_131 q_2_132 q_1_3 q_2_133) rfl ⟨rfl, rfl⟩ dd_Types_firstOf ⟨by simp only [rX_rec29, rX_Types_firstOf]; omega, by simp only [rX_rec29, rX_Types_firstOf]; omega⟩ rfl rfl (wX_7 ad cA σ4) rfl rfl (Nat.le_of_ble_eq_true rfl) ⟨Nat.zero_le _, Nat.zero_le _⟩ d_Exchange_put_114 (fun r5 σ6 => ?_)
        refine J_istore (lv' := [(5, .int r5), (4, .int r3), (3, .int s0), (0, .ref (ad 25)), (1, .int v1), (2, .int v2)]) h d_Exchange_put_117 (by decide) rfl ?_
        refine J_aload_n (q := 3) h d_Exchange_put_119 rfl rfl ?_
        refine J_getf h 25 (wX_25 ad cA σ6) (tb_ups in_Exchange) rfl 0 (by decide) (tb_up q_1_130) rfl d_Exchange_put_120 ?_
        refine J_iload_n (q := 4) h d_Exchange_put_123 rfl rfl ?_
        refine J_callVi (As := [.int v1]) (st := []) (rmc := rX_Types_secondOf) (q0 := 7) h (fun _ _ hf => cX_Types_secondOf (jl K) D ad cA v1 σ6 _ _ hf) (gd_V q_3_84 q_2_144 q_2_145 q_1_3 q_2_146) rfl ⟨rfl, rfl⟩ dd_Types_secondOf ⟨by simp only [rX_rec29, rX_Types_secondOf]; omega, by simp only [rX_rec29, rX_Types_secondOf]; omega⟩ rfl rfl (wX_7 ad cA σ6) rfl rfl (Nat.le_of_ble_eq_true rfl) ⟨Nat.zero_le _, Nat.zero_le _⟩ d_Exchange_put_124 (fun r7 σ8 => ?_)
        refine J_istore (lv' := [(6, .int r7), (5, .int r5), (4, .int r3), (3, .int s0), (0, .ref (ad 25)), (1, .int v1), (2, .int v2)]) h d_Exchange_put_127 (by decide) rfl ?_
        refine J_aload_n (q := 4) h d_Exchange_put_129 rfl rfl ?_
        refine J_getf h 25 (wX_25 ad cA σ8) (tb_ups in_Exchange) rfl 0 (by decide) (tb_up q_1_130) rfl d_Exchange_put_130 ?_
        refine J_iload_n (q := 5) h d_Exchange_put_133 rfl rfl ?_
        refine J_callVi (As := [.int v1]) (st := []) (rmc := rX_Types_thirdOf) (q0 := 7) h (fun _ _ hf => cX_Types_thirdOf (jl K) D ad cA v1 σ8 _ _ hf) (gd_V q_3_85 q_2_148 q_2_149 q_1_3 q_2_150) rfl ⟨rfl, rfl⟩ dd_Types_thirdOf ⟨by simp only [rX_rec29, rX_Types_thirdOf]; omega, by simp only [rX_rec29, rX_Types_thirdOf]; omega⟩ rfl rfl (wX_7 ad cA σ8) rfl rfl (Nat.le_of_ble_eq_true rfl) ⟨Nat.zero_le _, Nat.zero_le _⟩ d_Exchange_put_134 (fun r9 σ10 => ?_)
        refine J_istore (lv' := [(7, .int r9), (6, .int r7), (5, .int r5), (4, .int r3), (3, .int s0), (0, .ref (ad 25)), (1, .int v1), (2, .int v2)]) h d_Exchange_put_137 (by decide) rfl ?_
        refine J_iload_n (q := 6) h d_Exchange_put_139 rfl rfl ?_
        refine J_istore (lv' := [(8, .int v1), (7, .int r9), (6, .int r7), (5, .int r5), (4, .int r3), (3, .int s0), (0, .ref (ad 25)), (1, .int v1), (2, .int v2)]) h d_Exchange_put_140 (by decide) rfl ?_
        refine J_iload (q := 4) h d_Exchange_put_142 rfl ?_
        refine J_bipush (v := 7) h d_Exchange_put_144 (by decide) ?_
        refine J_icmp_ne (tgt := 173) h d_Exchange_put_146 (by decide) ?_ ?_
        · refine J_iload (q := 3) h d_Exchange_put_149 rfl ?_
          refine J_if_lt (tgt := 173) h d_Exchange_put_151 (by decide) ?_ ?_
          · refine J_sub [6, 7, 8, 4, 3, 2, 1, 0] rfl ?_
            exact J_X_Exchange_put_b173 K D A ad cA N rc d h hrc v1 v2 r3 r5 r7 r9 v1 σ10
          · refine J_iload (q := 3) h d_Exchange_put_154 rfl ?_
            refine J_bipush (v := 12) h d_Exchange_put_156 (by decide) ?_
            refine J_icmp_ge (tgt := 173) h d_Exchange_put_158 (by decide) ?_ ?_
            · refine J_sub [6, 7, 8, 4, 3, 2, 1, 0] rfl ?_
              exact J_X_Exchange_put_b173 K D A ad cA N rc d h hrc v1 v2 r3 r5 r7 r9 v1 σ10
            · refine J_aload_n (q := 6) h d_Exchange_put_161 rfl rfl ?_
              refine J_getf h 25 (wX_25 ad cA σ10) (tb_ups in_Exchange) rfl 1 (by decide) (tb_up q_1_131) rfl d_Exchange_put_162 ?_
              refine J_iload (q := 3) h d_Exchange_put_165 rfl ?_
              refine J_iald h 26 21 (wX_26 ad cA σ10) rfl d_Exchange_put_167 ?_
              refine J_nmi (fun y31 => ?_)
              refine J_istore (lv' := [(8, .int y31), (7, .int r9), (6, .int r7), (5, .int r5), (4, .int r3), (3, .int s0), (0, .ref (ad 25)), (1, .int v1), (2, .int v2)]) h d_Exchange_put_168 (by decide) rfl ?_
              refine J_goto (tgt := 374) h d_Exchange_put_170 (by decide) ?_
              refine J_sub [6, 7, 0] rfl ?_
              exact J_X_Exchange_put_b374 K D A ad cA N rc d h hrc v1 y31 σ10
        · refine J_sub [6, 7, 8, 4, 3, 2, 1, 0] rfl ?_
          exact J_X_Exchange_put_b173 K D A ad cA N rc d h hrc v1 v2 r3 r5 r7 r9 v1 σ10
    · refine J_bipush (v := (-3)) h d_Exchange_put_76 (by decide) ?_
      exact J_iret h rfl d_Exchange_put_78
def X_Exchange_put_body (N : Nat) (rc : Int32 → Int32 → SX → Option (Int32 × SX)) (x1 : Int32) (x2 : Int32) (σ : SX) : Option (Int32 × SX) := (if x1 < 0 then (some (x1, σ)) else (if x1 < 500 then (if (0 : Int32) ≤ (gX_Exchange_owner σ) then (bd (X_Types_ownersIn x1 (-1) σ) (fun (r1 : Int64) (σ2 : SX) => (if (lg_cmp r1 0) = 0 then (X_Exchange_put_b63 N rc x1 x2 0 σ2) else (X_Exchange_put_b63 N rc x1 x2 1 σ2)))) else (bd (X_Types_variablesIn x1 σ) (fun (r32 : Int32) (σ33 : SX) => (if (r32 &&& (gX_Exchange_variables σ33)) = 0 then (X_Exchange_put_b63 N rc x1 x2 0 σ33) else (X_Exchange_put_b63 N rc x1 x2 1 σ33))))) else (some (x1, σ))))
set_option maxRecDepth 100000 in
set_option maxHeartbeats 4000000 in
theorem J_X_Exchange_put_body (K : jx_E) (D : va_G) (A : Nat → Prop) (ad : Nat → Nat) (cA : Nat → ClassId) (N : Nat) (rc : Int32 → Int32 → SX → Option (Int32 × SX)) (d : Nat) (h : jx_ok K D clX (tysX cA) A 11 b_Exchange_put y_Exchange_put.cls ((Cond.code y_Exchange_put b_Exchange_put 11 (some .int)) :: tblG) (rX_rec29 (d + 1)) (some .int)) (hrc : ∀ (x1 x2 : Int32) (σ : SX) (r : Int32) (σ' : SX), rc x1 x2 σ = some (r, σ') → MetI (jl K) y_Exchange_put ((Cond.code y_Exchange_put b_Exchange_put 11 (some .int)) :: tblG) (rX_rec29 d) D clX (tysX cA) (wX ad cA) [.ref (ad 25), .int x1, .int x2] σ r σ') : ∀ (x1 : Int32) (x2 : Int32) (σ : SX), J K D clX A 11 (wX ad cA) (jx_Qi K D clX (tysX cA) (wX ad cA) A) 0 0 0 [(0, .ref (ad 25)), (1, .int x1), (2, .int x2)] [] σ (X_Exchange_put_body N rc x1 x2 σ) := by
  intro x1 x2 σ
  rw [X_Exchange_put_body]
  refine J_iload_n (q := 1) h d_Exchange_put_0 rfl rfl ?_
  refine J_if_lt (tgt := 11) h d_Exchange_put_1 (by decide) ?_ ?_
  · refine J_iload_n (q := 1) h d_Exchange_put_11 rfl rfl ?_
    exact J_iret h rfl d_Exchange_put_12
  · refine J_iload_n (q := 1) h d_Exchange_put_4 rfl rfl ?_
    refine J_sipush (v := 500) h d_Exchange_put_5 (by decide) ?_
    refine J_icmp_lt (tgt := 13) h d_Exchange_put_8 (by decide) ?_ ?_
    · refine J_aload_n (q := 0) h d_Exchange_put_13 rfl rfl ?_
      refine J_getf h 25 (wX_25 ad cA σ) (tb_ups in_Exchange) rfl 6 (by decide) (tb_up q_1_136) rfl d_Exchange_put_14 ?_
      refine J_if_ge (tgt := 44) h d_Exchange_put_17 (by decide) ?_ ?_
      · refine J_aload_n (q := 0) h d_Exchange_put_44 rfl rfl ?_
        refine J_getf h 25 (wX_25 ad cA σ) (tb_ups in_Exchange) rfl 0 (by decide) (tb_up q_1_130) rfl d_Exchange_put_45 ?_
        refine J_iload_n (q := 1) h d_Exchange_put_48 rfl rfl ?_
        refine J_iconst (v := (-1)) h d_Exchange_put_49 (by decide) ?_
        refine J_callVl (As := [.int x1, .int (-1)]) (st := []) (rmc := rX_Types_ownersIn) (q0 := 7) h (fun _ _ hf => cX_Types_ownersIn (jl K) D ad cA x1 (-1) σ _ _ hf) (gd_V q_3_81 q_2_156 q_2_157 q_1_3 q_2_158) rfl ⟨rfl, rfl⟩ dd_Types_ownersIn ⟨by simp only [rX_rec29, rX_Types_ownersIn]; omega, by simp only [rX_rec29, rX_Types_ownersIn]; omega⟩ rfl rfl (wX_7 ad cA σ) rfl rfl (Nat.le_of_ble_eq_true rfl) ⟨Nat.zero_le _, Nat.zero_le _⟩ d_Exchange_put_50 (fun r1 σ2 => ?_)
        refine J_lconst (v := 0) h d_Exchange_put_53 (by decide) ?_
        refine J_lcmp h d_Exchange_put_54 ?_
        refine J_if_eq (tgt := 62) h d_Exchange_put_55 (by decide) ?_ ?_
        · refine J_iconst (v := 0) h d_Exchange_put_62 (by decide) ?_
          exact J_X_Exchange_put_b63 K D A ad cA N rc d h hrc x1 x2 0 σ2
        · refine J_iconst (v := 1) h d_Exchange_put_58 (by decide) ?_
          refine J_goto (tgt := 63) h d_Exchange_put_59 (by decide) ?_
          exact J_X_Exchange_put_b63 K D A ad cA N rc d h hrc x1 x2 1 σ2
      · refine J_aload_n (q := 0) h d_Exchange_put_20 rfl rfl ?_
        refine J_getf h 25 (wX_25 ad cA σ) (tb_ups in_Exchange) rfl 0 (by decide) (tb_up q_1_130) rfl d_Exchange_put_21 ?_
        refine J_iload_n (q := 1) h d_Exchange_put_24 rfl rfl ?_
        refine J_callVi (As := [.int x1]) (st := []) (rmc := rX_Types_variablesIn) (q0 := 7) h (fun _ _ hf => cX_Types_variablesIn (jl K) D ad cA x1 σ _ _ hf) (gd_V q_3_80 q_2_221 q_2_222 q_1_3 q_2_223) rfl ⟨rfl, rfl⟩ dd_Types_variablesIn ⟨by simp only [rX_rec29, rX_Types_variablesIn]; omega, by simp only [rX_rec29, rX_Types_variablesIn]; omega⟩ rfl rfl (wX_7 ad cA σ) rfl rfl (Nat.le_of_ble_eq_true rfl) ⟨Nat.zero_le _, Nat.zero_le _⟩ d_Exchange_put_25 (fun r32 σ33 => ?_)
        refine J_aload_n (q := 0) h d_Exchange_put_28 rfl rfl ?_
        refine J_getf h 25 (wX_25 ad cA σ33) (tb_ups in_Exchange) rfl 5 (by decide) (tb_up q_1_135) rfl d_Exchange_put_29 ?_
        refine J_iand h d_Exchange_put_32 ?_
        refine J_if_eq (tgt := 40) h d_Exchange_put_33 (by decide) ?_ ?_
        · refine J_iconst (v := 0) h d_Exchange_put_40 (by decide) ?_
          refine J_goto (tgt := 63) h d_Exchange_put_41 (by decide) ?_
          exact J_X_Exchange_put_b63 K D A ad cA N rc d h hrc x1 x2 0 σ33
        · refine J_iconst (v := 1) h d_Exchange_put_36 (by decide) ?_
          refine J_goto (tgt := 63) h d_Exchange_put_37 (by decide) ?_
          exact J_X_Exchange_put_b63 K D A ad cA N rc d h hrc x1 x2 1 σ33
    · refine J_iload_n (q := 1) h d_Exchange_put_11 rfl rfl ?_
      exact J_iret h rfl d_Exchange_put_12
def X_Exchange_put (N : Nat) : Nat → Int32 → Int32 → SX → Option (Int32 × SX)
  | 0, _, _, _ => none
  | d + 1, x1, x2, σ => X_Exchange_put_body N (X_Exchange_put N d) x1 x2 σ
set_option maxRecDepth 100000 in
theorem cX_Exchange_put (l : Launch) (D : va_G) (ad : Nat → Nat) (cA : Nat → ClassId) (N : Nat) : ∀ (d : Nat) (x1 x2 : Int32) (σ : SX) (r : Int32) (σ' : SX) (_ : X_Exchange_put N d x1 x2 σ = some (r, σ')), MetI l y_Exchange_put ((Cond.code y_Exchange_put b_Exchange_put 11 (some .int)) :: tblG) (rX_rec29 d) D clX (tysX cA) (wX ad cA) [.ref (ad 25), .int x1, .int x2] σ r σ' := by
  intro d
  induction d with
  | zero => intro x1 x2 σ r σ' hf; cases hf
  | succ d ih =>
    intro x1 x2 σ r σ' hf
    exact jx_metIL (by decide) rfl (Nat.le_of_ble_eq_true rfl) (fun K A hl h => J_X_Exchange_put_body K D A ad cA N (X_Exchange_put N d) d h (by rw [hl]; exact ih) x1 x2 σ) hf
def rX_Work_take : Room := { frames := 0, cells := 0, slots := 0, locals := 0 }
theorem rm_ok_X_Work_take : rX_Work_take.cells = 0 ∧ rX_Work_take.slots = 0 := ⟨rfl, rfl⟩
def X_Work_take  (σ : SX) : Option (Int32 × SX) := (if (gX_Work_size σ) < 1 then (some (0, σ)) else (if (gX_Work_size σ) ≤ 120 then (nm (sX_Work_size σ ((gX_Work_size σ) - 1)) (fun (σ1 : SX) => (if ck (gX_Work_size σ1) 120 = true then (nm (sX_Work_sort σ1 (aX_Work_sorts σ1 (gX_Work_size σ1).toNatClampNeg)) (fun (σ2 : SX) => (if ck (gX_Work_size σ2) 120 = true then (nm (sX_Work_left σ2 (aX_Work_lefts σ2 (gX_Work_size σ2).toNatClampNeg)) (fun (σ3 : SX) => (if ck (gX_Work_size σ3) 120 = true then (nm (sX_Work_right σ3 (aX_Work_rights σ3 (gX_Work_size σ3).toNatClampNeg)) (fun (σ4 : SX) => (if ck (gX_Work_size σ4) 120 = true then (nm (sX_Work_level σ4 (aX_Work_levels σ4 (gX_Work_size σ4).toNatClampNeg)) (fun (σ5 : SX) => (some (1, σ5)))) else none))) else none))) else none))) else none))) else (some (0, σ))))
set_option maxRecDepth 100000 in
set_option maxHeartbeats 4000000 in
theorem J_X_Work_take (K : jx_E) (D : va_G) (A : Nat → Prop) (ad : Nat → Nat) (cA : Nat → ClassId) (h : jx_ok K D clX (tysX cA) A 1 b_Work_take y_Work_take.cls ((Cond.code y_Work_take b_Work_take 1 (some .boolean)) :: tblG) rX_Work_take (some .boolean)) : ∀  (σ : SX), J K D clX A 1 (wX ad cA) (jx_Qi K D clX (tysX cA) (wX ad cA) A) 0 0 0 [(0, .ref (ad 30))] [] σ (X_Work_take  σ) := by
  intro  σ
  rw [X_Work_take]
  refine J_aload_n (q := 0) h d_Work_take_0 rfl rfl ?_
  refine J_getf h 30 (wX_30 ad cA σ) (tb_ups in_Work) rfl 4 (by decide) (tb_up q_1_168) rfl d_Work_take_1 ?_
  refine J_iconst (v := 1) h d_Work_take_4 (by decide) ?_
  refine J_icmp_lt (tgt := 17) h d_Work_take_5 (by decide) ?_ ?_
  · refine J_iconst (v := 0) h d_Work_take_17 (by decide) ?_
    exact J_zret h rfl (by decide) d_Work_take_18
  · refine J_aload_n (q := 0) h d_Work_take_8 rfl rfl ?_
    refine J_getf h 30 (wX_30 ad cA σ) (tb_ups in_Work) rfl 4 (by decide) (tb_up q_1_168) rfl d_Work_take_9 ?_
    refine J_bipush (v := 120) h d_Work_take_12 (by decide) ?_
    refine J_icmp_le (tgt := 19) h d_Work_take_14 (by decide) ?_ ?_
    · refine J_aload_n (q := 0) h d_Work_take_19 rfl rfl ?_
      refine J_dup h d_Work_take_20 rfl ?_
      refine J_getf h 30 (wX_30 ad cA σ) (tb_ups in_Work) rfl 4 (by decide) (tb_up q_1_168) rfl d_Work_take_21 ?_
      refine J_iconst (v := 1) h d_Work_take_24 (by decide) ?_
      refine J_isub h d_Work_take_25 ?_
      refine J_putf h 30 (wX_30 ad cA σ) (tb_ups in_Work) rfl ft_Work ft_Work_ok nm_Work 4 (by decide) (tb_up q_1_168) rfl rfl rfl (Nat.le_of_ble_eq_true rfl) (pX_30_4 ad cA σ ((gX_Work_size σ) - 1)) d_Work_take_26 (fun σ1 => ?_)
      refine J_aload_n (q := 0) h d_Work_take_29 rfl rfl ?_
      refine J_aload_n (q := 0) h d_Work_take_30 rfl rfl ?_
      refine J_getf h 30 (wX_30 ad cA σ1) (tb_ups in_Work) rfl 0 (by decide) (tb_up q_1_164) rfl d_Work_take_31 ?_
      refine J_aload_n (q := 0) h d_Work_take_34 rfl rfl ?_
      refine J_getf h 30 (wX_30 ad cA σ1) (tb_ups in_Work) rfl 4 (by decide) (tb_up q_1_168) rfl d_Work_take_35 ?_
      refine J_iald h 31 24 (wX_31 ad cA σ1) rfl d_Work_take_38 ?_
      refine J_putf h 30 (wX_30 ad cA σ1) (tb_ups in_Work) rfl ft_Work ft_Work_ok nm_Work 5 (by decide) (tb_up q_1_170) rfl rfl rfl (Nat.le_of_ble_eq_true rfl) (pX_30_5 ad cA σ1 (aX_Work_sorts σ1 (gX_Work_size σ1).toNatClampNeg)) d_Work_take_39 (fun σ2 => ?_)
      refine J_aload_n (q := 0) h d_Work_take_42 rfl rfl ?_
      refine J_aload_n (q := 0) h d_Work_take_43 rfl rfl ?_
      refine J_getf h 30 (wX_30 ad cA σ2) (tb_ups in_Work) rfl 1 (by decide) (tb_up q_1_165) rfl d_Work_take_44 ?_
      refine J_aload_n (q := 0) h d_Work_take_47 rfl rfl ?_
      refine J_getf h 30 (wX_30 ad cA σ2) (tb_ups in_Work) rfl 4 (by decide) (tb_up q_1_168) rfl d_Work_take_48 ?_
      refine J_iald h 32 25 (wX_32 ad cA σ2) rfl d_Work_take_51 ?_
      refine J_putf h 30 (wX_30 ad cA σ2) (tb_ups in_Work) rfl ft_Work ft_Work_ok nm_Work 6 (by decide) (tb_up q_1_172) rfl rfl rfl (Nat.le_of_ble_eq_true rfl) (pX_30_6 ad cA σ2 (aX_Work_lefts σ2 (gX_Work_size σ2).toNatClampNeg)) d_Work_take_52 (fun σ3 => ?_)
      refine J_aload_n (q := 0) h d_Work_take_55 rfl rfl ?_
      refine J_aload_n (q := 0) h d_Work_take_56 rfl rfl ?_
      refine J_getf h 30 (wX_30 ad cA σ3) (tb_ups in_Work) rfl 2 (by decide) (tb_up q_1_166) rfl d_Work_take_57 ?_
      refine J_aload_n (q := 0) h d_Work_take_60 rfl rfl ?_
      refine J_getf h 30 (wX_30 ad cA σ3) (tb_ups in_Work) rfl 4 (by decide) (tb_up q_1_168) rfl d_Work_take_61 ?_
      refine J_iald h 33 26 (wX_33 ad cA σ3) rfl d_Work_take_64 ?_
      refine J_putf h 30 (wX_30 ad cA σ3) (tb_ups in_Work) rfl ft_Work ft_Work_ok nm_Work 7 (by decide) (tb_up q_1_174) rfl rfl rfl (Nat.le_of_ble_eq_true rfl) (pX_30_7 ad cA σ3 (aX_Work_rights σ3 (gX_Work_size σ3).toNatClampNeg)) d_Work_take_65 (fun σ4 => ?_)
      refine J_aload_n (q := 0) h d_Work_take_68 rfl rfl ?_
      refine J_aload_n (q := 0) h d_Work_take_69 rfl rfl ?_
      refine J_getf h 30 (wX_30 ad cA σ4) (tb_ups in_Work) rfl 3 (by decide) (tb_up q_1_167) rfl d_Work_take_70 ?_
      refine J_aload_n (q := 0) h d_Work_take_73 rfl rfl ?_
      refine J_getf h 30 (wX_30 ad cA σ4) (tb_ups in_Work) rfl 4 (by decide) (tb_up q_1_168) rfl d_Work_take_74 ?_
      refine J_iald h 34 27 (wX_34 ad cA σ4) rfl d_Work_take_77 ?_
      refine J_putf h 30 (wX_30 ad cA σ4) (tb_ups in_Work) rfl ft_Work ft_Work_ok nm_Work 8 (by decide) (tb_up q_1_176) rfl rfl rfl (Nat.le_of_ble_eq_true rfl) (pX_30_8 ad cA σ4 (aX_Work_levels σ4 (gX_Work_size σ4).toNatClampNeg)) d_Work_take_78 (fun σ5 => ?_)
      refine J_iconst (v := 1) h d_Work_take_81 (by decide) ?_
      exact J_zret h rfl (by decide) d_Work_take_82
    · refine J_iconst (v := 0) h d_Work_take_17 (by decide) ?_
      exact J_zret h rfl (by decide) d_Work_take_18
set_option maxRecDepth 100000 in
theorem cX_Work_take (l : Launch) (D : va_G) (ad : Nat → Nat) (cA : Nat → ClassId)  (σ : SX) (r : Int32) (σ' : SX) (hf : X_Work_take  σ = some (r, σ')) : MetI l y_Work_take ((Cond.code y_Work_take b_Work_take 1 (some .boolean)) :: tblG) rX_Work_take D clX (tysX cA) (wX ad cA) [.ref (ad 30)] σ r σ' :=
  jx_metI (by decide) rfl (Nat.le_of_ble_eq_true rfl) (fun K A h => J_X_Work_take K D A ad cA h  σ) hf
def rX_Reducer_widens : Room := { frames := 0, cells := 0, slots := 0, locals := 0 }
theorem rm_ok_X_Reducer_widens : rX_Reducer_widens.cells = 0 ∧ rX_Reducer_widens.slots = 0 := ⟨rfl, rfl⟩
def X_Reducer_widens (x0 : Int32) (x1 : Int32) (σ : SX) : Option (Int32 × SX) := (if x0 = x1 then (some (1, σ)) else (if x0 = 0 then (some (0, σ)) else (if x1 ≤ x0 then (some (0, σ)) else (if x1 = 3 then (some (0, σ)) else (some (1, σ))))))
set_option maxRecDepth 100000 in
set_option maxHeartbeats 4000000 in
theorem J_X_Reducer_widens (K : jx_E) (D : va_G) (A : Nat → Prop) (ad : Nat → Nat) (cA : Nat → ClassId) (h : jx_ok K D clX (tysX cA) A 2 b_Reducer_widens y_Reducer_widens.cls ((Cond.code y_Reducer_widens b_Reducer_widens 2 (some .boolean)) :: tblG) rX_Reducer_widens (some .boolean)) : ∀ (x0 : Int32) (x1 : Int32) (σ : SX), J K D clX A 2 (wX ad cA) (jx_Qi K D clX (tysX cA) (wX ad cA) A) 0 0 0 [(0, .int x0), (1, .int x1)] [] σ (X_Reducer_widens x0 x1 σ) := by
  intro x0 x1 σ
  rw [X_Reducer_widens]
  refine J_iload_n (q := 0) h d_Reducer_widens_0 rfl rfl ?_
  refine J_iload_n (q := 1) h d_Reducer_widens_1 rfl rfl ?_
  refine J_icmp_eq (tgt := 19) h d_Reducer_widens_2 (by decide) ?_ ?_
  · refine J_iconst (v := 1) h d_Reducer_widens_19 (by decide) ?_
    refine J_goto (tgt := 24) h d_Reducer_widens_20 (by decide) ?_
    exact J_zret h rfl (by decide) d_Reducer_widens_24
  · refine J_iload_n (q := 0) h d_Reducer_widens_5 rfl rfl ?_
    refine J_if_eq (tgt := 23) h d_Reducer_widens_6 (by decide) ?_ ?_
    · refine J_iconst (v := 0) h d_Reducer_widens_23 (by decide) ?_
      exact J_zret h rfl (by decide) d_Reducer_widens_24
    · refine J_iload_n (q := 1) h d_Reducer_widens_9 rfl rfl ?_
      refine J_iload_n (q := 0) h d_Reducer_widens_10 rfl rfl ?_
      refine J_icmp_le (tgt := 23) h d_Reducer_widens_11 (by decide) ?_ ?_
      · refine J_iconst (v := 0) h d_Reducer_widens_23 (by decide) ?_
        exact J_zret h rfl (by decide) d_Reducer_widens_24
      · refine J_iload_n (q := 1) h d_Reducer_widens_14 rfl rfl ?_
        refine J_iconst (v := 3) h d_Reducer_widens_15 (by decide) ?_
        refine J_icmp_eq (tgt := 23) h d_Reducer_widens_16 (by decide) ?_ ?_
        · refine J_iconst (v := 0) h d_Reducer_widens_23 (by decide) ?_
          exact J_zret h rfl (by decide) d_Reducer_widens_24
        · refine J_iconst (v := 1) h d_Reducer_widens_19 (by decide) ?_
          refine J_goto (tgt := 24) h d_Reducer_widens_20 (by decide) ?_
          exact J_zret h rfl (by decide) d_Reducer_widens_24
set_option maxRecDepth 100000 in
theorem cX_Reducer_widens (l : Launch) (D : va_G) (ad : Nat → Nat) (cA : Nat → ClassId) (x0 : Int32) (x1 : Int32) (σ : SX) (r : Int32) (σ' : SX) (hf : X_Reducer_widens x0 x1 σ = some (r, σ')) : MetI l y_Reducer_widens ((Cond.code y_Reducer_widens b_Reducer_widens 2 (some .boolean)) :: tblG) rX_Reducer_widens D clX (tysX cA) (wX ad cA) [.int x0, .int x1] σ r σ' :=
  jx_metI (by decide) rfl (Nat.le_of_ble_eq_true rfl) (fun K A h => J_X_Reducer_widens K D A ad cA h x0 x1 σ) hf
def rX_Reducer_truth : Room := { frames := 0, cells := 0, slots := 0, locals := 0 }
theorem rm_ok_X_Reducer_truth : rX_Reducer_truth.cells = 0 ∧ rX_Reducer_truth.slots = 0 := ⟨rfl, rfl⟩
def X_Reducer_truth (x0 : Int32) (σ : SX) : Option (Int32 × SX) := (if x0 = 0 then (some (0, σ)) else (some (1, σ)))
set_option maxRecDepth 100000 in
set_option maxHeartbeats 4000000 in
theorem J_X_Reducer_truth (K : jx_E) (D : va_G) (A : Nat → Prop) (ad : Nat → Nat) (cA : Nat → ClassId) (h : jx_ok K D clX (tysX cA) A 1 b_Reducer_truth y_Reducer_truth.cls ((Cond.code y_Reducer_truth b_Reducer_truth 1 (some .int)) :: tblG) rX_Reducer_truth (some .int)) : ∀ (x0 : Int32) (σ : SX), J K D clX A 1 (wX ad cA) (jx_Qi K D clX (tysX cA) (wX ad cA) A) 0 0 0 [(0, .int x0)] [] σ (X_Reducer_truth x0 σ) := by
  intro x0 σ
  rw [X_Reducer_truth]
  refine J_iload_n (q := 0) h d_Reducer_truth_0 rfl rfl ?_
  refine J_if_eq (tgt := 8) h d_Reducer_truth_1 (by decide) ?_ ?_
  · refine J_iconst (v := 0) h d_Reducer_truth_8 (by decide) ?_
    exact J_iret h rfl d_Reducer_truth_9
  · refine J_iconst (v := 1) h d_Reducer_truth_4 (by decide) ?_
    refine J_goto (tgt := 9) h d_Reducer_truth_5 (by decide) ?_
    exact J_iret h rfl d_Reducer_truth_9
set_option maxRecDepth 100000 in
theorem cX_Reducer_truth (l : Launch) (D : va_G) (ad : Nat → Nat) (cA : Nat → ClassId) (x0 : Int32) (σ : SX) (r : Int32) (σ' : SX) (hf : X_Reducer_truth x0 σ = some (r, σ')) : MetI l y_Reducer_truth ((Cond.code y_Reducer_truth b_Reducer_truth 1 (some .int)) :: tblG) rX_Reducer_truth D clX (tysX cA) (wX ad cA) [.int x0] σ r σ' :=
  jx_metI (by decide) rfl (Nat.le_of_ble_eq_true rfl) (fun K A h => J_X_Reducer_truth K D A ad cA h x0 σ) hf
def rX_Reducer_boxOf : Room := { frames := 1, cells := 0, slots := 0, locals := 35 }
theorem rm_ok_X_Reducer_boxOf : rX_Reducer_boxOf.cells = 0 ∧ rX_Reducer_boxOf.slots = 0 := ⟨rfl, rfl⟩
def X_Reducer_boxOf (N : Nat) (x1 : Int32) (σ : SX) : Option (Int32 × SX) := (bd (X_Types_firstOf x1 σ) (fun (r1 : Int32) (σ2 : SX) => (bd (X_Types_make N 0 (r1 + 1) (-1) (-1) σ2) (fun (r3 : Int32) (σ4 : SX) => (some (r3, σ4))))))
set_option maxRecDepth 100000 in
set_option maxHeartbeats 4000000 in
theorem J_X_Reducer_boxOf (K : jx_E) (D : va_G) (A : Nat → Prop) (ad : Nat → Nat) (cA : Nat → ClassId) (N : Nat) (h : jx_ok K D clX (tysX cA) A 2 b_Reducer_boxOf y_Reducer_boxOf.cls ((Cond.code y_Reducer_boxOf b_Reducer_boxOf 2 (some .int)) :: tblG) rX_Reducer_boxOf (some .int)) : ∀ (x1 : Int32) (σ : SX), J K D clX A 2 (wX ad cA) (jx_Qi K D clX (tysX cA) (wX ad cA) A) 0 0 0 [(0, .ref (ad 29)), (1, .int x1)] [] σ (X_Reducer_boxOf N x1 σ) := by
  intro x1 σ
  rw [X_Reducer_boxOf]
  refine J_aload_n (q := 0) h d_Reducer_boxOf_0 rfl rfl ?_
  refine J_getf h 29 (wX_29 ad cA σ) (tb_ups in_Reducer) rfl 1 (by decide) (tb_up q_1_198) rfl d_Reducer_boxOf_1 ?_
  refine J_iconst (v := 0) h d_Reducer_boxOf_4 (by decide) ?_
  refine J_aload_n (q := 0) h d_Reducer_boxOf_5 rfl rfl ?_
  refine J_getf h 29 (wX_29 ad cA σ) (tb_ups in_Reducer) rfl 1 (by decide) (tb_up q_1_198) rfl d_Reducer_boxOf_6 ?_
  refine J_iload_n (q := 1) h d_Reducer_boxOf_9 rfl rfl ?_
  refine J_callVi (As := [.int x1]) (st := [.int 0, .ref (ad 7)]) (rmc := rX_Types_firstOf) (q0 := 7) h (fun _ _ hf => cX_Types_firstOf (jl K) D ad cA x1 σ _ _ hf) (gd_V q_3_26 q_2_131 q_2_132 q_1_3 q_2_133) rfl ⟨rfl, rfl⟩ dd_Types_firstOf ⟨Nat.le_of_ble_eq_true rfl, Nat.le_of_ble_eq_true rfl⟩ rfl rfl (wX_7 ad cA σ) rfl rfl (Nat.le_of_ble_eq_true rfl) ⟨Nat.zero_le _, Nat.zero_le _⟩ d_Reducer_boxOf_10 (fun r1 σ2 => ?_)
  refine J_iconst (v := 1) h d_Reducer_boxOf_13 (by decide) ?_
  refine J_iadd h d_Reducer_boxOf_14 ?_
  refine J_iconst (v := (-1)) h d_Reducer_boxOf_15 (by decide) ?_
  refine J_iconst (v := (-1)) h d_Reducer_boxOf_16 (by decide) ?_
  refine J_callVi (As := [.int 0, .int (r1 + 1), .int (-1), .int (-1)]) (st := []) (rmc := rX_Types_make) (q0 := 7) h (fun _ _ hf => cX_Types_make (jl K) D ad cA N 0 (r1 + 1) (-1) (-1) σ2 _ _ hf) (gd_V q_3_37 q_2_173 q_2_174 q_1_3 q_2_175) rfl ⟨rfl, rfl⟩ dd_Types_make ⟨Nat.le_of_ble_eq_true rfl, Nat.le_of_ble_eq_true rfl⟩ rfl rfl (wX_7 ad cA σ2) rfl rfl (Nat.le_of_ble_eq_true rfl) ⟨Nat.zero_le _, Nat.zero_le _⟩ d_Reducer_boxOf_17 (fun r3 σ4 => ?_)
  exact J_iret h rfl d_Reducer_boxOf_20
set_option maxRecDepth 100000 in
theorem cX_Reducer_boxOf (l : Launch) (D : va_G) (ad : Nat → Nat) (cA : Nat → ClassId) (N : Nat) (x1 : Int32) (σ : SX) (r : Int32) (σ' : SX) (hf : X_Reducer_boxOf N x1 σ = some (r, σ')) : MetI l y_Reducer_boxOf ((Cond.code y_Reducer_boxOf b_Reducer_boxOf 2 (some .int)) :: tblG) rX_Reducer_boxOf D clX (tysX cA) (wX ad cA) [.ref (ad 29), .int x1] σ r σ' :=
  jx_metI (by decide) rfl (Nat.le_of_ble_eq_true rfl) (fun K A h => J_X_Reducer_boxOf K D A ad cA N h x1 σ) hf
def rX_Work_add : Room := { frames := 0, cells := 0, slots := 0, locals := 0 }
theorem rm_ok_X_Work_add : rX_Work_add.cells = 0 ∧ rX_Work_add.slots = 0 := ⟨rfl, rfl⟩
def X_Work_add (x1 : Int32) (x2 : Int32) (x3 : Int32) (x4 : Int32) (σ : SX) : Option (Int32 × SX) := (if (gX_Work_size σ) < 0 then (some (0, σ)) else (if (gX_Work_size σ) < 120 then (if ck (gX_Work_size σ) 120 = true then (nm (tX_Work_sorts σ (upd (aX_Work_sorts σ) (gX_Work_size σ).toNatClampNeg x1)) (fun (σ1 : SX) => (if ck (gX_Work_size σ1) 120 = true then (nm (tX_Work_lefts σ1 (upd (aX_Work_lefts σ1) (gX_Work_size σ1).toNatClampNeg x2)) (fun (σ2 : SX) => (if ck (gX_Work_size σ2) 120 = true then (nm (tX_Work_rights σ2 (upd (aX_Work_rights σ2) (gX_Work_size σ2).toNatClampNeg x3)) (fun (σ3 : SX) => (if ck (gX_Work_size σ3) 120 = true then (nm (tX_Work_levels σ3 (upd (aX_Work_levels σ3) (gX_Work_size σ3).toNatClampNeg x4)) (fun (σ4 : SX) => (nm (sX_Work_size σ4 ((gX_Work_size σ4) + 1)) (fun (σ5 : SX) => (some (1, σ5)))))) else none))) else none))) else none))) else none) else (some (0, σ))))
set_option maxRecDepth 100000 in
set_option maxHeartbeats 4000000 in
theorem J_X_Work_add (K : jx_E) (D : va_G) (A : Nat → Prop) (ad : Nat → Nat) (cA : Nat → ClassId) (h : jx_ok K D clX (tysX cA) A 5 b_Work_add y_Work_add.cls ((Cond.code y_Work_add b_Work_add 5 (some .boolean)) :: tblG) rX_Work_add (some .boolean)) : ∀ (x1 : Int32) (x2 : Int32) (x3 : Int32) (x4 : Int32) (σ : SX), J K D clX A 5 (wX ad cA) (jx_Qi K D clX (tysX cA) (wX ad cA) A) 0 0 0 [(0, .ref (ad 30)), (1, .int x1), (2, .int x2), (3, .int x3), (4, .int x4)] [] σ (X_Work_add x1 x2 x3 x4 σ) := by
  intro x1 x2 x3 x4 σ
  rw [X_Work_add]
  refine J_aload_n (q := 0) h d_Work_add_0 rfl rfl ?_
  refine J_getf h 30 (wX_30 ad cA σ) (tb_ups in_Work) rfl 4 (by decide) (tb_up q_1_168) rfl d_Work_add_1 ?_
  refine J_if_lt (tgt := 16) h d_Work_add_4 (by decide) ?_ ?_
  · refine J_iconst (v := 0) h d_Work_add_16 (by decide) ?_
    exact J_zret h rfl (by decide) d_Work_add_17
  · refine J_aload_n (q := 0) h d_Work_add_7 rfl rfl ?_
    refine J_getf h 30 (wX_30 ad cA σ) (tb_ups in_Work) rfl 4 (by decide) (tb_up q_1_168) rfl d_Work_add_8 ?_
    refine J_bipush (v := 120) h d_Work_add_11 (by decide) ?_
    refine J_icmp_lt (tgt := 18) h d_Work_add_13 (by decide) ?_ ?_
    · refine J_aload_n (q := 0) h d_Work_add_18 rfl rfl ?_
      refine J_getf h 30 (wX_30 ad cA σ) (tb_ups in_Work) rfl 0 (by decide) (tb_up q_1_164) rfl d_Work_add_19 ?_
      refine J_aload_n (q := 0) h d_Work_add_22 rfl rfl ?_
      refine J_getf h 30 (wX_30 ad cA σ) (tb_ups in_Work) rfl 4 (by decide) (tb_up q_1_168) rfl d_Work_add_23 ?_
      refine J_iload_n (q := 1) h d_Work_add_26 rfl rfl ?_
      refine J_iast h 31 24 (wX_31 ad cA σ) rfl (uX_31 ad cA σ _) d_Work_add_27 (fun σ1 => ?_)
      refine J_aload_n (q := 0) h d_Work_add_28 rfl rfl ?_
      refine J_getf h 30 (wX_30 ad cA σ1) (tb_ups in_Work) rfl 1 (by decide) (tb_up q_1_165) rfl d_Work_add_29 ?_
      refine J_aload_n (q := 0) h d_Work_add_32 rfl rfl ?_
      refine J_getf h 30 (wX_30 ad cA σ1) (tb_ups in_Work) rfl 4 (by decide) (tb_up q_1_168) rfl d_Work_add_33 ?_
      refine J_iload_n (q := 2) h d_Work_add_36 rfl rfl ?_
      refine J_iast h 32 25 (wX_32 ad cA σ1) rfl (uX_32 ad cA σ1 _) d_Work_add_37 (fun σ2 => ?_)
      refine J_aload_n (q := 0) h d_Work_add_38 rfl rfl ?_
      refine J_getf h 30 (wX_30 ad cA σ2) (tb_ups in_Work) rfl 2 (by decide) (tb_up q_1_166) rfl d_Work_add_39 ?_
      refine J_aload_n (q := 0) h d_Work_add_42 rfl rfl ?_
      refine J_getf h 30 (wX_30 ad cA σ2) (tb_ups in_Work) rfl 4 (by decide) (tb_up q_1_168) rfl d_Work_add_43 ?_
      refine J_iload_n (q := 3) h d_Work_add_46 rfl rfl ?_
      refine J_iast h 33 26 (wX_33 ad cA σ2) rfl (uX_33 ad cA σ2 _) d_Work_add_47 (fun σ3 => ?_)
      refine J_aload_n (q := 0) h d_Work_add_48 rfl rfl ?_
      refine J_getf h 30 (wX_30 ad cA σ3) (tb_ups in_Work) rfl 3 (by decide) (tb_up q_1_167) rfl d_Work_add_49 ?_
      refine J_aload_n (q := 0) h d_Work_add_52 rfl rfl ?_
      refine J_getf h 30 (wX_30 ad cA σ3) (tb_ups in_Work) rfl 4 (by decide) (tb_up q_1_168) rfl d_Work_add_53 ?_
      refine J_iload (q := 4) h d_Work_add_56 rfl ?_
      refine J_iast h 34 27 (wX_34 ad cA σ3) rfl (uX_34 ad cA σ3 _) d_Work_add_58 (fun σ4 => ?_)
      refine J_aload_n (q := 0) h d_Work_add_59 rfl rfl ?_
      refine J_dup h d_Work_add_60 rfl ?_
      refine J_getf h 30 (wX_30 ad cA σ4) (tb_ups in_Work) rfl 4 (by decide) (tb_up q_1_168) rfl d_Work_add_61 ?_
      refine J_iconst (v := 1) h d_Work_add_64 (by decide) ?_
      refine J_iadd h d_Work_add_65 ?_
      refine J_putf h 30 (wX_30 ad cA σ4) (tb_ups in_Work) rfl ft_Work ft_Work_ok nm_Work 4 (by decide) (tb_up q_1_168) rfl rfl rfl (Nat.le_of_ble_eq_true rfl) (pX_30_4 ad cA σ4 ((gX_Work_size σ4) + 1)) d_Work_add_66 (fun σ5 => ?_)
      refine J_iconst (v := 1) h d_Work_add_69 (by decide) ?_
      exact J_zret h rfl (by decide) d_Work_add_70
    · refine J_iconst (v := 0) h d_Work_add_16 (by decide) ?_
      exact J_zret h rfl (by decide) d_Work_add_17
set_option maxRecDepth 100000 in
theorem cX_Work_add (l : Launch) (D : va_G) (ad : Nat → Nat) (cA : Nat → ClassId) (x1 : Int32) (x2 : Int32) (x3 : Int32) (x4 : Int32) (σ : SX) (r : Int32) (σ' : SX) (hf : X_Work_add x1 x2 x3 x4 σ = some (r, σ')) : MetI l y_Work_add ((Cond.code y_Work_add b_Work_add 5 (some .boolean)) :: tblG) rX_Work_add D clX (tysX cA) (wX ad cA) [.ref (ad 30), .int x1, .int x2, .int x3, .int x4] σ r σ' :=
  jx_metI (by decide) rfl (Nat.le_of_ble_eq_true rfl) (fun K A h => J_X_Work_add K D A ad cA h x1 x2 x3 x4 σ) hf
def rX_Reducer_within : Room := { frames := 1, cells := 0, slots := 0, locals := 24 }
theorem rm_ok_X_Reducer_within : rX_Reducer_within.cells = 0 ∧ rX_Reducer_within.slots = 0 := ⟨rfl, rfl⟩
def X_Reducer_within (x1 : Int32) (x2 : Int32) (x3 : Int32) (σ : SX) : Option (Int32 × SX) := (if x2 < 0 then (some ((-3), σ)) else (if (0 : Int32) ≤ x3 then (bd (X_Work_add x1 x2 x3 ((gX_Work_level σ) + 1) σ) (fun (r1 : Int32) (σ2 : SX) => (if r1 = 0 then (some ((-3), σ2)) else (some (1, σ2))))) else (some ((-3), σ))))
set_option maxRecDepth 100000 in
set_option maxHeartbeats 4000000 in
theorem J_X_Reducer_within (K : jx_E) (D : va_G) (A : Nat → Prop) (ad : Nat → Nat) (cA : Nat → ClassId) (h : jx_ok K D clX (tysX cA) A 4 b_Reducer_within y_Reducer_within.cls ((Cond.code y_Reducer_within b_Reducer_within 4 (some .int)) :: tblG) rX_Reducer_within (some .int)) : ∀ (x1 : Int32) (x2 : Int32) (x3 : Int32) (σ : SX), J K D clX A 4 (wX ad cA) (jx_Qi K D clX (tysX cA) (wX ad cA) A) 0 0 0 [(0, .ref (ad 29)), (1, .int x1), (2, .int x2), (3, .int x3)] [] σ (X_Reducer_within x1 x2 x3 σ) := by
  intro x1 x2 x3 σ
  rw [X_Reducer_within]
  refine J_iload_n (q := 2) h d_Reducer_within_0 rfl rfl ?_
  refine J_if_lt (tgt := 8) h d_Reducer_within_1 (by decide) ?_ ?_
  · refine J_bipush (v := (-3)) h d_Reducer_within_8 (by decide) ?_
    exact J_iret h rfl d_Reducer_within_10
  · refine J_iload_n (q := 3) h d_Reducer_within_4 rfl rfl ?_
    refine J_if_ge (tgt := 11) h d_Reducer_within_5 (by decide) ?_ ?_
    · refine J_aload_n (q := 0) h d_Reducer_within_11 rfl rfl ?_
      refine J_getf h 29 (wX_29 ad cA σ) (tb_ups in_Reducer) rfl 4 (by decide) (tb_up q_1_202) rfl d_Reducer_within_12 ?_
      refine J_iload_n (q := 1) h d_Reducer_within_15 rfl rfl ?_
      refine J_iload_n (q := 2) h d_Reducer_within_16 rfl rfl ?_
      refine J_iload_n (q := 3) h d_Reducer_within_17 rfl rfl ?_
      refine J_aload_n (q := 0) h d_Reducer_within_18 rfl rfl ?_
      refine J_getf h 29 (wX_29 ad cA σ) (tb_ups in_Reducer) rfl 4 (by decide) (tb_up q_1_202) rfl d_Reducer_within_19 ?_
      refine J_getf h 30 (wX_30 ad cA σ) (tb_ups in_Work) rfl 8 (by decide) (tb_up q_1_177) rfl d_Reducer_within_22 ?_
      refine J_iconst (v := 1) h d_Reducer_within_25 (by decide) ?_
      refine J_iadd h d_Reducer_within_26 ?_
      refine J_callVi (As := [.int x1, .int x2, .int x3, .int ((gX_Work_level σ) + 1)]) (st := []) (rmc := rX_Work_add) (q0 := 30) h (fun _ _ hf => cX_Work_add (jl K) D ad cA x1 x2 x3 ((gX_Work_level σ) + 1) σ _ _ hf) (gd_V q_3_1 q_3_2 q_3_3 q_1_8 q_3_4) rfl ⟨rfl, rfl⟩ dd_Work_add ⟨Nat.le_of_ble_eq_true rfl, Nat.le_of_ble_eq_true rfl⟩ rfl rfl (wX_30 ad cA σ) rfl rfl (Nat.le_of_ble_eq_true rfl) ⟨Nat.zero_le _, Nat.zero_le _⟩ d_Reducer_within_27 (fun r1 σ2 => ?_)
      refine J_if_eq (tgt := 37) h d_Reducer_within_30 (by decide) ?_ ?_
      · refine J_bipush (v := (-3)) h d_Reducer_within_37 (by decide) ?_
        exact J_iret h rfl d_Reducer_within_39
      · refine J_iconst (v := 1) h d_Reducer_within_33 (by decide) ?_
        refine J_goto (tgt := 39) h d_Reducer_within_34 (by decide) ?_
        exact J_iret h rfl d_Reducer_within_39
    · refine J_bipush (v := (-3)) h d_Reducer_within_8 (by decide) ?_
      exact J_iret h rfl d_Reducer_within_10
set_option maxRecDepth 100000 in
theorem cX_Reducer_within (l : Launch) (D : va_G) (ad : Nat → Nat) (cA : Nat → ClassId) (x1 : Int32) (x2 : Int32) (x3 : Int32) (σ : SX) (r : Int32) (σ' : SX) (hf : X_Reducer_within x1 x2 x3 σ = some (r, σ')) : MetI l y_Reducer_within ((Cond.code y_Reducer_within b_Reducer_within 4 (some .int)) :: tblG) rX_Reducer_within D clX (tysX cA) (wX ad cA) [.ref (ad 29), .int x1, .int x2, .int x3] σ r σ' :=
  jx_metI (by decide) rfl (Nat.le_of_ble_eq_true rfl) (fun K A h => J_X_Reducer_within K D A ad cA h x1 x2 x3 σ) hf
def rX_Reducer_unboxes : Room := { frames := 1, cells := 0, slots := 0, locals := 21 }
theorem rm_ok_X_Reducer_unboxes : rX_Reducer_unboxes.cells = 0 ∧ rX_Reducer_unboxes.slots = 0 := ⟨rfl, rfl⟩
def X_Reducer_unboxes (x1 : Int32) (x2 : Int32) (σ : SX) : Option (Int32 × SX) := (bd (X_Types_firstOf x1 σ) (fun (r1 : Int32) (σ2 : SX) => (bd (X_Types_kindOf x1 σ2) (fun (r3 : Int32) (σ4 : SX) => (if r3 = 0 then (if r1 < 1 then (some (0, σ4)) else (if r1 < 9 then (bd (X_Types_firstOf x2 σ4) (fun (r5 : Int32) (σ6 : SX) => (bd (X_Reducer_widens (r1 - 1) r5 σ6) (fun (r7 : Int32) (σ8 : SX) => (if zb r7 = true then some (r7, σ8) else none))))) else (some (0, σ4)))) else (some (0, σ4)))))))
set_option maxRecDepth 100000 in
set_option maxHeartbeats 4000000 in
theorem J_X_Reducer_unboxes (K : jx_E) (D : va_G) (A : Nat → Prop) (ad : Nat → Nat) (cA : Nat → ClassId) (h : jx_ok K D clX (tysX cA) A 4 b_Reducer_unboxes y_Reducer_unboxes.cls ((Cond.code y_Reducer_unboxes b_Reducer_unboxes 4 (some .boolean)) :: tblG) rX_Reducer_unboxes (some .boolean)) : ∀ (x1 : Int32) (x2 : Int32) (σ : SX), J K D clX A 4 (wX ad cA) (jx_Qi K D clX (tysX cA) (wX ad cA) A) 0 0 0 [(0, .ref (ad 29)), (1, .int x1), (2, .int x2)] [] σ (X_Reducer_unboxes x1 x2 σ) := by
  intro x1 x2 σ
  rw [X_Reducer_unboxes]
  refine J_aload_n (q := 0) h d_Reducer_unboxes_0 rfl rfl ?_
  refine J_getf h 29 (wX_29 ad cA σ) (tb_ups in_Reducer) rfl 1 (by decide) (tb_up q_1_198) rfl d_Reducer_unboxes_1 ?_
  refine J_iload_n (q := 1) h d_Reducer_unboxes_4 rfl rfl ?_
  refine J_callVi (As := [.int x1]) (st := []) (rmc := rX_Types_firstOf) (q0 := 7) h (fun _ _ hf => cX_Types_firstOf (jl K) D ad cA x1 σ _ _ hf) (gd_V q_3_26 q_2_131 q_2_132 q_1_3 q_2_133) rfl ⟨rfl, rfl⟩ dd_Types_firstOf ⟨Nat.le_of_ble_eq_true rfl, Nat.le_of_ble_eq_true rfl⟩ rfl rfl (wX_7 ad cA σ) rfl rfl (Nat.le_of_ble_eq_true rfl) ⟨Nat.zero_le _, Nat.zero_le _⟩ d_Reducer_unboxes_5 (fun r1 σ2 => ?_)
  refine J_istore_n (lv' := [(3, .int r1), (0, .ref (ad 29)), (1, .int x1), (2, .int x2)]) h d_Reducer_unboxes_8 rfl (by decide) rfl ?_
  refine J_aload_n (q := 1) h d_Reducer_unboxes_9 rfl rfl ?_
  refine J_getf h 29 (wX_29 ad cA σ2) (tb_ups in_Reducer) rfl 1 (by decide) (tb_up q_1_198) rfl d_Reducer_unboxes_10 ?_
  refine J_iload_n (q := 2) h d_Reducer_unboxes_13 rfl rfl ?_
  refine J_callVi (As := [.int x1]) (st := []) (rmc := rX_Types_kindOf) (q0 := 7) h (fun _ _ hf => cX_Types_kindOf (jl K) D ad cA x1 σ2 _ _ hf) (gd_V q_3_21 q_2_127 q_2_128 q_1_3 q_2_129) rfl ⟨rfl, rfl⟩ dd_Types_kindOf ⟨Nat.le_of_ble_eq_true rfl, Nat.le_of_ble_eq_true rfl⟩ rfl rfl (wX_7 ad cA σ2) rfl rfl (Nat.le_of_ble_eq_true rfl) ⟨Nat.zero_le _, Nat.zero_le _⟩ d_Reducer_unboxes_14 (fun r3 σ4 => ?_)
  refine J_if_ne (tgt := 31) h d_Reducer_unboxes_17 (by decide) ?_ ?_
  · refine J_iload_n (q := 0) h d_Reducer_unboxes_20 rfl rfl ?_
    refine J_iconst (v := 1) h d_Reducer_unboxes_21 (by decide) ?_
    refine J_icmp_lt (tgt := 31) h d_Reducer_unboxes_22 (by decide) ?_ ?_
    · refine J_iconst (v := 0) h d_Reducer_unboxes_31 (by decide) ?_
      exact J_zret h rfl (by decide) d_Reducer_unboxes_32
    · refine J_iload_n (q := 0) h d_Reducer_unboxes_25 rfl rfl ?_
      refine J_bipush (v := 9) h d_Reducer_unboxes_26 (by decide) ?_
      refine J_icmp_lt (tgt := 33) h d_Reducer_unboxes_28 (by decide) ?_ ?_
      · refine J_iload_n (q := 0) h d_Reducer_unboxes_33 rfl rfl ?_
        refine J_iconst (v := 1) h d_Reducer_unboxes_34 (by decide) ?_
        refine J_isub h d_Reducer_unboxes_35 ?_
        refine J_aload_n (q := 1) h d_Reducer_unboxes_36 rfl rfl ?_
        refine J_getf h 29 (wX_29 ad cA σ4) (tb_ups in_Reducer) rfl 1 (by decide) (tb_up q_1_198) rfl d_Reducer_unboxes_37 ?_
        refine J_iload_n (q := 3) h d_Reducer_unboxes_40 rfl rfl ?_
        refine J_callVi (As := [.int x2]) (st := [.int (r1 - 1)]) (rmc := rX_Types_firstOf) (q0 := 7) h (fun _ _ hf => cX_Types_firstOf (jl K) D ad cA x2 σ4 _ _ hf) (gd_V q_3_26 q_2_131 q_2_132 q_1_3 q_2_133) rfl ⟨rfl, rfl⟩ dd_Types_firstOf ⟨Nat.le_of_ble_eq_true rfl, Nat.le_of_ble_eq_true rfl⟩ rfl rfl (wX_7 ad cA σ4) rfl rfl (Nat.le_of_ble_eq_true rfl) ⟨Nat.zero_le _, Nat.zero_le _⟩ d_Reducer_unboxes_41 (fun r5 σ6 => ?_)
        refine J_callTi (As := [.int (r1 - 1), .int r5]) (st := []) (rmc := rX_Reducer_widens) h (fun _ _ hf => cX_Reducer_widens (jl K) D ad cA (r1 - 1) r5 σ6 _ _ hf) (gd_all q_3_29) (tb_up q_3_27) (tb_up q_3_28) (tb_up q_1_7) rfl ⟨rfl, rfl⟩ dd_Reducer_widens ⟨Nat.le_of_ble_eq_true rfl, Nat.le_of_ble_eq_true rfl⟩ rfl rfl (Nat.le_of_ble_eq_true rfl) ⟨Nat.zero_le _, Nat.zero_le _⟩ d_Reducer_unboxes_44 (fun r7 σ8 => ?_)
        exact J_zretc h rfl d_Reducer_unboxes_47
      · refine J_iconst (v := 0) h d_Reducer_unboxes_31 (by decide) ?_
        exact J_zret h rfl (by decide) d_Reducer_unboxes_32
  · refine J_iconst (v := 0) h d_Reducer_unboxes_31 (by decide) ?_
    exact J_zret h rfl (by decide) d_Reducer_unboxes_32
set_option maxRecDepth 100000 in
theorem cX_Reducer_unboxes (l : Launch) (D : va_G) (ad : Nat → Nat) (cA : Nat → ClassId) (x1 : Int32) (x2 : Int32) (σ : SX) (r : Int32) (σ' : SX) (hf : X_Reducer_unboxes x1 x2 σ = some (r, σ')) : MetI l y_Reducer_unboxes ((Cond.code y_Reducer_unboxes b_Reducer_unboxes 4 (some .boolean)) :: tblG) rX_Reducer_unboxes D clX (tysX cA) (wX ad cA) [.ref (ad 29), .int x1, .int x2] σ r σ' :=
  jx_metI (by decide) rfl (Nat.le_of_ble_eq_true rfl) (fun K A h => J_X_Reducer_unboxes K D A ad cA h x1 x2 σ) hf
def rX_Types_captureBound : Room := { frames := 1, cells := 0, slots := 0, locals := 22 }
theorem rm_ok_X_Types_captureBound : rX_Types_captureBound.cells = 0 ∧ rX_Types_captureBound.slots = 0 := ⟨rfl, rfl⟩
def X_Types_captureBound (x1 : Int32) (x2 : Int32) (σ : SX) : Option (Int32 × SX) := (if x1 < 0 then (some ((-1), σ)) else (if (gX_Types_size σ) ≤ x1 then (some ((-1), σ)) else (if ck x1 500 = true then (if (aX_Types_kind σ x1.toNatClampNeg) = 8 then (if ck x1 500 = true then (if ck x1 500 = true then (bd (X_Types_argumentOf (aX_Types_first σ x1.toNatClampNeg) (aX_Types_second σ x1.toNatClampNeg) σ) (fun (r1 : Int32) (σ2 : SX) => (bd (X_Types_firstOf r1 σ2) (fun (r3 : Int32) (σ4 : SX) => (if r3 = x2 then (bd (X_Types_secondOf r1 σ4) (fun (r5 : Int32) (σ6 : SX) => (some (r5, σ6)))) else (some ((-1), σ4))))))) else none) else none) else (some ((-1), σ))) else none)))
set_option maxRecDepth 100000 in
set_option maxHeartbeats 4000000 in
theorem J_X_Types_captureBound (K : jx_E) (D : va_G) (A : Nat → Prop) (ad : Nat → Nat) (cA : Nat → ClassId) (h : jx_ok K D clX (tysX cA) A 4 b_Types_captureBound y_Types_captureBound.cls ((Cond.code y_Types_captureBound b_Types_captureBound 4 (some .int)) :: tblG) rX_Types_captureBound (some .int)) : ∀ (x1 : Int32) (x2 : Int32) (σ : SX), J K D clX A 4 (wX ad cA) (jx_Qi K D clX (tysX cA) (wX ad cA) A) 0 0 0 [(0, .ref (ad 7)), (1, .int x1), (2, .int x2)] [] σ (X_Types_captureBound x1 x2 σ) := by
  intro x1 x2 σ
  rw [X_Types_captureBound]
  refine J_iload_n (q := 1) h d_Types_captureBound_0 rfl rfl ?_
  refine J_if_lt (tgt := 23) h d_Types_captureBound_1 (by decide) ?_ ?_
  · refine J_iconst (v := (-1)) h d_Types_captureBound_23 (by decide) ?_
    exact J_iret h rfl d_Types_captureBound_24
  · refine J_iload_n (q := 1) h d_Types_captureBound_4 rfl rfl ?_
    refine J_aload_n (q := 0) h d_Types_captureBound_5 rfl rfl ?_
    refine J_getf h 7 (wX_7 ad cA σ) (tb_ups in_Types) rfl 11 (by decide) (tb_up q_1_72) rfl d_Types_captureBound_6 ?_
    refine J_icmp_ge (tgt := 23) h d_Types_captureBound_9 (by decide) ?_ ?_
    · refine J_iconst (v := (-1)) h d_Types_captureBound_23 (by decide) ?_
      exact J_iret h rfl d_Types_captureBound_24
    · refine J_aload_n (q := 0) h d_Types_captureBound_12 rfl rfl ?_
      refine J_getf h 7 (wX_7 ad cA σ) (tb_ups in_Types) rfl 0 (by decide) (tb_up q_1_61) rfl d_Types_captureBound_13 ?_
      refine J_iload_n (q := 1) h d_Types_captureBound_16 rfl rfl ?_
      refine J_iald h 8 5 (wX_8 ad cA σ) rfl d_Types_captureBound_17 ?_
      refine J_bipush (v := 8) h d_Types_captureBound_18 (by decide) ?_
      refine J_icmp_eq (tgt := 25) h d_Types_captureBound_20 (by decide) ?_ ?_
      · refine J_aload_n (q := 0) h d_Types_captureBound_25 rfl rfl ?_
        refine J_aload_n (q := 0) h d_Types_captureBound_26 rfl rfl ?_
        refine J_getf h 7 (wX_7 ad cA σ) (tb_ups in_Types) rfl 1 (by decide) (tb_up q_1_62) rfl d_Types_captureBound_27 ?_
        refine J_iload_n (q := 1) h d_Types_captureBound_30 rfl rfl ?_
        refine J_iald h 9 6 (wX_9 ad cA σ) rfl d_Types_captureBound_31 ?_
        refine J_aload_n (q := 0) h d_Types_captureBound_32 rfl rfl ?_
        refine J_getf h 7 (wX_7 ad cA σ) (tb_ups in_Types) rfl 2 (by decide) (tb_up q_1_63) rfl d_Types_captureBound_33 ?_
        refine J_iload_n (q := 1) h d_Types_captureBound_36 rfl rfl ?_
        refine J_iald h 10 7 (wX_10 ad cA σ) rfl d_Types_captureBound_37 ?_
        refine J_callVi (As := [.int (aX_Types_first σ x1.toNatClampNeg), .int (aX_Types_second σ x1.toNatClampNeg)]) (st := []) (rmc := rX_Types_argumentOf) (q0 := 7) h (fun _ _ hf => cX_Types_argumentOf (jl K) D ad cA (aX_Types_first σ x1.toNatClampNeg) (aX_Types_second σ x1.toNatClampNeg) σ _ _ hf) (gd_V q_3_54 q_3_55 q_3_56 q_1_3 q_3_57) rfl ⟨rfl, rfl⟩ dd_Types_argumentOf ⟨Nat.le_of_ble_eq_true rfl, Nat.le_of_ble_eq_true rfl⟩ rfl rfl (wX_7 ad cA σ) rfl rfl (Nat.le_of_ble_eq_true rfl) ⟨Nat.zero_le _, Nat.zero_le _⟩ d_Types_captureBound_38 (fun r1 σ2 => ?_)
        refine J_istore_n (lv' := [(3, .int r1), (0, .ref (ad 7)), (1, .int x1), (2, .int x2)]) h d_Types_captureBound_41 rfl (by decide) rfl ?_
        refine J_aload_n (q := 1) h d_Types_captureBound_42 rfl rfl ?_
        refine J_iload_n (q := 0) h d_Types_captureBound_43 rfl rfl ?_
        refine J_callVi (As := [.int r1]) (st := []) (rmc := rX_Types_firstOf) (q0 := 7) h (fun _ _ hf => cX_Types_firstOf (jl K) D ad cA r1 σ2 _ _ hf) (gd_V q_3_58 q_2_131 q_2_132 q_1_3 q_2_133) rfl ⟨rfl, rfl⟩ dd_Types_firstOf ⟨Nat.le_of_ble_eq_true rfl, Nat.le_of_ble_eq_true rfl⟩ rfl rfl (wX_7 ad cA σ2) rfl rfl (Nat.le_of_ble_eq_true rfl) ⟨Nat.zero_le _, Nat.zero_le _⟩ d_Types_captureBound_44 (fun r3 σ4 => ?_)
        refine J_iload_n (q := 3) h d_Types_captureBound_47 rfl rfl ?_
        refine J_icmp_ne (tgt := 59) h d_Types_captureBound_48 (by decide) ?_ ?_
        · refine J_aload_n (q := 1) h d_Types_captureBound_51 rfl rfl ?_
          refine J_iload_n (q := 0) h d_Types_captureBound_52 rfl rfl ?_
          refine J_callVi (As := [.int r1]) (st := []) (rmc := rX_Types_secondOf) (q0 := 7) h (fun _ _ hf => cX_Types_secondOf (jl K) D ad cA r1 σ4 _ _ hf) (gd_V q_3_59 q_2_144 q_2_145 q_1_3 q_2_146) rfl ⟨rfl, rfl⟩ dd_Types_secondOf ⟨Nat.le_of_ble_eq_true rfl, Nat.le_of_ble_eq_true rfl⟩ rfl rfl (wX_7 ad cA σ4) rfl rfl (Nat.le_of_ble_eq_true rfl) ⟨Nat.zero_le _, Nat.zero_le _⟩ d_Types_captureBound_53 (fun r5 σ6 => ?_)
          refine J_goto (tgt := 60) h d_Types_captureBound_56 (by decide) ?_
          exact J_iret h rfl d_Types_captureBound_60
        · refine J_iconst (v := (-1)) h d_Types_captureBound_59 (by decide) ?_
          exact J_iret h rfl d_Types_captureBound_60
      · refine J_iconst (v := (-1)) h d_Types_captureBound_23 (by decide) ?_
        exact J_iret h rfl d_Types_captureBound_24
set_option maxRecDepth 100000 in
theorem cX_Types_captureBound (l : Launch) (D : va_G) (ad : Nat → Nat) (cA : Nat → ClassId) (x1 : Int32) (x2 : Int32) (σ : SX) (r : Int32) (σ' : SX) (hf : X_Types_captureBound x1 x2 σ = some (r, σ')) : MetI l y_Types_captureBound ((Cond.code y_Types_captureBound b_Types_captureBound 4 (some .int)) :: tblG) rX_Types_captureBound D clX (tysX cA) (wX ad cA) [.ref (ad 7), .int x1, .int x2] σ r σ' :=
  jx_metI (by decide) rfl (Nat.le_of_ble_eq_true rfl) (fun K A h => J_X_Types_captureBound K D A ad cA h x1 x2 σ) hf
def rX_Types_classOf : Room := { frames := 0, cells := 0, slots := 0, locals := 0 }
theorem rm_ok_X_Types_classOf : rX_Types_classOf.cells = 0 ∧ rX_Types_classOf.slots = 0 := ⟨rfl, rfl⟩
def X_Types_classOf (x1 : Int32) (σ : SX) : Option (Int32 × SX) := (if x1 < 0 then (some ((-1), σ)) else (if x1 < (gX_Types_size σ) then (if ck x1 500 = true then (if (aX_Types_kind σ x1.toNatClampNeg) = 0 then (if ck x1 500 = true then (some ((aX_Types_first σ x1.toNatClampNeg), σ)) else none) else (if ck x1 500 = true then (if (aX_Types_kind σ x1.toNatClampNeg) = 1 then (if ck x1 500 = true then (some ((aX_Types_first σ x1.toNatClampNeg), σ)) else none) else (some ((-1), σ))) else none)) else none) else (some ((-1), σ))))
set_option maxRecDepth 100000 in
set_option maxHeartbeats 4000000 in
theorem J_X_Types_classOf (K : jx_E) (D : va_G) (A : Nat → Prop) (ad : Nat → Nat) (cA : Nat → ClassId) (h : jx_ok K D clX (tysX cA) A 2 b_Types_classOf y_Types_classOf.cls ((Cond.code y_Types_classOf b_Types_classOf 2 (some .int)) :: tblG) rX_Types_classOf (some .int)) : ∀ (x1 : Int32) (σ : SX), J K D clX A 2 (wX ad cA) (jx_Qi K D clX (tysX cA) (wX ad cA) A) 0 0 0 [(0, .ref (ad 7)), (1, .int x1)] [] σ (X_Types_classOf x1 σ) := by
  intro x1 σ
  rw [X_Types_classOf]
  refine J_iload_n (q := 1) h d_Types_classOf_0 rfl rfl ?_
  refine J_if_lt (tgt := 12) h d_Types_classOf_1 (by decide) ?_ ?_
  · refine J_iconst (v := (-1)) h d_Types_classOf_12 (by decide) ?_
    exact J_iret h rfl d_Types_classOf_13
  · refine J_iload_n (q := 1) h d_Types_classOf_4 rfl rfl ?_
    refine J_aload_n (q := 0) h d_Types_classOf_5 rfl rfl ?_
    refine J_getf h 7 (wX_7 ad cA σ) (tb_ups in_Types) rfl 11 (by decide) (tb_up q_1_72) rfl d_Types_classOf_6 ?_
    refine J_icmp_lt (tgt := 14) h d_Types_classOf_9 (by decide) ?_ ?_
    · refine J_aload_n (q := 0) h d_Types_classOf_14 rfl rfl ?_
      refine J_getf h 7 (wX_7 ad cA σ) (tb_ups in_Types) rfl 0 (by decide) (tb_up q_1_61) rfl d_Types_classOf_15 ?_
      refine J_iload_n (q := 1) h d_Types_classOf_18 rfl rfl ?_
      refine J_iald h 8 5 (wX_8 ad cA σ) rfl d_Types_classOf_19 ?_
      refine J_if_eq (tgt := 33) h d_Types_classOf_20 (by decide) ?_ ?_
      · refine J_aload_n (q := 0) h d_Types_classOf_33 rfl rfl ?_
        refine J_getf h 7 (wX_7 ad cA σ) (tb_ups in_Types) rfl 1 (by decide) (tb_up q_1_62) rfl d_Types_classOf_34 ?_
        refine J_iload_n (q := 1) h d_Types_classOf_37 rfl rfl ?_
        refine J_iald h 9 6 (wX_9 ad cA σ) rfl d_Types_classOf_38 ?_
        refine J_goto (tgt := 43) h d_Types_classOf_39 (by decide) ?_
        exact J_iret h rfl d_Types_classOf_43
      · refine J_aload_n (q := 0) h d_Types_classOf_23 rfl rfl ?_
        refine J_getf h 7 (wX_7 ad cA σ) (tb_ups in_Types) rfl 0 (by decide) (tb_up q_1_61) rfl d_Types_classOf_24 ?_
        refine J_iload_n (q := 1) h d_Types_classOf_27 rfl rfl ?_
        refine J_iald h 8 5 (wX_8 ad cA σ) rfl d_Types_classOf_28 ?_
        refine J_iconst (v := 1) h d_Types_classOf_29 (by decide) ?_
        refine J_icmp_ne (tgt := 42) h d_Types_classOf_30 (by decide) ?_ ?_
        · refine J_aload_n (q := 0) h d_Types_classOf_33 rfl rfl ?_
          refine J_getf h 7 (wX_7 ad cA σ) (tb_ups in_Types) rfl 1 (by decide) (tb_up q_1_62) rfl d_Types_classOf_34 ?_
          refine J_iload_n (q := 1) h d_Types_classOf_37 rfl rfl ?_
          refine J_iald h 9 6 (wX_9 ad cA σ) rfl d_Types_classOf_38 ?_
          refine J_goto (tgt := 43) h d_Types_classOf_39 (by decide) ?_
          exact J_iret h rfl d_Types_classOf_43
        · refine J_iconst (v := (-1)) h d_Types_classOf_42 (by decide) ?_
          exact J_iret h rfl d_Types_classOf_43
    · refine J_iconst (v := (-1)) h d_Types_classOf_12 (by decide) ?_
      exact J_iret h rfl d_Types_classOf_13
set_option maxRecDepth 100000 in
theorem cX_Types_classOf (l : Launch) (D : va_G) (ad : Nat → Nat) (cA : Nat → ClassId) (x1 : Int32) (σ : SX) (r : Int32) (σ' : SX) (hf : X_Types_classOf x1 σ = some (r, σ')) : MetI l y_Types_classOf ((Cond.code y_Types_classOf b_Types_classOf 2 (some .int)) :: tblG) rX_Types_classOf D clX (tysX cA) (wX ad cA) [.ref (ad 7), .int x1] σ r σ' :=
  jx_metI (by decide) rfl (Nat.le_of_ble_eq_true rfl) (fun K A h => J_X_Types_classOf K D A ad cA h x1 σ) hf
def rX_Types_has : Room := { frames := 0, cells := 0, slots := 0, locals := 0 }
theorem rm_ok_X_Types_has : rX_Types_has.cells = 0 ∧ rX_Types_has.slots = 0 := ⟨rfl, rfl⟩
def X_Types_has (x1 : Int32) (σ : SX) : Option (Int32 × SX) := (if x1 < 0 then (some (0, σ)) else (if (gX_Types_size σ) ≤ x1 then (some (0, σ)) else (some (1, σ))))
set_option maxRecDepth 100000 in
set_option maxHeartbeats 4000000 in
theorem J_X_Types_has (K : jx_E) (D : va_G) (A : Nat → Prop) (ad : Nat → Nat) (cA : Nat → ClassId) (h : jx_ok K D clX (tysX cA) A 2 b_Types_has y_Types_has.cls ((Cond.code y_Types_has b_Types_has 2 (some .boolean)) :: tblG) rX_Types_has (some .boolean)) : ∀ (x1 : Int32) (σ : SX), J K D clX A 2 (wX ad cA) (jx_Qi K D clX (tysX cA) (wX ad cA) A) 0 0 0 [(0, .ref (ad 7)), (1, .int x1)] [] σ (X_Types_has x1 σ) := by
  intro x1 σ
  rw [X_Types_has]
  refine J_iload_n (q := 1) h d_Types_has_0 rfl rfl ?_
  refine J_if_lt (tgt := 16) h d_Types_has_1 (by decide) ?_ ?_
  · refine J_iconst (v := 0) h d_Types_has_16 (by decide) ?_
    exact J_zret h rfl (by decide) d_Types_has_17
  · refine J_iload_n (q := 1) h d_Types_has_4 rfl rfl ?_
    refine J_aload_n (q := 0) h d_Types_has_5 rfl rfl ?_
    refine J_getf h 7 (wX_7 ad cA σ) (tb_ups in_Types) rfl 11 (by decide) (tb_up q_1_72) rfl d_Types_has_6 ?_
    refine J_icmp_ge (tgt := 16) h d_Types_has_9 (by decide) ?_ ?_
    · refine J_iconst (v := 0) h d_Types_has_16 (by decide) ?_
      exact J_zret h rfl (by decide) d_Types_has_17
    · refine J_iconst (v := 1) h d_Types_has_12 (by decide) ?_
      refine J_goto (tgt := 17) h d_Types_has_13 (by decide) ?_
      exact J_zret h rfl (by decide) d_Types_has_17
set_option maxRecDepth 100000 in
theorem cX_Types_has (l : Launch) (D : va_G) (ad : Nat → Nat) (cA : Nat → ClassId) (x1 : Int32) (σ : SX) (r : Int32) (σ' : SX) (hf : X_Types_has x1 σ = some (r, σ')) : MetI l y_Types_has ((Cond.code y_Types_has b_Types_has 2 (some .boolean)) :: tblG) rX_Types_has D clX (tysX cA) (wX ad cA) [.ref (ad 7), .int x1] σ r σ' :=
  jx_metI (by decide) rfl (Nat.le_of_ble_eq_true rfl) (fun K A h => J_X_Types_has K D A ad cA h x1 σ) hf
