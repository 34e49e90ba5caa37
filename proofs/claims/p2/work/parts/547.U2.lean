def pq_Rg (σ : SX) (x : Int32) : Prop := 0 ≤ x.toInt ∧ x.toInt < pq_tz σ
set_option maxRecDepth 100000 in
theorem pq_Rg.of {σ : SX} {x : Int32} (h0 : ¬ x < 0) (h1 : ¬ gX_Types_size σ ≤ x) : pq_Rg σ x := by
  rw [pq_iv_lt, pq_iv_0] at h0
  rw [pq_iv_le] at h1
  exact ⟨by omega, by simp only [pq_tz]; omega⟩
set_option maxRecDepth 100000 in
theorem pq_Rg.of' {σ : SX} {x : Int32} (h0 : ¬ x < 0) (h1 : x < gX_Types_size σ) : pq_Rg σ x := by
  rw [pq_iv_lt, pq_iv_0] at h0
  rw [pq_iv_lt] at h1
  exact ⟨by omega, h1⟩
set_option maxRecDepth 100000 in
theorem pq_Rg.n0 {σ : SX} {x : Int32} (h0 : x < 0) : ¬ pq_Rg σ x := fun z => by rw [pq_iv_lt, pq_iv_0] at h0; have := z.1; omega
set_option maxRecDepth 100000 in
theorem pq_Rg.n1 {σ : SX} {x : Int32} (h1 : gX_Types_size σ ≤ x) : ¬ pq_Rg σ x := fun z => by rw [pq_iv_le] at h1; have := z.2; simp only [pq_tz] at this; omega
set_option maxRecDepth 100000 in
theorem pq_Rg.n1' {σ : SX} {x : Int32} (h1 : ¬ x < gX_Types_size σ) : ¬ pq_Rg σ x := fun z => by rw [pq_iv_lt] at h1; have := z.2; simp only [pq_tz] at this; omega
def pq_Gf (σ : SX) (x : Int32) (v : Int) (r : Int32) (τ : SX) : Prop := τ = σ ∧ ((pq_Rg σ x ∧ r.toInt = v) ∨ (¬ pq_Rg σ x ∧ r = -1))
section GE
set_option maxRecDepth 100000 in
theorem pq_xg_kind {σ : SX} (h : pq_XI σ) (x : Int32) : pq_Tot (X_Types_kindOf x σ) (pq_Gf σ x (pq_kX σ x.toInt.toNat)) := by
  rw [X_Types_kindOf]
  exact pq_Tot.ite (fun a => pq_Tot.ret ⟨rfl, Or.inr ⟨pq_Rg.n0 a, rfl⟩⟩) (fun a => pq_Tot.ite (fun b => pq_Tot.ret ⟨rfl, Or.inr ⟨pq_Rg.n1 b, rfl⟩⟩) (fun b => pq_Tot.ite1 (h.ckx a b) (pq_Tot.ret ⟨rfl, Or.inl ⟨pq_Rg.of a b, rfl⟩⟩)))
set_option maxRecDepth 100000 in
theorem pq_xg_first {σ : SX} (h : pq_XI σ) (x : Int32) : pq_Tot (X_Types_firstOf x σ) (pq_Gf σ x (pq_oX σ x.toInt.toNat)) := by
  rw [X_Types_firstOf]
  exact pq_Tot.ite (fun a => pq_Tot.ret ⟨rfl, Or.inr ⟨pq_Rg.n0 a, rfl⟩⟩) (fun a => pq_Tot.ite (fun b => pq_Tot.ret ⟨rfl, Or.inr ⟨pq_Rg.n1 b, rfl⟩⟩) (fun b => pq_Tot.ite1 (h.ckx a b) (pq_Tot.ret ⟨rfl, Or.inl ⟨pq_Rg.of a b, rfl⟩⟩)))
set_option maxRecDepth 100000 in
theorem pq_xg_second {σ : SX} (h : pq_XI σ) (x : Int32) : pq_Tot (X_Types_secondOf x σ) (pq_Gf σ x (pq_wX σ x.toInt.toNat)) := by
  rw [X_Types_secondOf]
  exact pq_Tot.ite (fun a => pq_Tot.ret ⟨rfl, Or.inr ⟨pq_Rg.n0 a, rfl⟩⟩) (fun a => pq_Tot.ite (fun b => pq_Tot.ret ⟨rfl, Or.inr ⟨pq_Rg.n1 b, rfl⟩⟩) (fun b => pq_Tot.ite1 (h.ckx a b) (pq_Tot.ret ⟨rfl, Or.inl ⟨pq_Rg.of a b, rfl⟩⟩)))
set_option maxRecDepth 100000 in
theorem pq_xg_third {σ : SX} (h : pq_XI σ) (x : Int32) : pq_Tot (X_Types_thirdOf x σ) (pq_Gf σ x (pq_hX σ x.toInt.toNat)) := by
  rw [X_Types_thirdOf]
  exact pq_Tot.ite (fun a => pq_Tot.ret ⟨rfl, Or.inr ⟨pq_Rg.n0 a, rfl⟩⟩) (fun a => pq_Tot.ite (fun b => pq_Tot.ret ⟨rfl, Or.inr ⟨pq_Rg.n1 b, rfl⟩⟩) (fun b => pq_Tot.ite1 (h.ckx a b) (pq_Tot.ret ⟨rfl, Or.inl ⟨pq_Rg.of a b, rfl⟩⟩)))
set_option maxRecDepth 100000 in
theorem pq_xg_depth {σ : SX} (h : pq_XI σ) (x : Int32) : pq_Tot (X_Types_depthOf x σ) (fun _ τ => τ = σ) := by
  rw [X_Types_depthOf]
  exact pq_Tot.ite (fun a => pq_Tot.ret rfl) (fun a => pq_Tot.ite (fun b => pq_Tot.ret rfl) (fun b => pq_Tot.ite1 (h.ckx a b) (pq_Tot.ret rfl)))
set_option maxRecDepth 100000 in
theorem pq_xg_arg {σ : SX} (h : pq_XI σ) (x : Int32) (p : Int32) : pq_Tot (X_Types_argumentOf x p σ) (fun r τ => τ = σ ∧ ((pq_Rg σ x ∧ (r.toInt = pq_wX σ x.toInt.toNat ∨ r.toInt = pq_hX σ x.toInt.toNat)) ∨ (¬ pq_Rg σ x ∧ r = -1))) := by
  rw [X_Types_argumentOf]
  exact pq_Tot.ite (fun a => pq_Tot.ret ⟨rfl, Or.inr ⟨pq_Rg.n0 a, rfl⟩⟩) (fun a => pq_Tot.ite (fun b => pq_Tot.ite (fun _ => pq_Tot.ite1 (h.ckx' a b) (pq_Tot.ret ⟨rfl, Or.inl ⟨pq_Rg.of' a b, Or.inl rfl⟩⟩)) (fun _ => pq_Tot.ite1 (h.ckx' a b) (pq_Tot.ret ⟨rfl, Or.inl ⟨pq_Rg.of' a b, Or.inr rfl⟩⟩))) (fun b => pq_Tot.ret ⟨rfl, Or.inr ⟨pq_Rg.n1' b, rfl⟩⟩))
set_option maxRecDepth 100000 in
theorem pq_xg_isProper {σ : SX} (h : pq_XI σ) (x : Int32) : pq_Tot (X_Types_isProper x σ) (fun r τ => τ = σ ∧ (r = 0 ∨ r = 1) ∧ (r ≠ 0 → pq_Rg σ x)) := by
  rw [X_Types_isProper]
  exact pq_Tot.ite (fun a => pq_Tot.ret ⟨rfl, Or.inl rfl, fun z => absurd rfl z⟩) (fun a => pq_Tot.ite (fun b => pq_Tot.ret ⟨rfl, Or.inl rfl, fun z => absurd rfl z⟩) (fun b => pq_Tot.ite1 (h.ckx a b) (pq_Tot.ite (fun _ => pq_Tot.ret ⟨rfl, Or.inr rfl, fun _ => pq_Rg.of a b⟩) (fun _ => pq_Tot.ret ⟨rfl, Or.inl rfl, fun z => absurd rfl z⟩))))
set_option maxRecDepth 100000 in
theorem pq_xg_vars {σ : SX} (h : pq_XI σ) (x : Int32) : pq_Tot (X_Types_variablesIn x σ) (fun r τ => τ = σ ∧ (r ≠ 0 → pq_Rg σ x)) := by
  rw [X_Types_variablesIn]
  exact pq_Tot.ite (fun a => pq_Tot.ret ⟨rfl, fun z => absurd rfl z⟩) (fun a => pq_Tot.ite (fun b => pq_Tot.ret ⟨rfl, fun z => absurd rfl z⟩) (fun b => pq_Tot.ite1 (h.ckx a b) (pq_Tot.ret ⟨rfl, fun _ => pq_Rg.of a b⟩)))
set_option maxRecDepth 100000 in
theorem pq_xg_owners {σ : SX} (h : pq_XI σ) (x : Int32) (c : Int32) : pq_Tot (X_Types_ownersIn x c σ) (fun r τ => τ = σ ∧ (r ≠ 0 → pq_Rg σ x)) := by
  rw [X_Types_ownersIn]
  exact pq_Tot.ite (fun a => pq_Tot.ret ⟨rfl, fun z => absurd rfl z⟩) (fun a => pq_Tot.ite (fun b => pq_Tot.ite (fun _ => pq_Tot.ite1 (h.ckx' a b) (pq_Tot.ret ⟨rfl, fun _ => pq_Rg.of' a b⟩)) (fun _ => pq_Tot.ite1 (h.ckx' a b) (pq_Tot.ret ⟨rfl, fun _ => pq_Rg.of' a b⟩))) (fun b => pq_Tot.ret ⟨rfl, fun z => absurd rfl z⟩))
set_option maxRecDepth 100000 in
theorem pq_xg_has {σ : SX} (h : pq_XI σ) (x : Int32) : pq_Tot (X_Types_has x σ) (fun r τ => τ = σ ∧ (r = 0 ∨ r = 1) ∧ (r ≠ 0 → pq_Rg σ x)) := by
  rw [X_Types_has]
  exact pq_Tot.ite (fun a => pq_Tot.ret ⟨rfl, Or.inl rfl, fun z => absurd rfl z⟩) (fun a => pq_Tot.ite (fun b => pq_Tot.ret ⟨rfl, Or.inl rfl, fun z => absurd rfl z⟩) (fun b => pq_Tot.ret ⟨rfl, Or.inr rfl, fun _ => pq_Rg.of a b⟩))
set_option maxRecDepth 100000 in
theorem pq_ck_bX {σ : SX} (h : pq_XI σ) (x : Int32) (h0 : ¬ x < 0) (h1 : ¬ gX_Bounds_size σ ≤ x) : ck x 200 = true := by
  rw [pq_iv_lt, pq_iv_0] at h0
  rw [pq_iv_le] at h1
  have : (gX_Bounds_size σ).toInt ≤ 200 := h.2.2.1.2.1.2
  exact pq_ck_mk (by omega) (by omega)
set_option maxRecDepth 100000 in
theorem pq_xg_bsort {σ : SX} (h : pq_XI σ) (x : Int32) : pq_Tot (X_Bounds_sortOf x σ) (fun _ τ => τ = σ) := by
  rw [X_Bounds_sortOf]
  exact pq_Tot.ite (fun a => pq_Tot.ret rfl) (fun a => pq_Tot.ite (fun b => pq_Tot.ret rfl) (fun b => pq_Tot.ite1 (pq_ck_bX h x a b) (pq_Tot.ret rfl)))
set_option maxRecDepth 100000 in
theorem pq_xg_bvar {σ : SX} (h : pq_XI σ) (x : Int32) : pq_Tot (X_Bounds_variableOf x σ) (fun _ τ => τ = σ) := by
  rw [X_Bounds_variableOf]
  exact pq_Tot.ite (fun a => pq_Tot.ret rfl) (fun a => pq_Tot.ite (fun b => pq_Tot.ret rfl) (fun b => pq_Tot.ite1 (pq_ck_bX h x a b) (pq_Tot.ret rfl)))
set_option maxRecDepth 100000 in
theorem pq_xg_borigin {σ : SX} (h : pq_XI σ) (x : Int32) : pq_Tot (X_Bounds_originOf x σ) (fun _ τ => τ = σ) := by
  rw [X_Bounds_originOf]
  exact pq_Tot.ite (fun a => pq_Tot.ret rfl) (fun a => pq_Tot.ite (fun b => pq_Tot.ret rfl) (fun b => pq_Tot.ite1 (pq_ck_bX h x a b) (pq_Tot.ret rfl)))
set_option maxRecDepth 100000 in
theorem pq_m1_Zx {σ : SX} (h : pq_XI σ) : (-1 : Int32).toInt < pq_Zx σ := by rw [pq_iv_m1, pq_Zx]; split <;> omega
set_option maxRecDepth 100000 in
theorem pq_xg_btype {σ : SX} (h : pq_XI σ) (x : Int32) : pq_Tot (X_Bounds_typeOf x σ) (fun r τ => τ = σ ∧ r.toInt < pq_Zx σ) := by
  rw [X_Bounds_typeOf]
  exact pq_Tot.ite (fun a => pq_Tot.ret ⟨rfl, pq_m1_Zx h⟩) (fun a => pq_Tot.ite (fun b => pq_Tot.ret ⟨rfl, pq_m1_Zx h⟩) (fun b => pq_Tot.ite1 (pq_ck_bX h x a b) (pq_Tot.ret ⟨rfl, h.2.1.1 15 (by decide) _⟩)))
set_option maxRecDepth 100000 in
theorem pq_xg_bhas {σ : SX} (h : pq_XI σ) (x : Int32) : pq_Tot (X_Bounds_has x σ) (fun _ τ => τ = σ) := by
  rw [X_Bounds_has]
  exact pq_Tot.ite (fun a => pq_Tot.ret rfl) (fun a => pq_Tot.ite (fun b => pq_Tot.ret rfl) (fun b => pq_Tot.ret rfl))
set_option maxRecDepth 100000 in
theorem pq_xg_chas {σ : SX} (h : pq_XI σ) (x : Int32) : pq_Tot (X_Classes_has x σ) (fun r τ => τ = σ ∧ (r ≠ 0 → 0 ≤ x.toInt ∧ x.toInt < (gX_Classes_size σ).toInt)) := by
  rw [X_Classes_has]
  refine pq_Tot.ite (fun a => pq_Tot.ret ⟨rfl, fun z => absurd rfl z⟩) (fun a => pq_Tot.ite (fun b => pq_Tot.ret ⟨rfl, fun z => absurd rfl z⟩) (fun b => pq_Tot.ret ⟨rfl, fun _ => ?_⟩))
  rw [pq_iv_lt, pq_iv_0] at a
  rw [pq_iv_le] at b
  omega
set_option maxRecDepth 100000 in
theorem pq_xg_par {σ : SX} (h : pq_XI σ) (x : Int32) : pq_Tot (X_Classes_parametersOf x σ) (fun r τ => τ = σ ∧ 0 ≤ r.toInt ∧ r.toInt ≤ 2 ∧ (r.toInt ≠ 0 → 0 ≤ x.toInt ∧ x.toInt < (gX_Classes_size σ).toInt)) := by
  rw [X_Classes_parametersOf]
  refine pq_Tot.bd (pq_xg_chas h x) (fun r τ hr => ?_)
  obtain ⟨rfl, hr⟩ := hr
  have c40 : (gX_Classes_size τ).toInt ≤ 40 := h.2.2.1.1.2
  refine pq_Tot.ite (fun _ => pq_Tot.ret ⟨rfl, by decide, by decide, fun z => absurd rfl z⟩) (fun n => pq_Tot.ite1 (pq_ck_mk (hr n).1 (by have := (hr n).2; omega)) (pq_Tot.ret ⟨rfl, ?_⟩))
  have := h.2.2.1.2.2.2.2.2.2 x.toNatClampNeg
  exact ⟨this.1, this.2, fun _ => hr n⟩
set_option maxRecDepth 100000 in
theorem pq_xg_class {σ : SX} (h : pq_XI σ) (x : Int32) : pq_Tot (X_Types_classOf x σ) (fun r τ => τ = σ ∧ (r ≠ -1 → pq_Rg σ x ∧ (pq_kX σ x.toInt.toNat = 0 ∨ pq_kX σ x.toInt.toNat = 1))) := by
  rw [X_Types_classOf]
  have no : pq_Tot (some ((-1 : Int32), σ)) (fun r τ => τ = σ ∧ (r ≠ -1 → pq_Rg σ x ∧ (pq_kX σ x.toInt.toNat = 0 ∨ pq_kX σ x.toInt.toNat = 1))) := pq_Tot.ret ⟨rfl, fun z => absurd rfl z⟩
  refine pq_Tot.ite (fun a => no) (fun a => pq_Tot.ite (fun b => ?_) (fun b => no))
  have c := h.ckx' a b
  exact pq_Tot.ite1 c (pq_Tot.ite (fun k => pq_Tot.ite1 c (pq_Tot.ret ⟨rfl, fun _ => ⟨pq_Rg.of' a b, Or.inl (congrArg Int32.toInt k)⟩⟩)) (fun _ => pq_Tot.ite1 c (pq_Tot.ite (fun k => pq_Tot.ite1 c (pq_Tot.ret ⟨rfl, fun _ => ⟨pq_Rg.of' a b, Or.inr (congrArg Int32.toInt k)⟩⟩)) (fun _ => no))))
set_option maxRecDepth 100000 in
theorem pq_XI.row {σ : SX} (h : pq_XI σ) (x : Int32) (v : pq_Rg σ x) : pq_Rw σ x.toInt.toNat := h.1.2.2 _ (by have := v.1; have := v.2; omega)
set_option maxRecDepth 100000 in
theorem pq_XI.h3 {σ : SX} (h : pq_XI σ) (x : Int32) (v : pq_Rg σ x) : pq_hX σ x.toInt.toNat < pq_Zx σ := by
  have := (h.row x v).2.2.2.2.2
  have := v.1; have := v.2; have := pq_tz_Zx σ
  omega
set_option maxRecDepth 100000 in
theorem pq_XI.w2 {σ : SX} (h : pq_XI σ) (x : Int32) (v : pq_Rg σ x) (h2 : pq_kX σ x.toInt.toNat ≠ 3 ∨ 2 ≤ pq_tz σ) : pq_wX σ x.toInt.toNat < pq_Zx σ := by
  have r := h.row x v
  have := v.1; have := v.2; have := pq_tz_Zx σ
  by_cases k : pq_kX σ x.toInt.toNat = 3
  · have := r.2.2.2.2.1 k
    rcases h2 with h2 | h2
    · exact absurd k h2
    · omega
  · have := r.2.2.2.1 k; omega
set_option maxRecDepth 100000 in
theorem pq_xg_capture {σ : SX} (h : pq_XI σ) (x : Int32) (s : Int32) : pq_Tot (X_Types_captureBound x s σ) (fun r τ => τ = σ ∧ r.toInt < pq_Zx σ) := by
  rw [X_Types_captureBound]
  have no : pq_Tot (some ((-1 : Int32), σ)) (fun r τ => τ = σ ∧ r.toInt < pq_Zx σ) := pq_Tot.ret ⟨rfl, pq_m1_Zx h⟩
  refine pq_Tot.ite (fun a => no) (fun a => pq_Tot.ite (fun b => no) (fun b => ?_))
  have c := h.ckx a b
  have v := pq_Rg.of a b
  refine pq_Tot.ite1 c (pq_Tot.ite (fun k => pq_Tot.ite1 c (pq_Tot.ite1 c ?_)) (fun _ => no))
  have k8 : pq_kX σ x.toInt.toNat = 8 := congrArg Int32.toInt k
  have r := (h.row x v).2.1 (Or.inr k8)
  refine pq_Tot.bd (pq_xg_arg h _ _) (fun r1 τ h1 => ?_)
  obtain ⟨rfl, h1⟩ := h1
  refine pq_Tot.bd (pq_xg_first h r1) (fun r3 τ3 h3 => ?_)
  obtain ⟨rfl, _⟩ := h3
  refine pq_Tot.ite (fun _ => pq_Tot.bd (pq_xg_second h r1) (fun r5 τ5 h5 => ?_)) (fun _ => no)
  obtain ⟨rfl, h5⟩ := h5
  refine pq_Tot.ret ⟨rfl, ?_⟩
  rcases h5 with h5 | h5
  · rw [h5.2]
    refine h.w2 r1 h5.1 (Or.inr ?_)
    have := h5.1.1
    rcases h1 with h1 | h1
    · have f0 := h1.1.1
      have e : (aX_Types_first τ5 x.toNatClampNeg).toInt = pq_oX τ5 x.toInt.toNat := rfl
      have := r.1; have := v.2; have := v.1
      omega
    · rw [h1.2, pq_iv_m1] at this; omega
  · rw [h5.2]; exact pq_m1_Zx h
set_option maxRecDepth 100000 in
theorem pq_xg_inIt {σ : SX} (h : pq_XI σ) (x : Int32) (k : Int32) : pq_Tot (X_Types_hasInIt x k σ) (fun r τ => τ = σ ∧ (r = 0 ∨ r = 1)) := by
  rw [X_Types_hasInIt]
  exact pq_Tot.ite (fun a => pq_Tot.ret ⟨rfl, Or.inl rfl⟩) (fun a => pq_Tot.ite (fun b => pq_Tot.ret ⟨rfl, Or.inl rfl⟩) (fun b => pq_Tot.ite1 (h.ckx a b) (pq_Tot.ite (fun _ => pq_Tot.ret ⟨rfl, Or.inl rfl⟩) (fun _ => pq_Tot.ret ⟨rfl, Or.inr rfl⟩))))
set_option maxRecDepth 100000 in
theorem pq_xg_before {σ : SX} (h : pq_XI σ) (x : Int32) (c : Int32) : pq_Tot (X_Types_isOfClassesBefore x c σ) (fun r τ => τ = σ ∧ (r = 0 ∨ r = 1)) := by
  rw [X_Types_isOfClassesBefore]
  have n0 : pq_Tot (some ((0 : Int32), σ)) (fun r τ => τ = σ ∧ (r = 0 ∨ r = 1)) := pq_Tot.ret ⟨rfl, Or.inl rfl⟩
  exact pq_Tot.ite (fun a => n0) (fun a => pq_Tot.ite (fun b => n0) (fun b => pq_Tot.ite (fun _ => n0) (fun _ => pq_Tot.ite (fun _ => n0) (fun _ => pq_Tot.ite1 (h.ckx a b) (pq_Tot.ite (fun _ => pq_Tot.ret ⟨rfl, Or.inr rfl⟩) (fun _ => n0))))))
set_option maxRecDepth 100000 in
theorem pq_xg_ohas {σ : SX} (h : pq_XI σ) (x : Int32) : pq_Tot (X_Told_has x σ) (fun r τ => τ = σ ∧ (r ≠ 0 → ck x 60 = true)) := by
  rw [X_Told_has]
  refine pq_Tot.ite (fun a => pq_Tot.ret ⟨rfl, fun z => absurd rfl z⟩) (fun a => pq_Tot.ite (fun b => pq_Tot.ret ⟨rfl, fun z => absurd rfl z⟩) (fun b => pq_Tot.ret ⟨rfl, fun _ => ?_⟩))
  rw [pq_iv_lt, pq_iv_0] at a
  rw [pq_iv_le] at b
  have : (gX_Told_size σ).toInt ≤ 60 := h.2.2.1.2.2.2.2.1.2
  exact pq_ck_mk (by omega) (by omega)
set_option maxRecDepth 100000 in
theorem pq_xg_osort {σ : SX} (h : pq_XI σ) (x : Int32) : pq_Tot (X_Told_sortOf x σ) (fun _ τ => τ = σ) := by
  rw [X_Told_sortOf]
  refine pq_Tot.bd (pq_xg_ohas h x) (fun r τ hr => ?_)
  obtain ⟨rfl, hr⟩ := hr
  exact pq_Tot.ite (fun _ => pq_Tot.ret rfl) (fun n => pq_Tot.ite1 (hr n) (pq_Tot.ret rfl))
set_option maxRecDepth 100000 in
theorem pq_xg_oleft {σ : SX} (h : pq_XI σ) (x : Int32) : pq_Tot (X_Told_leftOf x σ) (fun r τ => τ = σ ∧ r.toInt < pq_Zx σ) := by
  rw [X_Told_leftOf]
  refine pq_Tot.bd (pq_xg_ohas h x) (fun r τ hr => ?_)
  obtain ⟨rfl, hr⟩ := hr
  exact pq_Tot.ite (fun _ => pq_Tot.ret ⟨rfl, pq_m1_Zx h⟩) (fun n => pq_Tot.ite1 (hr n) (pq_Tot.ret ⟨rfl, h.2.1.1 29 (by decide) _⟩))
set_option maxRecDepth 100000 in
theorem pq_xg_oright {σ : SX} (h : pq_XI σ) (x : Int32) : pq_Tot (X_Told_rightOf x σ) (fun r τ => τ = σ ∧ r.toInt < pq_Zx σ) := by
  rw [X_Told_rightOf]
  refine pq_Tot.bd (pq_xg_ohas h x) (fun r τ hr => ?_)
  obtain ⟨rfl, hr⟩ := hr
  exact pq_Tot.ite (fun _ => pq_Tot.ret ⟨rfl, pq_m1_Zx h⟩) (fun n => pq_Tot.ite1 (hr n) (pq_Tot.ret ⟨rfl, h.2.1.1 30 (by decide) _⟩))
set_option maxRecDepth 100000 in
theorem pq_xg_loose {σ : SX} (h : pq_XI σ) (x : Int32) : pq_Tot (X_Told_isUnchecked x σ) (fun _ τ => τ = σ) := by
  rw [X_Told_isUnchecked]
  refine pq_Tot.bd (pq_xg_ohas h x) (fun r τ hr => ?_)
  obtain ⟨rfl, hr⟩ := hr
  exact pq_Tot.ite (fun _ => pq_Tot.ret rfl) (fun n => pq_Tot.ite1 (hr n) (pq_Tot.ite (fun _ => pq_Tot.ret rfl) (fun _ => pq_Tot.ret rfl)))
set_option maxRecDepth 100000 in
theorem pq_xg_reaches {σ : SX} (h : pq_XI σ) (x : Int32) (g : Int32) : pq_Tot (X_Classes_reaches x g σ) (fun r τ => τ = σ ∧ (r ≠ 0 → 0 ≤ x.toInt)) := by
  rw [X_Classes_reaches]
  have c40 : (gX_Classes_size σ).toInt ≤ 40 := h.2.2.1.1.2
  refine pq_Tot.bd (pq_xg_chas h x) (fun r τ hr => ?_)
  obtain ⟨rfl, hr⟩ := hr
  refine pq_Tot.ite (fun _ => pq_Tot.ret ⟨rfl, fun z => absurd rfl z⟩) (fun n => pq_Tot.bd (pq_xg_chas h g) (fun r2 τ2 h2 => ?_))
  obtain ⟨rfl, h2⟩ := h2
  exact pq_Tot.ite (fun _ => pq_Tot.ret ⟨rfl, fun z => absurd rfl z⟩) (fun _ => pq_Tot.ite1 (pq_ck_mk (hr n).1 (by have := (hr n).2; omega)) (pq_Tot.ite (fun _ => pq_Tot.ret ⟨rfl, fun z => absurd rfl z⟩) (fun _ => pq_Tot.ret ⟨rfl, fun _ => (hr n).1⟩)))
end GE
set_option maxRecDepth 100000 in
theorem pq_ix3 {c n : Int32} (h0 : 0 ≤ c.toInt) (h1 : c.toInt < 40) (n0 : 0 ≤ n.toInt) (n1 : n.toInt < 3) : ck (c * 3 + n) 120 = true := by
  have t : (3 : Int32).toInt = 3 := rfl
  have m : (c * 3).toInt = c.toInt * 3 := by rw [pq_iv_mul (by rw [t]; omega) (by rw [t]; omega), t]
  have s : (c * 3 + n).toInt = c.toInt * 3 + n.toInt := by rw [pq_iv_add (by rw [m]; omega) (by rw [m]; omega), m]
  exact pq_ck_mk (by rw [s]; omega) (by rw [s]; omega)
set_option maxRecDepth 100000 in
theorem pq_xg_towards {σ : SX} {N : Nat} (hN : 5 ≤ N) (h : pq_XI σ) (x g : Int32) : pq_Tot (X_Classes_parentTowards N x g σ) (fun r τ => τ = σ ∧ r.toInt < pq_Zx σ) := by
  rw [X_Classes_parentTowards]
  have c40 : (gX_Classes_size σ).toInt ≤ 40 := h.2.2.1.1.2
  have no : pq_Tot (some ((-1 : Int32), σ)) (fun r τ => τ = σ ∧ r.toInt < pq_Zx σ) := pq_Tot.ret ⟨rfl, pq_m1_Zx h⟩
  refine pq_Tot.bd (pq_xg_chas h x) (fun r τ hr => ?_)
  obtain ⟨rfl, hr⟩ := hr
  refine pq_Tot.ite (fun _ => no) (fun n => ?_)
  have hx := hr n
  have key : ∀ (m : Nat) (v3 : Int32), 0 ≤ v3.toInt → v3.toInt ≤ 3 → 3 - v3.toInt < m → pq_Tot (X_Classes_parentTowards_L12 N (X_Classes_parentTowards_b64 N) m x g v3 τ) (fun r τ' => τ' = τ ∧ r.toInt < pq_Zx τ) := by
    intro m
    induction m with
    | zero => intro v3 _ _ h; omega
    | succ m ih =>
      intro v3 z0 z1 hm
      rw [X_Classes_parentTowards_L12]
      refine pq_Tot.ite1 (pq_ck_mk hx.1 (by omega)) (pq_Tot.ite (fun _ => no) (fun _ => pq_Tot.ite (fun _ => no) (fun lt => ?_)))
      rw [pq_iv_le, show (3 : Int32).toInt = 3 from rfl] at lt
      have c := pq_ix3 hx.1 (by omega) z0 (by omega)
      have e3 : (v3 + 1).toInt = v3.toInt + 1 := pq_iv_add (by rw [pq_iv_1]; omega) (by rw [pq_iv_1]; omega)
      have nx : pq_Tot (X_Classes_parentTowards_b75 N (X_Classes_parentTowards_L12 N (X_Classes_parentTowards_b64 N) m) x g v3 τ) (fun r τ' => τ' = τ ∧ r.toInt < pq_Zx τ) := by
        rw [X_Classes_parentTowards_b75]
        exact pq_Tot.nm (ih (v3 + 1) (by omega) (by omega) (by omega))
      refine pq_Tot.ite1 c (pq_Tot.nm (pq_Tot.bd (pq_xg_chas h _) (fun r2 τ2 h2 => ?_)))
      obtain ⟨rfl, h2⟩ := h2
      refine pq_Tot.ite (fun _ => nx) (fun n2 => pq_Tot.ite1 (pq_ck_mk (h2 n2).1 (by have := (h2 n2).2; omega)) (pq_Tot.ite (fun _ => nx) (fun _ => ?_)))
      rw [X_Classes_parentTowards_b64]
      exact pq_Tot.ite1 c (pq_Tot.ret ⟨rfl, h.2.1.1 2 (by decide) _⟩)
  exact key N 0 (by decide) (by decide) (by rw [pq_iv_0]; omega)
