def pq_tdI (σ : SM) : Int := (gM_M_told σ).toInt
def pq_tlI (σ : SM) (i : Nat) : Int := (aM_M_toldLeft σ i).toInt
def pq_trI (σ : SM) (i : Nat) : Int := (aM_M_toldRight σ i).toInt
def pq_Iv (σ : SM) : Prop :=
  pq_Tb σ ∧ pq_Pb σ ∧ pq_Bd σ ∧ pq_P9 σ ∧ ¬ pq_fl σ ∧ (0 ≤ pq_icI σ ∧ pq_icI σ ≤ 20000) ∧ (0 ≤ pq_heI σ ∧ pq_heI σ ≤ pq_bI σ) ∧ (0 ≤ pq_vaI σ ∧ pq_vaI σ ≤ 12) ∧ (0 ≤ pq_tdI σ ∧ pq_tdI σ ≤ 60) ∧
  (∀ i : Nat, (i : Int) < pq_tdI σ → pq_vt σ (pq_tlI σ i) ∧ pq_vt σ (pq_trI σ i)) ∧ (∀ c : Nat, (c : Int) < pq_cI σ → 0 ≤ pq_pI σ c ∧ pq_pI σ c ≤ 2) ∧ (pq_vaI σ = 0 → pq_bI σ = 0)
noncomputable def pq_Ph (σ : SM) : Int := 8300000 + (if 1 ≤ pq_vaI σ then 3900000 else 0) + (if 1 ≤ pq_bI σ then 7500000 else 0) - pq_pr (pq_heI σ).toNat + (if gM_M_state σ = 0 then pq_RC * (pq_Us σ : Int) else 0)
def pq_Wc (D cc : Int) (σ : SM) : Prop := pq_Iv σ ∧ (∃ K : Nat, pq_Sn K σ ∧ (K : Int) + pq_Ph σ ≤ D) ∧ pq_cI σ = cc
variable {cc : Int}
abbrev pq_CC : Int := 8372000
set_option maxRecDepth 100000 in
theorem pq_pr_nn (n : Nat) : 0 ≤ pq_pr n := pq_pr_mono (Nat.zero_le n)
set_option maxRecDepth 100000 in
theorem pq_Ph_nn {σ : SM} (h : pq_Iv σ) : 0 ≤ pq_Ph σ := by
  obtain ⟨h1, h2, h3, h4, h5, h6, h7, h8, h9, h10, h11, h12⟩ := h
  have rr : (0 : Int) ≤ (if gM_M_state σ = 0 then pq_RC * (pq_Us σ : Int) else 0) := by
    split
    · exact Int.mul_nonneg (by decide) (by omega)
    · omega
  have b0 := h3.1
  have b2 := h3.2.1
  rw [pq_Ph]
  by_cases b : 1 ≤ pq_bI σ
  · have v : 1 ≤ pq_vaI σ := by
      refine Classical.byContradiction (fun z => ?_)
      have := h12 (by omega); omega
    have : pq_pr (pq_heI σ).toNat ≤ 18546800 := by rw [← pq_pr200]; exact pq_pr_mono (by omega)
    rw [if_pos b, if_pos v]; omega
  · have : (pq_heI σ).toNat = 0 := by omega
    rw [this, if_neg b, pq_pr]
    split <;> omega
set_option maxRecDepth 100000 in
theorem pq_Wc.le {D D' : Int} {σ : SM} (h : pq_Wc D cc σ) (k : D ≤ D') : pq_Wc D' cc σ := by
  obtain ⟨a, ⟨K, b, c⟩, d⟩ := h
  exact ⟨a, ⟨K, b, by omega⟩, d⟩
set_option maxRecDepth 100000 in
theorem pq_frI {L A : List Nat} {σ τ : SM} (f : pq_fr L A σ τ) : (4 ∉ L → pq_vaI τ = pq_vaI σ) ∧ (16 ∉ L → pq_bI τ = pq_bI σ) ∧ (17 ∉ L → pq_heI τ = pq_heI σ) ∧ (18 ∉ L → pq_tdI τ = pq_tdI σ) ∧ (19 ∉ L → gM_M_state τ = gM_M_state σ) ∧ (9 ∉ L → pq_icI τ = pq_icI σ) ∧ (33 ∉ A → ∀ i, pq_tlI τ i = pq_tlI σ i) ∧ (34 ∉ A → ∀ i, pq_trI τ i = pq_trI σ i) :=
  ⟨fun h => by show (τ.1 4).toInt = _; rw [f.1 4 h]; rfl, fun h => by show (τ.1 16).toInt = _; rw [f.1 16 h]; rfl, fun h => by show (τ.1 17).toInt = _; rw [f.1 17 h]; rfl, fun h => by show (τ.1 18).toInt = _; rw [f.1 18 h]; rfl, fun h => f.1 19 h, fun h => by show (τ.1 9).toInt = _; rw [f.1 9 h]; rfl, fun h i => by show (τ.2.1 33 i).toInt = _; rw [f.2.1 33 h]; rfl, fun h i => by show (τ.2.1 34 i).toInt = _; rw [f.2.1 34 h]; rfl⟩
set_option maxRecDepth 100000 in
theorem pq_Iv.easy {σ τ : SM} (h : pq_Iv σ) (hT : pq_Tb τ) (e : pq_Ex σ τ) {L A : List Nat} (f : pq_fr L A σ τ) (hL : ∀ i ∈ [4, 9, 16, 17, 18, 19], i ∉ L) (hA : ∀ i ∈ [1, 2, 28, 29, 30, 33, 34], i ∉ A) (nf : ¬ pq_fl τ) : pq_Iv τ ∧ pq_Ph τ ≤ pq_Ph σ := by
  obtain ⟨h1, h2, h3, h4, h5, h6, h7, h8, h9, h10, h11, h12⟩ := h
  have q := pq_frI f
  have e4 := q.1 (hL 4 (by decide))
  have e16 := q.2.1 (hL 16 (by decide))
  have e17 := q.2.2.1 (hL 17 (by decide))
  have e18 := q.2.2.2.1 (hL 18 (by decide))
  have e19 := q.2.2.2.2.1 (hL 19 (by decide))
  have e9 := q.2.2.2.2.2.1 (hL 9 (by decide))
  have e33 := q.2.2.2.2.2.2.1 (hA 33 (by decide))
  have e34 := q.2.2.2.2.2.2.2 (hA 34 (by decide))
  have bg := pq_BG.fr f (hL 16 (by decide)) (hA 28 (by decide)) (hA 29 (by decide)) (hA 30 (by decide))
  refine ⟨⟨hT, h2.fr e f (hA 1 (by decide)) (hA 2 (by decide)), h3.ex e bg.1 bg.2, h4.ex e, nf, by rw [e9]; exact h6, by rw [e17, e16]; exact h7, by rw [e4]; exact h8, by rw [e18]; exact h9, fun i hi => ?_, fun c hc => ?_, by rw [e4, e16]; exact h12⟩, ?_⟩
  · rw [e18] at hi
    rw [e33, e34]
    exact ⟨e.vt (h10 i hi).1, e.vt (h10 i hi).2⟩
  · rw [e.1] at hc
    rw [e.2.1]; exact h11 c hc
  · have us : pq_Us τ ≤ pq_Us σ := pq_Us.g h3 e bg.1 e4
    rw [pq_Ph, pq_Ph, e4, e16, e17, e19]
    have r : pq_RC * (pq_Us τ : Int) ≤ pq_RC * (pq_Us σ : Int) := Int.mul_le_mul_of_nonneg_left (by omega) (by decide)
    have key : (if gM_M_state σ = 0 then pq_RC * (pq_Us τ : Int) else 0) ≤ (if gM_M_state σ = 0 then pq_RC * (pq_Us σ : Int) else 0) := by
      by_cases s : gM_M_state σ = 0
      · rw [if_pos s, if_pos s]; exact r
      · rw [if_neg s, if_neg s]; exact Int.le_refl _
    omega
set_option maxRecDepth 100000 in
theorem pq_Wc.keep {D : Int} {σ τ : SM} (h : pq_Wc D cc σ) (hT : pq_Tb τ) (e : pq_Ex σ τ) {L A : List Nat} (f : pq_fr L A σ τ) (hL : ∀ i ∈ [4, 5, 9, 16, 17, 18, 19], i ∉ L) (hA : ∀ i ∈ [1, 2, 17, 28, 29, 30, 33, 34], i ∉ A) (nf : ¬ pq_fl τ) : pq_Wc D cc τ := by
  have q := h.1.easy hT e f (fun i hi => hL i (by revert i; decide)) (fun i hi => hA i (by revert i; decide)) nf
  obtain ⟨K, k1, k2⟩ := h.2.1
  exact ⟨q.1, ⟨K, k1.fr f (hL 5 (by decide)) (hA 17 (by decide)), by omega⟩, e.1.trans h.2.2⟩
section EC
variable {N : Nat} {D : Int} {σ : SM}
def pq_Go (D cc : Int) (F : Option (Int32 × SM)) : Prop := pq_Tot F (fun _ τ => pq_Wc D cc τ)
set_option maxRecDepth 100000 in
theorem pq_Go.ret (h : pq_Wc D cc σ) {r : Int32} : pq_Go D cc (some (r, σ)) := pq_Tot.ret h
set_option maxRecDepth 100000 in
theorem pq_isType_ok (x : Int32) : pq_Tot (M_M_isType x σ) (fun r τ => τ = σ ∧ (r ≠ 0 → pq_vt σ x.toInt)) := by
  rw [M_M_isType]
  refine pq_Tot.ite (fun _ => pq_Tot.ret ⟨rfl, fun z => absurd rfl z⟩) (fun a => pq_Tot.ite (fun _ => pq_Tot.ret ⟨rfl, fun z => absurd rfl z⟩) (fun b => pq_Tot.ret ⟨rfl, fun _ => ⟨?_, ?_⟩⟩))
  · rw [pq_iv_lt, pq_iv_0] at a; omega
  · rw [pq_iv_le] at b; simp only [pq_tI]; omega
set_option maxRecDepth 100000 in
theorem pq_isClass_ok (x : Int32) : pq_Tot (M_M_isClass x σ) (fun r τ => τ = σ ∧ (r ≠ 0 → 0 ≤ x.toInt ∧ x.toInt < pq_cI σ)) := by
  rw [M_M_isClass]
  refine pq_Tot.ite (fun _ => pq_Tot.ret ⟨rfl, fun z => absurd rfl z⟩) (fun a => pq_Tot.ite (fun _ => pq_Tot.ret ⟨rfl, fun z => absurd rfl z⟩) (fun b => pq_Tot.ret ⟨rfl, fun _ => ⟨?_, ?_⟩⟩))
  · rw [pq_iv_lt, pq_iv_0] at a; omega
  · rw [pq_iv_le] at b; simp only [pq_cI]; omega
set_option maxRecDepth 100000 in
theorem pq_isArgument_ok (hT : pq_Tb σ) (x : Int32) : pq_Tot (M_M_isArgument x σ) (fun r τ => τ = σ ∧ (r ≠ 0 → pq_vt σ x.toInt)) := by
  rw [M_M_isArgument]
  refine pq_Tot.bd (pq_isType_ok x) (fun r τ hr => ?_)
  obtain ⟨rfl, hr⟩ := hr
  have r0 : pq_Tot (some ((0 : Int32), τ)) (fun r υ => υ = τ ∧ (r ≠ 0 → pq_vt τ x.toInt)) := pq_Tot.ret ⟨rfl, fun z => absurd rfl z⟩
  refine pq_Tot.ite (fun _ => r0) (fun n => ?_)
  have c := pq_ck_vt hT (hr n)
  exact pq_Tot.ite1 c (pq_Tot.ite (fun _ => r0) (fun _ => pq_Tot.ite1 c (pq_Tot.ite (fun _ => r0) (fun _ => pq_Tot.ret ⟨rfl, fun _ => hr n⟩))))
set_option maxRecDepth 100000 in
theorem pq_made_ok {τ : SM} (h : pq_Wc D cc σ) (hT : pq_Tb τ) (e : pq_Ex σ τ) (f : pq_fr pq_LM pq_AM σ τ) (r : Int32) : pq_Tot (M_M_made r τ) (fun _ υ => pq_Wc D cc υ) := by
  rw [M_M_made]
  refine pq_Tot.nm (pq_Tot.nm ?_)
  have f' : pq_fr [2] [] τ (sM_M_full τ 0) := pq_fr.s pq_fr.rf (by decide) _
  have ex := f'.ex (by decide)
  have w : pq_Wc D cc (sM_M_full τ 0) := h.keep (pq_Tb.ex ex.1 ex.2 hT) (e.tr ex.1) (f.tr (f'.up (by decide) (by decide))) (by decide) (by decide) (fun z => z rfl)
  exact pq_Tot.ite (fun _ => pq_Tot.ret w) (fun _ => pq_Tot.ret w)
set_option maxRecDepth 100000 in
theorem pq_make_go (hN : 501 ≤ N) (h : pq_Wc D cc σ) {a b c d : Int32} (ho : pq_Okk σ (pq_tI σ) a.toInt b.toInt c.toInt d.toInt) : pq_Tot (bd (M_M_make N a b c d σ) (fun (r7 : Int32) (σ8 : SM) => (bd (M_M_made r7 σ8) (fun (r9 : Int32) (σ10 : SM) => (some (r9, σ10)))))) (fun _ τ => pq_Wc D cc τ) :=
  pq_Tot.bd (pq_make_ok hN h.1.1 (fun _ => ho)) (fun r τ hr => pq_Tot.bd (pq_made_ok h hr.1 hr.2.1 hr.2.2.1 r) (fun _ _ w => pq_Tot.ret w))
set_option maxRecDepth 100000 in
theorem pq_plain_go (hN : 501 ≤ N) (h : pq_Wc D cc σ) (x : Int32) : pq_Go D cc (M_M_plain N x σ) := by
  rw [pq_Go, M_M_plain]
  refine pq_Tot.bd (pq_isClass_ok x) (fun r τ hr => ?_)
  obtain ⟨rfl, hr⟩ := hr
  refine pq_Tot.ite (fun _ => pq_Tot.ret h) (fun n => pq_Tot.bd (pq_plainOf_ok hN h.1.1 (fun _ => hr n)) (fun r τ' hr' => pq_Tot.bd (pq_made_ok h hr'.1 hr'.2.1 hr'.2.2.1 r) (fun _ _ w => pq_Tot.ret w)))
set_option maxRecDepth 100000 in
theorem pq_of_go (hN : 501 ≤ N) (h : pq_Wc D cc σ) (x a b : Int32) : pq_Go D cc (M_M_of N x a b σ) := by
  rw [pq_Go, M_M_of]
  refine pq_Tot.bd (pq_isClass_ok x) (fun r τ hr => ?_)
  obtain ⟨rfl, hr⟩ := hr
  refine pq_Tot.ite (fun _ => pq_Tot.ret h) (fun n => ?_)
  have hx := hr n
  have c40 := h.1.1.2.1
  have cx : ck x 40 = true := pq_ck_mk hx.1 (by omega)
  have pe : (aM_M_parameters τ x.toNatClampNeg).toInt = pq_pI τ x.toInt.toNat := rfl
  have pb := h.1.2.2.2.2.2.2.2.2.2.2.1 x.toInt.toNat (by omega)
  refine pq_Tot.ite1 cx (pq_Tot.ite (fun _ => pq_Tot.ret h) (fun np => ?_))
  have np' : pq_pI τ x.toInt.toNat ≠ 0 := fun z => np (pq_iv_eq.2 (by rw [pe, z]; rfl))
  have x9 : 9 ≤ x.toInt := Classical.byContradiction (fun z => np' (h.1.2.2.2.1 x.toInt.toNat (by omega)))
  refine pq_Tot.bd (pq_isArgument_ok h.1.1 a) (fun r2 τ2 hr2 => ?_)
  obtain ⟨rfl, ha⟩ := hr2
  refine pq_Tot.ite (fun _ => pq_Tot.ret h) (fun na => pq_Tot.ite1 cx ?_)
  have va := ha na
  have mk : ∀ d : Int32, (d = -1 ∧ pq_pI τ2 x.toInt.toNat = 1 ∨ pq_vt τ2 d.toInt ∧ pq_pI τ2 x.toInt.toNat = 2) → pq_Tot (M_M_of_b66 N d a x 1 τ2) (fun _ τ => pq_Wc D cc τ) := fun d hd => by
    rw [M_M_of_b66]
    refine pq_make_go hN h ⟨fun e => absurd e (by decide), fun _ => ⟨x9, hx.2, va.1, va.2, ?_⟩, fun e => absurd e (by decide), fun e => absurd e (by decide), fun e => absurd e (by decide), fun e => absurd e (by decide), fun e => absurd e (by decide), fun e => absurd e (by decide)⟩
    rcases hd with y | y
    · exact Or.inl ⟨by rw [y.1]; rfl, y.2⟩
    · exact Or.inr ⟨y.1.1, y.1.2, y.2⟩
  have b46 : (pq_pI τ2 x.toInt.toNat = 2 → pq_vt τ2 b.toInt) → pq_Tot (M_M_of_b46 N x a b τ2) (fun _ τ => pq_Wc D cc τ) := fun hb => by
    rw [M_M_of_b46]
    refine pq_Tot.ite1 cx (pq_Tot.ite (fun e => mk b (Or.inr ⟨hb ?_, ?_⟩)) (fun e => mk (-1) (Or.inl ⟨rfl, ?_⟩)))
    · rw [← pe, e]; rfl
    · rw [← pe, e]; rfl
    · have : pq_pI τ2 x.toInt.toNat ≠ 2 := fun z => e (pq_iv_eq.2 (by rw [pe, z]; rfl))
      omega
  refine pq_Tot.ite (fun _ => pq_Tot.bd (pq_isArgument_ok h.1.1 b) (fun r3 τ3 hr3 => ?_)) (fun ne => b46 (fun z => absurd (pq_iv_eq.2 (by rw [pe, z]; rfl)) ne))
  obtain ⟨rfl, hb⟩ := hr3
  exact pq_Tot.ite (fun _ => pq_Tot.ret h) (fun nb => b46 (fun _ => hb nb))
set_option maxRecDepth 100000 in
theorem pq_wild_go (hN : 501 ≤ N) (h : pq_Wc D cc σ) (x b : Int32) : pq_Go D cc (M_M_wild N x b σ) := by
  rw [pq_Go, M_M_wild]
  have two : (2 : Int32).toInt = 2 := rfl
  refine pq_Tot.ite (fun _ => pq_Tot.ret h) (fun n0 => pq_Tot.ite (fun _ => pq_Tot.ret h) (fun n2 => ?_))
  rw [pq_iv_lt, pq_iv_0] at n0
  rw [pq_iv_lt, two] at n2
  have b34 : (0 < x.toInt → pq_vt σ b.toInt) → pq_Tot (M_M_wild_b34 N x b σ) (fun _ τ => pq_Wc D cc τ) := fun hb => by
    rw [M_M_wild_b34]
    have mk : ∀ d : Int32, (0 < x.toInt → pq_vt σ d.toInt) → pq_Tot (M_M_wild_b47 N d x 2 σ) (fun _ τ => pq_Wc D cc τ) := fun d hd => by
      rw [M_M_wild_b47]
      exact pq_make_go hN h ⟨fun e => absurd e (by decide), fun e => absurd e (by decide), fun _ => ⟨by omega, by omega, fun z => hd z⟩, fun e => absurd e (by decide), fun e => absurd e (by decide), fun e => absurd e (by decide), fun e => absurd e (by decide), fun e => absurd e (by decide)⟩
    exact pq_Tot.ite (fun e => mk (-1) (fun z => by rw [e, pq_iv_0] at z; omega)) (fun _ => mk b hb)
  refine pq_Tot.ite (fun e => b34 (fun z => by rw [pq_iv_le, pq_iv_0] at e; omega)) (fun _ => pq_Tot.bd (pq_isArgument_ok h.1.1 b) (fun r τ hr => ?_))
  obtain ⟨rfl, hb⟩ := hr
  exact pq_Tot.ite (fun _ => pq_Tot.ret h) (fun nb => pq_Tot.ite1 (pq_ck_vt h.1.1 (hb nb)) (pq_Tot.ite (fun _ => pq_Tot.ret h) (fun _ => b34 (fun _ => hb nb))))
set_option maxRecDepth 100000 in
theorem pq_parameter_go (hN : 501 ≤ N) (h : pq_Wc D cc σ) (x i : Int32) : pq_Go D cc (M_M_parameter N x i σ) := by
  rw [pq_Go, M_M_parameter]
  refine pq_Tot.bd (pq_isClass_ok x) (fun r τ hr => ?_)
  obtain ⟨rfl, hr⟩ := hr
  refine pq_Tot.ite (fun _ => pq_Tot.ret h) (fun n => pq_Tot.ite (fun _ => pq_Tot.ret h) (fun i0 => ?_))
  have hx := hr n
  have c40 := h.1.1.2.1
  have pb := h.1.2.2.2.2.2.2.2.2.2.2.1 x.toInt.toNat (by omega)
  refine pq_Tot.ite1 (pq_ck_mk hx.1 (by omega)) (pq_Tot.ite (fun _ => pq_Tot.ret h) (fun i1 => ?_))
  rw [pq_iv_lt, pq_iv_0] at i0
  rw [pq_iv_le] at i1
  have pe : (aM_M_parameters τ x.toNatClampNeg).toInt = pq_pI τ x.toInt.toNat := rfl
  exact pq_make_go hN h ⟨fun e => absurd e (by decide), fun e => absurd e (by decide), fun e => absurd e (by decide), fun _ => ⟨hx.1, hx.2, by omega, by omega⟩, fun e => absurd e (by decide), fun e => absurd e (by decide), fun e => absurd e (by decide), fun e => absurd e (by decide)⟩
set_option maxRecDepth 100000 in
theorem pq_array_go (hN : 501 ≤ N) (h : pq_Wc D cc σ) (x : Int32) : pq_Go D cc (M_M_array N x σ) := by
  rw [pq_Go, M_M_array]
  refine pq_Tot.bd (pq_isType_ok x) (fun r τ hr => ?_)
  obtain ⟨rfl, hr⟩ := hr
  refine pq_Tot.ite (fun _ => pq_Tot.ret h) (fun n => ?_)
  have c := pq_ck_vt h.1.1 (hr n)
  exact pq_Tot.ite1 c (pq_Tot.ite (fun _ => pq_Tot.ret h) (fun _ => pq_Tot.ite1 c (pq_Tot.ite (fun _ => pq_Tot.ret h) (fun _ => pq_make_go hN h ⟨fun e => absurd e (by decide), fun e => absurd e (by decide), fun e => absurd e (by decide), fun e => absurd e (by decide), fun _ => hr n, fun e => absurd e (by decide), fun e => absurd e (by decide), fun e => absurd e (by decide)⟩))))
set_option maxRecDepth 100000 in
theorem pq_primitive_go (hN : 501 ≤ N) (h : pq_Wc D cc σ) (x : Int32) : pq_Go D cc (M_M_primitive N x σ) := by
  rw [pq_Go, M_M_primitive]
  refine pq_Tot.ite (fun _ => pq_Tot.ret h) (fun n0 => pq_Tot.ite (fun n7 => ?_) (fun _ => pq_Tot.ret h))
  rw [pq_iv_lt, pq_iv_0] at n0
  rw [pq_iv_le, show (7 : Int32).toInt = 7 from rfl] at n7
  exact pq_make_go hN h ⟨fun e => absurd e (by decide), fun e => absurd e (by decide), fun e => absurd e (by decide), fun e => absurd e (by decide), fun e => absurd e (by decide), fun _ => ⟨by omega, n7⟩, fun e => absurd e (by decide), fun e => absurd e (by decide)⟩
set_option maxRecDepth 100000 in
theorem pq_nothing_go (hN : 501 ≤ N) (h : pq_Wc D cc σ) : pq_Go D cc (M_M_nothing N σ) := by
  rw [pq_Go, M_M_nothing]
  exact pq_make_go hN h ⟨fun e => absurd e (by decide), fun e => absurd e (by decide), fun e => absurd e (by decide), fun e => absurd e (by decide), fun e => absurd e (by decide), fun e => absurd e (by decide), fun e => absurd e (by decide), fun e => absurd e (by decide)⟩
set_option maxRecDepth 100000 in
theorem pq_count_go (h : pq_Wc D cc σ) (x : Int32) : pq_Go D cc (M_M_count x σ) := by
  rw [pq_Go, M_M_count]
  iterate 8 refine pq_Tot.ite (fun _ => pq_Tot.ret h) (fun _ => ?_)
  exact pq_Tot.ret h
set_option maxRecDepth 100000 in
theorem pq_type_go (h : pq_Wc D cc σ) (x y : Int32) : pq_Go D cc (M_M_type x y σ) := by
  rw [pq_Go, M_M_type]
  refine pq_Tot.bd (pq_isType_ok x) (fun r τ hr => ?_)
  obtain ⟨rfl, hr⟩ := hr
  refine pq_Tot.ite (fun _ => pq_Tot.ret h) (fun n => pq_Tot.ite (fun _ => pq_Tot.ret h) (fun _ => pq_Tot.ite (fun _ => ?_) (fun _ => pq_Tot.ret h)))
  have c := pq_ck_vt h.1.1 (hr n)
  iterate 5 refine pq_Tot.ite (fun _ => pq_Tot.ite1 c (pq_Tot.ret h)) (fun _ => ?_)
  exact pq_Tot.ite1 c (pq_Tot.ite (fun _ => pq_Tot.ret h) (fun _ => pq_Tot.ret h))
set_option maxRecDepth 100000 in
theorem pq_bound_go (h : pq_Wc D cc σ) (x y : Int32) : pq_Go D cc (M_M_bound x y σ) := by
  rw [pq_Go, M_M_bound]
  refine pq_Tot.ite (fun _ => pq_Tot.ret h) (fun n0 => pq_Tot.ite (fun _ => pq_Tot.ret h) (fun n1 => pq_Tot.ite (fun _ => pq_Tot.ret h) (fun _ => pq_Tot.ite (fun _ => ?_) (fun _ => pq_Tot.ret h))))
  rw [pq_iv_lt, pq_iv_0] at n0
  rw [pq_iv_le] at n1
  have c := pq_ck_bd h.1.2.2.1 (x := x) (by omega) (by simp only [pq_bI]; omega)
  iterate 3 refine pq_Tot.ite (fun _ => pq_Tot.ite1 c (pq_Tot.ret h)) (fun _ => ?_)
  exact pq_Tot.ite1 c (pq_Tot.ret h)
set_option maxRecDepth 100000 in
theorem pq_instance_go (hN : 501 ≤ N) (h : pq_Wc D cc σ) (x : Int32) : pq_Go D cc (M_M_instance N x σ) := by
  rw [pq_Go, M_M_instance]
  exact pq_Tot.ite (fun _ => pq_Tot.ret h) (fun _ => pq_Tot.ite (fun _ => pq_Tot.bd (pq_instanceOf_ok (by omega) h.1.1 h.1.2.2.1) (fun r τ hr => by rw [hr.1]; exact pq_Tot.ret h)) (fun _ => pq_Tot.ret h))
set_option maxRecDepth 100000 in
theorem pq_unchecked_go (h : pq_Wc D cc σ) (x : Int32) : pq_Go D cc (M_M_unchecked x σ) := by
  rw [pq_Go, M_M_unchecked]
  refine pq_Tot.ite (fun _ => pq_Tot.ret h) (fun n0 => pq_Tot.ite (fun n1 => ?_) (fun _ => pq_Tot.ret h))
  rw [pq_iv_lt, pq_iv_0] at n0
  rw [pq_iv_lt] at n1
  have t := h.1.2.2.2.2.2.2.2.2.1
  have te : (gM_M_told σ).toInt = pq_tdI σ := rfl
  exact pq_Tot.ite1 (pq_ck_mk (by omega) (by omega)) (pq_Tot.ite (fun _ => pq_Tot.ret h) (fun _ => pq_Tot.ret h))
set_option maxRecDepth 100000 in
theorem pq_above_go (hN : 3000 ≤ N) (h : pq_Wc D cc σ) (hD : D + 100 < 4294967296) (x y : Int32) : pq_Go (D + pq_CC) cc (M_M_above N x y σ) := by
  rw [pq_Go, M_M_above]
  have hc : (0 : Int) ≤ pq_CC := by decide
  have w := h.le (show D ≤ D + pq_CC by omega)
  refine pq_Tot.bd (pq_isType_ok x) (fun r τ hr => ?_)
  obtain ⟨rfl, hr⟩ := hr
  refine pq_Tot.ite (fun _ => pq_Tot.ret w) (fun n => pq_Tot.ite1 (pq_ck_vt h.1.1 (hr n)) (pq_Tot.ite (fun _ => pq_Tot.ret w) (fun _ => pq_Tot.bd (pq_isClass_ok y) (fun r2 τ2 hr2 => ?_))))
  obtain ⟨rfl, hy⟩ := hr2
  refine pq_Tot.ite (fun _ => pq_Tot.ret w) (fun ny => ?_)
  have hy := hy ny
  obtain ⟨K, k1, k2⟩ := h.2.1
  have pn := pq_Ph_nn h.1
  refine pq_Tot.bd (pq_aboveOf_ok (g := y.toInt.toNat) hN h.1.1 h.1.2.1 h.1.2.2.2.2.1 (hr n) (by omega) (by omega) k1 (by omega)) (fun r3 σ3 h3 => ?_)
  obtain ⟨a1, a2, a3, ⟨K', a4, a5⟩, a6, a7⟩ := h3
  rw [M_M_made]
  refine pq_Tot.bd (pq_Tot.nm (pq_Tot.nm (show pq_Tot _ (fun _ υ => pq_Wc (D + pq_CC) cc υ) from ?_))) (fun _ _ w => pq_Tot.ret w)
  have f' : pq_fr [2] [] σ3 (sM_M_full σ3 0) := pq_fr.s pq_fr.rf (by decide) _
  have ex := f'.ex (by decide)
  have q := h.1.easy (pq_Tb.ex ex.1 ex.2 a1) (a2.tr ex.1) (a3.tr (f'.up (by decide) (by decide))) (by decide) (by decide) (fun z => z rfl)
  have w' : pq_Wc (D + 39) cc (sM_M_full σ3 0) := ⟨q.1, ⟨K', a5.fr f' (by decide) (by decide), by omega⟩, (a2.tr ex.1).1.trans h.2.2⟩
  have w'' := w'.le (show D + 39 ≤ D + pq_CC by have : pq_CC = 8372000 := rfl; omega)
  exact pq_Tot.ite (fun _ => pq_Tot.ret w'') (fun _ => pq_Tot.ret w'')
end EC
