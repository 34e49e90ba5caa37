noncomputable def pq_uc (P : Nat → Prop) : Nat → Nat
  | 0 => 0
  | n + 1 => pq_uc P n + (@ite Nat (P n) (Classical.propDecidable (P n)) 1 0)
set_option maxRecDepth 100000 in
theorem pq_uc_le {P P' : Nat → Prop} : ∀ n, (∀ x, x < n → P' x → P x) → pq_uc P' n ≤ pq_uc P n
  | 0, _ => Nat.le_refl _
  | n + 1, h => by
    rw [pq_uc, pq_uc]
    have := pq_uc_le n (fun x hx => h x (by omega))
    by_cases a : P' n
    · rw [if_pos a, if_pos (h n (by omega) a)]; omega
    · rw [if_neg a]; split <;> omega
set_option maxRecDepth 100000 in
theorem pq_uc_lt {P P' : Nat → Prop} {b : Nat} (hb : P b) (nb : ¬ P' b) : ∀ n, b < n → (∀ x, x < n → P' x → P x) → pq_uc P' n + 1 ≤ pq_uc P n
  | 0, h, _ => absurd h (Nat.not_lt_zero _)
  | n + 1, hn, h => by
    rw [pq_uc, pq_uc]
    by_cases e : b = n
    · subst e
      have := pq_uc_le b (fun x hx => h x (by omega))
      rw [if_pos hb, if_neg nb]; omega
    · have := pq_uc_lt hb nb n (by omega) (fun x hx => h x (by omega))
      by_cases a : P' n
      · rw [if_pos a, if_pos (h n (by omega) a)]; omega
      · rw [if_neg a]; split <;> omega
set_option maxRecDepth 100000 in
theorem pq_uc_le12 (P : Nat → Prop) : ∀ n, pq_uc P n ≤ n
  | 0 => Nat.le_refl _
  | n + 1 => by rw [pq_uc]; have := pq_uc_le12 P n; split <;> omega
noncomputable def pq_Us (σ : SM) : Nat := pq_uc (fun x => (x : Int) < pq_vaI σ ∧ ¬ pq_Setd σ x) 12
set_option maxRecDepth 100000 in
theorem pq_Us.g {σ τ : SM} (hB : pq_Bd σ) (e : pq_Ex σ τ) (g : pq_BG σ τ) (v : pq_vaI τ = pq_vaI σ) : pq_Us τ ≤ pq_Us σ := by
  refine pq_uc_le 12 (fun x _ h => ⟨by rw [← v]; exact h.1, fun z => h.2 (z.g hB e g)⟩)
abbrev pq_AZ : List Nat := [3, 4, 5, 6, 7, 8, 9, 12, 13, 14, 15, 16, 17, 18, 19, 20, 21, 22, 23, 24, 25, 26, 27, 28, 29, 30, 31, 36, 37, 38, 39, 40]
def pq_Gz (σ τ : SM) : Prop := pq_Ex σ τ ∧ pq_fr pq_LY pq_AZ σ τ ∧ pq_BG σ τ
set_option maxRecDepth 100000 in
theorem pq_Gz.rf {σ : SM} : pq_Gz σ σ := ⟨pq_Ex.rf, pq_fr.rf, pq_BG.rf⟩
set_option maxRecDepth 100000 in
theorem pq_Gz.tr {σ τ υ : SM} (h : pq_Gz σ τ) (k : pq_Gz τ υ) : pq_Gz σ υ := ⟨h.1.tr k.1, h.2.1.tr k.2.1, h.2.2.tr k.2.2⟩
set_option maxRecDepth 100000 in
theorem pq_Gy.z {σ τ : SM} (g : pq_Gy σ τ) : pq_Gz σ τ := ⟨g.1, g.2.1.up (by decide) (by decide), g.2.2⟩
set_option maxRecDepth 100000 in
theorem pq_Gz.va {σ τ : SM} (g : pq_Gz σ τ) : gM_M_variables τ = gM_M_variables σ := g.2.1.1 4 (by decide)
set_option maxRecDepth 100000 in
theorem pq_Gz.vaI {σ τ : SM} (g : pq_Gz σ τ) : pq_vaI τ = pq_vaI σ := by rw [pq_vaI, g.va]; rfl
set_option maxRecDepth 100000 in
theorem pq_frD_gz {σ τ : SM} (f : pq_fr pq_LD pq_AD σ τ) : pq_Gz σ τ ∧ pq_bI τ = pq_bI σ ∧ pq_heI τ = pq_heI σ := by
  have b := pq_BG.fr f (by decide) (by decide) (by decide) (by decide)
  exact ⟨⟨(f.ex (by decide)).1, f.up (by decide) (by decide), b.1⟩, b.2, by show (τ.1 17).toInt = _; rw [f.1 17 (by decide)]; rfl⟩
section RE
variable {N : Nat} {Q : Int32 → SM → Prop}
set_option maxRecDepth 100000 in
theorem pq_re_L35 {k72 : Int32 → Int32 → Int32 → SM → Option (Int32 × SM)} {σ0 : SM} {v1 v2 v3 : Int32} (hN : 3000 ≤ N) (hv : 0 ≤ pq_vaI σ0 ∧ pq_vaI σ0 ≤ 12) (hT : pq_Tb σ0) (hB : pq_Bd σ0)
    (hk : ∀ σ', pq_fr [] [36] σ0 σ' → (∀ x : Nat, (x : Int) < pq_vaI σ0 → (aM_M_settled σ' x = 0 ↔ ¬ pq_Setd σ0 x)) → pq_Tot (k72 v1 v2 v3 σ') Q) :
    ∀ (n : Nat) (v4 : Int32) (σ : SM), pq_fr [] [36] σ0 σ → 0 ≤ v4.toInt → v4.toInt ≤ pq_vaI σ0 → (∀ x : Nat, (x : Int) < v4.toInt → (aM_M_settled σ x = 0 ↔ ¬ pq_Setd σ0 x)) → pq_vaI σ0 - v4.toInt < n → pq_Tot (M_M_resolve_L35 N k72 n v1 v2 v3 v4 σ) Q := by
  intro n
  induction n with
  | zero => intro v4 σ _ _ _ _ h; omega
  | succ n ih =>
    intro v4 σ f z0 z1 hs hn
    rw [M_M_resolve_L35]
    have va : gM_M_variables σ = gM_M_variables σ0 := f.1 4 (by decide)
    refine pq_Tot.ite (fun le => hk σ f (fun x hx => hs x ?_)) (fun lt => ?_)
    · rw [pq_iv_le, va] at le
      have : (gM_M_variables σ0).toInt = pq_vaI σ0 := rfl
      omega
    rw [pq_iv_le, va] at lt
    have lt' : v4.toInt < pq_vaI σ0 := by simp only [pq_vaI]; omega
    have e4 : (v4 + 1).toInt = v4.toInt + 1 := pq_iv_add (by rw [pq_iv_1]; omega) (by rw [pq_iv_1]; omega)
    have ex := f.ex (by decide)
    have bg := pq_BG.fr f (by decide) (by decide) (by decide) (by decide)
    have hT' := pq_Tb.ex ex.1 ex.2 hT
    have hB' := hB.ex ex.1 bg.1 bg.2
    have go : ∀ s : Int32, ((vp_nar .boolean s = 0) ↔ ¬ pq_Setd σ0 v4.toInt) → pq_Tot (M_M_resolve_b65 N (M_M_resolve_L35 N k72 n) v1 v2 v3 v4 s v4 σ) Q := fun s h => by
      rw [M_M_resolve_b65]
      refine pq_Tot.ite1 (pq_ck_mk z0 (by omega)) (pq_Tot.nm (pq_Tot.nm (ih (v4 + 1) _ (pq_fr.t f (by decide) _) (by omega) (by omega) (fun x hx => ?_) (by omega))))
      show upd (aM_M_settled σ) v4.toInt.toNat (vp_nar .boolean s) x = 0 ↔ _
      by_cases e : x = v4.toInt.toNat
      · rw [e, pq_upd_eq, h, show ((v4.toInt.toNat : Nat) : Int) = v4.toInt by omega]
      · rw [pq_upd_ne _ _ e]; exact hs x (by omega)
    have st : pq_Setd σ v4.toInt ↔ pq_Setd σ0 v4.toInt := by
      constructor
      · rintro ⟨t, ⟨k, a, b, c, d⟩, q⟩
        rw [bg.2] at a
        have w := bg.1.2 k a
        rw [w.1] at b
        rw [w.2.1] at c
        rw [w.2.2] at d
        have v := (hB.2.2 k a).2.2.1
        rw [d] at v
        rw [ex.1.q v] at q
        exact ⟨t, ⟨k, a, b, c, d⟩, q⟩
      · intro h; exact h.g hB ex.1 bg.1
    refine pq_Tot.bd (pq_instanceOf_ok (by omega) hT' hB') (fun r τ hr => ?_)
    obtain ⟨rfl, hr⟩ := hr
    rw [st] at hr
    rcases hr with hr | hr
    · exact pq_Tot.ite1 hr.1 (go 0 ⟨fun _ => hr.2, fun _ => rfl⟩)
    · exact pq_Tot.ite2 hr.1 (go 1 ⟨fun z => absurd z (by decide), fun z => absurd hr.2.2.2 z⟩)
set_option maxRecDepth 100000 in
theorem pq_re_L75 {BB : Int} {k139 : Int32 → Int32 → SM → Option (Int32 × SM)} {σ0 : SM} {v1 : Int32} (hN : 3000 ≤ N) (hBB : BB + 400 < 4294967296) (hv : 0 ≤ pq_vaI σ0 ∧ pq_vaI σ0 ≤ 12)
    (hk : ∀ σ' v2, pq_Wo BB σ' → pq_fr pq_LD pq_AD σ0 σ' → (v2 ≠ -1 → 0 ≤ v2.toInt ∧ v2.toInt < pq_vaI σ0 ∧ aM_M_settled σ0 v2.toInt.toNat = 0) → (v2 = -1 → ∀ x : Nat, (x : Int) < pq_vaI σ0 → aM_M_settled σ0 x ≠ 0) → pq_Tot (k139 v1 v2 σ') Q) :
    ∀ (n : Nat) (v2 v3 v4 : Int32) (σ : SM) (B : Int), pq_Wo B σ → pq_fr pq_LD pq_AD σ0 σ → (v2 ≠ -1 → 0 ≤ v2.toInt ∧ v2.toInt < pq_vaI σ0 ∧ aM_M_settled σ0 v2.toInt.toNat = 0) → (v2 = -1 → v3 = 99 ∧ ∀ x : Nat, (x : Int) < v4.toInt → aM_M_settled σ0 x ≠ 0) → v3.toInt ≤ 99 → 0 ≤ v4.toInt → v4.toInt ≤ pq_vaI σ0 → B + 158400 * (12 - v4.toInt) ≤ BB → pq_vaI σ0 - v4.toInt < n → pq_Tot (M_M_resolve_L75 N k139 n v1 v2 v3 v4 σ) Q := by
  intro n
  induction n with
  | zero => intro v2 v3 v4 σ B _ _ _ _ _ _ _ _ h; omega
  | succ n ih =>
    intro v2 v3 v4 σ B h f h2 h2' h3 z0 z1 hb hn
    rw [M_M_resolve_L75]
    have va : gM_M_variables σ = gM_M_variables σ0 := f.1 4 (by decide)
    refine pq_Tot.ite (fun le => hk σ v2 (h.le (by omega)) f h2 (fun z x hx => (h2' z).2 x ?_)) (fun lt => ?_)
    · rw [pq_iv_le, va] at le
      have : (gM_M_variables σ0).toInt = pq_vaI σ0 := rfl
      omega
    rw [pq_iv_le, va] at lt
    have lt' : v4.toInt < pq_vaI σ0 := by simp only [pq_vaI]; omega
    have e4 : (v4 + 1).toInt = v4.toInt + 1 := pq_iv_add (by rw [pq_iv_1]; omega) (by rw [pq_iv_1]; omega)
    have b105 : ∀ (τ : SM) (s : Int32) (B' : Int), pq_Wo B' τ → pq_fr pq_LD pq_AD σ0 τ → s.toInt ≤ 99 → (s.toInt < 99 → aM_M_settled σ0 v4.toInt.toNat = 0) → (s.toInt = 99 → aM_M_settled σ0 v4.toInt.toNat ≠ 0) → B' + 158400 * (11 - v4.toInt) ≤ BB → pq_Tot (M_M_resolve_b105 N (M_M_resolve_L75 N k139 n) v1 v2 v3 v4 s τ) Q := fun τ s B' w ft hs hs2 hs3 hb' => by
      have b132 : ∀ a b : Int32, (a ≠ -1 → 0 ≤ a.toInt ∧ a.toInt < pq_vaI σ0 ∧ aM_M_settled σ0 a.toInt.toNat = 0) → (a = -1 → b = 99 ∧ ∀ x : Nat, (x : Int) < (v4 + 1).toInt → aM_M_settled σ0 x ≠ 0) → b.toInt ≤ 99 → pq_Tot (M_M_resolve_b132 N (M_M_resolve_L75 N k139 n) v1 a v4 b τ) Q := fun a b ha ha' hb'' => by
        rw [M_M_resolve_b132]
        exact pq_Tot.nm (ih a b (v4 + 1) τ B' w ft ha ha' hb'' (by omega) (by omega) (by omega) (by omega))
      have b119 : ∀ a : Int32, (a ≠ -1 → 0 ≤ a.toInt ∧ a.toInt < pq_vaI σ0 ∧ aM_M_settled σ0 a.toInt.toNat = 0) → (a = -1 → v3 ≤ s ∧ v3 = 99 ∧ ∀ x : Nat, (x : Int) < (v4 + 1).toInt → aM_M_settled σ0 x ≠ 0) → pq_Tot (M_M_resolve_b119 N (M_M_resolve_L75 N k139 n) v1 v3 v4 s a τ) Q := fun a ha ha' => by
        rw [M_M_resolve_b119]
        exact pq_Tot.ite (fun _ => b132 a v3 ha (fun z => (ha' z).2) h3) (fun n => b132 a s ha (fun z => absurd (ha' z).1 n) hs)
      rw [M_M_resolve_b105]
      refine pq_Tot.ite (fun le => b119 v2 h2 (fun z => ⟨le, (h2' z).1, fun x hx => ?_⟩)) (fun le => b119 v4 (fun _ => ⟨z0, lt', hs2 ?_⟩) (fun z => absurd z (pq_ne_m1 z0)))
      · have q := h2' z
        by_cases e : (x : Int) = v4.toInt
        · rw [show x = v4.toInt.toNat by omega]
          refine hs3 ?_
          rw [q.1, pq_iv_le, show (99 : Int32).toInt = 99 from rfl] at le
          omega
        · exact q.2 x (by omega)
      · rw [pq_iv_le] at le; omega
    refine pq_Tot.ite1 (pq_ck_mk z0 (by omega)) (pq_Tot.ite (fun s0 => ?_) (fun s1 => b105 σ 99 B h f (by decide) (fun z => absurd z (by decide)) (fun _ => by rw [← show aM_M_settled σ = aM_M_settled σ0 from f.2.1 36 (by decide)]; exact s1) (by omega)))
    have s0' : aM_M_settled σ0 v4.toInt.toNat = 0 := by rw [← show aM_M_settled σ = aM_M_settled σ0 from f.2.1 36 (by decide)]; exact s0
    have vaσ : pq_vaI σ = pq_vaI σ0 := by rw [pq_vaI, va]; rfl
    refine pq_Tot.bd (pq_depends_ok (x := v4.toInt.toNat) hN (by rw [vaσ]; exact hv) (by omega) h (by omega) (by omega)) (fun r τ hr => ?_)
    obtain ⟨m, d, hr⟩ := hr
    have := d.m12
    exact b105 τ r _ d.1 (f.tr d.2.1) (by omega) (fun _ => s0') (fun z => by omega) (by omega)
abbrev pq_RC : Int := 4399200
set_option maxRecDepth 100000 in
theorem pq_re_L16 {C0 : Int} {k162 k144 : Int32 → SM → Option (Int32 × SM)} {σ0 : SM} (hN : 20002 ≤ N) (hC : C0 + 18546800 + 2000 < 4294967296) (hv : 0 ≤ pq_vaI σ0 ∧ pq_vaI σ0 ≤ 12)
    (hk : ∀ σ' v1 C, pq_Ho C σ' → pq_Gz σ0 σ' → (v1 = 0 ∨ v1 = 1) → C ≤ C0 → (¬ pq_fl σ' → v1 ≠ 0 → C + pq_RC * (pq_Us σ' : Int) ≤ C0) → (pq_fl σ' → v1 = 0) → pq_Tot (k162 v1 σ') Q ∧ pq_Tot (k144 v1 σ') Q) :
    ∀ (n : Nat) (v1 : Int32) (σ : SM) (C : Int), pq_Ho C σ → pq_Gz σ0 σ → (v1 = 0 ∨ v1 = 1) → C ≤ C0 → (v1 ≠ 0 → C + pq_RC * (pq_Us σ : Int) ≤ C0) → (pq_fl σ → v1 = 0) → pq_Us σ < n → pq_Tot (M_M_resolve_L16 N k162 k144 n v1 σ) Q := by
  intro n
  induction n with
  | zero => intro v1 σ C _ _ _ _ _ _ h; omega
  | succ n ih =>
    intro v1 σ C h gz hz hC0 hU hf hn
    rw [M_M_resolve_L16]
    have fin := hk σ v1 C h gz hz hC0 (fun _ => hU) hf
    refine pq_Tot.ite (fun _ => fin.1) (fun n1 => pq_Tot.ite (fun f0 => ?_) (fun _ => fin.1))
    have nf : ¬ pq_fl σ := fun z => z f0
    have hU := hU n1
    have hv' : 0 ≤ pq_vaI σ ∧ pq_vaI σ ≤ 12 := by rw [gz.vaI]; exact hv
    have pm : pq_pr (pq_heI σ).toNat ≤ 18546800 := by rw [← pq_pr200]; exact pq_pr_mono (by have := h.2.2; have := h.1.2.2.1.2.1; omega)
    refine pq_re_L35 (by omega) hv' h.1.1 h.1.2.2.1 (fun σ1 f1 st => ?_) N 0 σ pq_fr.rf (by decide) (by rw [pq_iv_0]; exact hv'.1) (fun x hx => by rw [pq_iv_0] at hx; omega) (by rw [pq_iv_0]; omega)
    rw [M_M_resolve_b72]
    have q1 := h.1.cell f1 (by decide) (by decide) (by decide) (by decide) (by decide) (by decide) (by decide) (by decide) (by decide) (by decide)
    have g1 : pq_Gz σ σ1 := ⟨q1.2.1, f1.up (by decide) (by decide), q1.2.2.1⟩
    have va1 : pq_vaI σ1 = pq_vaI σ := g1.vaI
    have he1 : pq_heI σ1 = pq_heI σ := by show (σ1.1 17).toInt = _; rw [f1.1 17 (by decide)]; rfl
    by_cases u0 : pq_Us σ = 0
    ·
      have all : ∀ x : Nat, (x : Int) < pq_vaI σ → aM_M_settled σ1 x ≠ 0 := fun x hx z => by
        have ns := (st x hx).1 z
        have := pq_uc_lt (P := fun x => (x : Int) < pq_vaI σ ∧ ¬ pq_Setd σ x) (P' := fun _ => False) (b := x) ⟨hx, ns⟩ id 12 (by omega) (fun _ _ z => z.elim)
        rw [pq_Us] at u0; omega
      have key : ∀ (m : Nat) (v4 : Int32) (σ2 : SM), σ2 = σ1 → 0 ≤ v4.toInt → v4.toInt ≤ pq_vaI σ → pq_vaI σ - v4.toInt < m → pq_Tot (M_M_resolve_L75 N (M_M_resolve_b139 N k144 (M_M_resolve_L16 N k162 k144 n)) m v1 (-1) 99 v4 σ2) Q := by
        intro m
        induction m with
        | zero => intro v4 σ2 _ _ _ h; omega
        | succ m ihm =>
          intro v4 σ2 e z0 z1 hm
          subst e
          rw [M_M_resolve_L75]
          have va : (gM_M_variables σ2).toInt = pq_vaI σ := va1
          refine pq_Tot.ite (fun _ => ?_) (fun lt => ?_)
          · rw [M_M_resolve_b139]
            refine pq_Tot.ite1 rfl ?_
            have hf1 : ¬ pq_fl σ2 := by rw [pq_fl, show gM_M_full σ2 = gM_M_full σ from f1.1 2 (by decide)]; exact nf
            have us1 : pq_Us σ2 ≤ pq_Us σ := pq_Us.g h.1.2.2.1 g1.1 g1.2.2 va1
            have : pq_RC * (pq_Us σ2 : Int) ≤ pq_RC * (pq_Us σ : Int) := Int.mul_le_mul_of_nonneg_left (by omega) (by decide)
            exact (hk σ2 v1 C ⟨by rw [he1]; exact q1.1, by rw [he1]; exact h.2.1, by rw [he1, q1.2.2.2]; exact h.2.2⟩ (gz.tr g1) hz hC0 (fun _ _ => by omega) (fun z => absurd z hf1)).2
          · rw [pq_iv_le, va] at lt
            have e4 : (v4 + 1).toInt = v4.toInt + 1 := pq_iv_add (by rw [pq_iv_1]; omega) (by rw [pq_iv_1]; omega)
            refine pq_Tot.ite1 (pq_ck_mk z0 (by omega)) (pq_Tot.ite2 (all v4.toInt.toNat (by omega)) ?_)
            rw [M_M_resolve_b105]
            refine pq_Tot.ite1 (by decide) ?_
            rw [M_M_resolve_b119]
            refine pq_Tot.ite1 (by decide) ?_
            rw [M_M_resolve_b132]
            exact pq_Tot.nm (ihm (v4 + 1) σ2 rfl (by omega) (by omega) (by omega))
      exact key N 0 σ1 rfl (by decide) (by rw [pq_iv_0]; exact hv'.1) (by rw [pq_iv_0]; omega)
    · have rc : pq_RC = 4399200 := rfl
      have pq_hR : C + pq_RC ≤ C0 := by
        have : pq_RC * (1 : Int) ≤ pq_RC * (pq_Us σ : Int) := Int.mul_le_mul_of_nonneg_left (by omega) (by decide)
        omega
      refine pq_re_L75 (BB := C + pq_pr (pq_heI σ).toNat + 1900800) (σ0 := σ1) (by omega) (by omega) (by rw [va1]; exact hv') (fun σ2 v2 w2 f2 hv2 hv2' => ?_) N (-1) 99 0 σ1 _ q1.1 pq_fr.rf (fun z => absurd rfl z) (fun _ => ⟨rfl, fun x hx => by rw [pq_iv_0] at hx; omega⟩) (by decide) (by decide) (by rw [pq_iv_0, va1]; exact hv'.1) (by rw [pq_iv_0]; omega) (by rw [pq_iv_0]; omega)
      have g2 := pq_frD_gz f2
      have nf2 : ¬ pq_fl σ2 := by rw [pq_fl, show gM_M_full σ2 = gM_M_full σ1 from f2.1 2 (by decide), show gM_M_full σ1 = gM_M_full σ from f1.1 2 (by decide)]; exact nf
      have he2 : pq_heI σ2 = pq_heI σ := g2.2.2.trans he1
      have ho2 : pq_Ho (C + 1900800) σ2 := ⟨by rw [he2]; exact w2.le (by omega), by rw [he2]; exact h.2.1, by rw [he2, g2.2.1, q1.2.2.2]; exact h.2.2⟩
      have gz2 := (gz.tr g1).tr g2.1
      have us2 : pq_Us σ2 ≤ pq_Us σ := pq_Us.g h.1.2.2.1 (g1.tr g2.1).1 (g1.tr g2.1).2.2 (g1.tr g2.1).vaI
      rw [M_M_resolve_b139]
      refine pq_Tot.ite (fun e2 => ?_) (fun n2 => ?_)
      ·
        exfalso
        have all := hv2' e2
        have : pq_Us σ ≤ pq_uc (fun _ => False) 12 := pq_uc_le 12 (fun x _ hx => all x (by rw [va1]; exact hx.1) ((st x hx.1).2 hx.2))
        have z : ∀ k, pq_uc (fun _ => False) k = 0 := fun k => by
          induction k with
          | zero => rfl
          | succ k ihk => rw [pq_uc, ihk, if_neg id]
        rw [z] at this; omega
      · obtain ⟨x0, x1, x2⟩ := hv2 n2
        have va2 : pq_vaI σ2 = pq_vaI σ := (g1.tr g2.1).vaI
        refine pq_Tot.bd (pq_depends_ok (x := v2.toInt.toNat) (by omega) (by rw [va2]; exact hv') (by omega) w2 (by omega) (by omega)) (fun r3 σ3 h3 => ?_)
        obtain ⟨m, d, _⟩ := h3
        have g3 := pq_frD_gz d.2.1
        have nf3 : ¬ pq_fl σ3 := by rw [pq_fl, show gM_M_full σ3 = gM_M_full σ2 from d.2.1.1 2 (by decide)]; exact nf2
        have he3 : pq_heI σ3 = pq_heI σ := g3.2.2.trans he2
        have ho3 : pq_Ho (C + 2059200) σ3 := ⟨by rw [he3]; exact d.1.le (by omega), by rw [he3]; exact h.2.1, by rw [he3, g3.2.1, g2.2.1, q1.2.2.2]; exact h.2.2⟩
        have gz3 := gz2.tr g3.1
        have va3 : pq_vaI σ3 = pq_vaI σ := g3.1.vaI.trans va2
        refine pq_Tot.bd (pq_chooseAll_ok hN (by omega) (by rw [va3]; exact hv') ho3 nf3) (fun r4 σ4 h4 => ?_)
        obtain ⟨c1, c2, c3, c4, c5⟩ := h4
        have g4 := ((g1.tr g2.1).tr g3.1).tr c3.z
        have us4 : pq_Us σ4 ≤ pq_Us σ := pq_Us.g h.1.2.2.1 g4.1 g4.2.2 g4.vaI
        have dec : r4 ≠ 0 → pq_Us σ4 + 1 ≤ pq_Us σ := fun nr => by
          refine pq_uc_lt (b := v2.toInt.toNat) ⟨by rw [va1] at x1; omega, (st v2.toInt.toNat (by rw [va1] at x1; omega)).1 x2⟩ (fun z => z.2 ?_) 12 (by rw [va1] at x1; omega) (fun x _ hx => ⟨by rw [← g4.vaI]; exact hx.1, fun z => hx.2 (z.g h.1.2.2.1 g4.1 g4.2.2)⟩)
          exact c5 nr v2.toInt.toNat (by rw [va3]; rw [va1] at x1; omega) d.2.2.2.1
        by_cases nr : r4 = 0
        ·
          rw [nr]
          obtain ⟨k, hk'⟩ : ∃ k, n = k + 1 := ⟨n - 1, by omega⟩
          rw [hk', M_M_resolve_L16]
          exact pq_Tot.ite1 rfl (hk σ4 0 _ c2 (gz.tr g4) (Or.inl rfl) (by omega) (fun _ z => absurd rfl z) (fun _ => rfl)).1
        · have dd := dec nr
          have : pq_RC * ((pq_Us σ4 : Int) + 1) ≤ pq_RC * (pq_Us σ : Int) := Int.mul_le_mul_of_nonneg_left (by omega) (by decide)
          rw [Int.mul_add, Int.mul_one] at this
          exact ih r4 σ4 _ c2 (gz.tr g4) c1 (by omega) (fun _ => by omega) c4 (by omega)
end RE
