/-- one call of the law: every method, on states in R, answers alike and comes to states in R' -/
def StepsR (N : Nat) (R R' : SX → SM → Prop) : Prop :=
  (∀ (a : Int32) (σ : SX) (τ : SM), R σ τ → ∃ (r : Int32) (σ' : SX) (τ' : SM), X_I_declare a σ = some (r, σ') ∧ M_M_declare a τ = some (r, τ') ∧ R' σ' τ') ∧
  (∀ (a b : Int32) (σ : SX) (τ : SM), R σ τ → ∃ (r s : Int32) (σ' : SX) (τ' : SM), X_I_parent N a b σ = some (r, σ') ∧ M_M_parent N a b τ = some (s, τ') ∧ R' σ' τ') ∧
  (∀ (a : Int32) (σ : SX) (τ : SM), R σ τ → ∃ (r s : Int32) (σ' : SX) (τ' : SM), X_I_plain N a σ = some (r, σ') ∧ M_M_plain N a τ = some (s, τ') ∧ R' σ' τ') ∧
  (∀ (a b c : Int32) (σ : SX) (τ : SM), R σ τ → ∃ (r s : Int32) (σ' : SX) (τ' : SM), X_I_of N a b c σ = some (r, σ') ∧ M_M_of N a b c τ = some (s, τ') ∧ R' σ' τ') ∧
  (∀ (a b : Int32) (σ : SX) (τ : SM), R σ τ → ∃ (r s : Int32) (σ' : SX) (τ' : SM), X_I_wild N a b σ = some (r, σ') ∧ M_M_wild N a b τ = some (s, τ') ∧ R' σ' τ') ∧
  (∀ (a b : Int32) (σ : SX) (τ : SM), R σ τ → ∃ (r s : Int32) (σ' : SX) (τ' : SM), X_I_parameter N a b σ = some (r, σ') ∧ M_M_parameter N a b τ = some (s, τ') ∧ R' σ' τ') ∧
  (∀ (a : Int32) (σ : SX) (τ : SM), R σ τ → ∃ (r s : Int32) (σ' : SX) (τ' : SM), X_I_array N a σ = some (r, σ') ∧ M_M_array N a τ = some (s, τ') ∧ R' σ' τ') ∧
  (∀ (a : Int32) (σ : SX) (τ : SM), R σ τ → ∃ (r s : Int32) (σ' : SX) (τ' : SM), X_I_primitive N a σ = some (r, σ') ∧ M_M_primitive N a τ = some (s, τ') ∧ R' σ' τ') ∧
  (∀ (σ : SX) (τ : SM), R σ τ → ∃ (r s : Int32) (σ' : SX) (τ' : SM), X_I_nothing N  σ = some (r, σ') ∧ M_M_nothing N  τ = some (s, τ') ∧ R' σ' τ') ∧
  (∀ (σ : SX) (τ : SM), R σ τ → ∃ (r s : Int32) (σ' : SX) (τ' : SM), X_I_variable N  σ = some (r, σ') ∧ M_M_variable N  τ = some (s, τ') ∧ R' σ' τ') ∧
  (∀ (a b c : Int32) (σ : SX) (τ : SM), R σ τ → ∃ (r s : Int32) (σ' : SX) (τ' : SM), X_I_formula N a b c σ = some (r, σ') ∧ M_M_formula N a b c τ = some (s, τ') ∧ R' σ' τ') ∧
  (∀ (σ : SX) (τ : SM), R σ τ → ∃ (r s : Int32) (σ' : SX) (τ' : SM), X_I_resolve N  σ = some (r, σ') ∧ M_M_resolve N  τ = some (s, τ') ∧ R' σ' τ') ∧
  (∀ (σ : SX) (τ : SM), R σ τ → ∃ (r s : Int32) (σ' : SX) (τ' : SM), X_I_clear  σ = some (r, σ') ∧ M_M_clear  τ = some (s, τ') ∧ R' σ' τ') ∧
  (∀ (a : Int32) (σ : SX) (τ : SM), R σ τ → ∃ (r s : Int32) (σ' : SX) (τ' : SM), X_I_count a σ = some (r, σ') ∧ M_M_count a τ = some (s, τ') ∧ R' σ' τ') ∧
  (∀ (a b : Int32) (σ : SX) (τ : SM), R σ τ → ∃ (r s : Int32) (σ' : SX) (τ' : SM), X_I_type a b σ = some (r, σ') ∧ M_M_type a b τ = some (s, τ') ∧ R' σ' τ') ∧
  (∀ (a b : Int32) (σ : SX) (τ : SM), R σ τ → ∃ (r s : Int32) (σ' : SX) (τ' : SM), X_I_bound a b σ = some (r, σ') ∧ M_M_bound a b τ = some (s, τ') ∧ R' σ' τ') ∧
  (∀ (a : Int32) (σ : SX) (τ : SM), R σ τ → ∃ (r s : Int32) (σ' : SX) (τ' : SM), X_I_instance N a σ = some (r, σ') ∧ M_M_instance N a τ = some (s, τ') ∧ R' σ' τ') ∧
  (∀ (a b : Int32) (σ : SX) (τ : SM), R σ τ → ∃ (r s : Int32) (σ' : SX) (τ' : SM), X_I_above N a b σ = some (r, σ') ∧ M_M_above N a b τ = some (s, τ') ∧ R' σ' τ') ∧
  (∀ (a : Int32) (σ : SX) (τ : SM), R σ τ → ∃ (r s : Int32) (σ' : SX) (τ' : SM), X_I_unchecked a σ = some (r, σ') ∧ M_M_unchecked a τ = some (s, τ') ∧ R' σ' τ') ∧
  (∀ (a : Int32) (σ : SX) (τ : SM), R σ τ → ∃ (r s : Int32) (σ' : SX) (τ' : SM), X_I_judge N a σ = some (r, σ') ∧ M_M_judge N a τ = some (s, τ') ∧ R' σ' τ') ∧
  (∀ (σ : SX) (τ : SM), R σ τ → R' σ τ)
theorem law_once {N L n i : Nat} {xs : Nat → Int32} {σ : SX} {τ : SM} {R R' : SX → SM → Prop} (hi : i + 4 ≤ L) (hL : L ≤ 2048) (hS : StepsR N R R') (hR : R σ τ) : ∃ (σ' : SX) (τ' : SM), R' σ' τ' ∧ L_L_law_L18 N xs L (n + 1) (nI i) (σ, τ) = L_L_law_L18 N xs L n (nI (i + 4)) (σ', τ') := by
  have hk : ∀ j : Nat, j < L → ck (nI j) L = true := fun j hj => decide_eq_true (nI_in hj (by omega))
  have k1 : ck (nI i + 1) L = true := by rw [show nI i + 1 = nI (i + 1) from nI_add i 1]; exact hk _ (by omega)
  have k2 : ck (nI i + 2) L = true := by rw [show nI i + 2 = nI (i + 2) from nI_add i 2]; exact hk _ (by omega)
  have k3 : ck (nI i + 3) L = true := by rw [show nI i + 3 = nI (i + 3) from nI_add i 3]; exact hk _ (by omega)
  have k4 : nI i + 4 = nI (i + 4) := nI_add i 4
  have hc0 : ¬ (Int32.ofNat L - 4 < nI i) := by
    have e : Int32.ofNat L = nI (L - 4) + 4 := by
      rw [show nI (L - 4) + 4 = nI (L - 4 + 4) from nI_add (L - 4) 4, show L - 4 + 4 = L by omega]; rfl
    rw [e, Int32.add_sub_cancel]
    exact nI_nlt (by omega) (by omega)
  rw [L_L_law_L18, if_neg hc0, if_pos (hk i (by omega))]
  unfold nm
  generalize xs (nI i).toNatClampNeg &&& 31 = y
  dsimp only
  by_cases c0 : y = 0
  · obtain ⟨r, σ', τ', e1, e2, h9⟩ := hS.1 (xs (nI i + 1).toNatClampNeg) σ τ hR
    exact ⟨σ', τ', h9, by simp only [if_pos c0, k1, if_true, e1, e2, bd, L_L_law_b648, nm, k4]⟩
  rw [if_neg c0]
  by_cases c1 : y = 1
  · obtain ⟨r, s, σ', τ', e1, e2, h9⟩ := hS.2.1 (xs (nI i + 1).toNatClampNeg) (xs (nI i + 2).toNatClampNeg) σ τ hR
    exact ⟨σ', τ', h9, by simp only [if_pos c1, k1, k2, if_true, e1, e2, bd, L_L_law_b648, nm, k4]⟩
  rw [if_neg c1]
  by_cases c2 : y = 2
  · obtain ⟨r, s, σ', τ', e1, e2, h9⟩ := hS.2.2.1 (xs (nI i + 1).toNatClampNeg) σ τ hR
    exact ⟨σ', τ', h9, by simp only [if_pos c2, k1, if_true, e1, e2, bd, L_L_law_b648, nm, k4]⟩
  rw [if_neg c2]
  by_cases c3 : y = 3
  · obtain ⟨r, s, σ', τ', e1, e2, h9⟩ := hS.2.2.2.1 (xs (nI i + 1).toNatClampNeg) (xs (nI i + 2).toNatClampNeg) (xs (nI i + 3).toNatClampNeg) σ τ hR
    exact ⟨σ', τ', h9, by simp only [if_pos c3, k1, k2, k3, if_true, e1, e2, bd, L_L_law_b648, nm, k4]⟩
  rw [if_neg c3]
  by_cases c4 : y = 4
  · obtain ⟨r, s, σ', τ', e1, e2, h9⟩ := hS.2.2.2.2.1 (xs (nI i + 1).toNatClampNeg) (xs (nI i + 2).toNatClampNeg) σ τ hR
    exact ⟨σ', τ', h9, by simp only [if_pos c4, k1, k2, if_true, e1, e2, bd, L_L_law_b648, nm, k4]⟩
  rw [if_neg c4]
  by_cases c5 : y = 5
  · obtain ⟨r, s, σ', τ', e1, e2, h9⟩ := hS.2.2.2.2.2.1 (xs (nI i + 1).toNatClampNeg) (xs (nI i + 2).toNatClampNeg) σ τ hR
    exact ⟨σ', τ', h9, by simp only [if_pos c5, k1, k2, if_true, e1, e2, bd, L_L_law_b648, nm, k4]⟩
  rw [if_neg c5]
  by_cases c6 : y = 6
  · obtain ⟨r, s, σ', τ', e1, e2, h9⟩ := hS.2.2.2.2.2.2.1 (xs (nI i + 1).toNatClampNeg) σ τ hR
    exact ⟨σ', τ', h9, by simp only [if_pos c6, k1, if_true, e1, e2, bd, L_L_law_b648, nm, k4]⟩
  rw [if_neg c6]
  by_cases c7 : y = 7
  · obtain ⟨r, s, σ', τ', e1, e2, h9⟩ := hS.2.2.2.2.2.2.2.1 (xs (nI i + 1).toNatClampNeg) σ τ hR
    exact ⟨σ', τ', h9, by simp only [if_pos c7, k1, if_true, e1, e2, bd, L_L_law_b648, nm, k4]⟩
  rw [if_neg c7]
  by_cases c8 : y = 8
  · obtain ⟨r, s, σ', τ', e1, e2, h9⟩ := hS.2.2.2.2.2.2.2.2.1  σ τ hR
    exact ⟨σ', τ', h9, by simp only [if_pos c8, if_true, e1, e2, bd, L_L_law_b648, nm, k4]⟩
  rw [if_neg c8]
  by_cases c9 : y = 9
  · obtain ⟨r, s, σ', τ', e1, e2, h9⟩ := hS.2.2.2.2.2.2.2.2.2.1  σ τ hR
    exact ⟨σ', τ', h9, by simp only [if_pos c9, if_true, e1, e2, bd, L_L_law_b648, nm, k4]⟩
  rw [if_neg c9]
  by_cases c10 : y = 10
  · obtain ⟨r, s, σ', τ', e1, e2, h9⟩ := hS.2.2.2.2.2.2.2.2.2.2.1 (xs (nI i + 1).toNatClampNeg) (xs (nI i + 2).toNatClampNeg) (xs (nI i + 3).toNatClampNeg) σ τ hR
    exact ⟨σ', τ', h9, by simp only [if_pos c10, k1, k2, k3, if_true, e1, e2, bd, L_L_law_b648, nm, k4]⟩
  rw [if_neg c10]
  by_cases c11 : y = 11
  · obtain ⟨r, s, σ', τ', e1, e2, h9⟩ := hS.2.2.2.2.2.2.2.2.2.2.2.1  σ τ hR
    exact ⟨σ', τ', h9, by simp only [if_pos c11, if_true, e1, e2, bd, L_L_law_b648, nm, k4]⟩
  rw [if_neg c11]
  by_cases c12 : y = 12
  · obtain ⟨r, s, σ', τ', e1, e2, h9⟩ := hS.2.2.2.2.2.2.2.2.2.2.2.2.1  σ τ hR
    exact ⟨σ', τ', h9, by simp only [if_pos c12, if_true, e1, e2, bd, L_L_law_b648, nm, k4]⟩
  rw [if_neg c12]
  by_cases c13 : y = 13
  · obtain ⟨r, s, σ', τ', e1, e2, h9⟩ := hS.2.2.2.2.2.2.2.2.2.2.2.2.2.1 (xs (nI i + 1).toNatClampNeg) σ τ hR
    exact ⟨σ', τ', h9, by simp only [if_pos c13, k1, if_true, e1, e2, bd, L_L_law_b648, nm, k4]⟩
  rw [if_neg c13]
  by_cases c14 : y = 14
  · obtain ⟨r, s, σ', τ', e1, e2, h9⟩ := hS.2.2.2.2.2.2.2.2.2.2.2.2.2.2.1 (xs (nI i + 1).toNatClampNeg) (xs (nI i + 2).toNatClampNeg) σ τ hR
    exact ⟨σ', τ', h9, by simp only [if_pos c14, k1, k2, if_true, e1, e2, bd, L_L_law_b648, nm, k4]⟩
  rw [if_neg c14]
  by_cases c15 : y = 15
  · obtain ⟨r, s, σ', τ', e1, e2, h9⟩ := hS.2.2.2.2.2.2.2.2.2.2.2.2.2.2.2.1 (xs (nI i + 1).toNatClampNeg) (xs (nI i + 2).toNatClampNeg) σ τ hR
    exact ⟨σ', τ', h9, by simp only [if_pos c15, k1, k2, if_true, e1, e2, bd, L_L_law_b648, nm, k4]⟩
  rw [if_neg c15]
  by_cases c16 : y = 16
  · obtain ⟨r, s, σ', τ', e1, e2, h9⟩ := hS.2.2.2.2.2.2.2.2.2.2.2.2.2.2.2.2.1 (xs (nI i + 1).toNatClampNeg) σ τ hR
    exact ⟨σ', τ', h9, by simp only [if_pos c16, k1, if_true, e1, e2, bd, L_L_law_b648, nm, k4]⟩
  rw [if_neg c16]
  by_cases c17 : y = 17
  · obtain ⟨r, s, σ', τ', e1, e2, h9⟩ := hS.2.2.2.2.2.2.2.2.2.2.2.2.2.2.2.2.2.1 (xs (nI i + 1).toNatClampNeg) (xs (nI i + 2).toNatClampNeg) σ τ hR
    exact ⟨σ', τ', h9, by simp only [if_pos c17, k1, k2, if_true, e1, e2, bd, L_L_law_b648, nm, k4]⟩
  rw [if_neg c17]
  by_cases c18 : y = 18
  · obtain ⟨r, s, σ', τ', e1, e2, h9⟩ := hS.2.2.2.2.2.2.2.2.2.2.2.2.2.2.2.2.2.2.1 (xs (nI i + 1).toNatClampNeg) σ τ hR
    exact ⟨σ', τ', h9, by simp only [if_pos c18, k1, if_true, e1, e2, bd, L_L_law_b648, nm, k4]⟩
  rw [if_neg c18]
  by_cases c19 : y = 19
  · obtain ⟨r, s, σ', τ', e1, e2, h9⟩ := hS.2.2.2.2.2.2.2.2.2.2.2.2.2.2.2.2.2.2.2.1 (xs (nI i + 1).toNatClampNeg) σ τ hR
    exact ⟨σ', τ', h9, by simp only [if_pos c19, k1, if_true, e1, e2, bd, L_L_law_b648, nm, k4]⟩
  rw [if_neg c19]
  exact ⟨σ, τ, hS.2.2.2.2.2.2.2.2.2.2.2.2.2.2.2.2.2.2.2.2 σ τ hR, by simp only [L_L_law_b648, nm, k4]⟩
theorem law_run {N L : Nat} {xs : Nat → Int32} (hL : L ≤ 2048) (R : Nat → SX → SM → Prop) (hS : ∀ j, j < L / 4 → StepsR N (R j) (R (j + 1))) : ∀ (d j : Nat) (σ : SX) (τ : SM), j + d = L / 4 → R j σ τ → ∃ z', L_L_law_L18 N xs L (d + 1) (nI (4 * j)) (σ, τ) = some ((), z') := by
  intro d
  induction d with
  | zero =>
    intro j σ τ hj hR
    have hc0 : Int32.ofNat L - 4 < nI (4 * j) := by
      by_cases h4 : 4 ≤ L
      · have e : Int32.ofNat L = nI (L - 4) + 4 := by
          rw [show nI (L - 4) + 4 = nI (L - 4 + 4) from nI_add (L - 4) 4, show L - 4 + 4 = L by omega]; rfl
        rw [e, Int32.add_sub_cancel]
        exact nI_lt (by omega) (by omega)
      · have hj0 : j = 0 := by omega
        subst hj0
        have hl : L = 0 ∨ L = 1 ∨ L = 2 ∨ L = 3 := by omega
        rcases hl with rfl | rfl | rfl | rfl <;> decide
    exact ⟨(σ, τ), by rw [L_L_law_L18, if_pos hc0]⟩
  | succ d ih =>
    intro j σ τ hj hR
    obtain ⟨σ', τ', h1, h2⟩ := law_once (xs := xs) (n := d + 1) (i := 4 * j) (by omega) hL (hS j (by omega)) hR
    obtain ⟨z', h3⟩ := ih (j + 1) σ' τ' (by omega) h1
    exact ⟨z', by rw [h2, show 4 * j + 4 = 4 * (j + 1) by omega]; exact h3⟩
