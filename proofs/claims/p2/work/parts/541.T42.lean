variable {cc : Int}
set_option maxRecDepth 100000 in
theorem pq_updL_eq (f : Nat → Int64) (k : Nat) (x : Int64) : vp_updL f k x k = x := by simp [vp_updL]
set_option maxRecDepth 100000 in
theorem pq_updL_ne (f : Nat → Int64) {k j : Nat} (x : Int64) (h : j ≠ k) : vp_updL f k x j = f j := by simp [vp_updL, h]
def pq_Upw (σ τ : SM) : Prop := τ.1 = σ.1 ∧ τ.2.1 = σ.2.1
set_option maxRecDepth 100000 in
theorem pq_Upw.rf {σ : SM} : pq_Upw σ σ := ⟨rfl, rfl⟩
set_option maxRecDepth 100000 in
theorem pq_Upw.up {σ τ : SM} (h : pq_Upw σ τ) (f : Nat → Int64) : pq_Upw σ (tM_M_upward τ f) := h
def pq_Pd (σ : SM) : Prop :=
  (∀ c : Nat, c < 40 → 0 ≤ pq_pmI σ c ∧ pq_pmI σ c ≤ 3 ∧ (pq_cI σ ≤ c → pq_pmI σ c = 0) ∧ ∀ k : Nat, (k : Int) < pq_pmI σ c → pq_vt σ (pq_prI σ (3 * c + k)) ∧ (pq_kI σ (pq_prI σ (3 * c + k)).toNat = 0 ∨ pq_kI σ (pq_prI σ (3 * c + k)).toNat = 1) ∧ 0 ≤ pq_oI σ (pq_prI σ (3 * c + k)).toNat ∧ pq_oI σ (pq_prI σ (3 * c + k)).toNat < c) ∧
  (∀ c : Nat, c < 40 → ∀ k : Nat, (k : Int) < pq_pmI σ c → pq_qI σ (pq_prI σ (3 * c + k)).toNat = 1)
def pq_pc (σ : SM) (c k : Nat) : Nat := (pq_oI σ (pq_prI σ (3 * c + k)).toNat).toNat
def pq_Ro (σ : SM) (u : Nat → Int64) (c : Nat) (n : Int) : Prop := ∀ g : Nat, pq_bt (u c) g ↔ ∃ k : Nat, (k : Int) < n ∧ (pq_bt (u (pq_pc σ c k)) g ∨ pq_pc σ c k = g)
section PA
variable {N : Nat} {Q : Int32 → SM → Prop} {σ : SM}
set_option maxRecDepth 100000 in
theorem pq_pa_L85 (hT : pq_Tb σ) (hP : pq_Pd σ) {v1 v3 : Int32} {c : Nat} (e3 : v3.toInt = c) (hc : c < 40) {k141 : Int32 → Int32 → SM → Option (Int32 × SM)} {u : Nat → Int64}
    (hk : ∀ τ, pq_Upw σ τ → (∀ j, j ≠ c → aM_M_upward τ j = u j) → pq_Ro σ (aM_M_upward τ) c (pq_pmI σ c) → pq_Tot (k141 v1 v3 τ) Q) :
    ∀ (n : Nat) (v4 : Int32) (τ : SM), pq_Upw σ τ → (∀ j, j ≠ c → aM_M_upward τ j = u j) → pq_Ro σ (aM_M_upward τ) c v4.toInt → 0 ≤ v4.toInt → v4.toInt ≤ pq_pmI σ c → pq_pmI σ c - v4.toInt < n → pq_Tot (M_M_parent_L85 N k141 n v1 v3 v4 τ) Q := by
  intro n
  induction n with
  | zero => intro v4 τ _ _ _ _ _ h; omega
  | succ n ih =>
    intro v4 τ up hu ro z0 z1 hn
    rw [M_M_parent_L85]
    have c3 : ck v3 40 = true := pq_ck_mk (by omega) (by omega)
    have e3n : v3.toNatClampNeg = c := by show v3.toInt.toNat = c; rw [e3]; rfl
    have pm : aM_M_parentMany τ = aM_M_parentMany σ := by show τ.2.1 2 = _; rw [up.2]
    refine pq_Tot.ite1 c3 (pq_Tot.ite (fun le => hk τ up hu ?_) (fun lt => ?_))
    · rw [pq_iv_le, pm, e3n] at le
      have : (aM_M_parentMany σ c).toInt = pq_pmI σ c := rfl
      have e : pq_pmI σ c = v4.toInt := by omega
      rw [e]; exact ro
    rw [pq_iv_le, pm, e3n] at lt
    have lt' : v4.toInt < pq_pmI σ c := by simp only [pq_pmI]; omega
    have p3 := (hP.1 c hc).2.1
    have pk := (hP.1 c hc).2.2.2 v4.toInt.toNat (by omega)
    have m3 : ((3 : Int32) * v3).toInt = 3 * c := by
      have : (3 : Int32).toInt = 3 := rfl
      rw [pq_iv_mul (by rw [e3, this]; omega) (by rw [e3, this]; omega), e3, this]
    have ix : ((3 : Int32) * v3 + v4).toInt = 3 * c + v4.toInt := by rw [pq_iv_add (by rw [m3]; omega) (by rw [m3]; omega), m3]
    have c1 : ck ((3 : Int32) * v3 + v4) 120 = true := pq_ck_mk (by rw [ix]; omega) (by rw [ix]; omega)
    have ixn : ((3 : Int32) * v3 + v4).toNatClampNeg = 3 * c + v4.toInt.toNat := by show ((3 : Int32) * v3 + v4).toInt.toNat = _; rw [ix]; omega
    have ey : (aM_M_parents τ ((3 : Int32) * v3 + v4).toNatClampNeg).toInt = pq_prI σ (3 * c + v4.toInt.toNat) := by
      rw [ixn]; show (τ.2.1 1 _).toInt = _; rw [up.2]; rfl
    have cy : ck (aM_M_parents τ ((3 : Int32) * v3 + v4).toNatClampNeg) 500 = true := pq_ck_vt hT (by rw [ey]; exact pk.1)
    have eo : (aM_M_one τ (aM_M_parents τ ((3 : Int32) * v3 + v4).toNatClampNeg).toNatClampNeg).toInt = pq_oI σ (pq_prI σ (3 * c + v4.toInt.toNat)).toNat := by
      rw [← ey]; show (τ.2.1 4 _).toInt = _; rw [up.2]; rfl
    generalize aM_M_one τ (aM_M_parents τ ((3 : Int32) * v3 + v4).toNatClampNeg).toNatClampNeg = y at eo
    have y0 : 0 ≤ y.toInt := by rw [eo]; exact pk.2.2.1
    have y1 : y.toInt < c := by rw [eo]; exact pk.2.2.2
    have yn : y.toNatClampNeg = pq_pc σ c v4.toInt.toNat := by show y.toInt.toNat = _; rw [eo]; rfl
    have ync : pq_pc σ c v4.toInt.toNat < c := by rw [← yn]; show y.toInt.toNat < c; omega
    have e4 : (v4 + 1).toInt = v4.toInt + 1 := pq_iv_add (by rw [pq_iv_1]; omega) (by rw [pq_iv_1]; omega)
    clear c1 ixn ix m3
    refine pq_Tot.ite1 (pq_ck_mk (by rw [pq_iv_add] <;> (try rw [pq_iv_mul]) <;> (try rw [e3]) <;> (try rw [show (3 : Int32).toInt = 3 from rfl]) <;> omega) (by rw [pq_iv_add] <;> (try rw [pq_iv_mul]) <;> (try rw [e3]) <;> (try rw [show (3 : Int32).toInt = 3 from rfl]) <;> omega)) (pq_Tot.ite1 cy (pq_Tot.nm (pq_Tot.ite1 c3 (pq_Tot.ite1 (pq_ck_mk y0 (by omega)) (pq_Tot.ite1 c3 (pq_Tot.nm (pq_Tot.nm ?_)))))))
    rw [e3n, yn]
    refine ih (v4 + 1) _ (up.up _) (fun j hj => ?_) (fun g => ?_) (by omega) (by omega) (by omega)
    · show vp_updL (aM_M_upward τ) c _ j = u j
      rw [pq_updL_ne _ _ hj]; exact hu j hj
    · show pq_bt (vp_updL (aM_M_upward τ) c _ c) g ↔ ∃ k : Nat, (k : Int) < (v4 + 1).toInt ∧ (pq_bt (vp_updL (aM_M_upward τ) c _ (pq_pc σ c k)) g ∨ pq_pc σ c k = g)
      rw [pq_updL_eq, pq_bt_or, pq_bt_or, pq_bt_one y0 (by omega), ro g]
      have ne : ∀ k : Nat, (k : Int) < pq_pmI σ c → pq_pc σ c k ≠ c := fun k hk => by
        have := (hP.1 c hc).2.2.2 k hk
        rw [pq_pc]; omega
      constructor
      · rintro (⟨k, a, b⟩ | a | a)
        · exact ⟨k, by omega, by rw [pq_updL_ne _ _ (ne k (by omega))]; exact b⟩
        · refine ⟨v4.toInt.toNat, by omega, Or.inr ?_⟩
          rw [← yn]; exact a.symm
        · refine ⟨v4.toInt.toNat, by omega, Or.inl ?_⟩
          rw [pq_updL_ne _ _ (ne _ (by omega))]; exact a
      · rintro ⟨k, a, b⟩
        rw [pq_updL_ne _ _ (ne k (by omega))] at b
        by_cases e : (k : Int) = v4.toInt
        · have ek : v4.toInt.toNat = k := by omega
          right
          rw [ek]
          rcases b with b | b
          · exact Or.inr b
          · left; rw [← b, ← ek, ← yn]; rfl
        · exact Or.inl ⟨k, by omega, b⟩
set_option maxRecDepth 100000 in
theorem pq_pa_L67 (hT : pq_Tb σ) (hP : pq_Pd σ) {v1 : Int32} (h1 : 0 ≤ v1.toInt ∧ v1.toInt < 40) (hN : 5 ≤ N) (hq : ∀ (r : Int32) (τ : SM), pq_Upw σ τ → (∀ c : Nat, (c : Int) < pq_cI σ → pq_Ro σ (aM_M_upward τ) c (pq_pmI σ c)) → (∀ j : Nat, pq_cI σ ≤ j → aM_M_upward τ j = aM_M_upward σ j) → Q r τ) :
    ∀ (n m c : Nat) (v3 : Int32) (τ : SM), pq_Upw σ τ → v3.toInt = c → c + m = 40 → (∀ j : Nat, j < c → (j : Int) < pq_cI σ → pq_Ro σ (aM_M_upward τ) j (pq_pmI σ j)) → (∀ j : Nat, pq_cI σ ≤ j → aM_M_upward τ j = aM_M_upward σ j) → m < n → pq_Tot (M_M_parent_L67 N n v1 v3 τ) Q := by
  intro n
  induction n with
  | zero => intro m c v3 τ _ _ _ _ _ h; omega
  | succ n ih =>
    intro m c v3 τ up e3 hm ro hu hn
    rw [M_M_parent_L67]
    have ce : gM_M_classes τ = gM_M_classes σ := by show τ.1 0 = _; rw [up.1]
    have c40 := hT.2.1
    refine pq_Tot.ite (fun le => pq_Tot.ite1 (pq_ck_mk h1.1 (by omega)) (pq_Tot.ret (hq _ τ up (fun j hj => ro j ?_ hj) hu))) (fun lt => ?_)
    · rw [pq_iv_le, ce, e3] at le
      have : (gM_M_classes σ).toInt = pq_cI σ := rfl
      omega
    rw [pq_iv_le, ce, e3] at lt
    have lt' : (c : Int) < pq_cI σ := by simp only [pq_cI]; omega
    obtain ⟨m, rfl⟩ : ∃ k, m = k + 1 := ⟨m - 1, by omega⟩
    have e3n : v3.toNatClampNeg = c := by show v3.toInt.toNat = c; rw [e3]; rfl
    have e1 : (v3 + 1).toInt = (c + 1 : Nat) := by rw [pq_iv_add (by rw [pq_iv_1]; omega) (by rw [pq_iv_1]; omega), e3, pq_iv_1]; omega
    refine pq_Tot.ite1 (pq_ck_mk (by omega) (by omega)) (pq_Tot.nm ?_)
    rw [e3n]
    have p3 := (hP.1 c (by omega)).2.1
    refine pq_pa_L85 (u := aM_M_upward τ) hT hP e3 (by omega) (fun τ' up' hu' ro' => ?_) N 0 _ (up.up _) (fun j hj => pq_updL_ne _ _ hj) (fun g => ?_) (by decide) (by rw [pq_iv_0]; exact (hP.1 c (by omega)).1) (by rw [pq_iv_0]; omega)
    · rw [M_M_parent_b141]
      refine pq_Tot.nm (ih m (c + 1) (v3 + 1) τ' up' e1 (by omega) (fun j hj hjc => ?_) (fun j hj => by rw [hu' j (by omega)]; exact hu j hj) (by omega))
      by_cases e : j = c
      · rw [e]; exact ro'
      · intro g
        rw [hu' j e, ro j (by omega) hjc g]
        have ne : ∀ k : Nat, (k : Int) < pq_pmI σ j → pq_pc σ j k ≠ c := fun k hk => by
          have := (hP.1 j (by omega)).2.2.2 k hk
          rw [pq_pc]; omega
        constructor
        · rintro ⟨k, a, b⟩; exact ⟨k, a, by rw [hu' _ (ne k a)]; exact b⟩
        · rintro ⟨k, a, b⟩; rw [hu' _ (ne k a)] at b; exact ⟨k, a, b⟩
    · show pq_bt (vp_updL (aM_M_upward τ) c 0 c) g ↔ _
      rw [pq_updL_eq]
      refine ⟨fun z => absurd z pq_bt_zero, ?_⟩
      rintro ⟨k, a, _⟩
      rw [pq_iv_0] at a; omega
end PA
