variable {Z : Prop}
def pq_pmI (σ : SM) (c : Nat) : Int := (aM_M_parentMany σ c).toInt
def pq_prI (σ : SM) (i : Nat) : Int := (aM_M_parents σ i).toInt
def pq_Pb (σ : SM) : Prop :=
  (∀ c : Nat, c < 40 → 0 ≤ pq_pmI σ c ∧ pq_pmI σ c ≤ 3 ∧ (pq_cI σ ≤ c → pq_pmI σ c = 0) ∧ ∀ k : Nat, (k : Int) < pq_pmI σ c → pq_vt σ (pq_prI σ (3 * c + k)) ∧ (pq_kI σ (pq_prI σ (3 * c + k)).toNat = 0 ∨ pq_kI σ (pq_prI σ (3 * c + k)).toNat = 1) ∧ 0 ≤ pq_oI σ (pq_prI σ (3 * c + k)).toNat ∧ pq_oI σ (pq_prI σ (3 * c + k)).toNat < c) ∧
  (∀ c : Nat, c < 40 → ∀ g : Nat, pq_bt (aM_M_upward σ c) g ↔ ∃ k : Nat, (k : Int) < pq_pmI σ c ∧ (pq_bt (aM_M_upward σ (pq_oI σ (pq_prI σ (3 * c + k)).toNat).toNat) g ∨ (pq_oI σ (pq_prI σ (3 * c + k)).toNat).toNat = g)) ∧
  (∀ c : Nat, c < 40 → ∀ k : Nat, (k : Int) < pq_pmI σ c → pq_qI σ (pq_prI σ (3 * c + k)).toNat = 1)
set_option maxRecDepth 100000 in
theorem pq_Pb.ex {σ τ : SM} (h : pq_Pb σ) (e : pq_Ex σ τ) (h1 : τ.2.1 1 = σ.2.1 1) (h2 : τ.2.1 2 = σ.2.1 2) (h3 : τ.2.2 = σ.2.2) : pq_Pb τ := by
  have a1 : pq_prI τ = pq_prI σ := by funext i; show (τ.2.1 1 i).toInt = _; rw [h1]; rfl
  have a2 : pq_pmI τ = pq_pmI σ := by funext i; show (τ.2.1 2 i).toInt = _; rw [h2]; rfl
  have a3 : aM_M_upward τ = aM_M_upward σ := by show τ.2.2 0 = _; rw [h3]
  refine ⟨fun c hc => ?_, fun c hc g => ?_, fun c hc k hk => ?_⟩
  · rw [a1, a2, e.1]
    obtain ⟨x1, x2, x3, x4⟩ := h.1 c hc
    refine ⟨x1, x2, x3, fun k hk => ?_⟩
    have y := x4 k hk
    rw [e.k y.1, e.o y.1]
    exact ⟨e.vt y.1, y.2⟩
  · rw [a3, a1, a2, h.2.1 c hc g]
    constructor
    · rintro ⟨k, hk, z⟩
      exact ⟨k, hk, by rw [e.o ((h.1 c hc).2.2.2 k hk).1]; exact z⟩
    · rintro ⟨k, hk, z⟩
      rw [e.o ((h.1 c hc).2.2.2 k hk).1] at z
      exact ⟨k, hk, z⟩
  · rw [a2] at hk
    rw [a1, e.q ((h.1 c hc).2.2.2 k hk).1]; exact h.2.2 c hc k hk
def pq_rch (σ : SM) (c g : Nat) : Prop := c = g ∨ pq_bt (aM_M_upward σ c) g
set_option maxRecDepth 100000 in
theorem pq_Pb.up {σ : SM} (h : pq_Pb σ) {c g : Nat} (hc : c < 40) (hr : pq_rch σ c g) (ne : c ≠ g) : ∃ k : Nat, (k : Int) < pq_pmI σ c ∧ pq_rch σ (pq_oI σ (pq_prI σ (3 * c + k)).toNat).toNat g := by
  rcases hr with hr | hr
  · exact absurd hr ne
  · obtain ⟨k, hk, z⟩ := (h.2.1 c hc g).1 hr
    exact ⟨k, hk, z.elim Or.inr Or.inl⟩
set_option maxRecDepth 100000 in
theorem pq_PbUp {σ : SM} (h : pq_Pb σ) {c g : Nat} (hc : c < 40) {k : Nat} (hk : (k : Int) < pq_pmI σ c) (hr : pq_rch σ (pq_oI σ (pq_prI σ (3 * c + k)).toNat).toNat g) : pq_rch σ c g :=
  Or.inr ((h.2.1 c hc g).2 ⟨k, hk, hr.elim Or.inr Or.inl⟩)
set_option maxRecDepth 100000 in
theorem pq_Pb.le {σ : SM} (h : pq_Pb σ) {g : Nat} : ∀ c : Nat, c < 40 → pq_rch σ c g → g ≤ c := by
  intro c
  induction c using Nat.strongRecOn with
  | ind c ih =>
    intro hc hr
    by_cases e : c = g
    · omega
    · obtain ⟨k, hk, z⟩ := h.up hc hr e
      have p := (h.1 c hc).2.2.2 k hk
      have := ih _ (by omega) (by omega) z
      omega
abbrev pq_LA : List Nat := [1, 2, 5, 6]
abbrev pq_AA : List Nat := [3, 4, 5, 6, 7, 8, 12, 13, 14, 16, 17, 18, 19, 20]
abbrev pq_bT (σ : SM) (i : Nat) : Int := (aM_M_aboveType σ i).toInt
abbrev pq_bM (σ : SM) (i : Nat) : Int := (aM_M_aboveMore σ i).toInt
abbrev pq_bF (σ : SM) (i : Nat) : Int32 := aM_M_aboveFlag σ i
def pq_Ent (Z : Prop) (σ : SM) (i c : Nat) : Prop :=
  (pq_bF σ i = 0 ∧ pq_vt σ (pq_bT σ i) ∧ (pq_kI σ (pq_bT σ i).toNat = 0 ∨ pq_kI σ (pq_bT σ i).toNat = 1) ∧ pq_oI σ (pq_bT σ i).toNat = c ∧ (Z → pq_qI σ (pq_bT σ i).toNat = 1)) ∨
  (pq_bF σ i = 1 ∧ pq_vt σ (pq_bM σ i) ∧ pq_oI σ (pq_bM σ i).toNat = c) ∨
  (pq_bF σ i = 2 ∧ pq_vt σ (pq_bT σ i) ∧ pq_kI σ (pq_bT σ i).toNat = 1 ∧ pq_vt σ (pq_bM σ i) ∧ (pq_kI σ (pq_bM σ i).toNat = 0 ∨ pq_kI σ (pq_bM σ i).toNat = 1) ∧ pq_oI σ (pq_bM σ i).toNat = c ∧ (Z → pq_qI σ (pq_bT σ i).toNat = 1) ∧ pq_qI σ (pq_bM σ i).toNat = 1)
def pq_Top (Z : Prop) (σ : SM) (a C g : Nat) : Prop := 1 ≤ a ∧ (gM_M_aboves σ).toInt = a ∧ a + 2 * C ≤ 90 ∧ ∃ c : Nat, c < C ∧ c < 40 ∧ (c : Int) < pq_cI σ ∧ pq_rch σ c g ∧ pq_Ent Z σ (a - 1) c
set_option maxRecDepth 100000 in
theorem pq_push_ok {σ : SM} {a : Nat} (h : (gM_M_aboves σ).toInt = a) (ha : a < 1999) (x y z : Int32) :
    pq_Tot (M_M_push x y z σ) (fun _ τ => pq_fr [6] [18, 19, 20] σ τ ∧ (gM_M_aboves τ).toInt = (a + 1 : Nat) ∧ pq_bT τ a = x.toInt ∧ pq_bM τ a = y.toInt ∧ pq_bF τ a = z) := by
  rw [M_M_push]
  have c : ck (gM_M_aboves σ) 2000 = true := pq_ck_mk (by omega) (by omega)
  have n : (gM_M_aboves σ).toNatClampNeg = a := by show (gM_M_aboves σ).toInt.toNat = a; omega
  refine pq_Tot.ite1 c (pq_Tot.nm (pq_Tot.ite1 c (pq_Tot.nm (pq_Tot.ite1 c (pq_Tot.nm (pq_Tot.nm (pq_Tot.ret ⟨pq_fr.s (pq_fr.t (pq_fr.t (pq_fr.t pq_fr.rf (by decide) _) (by decide) _) (by decide) _) (by decide) _, ?_, ?_, ?_, ?_⟩)))))))
  · show (gM_M_aboves σ + 1).toInt = _
    rw [pq_iv_add (by rw [h, pq_iv_1]; omega) (by rw [h, pq_iv_1]; omega), h, pq_iv_1]; omega
  · show (upd (aM_M_aboveType σ) (gM_M_aboves σ).toNatClampNeg x a).toInt = _
    rw [n, pq_upd_eq]
  · show (upd (aM_M_aboveMore σ) (gM_M_aboves σ).toNatClampNeg y a).toInt = _
    rw [n, pq_upd_eq]
  · show upd (aM_M_aboveFlag σ) (gM_M_aboves σ).toNatClampNeg z a = _
    rw [n, pq_upd_eq]
