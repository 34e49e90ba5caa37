def pq_Setd (σ : SM) (x : Int) : Prop := ∃ t, pq_Hb σ 0 x t ∧ pq_qI σ t.toNat = 1
set_option maxRecDepth 100000 in
theorem pq_Setd.g {σ τ : SM} {x : Int} (h : pq_Setd σ x) (hB : pq_Bd σ) (e : pq_Ex σ τ) (g : pq_BG σ τ) : pq_Setd τ x := by
  obtain ⟨t, ⟨k, a, b, c, d⟩, q⟩ := h
  have v : pq_vt σ t := by have := (hB.2.2 k a).2.2.1; rw [d] at this; exact this
  exact ⟨t, (pq_Hb.bg ⟨k, a, b, c, d⟩ g), by rw [e.q v]; exact q⟩
section IO
variable {N : Nat} {σ : SM} {x : Int32}
set_option maxRecDepth 100000 in
theorem pq_instanceOf_L2 (hT : pq_Tb σ) (hB : pq_Bd σ) : ∀ (n : Nat) (v2 : Int32), 0 ≤ v2.toInt → v2.toInt ≤ pq_bI σ → (∀ k : Nat, (k : Int) < v2.toInt → ¬ (pq_bsI σ k = 0 ∧ pq_boI σ k = x.toInt ∧ pq_qI σ (pq_byI σ k).toNat = 1)) → pq_bI σ - v2.toInt < n → pq_Tot (M_M_instanceOf_L2 N n x v2 σ) (fun r τ => τ = σ ∧ ((r = -1 ∧ ¬ pq_Setd σ x.toInt) ∨ (r ≠ -1 ∧ pq_vt σ r.toInt ∧ pq_qI σ r.toInt.toNat = 1 ∧ pq_Setd σ x.toInt))) := by
  intro n
  induction n with
  | zero => intro v2 _ _ _ h; omega
  | succ n ih =>
    intro v2 h0 h1 hno hn
    rw [M_M_instanceOf_L2]
    refine pq_Tot.ite (fun e => pq_Tot.ret ⟨rfl, Or.inl ⟨rfl, ?_⟩⟩) (fun lt => ?_)
    · rw [pq_iv_le] at e
      rintro ⟨t, ⟨k, a, b, c, d⟩, q⟩
      refine hno k ?_ ⟨b, c, by rw [d]; exact q⟩
      have : (gM_M_bounds σ).toInt = pq_bI σ := rfl
      omega
    · rw [pq_iv_le] at lt
      have lt' : v2.toInt < pq_bI σ := by simp only [pq_bI]; omega
      have b2 := hB.2.1
      have c2 := pq_ck_bd hB h0 lt'
      have p := hB.2.2 v2.toInt.toNat (by omega)
      have vy : pq_vt σ (aM_M_boundType σ v2.toNatClampNeg).toInt := p.2.2.1
      have e1 : (v2 + 1).toInt = v2.toInt + 1 := pq_iv_add (by rw [pq_iv_1]; omega) (by rw [pq_iv_1]; omega)
      have nx : ¬ (pq_bsI σ v2.toInt.toNat = 0 ∧ pq_boI σ v2.toInt.toNat = x.toInt ∧ pq_qI σ (pq_byI σ v2.toInt.toNat).toNat = 1) → pq_Tot (M_M_instanceOf_b50 N (M_M_instanceOf_L2 N n) x v2 σ) (fun r τ => τ = σ ∧ ((r = -1 ∧ ¬ pq_Setd σ x.toInt) ∨ (r ≠ -1 ∧ pq_vt σ r.toInt ∧ pq_qI σ r.toInt.toNat = 1 ∧ pq_Setd σ x.toInt))) := fun no => by
        rw [M_M_instanceOf_b50]
        refine pq_Tot.nm (ih (v2 + 1) (by omega) (by omega) (fun k hk => ?_) (by omega))
        by_cases e : (k : Int) = v2.toInt
        · have : k = v2.toInt.toNat := by omega
          rw [this]; exact no
        · exact hno k (by omega)
      refine pq_Tot.ite1 c2 (pq_Tot.ite (fun eo => pq_Tot.ite1 c2 (pq_Tot.ite (fun es => pq_Tot.ite1 c2 (pq_Tot.ite1 (pq_ck_vt hT vy) (pq_Tot.ite (fun eq => nx (fun z => ?_)) (fun nq => pq_Tot.ite1 c2 (pq_Tot.ret ⟨rfl, Or.inr ⟨pq_ne_m1 vy.1, vy, ?_, ?_⟩⟩))))) (fun n => nx (fun z => n (pq_iv_eq.2 z.1))))) (fun n => nx (fun z => n (pq_iv_eq.2 z.2.1))))
      · have : pq_qI σ (pq_byI σ v2.toInt.toNat).toNat = 0 := pq_eqI eq
        rw [this] at z; omega
      · exact ((hT.pk vy).b).elim (fun z => absurd (pq_iv_eq.2 (show (aM_M_proper σ (aM_M_boundType σ v2.toNatClampNeg).toNatClampNeg).toInt = (0 : Int32).toInt from z)) nq) id
      · exact ⟨pq_byI σ v2.toInt.toNat, ⟨v2.toInt.toNat, by omega, pq_eqI es, congrArg Int32.toInt eo, rfl⟩, ((hT.pk vy).b).elim (fun z => absurd (pq_iv_eq.2 (show (aM_M_proper σ (aM_M_boundType σ v2.toNatClampNeg).toNatClampNeg).toInt = (0 : Int32).toInt from z)) nq) id⟩
set_option maxRecDepth 100000 in
theorem pq_instanceOf_ok (hN : 201 ≤ N) (hT : pq_Tb σ) (hB : pq_Bd σ) : pq_Tot (M_M_instanceOf N x σ) (fun r τ => τ = σ ∧ ((r = -1 ∧ ¬ pq_Setd σ x.toInt) ∨ (r ≠ -1 ∧ pq_vt σ r.toInt ∧ pq_qI σ r.toInt.toNat = 1 ∧ pq_Setd σ x.toInt))) := by
  rw [M_M_instanceOf]
  exact pq_instanceOf_L2 hT hB N 0 (by decide) (by rw [pq_iv_0]; exact hB.1) (fun k hk => by rw [pq_iv_0] at hk; omega) (by rw [pq_iv_0]; have := hB.2.1; omega)
end IO
def pq_Lo (B : Int) (σ τ : SM) : Prop := pq_Wo B τ ∧ pq_fr pq_LI pq_AI σ τ
set_option maxRecDepth 100000 in
theorem pq_Lo.gn {B : Int} {σ τ : SM} (h : pq_Lo B σ τ) : pq_Gn σ τ ∧ pq_bI τ = pq_bI σ := by
  have b := pq_BG.fr h.2 (by decide) (by decide) (by decide) (by decide)
  exact ⟨⟨(h.2.ex (by decide)).1, h.2.up (by decide) (by decide), b.1⟩, b.2⟩
set_option maxRecDepth 100000 in
theorem pq_isLinked_L2 {N : Nat} {x y : Int32} {BB : Int} (hN : 3000 ≤ N) (hBB : BB + 50 < 4294967296) (ne : x ≠ y) : ∀ (n : Nat) (v3 : Int32) (σ : SM) (B : Int), pq_Wo B σ → 0 ≤ v3.toInt → v3.toInt ≤ pq_bI σ → B + (pq_bI σ - v3.toInt) ≤ BB → pq_bI σ - v3.toInt < n → pq_Tot (M_M_isLinked_L2 N n x y v3 σ) (fun r τ => (r = 0 ∨ r = 1) ∧ pq_Lo BB σ τ) := by
  intro n
  induction n with
  | zero => intro v3 σ B _ _ _ _ h; omega
  | succ n ih =>
    intro v3 σ B h h0 h1 hb hn
    rw [M_M_isLinked_L2]
    refine pq_Tot.ite (fun _ => pq_Tot.ret ⟨Or.inl rfl, h.le (by omega), pq_fr.rf⟩) (fun lt => ?_)
    rw [pq_iv_le] at lt
    have lt' : v3.toInt < pq_bI σ := by simp only [pq_bI]; omega
    have b2 := h.2.2.1.2.1
    have c3 : ck v3 200 = true := pq_ck_mk h0 (by omega)
    have e1 : (v3 + 1).toInt = v3.toInt + 1 := pq_iv_add (by rw [pq_iv_1]; omega) (by rw [pq_iv_1]; omega)
    have p := h.2.2.1.2.2 v3.toInt.toNat (by omega)
    have b60 : ∀ (τ : SM), pq_Lo (B + 1) σ τ → pq_Tot (M_M_isLinked_b60 N (M_M_isLinked_L2 N n) x y v3 τ) (fun r τ => (r = 0 ∨ r = 1) ∧ pq_Lo BB σ τ) := fun τ w => by
      rw [M_M_isLinked_b60]
      have g := w.gn
      exact pq_Tot.nm ((ih (v3 + 1) τ (B + 1) w.1 (by omega) (by omega) (by omega) (by omega)).mono (fun r υ hr => ⟨hr.1, hr.2.1, w.2.tr hr.2.2⟩))
    have look : ∀ (z : Int32), pq_Tot (M_M_isIn N z (aM_M_boundType σ v3.toNatClampNeg) σ) (fun r τ => (r = 0 ∨ r = 1) ∧ pq_Lo (B + 1) σ τ) := fun z =>
      (h.isIn hN (by omega) z p.2.2.1).mono (fun r τ hr => ⟨hr.1, hr.2.1, hr.2.2.2.2.1⟩)
    have b34 : ∀ (τ : SM), pq_Lo (B + 1) σ τ → (τ = σ ∨ aM_M_boundOf τ v3.toNatClampNeg ≠ y) → pq_Tot (M_M_isLinked_b34 N (M_M_isLinked_L2 N n) x y v3 τ) (fun r τ => (r = 0 ∨ r = 1) ∧ pq_Lo BB σ τ) := fun τ w hτ => by
      rw [M_M_isLinked_b34]
      refine pq_Tot.ite1 c3 (pq_Tot.ite (fun e => pq_Tot.ite1 c3 ?_) (fun _ => b60 τ w))
      rcases hτ with hτ | hτ
      · rw [hτ]
        exact pq_Tot.bd (look x) (fun r υ hr => pq_Tot.ite (fun _ => b60 υ hr.2) (fun _ => pq_Tot.ret ⟨Or.inr rfl, hr.2.1.le (by omega), hr.2.2⟩))
      · exact absurd e hτ
    refine pq_Tot.ite1 c3 (pq_Tot.ite (fun e => pq_Tot.ite1 c3 ?_) (fun _ => b34 σ ⟨h.le (by omega), pq_fr.rf⟩ (Or.inl rfl)))
    refine pq_Tot.bd (look y) (fun r υ hr => pq_Tot.ite (fun _ => b34 υ hr.2 (Or.inr ?_)) (fun _ => pq_Tot.ret ⟨Or.inr rfl, hr.2.1.le (by omega), hr.2.2⟩))
    rw [show aM_M_boundOf υ v3.toNatClampNeg = aM_M_boundOf σ v3.toNatClampNeg by show υ.2.1 29 _ = _; rw [hr.2.2.2.1 29 (by decide)], e]
    exact ne
set_option maxRecDepth 100000 in
theorem pq_isLinked_ok {N : Nat} {x y : Int32} {B : Int} {σ : SM} (hN : 3000 ≤ N) (hB : B + 250 < 4294967296) (ne : x ≠ y) (h : pq_Wo B σ) : pq_Tot (M_M_isLinked N x y σ) (fun r τ => (r = 0 ∨ r = 1) ∧ pq_Lo (B + 200) σ τ) := by
  rw [M_M_isLinked]
  have b := h.2.2.1
  exact pq_isLinked_L2 hN (by omega) ne N 0 σ B h (by decide) (by rw [pq_iv_0]; exact b.1) (by rw [pq_iv_0]; have := b.2.1; omega) (by rw [pq_iv_0]; have := b.2.1; omega)
