def pq_Mk (σ : SM) (L A : List Nat) (P : Int → SM → Prop) (r : Int32) (τ : SM) : Prop :=
  pq_Tb τ ∧ pq_Ex σ τ ∧ pq_fr L A σ τ ∧ (pq_fl τ → r = -1) ∧ (¬ pq_fl τ → ¬ pq_fl σ ∧ pq_vt τ r.toInt ∧ P r.toInt τ)
def pq_PM (k a b c : Int) (r : Int) (τ : SM) : Prop := pq_kI τ r.toNat = k ∧ pq_oI τ r.toNat = a ∧ pq_wI τ r.toNat = b ∧ pq_hI τ r.toNat = c
abbrev pq_LM : List Nat := [1, 2]
abbrev pq_AM : List Nat := [3, 4, 5, 6, 7, 8]
set_option maxRecDepth 100000 in
theorem pq_tI_rng {σ : SM} (h : pq_Tb σ) : 0 ≤ (gM_M_types σ).toInt ∧ (gM_M_types σ).toInt ≤ 500 := ⟨h.2.2.1, h.2.2.2.1⟩
set_option maxRecDepth 100000 in
theorem pq_full1 {σ : SM} (h : pq_Tb σ) (k a b c : Int) : pq_Mk σ pq_LM pq_AM (pq_PM k a b c) (-1) (sM_M_full σ 1) :=
  ⟨pq_Tb.ex (pq_Ex.same rfl rfl rfl rfl rfl rfl rfl rfl rfl) rfl h, pq_Ex.same rfl rfl rfl rfl rfl rfl rfl rfl rfl, pq_fr.s pq_fr.rf (by decide) 1, fun _ => rfl, fun z => absurd (show pq_fl (sM_M_full σ 1) from (by decide : (1 : Int32) ≠ 0)) z⟩
set_option maxRecDepth 100000 in
theorem pq_nar1 {v : Int32} (h : v.toInt = 0 ∨ v.toInt = 1) : (vp_nar .boolean v).toInt = v.toInt := by
  have : v = 0 ∨ v = 1 := h.imp (fun z => pq_iv_eq.2 z) (fun z => pq_iv_eq.2 z)
  rcases this with rfl | rfl <;> rfl
set_option maxRecDepth 100000 in
theorem pq_Fl.b {x : Int} {P : Prop} (h : pq_Fl x P) : x = 0 ∨ x = 1 := h.imp (fun z => z.1) (fun z => z.1)
set_option maxRecDepth 100000 in
theorem pq_make_b215 {σ : SM} (N : Nat) {v1 v2 v3 v4 v5 v6 : Int32} (h : pq_Tb σ) (hf : ¬ pq_fl σ) (ho : pq_Okk σ (pq_tI σ) v1.toInt v2.toInt v3.toInt v4.toInt) (hd : v5.toInt ≤ 20 → pq_Dok σ v1.toInt v2.toInt v3.toInt v4.toInt v5.toInt) (hq : pq_Fl v6.toInt (pq_Pk σ v1.toInt v2.toInt v3.toInt v4.toInt)) :
    pq_Tot (M_M_make_b215 N v1 v2 v3 v4 v5 v6 σ) (pq_Mk σ pq_LM pq_AM (pq_PM v1.toInt v2.toInt v3.toInt v4.toInt)) := by
  rw [M_M_make_b215]
  have ht := pq_tI_rng h
  refine pq_Tot.ite (fun _ => ?_) (fun e => ?_)
  · exact pq_Tot.nm (pq_Tot.ret (pq_full1 h _ _ _ _))
  refine pq_Tot.ite (fun e5 => ?_) (fun _ => ?_)
  · have e1 : (gM_M_types σ).toInt < 500 := by
      rw [pq_iv_eq] at e; have : (500 : Int32).toInt = 500 := rfl; omega
    have hc : ck (gM_M_types σ) 500 = true := pq_ck_mk ht.1 e1
    rw [pq_iv_le] at e5
    have hd := hd e5
    have n1 : (gM_M_types σ + 1).toInt = pq_tI σ + 1 := pq_iv_add (by have := pq_iv_1; omega) (by have := pq_iv_1; omega)
    have n2 : (gM_M_types σ + 1 - 1).toInt = pq_tI σ := by
      rw [pq_iv_sub (by rw [n1]; have := pq_iv_1; have := ht.1; simp only [pq_tI] at *; omega) (by rw [n1]; have := pq_iv_1; have := ht.1; simp only [pq_tI] at *; omega), n1, pq_iv_1]; omega
    have nt : (gM_M_types σ).toNatClampNeg = (pq_tI σ).toNat := rfl
    iterate 6 refine pq_Tot.ite1 hc (pq_Tot.nm ?_)
    refine pq_Tot.nm (pq_Tot.ret ?_)
    show pq_Mk σ pq_LM pq_AM (pq_PM v1.toInt v2.toInt v3.toInt v4.toInt) (gM_M_types σ + 1 - 1) (sM_M_types (tM_M_proper (tM_M_deep (tM_M_three (tM_M_two (tM_M_one (tM_M_kind σ (upd (aM_M_kind σ) (gM_M_types σ).toNatClampNeg v1)) (upd (aM_M_one σ) (gM_M_types σ).toNatClampNeg v2)) (upd (aM_M_two σ) (gM_M_types σ).toNatClampNeg v3)) (upd (aM_M_three σ) (gM_M_types σ).toNatClampNeg v4)) (upd (aM_M_deep σ) (gM_M_types σ).toNatClampNeg v5)) (upd (aM_M_proper σ) (gM_M_types σ).toNatClampNeg (vp_nar .boolean v6))) (gM_M_types σ + 1))
    generalize hτ : (sM_M_types (tM_M_proper (tM_M_deep (tM_M_three (tM_M_two (tM_M_one (tM_M_kind σ (upd (aM_M_kind σ) (gM_M_types σ).toNatClampNeg v1)) (upd (aM_M_one σ) (gM_M_types σ).toNatClampNeg v2)) (upd (aM_M_two σ) (gM_M_types σ).toNatClampNeg v3)) (upd (aM_M_three σ) (gM_M_types σ).toNatClampNeg v4)) (upd (aM_M_deep σ) (gM_M_types σ).toNatClampNeg v5)) (upd (aM_M_proper σ) (gM_M_types σ).toNatClampNeg (vp_nar .boolean v6))) (gM_M_types σ + 1)) = τ
    have t1 : pq_tI τ = pq_tI σ + 1 := by rw [← hτ]; exact n1
    have k1 : ∀ t, pq_kI τ t = if t = (pq_tI σ).toNat then v1.toInt else pq_kI σ t := fun t => by
      rw [← hτ]; show (upd (aM_M_kind σ) (pq_tI σ).toNat v1 t).toInt = _
      rw [upd]; split <;> rfl
    have o1 : ∀ t, pq_oI τ t = if t = (pq_tI σ).toNat then v2.toInt else pq_oI σ t := fun t => by
      rw [← hτ]; show (upd (aM_M_one σ) (pq_tI σ).toNat v2 t).toInt = _
      rw [upd]; split <;> rfl
    have w1 : ∀ t, pq_wI τ t = if t = (pq_tI σ).toNat then v3.toInt else pq_wI σ t := fun t => by
      rw [← hτ]; show (upd (aM_M_two σ) (pq_tI σ).toNat v3 t).toInt = _
      rw [upd]; split <;> rfl
    have h1 : ∀ t, pq_hI τ t = if t = (pq_tI σ).toNat then v4.toInt else pq_hI σ t := fun t => by
      rw [← hτ]; show (upd (aM_M_three σ) (pq_tI σ).toNat v4 t).toInt = _
      rw [upd]; split <;> rfl
    have d1 : ∀ t, pq_dI τ t = if t = (pq_tI σ).toNat then v5.toInt else pq_dI σ t := fun t => by
      rw [← hτ]; show (upd (aM_M_deep σ) (pq_tI σ).toNat v5 t).toInt = _
      rw [upd]; split <;> rfl
    have q1 : ∀ t, pq_qI τ t = if t = (pq_tI σ).toNat then v6.toInt else pq_qI σ t := fun t => by
      rw [← hτ]; show (upd (aM_M_proper σ) (pq_tI σ).toNat (vp_nar .boolean v6) t).toInt = _
      rw [upd]; split
      · exact pq_nar1 hq.b
      · rfl
    have ex : pq_Ex σ τ := by
      refine ⟨by rw [← hτ]; rfl, fun c => by rw [← hτ]; rfl, by omega, fun t ht => ?_⟩
      have ne : t ≠ (pq_tI σ).toNat := by omega
      rw [k1, o1, w1, h1, d1, q1, if_neg ne, if_neg ne, if_neg ne, if_neg ne, if_neg ne, if_neg ne]
      exact ⟨rfl, rfl, rfl, rfl, rfl, rfl⟩
    have hT : pq_Tb τ := by
      refine ⟨by rw [ex.1]; exact h.1, by rw [ex.1]; exact h.2.1, by have := h.2.2.1; omega, by simp only [pq_tI] at *; omega, fun t ht' => ?_⟩
      by_cases ne : t = (pq_tI σ).toNat
      · have : (t : Int) = pq_tI σ := by have := h.2.2.1; omega
        refine ⟨⟨?_, ?_⟩, ?_⟩
        · rw [k1, o1, w1, h1, if_pos ne, if_pos ne, if_pos ne, if_pos ne, this]
          exact ho.ex ex h (Int.le_refl _) (Int.le_refl _)
        · rw [k1, o1, w1, h1, d1, if_pos ne, if_pos ne, if_pos ne, if_pos ne, if_pos ne]
          exact ho.dok ex (Int.le_refl _) hd
        · rw [k1, o1, w1, h1, q1, if_pos ne, if_pos ne, if_pos ne, if_pos ne, if_pos ne]
          exact hq.iff (ho.pk ex (Int.le_refl _))
      · have lt : (t : Int) < pq_tI σ := by have := h.2.2.1; omega
        obtain ⟨o, op⟩ := h.2.2.2.2 t lt
        refine ⟨⟨?_, ?_⟩, ?_⟩
        · rw [k1, o1, w1, h1, if_neg ne, if_neg ne, if_neg ne, if_neg ne]
          exact o.1.ex ex h (by omega) (Int.le_refl _)
        · rw [k1, o1, w1, h1, d1, if_neg ne, if_neg ne, if_neg ne, if_neg ne, if_neg ne]
          exact o.1.dok ex (by omega) o.2
        · rw [k1, o1, w1, h1, q1, if_neg ne, if_neg ne, if_neg ne, if_neg ne, if_neg ne]
          exact op.iff (o.1.pk ex (by omega))
    have f0 : gM_M_full τ = gM_M_full σ := by rw [← hτ]; rfl
    refine ⟨hT, ex, ?_, fun z => absurd (by rw [pq_fl, f0] at z; exact z) hf, fun _ => ⟨hf, ?_, ?_⟩⟩
    · rw [← hτ]
      exact pq_fr.s (pq_fr.t (pq_fr.t (pq_fr.t (pq_fr.t (pq_fr.t (pq_fr.t pq_fr.rf (by decide) _) (by decide) _) (by decide) _) (by decide) _) (by decide) _) (by decide) _) (by decide) _
    · rw [n2]; exact ⟨h.2.2.1, by omega⟩
    · rw [n2]
      exact ⟨by rw [k1, if_pos rfl], by rw [o1, if_pos rfl], by rw [w1, if_pos rfl], by rw [h1, if_pos rfl]⟩
  · exact pq_Tot.nm (pq_Tot.ret (pq_full1 h _ _ _ _))
