variable {cc : Int}
section PG
variable {N : Nat} {D : Int} {σ : SM}
def pq_Ip (σ : SM) (K : Nat) (x1 x2 : Int) (r : Int32) (τ : SM) : Prop := pq_fr pq_LI pq_AI σ τ ∧ (∃ K', K' ≤ K + 1 ∧ pq_Sn K' τ) ∧ (r ≠ 0 → pq_vt σ x2 ∧ (pq_kI σ x2.toNat = 0 ∨ pq_kI σ x2.toNat = 1) ∧ 0 ≤ pq_oI σ x2.toNat ∧ pq_oI σ x2.toNat < x1 ∧ pq_qI σ x2.toNat = 1)
set_option maxRecDepth 100000 in
theorem pq_isParent_ok (hN : 3000 ≤ N) (hT : pq_Tb σ) {K : Nat} (hK : pq_Sn K σ) (hK2 : K + 1 < 4294967296) (x1 x2 : Int32) : pq_Tot (M_M_isParent N x1 x2 σ) (pq_Ip σ K x1.toInt x2.toInt) := by
  have r0 : pq_Tot (some ((0 : Int32), σ)) (pq_Ip σ K x1.toInt x2.toInt) := pq_Tot.ret ⟨pq_fr.rf, ⟨K, by omega, hK⟩, fun z => absurd rfl z⟩
  have b54 : pq_Tot (M_M_isParent_b54 N x1 x2 σ) (pq_Ip σ K x1.toInt x2.toInt) := by
    rw [M_M_isParent_b54, M_M_isParent_b55]; exact pq_Tot.ite1 rfl r0
  rw [M_M_isParent]
  refine pq_Tot.bd (pq_isType_ok x2) (fun r τ hr => ?_)
  obtain ⟨rfl, hr⟩ := hr
  refine pq_Tot.ite (fun _ => b54) (fun n => ?_)
  have v := hr n
  have c := pq_ck_vt hT v
  have ke : (aM_M_kind τ x2.toNatClampNeg).toInt = pq_kI τ x2.toInt.toNat := rfl
  have oe : (aM_M_one τ x2.toNatClampNeg).toInt = pq_oI τ x2.toInt.toNat := rfl
  have b50 : (pq_kI τ x2.toInt.toNat = 0 ∨ pq_kI τ x2.toInt.toNat = 1) → pq_Tot (M_M_isParent_b50 N x1 x2 τ) (pq_Ip τ K x1.toInt x2.toInt) := fun k => by
    rw [M_M_isParent_b50, M_M_isParent_b55]
    refine pq_Tot.ite2 (by decide) (pq_Tot.ite1 c (pq_Tot.ite (fun lt => ?_) (fun _ => r0)))
    rw [pq_iv_lt, oe] at lt
    have o0 : 0 ≤ pq_oI τ x2.toInt.toNat := by
      rcases k with k | k
      · exact ((hT.ok v).1.1 k).1
      · have := ((hT.ok v).1.2.1 k).1; omega
    have b124 : pq_Tot (M_M_isParent_b124 N x1 x2 τ) (pq_Ip τ K x1.toInt x2.toInt) := by
      rw [M_M_isParent_b124]
      refine pq_Tot.bd (pq_isOfBefore_pr (by omega) x1 hT v hK hK2) (fun r3 τ3 h3 => pq_Tot.ite1 (decide_eq_true h3.1) (pq_Tot.ret ⟨h3.2.1, ⟨K + 1, Nat.le_refl _, h3.2.2.1⟩, fun nz => ⟨v, k, o0, lt, h3.2.2.2 (h3.1.resolve_left nz)⟩⟩))
    refine pq_Tot.ite1 c (pq_Tot.ite (fun k1 => ?_) (fun _ => b124))
    have k1' : pq_kI τ x2.toInt.toNat = 1 := pq_eqI k1
    have vw := hT.w v k1'
    refine pq_Tot.ite1 c (pq_Tot.ite1 (pq_ck_vt hT (show pq_vt τ (aM_M_two τ x2.toNatClampNeg).toInt from vw)) (pq_Tot.ite (fun _ => r0) (fun _ => pq_Tot.ite1 c (pq_Tot.ite (fun _ => b124) (fun n3 => pq_Tot.ite1 c ?_)))))
    have vh := hT.h v k1' (hT.hn v k1' (fun z => n3 (pq_iv_eq.2 z)))
    exact pq_Tot.ite1 (pq_ck_vt hT (show pq_vt τ (aM_M_three τ x2.toNatClampNeg).toInt from vh)) (pq_Tot.ite (fun _ => r0) (fun _ => b124))
  refine pq_Tot.ite1 c (pq_Tot.ite (fun k1 => b50 (Or.inr (pq_eqI k1))) (fun _ => pq_Tot.ite1 c (pq_Tot.ite (fun k0 => pq_Tot.ite1 c ?_) (fun _ => b54))))
  have k0' : pq_kI τ x2.toInt.toNat = 0 := pq_eqI k0
  have ob := (hT.ok v).1.1 k0'
  have c40 := hT.2.1
  exact pq_Tot.ite1 (pq_ck_mk (by rw [oe]; omega) (by rw [oe]; omega)) (pq_Tot.ite (fun _ => pq_Tot.ite1 c (pq_Tot.ite (fun _ => b54) (fun _ => b50 (Or.inl k0')))) (fun _ => b54))
set_option maxRecDepth 100000 in
theorem pq_Iv.par {σ τ : SM} (h : pq_Iv σ) (e1 : τ.1 = σ.1) (e2 : ∀ i, i ∉ [1, 2] → τ.2.1 i = σ.2.1 i) (hP : pq_Pb τ) : pq_Iv τ ∧ pq_Ph τ = pq_Ph σ ∧ pq_Ex σ τ := by
  obtain ⟨h1, h2, h3, h4, h5, h6, h7, h8, h9, h10, h11, h12⟩ := h
  have ex : pq_Ex σ τ := pq_Ex.same (by rw [e1]) (by rw [e1]) (e2 0 (by decide)) (e2 3 (by decide)) (e2 4 (by decide)) (e2 5 (by decide)) (e2 6 (by decide)) (e2 7 (by decide)) (e2 8 (by decide))
  have eb : pq_bI τ = pq_bI σ := by show (τ.1 16).toInt = _; rw [e1]; rfl
  have ev : pq_vaI τ = pq_vaI σ := by show (τ.1 4).toInt = _; rw [e1]; rfl
  have eh : pq_heI τ = pq_heI σ := by show (τ.1 17).toInt = _; rw [e1]; rfl
  have ei : pq_icI τ = pq_icI σ := by show (τ.1 9).toInt = _; rw [e1]; rfl
  have ed : pq_tdI τ = pq_tdI σ := by show (τ.1 18).toInt = _; rw [e1]; rfl
  have es : gM_M_state τ = gM_M_state σ := by show τ.1 19 = _; rw [e1]
  have bs : ∀ k, pq_bsI τ k = pq_bsI σ k := fun k => by show (τ.2.1 28 k).toInt = _; rw [e2 28 (by decide)]; rfl
  have bo : ∀ k, pq_boI τ k = pq_boI σ k := fun k => by show (τ.2.1 29 k).toInt = _; rw [e2 29 (by decide)]; rfl
  have by' : ∀ k, pq_byI τ k = pq_byI σ k := fun k => by show (τ.2.1 30 k).toInt = _; rw [e2 30 (by decide)]; rfl
  have bg : pq_BG σ τ := ⟨by omega, fun k _ => ⟨bs k, bo k, by' k⟩⟩
  have bg' : pq_BG τ σ := ⟨by omega, fun k _ => ⟨(bs k).symm, (bo k).symm, (by' k).symm⟩⟩
  have hT : pq_Tb τ := pq_Tb.ex ex (by show (τ.1 1).toInt = _; rw [e1]; rfl) h1
  have hB : pq_Bd τ := h3.ex ex bg eb
  have ex' : pq_Ex τ σ := pq_Ex.same (by rw [e1]) (by rw [e1]) (e2 0 (by decide)).symm (e2 3 (by decide)).symm (e2 4 (by decide)).symm (e2 5 (by decide)).symm (e2 6 (by decide)).symm (e2 7 (by decide)).symm (e2 8 (by decide)).symm
  have us : pq_Us τ = pq_Us σ := Nat.le_antisymm (pq_Us.g h3 ex bg ev) (pq_Us.g hB ex' bg' ev.symm)
  refine ⟨⟨hT, hP, hB, h4.ex ex, by rw [pq_fl, show gM_M_full τ = gM_M_full σ by show τ.1 2 = _; rw [e1]]; exact h5, by rw [ei]; exact h6, by rw [eh, eb]; exact h7, by rw [ev]; exact h8, by rw [ed]; exact h9, fun i hi => ?_, fun c hc => ?_, by rw [ev, eb]; exact h12⟩, ?_, ex⟩
  · rw [ed] at hi
    rw [show pq_tlI τ i = pq_tlI σ i by show (τ.2.1 33 i).toInt = _; rw [e2 33 (by decide)]; rfl, show pq_trI τ i = pq_trI σ i by show (τ.2.1 34 i).toInt = _; rw [e2 34 (by decide)]; rfl]
    exact ⟨ex.vt (h10 i hi).1, ex.vt (h10 i hi).2⟩
  · rw [ex.1] at hc
    rw [ex.2.1]; exact h11 c hc
  · rw [pq_Ph, pq_Ph, us, ev, eb, eh, es]
set_option maxRecDepth 100000 in
theorem pq_parent_go (hN : 3000 ≤ N) (h : pq_Wc D cc σ) (hD : D + 100 < 4294967296) (x1 x2 : Int32) : pq_Go (D + pq_CC) cc (M_M_parent N x1 x2 σ) := by
  rw [pq_Go, M_M_parent]
  have cn : pq_CC = 8372000 := rfl
  have w := h.le (show D ≤ D + pq_CC by omega)
  refine pq_Tot.ite (fun _ => pq_Tot.ret w) (fun n9 => pq_Tot.bd (pq_isClass_ok x1) (fun r τ hr => ?_))
  rw [pq_iv_lt, show (9 : Int32).toInt = 9 from rfl] at n9
  obtain ⟨rfl, hr⟩ := hr
  refine pq_Tot.ite (fun _ => pq_Tot.ret w) (fun nc => ?_)
  have hx := hr nc
  have c40 := h.1.1.2.1
  have pn := pq_Ph_nn h.1
  obtain ⟨K, k1, k2⟩ := h.2.1
  refine pq_Tot.bd (pq_isParent_ok hN h.1.1 k1 (by omega) x1 x2) (fun r3 σ4 h4 => ?_)
  obtain ⟨f4, ⟨K', k3, k4⟩, hp⟩ := h4
  have nf4 : ¬ pq_fl σ4 := by rw [pq_fl, show gM_M_full σ4 = gM_M_full τ from f4.1 2 (by decide)]; exact h.1.2.2.2.2.1
  have ex4 := f4.ex (by decide)
  have q4 := h.1.easy (pq_Tb.ex ex4.1 ex4.2 h.1.1) ex4.1 f4 (by decide) (by decide) nf4
  have w4 : pq_Wc (D + pq_CC) cc σ4 := ⟨q4.1, ⟨K', k4, by omega⟩, ex4.1.1.trans h.2.2⟩
  refine pq_Tot.ite (fun _ => pq_Tot.ret w4) (fun n3 => ?_)
  obtain ⟨p1, p2, p3, p4, p5⟩ := hp n3
  have cx : ck x1 40 = true := pq_ck_mk hx.1 (by omega)
  have xn : x1.toNatClampNeg = x1.toInt.toNat := rfl
  have hP4 := q4.1.2.1
  have pm := hP4.1 x1.toInt.toNat (by omega)
  have pe : (aM_M_parentMany σ4 x1.toNatClampNeg).toInt = pq_pmI σ4 x1.toInt.toNat := rfl
  refine pq_Tot.ite1 cx (pq_Tot.ite (fun _ => pq_Tot.ret w4) (fun nf => pq_Tot.ite1 cx ?_))
  have n3' : pq_pmI σ4 x1.toInt.toNat ≠ 3 := fun z => nf (pq_iv_eq.2 (by rw [pe, z]; rfl))
  have m3 : ((3 : Int32) * x1).toInt = 3 * x1.toInt := by
    have : (3 : Int32).toInt = 3 := rfl
    rw [pq_iv_mul (by rw [this]; omega) (by rw [this]; omega), this]
  have ix : ((3 : Int32) * x1 + aM_M_parentMany σ4 x1.toNatClampNeg).toInt = 3 * x1.toInt + pq_pmI σ4 x1.toInt.toNat := by rw [pq_iv_add (by rw [m3, pe]; omega) (by rw [m3, pe]; omega), m3, pe]
  have ixn : ((3 : Int32) * x1 + aM_M_parentMany σ4 x1.toNatClampNeg).toNatClampNeg = 3 * x1.toInt.toNat + (pq_pmI σ4 x1.toInt.toNat).toNat := by show ((3 : Int32) * x1 + aM_M_parentMany σ4 x1.toNatClampNeg).toInt.toNat = _; rw [ix]; omega
  refine pq_Tot.ite1 (pq_ck_mk (by rw [ix]; omega) (by rw [ix]; omega)) (pq_Tot.nm (pq_Tot.ite1 cx (pq_Tot.ite1 cx (pq_Tot.nm ?_))))
  rw [ixn]
  generalize hσ6 : tM_M_parentMany _ _ = σ6
  have g1 : σ6.1 = σ4.1 := by rw [← hσ6]
  have g2 : ∀ i, i ∉ [1, 2] → σ6.2.1 i = σ4.2.1 i := fun i hi => by
    rw [← hσ6]
    show va_up (va_up σ4.2.1 1 _) 2 _ i = _
    rw [va_up, va_up, if_neg (fun e => hi (by rw [e]; decide)), if_neg (fun e => hi (by rw [e]; decide))]
  have g3 : σ6.2.2 = σ4.2.2 := by rw [← hσ6]
  have pmu : ∀ c, pq_pmI σ6 c = if c = x1.toInt.toNat then pq_pmI σ4 c + 1 else pq_pmI σ4 c := fun c => by
    rw [← hσ6]
    show (upd (aM_M_parentMany σ4) x1.toInt.toNat (aM_M_parentMany σ4 x1.toInt.toNat + 1) c).toInt = _
    have e1 : (aM_M_parentMany σ4 x1.toInt.toNat + 1).toInt = pq_pmI σ4 x1.toInt.toNat + 1 := by
      have : (aM_M_parentMany σ4 x1.toInt.toNat).toInt = pq_pmI σ4 x1.toInt.toNat := rfl
      rw [pq_iv_add (by rw [this, pq_iv_1]; omega) (by rw [this, pq_iv_1]; omega), this, pq_iv_1]
    rw [upd]; split
    · next e => rw [e1, e]
    · rfl
  have pru : ∀ i, pq_prI σ6 i = if i = 3 * x1.toInt.toNat + (pq_pmI σ4 x1.toInt.toNat).toNat then x2.toInt else pq_prI σ4 i := fun i => by
    rw [← hσ6]
    show (upd (aM_M_parents σ4) (3 * x1.toInt.toNat + (pq_pmI σ4 x1.toInt.toNat).toNat) x2 i).toInt = _
    rw [upd]; split <;> rfl
  clear hσ6
  have ex6 : pq_Ex σ4 σ6 := pq_Ex.same (by rw [g1]) (by rw [g1]) (g2 0 (by decide)) (g2 3 (by decide)) (g2 4 (by decide)) (g2 5 (by decide)) (g2 6 (by decide)) (g2 7 (by decide)) (g2 8 (by decide))
  have hT4 := q4.1.1
  have hT6 : pq_Tb σ6 := pq_Tb.ex ex6 (by show (σ6.1 1).toInt = _; rw [g1]; rfl) hT4
  have c6 : pq_cI σ6 = pq_cI σ4 := ex6.1
  have v4 : pq_vt σ4 x2.toInt := ex4.1.vt p1
  have ne : ∀ (c k : Nat), c < 40 → (k : Int) < 3 → (c ≠ x1.toInt.toNat ∨ (k : Int) ≠ pq_pmI σ4 x1.toInt.toNat) → pq_prI σ6 (3 * c + k) = pq_prI σ4 (3 * c + k) := fun c k hc hk3 hne => by
    rw [pru, if_neg]
    intro e
    rcases hne with y | y
    · omega
    · have : c = x1.toInt.toNat := by omega
      subst this; omega
  have old : ∀ (c k : Nat), c < 40 → (k : Int) < pq_pmI σ4 c → pq_vt σ6 (pq_prI σ4 (3 * c + k)) ∧ (pq_kI σ6 (pq_prI σ4 (3 * c + k)).toNat = 0 ∨ pq_kI σ6 (pq_prI σ4 (3 * c + k)).toNat = 1) ∧ 0 ≤ pq_oI σ6 (pq_prI σ4 (3 * c + k)).toNat ∧ pq_oI σ6 (pq_prI σ4 (3 * c + k)).toNat < c ∧ pq_qI σ6 (pq_prI σ4 (3 * c + k)).toNat = 1 := fun c k hc hk => by
    have y := (hP4.1 c hc).2.2.2 k hk
    rw [ex6.k y.1, ex6.o y.1, ex6.q y.1]
    exact ⟨ex6.vt y.1, y.2.1, y.2.2.1, y.2.2.2, hP4.2.2 c hc k hk⟩
  have new : pq_vt σ6 x2.toInt ∧ (pq_kI σ6 x2.toInt.toNat = 0 ∨ pq_kI σ6 x2.toInt.toNat = 1) ∧ 0 ≤ pq_oI σ6 x2.toInt.toNat ∧ pq_oI σ6 x2.toInt.toNat < (x1.toInt.toNat : Nat) ∧ pq_qI σ6 x2.toInt.toNat = 1 := by
    rw [ex6.k v4, ex6.o v4, ex6.q v4, ex4.1.k p1, ex4.1.o p1, ex4.1.q p1]
    exact ⟨ex6.vt v4, p2, p3, by omega, p5⟩
  have all : ∀ (c k : Nat), c < 40 → (k : Int) < pq_pmI σ6 c → pq_vt σ6 (pq_prI σ6 (3 * c + k)) ∧ (pq_kI σ6 (pq_prI σ6 (3 * c + k)).toNat = 0 ∨ pq_kI σ6 (pq_prI σ6 (3 * c + k)).toNat = 1) ∧ 0 ≤ pq_oI σ6 (pq_prI σ6 (3 * c + k)).toNat ∧ pq_oI σ6 (pq_prI σ6 (3 * c + k)).toNat < c ∧ pq_qI σ6 (pq_prI σ6 (3 * c + k)).toNat = 1 := fun c k hc hk => by
    rw [pmu] at hk
    have y3 := (hP4.1 c hc).2.1
    by_cases e : c = x1.toInt.toNat
    · rw [if_pos e] at hk
      by_cases e' : (k : Int) = pq_pmI σ4 x1.toInt.toNat
      · rw [pru, if_pos (by omega), e]; exact new
      · rw [e] at hk
        rw [ne c k hc (by omega) (Or.inr e')]
        exact old c k hc (by rw [e]; omega)
    · rw [if_neg e] at hk
      rw [ne c k hc (by omega) (Or.inl e)]
      exact old c k hc hk
  have hPd : pq_Pd σ6 := by
    refine ⟨fun c hc => ?_, fun c hc k hk => (all c k hc hk).2.2.2.2⟩
    have y := hP4.1 c hc
    refine ⟨?_, ?_, fun z => ?_, fun k hk => ?_⟩
    · rw [pmu]; split <;> omega
    · rw [pmu]; split
      · next e => rw [e] at y ⊢; omega
      · exact y.2.1
    · rw [c6] at z
      rw [pmu, if_neg (fun e => by rw [e] at z; have := ex4.1.1; omega)]
      exact y.2.2.1 z
    · have a := all c k hc hk
      exact ⟨a.1, a.2.1, a.2.2.1, a.2.2.2.1⟩
  refine pq_pa_L67 (σ := σ6) hT6 hPd ⟨hx.1, by omega⟩ (by omega) (fun r υ up ro hu => ?_) N 40 0 0 σ6 pq_Upw.rf rfl rfl (fun j hj => by omega) (fun _ _ => rfl) (by omega)
  have e1 : υ.1 = σ4.1 := up.1.trans g1
  have e2 : ∀ i, i ∉ [1, 2] → υ.2.1 i = σ4.2.1 i := fun i hi => by rw [up.2]; exact g2 i hi
  have prυ : pq_prI υ = pq_prI σ6 := by funext i; show (υ.2.1 1 i).toInt = _; rw [up.2]; rfl
  have pmυ : pq_pmI υ = pq_pmI σ6 := by funext i; show (υ.2.1 2 i).toInt = _; rw [up.2]; rfl
  have kυ : pq_kI υ = pq_kI σ6 := by funext i; show (υ.2.1 3 i).toInt = _; rw [up.2]; rfl
  have oυ : pq_oI υ = pq_oI σ6 := by funext i; show (υ.2.1 4 i).toInt = _; rw [up.2]; rfl
  have qυ : pq_qI υ = pq_qI σ6 := by funext i; show (υ.2.1 8 i).toInt = _; rw [up.2]; rfl
  have cυ : pq_cI υ = pq_cI σ6 := by show (υ.1 0).toInt = _; rw [up.1]; rfl
  have vυ : ∀ t, pq_vt υ t ↔ pq_vt σ6 t := fun t => by
    have : pq_tI υ = pq_tI σ6 := by show (υ.1 1).toInt = _; rw [up.1]; rfl
    rw [pq_vt, pq_vt, this]
  have hPυ : pq_Pb υ := by
    refine ⟨fun c hc => ?_, fun c hc g => ?_, fun c hc k hk => ?_⟩
    · rw [prυ, pmυ, kυ, oυ, cυ]
      have y := hPd.1 c hc
      exact ⟨y.1, y.2.1, y.2.2.1, fun k hk => by rw [vυ]; exact y.2.2.2 k hk⟩
    · rw [prυ, pmυ, oυ]
      by_cases hcc : (c : Int) < pq_cI σ6
      · exact ro c hcc g
      · rw [hu c (by omega)]
        have y := (hPd.1 c hc).2.2.1 (by omega)
        have z : aM_M_upward σ6 = aM_M_upward σ4 := by show σ6.2.2 0 = _; rw [g3]
        rw [z, hP4.2.1 c hc g]
        have y4 := (hP4.1 c hc).2.2.1 (by rw [← c6]; omega)
        constructor
        · rintro ⟨k, a, _⟩; omega
        · rintro ⟨k, a, _⟩; omega
    · rw [pmυ] at hk
      rw [prυ, qυ]; exact hPd.2 c hc k hk
  have qq := q4.1.par e1 e2 hPυ
  refine ⟨qq.1, ⟨K', ⟨by show υ.1 5 = _; rw [e1]; exact k4.1, fun t => ?_⟩, by rw [qq.2.1]; omega⟩, qq.2.2.1.trans (ex4.1.1.trans h.2.2)⟩
  obtain ⟨m, hm, em⟩ := k4.2 t
  exact ⟨m, hm, by show υ.2.1 17 t = _; rw [e2 17 (by decide)]; exact em⟩
end PG
