variable {Z : Prop}
def pq_OwOk (Z : Prop) (σ : SM) (ow : Int32) : Prop := (ow = -1 ∧ ∀ k : Nat, k < 12 → aM_M_inPlace σ k = -1 ∨ pq_vt σ (aM_M_inPlace σ k).toInt) ∨ (pq_vt σ ow.toInt ∧ pq_kI σ ow.toInt.toNat = 1 ∧ (Z → pq_qI σ ow.toInt.toNat = 1))
def pq_inn (σ : SM) (t : Int) : Prop := pq_kI σ t.toNat = 1 ∨ pq_kI σ t.toNat = 4 ∨ pq_kI σ t.toNat = 8 ∨ (pq_kI σ t.toNat = 2 ∧ 0 < pq_oI σ t.toNat)
def pq_PP (Z : Prop) (σ τ : SM) (t r : Int) : Prop := pq_vt τ r ∧ (pq_kI σ t.toNat = 2 → pq_kI τ r.toNat = 2) ∧
  (pq_kI σ t.toNat = 1 → pq_kI τ r.toNat = 1 ∧ pq_oI τ r.toNat = pq_oI σ t.toNat ∧ (pq_kI σ (pq_wI σ t.toNat).toNat = 2 → pq_kI τ (pq_wI τ r.toNat).toNat = 2) ∧ (0 ≤ pq_hI σ t.toNat → 0 ≤ pq_hI τ r.toNat ∧ (pq_kI σ (pq_hI σ t.toNat).toNat = 2 → pq_kI τ (pq_hI τ r.toNat).toNat = 2))) ∧
  (pq_kI σ t.toNat = 0 → pq_kI τ r.toNat = 0 ∧ pq_oI τ r.toNat = pq_oI σ t.toNat) ∧
  (Z → pq_qI σ t.toNat = 1 → pq_qI τ r.toNat = 1)
set_option maxRecDepth 100000 in
theorem pq_Tb.w {σ : SM} (h : pq_Tb σ) {x : Int} (v : pq_vt σ x) (k : pq_kI σ x.toNat = 1) : pq_vt σ (pq_wI σ x.toNat) := by
  have q := (h.ok v).1.2.1 k
  have := pq_tn_lt v.1 v.2
  exact ⟨q.2.2.1, Int.lt_trans q.2.2.2.1 this⟩
set_option maxRecDepth 100000 in
theorem pq_Tb.h {σ : SM} (h : pq_Tb σ) {x : Int} (v : pq_vt σ x) (k : pq_kI σ x.toNat = 1) (z : 0 ≤ pq_hI σ x.toNat) : pq_vt σ (pq_hI σ x.toNat) := by
  have q := (h.ok v).1.2.1 k
  have := pq_tn_lt v.1 v.2
  rcases q.2.2.2.2 with y | y
  · exact absurd z (by rw [y.1]; decide)
  · exact ⟨y.1, Int.lt_trans y.2.1 this⟩
set_option maxRecDepth 100000 in
theorem pq_Tb.hn {σ : SM} (h : pq_Tb σ) {x : Int} (v : pq_vt σ x) (k : pq_kI σ x.toNat = 1) (z : pq_hI σ x.toNat ≠ -1) : 0 ≤ pq_hI σ x.toNat := by
  have q := (h.ok v).1.2.1 k
  rcases q.2.2.2.2 with y | y
  · exact absurd y.1 z
  · exact y.1
set_option maxRecDepth 100000 in
theorem pq_PP.ex {σ τ υ : SM} {t r : Int} (h : pq_PP Z σ τ t r) (hT : pq_Tb τ) (e : pq_Ex τ υ) : pq_PP Z σ υ t r := by
  refine ⟨e.vt h.1, fun z => ?_, fun z => ?_, fun z => by rw [e.k h.1, e.o h.1]; exact h.2.2.2.1 z, fun a b => by rw [e.q h.1]; exact h.2.2.2.2 a b⟩
  · rw [e.k h.1]; exact h.2.1 z
  · obtain ⟨a, b, c, d⟩ := h.2.2.1 z
    refine ⟨by rw [e.k h.1]; exact a, by rw [e.o h.1]; exact b, fun y => ?_, fun y => ?_⟩
    · rw [e.w h.1, e.k (hT.w h.1 a)]; exact c y
    · rw [e.h h.1]
      have d := d y
      refine ⟨d.1, fun z => ?_⟩
      rw [e.k (hT.h h.1 a d.1)]; exact d.2 z
set_option maxRecDepth 100000 in
theorem pq_PP.self {σ τ : SM} {t : Int} (v : pq_vt σ t) (hT : pq_Tb σ) (e : pq_Ex σ τ) : pq_PP Z σ τ t t :=
  pq_PP.ex ⟨v, fun z => z, fun z => ⟨z, rfl, fun z => z, fun z => ⟨z, fun y => y⟩⟩, fun z => ⟨z, rfl⟩, fun _ z => z⟩ hT e
set_option maxRecDepth 100000 in
theorem pq_OwOk.ex {σ τ : SM} {ow : Int32} (h : pq_OwOk Z σ ow) (e : pq_Ex σ τ) (hi : τ.2.1 15 = σ.2.1 15) : pq_OwOk Z τ ow := by
  rcases h with h | h
  · refine Or.inl ⟨h.1, fun k hk => ?_⟩
    rw [show aM_M_inPlace τ = aM_M_inPlace σ from hi]
    exact (h.2 k hk).imp id e.vt
  · exact Or.inr ⟨e.vt h.1, by rw [e.k h.1]; exact h.2.1, fun z => by rw [e.q h.1]; exact h.2.2 z⟩
def pq_Lf (Z : Prop) (σ : SM) (t : Int) (r : Int32) (τ : SM) : Prop := pq_Tb τ ∧ pq_Ex σ τ ∧ pq_fr pq_LM pq_AM σ τ ∧ (¬ pq_fl τ → ¬ pq_fl σ ∧ ((r = -1 ∧ pq_inn σ t) ∨ (r ≠ -1 ∧ pq_PP Z σ τ t r.toInt)))
set_option maxRecDepth 100000 in
theorem pq_ne_m1 {x : Int32} (h : 0 ≤ x.toInt) : x ≠ -1 := fun e => by rw [e, pq_iv_m1] at h; omega
set_option maxRecDepth 100000 in
theorem pq_inPlaceOf_b131 {σ : SM} (N : Nat) {t : Int32} (hT : pq_Tb σ) (v : pq_vt σ t.toInt) : pq_Tot (M_M_inPlaceOf_b131 N t σ) (pq_Lf Z σ t.toInt) := by
  rw [M_M_inPlaceOf_b131]
  have hc := pq_ck_vt hT v
  have leaf : pq_Tot (M_M_inPlaceOf_b185 N t σ) (pq_Lf Z σ t.toInt) := pq_Tot.ret ⟨hT, pq_Ex.rf, pq_fr.rf, fun z => ⟨z, Or.inr ⟨pq_ne_m1 v.1, pq_PP.self v hT pq_Ex.rf⟩⟩⟩
  have inner : pq_inn σ t.toInt → pq_Tot (M_M_inPlaceOf_b181 N t σ) (pq_Lf Z σ t.toInt) := fun z => pq_Tot.ret ⟨hT, pq_Ex.rf, pq_fr.rf, fun y => ⟨y, Or.inl ⟨rfl, z⟩⟩⟩
  refine pq_Tot.ite1 hc (pq_Tot.ite (fun e => inner (Or.inl (pq_eqI e))) (fun _ => pq_Tot.ite1 hc (pq_Tot.ite (fun e => inner (Or.inr (Or.inl (pq_eqI e)))) (fun _ => pq_Tot.ite1 hc (pq_Tot.ite (fun e => inner (Or.inr (Or.inr (Or.inl (pq_eqI e))))) (fun _ => pq_Tot.ite1 hc (pq_Tot.ite (fun e => pq_Tot.ite1 hc (pq_Tot.ite (fun _ => leaf) (fun e1 => inner (Or.inr (Or.inr (Or.inr ⟨pq_eqI e, ?_⟩)))))) (fun _ => leaf))))))))
  rw [pq_iv_le, pq_iv_0] at e1
  show 0 < (aM_M_one σ t.toNatClampNeg).toInt
  omega
set_option maxRecDepth 100000 in
theorem pq_inPlaceOf_b84 {σ : SM} (N : Nat) {t ow : Int32} (hT : pq_Tb σ) (v : pq_vt σ t.toInt) (ho : pq_OwOk Z σ ow) : pq_Tot (M_M_inPlaceOf_b84 N t ow σ) (pq_Lf Z σ t.toInt) := by
  rw [M_M_inPlaceOf_b84]
  have hc := pq_ck_vt hT v
  refine pq_Tot.ite1 hc (pq_Tot.ite (fun e => pq_Tot.ite (fun eo => ?_) (fun _ => pq_inPlaceOf_b131 N hT v)) (fun _ => pq_inPlaceOf_b131 N hT v))
  have q := (hT.ok v).1.2.2.2.2.2.2.1 (pq_eqI e)
  have c12 : ck (aM_M_one σ t.toNatClampNeg) 12 = true := pq_ck_mk q.1 (by have := q.2; simp only [pq_oI] at this; show (aM_M_one σ t.toInt.toNat).toInt < _; omega)
  refine pq_Tot.ite1 hc (pq_Tot.ite1 c12 (pq_Tot.ite (fun _ => pq_Tot.ret ⟨hT, pq_Ex.rf, pq_fr.rf, fun z => ⟨z, Or.inr ⟨pq_ne_m1 v.1, pq_PP.self v hT pq_Ex.rf⟩⟩⟩) (fun n => pq_Tot.ite1 hc (pq_Tot.ite1 c12 (pq_Tot.ret ⟨hT, pq_Ex.rf, pq_fr.rf, fun z => ⟨z, Or.inr ⟨n, ?_⟩⟩⟩)))))
  rcases ho with ho | ho
  · have := ho.2 (aM_M_one σ t.toNatClampNeg).toNatClampNeg (by have := pq_iv_nat q.1; have := q.2; simp only [pq_oI] at *; show (aM_M_one σ t.toInt.toNat).toNatClampNeg < _; omega)
    rcases this with y | y
    · exact absurd y n
    · have k7 : pq_kI σ t.toInt.toNat = 7 := pq_eqI e
      exact ⟨y, fun z => by rw [k7] at z; exact absurd z (by decide), fun z => by rw [k7] at z; exact absurd z (by decide), fun z => by rw [k7] at z; exact absurd z (by decide), fun _ z => absurd k7 (((hT.pk v).one.1 z).1)⟩
  · rw [eo] at ho; exact absurd ho.1.1 (by decide)
set_option maxRecDepth 100000 in
theorem pq_inPlaceOf_b54 {σ : SM} {N : Nat} (hN : 501 ≤ N) {t ow a : Int32} (hT : pq_Tb σ) (v : pq_vt σ t.toInt) (k3 : pq_kI σ t.toInt.toNat = 3) (vo : pq_vt σ ow.toInt) (ko : pq_kI σ ow.toInt.toNat = 1) (va : pq_vt σ a.toInt) (qa : pq_qI σ ow.toInt.toNat = 1 → pq_qI σ a.toInt.toNat = 1) (za : Z → pq_qI σ ow.toInt.toNat = 1) (ha : pq_kI σ a.toInt.toNat = 2 → (pq_wI σ t.toInt.toNat = 0 ∧ pq_kI σ (pq_wI σ ow.toInt.toNat).toNat = 2 ∨ pq_wI σ t.toInt.toNat = 1 ∧ 0 ≤ pq_hI σ ow.toInt.toNat ∧ pq_kI σ (pq_hI σ ow.toInt.toNat).toNat = 2)) :
    pq_Tot (M_M_inPlaceOf_b54 N t ow a σ) (pq_Lf Z σ t.toInt) := by
  rw [M_M_inPlaceOf_b54]
  refine pq_Tot.ite1 (pq_ck_vt hT va) (pq_Tot.ite (fun e => pq_Tot.ite1 (pq_ck_vt hT v) (pq_Tot.bd (pq_make_ok hN hT (fun hf => ?_)) (fun r τ hr => pq_Tot.ret ?_))) (fun e => pq_Tot.ret ?_))
  · have := ha (pq_eqI e)
    refine ⟨fun e => absurd e (by decide), fun e => absurd e (by decide), fun e => absurd e (by decide), fun e => absurd e (by decide), fun e => absurd e (by decide), fun e => absurd e (by decide), fun e => absurd e (by decide), fun _ => ⟨vo.1, vo.2, ko, this⟩⟩
  · refine ⟨hr.1, hr.2.1, hr.2.2.1, fun z => ?_⟩
    have q := hr.2.2.2.2 z
    exact ⟨q.1, Or.inr ⟨pq_ne_m1 q.2.1.1, q.2.1, fun z => by rw [k3] at z; exact absurd z (by decide), fun z => by rw [k3] at z; exact absurd z (by decide), fun z => by rw [k3] at z; exact absurd z (by decide), fun z _ => by
      have pm := q.2.2
      refine (hr.1.pk q.2.1).one.2 ?_
      rw [pm.1, pm.2.1, pm.2.2.1, pm.2.2.2]
      refine ⟨by decide, fun e => absurd e (by decide), fun e => absurd e (by decide), fun e => absurd e (by decide), fun _ => ?_⟩
      rw [hr.2.1.q vo]; exact za z⟩⟩
  · exact ⟨hT, pq_Ex.rf, pq_fr.rf, fun z => ⟨z, Or.inr ⟨pq_ne_m1 va.1, va, fun z => by rw [k3] at z; exact absurd z (by decide), fun z => by rw [k3] at z; exact absurd z (by decide), fun z => by rw [k3] at z; exact absurd z (by decide), fun z _ => qa (za z)⟩⟩⟩
set_option maxRecDepth 100000 in
theorem pq_inPlaceOf_ok {σ : SM} {N : Nat} (hN : 501 ≤ N) {t ow : Int32} (hT : pq_Tb σ) (v : pq_vt σ t.toInt) (ho : pq_OwOk Z σ ow) : pq_Tot (M_M_inPlaceOf N t ow σ) (pq_Lf Z σ t.toInt) := by
  rw [M_M_inPlaceOf]
  have hc := pq_ck_vt hT v
  refine pq_Tot.ite1 hc (pq_Tot.ite (fun e3 => pq_Tot.ite (fun _ => pq_inPlaceOf_b84 N hT v ho) (fun no => ?_)) (fun _ => pq_inPlaceOf_b84 N hT v ho))
  rcases ho with ho' | ho'
  · exact absurd ho'.1 no
  · have co := pq_ck_vt hT ho'.1
    refine pq_Tot.ite1 hc (pq_Tot.ite1 co (pq_Tot.ite (fun e => pq_Tot.ite1 hc (pq_Tot.ite (fun e0 => pq_Tot.ite1 co ?_) (fun e0 => pq_Tot.ite1 co ?_))) (fun _ => pq_inPlaceOf_b84 N hT v (Or.inr ho'))))
    · exact pq_inPlaceOf_b54 hN hT v (pq_eqI e3) ho'.1 ho'.2.1 (hT.w ho'.1 ho'.2.1) (fun z => (((hT.pk ho'.1).one.1 z).2.1 ho'.2.1).1) ho'.2.2 (fun z => Or.inl ⟨pq_eqI e0, z⟩)
    · have q := (hT.ok v).1.2.2.2.1 (pq_eqI e3)
      have w1 : pq_wI σ t.toInt.toNat = 1 := by
        rcases q.2.2.1 with y | y
        · exact absurd (pq_iv_eq.2 (show (aM_M_two σ t.toNatClampNeg).toInt = (0 : Int32).toInt from y)) e0
        · exact y
      have e' : pq_oI σ t.toInt.toNat = pq_oI σ ow.toInt.toNat := pq_eqI e
      have z : 0 ≤ pq_hI σ ow.toInt.toNat := by
        have := ((hT.ok ho'.1).1.2.1 ho'.2.1).2.2.2.2
        rcases this with y | y
        · have := q.2.2.2; rw [w1, e', y.2] at this; omega
        · exact y.1
      exact pq_inPlaceOf_b54 hN hT v (pq_eqI e3) ho'.1 ho'.2.1 (hT.h ho'.1 ho'.2.1 z) (fun y => (((hT.pk ho'.1).one.1 y).2.1 ho'.2.1).2 z) ho'.2.2 (fun y => Or.inr ⟨w1, z, y⟩)
