set_option maxRecDepth 100000 in
theorem pq_ck_vt {σ : SM} (h : pq_Tb σ) {x : Int32} (v : pq_vt σ x.toInt) : ck x 500 = true := pq_ck_mk v.1 (by have := v.2; have := h.2.2.2.1; omega)
set_option maxRecDepth 100000 in
theorem pq_d1_add {σ : SM} (h : pq_Tb σ) {x : Int32} (v : pq_vt σ x.toInt) : (aM_M_deep σ x.toNatClampNeg + 1).toInt = pq_dI σ x.toInt.toNat + 1 ∧ 1 ≤ pq_dI σ x.toInt.toNat ∧ pq_dI σ x.toInt.toNat ≤ 20 := by
  have o := (h.ok v).2
  have e : (aM_M_deep σ x.toNatClampNeg).toInt = pq_dI σ x.toInt.toNat := rfl
  refine ⟨?_, o.1, o.2.1⟩
  rw [pq_iv_add (by rw [e, pq_iv_1]; have := o.1; omega) (by rw [e, pq_iv_1]; have := o.2.1; omega), e, pq_iv_1]
abbrev pq_MkR (σ : SM) (v1 v2 v3 v4 : Int32) : Int32 → SM → Prop := pq_Mk σ pq_LM pq_AM (pq_PM v1.toInt v2.toInt v3.toInt v4.toInt)
set_option maxRecDepth 100000 in
theorem pq_make_b213 {σ : SM} (N : Nat) {v1 v2 v3 v4 v5 : Int32} (s0 : Int32) (h : pq_Tb σ) (hf : ¬ pq_fl σ) (ho : pq_Okk σ (pq_tI σ) v1.toInt v2.toInt v3.toInt v4.toInt) (hd : v5.toInt ≤ 20 → pq_Dok σ v1.toInt v2.toInt v3.toInt v4.toInt v5.toInt) (hq : pq_Fl s0.toInt (pq_Pk σ v1.toInt v2.toInt v3.toInt v4.toInt)) :
    pq_Tot (M_M_make_b213 N v1 v2 v3 v4 v5 s0 σ) (pq_MkR σ v1 v2 v3 v4) := pq_make_b215 N h hf ho hd hq
set_option maxRecDepth 100000 in
theorem pq_make_b191 {σ : SM} (N : Nat) {v1 v2 v3 v4 v6 s0 : Int32} (h : pq_Tb σ) (hf : ¬ pq_fl σ) (ho : pq_Okk σ (pq_tI σ) v1.toInt v2.toInt v3.toInt v4.toInt) (hv : pq_vt σ v4.toInt) (hd : s0.toInt ≤ 20 → pq_Dok σ v1.toInt v2.toInt v3.toInt v4.toInt s0.toInt) (h1 : v1.toInt = 1) (hq : pq_Fl v6.toInt (pq_Pk σ v1.toInt v2.toInt v3.toInt (-1))) :
    pq_Tot (M_M_make_b191 N v1 v2 v3 v4 v6 s0 σ) (pq_MkR σ v1 v2 v3 v4) := by
  rw [M_M_make_b191]
  have e4 : (aM_M_proper σ v4.toNatClampNeg).toInt = pq_qI σ v4.toInt.toNat := rfl
  refine pq_Tot.ite (fun e => pq_make_b213 N 0 h hf ho hd (Or.inl ⟨rfl, fun p => ?_⟩)) (fun e => pq_Tot.ite1 (pq_ck_vt h hv) (pq_Tot.ite (fun e' => pq_make_b213 N 0 h hf ho hd (Or.inl ⟨rfl, fun p => ?_⟩)) (fun e' => pq_make_b213 N 1 h hf ho hd (Or.inr ⟨rfl, ?_⟩))))
  · have := hq.one.2 ⟨p.1, fun _ => ⟨(p.2.1 h1).1, fun z => by omega⟩, p.2.2⟩
    rw [e, pq_iv_0] at this; omega
  · have := (p.2.1 h1).2 hv.1
    rw [← e4, e', pq_iv_0] at this; omega
  · have q := hq.nz.1 (fun z => e (pq_iv_eq.2 z))
    have q4 := (h.pk hv).b
    refine ⟨q.1, fun _ => ⟨(q.2.1 h1).1, fun _ => ?_⟩, q.2.2⟩
    rcases q4 with z | z
    · exact absurd (pq_iv_eq.2 (by rw [e4, z]; rfl)) e'
    · exact z
set_option maxRecDepth 100000 in
theorem pq_eqI {x : Int32} {n : Int32} (h : x = n) : x.toInt = n.toInt := by rw [h]
set_option maxRecDepth 100000 in
theorem pq_make_b152 {σ : SM} (N : Nat) {v1 v2 v3 v4 v5 v6 : Int32} (h : pq_Tb σ) (hf : ¬ pq_fl σ) (ho : pq_Okk σ (pq_tI σ) v1.toInt v2.toInt v3.toInt v4.toInt) (hd : v5.toInt ≤ 20 → pq_Dok σ v1.toInt v2.toInt v3.toInt (-1) v5.toInt) (hq : pq_Fl v6.toInt (pq_Pk σ v1.toInt v2.toInt v3.toInt (-1))) :
    pq_Tot (M_M_make_b152 N v1 v2 v3 v4 v5 v6 σ) (pq_MkR σ v1 v2 v3 v4) := by
  rw [M_M_make_b152]
  refine pq_Tot.ite (fun e1 => pq_Tot.ite (fun e4 => ?_) (fun e4 => ?_)) (fun e1 => ?_)
  · exact pq_make_b215 N h hf ho (by subst e4; exact hd) (by subst e4; exact hq)
  · have e1 : v1.toInt = 1 := pq_eqI e1
    have q := ho.2.1 e1
    have v4v : pq_vt σ v4.toInt := by
      rcases q.2.2.2.2 with y | y
      · exact absurd (pq_iv_eq.2 y.1) e4
      · exact ⟨y.1, y.2.1⟩
    have da := pq_d1_add h v4v
    refine pq_Tot.ite1 (pq_ck_vt h v4v) (pq_Tot.ite (fun le => pq_Tot.ite1 (pq_ck_vt h v4v) ?_) (fun le => ?_))
    · refine pq_make_b191 N h hf ho v4v (fun z => ?_) e1 hq
      rw [pq_iv_le] at le
      have := hd (by omega)
      refine ⟨by omega, z, fun _ => ⟨?_, fun _ => by omega⟩, fun e => by omega, fun e => by omega, fun e => by omega⟩
      have := (this.2.2.1 e1).1; omega
    · refine pq_make_b191 N h hf ho v4v (fun z => ?_) e1 hq
      rw [pq_iv_le] at le
      have := hd z
      exact ⟨this.1, z, fun _ => ⟨(this.2.2.1 e1).1, fun _ => by omega⟩, fun e => by omega, fun e => by omega, fun e => by omega⟩
  · refine pq_make_b215 N h hf ho (fun z => ?_) (hq.iff ⟨fun p => ⟨p.1, fun e => absurd (pq_iv_eq.2 e : v1 = 1) e1, p.2.2⟩, fun p => ⟨p.1, fun e => absurd (pq_iv_eq.2 e : v1 = 1) e1, p.2.2⟩⟩)
    have := hd z
    exact ⟨this.1, this.2.1, fun e => absurd (pq_iv_eq.2 e : v1 = 1) e1, this.2.2.2⟩
set_option maxRecDepth 100000 in
theorem pq_make_b134 {σ : SM} (N : Nat) {v1 v2 v3 v4 : Int32} (h : pq_Tb σ) (hf : ¬ pq_fl σ) (ho : pq_Okk σ (pq_tI σ) v1.toInt v2.toInt v3.toInt v4.toInt) (hk : v1.toInt = 1 ∨ v1.toInt = 2 ∧ 0 < v2.toInt) (hv : pq_vt σ v3.toInt) :
    pq_Tot (M_M_make_b134 N v1 v2 v3 v4 σ) (pq_MkR σ v1 v2 v3 v4) := by
  rw [M_M_make_b134]
  have da := pq_d1_add h hv
  refine pq_Tot.ite1 (pq_ck_vt h hv) (pq_Tot.nm (pq_Tot.ite1 (pq_ck_vt h hv) (pq_Tot.nm (pq_make_b152 N h hf ho (fun z => ?_) ?_))))
  rotate_left
  · have q := (h.pk hv).b
    show pq_Fl (pq_qI σ v3.toInt.toNat) _
    rcases q with q | q
    · refine Or.inl ⟨q, fun p => ?_⟩
      rcases hk with k | k
      · have := (p.2.1 k).1; omega
      · have := p.2.2.1 k.1 k.2; omega
    · exact Or.inr ⟨q, by omega, fun _ => ⟨q, fun z => by omega⟩, fun _ _ => q, fun e => by omega, fun e => by omega⟩
  exact ⟨by omega, z, fun _ => ⟨by omega, fun e => by omega⟩, fun _ _ => by omega, fun e => by omega, fun e => by omega⟩
set_option maxRecDepth 100000 in
theorem pq_make_b120 {σ : SM} (N : Nat) {v1 v2 v3 v4 v5 v6 : Int32} (h : pq_Tb σ) (hf : ¬ pq_fl σ) (ho : pq_Okk σ (pq_tI σ) v1.toInt v2.toInt v3.toInt v4.toInt) (hd : v5.toInt ≤ 20 → 1 ≤ v5.toInt ∧ (v1.toInt = 4 ∨ v1.toInt = 8 → pq_dI σ v2.toInt.toNat < v5.toInt)) (hq : v1.toInt ≠ 1 → (v1.toInt = 2 → v2.toInt ≤ 0) → pq_Fl v6.toInt (pq_Pk σ v1.toInt v2.toInt v3.toInt (-1))) :
    pq_Tot (M_M_make_b120 N v1 v2 v3 v4 v5 v6 σ) (pq_MkR σ v1 v2 v3 v4) := by
  rw [M_M_make_b120]
  refine pq_Tot.ite (fun e => ?_) (fun n1 => pq_Tot.ite (fun e => pq_Tot.ite (fun le => ?_) (fun le => ?_)) (fun n2 => ?_))
  · have e := pq_eqI e; rw [pq_iv_1] at e
    have q := ho.2.1 e
    exact pq_make_b134 N h hf ho (Or.inl e) ⟨q.2.2.1, q.2.2.2.1⟩
  · have e := pq_eqI e; rw [pq_iv_2] at e
    rw [pq_iv_le, pq_iv_0] at le
    exact pq_make_b152 N h hf ho (fun z => ⟨(hd z).1, z, fun _ => by omega, fun _ _ => by omega, fun _ => by omega, fun _ => by omega⟩) (hq (by omega) (fun _ => le))
  · have e := pq_eqI e; rw [pq_iv_2] at e
    rw [pq_iv_le, pq_iv_0] at le
    have q := (ho.2.2.1 e).2.2 (by omega)
    exact pq_make_b134 N h hf ho (Or.inr ⟨e, by omega⟩) q
  · rw [pq_iv_eq, pq_iv_1] at n1
    rw [pq_iv_eq, pq_iv_2] at n2
    exact pq_make_b152 N h hf ho (fun z => ⟨(hd z).1, z, fun _ => by omega, fun _ _ => by omega, fun e => (hd z).2 (Or.inl e), fun e => (hd z).2 (Or.inr e)⟩) (hq n1 (fun e => absurd e n2))
set_option maxRecDepth 100000 in
theorem pq_make_b102 {σ : SM} (N : Nat) {v1 v2 v3 v4 : Int32} (h : pq_Tb σ) (hf : ¬ pq_fl σ) (ho : pq_Okk σ (pq_tI σ) v1.toInt v2.toInt v3.toInt v4.toInt) (hv : pq_vt σ v2.toInt) (hk : v1.toInt = 4 ∨ v1.toInt = 8) :
    pq_Tot (M_M_make_b102 N v1 v2 v3 v4 σ) (pq_MkR σ v1 v2 v3 v4) := by
  rw [M_M_make_b102]
  have da := pq_d1_add h hv
  exact pq_Tot.ite1 (pq_ck_vt h hv) (pq_Tot.nm (pq_Tot.ite1 (pq_ck_vt h hv) (pq_Tot.nm (pq_make_b120 N h hf ho (fun z => ⟨by omega, fun _ => by omega⟩) (fun _ _ => by
    have q := (h.pk hv).b
    show pq_Fl (pq_qI σ v2.toInt.toNat) _
    rcases q with q | q
    · refine Or.inl ⟨q, fun p => ?_⟩
      rcases hk with k | k
      · have := p.2.2.2.1 k; omega
      · have := p.2.2.2.2 k; omega
    · exact Or.inr ⟨q, by omega, fun e => by omega, fun e => by omega, fun _ => q, fun _ => q⟩)))))
set_option maxRecDepth 100000 in
theorem pq_make_b89 {σ : SM} (N : Nat) {v1 v2 v3 v4 : Int32} (s0 : Int32) (h : pq_Tb σ) (hf : ¬ pq_fl σ) (ho : pq_Okk σ (pq_tI σ) v1.toInt v2.toInt v3.toInt v4.toInt) (hs : pq_Fl s0.toInt (v1.toInt ≠ 7)) :
    pq_Tot (M_M_make_b89 N v1 v2 v3 v4 1 s0 σ) (pq_MkR σ v1 v2 v3 v4) := by
  rw [M_M_make_b89]
  refine pq_Tot.ite (fun e => ?_) (fun n1 => pq_Tot.ite (fun e => ?_) (fun n2 => ?_))
  · exact pq_make_b102 N h hf ho (ho.2.2.2.2.1 (pq_eqI e)) (Or.inl (pq_eqI e))
  · have := ho.2.2.2.2.2.2.2 (pq_eqI e); exact pq_make_b102 N h hf ho ⟨this.1, this.2.1⟩ (Or.inr (pq_eqI e))
  · rw [pq_iv_eq] at n1 n2
    refine pq_make_b120 N h hf ho (fun z => ⟨by rw [pq_iv_1]; omega, fun e => ?_⟩) (fun a1 a2 => hs.iff ⟨fun p => ⟨p, fun e => absurd e a1, fun e z => by have := a2 e; omega, fun e => absurd e n1, fun e => absurd e n2⟩, fun p => p.1⟩)
    rcases e with e | e
    · exact absurd e n1
    · exact absurd e n2
set_option maxRecDepth 100000 in
theorem pq_make_b75 {σ : SM} (N : Nat) {v1 v2 v3 v4 : Int32} (h : pq_Tb σ) (hf : ¬ pq_fl σ) (ho : pq_Okk σ (pq_tI σ) v1.toInt v2.toInt v3.toInt v4.toInt) :
    pq_Tot (M_M_make_b75 N v1 v2 v3 v4 σ) (pq_MkR σ v1 v2 v3 v4) := by
  rw [M_M_make_b75]
  exact pq_Tot.ite (fun e => pq_make_b89 N 0 h hf ho (Or.inl ⟨rfl, fun z => z (pq_eqI e)⟩)) (fun e => pq_make_b89 N 1 h hf ho (Or.inr ⟨rfl, fun z => e (pq_iv_eq.2 z)⟩))
set_option maxRecDepth 100000 in
theorem pq_make_L12 {σ : SM} (N : Nat) {v1 v2 v3 v4 : Int32} (h : pq_Tb σ) (hf : ¬ pq_fl σ) (ho : pq_Okk σ (pq_tI σ) v1.toInt v2.toInt v3.toInt v4.toInt) :
    ∀ (n : Nat) (v5 : Int32), 0 ≤ v5.toInt → v5.toInt ≤ pq_tI σ → pq_tI σ - v5.toInt < n → pq_Tot (M_M_make_L12 N (M_M_make_b75 N) n v1 v2 v3 v4 v5 σ) (pq_MkR σ v1 v2 v3 v4) := by
  intro n
  induction n with
  | zero => intro v5 h1 h2 h3; omega
  | succ n ih =>
    intro v5 h1 h2 h3
    rw [M_M_make_L12]
    refine pq_Tot.ite (fun _ => pq_make_b75 N h hf ho) (fun le => ?_)
    rw [pq_iv_le] at le
    have lt : v5.toInt < pq_tI σ := by simp only [pq_tI]; omega
    have hc : ck v5 500 = true := pq_ck_vt h ⟨h1, lt⟩
    have nx : pq_Tot (M_M_make_b69 N (M_M_make_L12 N (M_M_make_b75 N) n) v1 v2 v3 v4 v5 σ) (pq_MkR σ v1 v2 v3 v4) := by
      rw [M_M_make_b69]
      have := h.2.2.2.1
      have e : (v5 + 1).toInt = v5.toInt + 1 := pq_iv_add (by rw [pq_iv_1]; omega) (by rw [pq_iv_1]; omega)
      exact pq_Tot.nm (ih (v5 + 1) (by omega) (by omega) (by omega))
    refine pq_Tot.ite1 hc (pq_Tot.ite (fun e1 => pq_Tot.ite1 hc (pq_Tot.ite (fun e2 => pq_Tot.ite1 hc (pq_Tot.ite (fun e3 => pq_Tot.ite1 hc (pq_Tot.ite (fun e4 => pq_Tot.ret ?_) (fun _ => nx))) (fun _ => nx))) (fun _ => nx))) (fun _ => nx))
    exact ⟨h, pq_Ex.rf, pq_fr.rf, fun z => absurd z hf, fun _ => ⟨hf, ⟨h1, lt⟩, by rw [← e1]; rfl, by rw [← e2]; rfl, by rw [← e3]; rfl, by rw [← e4]; rfl⟩⟩
set_option maxRecDepth 100000 in
theorem pq_make_ok {σ : SM} {N : Nat} (hN : 501 ≤ N) {v1 v2 v3 v4 : Int32} (h : pq_Tb σ) (ho : ¬ pq_fl σ → pq_Okk σ (pq_tI σ) v1.toInt v2.toInt v3.toInt v4.toInt) :
    pq_Tot (M_M_make N v1 v2 v3 v4 σ) (pq_MkR σ v1 v2 v3 v4) := by
  rw [M_M_make]
  refine pq_Tot.ite (fun e => ?_) (fun e => pq_Tot.ret ⟨h, pq_Ex.rf, pq_fr.rf, fun _ => rfl, fun z => absurd e z⟩)
  have hf : ¬ pq_fl σ := fun z => z e
  exact pq_make_L12 N h hf (ho hf) N 0 (by rw [pq_iv_0]; omega) (by rw [pq_iv_0]; exact h.2.2.1) (by rw [pq_iv_0]; have := h.2.2.2.1; omega)
set_option maxRecDepth 100000 in
theorem pq_plainOf_ok {σ : SM} {N : Nat} (hN : 501 ≤ N) {c : Int32} (h : pq_Tb σ) (hc : ¬ pq_fl σ → 0 ≤ c.toInt ∧ c.toInt < pq_cI σ) :
    pq_Tot (M_M_plainOf N c σ) (pq_Mk σ pq_LM pq_AM (pq_PM 0 c.toInt (-1) (-1))) := by
  rw [M_M_plainOf]
  refine pq_Tot.bd (pq_make_ok hN h (fun hf => ?_)) (fun r τ hr => pq_Tot.ret hr)
  have := hc hf
  refine ⟨fun _ => this, fun e => ?_, fun e => ?_, fun e => ?_, fun e => ?_, fun e => ?_, fun e => ?_, fun e => ?_⟩ <;> (rw [pq_iv_0] at e; omega)
set_option maxRecDepth 100000 in
theorem pq_fr.ex {L A : List Nat} {σ τ : SM} (h : pq_fr L A σ τ) (h0 : 0 ∉ L ∧ 1 ∉ L ∧ 0 ∉ A ∧ 3 ∉ A ∧ 4 ∉ A ∧ 5 ∉ A ∧ 6 ∉ A ∧ 7 ∉ A ∧ 8 ∉ A) : pq_Ex σ τ ∧ pq_tI τ = pq_tI σ :=
  ⟨pq_Ex.same (h.1 0 h0.1) (h.1 1 h0.2.1) (h.2.1 0 h0.2.2.1) (h.2.1 3 h0.2.2.2.1) (h.2.1 4 h0.2.2.2.2.1) (h.2.1 5 h0.2.2.2.2.2.1) (h.2.1 6 h0.2.2.2.2.2.2.1) (h.2.1 7 h0.2.2.2.2.2.2.2.1) (h.2.1 8 h0.2.2.2.2.2.2.2.2), by simp only [pq_tI, h.1 1 h0.2.1]⟩
