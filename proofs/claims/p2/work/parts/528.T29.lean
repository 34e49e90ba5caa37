def pq_Hp (B : Int) (σ : SM) (r : Int32) (τ : SM) : Prop := (r = 0 ∨ r = 1) ∧ pq_Wo B τ ∧ pq_Gn σ τ ∧ (pq_fl τ → r = 0)
set_option maxRecDepth 100000 in
theorem pq_Hp.pre {B B' : Int} {σ σ' τ : SM} {r : Int32} (h : pq_Hp B σ' r τ) (g : pq_Gn σ σ') (hb : B ≤ B') : pq_Hp B' σ r τ := ⟨h.1, h.2.1.le hb, g.tr h.2.2.1, h.2.2.2⟩
section HH
variable {B : Int} {σ : SM} {N : Nat}
set_option maxRecDepth 100000 in
theorem pq_ck_bd (h : pq_Bd σ) {x : Int32} (h0 : 0 ≤ x.toInt) (h1 : x.toInt < pq_bI σ) : ck x 200 = true := pq_ck_mk h0 (by have := h.2.1; omega)
set_option maxRecDepth 100000 in
theorem pq_Hp.zb {B : Int} {σ τ : SM} {r : Int32} (h : pq_Hp B σ r τ) : pq_Tot (if zb r = true then some (r, τ) else none) (pq_Hp B σ) := pq_Tot.ite1 (decide_eq_true h.1) (pq_Tot.ret h)
set_option maxRecDepth 100000 in
theorem pq_Hp.zi {B : Int} {σ τ : SM} {r : Int32} (h : pq_Hp B σ r τ) : pq_Tot (if r = 0 then some ((0 : Int32), τ) else some (1, τ)) (pq_Hp B σ) :=
  pq_Tot.ite (fun _ => pq_Tot.ret ⟨Or.inl rfl, h.2.1, h.2.2.1, fun _ => rfl⟩) (fun n => pq_Tot.ret ⟨Or.inr rfl, h.2.1, h.2.2.1, fun z => absurd (h.2.2.2 z) n⟩)
set_option maxRecDepth 100000 in
theorem pq_Wo.lessH (h : pq_Wo B σ) (hN : 20002 ≤ N) (hB : B + 41 < 4294967296) {x s t : Int32} (vs : pq_vt σ s.toInt) (v : pq_vt σ t.toInt) : pq_Tot (M_M_less N x s t σ) (pq_Hp B σ) :=
  (h.less (Z := False) hN hB (fun _ => ⟨vs, v, fun z => z.elim⟩)).mono (fun r τ hr => ⟨hr.1, hr.2.1, hr.2.2.1, hr.2.2.2.1⟩)
set_option maxRecDepth 100000 in
theorem pq_holdIn_L26 {v1 v2 v3 : Int32} {Q : Int32 → SM → Prop} {k62 : Int32 → SM → Option (Int32 × SM)} (hB : pq_Bd σ) (h0 : 0 ≤ v1.toInt) (h1 : v1.toInt < pq_bI σ)
    (hk : ∀ σ' : SM, pq_fr [] [15] σ σ' → pq_OwOk False σ' (-1) → pq_Tot (k62 v2 σ') Q) :
    ∀ (n : Nat) (v4 : Int32) (σ' : SM), pq_fr [] [15] σ σ' → 0 ≤ v4.toInt → v4.toInt ≤ 12 → (∀ k : Nat, (k : Int) < v4.toInt → aM_M_inPlace σ' k = -1 ∨ pq_vt σ (aM_M_inPlace σ' k).toInt) → 12 - v4.toInt < n → pq_Tot (M_M_holdIn_L26 N k62 n v1 v2 v3 v4 σ') Q := by
  intro n
  induction n with
  | zero => intro v4 σ' _ _ _ _ h; omega
  | succ n ih =>
    intro v4 σ' f a0 a1 hin hn
    rw [M_M_holdIn_L26]
    have t12 : (12 : Int32).toInt = 12 := rfl
    have ex := f.ex (by decide)
    refine pq_Tot.ite (fun e => hk σ' f (Or.inl ⟨rfl, fun k hk' => ?_⟩)) (fun e => ?_)
    · rw [pq_iv_le, t12] at e
      exact (hin k (by omega)).imp id ex.1.vt
    rw [pq_iv_le, t12] at e
    have c4 : ck v4 12 = true := pq_ck_mk a0 (by omega)
    have n4 : v4.toNatClampNeg = v4.toInt.toNat := rfl
    have e1 : (v4 + 1).toInt = v4.toInt + 1 := pq_iv_add (by rw [pq_iv_1]; omega) (by rw [pq_iv_1]; omega)
    have go : ∀ s0 : Int32, (s0 = -1 ∨ pq_vt σ s0.toInt) → pq_Tot (M_M_holdIn_b55 N (M_M_holdIn_L26 N k62 n) v1 v2 v3 v4 s0 v4 σ') Q := fun s0 hs => by
      rw [M_M_holdIn_b55]
      refine pq_Tot.ite1 c4 (pq_Tot.nm (pq_Tot.nm (ih (v4 + 1) _ (pq_fr.t f (by decide) _) (by omega) (by omega) (fun k hk' => ?_) (by omega))))
      show upd (aM_M_inPlace σ') v4.toInt.toNat s0 k = -1 ∨ pq_vt σ (upd (aM_M_inPlace σ') v4.toInt.toNat s0 k).toInt
      rw [upd]; split
      · exact hs
      · exact hin k (by omega)
    have c1 : ck v1 200 = true := pq_ck_bd hB h0 h1
    refine pq_Tot.ite (fun _ => pq_Tot.ite1 c1 (go _ (Or.inr ?_))) (fun _ => go _ (Or.inl rfl))
    have p := (hB.2.2 v1.toInt.toNat (by omega)).2.2.1
    rw [show aM_M_boundType σ' v1.toNatClampNeg = aM_M_boundType σ v1.toNatClampNeg by show σ'.2.1 30 _ = _; rw [f.2.1 30 (by decide)]]
    exact p
set_option maxRecDepth 100000 in
theorem pq_holdIn_b62 (h : pq_Wo B σ) (hN : 20002 ≤ N) (hB : B + 50 < 4294967296) (nf : ¬ pq_fl σ) {v2 : Int32} (h0 : 0 ≤ v2.toInt) (h1 : v2.toInt < pq_bI σ) (ho : pq_OwOk False σ (-1)) : pq_Tot (M_M_holdIn_b62 N v2 σ) (pq_Hp (B + 1) σ) := by
  rw [M_M_holdIn_b62]
  have p := h.2.2.1.2.2 v2.toInt.toNat (by omega)
  have c2 : ck v2 200 = true := pq_ck_bd h.2.2.1 h0 h1
  refine pq_Tot.ite1 c2 (pq_Tot.bd (h.replaced (by omega) (by omega) nf ho p.2.2.1) (fun r6 σ7 hr => ?_))
  obtain ⟨a1, a2, a3, a4, a5, a6⟩ := hr
  have p7 := a1.2.2.1.2.2 v2.toInt.toNat (by omega)
  refine pq_Tot.ite1 c2 (pq_Tot.bd (a1.make (by omega) (fun _ => pq_Okk.var ?_)) (fun r8 σ9 hr => ?_))
  · have := p7.2.1; exact ⟨this.1, by have := this.2; show pq_boI σ7 v2.toInt.toNat ≤ 11; omega⟩
  obtain ⟨b1, b2, b3, b4, b5, b6, b7⟩ := hr
  have g9 := a2.tr b2
  refine pq_Tot.ite (fun f0 => pq_Tot.ite1 c2 (pq_Tot.nm ?_)) (fun f0 => pq_Tot.ret ⟨Or.inl rfl, b1, g9, fun _ => rfl⟩)
  have nf9 : ¬ pq_fl σ9 := fun z => z f0
  have nf7 : ¬ pq_fl σ7 := fun z => nf9 (b5 z)
  have v6 := b2.1.vt (a6 nf7)
  have v8 := (b7 nf9).1
  have fin : ∀ (x s t : Int32), pq_vt σ9 s.toInt → pq_vt σ9 t.toInt → pq_Tot (bd (M_M_less N x s t σ9) (fun (r11 : Int32) (σ12 : SM) => (if zb r11 = true then some (r11, σ12) else none))) (pq_Hp (B + 1) σ) := fun x s t vs v =>
    pq_Tot.bd (b1.lessH hN (by omega) vs v) (fun r τ hr => (hr.pre g9 (Int.le_refl _)).zb)
  exact pq_Tot.ite (fun _ => fin _ _ _ v8 v6) (fun _ => pq_Tot.ite (fun _ => fin _ _ _ v8 v6) (fun _ => fin _ _ _ v6 v8))
set_option maxRecDepth 100000 in
theorem pq_holdIn_ok (h : pq_Wo B σ) (hN : 20002 ≤ N) (hB : B + 60 < 4294967296) (nf : ¬ pq_fl σ) {v1 v2 : Int32} (g0 : 0 ≤ v1.toInt) (g1 : v1.toInt < pq_bI σ) (h0 : 0 ≤ v2.toInt) (h1 : v2.toInt < pq_bI σ) : pq_Tot (M_M_holdIn N v1 v2 σ) (pq_Hp (B + 2) σ) := by
  rw [M_M_holdIn]
  have p := h.2.2.1.2.2 v2.toInt.toNat (by omega)
  refine pq_Tot.ite1 (pq_ck_bd h.2.2.1 g0 g1) (pq_Tot.nm (pq_Tot.ite1 (pq_ck_bd h.2.2.1 h0 h1) (pq_Tot.bd (h.isIn (by omega) (by omega) _ p.2.2.1) (fun r σ3 hr => ?_))))
  obtain ⟨a1, a2, a3, a4, a5, a6⟩ := hr
  have nf3 : ¬ pq_fl σ3 := by rw [pq_fl, show gM_M_full σ3 = gM_M_full σ from a5.1 2 (by decide)]; exact nf
  refine pq_Tot.ite (fun _ => pq_Tot.ret ⟨Or.inr rfl, a2.le (by omega), a3, fun z => absurd z nf3⟩) (fun _ => ?_)
  refine pq_holdIn_L26 a2.2.2.1 g0 (by omega) (fun σ' f ho => ?_) N 0 σ3 pq_fr.rf (by decide) (by decide) (fun k hk => absurd hk (by rw [pq_iv_0]; omega)) (by rw [pq_iv_0]; omega)
  have q := a2.cell f (by decide) (by decide) (by decide) (by decide) (by decide) (by decide) (by decide) (by decide) (by decide) (by decide)
  have nf' : ¬ pq_fl σ' := by rw [pq_fl, show gM_M_full σ' = gM_M_full σ3 from f.1 2 (by decide)]; exact nf3
  refine (pq_holdIn_b62 q.1 hN (by omega) nf' h0 (by omega) ho).mono (fun r τ hr => ?_)
  exact hr.pre (a3.tr ⟨q.2.1, f.up (by decide) (by decide), q.2.2.1⟩) (by omega)
end HH
