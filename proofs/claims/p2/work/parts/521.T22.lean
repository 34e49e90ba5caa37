variable {Z : Prop}
def pq_bI (σ : SM) : Int := (gM_M_bounds σ).toInt
def pq_bsI (σ : SM) (k : Nat) : Int := (aM_M_boundSort σ k).toInt
def pq_boI (σ : SM) (k : Nat) : Int := (aM_M_boundOf σ k).toInt
def pq_byI (σ : SM) (k : Nat) : Int := (aM_M_boundType σ k).toInt
def pq_Bd (σ : SM) : Prop := 0 ≤ pq_bI σ ∧ pq_bI σ ≤ 200 ∧ ∀ k : Nat, (k : Int) < pq_bI σ → (0 ≤ pq_bsI σ k ∧ pq_bsI σ k ≤ 2) ∧ (0 ≤ pq_boI σ k ∧ pq_boI σ k < 12) ∧ pq_vt σ (pq_byI σ k) ∧ pq_kI σ (pq_byI σ k).toNat ≠ 5
def pq_BG (σ τ : SM) : Prop := pq_bI σ ≤ pq_bI τ ∧ ∀ k : Nat, (k : Int) < pq_bI σ → pq_bsI τ k = pq_bsI σ k ∧ pq_boI τ k = pq_boI σ k ∧ pq_byI τ k = pq_byI σ k
set_option maxRecDepth 100000 in
theorem pq_BG.rf {σ : SM} : pq_BG σ σ := ⟨Int.le_refl _, fun _ _ => ⟨rfl, rfl, rfl⟩⟩
set_option maxRecDepth 100000 in
theorem pq_BG.tr {σ τ υ : SM} (h : pq_BG σ τ) (k : pq_BG τ υ) : pq_BG σ υ := ⟨Int.le_trans h.1 k.1, fun i hi => by
  have a := h.2 i hi
  have b := k.2 i (Int.lt_of_lt_of_le hi h.1)
  exact ⟨b.1.trans a.1, b.2.1.trans a.2.1, b.2.2.trans a.2.2⟩⟩
set_option maxRecDepth 100000 in
theorem pq_BG.fr {σ τ : SM} {L A : List Nat} (f : pq_fr L A σ τ) (h16 : 16 ∉ L) (h28 : 28 ∉ A) (h29 : 29 ∉ A) (h30 : 30 ∉ A) : pq_BG σ τ ∧ pq_bI τ = pq_bI σ := by
  have a : pq_bI τ = pq_bI σ := by show (τ.1 16).toInt = _; rw [f.1 16 h16]; rfl
  refine ⟨⟨by omega, fun k _ => ⟨?_, ?_, ?_⟩⟩, a⟩
  · show (τ.2.1 28 k).toInt = _; rw [f.2.1 28 h28]; rfl
  · show (τ.2.1 29 k).toInt = _; rw [f.2.1 29 h29]; rfl
  · show (τ.2.1 30 k).toInt = _; rw [f.2.1 30 h30]; rfl
set_option maxRecDepth 100000 in
theorem pq_Bd.ex {σ τ : SM} (h : pq_Bd σ) (e : pq_Ex σ τ) (g : pq_BG σ τ) (b : pq_bI τ = pq_bI σ) : pq_Bd τ := by
  refine ⟨by rw [b]; exact h.1, by rw [b]; exact h.2.1, fun k hk => ?_⟩
  rw [b] at hk
  have q := g.2 k hk
  have p := h.2.2 k hk
  rw [q.1, q.2.1, q.2.2, e.k p.2.2.1]
  exact ⟨p.1, p.2.1, e.vt p.2.2.1, p.2.2.2⟩
def pq_Hb (σ : SM) (s x t : Int) : Prop := ∃ k : Nat, (k : Int) < pq_bI σ ∧ pq_bsI σ k = s ∧ pq_boI σ k = x ∧ pq_byI σ k = t
set_option maxRecDepth 100000 in
theorem pq_Hb.bg {σ τ : SM} {s x t : Int} (h : pq_Hb σ s x t) (g : pq_BG σ τ) : pq_Hb τ s x t := by
  obtain ⟨k, a, b, c, d⟩ := h
  have q := g.2 k a
  exact ⟨k, Int.lt_of_lt_of_le a g.1, q.1.trans b, q.2.1.trans c, q.2.2.trans d⟩
def pq_Bn (σ : SM) (s x t : Int) (_ : Unit) (τ : SM) : Prop := pq_fr [2, 16] [28, 29, 30, 31] σ τ ∧ pq_Bd τ ∧ pq_BG σ τ ∧ (pq_fl σ → pq_fl τ) ∧ (¬ pq_fl τ → pq_Hb τ s x t)
set_option maxRecDepth 100000 in
theorem pq_bn_ex {σ τ : SM} {L A : List Nat} (h : pq_fr L A σ τ) (h0 : 0 ∉ L ∧ 1 ∉ L ∧ 0 ∉ A ∧ 3 ∉ A ∧ 4 ∉ A ∧ 5 ∉ A ∧ 6 ∉ A ∧ 7 ∉ A ∧ 8 ∉ A) (hT : pq_Tb σ) : pq_Tb τ := pq_Tb.ex (h.ex h0).1 (h.ex h0).2 hT
section BB
variable {N : Nat} {v1 v2 v3 : Int32} {σ : SM}
set_option maxRecDepth 100000 in
theorem pq_bind_b57 (hT : pq_Tb σ) (hB : pq_Bd σ) (hs : 0 ≤ v1.toInt ∧ v1.toInt ≤ 2) (v : pq_vt σ v2.toInt) (k7 : pq_kI σ v2.toInt.toNat = 7) (w : pq_vt σ v3.toInt) (k5 : pq_kI σ v3.toInt.toNat ≠ 5) : pq_Tot (M_M_bind_b57 N v1 v2 v3 σ) (pq_Bn σ v1.toInt (pq_oI σ v2.toInt.toNat) v3.toInt) := by
  rw [M_M_bind_b57]
  refine pq_Tot.ite (fun e => ?_) (fun e => ?_)
  · refine pq_Tot.nm (pq_Tot.ret ⟨pq_fr.s pq_fr.rf (by decide) _, ?_, ?_, fun _ => (by decide : (1 : Int32) ≠ 0), fun z => absurd (by decide : (1 : Int32) ≠ 0) z⟩)
    · have f : pq_fr [2] [] σ (sM_M_full σ 1) := pq_fr.s pq_fr.rf (by decide) _
      have g := pq_BG.fr f (by decide) (by decide) (by decide) (by decide)
      exact hB.ex (f.ex (by decide)).1 g.1 g.2
    · exact (pq_BG.fr (show pq_fr [2] [] σ (sM_M_full σ 1) from pq_fr.s pq_fr.rf (by decide) _) (by decide) (by decide) (by decide) (by decide)).1
  have b1 : pq_bI σ < 200 := by
    have := hB.2.1
    have : pq_bI σ ≠ 200 := fun z => e (pq_iv_eq.2 z)
    omega
  have cb : ck (gM_M_bounds σ) 200 = true := pq_ck_mk hB.1 b1
  have c2 := pq_ck_vt hT v
  have nb : (gM_M_bounds σ).toNatClampNeg = (pq_bI σ).toNat := rfl
  have b0 := hB.1
  have n1 : (gM_M_bounds σ + 1).toInt = pq_bI σ + 1 := pq_iv_add (by have := pq_iv_1; simp only [pq_bI] at *; omega) (by have := pq_iv_1; simp only [pq_bI] at *; omega)
  refine pq_Tot.ite1 cb (pq_Tot.nm (pq_Tot.ite1 c2 (pq_Tot.ite1 cb (pq_Tot.nm (pq_Tot.ite1 cb (pq_Tot.nm (pq_Tot.ite1 cb (pq_Tot.nm (pq_Tot.nm (pq_Tot.ret ?_))))))))))
  generalize hτ : sM_M_bounds _ _ = τ
  have f : pq_fr [2, 16] [28, 29, 30, 31] σ τ := by
    rw [← hτ]
    exact pq_fr.s (pq_fr.t (pq_fr.t (pq_fr.t (pq_fr.t pq_fr.rf (by decide) _) (by decide) _) (by decide) _) (by decide) _) (by decide) _
  have ex := f.ex (by decide)
  have t1 : pq_bI τ = pq_bI σ + 1 := by rw [← hτ]; exact n1
  have s1 : ∀ k, pq_bsI τ k = if k = (pq_bI σ).toNat then v1.toInt else pq_bsI σ k := fun k => by
    rw [← hτ]; show (upd (aM_M_boundSort σ) (pq_bI σ).toNat v1 k).toInt = _
    rw [upd]; split <;> rfl
  have o1 : ∀ k, pq_boI τ k = if k = (pq_bI σ).toNat then pq_oI σ v2.toInt.toNat else pq_boI σ k := fun k => by
    rw [← hτ]; show (upd (aM_M_boundOf σ) (pq_bI σ).toNat (aM_M_one σ v2.toNatClampNeg) k).toInt = _
    rw [upd]; split <;> rfl
  have y1 : ∀ k, pq_byI τ k = if k = (pq_bI σ).toNat then v3.toInt else pq_byI σ k := fun k => by
    rw [← hτ]; show (upd (aM_M_boundType σ) (pq_bI σ).toNat v3 k).toInt = _
    rw [upd]; split <;> rfl
  have fe : gM_M_full τ = gM_M_full σ := by rw [← hτ]; rfl
  refine ⟨f, ⟨by omega, by omega, fun k hk => ?_⟩, ⟨by omega, fun k hk => ?_⟩, fun z => by rw [pq_fl, fe]; exact z, fun _ => ⟨(pq_bI σ).toNat, by omega, by rw [s1, if_pos rfl], by rw [o1, if_pos rfl], by rw [y1, if_pos rfl]⟩⟩
  · rw [s1, o1, y1]
    by_cases e : k = (pq_bI σ).toNat
    · rw [if_pos e, if_pos e, if_pos e, ex.1.k w]
      have q := (hT.ok v).1.2.2.2.2.2.2.1 k7
      exact ⟨hs, ⟨q.1, by omega⟩, ex.1.vt w, k5⟩
    · rw [if_neg e, if_neg e, if_neg e]
      have p := hB.2.2 k (by omega)
      rw [ex.1.k p.2.2.1]
      exact ⟨p.1, p.2.1, ex.1.vt p.2.2.1, p.2.2.2⟩
  · have e : k ≠ (pq_bI σ).toNat := by omega
    rw [s1, o1, y1, if_neg e, if_neg e, if_neg e]
    exact ⟨rfl, rfl, rfl⟩
set_option maxRecDepth 100000 in
theorem pq_bind_L3 (hT : pq_Tb σ) (hB : pq_Bd σ) (hs : 0 ≤ v1.toInt ∧ v1.toInt ≤ 2) (v : pq_vt σ v2.toInt) (k7 : pq_kI σ v2.toInt.toNat = 7) (w : pq_vt σ v3.toInt) (k5 : pq_kI σ v3.toInt.toNat ≠ 5) : ∀ (n : Nat) (v4 : Int32), 0 ≤ v4.toInt → v4.toInt ≤ pq_bI σ → pq_bI σ - v4.toInt < n → pq_Tot (M_M_bind_L3 N (M_M_bind_b57 N) n v1 v2 v3 v4 σ) (pq_Bn σ v1.toInt (pq_oI σ v2.toInt.toNat) v3.toInt) := by
  intro n
  induction n with
  | zero => intro v4 _ _ h; omega
  | succ n ih =>
    intro v4 h1 h2 h3
    rw [M_M_bind_L3]
    refine pq_Tot.ite (fun _ => pq_bind_b57 hT hB hs v k7 w k5) (fun le => ?_)
    rw [pq_iv_le] at le
    have lt : v4.toInt < pq_bI σ := by simp only [pq_bI]; omega
    have b2 := hB.2.1
    have c4 : ck v4 200 = true := pq_ck_mk h1 (by omega)
    have c2 := pq_ck_vt hT v
    have nx : pq_Tot (M_M_bind_b51 N (M_M_bind_L3 N (M_M_bind_b57 N) n) v1 v2 v3 v4 σ) (pq_Bn σ v1.toInt (pq_oI σ v2.toInt.toNat) v3.toInt) := by
      rw [M_M_bind_b51]
      have e : (v4 + 1).toInt = v4.toInt + 1 := pq_iv_add (by rw [pq_iv_1]; omega) (by rw [pq_iv_1]; omega)
      exact pq_Tot.nm (ih (v4 + 1) (by omega) (by omega) (by omega))
    refine pq_Tot.ite1 c4 (pq_Tot.ite (fun e1 => pq_Tot.ite1 c4 (pq_Tot.ite1 c2 (pq_Tot.ite (fun e2 => pq_Tot.ite1 c4 (pq_Tot.ite (fun e3 => pq_Tot.ret ?_) (fun _ => nx))) (fun _ => nx)))) (fun _ => nx))
    refine ⟨pq_fr.rf, hB, pq_BG.rf, fun z => z, fun _ => ⟨v4.toInt.toNat, by omega, ?_, ?_, ?_⟩⟩
    · rw [← e1]; rfl
    · exact congrArg Int32.toInt e2
    · rw [← e3]; rfl
set_option maxRecDepth 100000 in
theorem pq_bind_ok (hN : 201 ≤ N) (hT : pq_Tb σ) (hB : pq_Bd σ) (hs : 0 ≤ v1.toInt ∧ v1.toInt ≤ 2) (v : pq_vt σ v2.toInt) (k7 : pq_kI σ v2.toInt.toNat = 7) (w : pq_vt σ v3.toInt) (k5 : pq_kI σ v3.toInt.toNat ≠ 5) : pq_Tot (M_M_bind N v1 v2 v3 σ) (pq_Bn σ v1.toInt (pq_oI σ v2.toInt.toNat) v3.toInt) := by
  rw [M_M_bind]
  exact pq_bind_L3 hT hB hs v k7 w k5 N 0 (by rw [pq_iv_0]; omega) (by rw [pq_iv_0]; exact hB.1) (by rw [pq_iv_0]; have := hB.2.1; omega)
end BB
