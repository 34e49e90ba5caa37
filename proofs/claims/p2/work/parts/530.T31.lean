section HB
variable {N : Nat} {B : Int} {σ : SM} {x1 x2 x3 : Int32}
set_option maxRecDepth 100000 in
theorem pq_holdBoth_ok (hN : 20002 ≤ N) (hB : B + 930 + 90 < 4294967296) (h : pq_Wo B σ) (nf : ¬ pq_fl σ) (g0 : 0 ≤ x1.toInt) (g1 : x1.toInt < pq_bI σ) (h0 : 0 ≤ x2.toInt) (h1 : x2.toInt < pq_bI σ) : pq_Tot (M_M_holdBoth N x1 x2 x3 σ) (pq_Hp (B + (if x3 = 0 then 2 else 930)) σ) := by
  have c1 := pq_ck_bd h.2.2.1 g0 g1
  have c2 := pq_ck_bd h.2.2.1 h0 h1
  have p1 := h.2.2.1.2.2 x1.toInt.toNat (by omega)
  have p2 := h.2.2.1.2.2 x2.toInt.toNat (by omega)
  have v1 : pq_vt σ (aM_M_boundType σ x1.toNatClampNeg).toInt := p1.2.2.1
  have v2 : pq_vt σ (aM_M_boundType σ x2.toNatClampNeg).toInt := p2.2.2.1
  have le : (0 : Int) ≤ (if x3 = 0 then 2 else 930) := by split <;> omega
  have le2 : (2 : Int) ≤ (if x3 = 0 then 2 else 930) := by split <;> omega
  have r1 : pq_Tot (some ((1 : Int32), σ)) (pq_Hp (B + (if x3 = 0 then 2 else 930)) σ) := pq_Tot.ret ⟨Or.inr rfl, h.le (by omega), pq_Gn.rf, fun z => absurd z nf⟩
  have ls : ∀ (x s t : Int32), pq_vt σ s.toInt → pq_vt σ t.toInt → pq_Tot (bd (M_M_less N x s t σ) (fun (r9 : Int32) (σ10 : SM) => (if zb r9 = true then some (r9, σ10) else none))) (pq_Hp (B + (if x3 = 0 then 2 else 930)) σ) := fun x s t vs v =>
    pq_Tot.bd (h.lessH hN (by omega) vs v) (fun r τ hr => (hr.pre pq_Gn.rf (by omega)).zb)
  have b167 : ∀ i j : Int32, pq_Tot (M_M_holdBoth_b167 N x3 (aM_M_boundType σ x1.toNatClampNeg) (aM_M_boundType σ x2.toNatClampNeg) i j σ) (pq_Hp (B + (if x3 = 0 then 2 else 930)) σ) := fun i j => by
    rw [M_M_holdBoth_b167]
    refine pq_Tot.ite (fun _ => pq_Tot.ite (fun _ => pq_Tot.ite (fun _ => r1) (fun n3 => ?_)) (fun _ => r1)) (fun _ => r1)
    rw [if_neg n3]
    exact pq_Tot.bd (pq_holdArguments_ok hN hB h nf v1 v2) (fun r τ hr => hr.zi)
  have b130 : ∀ i j : Int32, pq_Tot (M_M_holdBoth_b130 N x3 (aM_M_boundType σ x1.toNatClampNeg) (aM_M_boundType σ x2.toNatClampNeg) i j σ) (pq_Hp (B + (if x3 = 0 then 2 else 930)) σ) := fun i j => by
    rw [M_M_holdBoth_b130]
    exact pq_Tot.ite (fun _ => ls _ _ _ v2 v1) (fun _ => pq_Tot.ite (fun _ => pq_Tot.ite (fun _ => ls _ _ _ v1 v2) (fun _ => b167 i j)) (fun _ => b167 i j))
  have b109 : ∀ i j : Int32, pq_Tot (M_M_holdBoth_b109 N x3 (aM_M_boundType σ x1.toNatClampNeg) (aM_M_boundType σ x2.toNatClampNeg) i j σ) (pq_Hp (B + (if x3 = 0 then 2 else 930)) σ) := fun i j => by
    rw [M_M_holdBoth_b109]
    exact pq_Tot.ite (fun _ => pq_Tot.ite (fun _ => ls _ _ _ v1 v2) (fun _ => b130 i j)) (fun _ => b130 i j)
  rw [M_M_holdBoth]
  refine pq_Tot.ite1 c1 (pq_Tot.nm (pq_Tot.ite1 c2 (pq_Tot.nm (pq_Tot.ite1 c1 (pq_Tot.nm (pq_Tot.ite1 c2 (pq_Tot.nm (pq_Tot.ite1 c1 (pq_Tot.ite1 c2 (pq_Tot.ite (fun _ => ?_) (fun _ => ?_)))))))))))
  · refine pq_Tot.ite (fun _ => pq_Tot.ite (fun _ => pq_Tot.ite (fun _ => r1) (fun _ => ?_)) (fun _ => b109 _ _)) (fun _ => b109 _ _)
    exact pq_Tot.bd (h.lessH hN (by omega) v1 v2) (fun r τ hr => (hr.pre pq_Gn.rf (by omega)).zi)
  · refine pq_Tot.ite (fun _ => pq_Tot.ite1 (pq_ck_vt h.1 v1) (pq_Tot.ite (fun _ => r1) (fun _ => ?_))) (fun _ => r1)
    exact pq_Tot.bd (pq_holdIn_ok h hN (by omega) nf g0 g1 h0 h1) (fun r τ hr => (hr.pre pq_Gn.rf (by omega)).zi)
end HB
set_option maxRecDepth 100000 in
theorem pq_Gn.b {σ τ : SM} (g : pq_Gn σ τ) : pq_bI σ ≤ pq_bI τ := g.2.2.1
set_option maxRecDepth 100000 in
theorem pq_hold_L28 {N : Nat} {BB : Int} {v1 : Int32} {Q : Int32 → SM → Prop} {k61 : SM → Option (Int32 × SM)} (hN : 20002 ≤ N) (hBB : BB + 1100 < 4294967296) : ∀ (m : Nat) (v2 : Int32) (σ : SM) (B : Int), pq_Wo B σ → ¬ pq_fl σ → 0 ≤ v2.toInt → v2.toInt ≤ v1.toInt → v1.toInt < pq_bI σ → B + 932 * (v1.toInt - v2.toInt) ≤ BB → v1.toInt - v2.toInt < m →
    (∀ σ', pq_Wo BB σ' → ¬ pq_fl σ' → pq_Gn σ σ' → pq_Tot (k61 σ') Q) → (∀ σ', pq_Wo BB σ' → pq_Gn σ σ' → Q 0 σ') → pq_Tot (M_M_hold_L28 N k61 m v1 v2 σ) Q := by
  intro m
  induction m with
  | zero => intro v2 σ B _ _ _ _ _ _ h; omega
  | succ m ih =>
    intro v2 σ B h nf z0 z1 z2 hb hm hk hq
    rw [M_M_hold_L28]
    refine pq_Tot.ite (fun _ => hk σ (h.le (by omega)) nf pq_Gn.rf) (fun lt => ?_)
    rw [pq_iv_le] at lt
    have e1 : (v2 + 1).toInt = v2.toInt + 1 := pq_iv_add (by rw [pq_iv_1]; omega) (by rw [pq_iv_1]; have := pq_iv_rng v1; omega)
    refine pq_Tot.bd (pq_holdBoth_ok (x3 := 1) hN (by omega) h nf z0 (by omega) (by omega) z2) (fun r σ4 hr => ?_)
    rw [if_neg (by decide)] at hr
    have b4 := hr.2.2.1.b
    refine pq_Tot.ite (fun _ => pq_Tot.ret (hq σ4 (hr.2.1.le (by omega)) hr.2.2.1)) (fun nr => ?_)
    refine pq_Tot.bd (pq_holdBoth_ok (x3 := 0) hN (by omega) hr.2.1 (fun z => nr (hr.2.2.2 z)) (by omega) (by omega) z0 (by omega)) (fun s σ6 hs => ?_)
    rw [if_pos rfl] at hs
    have b6 := hs.2.2.1.b
    have g6 := hr.2.2.1.tr hs.2.2.1
    refine pq_Tot.ite (fun _ => pq_Tot.ret (hq σ6 (hs.2.1.le (by omega)) g6)) (fun ns => pq_Tot.nm ?_)
    exact ih (v2 + 1) σ6 (B + 930 + 2) hs.2.1 (fun z => ns (hs.2.2.2 z)) (by omega) (by omega) (by omega) (by omega) (by omega) (fun σ' w n g => hk σ' w n (g6.tr g)) (fun σ' w g => hq σ' w (g6.tr g))
def pq_pr : Nat → Int
  | 0 => 0
  | n + 1 => pq_pr n + 932 * n
set_option maxRecDepth 100000 in
theorem pq_pr_mono : ∀ {a b : Nat}, a ≤ b → pq_pr a ≤ pq_pr b := by
  intro a b h
  induction h with
  | refl => exact Int.le_refl _
  | step _ ih => rw [pq_pr]; omega
set_option maxRecDepth 100000 in
theorem pq_pr200 : pq_pr 200 = 18546800 := by decide
def pq_heI (σ : SM) : Int := (gM_M_held σ).toInt
def pq_Ho (C : Int) (σ : SM) : Prop := pq_Wo (C + pq_pr (pq_heI σ).toNat) σ ∧ 0 ≤ pq_heI σ ∧ pq_heI σ ≤ pq_bI σ
abbrev pq_LH : List Nat := [1, 2, 3, 5, 6, 7, 8, 9, 10, 12, 13, 15, 16, 17]
def pq_Gh (σ τ : SM) : Prop := pq_Ex σ τ ∧ pq_fr pq_LH pq_AG σ τ ∧ pq_BG σ τ
set_option maxRecDepth 100000 in
theorem pq_Gh.rf {σ : SM} : pq_Gh σ σ := ⟨pq_Ex.rf, pq_fr.rf, pq_BG.rf⟩
set_option maxRecDepth 100000 in
theorem pq_Gh.tr {σ τ υ : SM} (h : pq_Gh σ τ) (k : pq_Gh τ υ) : pq_Gh σ υ := ⟨h.1.tr k.1, h.2.1.tr k.2.1, h.2.2.tr k.2.2⟩
set_option maxRecDepth 100000 in
theorem pq_Gn.h {σ τ : SM} (g : pq_Gn σ τ) : pq_Gh σ τ := ⟨g.1, g.2.1.up (by decide) (by decide), g.2.2⟩
set_option maxRecDepth 100000 in
theorem pq_Gn.he {σ τ : SM} (g : pq_Gn σ τ) : pq_heI τ = pq_heI σ := by show (τ.1 17).toInt = _; rw [g.2.1.1 17 (by decide)]; rfl
set_option maxRecDepth 100000 in
theorem pq_Ho.gn {C : Int} {σ τ : SM} {B : Int} (g : pq_Gn σ τ) (w : pq_Wo B τ) (h0 : 0 ≤ pq_heI σ) (h1 : pq_heI σ ≤ pq_bI σ) (hb : B ≤ C + pq_pr (pq_heI σ).toNat) : pq_Ho C τ := by
  have := g.b
  exact ⟨by rw [g.he]; exact w.le hb, by rw [g.he]; exact h0, by rw [g.he]; omega⟩
set_option maxRecDepth 100000 in
theorem pq_hold_L0 {N : Nat} {C : Int} (hN : 20002 ≤ N) (hC : C + 18546800 + 1200 < 4294967296) : ∀ (n : Nat) (σ : SM), pq_Ho C σ → ¬ pq_fl σ → 200 - pq_heI σ < n → pq_Tot (M_M_hold_L0 N n σ) (fun r τ => (r = 0 ∨ r = 1) ∧ pq_Ho C τ ∧ pq_Gh σ τ ∧ (pq_fl τ → r = 0)) := by
  intro n
  induction n with
  | zero => intro σ h _ hn; have := h.2.2; have := h.1.2.2.1.2.1; omega
  | succ n ih =>
    intro σ h nf hn
    obtain ⟨w, h0, h1⟩ := h
    have b2 := w.2.2.1.2.1
    rw [M_M_hold_L0]
    refine pq_Tot.ite (fun _ => pq_Tot.ret ⟨Or.inr rfl, ⟨w, h0, h1⟩, pq_Gh.rf, fun z => absurd z nf⟩) (fun lt => pq_Tot.nm (pq_Tot.nm ?_))
    rw [pq_iv_le] at lt
    have lt' : pq_heI σ < pq_bI σ := by simp only [pq_heI, pq_bI]; omega
    have eh : (gM_M_held σ).toInt = pq_heI σ := rfl
    have e1 : (gM_M_held σ + 1).toInt = pq_heI σ + 1 := by rw [pq_iv_add (by rw [eh, pq_iv_1]; omega) (by rw [eh, pq_iv_1]; omega), eh, pq_iv_1]
    generalize hσ2 : sM_M_held σ (gM_M_held σ + 1) = σ2
    have f2 : pq_fr [17] [] σ σ2 := by rw [← hσ2]; exact pq_fr.s pq_fr.rf (by decide) _
    have he2 : pq_heI σ2 = pq_heI σ + 1 := by rw [← hσ2]; exact e1
    clear hσ2
    have q := w.cell f2 (by decide) (by decide) (by decide) (by decide) (by decide) (by decide) (by decide) (by decide) (by decide) (by decide)
    have nf2 : ¬ pq_fl σ2 := by rw [pq_fl, show gM_M_full σ2 = gM_M_full σ from f2.1 2 (by decide)]; exact nf
    have g2 : pq_Gh σ σ2 := ⟨q.2.1, f2.up (by decide) (by decide), q.2.2.1⟩
    have pe : pq_pr (pq_heI σ2).toNat = pq_pr (pq_heI σ).toNat + 932 * pq_heI σ := by
      rw [he2, show (pq_heI σ + 1).toNat = (pq_heI σ).toNat + 1 by omega, pq_pr]; omega
    have pm : pq_pr (pq_heI σ2).toNat ≤ 18546800 := by rw [← pq_pr200]; exact pq_pr_mono (by omega)
    refine pq_hold_L28 (BB := C + pq_pr (pq_heI σ2).toNat) hN (by omega) N 0 σ2 _ q.1 nf2 (by decide) (by rw [pq_iv_0, eh]; exact h0) (by rw [eh]; omega) (by rw [pq_iv_0, eh]; omega) (by rw [pq_iv_0, eh]; omega) (fun σ' w' n' g' => ?_) (fun σ' w' g' => ?_)
    · rw [M_M_hold_b61]
      refine (ih σ' (pq_Ho.gn g' w' (by omega) (by omega) (Int.le_refl _)) n' (by rw [g'.he]; omega)).mono (fun r τ hr => ⟨hr.1, hr.2.1, (g2.tr g'.h).tr hr.2.2.1, hr.2.2.2⟩)
    · exact ⟨Or.inl rfl, pq_Ho.gn g' w' (by omega) (by omega) (Int.le_refl _), g2.tr g'.h, fun _ => rfl⟩
set_option maxRecDepth 100000 in
theorem pq_hold_ok {N : Nat} {C : Int} {σ : SM} (hN : 20002 ≤ N) (hC : C + 18546800 + 1200 < 4294967296) (h : pq_Ho C σ) (nf : ¬ pq_fl σ) : pq_Tot (M_M_hold N σ) (fun r τ => (r = 0 ∨ r = 1) ∧ pq_Ho C τ ∧ pq_Gh σ τ ∧ (pq_fl τ → r = 0)) := by
  rw [M_M_hold]
  exact pq_hold_L0 hN hC N σ h nf (by have := h.2.1; omega)
