def pq_smI (σ : SM) : Int := (gM_M_someMany σ).toInt
def pq_soI (σ : SM) (i : Nat) : Int := (aM_M_some σ i).toInt
def pq_Sm (σ : SM) : Prop := 0 ≤ pq_smI σ ∧ pq_smI σ ≤ 200 ∧ ∀ i : Nat, (i : Int) < pq_smI σ → pq_vt σ (pq_soI σ i) ∧ pq_qI σ (pq_soI σ i).toNat = 1 ∧ pq_kI σ (pq_soI σ i).toNat ≠ 5
set_option maxRecDepth 100000 in
theorem pq_Sm.ex {σ τ : SM} (h : pq_Sm σ) (e : pq_Ex σ τ) (h21 : τ.1 21 = σ.1 21) (h39 : τ.2.1 39 = σ.2.1 39) : pq_Sm τ ∧ pq_smI τ = pq_smI σ ∧ ∀ i, pq_soI τ i = pq_soI σ i := by
  have a : pq_smI τ = pq_smI σ := by show (τ.1 21).toInt = _; rw [h21]; rfl
  have b : ∀ i, pq_soI τ i = pq_soI σ i := fun i => by show (τ.2.1 39 i).toInt = _; rw [h39]; rfl
  refine ⟨⟨by rw [a]; exact h.1, by rw [a]; exact h.2.1, fun i hi => ?_⟩, a, b⟩
  rw [a] at hi
  have q := h.2.2 i hi
  rw [b, e.q q.1, e.k q.1]
  exact ⟨e.vt q.1, q.2⟩
set_option maxRecDepth 100000 in
theorem pq_Sm.gn {σ τ : SM} (h : pq_Sm σ) (g : pq_Gn σ τ) : pq_Sm τ ∧ pq_smI τ = pq_smI σ ∧ ∀ i, pq_soI τ i = pq_soI σ i := h.ex g.1 (g.2.1.1 21 (by decide)) (g.2.1.2.1 39 (by decide))
section CL
variable {N : Nat} {x s : Int32}
set_option maxRecDepth 100000 in
theorem pq_collect_L7 {σ0 : SM} (hT : pq_Tb σ0) (hB : pq_Bd σ0) : ∀ (n : Nat) (v3 : Int32) (σ : SM), pq_fr [21] [39] σ0 σ → pq_Sm σ → pq_smI σ ≤ v3.toInt → 0 ≤ v3.toInt → v3.toInt ≤ pq_bI σ0 → pq_bI σ0 - v3.toInt < n → pq_Tot (M_M_collect_L7 N n x s v3 σ) (fun _ τ => pq_fr [21] [39] σ0 τ ∧ pq_Sm τ) := by
  intro n
  induction n with
  | zero => intro v3 σ _ _ _ _ _ h; omega
  | succ n ih =>
    intro v3 σ f sm h1 h2 h3 hn
    rw [M_M_collect_L7]
    have ex := f.ex (by decide)
    have bg := pq_BG.fr f (by decide) (by decide) (by decide) (by decide)
    have hT' := pq_Tb.ex ex.1 ex.2 hT
    have hB' := hB.ex ex.1 bg.1 bg.2
    refine pq_Tot.ite (fun _ => pq_Tot.ret ⟨f, sm⟩) (fun lt => ?_)
    rw [pq_iv_le] at lt
    have be : (gM_M_bounds σ).toInt = pq_bI σ0 := bg.2
    have lt' : v3.toInt < pq_bI σ := by rw [bg.2]; omega
    have b2 := hB.2.1
    have c3 := pq_ck_bd hB' h2 lt'
    have e1 : (v3 + 1).toInt = v3.toInt + 1 := pq_iv_add (by rw [pq_iv_1]; omega) (by rw [pq_iv_1]; omega)
    have p := hB'.2.2 v3.toInt.toNat (by omega)
    have vy : pq_vt σ (aM_M_boundType σ v3.toNatClampNeg).toInt := p.2.2.1
    have nx : ∀ τ, pq_fr [21] [39] σ0 τ → pq_Sm τ → pq_smI τ ≤ v3.toInt + 1 → pq_Tot (M_M_collect_b74 N (M_M_collect_L7 N n) x s v3 τ) (fun _ τ => pq_fr [21] [39] σ0 τ ∧ pq_Sm τ) := fun τ a b c => by
      rw [M_M_collect_b74]
      exact pq_Tot.nm (ih (v3 + 1) τ a b (by omega) (by omega) (by omega) (by omega))
    have same := nx σ f sm (by omega)
    refine pq_Tot.ite1 c3 (pq_Tot.ite (fun _ => pq_Tot.ite1 c3 (pq_Tot.ite (fun _ => pq_Tot.ite1 c3 (pq_Tot.ite1 (pq_ck_vt hT' vy) (pq_Tot.ite (fun _ => same) (fun nq => pq_Tot.ite1 c3 ?_)))) (fun _ => same))) (fun _ => same))
    have se : (gM_M_someMany σ).toInt = pq_smI σ := rfl
    have s0 := sm.1
    have cs : ck (gM_M_someMany σ) 200 = true := pq_ck_mk s0 (by rw [se]; omega)
    have s1 : (gM_M_someMany σ + 1).toInt = pq_smI σ + 1 := by rw [pq_iv_add (by rw [se, pq_iv_1]; omega) (by rw [se, pq_iv_1]; omega), se, pq_iv_1]
    refine pq_Tot.ite1 cs (pq_Tot.nm (pq_Tot.nm (nx _ (pq_fr.s (pq_fr.t f (by decide) _) (by decide) _) ?_ ?_)))
    · have f' : pq_fr [21] [39] σ (sM_M_someMany (tM_M_some σ (upd (aM_M_some σ) (gM_M_someMany σ).toNatClampNeg (aM_M_boundType σ v3.toNatClampNeg))) (gM_M_someMany σ + 1)) := pq_fr.s (pq_fr.t pq_fr.rf (by decide) _) (by decide) _
      have ex' := (f'.ex (by decide)).1
      refine ⟨?_, ?_, fun i hi => ?_⟩
      · show 0 ≤ (gM_M_someMany σ + 1).toInt; omega
      · show (gM_M_someMany σ + 1).toInt ≤ 200; omega
      · have hi : (i : Int) < pq_smI σ + 1 := by rw [← s1]; exact hi
        have ei : ∀ j, pq_soI (sM_M_someMany (tM_M_some σ (upd (aM_M_some σ) (gM_M_someMany σ).toNatClampNeg (aM_M_boundType σ v3.toNatClampNeg))) (gM_M_someMany σ + 1)) j = if j = (pq_smI σ).toNat then pq_byI σ v3.toInt.toNat else pq_soI σ j := fun j => by
          show (upd (aM_M_some σ) (pq_smI σ).toNat (aM_M_boundType σ v3.toNatClampNeg) j).toInt = _
          rw [upd]; split <;> rfl
        rw [ei]
        by_cases e : i = (pq_smI σ).toNat
        · rw [if_pos e, ex'.q p.2.2.1, ex'.k p.2.2.1]
          exact ⟨ex'.vt p.2.2.1, ((hT'.pk vy).b).elim (fun z => absurd (pq_iv_eq.2 (show (aM_M_proper σ (aM_M_boundType σ v3.toNatClampNeg).toNatClampNeg).toInt = (0 : Int32).toInt from z)) nq) id, p.2.2.2⟩
        · rw [if_neg e]
          have q := sm.2.2 i (by omega)
          rw [ex'.q q.1, ex'.k q.1]
          exact ⟨ex'.vt q.1, q.2⟩
    · show (gM_M_someMany σ + 1).toInt ≤ _; omega
set_option maxRecDepth 100000 in
theorem pq_collect_ok {σ : SM} (hN : 201 ≤ N) (hT : pq_Tb σ) (hB : pq_Bd σ) : pq_Tot (M_M_collect N x s σ) (fun _ τ => pq_fr [21] [39] σ τ ∧ pq_Sm τ) := by
  rw [M_M_collect]
  refine pq_Tot.nm (pq_collect_L7 hT hB N 0 _ (pq_fr.s pq_fr.rf (by decide) _) ⟨by show 0 ≤ (0 : Int32).toInt; decide, by show (0 : Int32).toInt ≤ 200; decide, fun i hi => ?_⟩ (by show (0 : Int32).toInt ≤ (0 : Int32).toInt; decide) (by decide) (by rw [pq_iv_0]; exact hB.1) (by rw [pq_iv_0]; have := hB.2.1; omega))
  have hi : (i : Int) < (0 : Int32).toInt := hi
  rw [pq_iv_0] at hi; omega
end CL
section EX
variable {N : Nat} {B : Int} {Q : Int32 → SM → Prop}
set_option maxRecDepth 100000 in
theorem pq_ext_L15 (hN : 20002 ≤ N) (hB : B + 41 < 4294967296) {v1 v2 : Int32} {k94 : Int32 → Int32 → Int32 → SM → Option (Int32 × SM)} : ∀ (n : Nat) (v3 v4 : Int32) (σ : SM), pq_Wo B σ → pq_Sm σ → (pq_fl σ → v3 = 0) → 0 ≤ v2.toInt → v2.toInt < pq_smI σ → 0 ≤ v4.toInt → v4.toInt ≤ pq_smI σ → pq_smI σ - v4.toInt < n → (∀ σ' v3', pq_Wo B σ' → pq_Gn σ σ' → (pq_fl σ' → v3' = 0) → pq_Tot (k94 v1 v2 v3' σ') Q) → pq_Tot (M_M_extreme_L15 N k94 n v1 v2 v3 v4 σ) Q := by
  intro n
  induction n with
  | zero => intro v3 v4 σ _ _ _ _ _ _ _ h; omega
  | succ n ih =>
    intro v3 v4 σ h sm h3 z0 z1 y0 y1 hn hk
    rw [M_M_extreme_L15]
    refine pq_Tot.ite (fun _ => hk σ v3 h pq_Gn.rf h3) (fun lt => pq_Tot.ite (fun _ => hk σ v3 h pq_Gn.rf h3) (fun n3 => ?_))
    rw [pq_iv_le] at lt
    have lt' : v4.toInt < pq_smI σ := by simp only [pq_smI]; omega
    have s2 := sm.2.1
    have c2 : ck v2 200 = true := pq_ck_mk z0 (by omega)
    have c4 : ck v4 200 = true := pq_ck_mk y0 (by omega)
    have e1 : (v4 + 1).toInt = v4.toInt + 1 := pq_iv_add (by rw [pq_iv_1]; omega) (by rw [pq_iv_1]; omega)
    have p2 := sm.2.2 v2.toInt.toNat (by omega)
    have p4 := sm.2.2 v4.toInt.toNat (by omega)
    have b87 : ∀ (s : Int32) (τ : SM), pq_Wo B τ → pq_Gn σ τ → (pq_fl τ → s = 0) → pq_Tot (M_M_extreme_b87 N (M_M_extreme_L15 N k94 n) v1 v2 v4 s τ) Q := fun s τ w g hs => by
      rw [M_M_extreme_b87]
      have q := sm.gn g
      exact pq_Tot.nm (ih s (v4 + 1) τ w q.1 hs z0 (by omega) (by omega) (by omega) (by omega) (fun σ' v3' a b c => hk σ' v3' a (g.tr b) c))
    have b76 : ∀ (s0 s1 s2 : Int32), pq_vt σ s0.toInt → pq_vt σ s1.toInt → pq_Tot (M_M_extreme_b76 N (M_M_extreme_L15 N k94 n) v1 v2 v4 s0 s1 s2 σ) Q := fun s0 s1 s2 a b => by
      rw [M_M_extreme_b76]
      refine pq_Tot.bd (h.lessH hN hB b a) (fun r τ hr => pq_Tot.ite (fun _ => b87 0 τ hr.2.1 hr.2.2.1 (fun _ => rfl)) (fun nr => ?_))
      rw [M_M_extreme_b82]
      exact b87 1 τ hr.2.1 hr.2.2.1 (fun z => absurd (hr.2.2.2 z) nr)
    have b56 : ∀ (s0 s1 : Int32), pq_vt σ s0.toInt → pq_Tot (M_M_extreme_b56 N (M_M_extreme_L15 N k94 n) v1 v2 v4 s0 s1 σ) Q := fun s0 s1 a => by
      rw [M_M_extreme_b56]
      exact pq_Tot.ite (fun _ => pq_Tot.ite1 c2 (b76 _ _ _ p2.1 a)) (fun _ => pq_Tot.ite1 c4 (b76 _ _ _ p4.1 a))
    refine pq_Tot.ite (fun _ => ?_) (fun _ => pq_Tot.ite (fun _ => pq_Tot.ite1 c4 (b56 _ _ p4.1)) (fun _ => pq_Tot.ite1 c2 (b56 _ _ p2.1)))
    rw [M_M_extreme_b82]
    exact b87 1 σ h pq_Gn.rf (fun z => absurd (h3 z) n3)
def pq_Ch (B : Int) (σ : SM) (r : Int32) (τ : SM) : Prop := pq_Wo B τ ∧ pq_Gn σ τ ∧ (pq_fl τ → r = -1) ∧ (r ≠ -1 → pq_vt τ r.toInt ∧ pq_qI τ r.toInt.toNat = 1)
set_option maxRecDepth 100000 in
theorem pq_ext_L2 (hN : 20002 ≤ N) (hB : B + 41 < 4294967296) {v1 : Int32} : ∀ (n : Nat) (v2 : Int32) (σ : SM), pq_Wo B σ → pq_Sm σ → ¬ pq_fl σ → 0 ≤ v2.toInt → v2.toInt ≤ pq_smI σ → pq_smI σ - v2.toInt < n → pq_Tot (M_M_extreme_L2 N n v1 v2 σ) (pq_Ch B σ) := by
  intro n
  induction n with
  | zero => intro v2 σ _ _ _ _ _ h; omega
  | succ n ih =>
    intro v2 σ h sm nf z0 z1 hn
    rw [M_M_extreme_L2]
    refine pq_Tot.ite (fun _ => pq_Tot.ret ⟨h, pq_Gn.rf, fun z => absurd z nf, fun z => absurd rfl z⟩) (fun lt => ?_)
    rw [pq_iv_le] at lt
    have lt' : v2.toInt < pq_smI σ := by simp only [pq_smI]; omega
    have s2 := sm.2.1
    have e1 : (v2 + 1).toInt = v2.toInt + 1 := pq_iv_add (by rw [pq_iv_1]; omega) (by rw [pq_iv_1]; omega)
    refine pq_ext_L15 hN hB N 1 0 σ h sm (fun z => absurd z nf) z0 lt' (by decide) (by rw [pq_iv_0]; exact sm.1) (by rw [pq_iv_0]; omega) (fun σ' v3' w g h3 => ?_)
    rw [M_M_extreme_b94]
    have q := sm.gn g
    have p2 := q.1.2.2 v2.toInt.toNat (by omega)
    refine pq_Tot.ite (fun f0 => pq_Tot.ite (fun _ => pq_Tot.nm ?_) (fun _ => pq_Tot.ite1 (pq_ck_mk z0 (by omega)) (pq_Tot.ret ⟨w, g, fun z => absurd f0 z, fun _ => ⟨p2.1, p2.2.1⟩⟩))) (fun _ => pq_Tot.ret ⟨w, g, fun _ => rfl, fun z => absurd rfl z⟩)
    refine (ih (v2 + 1) σ' w q.1 (fun z => z f0) (by omega) (by omega) (by omega)).mono (fun r τ hr => ⟨hr.1, g.tr hr.2.1, hr.2.2⟩)
set_option maxRecDepth 100000 in
theorem pq_extreme_ok (hN : 20002 ≤ N) (hB : B + 41 < 4294967296) {v1 : Int32} {σ : SM} (h : pq_Wo B σ) (sm : pq_Sm σ) (nf : ¬ pq_fl σ) : pq_Tot (M_M_extreme N v1 σ) (pq_Ch B σ) := by
  rw [M_M_extreme]
  exact pq_ext_L2 hN hB N 0 σ h sm nf (by decide) (by rw [pq_iv_0]; exact sm.1) (by rw [pq_iv_0]; have := sm.2.1; omega)
end EX
