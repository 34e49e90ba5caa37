set_option maxRecDepth 100000 in
theorem pq_aboveOf_ok {N : Nat} {x1 x2 : Int32} {g K : Nat} {σ : SM} (hN : 3000 ≤ N) (hT : pq_Tb σ) (hP : pq_Pb σ) (hf : ¬ pq_fl σ) (v : pq_vt σ x1.toInt) (h2 : x2.toInt = g) (hg : (g : Int) < pq_cI σ) (hK : pq_Sn K σ) (hK2 : K + 41 < 4294967296) :
    pq_Tot (M_M_aboveOf N x1 x2 σ) (pq_Abv σ K x1.toInt g) := by
  rw [M_M_aboveOf]
  refine pq_Tot.nm (pq_Tot.bd (pq_push_ok (a := 0) (σ := sM_M_aboves σ 0) rfl (by omega) x1 0 0) (fun _ τ hp => ?_))
  have f : pq_fr [6] [18, 19, 20] σ τ := (pq_fr.s pq_fr.rf (by decide) _).tr hp.1
  have d := (hT.ok v).2.2.1
  exact pq_ab_ph1 hN hT hP hf v h2 hg hK hK2 N τ x1.toInt f hp.2.1 hp.2.2.2.2 hp.2.2.1 v Iff.rfl (fun z => z) (by omega)
set_option maxRecDepth 100000 in
theorem pq_aboveOf_full {N : Nat} {x1 x2 : Int32} {σ : SM} (hN : 3000 ≤ N) (hf : pq_fl σ) : pq_Tot (M_M_aboveOf N x1 x2 σ) (fun r τ => r = -1 ∧ pq_fl τ ∧ pq_fr [6] [18, 19, 20] σ τ) := by
  rw [M_M_aboveOf]
  refine pq_Tot.nm (pq_Tot.bd (pq_push_ok (a := 0) (σ := sM_M_aboves σ 0) rfl (by omega) x1 0 0) (fun _ τ hp => ?_))
  have f : pq_fr [6] [18, 19, 20] σ τ := (pq_fr.s pq_fr.rf (by decide) _).tr hp.1
  have hf' : pq_fl τ := by rw [pq_fl, show gM_M_full τ = gM_M_full σ from f.1 2 (by decide)]; exact hf
  obtain ⟨n, rfl⟩ : ∃ m, N = m + 1 := ⟨N - 1, by omega⟩
  rw [M_M_aboveOf_L12]
  have a1 : (gM_M_aboves τ).toInt = 1 := hp.2.1
  refine pq_Tot.ite2 (by rw [pq_iv_le, a1, pq_iv_0]; omega) (pq_Tot.ite2 hf' ?_)
  rw [M_M_aboveOf_b356]
  exact pq_Tot.ite2 hf' (pq_Tot.ret ⟨rfl, hf', f⟩)
