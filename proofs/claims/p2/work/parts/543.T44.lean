variable {cc : Int}
abbrev pq_LF : List Nat := [1, 2, 3, 5, 6, 7, 8, 9, 10, 11, 12, 13, 14, 15, 16, 17, 18, 19, 20, 21]
abbrev pq_AF : List Nat := [3, 4, 5, 6, 7, 8, 9, 12, 13, 14, 15, 16, 17, 18, 19, 20, 21, 22, 23, 24, 25, 26, 27, 28, 29, 30, 31, 32, 33, 34, 35, 36, 37, 38, 39, 40]
set_option maxRecDepth 100000 in
theorem pq_Iv.fin {σ τ : SM} (h : pq_Iv σ) (hT : pq_Tb τ) (e : pq_Ex σ τ) (f : pq_fr pq_LF pq_AF σ τ) (hB : pq_Bd τ) (g : pq_BG σ τ) (hic : 0 ≤ pq_icI τ ∧ pq_icI τ ≤ 20000) (hhe : 0 ≤ pq_heI τ ∧ pq_heI τ ≤ pq_bI τ) (nf : ¬ pq_fl τ) (htd : 0 ≤ pq_tdI τ ∧ pq_tdI τ ≤ 60) (htl : ∀ i : Nat, (i : Int) < pq_tdI τ → pq_vt τ (pq_tlI τ i) ∧ pq_vt τ (pq_trI τ i)) (h0 : pq_vaI σ = 0 → pq_bI τ = 0) : pq_Iv τ ∧ pq_vaI τ = pq_vaI σ ∧ pq_Us τ ≤ pq_Us σ := by
  obtain ⟨h1, h2, h3, h4, h5, h6, h7, h8, h9, h10, h11, h12⟩ := h
  have ev := (pq_frI f).1 (by decide)
  refine ⟨⟨hT, h2.fr e f (by decide) (by decide), hB, h4.ex e, nf, hic, hhe, by rw [ev]; exact h8, htd, htl, fun c hc => ?_, by rw [ev]; exact h0⟩, ev, pq_Us.g h3 e g ev⟩
  rw [e.1] at hc
  rw [e.2.1]; exact h11 c hc
set_option maxRecDepth 100000 in
theorem pq_Oc.ex {σ τ : SM} (hT : pq_Tb σ) (e : pq_Ex σ τ) {x t : Int} (h : pq_Oc σ x t) : pq_vt σ t → pq_Oc τ x t := by
  refine h (fun t => pq_vt σ t → pq_Oc τ x t) ?_ ?_ ?_ ?_
  · intro t a b v; exact pq_Oc.here (by rw [e.k v]; exact a) (by rw [e.o v]; exact b)
  · intro t a ih v; have p := hT.p1 v a; exact pq_Oc.one (by rw [e.k v]; exact a) (by rw [e.o v]; exact ih ⟨p.1, Int.lt_trans p.2 v.2⟩)
  · intro t a ih v; have p := hT.p2 v a; exact pq_Oc.two (by rw [e.k v, e.o v]; exact a) (by rw [e.w v]; exact ih ⟨p.1, Int.lt_trans p.2 v.2⟩)
  · intro t a b ih v; have p := hT.p3 v a b; exact pq_Oc.three (by rw [e.k v]; exact a) (by rw [e.h v]; exact b) (by rw [e.h v]; exact ih ⟨p.1, Int.lt_trans p.2 v.2⟩)
section FO
variable {N : Nat} {D : Int}
set_option maxRecDepth 100000 in
theorem pq_isThere_L11 (hN : 3000 ≤ N) {σ0 : SM} {v1 : Int32} (hT : pq_Tb σ0) (hv : 0 ≤ pq_vaI σ0 ∧ pq_vaI σ0 ≤ 12) :
    ∀ (n : Nat) (v2 v3 : Int32) (σ : SM) (K : Nat), pq_fr pq_LI pq_AI σ0 σ → pq_Sn K σ → (v2 = 0 ∨ v2 = 1) → (v2 ≠ 0 → pq_vt σ0 v1.toInt ∧ ∀ y : Int, pq_vaI σ0 ≤ y → y < v3.toInt → ¬ pq_Oc σ0 y v1.toInt) → pq_vaI σ0 ≤ v3.toInt → v3.toInt ≤ 12 → (K : Int) + (12 - v3.toInt) + 2 < 4294967296 → 12 - v3.toInt < n → pq_Tot (M_M_isThere_L11 N n v1 v2 v3 σ) (fun r τ => (r = 0 ∨ r = 1) ∧ pq_fr pq_LI pq_AI σ0 τ ∧ (∃ K' : Nat, (K' : Int) ≤ K + (12 - v3.toInt) ∧ pq_Sn K' τ) ∧ (r ≠ 0 → pq_vt σ0 v1.toInt ∧ ∀ y : Int, pq_vaI σ0 ≤ y → y < 12 → ¬ pq_Oc σ0 y v1.toInt)) := by
  intro n
  induction n with
  | zero => intro v2 v3 σ K _ _ _ _ _ _ _ h; omega
  | succ n ih =>
    intro v2 v3 σ K f hK hz hh z0 z1 hK2 hn
    rw [M_M_isThere_L11]
    have t12 : (12 : Int32).toInt = 12 := rfl
    have zb2 : zb v2 = true := decide_eq_true hz
    refine pq_Tot.ite (fun le => pq_Tot.ite1 zb2 (pq_Tot.ret ⟨hz, f, ⟨K, by omega, hK⟩, fun nz => ⟨(hh nz).1, fun y a b => (hh nz).2 y a ?_⟩⟩)) (fun lt => pq_Tot.ite (fun e => pq_Tot.ite1 zb2 (pq_Tot.ret ⟨hz, f, ⟨K, by omega, hK⟩, fun nz => absurd e nz⟩)) (fun nz => ?_))
    · rw [pq_iv_le, t12] at le; omega
    rw [pq_iv_le, t12] at lt
    obtain ⟨v, no⟩ := hh nz
    have ex := f.ex (by decide)
    have e3 : (v3 + 1).toInt = v3.toInt + 1 := pq_iv_add (by rw [pq_iv_1]; omega) (by rw [pq_iv_1]; omega)
    refine pq_Tot.bd (pq_isIn_no (by omega) v3 (pq_Tb.ex ex.1 ex.2 hT) (ex.1.vt v) hK (by omega)) (fun r τ hr => ?_)
    obtain ⟨a1, a2, a3, a4⟩ := hr
    have go : ∀ s : Int32, (s = 0 ∨ s = 1) → (s ≠ 0 → ¬ pq_Oc σ v3.toInt v1.toInt) → pq_Tot (M_M_isThere_b35 N (M_M_isThere_L11 N n) v1 v3 s τ) (fun r τ => (r = 0 ∨ r = 1) ∧ pq_fr pq_LI pq_AI σ0 τ ∧ (∃ K' : Nat, (K' : Int) ≤ K + (12 - v3.toInt) ∧ pq_Sn K' τ) ∧ (r ≠ 0 → pq_vt σ0 v1.toInt ∧ ∀ y : Int, pq_vaI σ0 ≤ y → y < 12 → ¬ pq_Oc σ0 y v1.toInt)) := fun s hs hs2 => by
      rw [M_M_isThere_b35]
      refine pq_Tot.nm ((ih s (v3 + 1) τ (K + 1) (f.tr a2) a3 hs (fun ns => ⟨v, fun y b c => ?_⟩) (by omega) (by omega) (by omega) (by omega)).mono (fun r υ hr => ?_))
      · by_cases e : y = v3.toInt
        · intro o; rw [e] at o; exact hs2 ns (o.ex hT ex.1 v)
        · exact no y b (by omega)
      · obtain ⟨b1, b2, ⟨K', b3, b4⟩, b5⟩ := hr
        exact ⟨b1, b2, ⟨K', by omega, b4⟩, b5⟩
    exact pq_Tot.ite (fun e => go 1 (Or.inr rfl) (fun _ => a4 e)) (fun _ => go 0 (Or.inl rfl) (fun z => absurd rfl z))
set_option maxRecDepth 100000 in
theorem pq_isThere_ok (hN : 3000 ≤ N) {σ : SM} {K : Nat} (hT : pq_Tb σ) (hv : 0 ≤ pq_vaI σ ∧ pq_vaI σ ≤ 12) (hK : pq_Sn K σ) (hK2 : (K : Int) + 20 < 4294967296) (x : Int32) : pq_Tot (M_M_isThere N x σ) (fun r τ => (r = 0 ∨ r = 1) ∧ pq_fr pq_LI pq_AI σ τ ∧ (∃ K' : Nat, (K' : Int) ≤ K + 12 ∧ pq_Sn K' τ) ∧ (r ≠ 0 → pq_vt σ x.toInt ∧ ∀ y : Int, pq_vaI σ ≤ y → y < 12 → ¬ pq_Oc σ y x.toInt)) := by
  rw [M_M_isThere]
  have t : pq_Tot (M_M_isType x σ) (fun r τ => (τ = σ ∧ (r ≠ 0 → pq_vt σ x.toInt)) ∧ (r = 0 ∨ r = 1)) := (pq_isType_ok x).det (by
    rw [M_M_isType]
    exact pq_Tot.ite (fun _ => pq_Tot.ret (Or.inl rfl)) (fun _ => pq_Tot.ite (fun _ => pq_Tot.ret (Or.inl rfl)) (fun _ => pq_Tot.ret (Or.inr rfl))))
  refine pq_Tot.bd t (fun r τ hr => pq_Tot.nm ?_)
  obtain ⟨⟨rfl, h1⟩, h2⟩ := hr
  refine (pq_isThere_L11 hN hT hv N r _ τ K pq_fr.rf hK h2 (fun nz => ⟨h1 nz, fun y a b => absurd b (by have : (gM_M_variables τ).toInt = pq_vaI τ := rfl; omega)⟩) (Int.le_refl _) hv.2 (by have : (gM_M_variables τ).toInt = pq_vaI τ := rfl; omega) (by have : (gM_M_variables τ).toInt = pq_vaI τ := rfl; omega)).mono (fun r υ hr => ?_)
  obtain ⟨b1, b2, ⟨K', b3, b4⟩, b5⟩ := hr
  exact ⟨b1, b2, ⟨K', by have : (gM_M_variables τ).toInt = pq_vaI τ := rfl; omega, b4⟩, b5⟩
set_option maxRecDepth 100000 in
theorem pq_begin_ok (x : Int32) (σ : SM) : pq_Tot (M_M_begin x σ) (fun _ τ => pq_fr [2, 9, 11, 13, 14] [] σ τ ∧ ¬ pq_fl τ ∧ pq_icI τ = 0) := by
  rw [M_M_begin]
  refine pq_Tot.nm (pq_Tot.nm (pq_Tot.nm (pq_Tot.nm (pq_Tot.nm (pq_Tot.ret ⟨?_, fun z => z rfl, rfl⟩)))))
  exact pq_fr.s (pq_fr.s (pq_fr.s (pq_fr.s (pq_fr.s pq_fr.rf (by decide) _) (by decide) _) (by decide) _) (by decide) _) (by decide) _
set_option maxRecDepth 100000 in
theorem pq_settle_ok (x y : Int32) (σ : SM) : pq_Tot (M_M_settle x y σ) (fun _ τ => pq_fr [2, 19, 20] [] σ τ ∧ ¬ pq_fl τ ∧ (gM_M_state τ = 0 → ¬ pq_fl σ ∧ x ≠ 0)) := by
  have b21 : ∀ s : Int32, (s = 0 → ¬ pq_fl σ ∧ x ≠ 0) → pq_Tot (M_M_settle_b21 y s σ) (fun _ τ => pq_fr [2, 19, 20] [] σ τ ∧ ¬ pq_fl τ ∧ (gM_M_state τ = 0 → ¬ pq_fl σ ∧ x ≠ 0)) := fun s hs => by
    rw [M_M_settle_b21]
    refine pq_Tot.nm (pq_Tot.ite (fun _ => pq_Tot.nm (pq_Tot.nm (pq_Tot.ret ⟨pq_fr.s (pq_fr.s (pq_fr.s pq_fr.rf (by decide) _) (by decide) _) (by decide) _, fun z => z rfl, fun z => hs z⟩))) (fun _ => pq_Tot.nm (pq_Tot.nm (pq_Tot.ret ⟨pq_fr.s (pq_fr.s (pq_fr.s pq_fr.rf (by decide) _) (by decide) _) (by decide) _, fun z => z rfl, fun z => hs z⟩))))
  rw [M_M_settle]
  refine pq_Tot.ite (fun f0 => pq_Tot.ite (fun _ => b21 1 (fun z => absurd z (by decide))) (fun nx => b21 0 (fun _ => ⟨fun z => z f0, nx⟩))) (fun _ => b21 2 (fun z => absurd z (by decide)))
set_option maxRecDepth 100000 in
theorem pq_Wc.fin {σ τ : SM} {K K' : Nat} {E : Int} (pq_hI : pq_Iv σ) (hs : gM_M_state σ = 0) (k2 : (K : Int) + pq_Ph σ ≤ E) (hIτ : pq_Iv τ) (ev : pq_vaI τ = pq_vaI σ) (us : pq_Us τ ≤ pq_Us σ) (hcc : pq_cI τ = cc) (hK : pq_Sn K' τ) {R : Int} (pq_hR : R = (if gM_M_state τ = 0 then pq_RC * (pq_Us τ : Int) else 0)) (hKK : (K' : Int) - pq_pr (pq_heI τ).toNat + R ≤ K + 780000 - pq_pr (pq_heI σ).toNat + pq_RC * (pq_Us σ : Int)) : pq_Wc (E + 8280000) cc τ := by
  refine ⟨hIτ, ⟨K', hK, ?_⟩, hcc⟩
  rw [pq_Ph] at k2 ⊢
  rw [if_pos hs] at k2
  rw [ev, ← pq_hR]
  have a : (if 1 ≤ pq_bI τ then (7500000 : Int) else 0) ≤ (if 1 ≤ pq_bI σ then 7500000 else 0) + 7500000 := by split <;> split <;> omega
  omega
set_option maxRecDepth 100000 in
theorem pq_hold_zero {σ : SM} (hN : 1 ≤ N) (h : pq_bI σ = 0) (h0 : 0 ≤ pq_heI σ) : M_M_hold N σ = some (1, σ) := by
  obtain ⟨n, rfl⟩ : ∃ k, N = k + 1 := ⟨N - 1, by omega⟩
  rw [M_M_hold, M_M_hold_L0, if_pos]
  rw [pq_iv_le]
  have a : (gM_M_bounds σ).toInt = pq_bI σ := rfl
  have b : (gM_M_held σ).toInt = pq_heI σ := rfl
  omega
end FO
