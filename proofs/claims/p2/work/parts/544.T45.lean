variable {cc : Int}
section FG
variable {N : Nat} {D E : Int} {σ : SM}
set_option maxRecDepth 100000 in
theorem pq_Iv.wo (h : pq_Iv σ) {K : Nat} (hK : pq_Sn K σ) {τ : SM} (e : pq_Ex σ τ) (et : pq_tI τ = pq_tI σ) {L A : List Nat} (f : pq_fr L A σ τ) (h5 : 5 ∉ L) (h16 : 16 ∉ L) (a1 : 1 ∉ A) (a2 : 2 ∉ A) (a17 : 17 ∉ A) (a28 : 28 ∉ A) (a29 : 29 ∉ A) (a30 : 30 ∉ A) (ic : pq_icI τ = 0) : pq_Wo (K + 780000) τ ∧ pq_BG σ τ ∧ pq_bI τ = pq_bI σ := by
  have bg := pq_BG.fr f h16 a28 a29 a30
  exact ⟨⟨pq_Tb.ex e et h.1, h.2.1.fr e f a1 a2, h.2.2.1.ex e bg.1 bg.2, ⟨K, by rw [ic]; omega, hK.fr f h5 a17⟩, by rw [ic]; omega, h.2.2.2.1.ex e⟩, bg⟩
set_option maxRecDepth 100000 in
theorem pq_us0 {σ : SM} (h : pq_vaI σ = 0) : pq_Us σ = 0 := by
  have z : ∀ k, pq_uc (fun _ => False) k = 0 := fun k => by
    induction k with
    | zero => rfl
    | succ k ihk => rw [pq_uc, ihk, if_neg id]
  have : pq_Us σ ≤ pq_uc (fun _ => False) 12 := pq_uc_le 12 (fun x _ hx => by have := hx.1; rw [h] at this; omega)
  rw [z] at this; omega
set_option maxRecDepth 100000 in
theorem pq_formula_b53_go (hN : 20002 ≤ N) (pq_hI : pq_Iv σ) (hcc : pq_cI σ = cc) {K : Nat} (hK : pq_Sn K σ) (k2 : (K : Int) + pq_Ph σ ≤ E) (hE : E + 8300000 < 4294967296) {x s t : Int32} (vs : pq_vt σ s.toInt) (v : pq_vt σ t.toInt) (hz : pq_vaI σ = 0 → pq_qI σ s.toInt.toNat = 1 ∧ pq_qI σ t.toInt.toNat = 1) : pq_Go (E + 8280000) cc (M_M_formula_b53 N x s t σ) := by
  rw [pq_Go, M_M_formula_b53]
  have w : pq_Wc (E + 8280000) cc σ := ⟨pq_hI, ⟨K, hK, by omega⟩, hcc⟩
  have pn := pq_Ph_nn pq_hI
  refine pq_Tot.ite (fun s0 => pq_Tot.ite (fun _ => pq_Tot.ret w) (fun n60 => pq_Tot.nm (pq_Tot.nm ?_))) (fun _ => pq_Tot.ret w)
  have tb := pq_hI.2.2.2.2.2.2.2.2.1
  have te : (gM_M_told σ).toInt = pq_tdI σ := rfl
  have n60' : pq_tdI σ ≠ 60 := fun z => n60 (pq_iv_eq.2 z)
  have cy : ck (gM_M_told σ) 60 = true := pq_ck_mk (by omega) (by omega)
  have tn : (gM_M_told σ).toNatClampNeg = (pq_tdI σ).toNat := rfl
  have t1 : (gM_M_told σ + 1).toInt = pq_tdI σ + 1 := by rw [pq_iv_add (by rw [te, pq_iv_1]; omega) (by rw [te, pq_iv_1]; omega), te, pq_iv_1]
  refine pq_Tot.ite1 cy (pq_Tot.nm (pq_Tot.ite1 cy (pq_Tot.nm (pq_Tot.ite1 cy (pq_Tot.nm ?_)))))
  rw [tn]
  generalize hσ9 : tM_M_toldRight _ _ = σ9
  have f9 : pq_fr [18] [32, 33, 34] σ σ9 := by rw [← hσ9]; exact pq_fr.t (pq_fr.t (pq_fr.t (pq_fr.s pq_fr.rf (by decide) _) (by decide) _) (by decide) _) (by decide) _
  have td9 : pq_tdI σ9 = pq_tdI σ + 1 := by rw [← hσ9]; exact t1
  have tl9 : ∀ i, pq_tlI σ9 i = if i = (pq_tdI σ).toNat then s.toInt else pq_tlI σ i := fun i => by
    rw [← hσ9]; show (upd (aM_M_toldLeft σ) (pq_tdI σ).toNat s i).toInt = _
    rw [upd]; split <;> rfl
  have tr9 : ∀ i, pq_trI σ9 i = if i = (pq_tdI σ).toNat then t.toInt else pq_trI σ i := fun i => by
    rw [← hσ9]; show (upd (aM_M_toldRight σ) (pq_tdI σ).toNat t i).toInt = _
    rw [upd]; split <;> rfl
  clear hσ9
  generalize gM_M_told σ = y5 at cy
  refine pq_Tot.bd (pq_begin_ok y5 σ9) (fun _ σ11 h11 => ?_)
  obtain ⟨f11, nf11, ic11⟩ := h11
  have f : pq_fr [2, 9, 11, 13, 14, 18] [32, 33, 34] σ σ11 := (f9.up (by decide) (by decide)).tr (f11.up (by decide) (by decide))
  have ex := f.ex (by decide)
  obtain ⟨w11, bg11, b11⟩ := pq_hI.wo hK ex.1 ex.2 f (by decide) (by decide) (by decide) (by decide) (by decide) (by decide) (by decide) (by decide) ic11
  have td11 : pq_tdI σ11 = pq_tdI σ + 1 := by rw [← td9]; show (σ11.1 18).toInt = _; rw [f11.1 18 (by decide)]; rfl
  have told11 : ∀ i : Nat, (i : Int) < pq_tdI σ11 → pq_vt σ11 (pq_tlI σ11 i) ∧ pq_vt σ11 (pq_trI σ11 i) := fun i hi => by
    have a : pq_tlI σ11 i = pq_tlI σ9 i := by show (σ11.2.1 33 i).toInt = _; rw [f11.2.1 33 (by decide)]; rfl
    have b : pq_trI σ11 i = pq_trI σ9 i := by show (σ11.2.1 34 i).toInt = _; rw [f11.2.1 34 (by decide)]; rfl
    rw [a, b, tl9, tr9]
    by_cases e : i = (pq_tdI σ).toNat
    · rw [if_pos e, if_pos e]; exact ⟨ex.1.vt vs, ex.1.vt v⟩
    · rw [if_neg e, if_neg e]
      have q := pq_hI.2.2.2.2.2.2.2.2.2.1 i (by omega)
      exact ⟨ex.1.vt q.1, ex.1.vt q.2⟩
  have he11 : pq_heI σ11 = pq_heI σ := by show (σ11.1 17).toInt = _; rw [f.1 17 (by decide)]; rfl
  have hhe := pq_hI.2.2.2.2.2.2.1
  have done : ∀ (σe : SM) (s' : Int32) (B' : Int), pq_Wo B' σe → pq_Ex σ11 σe → pq_fr pq_LF pq_AF σ σe → pq_fr pq_LH pq_AF σ11 σe → (33 ∉ ([] : List Nat)) → σe.2.1 33 = σ11.2.1 33 → σe.2.1 34 = σ11.2.1 34 → pq_BG σ11 σe → 0 ≤ pq_heI σe ∧ pq_heI σe ≤ pq_bI σe → (pq_vaI σ = 0 → pq_bI σe = 0) → B' - pq_pr (pq_heI σe).toNat ≤ K + 780000 - pq_pr (pq_heI σ).toNat → pq_Tot (M_M_formula_b154 N y5 s' σe) (fun _ τ => pq_Wc (E + 8280000) cc τ) := fun σe s' B' we exe fe fh _ e33 e34 bge he' hv0 hb' => by
    rw [M_M_formula_b154]
    refine pq_Tot.bd (pq_settle_ok s' y5 σe) (fun _ τ hτ => pq_Tot.ret ?_)
    obtain ⟨fτ, nfτ, sτ⟩ := hτ
    have exτ := fτ.ex (by decide)
    have bgτ := pq_BG.fr fτ (by decide) (by decide) (by decide) (by decide)
    have qτ := pq_frI fτ
    have heτ : pq_heI τ = pq_heI σe := qτ.2.2.1 (by decide)
    have exσ : pq_Ex σ τ := (ex.1.tr exe).tr exτ.1
    obtain ⟨K', k3, k4⟩ := we.2.2.2.1
    have ice := we.2.2.2.2.1
    have tde : pq_tdI σe = pq_tdI σ11 := by show (σe.1 18).toInt = _; rw [fh.1 18 (by decide)]; rfl
    have hIτ := pq_hI.fin (τ := τ) (pq_Tb.ex exτ.1 exτ.2 we.1) exσ (fe.tr (fτ.up (by decide) (by decide))) (we.2.2.1.ex exτ.1 bgτ.1 bgτ.2) ((bg11.tr bge).tr bgτ.1) (by rw [qτ.2.2.2.2.2.1 (by decide)]; exact ice) (by rw [heτ, bgτ.2]; exact he') nfτ (by rw [qτ.2.2.2.1 (by decide), tde, td11]; omega) (fun i hi => by
      rw [qτ.2.2.2.1 (by decide), tde] at hi
      rw [qτ.2.2.2.2.2.2.1 (by decide), qτ.2.2.2.2.2.2.2 (by decide)]
      have a : pq_tlI σe i = pq_tlI σ11 i := by show (σe.2.1 33 i).toInt = _; rw [e33]; rfl
      have b : pq_trI σe i = pq_trI σ11 i := by show (σe.2.1 34 i).toInt = _; rw [e34]; rfl
      rw [a, b]
      have q := told11 i hi
      exact ⟨(exe.tr exτ.1).vt q.1, (exe.tr exτ.1).vt q.2⟩) (fun z => by rw [bgτ.2]; exact hv0 z)
    refine pq_Wc.fin pq_hI s0 k2 hIτ.1 hIτ.2.1 hIτ.2.2 (exσ.1.trans hcc) (k4.fr fτ (by decide) (by decide)) rfl ?_
    have us := hIτ.2.2
    have r : (if gM_M_state τ = 0 then pq_RC * (pq_Us τ : Int) else 0) ≤ pq_RC * (pq_Us σ : Int) := by
      split
      · exact Int.mul_le_mul_of_nonneg_left (by omega) (by decide)
      · exact Int.mul_nonneg (by decide) (by omega)
    rw [heτ]
    omega
  refine pq_Tot.bd (w11.less (Z := pq_vaI σ = 0) hN (by omega) (fun _ => ⟨ex.1.vt vs, ex.1.vt v, fun z => by rw [ex.1.q vs, ex.1.q v]; exact hz z⟩)) (fun r12 σ13 h13 => pq_Tot.ite1 cy (pq_Tot.nm ?_))
  obtain ⟨l1, l2, l3, l4, l5⟩ := h13
  generalize hσ14 : tM_M_toldUnchecked _ _ = σ14
  have f14 : pq_fr [] [35] σ13 σ14 := by rw [← hσ14]; exact pq_fr.t pq_fr.rf (by decide) _
  clear hσ14
  have q14 := l2.cell f14 (by decide) (by decide) (by decide) (by decide) (by decide) (by decide) (by decide) (by decide) (by decide) (by decide)
  have ex14 : pq_Ex σ11 σ14 := l3.1.tr q14.2.1
  have bg14 : pq_BG σ11 σ14 := l3.2.2.tr q14.2.2.1
  have fh14 : pq_fr pq_LH pq_AF σ11 σ14 := (l3.2.1.up (by decide) (by decide)).tr (f14.up (by decide) (by decide))
  have fe14 : pq_fr pq_LF pq_AF σ σ14 := (f.up (by decide) (by decide)).tr (fh14.up (by decide) (fun _ z => z))
  have e33 : σ14.2.1 33 = σ11.2.1 33 := (f14.2.1 33 (by decide)).trans (l3.2.1.2.1 33 (by decide))
  have e34 : σ14.2.1 34 = σ11.2.1 34 := (f14.2.1 34 (by decide)).trans (l3.2.1.2.1 34 (by decide))
  have he14 : pq_heI σ14 = pq_heI σ := by rw [← he11, ← l3.he]; show (σ14.1 17).toInt = _; rw [f14.1 17 (by decide)]; rfl
  have b14 : pq_bI σ11 ≤ pq_bI σ14 := bg14.1
  have z14 : pq_vaI σ = 0 → pq_bI σ14 = 0 := fun z => by rw [q14.2.2.2, l5 z, b11]; exact pq_hI.2.2.2.2.2.2.2.2.2.2.2 z
  have stop := done σ14 0 _ q14.1 ex14 fe14 fh14 (by decide) e33 e34 bg14 (by rw [he14]; omega) z14 (by rw [he14]; omega)
  have b153 : pq_Tot (M_M_formula_b153 N y5 σ14) (fun _ τ => pq_Wc (E + 8280000) cc τ) := by rw [M_M_formula_b153]; exact stop
  refine pq_Tot.ite (fun _ => b153) (fun n12 => ?_)
  have nf14 : ¬ pq_fl σ14 := by rw [pq_fl, show gM_M_full σ14 = gM_M_full σ13 from f14.1 2 (by decide)]; exact fun z => n12 (l4 z)
  by_cases va : pq_vaI σ = 0
  · rw [pq_hold_zero (by omega) (z14 va) (by rw [he14]; exact hhe.1)]
    refine pq_Tot.bd (P := fun r τ => r = 1 ∧ τ = σ14) (pq_Tot.ret ⟨rfl, rfl⟩) (fun r τ hr => ?_)
    rw [hr.1, hr.2]
    exact pq_Tot.ite2 (by decide) (done σ14 1 _ q14.1 ex14 fe14 fh14 (by decide) e33 e34 bg14 (by rw [he14]; omega) z14 (by rw [he14]; omega))
  · have va1 : 1 ≤ pq_vaI σ := by have := pq_hI.2.2.2.2.2.2.2.1; omega
    have hph : (K : Int) + 12200000 - pq_pr (pq_heI σ).toNat ≤ E := by
      rw [pq_Ph, if_pos va1, if_pos s0] at k2
      have a : (0 : Int) ≤ (if 1 ≤ pq_bI σ then (7500000 : Int) else 0) := by split <;> omega
      have b : (0 : Int) ≤ pq_RC * (pq_Us σ : Int) := Int.mul_nonneg (by decide) (by omega)
      omega
    have ho : pq_Ho (K + 780000 - pq_pr (pq_heI σ).toNat) σ14 := ⟨by rw [he14]; exact q14.1.le (by omega), by rw [he14]; exact hhe.1, by rw [he14]; omega⟩
    refine pq_Tot.bd (pq_hold_ok hN (by omega) ho nf14) (fun r17 σ18 h18 => ?_)
    obtain ⟨m1, m2, m3, m4⟩ := h18
    have fh18 : pq_fr pq_LH pq_AF σ11 σ18 := fh14.tr (m3.2.1.up (fun _ z => z) (by decide))
    have fe18 : pq_fr pq_LF pq_AF σ σ18 := fe14.tr (m3.2.1.up (by decide) (by decide))
    have d18 := fun s' => done σ18 s' _ m2.1 (ex14.tr m3.1) fe18 fh18 (by decide) ((m3.2.1.2.1 33 (by decide)).trans e33) ((m3.2.1.2.1 34 (by decide)).trans e34) (bg14.tr m3.2.2) m2.2 (fun z => absurd z va) (by omega)
    refine pq_Tot.ite (fun _ => ?_) (fun _ => d18 1)
    rw [M_M_formula_b153]; exact d18 0
set_option maxRecDepth 100000 in
theorem pq_formula_go (hN : 20002 ≤ N) (h : pq_Wc D cc σ) (hD : D + pq_CC + 3000 < 4294967296) (x s t : Int32) : pq_Go (D + pq_CC) cc (M_M_formula N x s t σ) := by
  rw [pq_Go, M_M_formula]
  have cn : pq_CC = 8372000 := rfl
  have w := h.le (show D ≤ D + pq_CC by omega)
  refine pq_Tot.ite (fun _ => pq_Tot.ret w) (fun _ => pq_Tot.ite (fun _ => pq_Tot.ret w) (fun _ => ?_))
  obtain ⟨pq_hI, ⟨K, k1, k2⟩, hcc⟩ := h
  have pn := pq_Ph_nn pq_hI
  have hv := pq_hI.2.2.2.2.2.2.2.1
  refine pq_Tot.bd (pq_isThere_ok (by omega) pq_hI.1 hv k1 (by omega) s) (fun r1 σ2 h2 => ?_)
  obtain ⟨a1, a2, ⟨K2, a3, a4⟩, a5⟩ := h2
  have ex2 := a2.ex (by decide)
  have nf2 : ¬ pq_fl σ2 := by rw [pq_fl, show gM_M_full σ2 = gM_M_full σ from a2.1 2 (by decide)]; exact pq_hI.2.2.2.2.1
  have q2 := pq_hI.easy (pq_Tb.ex ex2.1 ex2.2 pq_hI.1) ex2.1 a2 (by decide) (by decide) nf2
  have w2 : pq_Wc (D + pq_CC) cc σ2 := ⟨q2.1, ⟨K2, a4, by omega⟩, ex2.1.1.trans hcc⟩
  refine pq_Tot.ite (fun _ => pq_Tot.ret w2) (fun n1 => ?_)
  have va2 : pq_vaI σ2 = pq_vaI σ := (pq_frI a2).1 (by decide)
  have pn2 := pq_Ph_nn q2.1
  refine pq_Tot.bd (pq_isThere_ok (by omega) q2.1.1 (by rw [va2]; exact hv) a4 (by omega) t) (fun r3 σ4 h4 => ?_)
  obtain ⟨b1, b2, ⟨K4, b3, b4⟩, b5⟩ := h4
  have ex4 := b2.ex (by decide)
  have nf4 : ¬ pq_fl σ4 := by rw [pq_fl, show gM_M_full σ4 = gM_M_full σ2 from b2.1 2 (by decide)]; exact nf2
  have q4 := q2.1.easy (pq_Tb.ex ex4.1 ex4.2 q2.1.1) ex4.1 b2 (by decide) (by decide) nf4
  have w4 : pq_Wc (D + pq_CC) cc σ4 := ⟨q4.1, ⟨K4, b4, by omega⟩, ex4.1.1.trans (ex2.1.1.trans hcc)⟩
  have va4 : pq_vaI σ4 = pq_vaI σ2 := (pq_frI b2).1 (by decide)
  refine pq_Tot.ite (fun _ => pq_Tot.ret w4) (fun n3 => ?_)
  obtain ⟨vs2, os⟩ := a5 n1
  obtain ⟨vt2, ot⟩ := b5 n3
  have vs4 : pq_vt σ4 s.toInt := ex4.1.vt (ex2.1.vt vs2)
  have vt4 : pq_vt σ4 t.toInt := ex4.1.vt vt2
  have b53 : pq_Tot (M_M_formula_b53 N x s t σ4) (fun _ τ => pq_Wc (D + pq_CC) cc τ) := by
    refine (pq_formula_b53_go (E := D + 24) hN q4.1 (ex4.1.1.trans (ex2.1.1.trans hcc)) b4 (by omega) (by omega) vs4 vt4 (fun z => ⟨?_, ?_⟩)).mono (fun _ τ w => w.le (by omega))
    · rw [ex4.1.q (ex2.1.vt vs2), ex2.1.q vs2]
      exact pq_no_oc pq_hI.1 _ _ rfl vs2 (fun y p q => os y (by omega) q)
    · rw [ex4.1.q vt2]
      exact pq_no_oc q2.1.1 _ _ rfl vt2 (fun y p q => ot y (by omega) q)
  exact pq_Tot.ite (fun _ => b53) (fun _ => pq_Tot.ite1 (pq_ck_vt q4.1.1 vs4) (pq_Tot.ite (fun _ => pq_Tot.ret w4) (fun _ => pq_Tot.ite1 (pq_ck_vt q4.1.1 vt4) (pq_Tot.ite (fun _ => pq_Tot.ret w4) (fun _ => b53)))))
end FG
section RG
variable {N : Nat} {D : Int} {σ : SM}
set_option maxRecDepth 100000 in
theorem pq_resolve_go (hN : 20002 ≤ N) (h : pq_Wc D cc σ) (hD : D + pq_CC + 3000 < 4294967296) : pq_Go (D + pq_CC) cc (M_M_resolve N σ) := by
  rw [pq_Go, M_M_resolve]
  have cn : pq_CC = 8372000 := rfl
  have w := h.le (show D ≤ D + pq_CC by omega)
  obtain ⟨pq_hI, ⟨K, k1, k2⟩, hcc⟩ := h
  have pn := pq_Ph_nn pq_hI
  refine pq_Tot.ite (fun s0 => pq_Tot.bd (pq_begin_ok (-1) σ) (fun _ σ2 h2 => ?_)) (fun _ => pq_Tot.ret w)
  obtain ⟨f2, nf2, ic2⟩ := h2
  have ex := f2.ex (by decide)
  obtain ⟨w2, bg2, b2⟩ := pq_hI.wo k1 ex.1 ex.2 f2 (by decide) (by decide) (by decide) (by decide) (by decide) (by decide) (by decide) (by decide) ic2
  have q2 := pq_frI f2
  have va2 : pq_vaI σ2 = pq_vaI σ := q2.1 (by decide)
  have he2 : pq_heI σ2 = pq_heI σ := q2.2.2.1 (by decide)
  have hv := pq_hI.2.2.2.2.2.2.2.1
  have hhe := pq_hI.2.2.2.2.2.2.1
  have us2 : pq_Us σ2 ≤ pq_Us σ := pq_Us.g pq_hI.2.2.1 ex.1 bg2 va2
  have done : ∀ (σe : SM) (v1 : Int32) (B' : Int), pq_Wo B' σe → pq_Gz σ2 σe → 0 ≤ pq_heI σe ∧ pq_heI σe ≤ pq_bI σe → (pq_vaI σ = 0 → pq_bI σe = 0) → B' - pq_pr (pq_heI σe).toNat ≤ K + 780000 - pq_pr (pq_heI σ).toNat + pq_RC * (pq_Us σ : Int) → (¬ pq_fl σe → v1 ≠ 0 → B' - pq_pr (pq_heI σe).toNat + pq_RC * (pq_Us σe : Int) ≤ K + 780000 - pq_pr (pq_heI σ).toNat + pq_RC * (pq_Us σ : Int)) → pq_Tot (M_M_resolve_b162 N v1 σe) (fun _ τ => pq_Wc (D + pq_CC) cc τ) := fun σe v1 B' we gz he' hv0 hb1 hb2 => by
    rw [M_M_resolve_b162]
    refine pq_Tot.bd (pq_settle_ok v1 (-1) σe) (fun _ τ hτ => ?_)
    obtain ⟨fτ, nfτ, sτ⟩ := hτ
    have exτ := fτ.ex (by decide)
    have bgτ := pq_BG.fr fτ (by decide) (by decide) (by decide) (by decide)
    have qτ := pq_frI fτ
    have heτ : pq_heI τ = pq_heI σe := qτ.2.2.1 (by decide)
    have exσ : pq_Ex σ τ := (ex.1.tr gz.1).tr exτ.1
    obtain ⟨K', k3, k4⟩ := we.2.2.2.1
    have ice := we.2.2.2.2.1
    have fz := pq_frI gz.2.1
    have tdτ : pq_tdI τ = pq_tdI σ := (qτ.2.2.2.1 (by decide)).trans ((fz.2.2.2.1 (by decide)).trans (q2.2.2.2.1 (by decide)))
    have hIτ := pq_hI.fin (τ := τ) (pq_Tb.ex exτ.1 exτ.2 we.1) exσ (((f2.up (by decide) (by decide)).tr (gz.2.1.up (by decide) (by decide))).tr (fτ.up (by decide) (by decide))) (we.2.2.1.ex exτ.1 bgτ.1 bgτ.2) ((bg2.tr gz.2.2).tr bgτ.1) (by rw [qτ.2.2.2.2.2.1 (by decide)]; exact ice) (by rw [heτ, bgτ.2]; exact he') nfτ (by rw [tdτ]; exact pq_hI.2.2.2.2.2.2.2.2.1) (fun i hi => by
      rw [tdτ] at hi
      rw [qτ.2.2.2.2.2.2.1 (by decide), qτ.2.2.2.2.2.2.2 (by decide), fz.2.2.2.2.2.2.1 (by decide), fz.2.2.2.2.2.2.2 (by decide), q2.2.2.2.2.2.2.1 (by decide), q2.2.2.2.2.2.2.2 (by decide)]
      have q := pq_hI.2.2.2.2.2.2.2.2.2.1 i hi
      exact ⟨exσ.vt q.1, exσ.vt q.2⟩) (fun z => by rw [bgτ.2]; exact hv0 z)
    have usτ : pq_Us τ ≤ pq_Us σe := pq_Us.g we.2.2.1 exτ.1 bgτ.1 (qτ.1 (by decide))
    have wτ : pq_Wc (D + pq_CC) cc τ := by
      refine (pq_Wc.fin pq_hI s0 k2 hIτ.1 hIτ.2.1 hIτ.2.2 (exσ.1.trans hcc) (k4.fr fτ (by decide) (by decide)) rfl ?_).le (show D + 8280000 ≤ D + pq_CC by omega)
      rw [heτ]
      by_cases st : gM_M_state τ = 0
      · rw [if_pos st]
        have hb := hb2 (sτ st).1 (sτ st).2
        have r : pq_RC * (pq_Us τ : Int) ≤ pq_RC * (pq_Us σe : Int) := Int.mul_le_mul_of_nonneg_left (by omega) (by decide)
        omega
      · rw [if_neg st]; omega
    exact pq_Tot.ite (fun _ => pq_Tot.ret wτ) (fun _ => pq_Tot.ret wτ)
  by_cases va : pq_vaI σ = 0
  ·
    have u0 : pq_Us σ2 = 0 := pq_us0 (by rw [va2]; exact va)
    have z1 : pq_bI σ2 = 0 := by rw [b2]; exact pq_hI.2.2.2.2.2.2.2.2.2.2.2 va
    have r0 : (0 : Int) ≤ pq_RC * (pq_Us σ : Int) := Int.mul_nonneg (by decide) (by omega)
    have fin := done σ2 1 _ w2 pq_Gz.rf (by rw [he2, b2]; exact hhe) (fun _ => z1) (by rw [he2]; omega) (fun _ _ => by rw [he2, u0]; omega)
    have le0 : gM_M_variables σ2 ≤ 0 := by
      rw [pq_iv_le, pq_iv_0]
      have : (gM_M_variables σ2).toInt = pq_vaI σ2 := rfl
      omega
    have L75 : ∀ m, 0 < m → pq_Tot (M_M_resolve_L75 N (M_M_resolve_b139 N (M_M_resolve_b144 N) (M_M_resolve_L16 N (M_M_resolve_b162 N) (M_M_resolve_b144 N) (N - 1))) m 1 (-1) 99 0 σ2) (fun _ τ => pq_Wc (D + pq_CC) cc τ) := fun m hm => by
      obtain ⟨k, rfl⟩ : ∃ k, m = k + 1 := ⟨m - 1, by omega⟩
      rw [M_M_resolve_L75]
      refine pq_Tot.ite1 le0 ?_
      rw [M_M_resolve_b139]
      refine pq_Tot.ite1 rfl ?_
      rw [M_M_resolve_b144]; exact fin
    have L35 : ∀ m, 0 < m → pq_Tot (M_M_resolve_L35 N (M_M_resolve_b72 N (M_M_resolve_b144 N) (M_M_resolve_L16 N (M_M_resolve_b162 N) (M_M_resolve_b144 N) (N - 1))) m 1 (-1) 99 0 σ2) (fun _ τ => pq_Wc (D + pq_CC) cc τ) := fun m hm => by
      obtain ⟨k, rfl⟩ : ∃ k, m = k + 1 := ⟨m - 1, by omega⟩
      rw [M_M_resolve_L35]
      refine pq_Tot.ite1 le0 ?_
      rw [M_M_resolve_b72]
      exact L75 N (by omega)
    have key : pq_Tot (M_M_resolve_L16 N (M_M_resolve_b162 N) (M_M_resolve_b144 N) (N - 1 + 1) 1 σ2) (fun _ τ => pq_Wc (D + pq_CC) cc τ) := by
      rw [M_M_resolve_L16]
      exact pq_Tot.ite2 (by decide) (pq_Tot.ite1 (Classical.byContradiction nf2) (L35 N (by omega)))
    rw [show N - 1 + 1 = N by omega] at key
    exact key
  · have va1 : 1 ≤ pq_vaI σ := by omega
    have hph : (K : Int) + 12200000 - pq_pr (pq_heI σ).toNat + pq_RC * (pq_Us σ : Int) ≤ D := by
      rw [pq_Ph, if_pos va1, if_pos s0] at k2
      have a : (0 : Int) ≤ (if 1 ≤ pq_bI σ then (7500000 : Int) else 0) := by split <;> omega
      omega
    have ho : pq_Ho (K + 780000 - pq_pr (pq_heI σ).toNat) σ2 := ⟨by rw [he2]; exact w2.le (by omega), by rw [he2]; exact hhe.1, by rw [he2, b2]; exact hhe.2⟩
    have rr : pq_RC * (pq_Us σ2 : Int) ≤ pq_RC * (pq_Us σ : Int) := Int.mul_le_mul_of_nonneg_left (by omega) (by decide)
    have r0 : (0 : Int) ≤ pq_RC * (pq_Us σ : Int) := Int.mul_nonneg (by decide) (by omega)
    refine pq_re_L16 (C0 := K + 780000 - pq_pr (pq_heI σ).toNat + pq_RC * (pq_Us σ : Int)) (σ0 := σ2) hN (by omega) (by rw [va2]; exact hv) (fun σ' v1 C hC gz hz hC0 hU hf => ?_) N 1 σ2 _ ho pq_Gz.rf (Or.inr rfl) (by omega) (fun _ => by omega) (fun z => absurd z nf2) (by have := pq_uc_le12 (fun x => (x : Int) < pq_vaI σ2 ∧ ¬ pq_Setd σ2 x) 12; rw [pq_Us]; omega)
    have fin := done σ' v1 _ hC.1 gz hC.2 (fun z => absurd z va) (by omega) (fun a b => by have := hU a b; omega)
    exact ⟨fin, by rw [M_M_resolve_b144]; exact fin⟩
end RG
