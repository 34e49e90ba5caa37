def pq_Abv (σ : SM) (K : Nat) (t : Int) (g : Nat) (r : Int32) (τ : SM) : Prop :=
  pq_Tb τ ∧ pq_Ex σ τ ∧ pq_fr pq_LA pq_AA σ τ ∧ (∃ K', K' ≤ K + (39 - g) ∧ pq_Sn K' τ) ∧ (pq_fl τ → r = -1) ∧
  (¬ pq_fl τ → (pq_fnd σ t g → pq_vt τ r.toInt ∧ (pq_kI τ r.toInt.toNat = 0 ∨ pq_kI τ r.toInt.toNat = 1) ∧ pq_oI τ r.toInt.toNat = g ∧ (pq_qI σ t.toNat = 1 → pq_qI τ r.toInt.toNat = 1)) ∧ (¬ pq_fnd σ t g → r = -1))
set_option maxRecDepth 100000 in
theorem pq_plain_q {τ : SM} (h : pq_Tb τ) {r : Int} (v : pq_vt τ r) (k : pq_kI τ r.toNat = 0) : pq_qI τ r.toNat = 1 := by
  refine (h.pk v).one.2 ?_
  rw [k]
  exact ⟨by decide, fun e => absurd e (by decide), fun e => absurd e (by decide), fun e => absurd e (by decide), fun e => absurd e (by decide)⟩
section A1
variable {N : Nat} {v1 v2 : Int32} {g K : Nat} {σ0 : SM}
set_option maxRecDepth 100000 in
theorem pq_ab_b356 (hN : 501 ≤ N) (hT : pq_Tb σ0) (hf : ¬ pq_fl σ0) (v : pq_vt σ0 v1.toInt) (h2 : v2.toInt = g) (hK : pq_Sn K σ0) (no : ¬ pq_fc σ0 v1.toInt g) {σ : SM} (f : pq_fr [6] [18, 19, 20] σ0 σ) : pq_Tot (M_M_aboveOf_b356 N v1 v2 σ) (pq_Abv σ0 K v1.toInt g) := by
  rw [M_M_aboveOf_b356]
  have ex := pq_stk_ex f
  have hT' : pq_Tb σ := pq_Tb.ex ex.1 ex.2 hT
  have hf' : ¬ pq_fl σ := by rw [pq_fl, show gM_M_full σ = gM_M_full σ0 from f.1 2 (by decide)]; exact hf
  have f0 : gM_M_full σ = 0 := Classical.byContradiction hf'
  have f' : pq_fr pq_LA pq_AA σ0 σ := f.up (by decide) (by decide)
  have hK' : pq_Sn K σ := hK.fr f (by decide) (by decide)
  have kk : (aM_M_kind σ v1.toNatClampNeg).toInt = pq_kI σ0 v1.toInt.toNat := ex.1.k v
  refine pq_Tot.ite1 f0 (pq_Tot.ite (fun e => pq_Tot.ite1 (pq_ck_vt hT' (ex.1.vt v)) (pq_Tot.ite (fun e5 => pq_Tot.ret ?_) (fun e5 => pq_Tot.bd (pq_plainOf_ok hN hT' (fun _ => ?_)) (fun r τ hr => pq_Tot.ret ?_)))) (fun e => pq_Tot.ret ?_))
  · refine ⟨hT', ex.1, f', ⟨K, by omega, hK'⟩, fun _ => rfl, fun _ => ⟨fun z => ?_, fun _ => rfl⟩⟩
    rcases z with z | z
    · exact absurd (by rw [← kk, e5]; rfl) z.2
    · exact absurd z no
  · rw [pq_iv_0]; have := hT'.1; omega
  · refine ⟨hr.1, ex.1.tr hr.2.1, f'.tr (hr.2.2.1.up (by decide) (by decide)), ⟨K, by omega, hK'.fr hr.2.2.1 (by decide) (by decide)⟩, hr.2.2.2.1, fun nf => ⟨fun _ => ?_, fun z => ?_⟩⟩
    · have m := hr.2.2.2.2 nf
      have g0 : (g : Int) = 0 := by rw [← h2, e]; rfl
      refine ⟨m.2.1, Or.inl m.2.2.1, by rw [m.2.2.2.1, g0]; rfl, fun _ => pq_plain_q hr.1 m.2.1 m.2.2.1⟩
    · refine absurd (Or.inl ⟨?_, fun y => e5 (pq_iv_eq.2 (by rw [kk, y]; rfl))⟩) z
      have := pq_eqI e; rw [h2, pq_iv_0] at this; omega
  · refine ⟨hT', ex.1, f', ⟨K, by omega, hK'⟩, fun _ => rfl, fun _ => ⟨fun z => ?_, fun _ => rfl⟩⟩
    rcases z with z | z
    · exact absurd (pq_iv_eq.2 (by rw [h2, z.1]; rfl)) e
    · exact absurd z no
set_option maxRecDepth 100000 in
theorem pq_ab_L12e (hN : 501 ≤ N) (hT : pq_Tb σ0) (hf : ¬ pq_fl σ0) (v : pq_vt σ0 v1.toInt) (h2 : v2.toInt = g) (hK : pq_Sn K σ0) (no : ¬ pq_fc σ0 v1.toInt g) {σ : SM} (f : pq_fr [6] [18, 19, 20] σ0 σ) (ha : (gM_M_aboves σ).toInt = 0) {n : Nat} (hn : 0 < n) : pq_Tot (M_M_aboveOf_L12 N (M_M_aboveOf_b356 N) n v1 v2 σ) (pq_Abv σ0 K v1.toInt g) := by
  obtain ⟨n, rfl⟩ : ∃ m, n = m + 1 := ⟨n - 1, by omega⟩
  rw [M_M_aboveOf_L12]
  exact pq_Tot.ite1 (by rw [pq_iv_le, ha, pq_iv_0]; omega) (pq_ab_b356 hN hT hf v h2 hK no f)
set_option maxRecDepth 100000 in
theorem pq_ab_ph1 (hN : 3000 ≤ N) (hT : pq_Tb σ0) (hP : pq_Pb σ0) (hf : ¬ pq_fl σ0) (v : pq_vt σ0 v1.toInt) (h2 : v2.toInt = g) (hg : (g : Int) < pq_cI σ0) (hK : pq_Sn K σ0) (hK2 : K + 41 < 4294967296) :
    ∀ (n : Nat) (σ : SM) (t : Int), pq_fr [6] [18, 19, 20] σ0 σ → (gM_M_aboves σ).toInt = 1 → pq_bF σ 0 = 0 → pq_bT σ 0 = t → pq_vt σ0 t → (pq_fc σ0 v1.toInt g ↔ pq_fc σ0 t g) → (pq_qI σ0 v1.toInt.toNat = 1 → pq_qI σ0 t.toNat = 1) → pq_dI σ0 t.toNat + 41 < n →
      pq_Tot (M_M_aboveOf_L12 N (M_M_aboveOf_b356 N) n v1 v2 σ) (pq_Abv σ0 K v1.toInt g) := by
  have g40 : g < 40 := by have := hT.2.1; omega
  intro n
  induction n with
  | zero => intro σ t _ _ _ _ vt' _ _ h; have := (hT.ok vt').2.1; omega
  | succ n ih =>
    intro σ t f ha hF hTt vt' hfc hq hn
    have dt := (hT.ok vt').2.1
    rw [M_M_aboveOf_L12]
    have f0 : gM_M_full σ = 0 := by rw [show gM_M_full σ = gM_M_full σ0 from f.1 2 (by decide)]; exact Classical.byContradiction hf
    refine pq_Tot.ite2 (by rw [pq_iv_le, ha, pq_iv_0]; omega) (pq_Tot.ite1 f0 (pq_Tot.nm ?_))
    have am : (gM_M_aboves σ - 1).toInt = 0 := by rw [pq_iv_sub (by rw [ha, pq_iv_1]; omega) (by rw [ha, pq_iv_1]; omega), ha, pq_iv_1]; rfl
    generalize hσ4 : sM_M_aboves σ (gM_M_aboves σ - 1) = σ4
    have f4 : pq_fr [6] [18, 19, 20] σ0 σ4 := by rw [← hσ4]; exact pq_fr.s f (by decide) _
    have ex := pq_stk_ex f4
    have hT4 : pq_Tb σ4 := pq_Tb.ex ex.1 ex.2 hT
    have hP4 : pq_Pb σ4 := hP.fr ex.1 f4 (by decide) (by decide)
    have hf4 : gM_M_full σ4 = 0 := by rw [← hσ4]; exact f0
    have a4 : (gM_M_aboves σ4).toInt = 0 := by rw [← hσ4]; exact am
    have a4n : (gM_M_aboves σ4).toNatClampNeg = 0 := by show (gM_M_aboves σ4).toInt.toNat = 0; rw [a4]; rfl
    have c4 : ck (gM_M_aboves σ4) 2000 = true := pq_ck_mk (by omega) (by omega)
    have eF : aM_M_aboveFlag σ4 (gM_M_aboves σ4).toNatClampNeg = 0 := by rw [a4n, ← hσ4]; exact hF
    have eT : (aM_M_aboveType σ4 (gM_M_aboves σ4).toNatClampNeg).toInt = t := by rw [a4n, ← hσ4]; exact hTt
    refine pq_Tot.ite1 c4 (pq_Tot.nm (pq_Tot.ite1 c4 (pq_Tot.nm ?_)))
    rw [eF]
    refine pq_Tot.ite2 (by decide) (pq_Tot.ite2 (by decide) ?_)
    generalize aM_M_aboveType σ4 (gM_M_aboves σ4).toNatClampNeg = y at eT
    subst eT
    have vy : pq_vt σ4 y.toInt := ex.1.vt vt'
    have cy := pq_ck_vt hT4 vy
    have kk : (aM_M_kind σ4 y.toNatClampNeg).toInt = pq_kI σ0 y.toInt.toNat := ex.1.k vt'
    have none' : ¬ pq_fc σ0 y.toInt g → ∀ σ', pq_fr [6] [18, 19, 20] σ0 σ' → (gM_M_aboves σ').toInt = 0 → pq_Tot (M_M_aboveOf_L12 N (M_M_aboveOf_b356 N) n v1 v2 σ') (pq_Abv σ0 K v1.toInt g) := fun no σ' f' a' => pq_ab_L12e (by omega) hT hf v h2 hK (fun z => no (hfc.1 z)) f' a' (by omega)
    rw [M_M_aboveOf_b106]
    refine pq_Tot.ite1 hf4 (pq_Tot.ite1 cy (pq_Tot.ite (fun e8 => pq_Tot.ite1 cy ?_) (fun e8 => pq_Tot.ite1 cy ?_)))
    ·
      have k8 : pq_kI σ0 y.toInt.toNat = 8 := by rw [← kk, e8]; rfl
      have cc := pq_cw_ok hT vt' k8
      have eo : (aM_M_one σ4 y.toNatClampNeg).toInt = pq_oI σ0 y.toInt.toNat := ex.1.o vt'
      have co : ck (aM_M_one σ4 y.toNatClampNeg) 500 = true := pq_ck_vt hT4 (by rw [eo]; exact ex.1.vt cc.1)
      have step : ∀ s : Int32, s.toInt = pq_cw σ0 y.toInt → pq_Tot (M_M_aboveOf_b160 N (M_M_aboveOf_L12 N (M_M_aboveOf_b356 N) n) v1 v2 s σ4) (pq_Abv σ0 K v1.toInt g) := fun s hs => by
        rw [M_M_aboveOf_b160]
        have vs : pq_vt σ4 s.toInt := by rw [hs]; exact ex.1.vt cc.2.2.1
        have cs := pq_ck_vt hT4 vs
        have os : (aM_M_one σ4 s.toNatClampNeg).toInt = pq_oI σ0 (pq_cw σ0 y.toInt).toNat := by rw [← hs]; exact ex.1.o (by rw [hs]; exact cc.2.2.1)
        have ws : (aM_M_two σ4 s.toNatClampNeg).toInt = pq_wI σ0 (pq_cw σ0 y.toInt).toNat := by rw [← hs]; exact ex.1.w (by rw [hs]; exact cc.2.2.1)
        refine pq_Tot.ite1 cs (pq_Tot.ite (fun e1 => pq_Tot.ite1 cs (pq_Tot.bd (pq_push_ok (a := 0) a4 (by omega) _ _ _) (fun _ τ hp => ?_))) (fun e1 => ?_))
        · have o1 : pq_oI σ0 (pq_cw σ0 y.toInt).toNat = 1 := by rw [← os, e1]; rfl
          have wd := cc.2.2.2.2.1 (by omega)
          rw [M_M_aboveOf_b186, M_M_aboveOf_b353]
          refine ih τ (pq_wI σ0 (pq_cw σ0 y.toInt).toNat) (f4.tr hp.1) hp.2.1 hp.2.2.2.2 (hp.2.2.1.trans ws) wd.1 (hfc.trans ?_) (fun z => ?_) (by omega)
          · rw [pq_fc_cap k8]; exact ⟨fun z => z.2, fun z => ⟨o1, z⟩⟩
          · have := cc.2.2.2.2.2 (hq z)
            exact ((hT.pk cc.2.2.1).one.1 this).2.2.1 cc.2.2.2.1 (by omega)
        · rw [M_M_aboveOf_b186, M_M_aboveOf_b353]
          refine none' (fun z => ?_) σ4 f4 a4
          rw [pq_fc_cap k8] at z
          exact e1 (pq_iv_eq.2 (by rw [os, z.1]; rfl))
      have et : (aM_M_two σ4 y.toNatClampNeg).toInt = pq_wI σ0 y.toInt.toNat := ex.1.w vt'
      refine pq_Tot.ite (fun e0 => pq_Tot.ite1 cy (pq_Tot.ite1 co (step _ ?_))) (fun e0 => pq_Tot.ite1 cy (pq_Tot.ite1 co (step _ ?_)))
      · rw [pq_cw, if_pos (by rw [← et, e0]; rfl), ← eo]
        exact ex.1.w (by rw [eo]; exact cc.1)
      · rw [pq_cw, if_neg (fun z => e0 (pq_iv_eq.2 (by rw [et, z]; rfl))), ← eo]
        exact ex.1.h (by rw [eo]; exact cc.1)
    ·
      have cls : pq_kI σ0 y.toInt.toNat = 0 ∨ pq_kI σ0 y.toInt.toNat = 1 → pq_Tot (M_M_aboveOf_b208 N (M_M_aboveOf_L12 N (M_M_aboveOf_b356 N) n) v1 v2 y σ4) (pq_Abv σ0 K v1.toInt g) := fun k01 => by
        have o := (hT.ok vt').1
        have ob : 0 ≤ pq_oI σ0 y.toInt.toNat ∧ pq_oI σ0 y.toInt.toNat < pq_cI σ0 := by
          rcases k01 with k | k
          · exact o.1 k
          · have := o.2.1 k; exact ⟨by omega, this.2.1⟩
        have c40 : (pq_oI σ0 y.toInt.toNat).toNat < 40 := by have := hT.2.1; omega
        have oc : pq_oI σ4 y.toInt.toNat = ((pq_oI σ0 y.toInt.toNat).toNat : Nat) := by rw [ex.1.o vt']; omega
        have fce := hfc.trans (pq_fc_base (g := g) k01)
        have r4 : pq_rch σ4 (pq_oI σ0 y.toInt.toNat).toNat g ↔ pq_rch σ0 (pq_oI σ0 y.toInt.toNat).toNat g := by
          rw [pq_rch, pq_rch, show aM_M_upward σ4 = aM_M_upward σ0 by show σ4.2.2 0 = _; rw [f4.2.2]]
        have f4' : pq_fr pq_LA pq_AA σ0 σ4 := f4.up (by decide) (by decide)
        by_cases hr : pq_rch σ0 (pq_oI σ0 y.toInt.toNat).toNat g
        · have hfnd : pq_fnd σ0 v1.toInt g := Or.inr (fce.2 hr)
          refine pq_ab_b208 (Z := pq_qI σ0 v1.toInt.toNat = 1) (a := 0) (c := (pq_oI σ0 y.toInt.toNat).toNat) (g := g) (by omega) hT4 hP4 vy oc c40 (r4.2 hr) h2 g40 a4 (by omega) (fun z => by rw [ex.1.q vt']; exact hq z) (fun e => ?_) (fun σ' a' f' t' => ?_)
          · refine ⟨hT4, ex.1, f4', ⟨K, by omega, hK.fr f4 (by decide) (by decide)⟩, fun z => absurd hf4 z, fun _ => ⟨fun _ => ⟨vy, by rw [ex.1.k vt']; exact k01, by rw [oc, e], fun z => by rw [ex.1.q vt']; exact hq z⟩, fun z => absurd hfnd z⟩⟩
          · have e' := pq_stk_ex f'
            have fa := f4.tr f'
            have q := pq_ab_L12 (Z := pq_qI σ0 v1.toInt.toNat = 1) (k356 := M_M_aboveOf_b356 N) (v1 := v1) hN h2 g40 n σ' a' _ K (pq_Tb.ex e'.1 e'.2 hT4) (hP4.fr e'.1 f' (by decide) (by decide)) (by rw [pq_fl, show gM_M_full σ' = gM_M_full σ4 from f'.1 2 (by decide)]; exact fun z => z hf4) t' ((hK.fr f4 (by decide) (by decide)).fr f' (by decide) (by decide)) (by omega) (by omega)
            refine q.mono (fun r υ hr => ?_)
            obtain ⟨x1, x2, x3, ⟨K'', x4, x5⟩, x6, x7⟩ := hr.pre (ex.1.tr e'.1) (fa.up (by decide) (by decide))
            exact ⟨x1, x2, x3, ⟨K'', by omega, x5⟩, x6, fun nf => ⟨fun _ => x7 nf, fun z => absurd hfnd z⟩⟩
        · rw [M_M_aboveOf_b208]
          have e1 : (aM_M_one σ4 y.toNatClampNeg).toInt = ((pq_oI σ0 y.toInt.toNat).toNat : Nat) := oc
          have e1n : (aM_M_one σ4 y.toNatClampNeg).toNatClampNeg = (pq_oI σ0 y.toInt.toNat).toNat := by show (aM_M_one σ4 y.toNatClampNeg).toInt.toNat = _; rw [e1]; rfl
          refine pq_Tot.ite1 cy (pq_Tot.nm (pq_Tot.ite2 (fun e => hr (Or.inl ?_)) (pq_Tot.ite1 (pq_ck_mk (by omega) (by omega)) (pq_Tot.nm ?_))))
          · have := pq_eqI e; omega
          · rw [e1n]
            have m := pq_pm_sub hP4 c40
            have pq_pc := hP4.1 _ c40
            refine pq_ab_L235n (k353 := M_M_aboveOf_b353 N (M_M_aboveOf_L12 N (M_M_aboveOf_b356 N) n)) hT4 hP4 e1 c40 h2 g40 (by rw [M_M_aboveOf_b353]; exact none' (fun z => hr ((pq_fc_base k01).1 z)) σ4 f4 a4) (fun k hk z => hr (r4.1 ?_)) N _ (by omega) (by omega) (by omega)
            have hh := hP4.2.1
            exact pq_PbUp hP4 c40 hk z
      refine pq_Tot.ite (fun e0 => cls (Or.inl (by rw [← kk, e0]; rfl))) (fun e0 => pq_Tot.ite1 cy (pq_Tot.ite (fun e1 => cls (Or.inr (by rw [← kk, e1]; rfl))) (fun e1 => ?_)))
      rw [M_M_aboveOf_b353]
      refine none' (pq_fc_no (fun z => e0 (pq_iv_eq.2 (by rw [kk, z]; rfl))) (fun z => e1 (pq_iv_eq.2 (by rw [kk, z]; rfl))) (fun z => e8 (pq_iv_eq.2 (by rw [kk, z]; rfl)))) σ4 f4 a4
end A1
