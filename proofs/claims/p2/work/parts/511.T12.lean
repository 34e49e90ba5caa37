variable {Z : Prop}
set_option maxRecDepth 100000 in
theorem pq_replaced_L32 {σ0 : SM} {ty : Int} {N : Nat} {ow : Int32} (hN : 501 ≤ N) (hT : pq_Tb σ0) (ho : pq_OwOk Z σ0 ow) : ∀ n, pq_LpR Z σ0 ty N ow n := by
  intro n
  induction n with
  | zero => intro m q f v3 v4 v5 σ _ _ _ h; omega
  | succ n ih =>
    intro m q f v3 v4 v5 σ h h3 hv hn
    have m20 := h.m20 hT
    rw [M_M_replaced_L32]
    refine pq_Tot.ite (fun z => ?_) (fun z => pq_Tot.ite (fun ef => pq_Tot.nm ?_) (fun ef => pq_rp_end h (fun y => absurd ef (fun w => y w))))
    · rw [pq_iv_le, pq_iv_0] at z
      refine pq_rp_end h (fun nf => ?_)
      rcases hv with hv | hv
      · omega
      · exact (hv.2.2 nf).1 (by omega)
    rw [pq_iv_le, pq_iv_0] at z
    have nf : ¬ pq_fl σ := fun w => w ef
    obtain ⟨p, rfl⟩ : ∃ p, m = p + 1 := ⟨m - 1, by omega⟩
    have e3 := pq_v3m h3 (by omega)
    have c4 : ck (v3 - 1) 64 = true := pq_ck_mk (by rw [e3.1]; omega) (by rw [e3.1]; omega)
    have c3 : ck v3 64 = true := pq_ck_mk (by rw [h3]; omega) (by rw [h3]; omega)
    have vp := h.vt (i := p) (by omega)
    have y5 : (aM_M_workType σ (v3 - 1).toNatClampNeg).toInt = pq_wT σ p := by rw [e3.2.1]
    have v5v : pq_vt σ0 (aM_M_workType σ (v3 - 1).toNatClampNeg).toInt := by rw [y5]; exact vp
    have cv := pq_ck_vt hT v5v
    have e5 : (aM_M_workType σ (v3 - 1).toNatClampNeg).toNatClampNeg = (pq_wT σ p).toNat := by rw [e3.2.1]; rfl
    refine pq_Tot.ite1 c4 (pq_Tot.nm (pq_Tot.ite (fun e0 => ?_) (fun n0 => ?_)))
    ·
      rcases hv with hv | hv
      · obtain rfl : q = p := by omega
        rw [if_pos e0] at hn
        subst e0
        refine pq_Tot.ite1 cv (pq_Tot.ite (fun es => pq_Tot.ite1 cv ?_) (fun es => ?_))
        · refine pq_rp_b93 ih hT h h3 rfl y5 (fun _ => Or.inr ?_) (by omega)
          rw [e5, h.lk] at es
          have := h.2.2.2.2.2.2.2.2.2.2.1 (pq_wT σ q).toNat (pq_tn_lt vp.1 vp.2) es
          rw [show (((pq_wT σ q).toNat : Nat) : Int) = pq_wT σ q by have := vp.1; omega] at this
          rw [e5]
          exact ⟨pq_ne_m1 this.1.1, this⟩
        · rw [e5, h.lk] at es
          have v' : pq_vt σ (aM_M_workType σ (v3 - 1).toNatClampNeg).toInt := h.e.vt v5v
          refine pq_Tot.bd (pq_inPlaceOf_ok hN h.1 v' (ho.ex h.e (h.fr.2.1 15 (by decide)))) (fun r τ hl => ?_)
          have g := h.grow hl.1 hl.2.1 hl.2.2.1
          have wt : aM_M_workType τ = aM_M_workType σ := hl.2.2.1.2.1 12 (by decide)
          have ws : aM_M_workStage τ = aM_M_workStage σ := hl.2.2.1.2.1 13 (by decide)
          have sn : aM_M_seen τ = aM_M_seen σ := hl.2.2.1.2.1 17 (by decide)
          refine pq_rp_b93 ih hT g h3 rfl (by rw [pq_wT, wt]; exact y5) (fun nf' => ?_) (by rw [ws]; omega)
          have q := (hl.2.2.2 nf').2
          rw [y5] at q
          rw [pq_wT, wt]
          rcases q with q | q
          · exact Or.inl ⟨q.1, pq_inn.of h.e vp q.2, by rw [sn]; exact es⟩
          · exact Or.inr ⟨q.1, pq_PP.of hT h.e vp q.2⟩
      · exact absurd (e0.symm.trans hv.1) (by decide)
    ·
      rcases hv with hv | hv
      · exact absurd hv.1 n0
      · obtain ⟨rfl, e, hr⟩ := hv
        obtain rfl : q = p + 1 := e.symm
        have hr' := (hr nf).2 (by omega)
        rw [show p + 1 - 1 = p by omega] at hr'
        rw [if_neg (by decide)] at hn
        have k5 : (aM_M_kind σ (aM_M_workType σ (v3 - 1).toNatClampNeg).toNatClampNeg).toInt = pq_kI σ0 (pq_wT σ p).toNat := by rw [e5]; exact h.e.k vp
        have h5 : (aM_M_three σ (aM_M_workType σ (v3 - 1).toNatClampNeg).toNatClampNeg).toInt = pq_hI σ0 (pq_wT σ p).toNat := by rw [e5]; exact h.e.h vp
        have fin : (pq_wS σ p ≠ 1 → pq_kI σ0 (pq_wT σ p).toNat = 1 → pq_hI σ0 (pq_wT σ p).toNat = -1) → pq_Tot (M_M_replaced_b219 N (M_M_replaced_L32 N (M_M_replaced_b365 N) n) ow v3 v4 1 (v3 - 1) (aM_M_workType σ (v3 - 1).toNatClampNeg) σ) (pq_Rp Z σ0 ty) := fun hs =>
          pq_rp_b219 hN ih hT h h3 e3.2.1 c4 y5 hr' hs (by omega)
        refine pq_Tot.ite1 cv (pq_Tot.ite (fun e1 => pq_Tot.ite1 c4 (pq_Tot.ite (fun es => pq_Tot.ite1 cv (pq_Tot.ite (fun et => ?_) (fun et => ?_))) (fun es => ?_))) (fun n1 => ?_))
        · exact fin (fun _ _ => by rw [← h5, et]; rfl)
        · have k1 : pq_kI σ0 (pq_wT σ p).toNat = 1 := by rw [← k5]; exact pq_eqI e1
          have hz : 0 ≤ pq_hI σ0 (pq_wT σ p).toNat := hT.hn vp k1 (fun z => et (pq_iv_eq.2 (by rw [h5, z]; rfl)))
          rw [e3.2.1] at es
          refine pq_Tot.ite1 c4 (pq_Tot.nm (pq_Tot.ite1 c4 (pq_Tot.nm (pq_Tot.ite1 cv (pq_Tot.ite1 c3 (pq_Tot.nm (pq_Tot.nm ?_)))))))
          rw [M_M_replaced_b362, e3.2.1, e3.2.2.2.2]
          refine ih (p + 2) (p + 1) f (v3 + 1) v4 0 _ (h.second hT es k1 hz hr' (x := aM_M_three σ (aM_M_workType σ p).toNatClampNeg) (by rw [← h5, e3.2.1])) e3.2.2.2.1 (Or.inl ⟨rfl, rfl⟩) ?_
          rw [if_pos rfl]
          show 5 * pq_un f (gM_M_looks σ0) 500 + pq_sw (upd (aM_M_workStage σ) p 1) (p + 1) + 1 < n
          have s1 : pq_sw (upd (aM_M_workStage σ) p 1) (p + 1) = pq_sw (aM_M_workStage σ) p + 1 := by rw [pq_sw, pq_sw_out p (Nat.le_refl _), pq_upd_eq, if_pos rfl]
          rw [pq_sw, if_neg (by rw [es]; decide)] at hn
          omega
        · refine fin (fun ne _ => ?_)
          rcases (h.2.2.2.2.2.2.1 p (by omega)).2.1 with y | y
          · exact absurd (by rw [e3.2.1]; exact y) es
          · exact absurd y.1 ne
        · exact fin (fun _ k1 => absurd (pq_iv_eq.2 (by rw [k5, k1]; rfl)) n1)
abbrev pq_LR : List Nat := [1, 2, 5]
def pq_Rr (Z : Prop) (σ : SM) (K : Nat) (ty : Int) (r : Int32) (τ : SM) : Prop :=
  pq_Tb τ ∧ pq_Ex σ τ ∧ pq_fr pq_LR pq_AR σ τ ∧ (pq_fl τ → r = -1) ∧ (¬ pq_fl τ → ¬ pq_fl σ ∧ pq_PP Z σ τ ty r.toInt) ∧ pq_Sn (K + 1) τ
set_option maxRecDepth 100000 in
theorem pq_ofNat_inj {a b : Nat} (ha : a < 4294967296) (hb : b < 4294967296) (h : Int32.ofNat a = Int32.ofNat b) : a = b := by
  have h := congrArg (fun x : Int32 => x.toUInt32.toNat) h
  simp only [Int32.toUInt32_ofNat', UInt32.toNat_ofNat'] at h
  omega
set_option maxRecDepth 100000 in
theorem pq_replaced_ok {σ : SM} {N : Nat} {ow t : Int32} (hN : 3000 ≤ N) (hT : pq_Tb σ) (hf : ¬ pq_fl σ) (ho : pq_OwOk Z σ ow) (v : pq_vt σ t.toInt) {K : Nat} (hK : pq_Sn K σ) (hK2 : K + 1 < 4294967296) : pq_Tot (M_M_replaced N t ow σ) (pq_Rr Z σ K t.toInt) := by
  rw [M_M_replaced]
  have c0 : ck (0 : Int32) 64 = true := by decide
  refine pq_Tot.nm (pq_Tot.ite1 c0 (pq_Tot.nm (pq_Tot.ite1 c0 (pq_Tot.nm ?_))))
  have lk : gM_M_looks σ + 1 = Int32.ofNat (K + 1) := hK.look
  have fresh : ∀ i, aM_M_seen σ i ≠ gM_M_looks σ + 1 := fun i e => by
    obtain ⟨m, hm, e'⟩ := hK.2 i
    rw [e', lk] at e
    have := pq_ofNat_inj (by omega) (by omega) e
    omega
  have hT0 : pq_Tb (sM_M_looks σ (gM_M_looks σ + 1)) := hT
  have ho0 : pq_OwOk Z (sM_M_looks σ (gM_M_looks σ + 1)) ow := ho
  have d := (hT.ok v).2
  have rl : pq_RL Z (sM_M_looks σ (gM_M_looks σ + 1)) (tM_M_workStage (tM_M_workType (sM_M_looks σ (gM_M_looks σ + 1)) (upd (aM_M_workType σ) 0 t)) (upd (aM_M_workStage σ) 0 0)) t.toInt 1 0 (aM_M_seen σ) := by
    have w0 : pq_wT (tM_M_workStage (tM_M_workType (sM_M_looks σ (gM_M_looks σ + 1)) (upd (aM_M_workType σ) 0 t)) (upd (aM_M_workStage σ) 0 0)) 0 = t.toInt := rfl
    refine ⟨hT, pq_Ex.rf, pq_fr.t (pq_fr.t pq_fr.rf (by decide) _) (by decide) _, by omega, by omega, ?_, fun i hi => by omega, fun i hi => by omega, fun _ => rfl, fun i j hi hj => by omega, fun i _ hs => absurd hs (fresh i), fun i hs => absurd hs (fresh i), fun i => Or.inl rfl⟩
    intro i hi
    obtain rfl : i = 0 := by omega
    rw [w0]
    exact ⟨v, by have := d.2.1; show pq_dI σ t.toInt.toNat + _ ≤ _; omega⟩
  refine (pq_replaced_L32 (by omega) hT0 ho0 N 1 0 (aM_M_seen σ) 1 (-1) 0 _ rl rfl (Or.inl ⟨rfl, rfl⟩) ?_).mono (fun r τ hr => ?_)
  · rw [if_pos rfl]
    have := pq_un_le (aM_M_seen σ) (gM_M_looks (sM_M_looks σ (gM_M_looks σ + 1))) 500
    show 5 * pq_un (aM_M_seen σ) (gM_M_looks (sM_M_looks σ (gM_M_looks σ + 1))) 500 + 0 + 1 < N
    omega
  · obtain ⟨h1, h2, h3, h4, h5, h6⟩ := hr
    refine ⟨h1, h2, pq_fr.tr (pq_fr.s pq_fr.rf (by decide) _) (h3.up (by decide) (fun _ z => z)), h4, fun nf => ⟨hf, h5 nf⟩, ?_⟩
    · refine ⟨(h3.1 5 (by decide)).trans lk, fun i => ?_⟩
      rcases h6 i with e | e
      · obtain ⟨m, hm, e'⟩ := hK.2 i
        exact ⟨m, by omega, e.trans e'⟩
      · exact ⟨K + 1, Nat.le_refl _, e.trans lk⟩
