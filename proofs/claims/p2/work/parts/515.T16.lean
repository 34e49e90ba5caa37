variable {Z : Prop}
set_option maxRecDepth 100000 in
theorem pq_pm_sub {σ : SM} (h : pq_Pb σ) {c : Nat} (hc : c < 40) : (aM_M_parentMany σ c - 1).toInt = pq_pmI σ c - 1 := by
  have := h.1 c hc
  have e : (aM_M_parentMany σ c).toInt = pq_pmI σ c := rfl
  rw [pq_iv_sub (by rw [e, pq_iv_1]; omega) (by rw [e, pq_iv_1]; omega), e, pq_iv_1]
section AC
variable {N : Nat} {k12 : Int32 → Int32 → SM → Option (Int32 × SM)} {v1 v2 v3 : Int32} {Q : Int32 → SM → Prop} {a c g : Nat} {σ : SM}
set_option maxRecDepth 100000 in
theorem pq_ab_b208 (hN : 5 ≤ N) (hT : pq_Tb σ) (hP : pq_Pb σ) (v : pq_vt σ v3.toInt) (ec : pq_oI σ v3.toInt.toNat = c) (hc : c < 40) (hr : pq_rch σ c g) (h2 : v2.toInt = g) (hg : g < 40) (ha : (gM_M_aboves σ).toInt = a) (hB : a + 2 * c ≤ 87) (q3 : Z → pq_qI σ v3.toInt.toNat = 1)
    (h0 : c = g → Q v3 σ) (hk : ∀ (σ' : SM) (a' : Nat), pq_fr [6] [18, 19, 20] σ σ' → pq_Top Z σ' a' c g → pq_Tot (k12 v1 v2 σ') Q) : pq_Tot (M_M_aboveOf_b208 N k12 v1 v2 v3 σ) Q := by
  rw [M_M_aboveOf_b208]
  have e1 : (aM_M_one σ v3.toNatClampNeg).toInt = c := ec
  have e1n : (aM_M_one σ v3.toNatClampNeg).toNatClampNeg = c := by show (aM_M_one σ v3.toNatClampNeg).toInt.toNat = c; rw [e1]; rfl
  refine pq_Tot.ite1 (pq_ck_vt hT v) (pq_Tot.nm (pq_Tot.ite (fun e => pq_Tot.ret (h0 ?_)) (fun ne => pq_Tot.ite1 (pq_ck_mk (by omega) (by omega)) (pq_Tot.nm ?_))))
  · have := pq_eqI e; omega
  · have ne' : c ≠ g := fun z => ne (pq_iv_eq.2 (by omega))
    have m := pq_pm_sub hP hc
    have pq_pc := hP.1 c hc
    rw [e1n]
    obtain ⟨k, hk1, hk2⟩ := hP.up hc hr ne'
    refine pq_ab_L235 (k353 := M_M_aboveOf_b353 N k12) hT hP v q3 e1 hc h2 hg hB (fun σ' a' f t => by rw [M_M_aboveOf_b353]; exact hk σ' a' f t) N _ σ a pq_fr.rf ha (Nat.le_refl _) (by omega) (by omega) (by omega) (fun _ => ⟨k, by omega, hk2⟩) (fun z => absurd z (Nat.lt_irrefl _)) (by omega)
set_option maxRecDepth 100000 in
theorem pq_ab_b106 (hf : ¬ pq_fl σ) (hT : pq_Tb σ) (v : pq_vt σ v3.toInt) (k : pq_kI σ v3.toInt.toNat = 0 ∨ pq_kI σ v3.toInt.toNat = 1) (h : pq_Tot (M_M_aboveOf_b208 N k12 v1 v2 v3 σ) Q) : pq_Tot (M_M_aboveOf_b106 N k12 v1 v2 v3 σ) Q := by
  rw [M_M_aboveOf_b106]
  have cv := pq_ck_vt hT v
  have kk : (aM_M_kind σ v3.toNatClampNeg).toInt = pq_kI σ v3.toInt.toNat := rfl
  have f0 : gM_M_full σ = 0 := Classical.byContradiction hf
  refine pq_Tot.ite1 f0 (pq_Tot.ite1 cv (pq_Tot.ite2 (fun e => ?_) (pq_Tot.ite1 cv ?_)))
  · have := pq_eqI e
    rw [kk] at this
    have e8 : (8 : Int32).toInt = 8 := rfl
    omega
  · refine pq_Tot.ite (fun _ => h) (fun n0 => pq_Tot.ite1 cv (pq_Tot.ite1 ?_ h))
    rcases k with k | k
    · exact absurd (pq_iv_eq.2 (by rw [kk, k]; rfl)) n0
    · exact pq_iv_eq.2 (by rw [kk, k]; rfl)
set_option maxRecDepth 100000 in
theorem pq_ab_full (hf : pq_fl σ) (h : Q (-1) σ) : pq_Tot (M_M_aboveOf_b106 N k12 v1 v2 v3 σ) Q := by
  rw [M_M_aboveOf_b106]
  exact pq_Tot.ite2 hf (pq_Tot.ret h)
end AC
def pq_Ab (Z : Prop) (σ : SM) (J : Nat) (g : Int) (r : Int32) (τ : SM) : Prop :=
  pq_Tb τ ∧ pq_Ex σ τ ∧ pq_fr pq_LA pq_AA σ τ ∧ (∃ K', K' ≤ J ∧ pq_Sn K' τ) ∧ (pq_fl τ → r = -1) ∧ (¬ pq_fl τ → pq_vt τ r.toInt ∧ (pq_kI τ r.toInt.toNat = 0 ∨ pq_kI τ r.toInt.toNat = 1) ∧ pq_oI τ r.toInt.toNat = g ∧ (Z → pq_qI τ r.toInt.toNat = 1))
set_option maxRecDepth 100000 in
theorem pq_Sn.fr {K : Nat} {σ τ : SM} {L A : List Nat} (h : pq_Sn K σ) (f : pq_fr L A σ τ) (h5 : 5 ∉ L) (h17 : 17 ∉ A) : pq_Sn K τ := by
  refine ⟨(f.1 5 h5).trans h.1, fun t => ?_⟩
  obtain ⟨m, hm, e⟩ := h.2 t
  exact ⟨m, hm, by rw [show aM_M_seen τ = aM_M_seen σ from f.2.1 17 h17]; exact e⟩
set_option maxRecDepth 100000 in
theorem pq_Pb.fr {σ τ : SM} {L A : List Nat} (h : pq_Pb σ) (e : pq_Ex σ τ) (f : pq_fr L A σ τ) (h1 : 1 ∉ A) (h2 : 2 ∉ A) : pq_Pb τ := h.ex e (f.2.1 1 h1) (f.2.1 2 h2) f.2.2
set_option maxRecDepth 100000 in
theorem pq_rch.fr {σ τ : SM} {L A : List Nat} {c g : Nat} (h : pq_rch σ c g) (f : pq_fr L A σ τ) : pq_rch τ c g := by
  rw [pq_rch, show aM_M_upward τ = aM_M_upward σ by show τ.2.2 0 = _; rw [f.2.2]]; exact h
set_option maxRecDepth 100000 in
theorem pq_Ab.pre {σ σ' τ : SM} {J : Nat} {g : Int} {r : Int32} (h : pq_Ab Z σ' J g r τ) (e : pq_Ex σ σ') (f : pq_fr pq_LA pq_AA σ σ') : pq_Ab Z σ J g r τ :=
  ⟨h.1, e.tr h.2.1, f.tr h.2.2.1, h.2.2.2.1, h.2.2.2.2.1, h.2.2.2.2.2⟩
set_option maxRecDepth 100000 in
theorem pq_ab_L12 {N : Nat} {k356 : Int32 → Int32 → SM → Option (Int32 × SM)} {v1 v2 : Int32} {g : Nat} (hN : 3000 ≤ N) (h2 : v2.toInt = g) (hg : g < 40) :
    ∀ (n : Nat) (σ : SM) (a C K : Nat), pq_Tb σ → pq_Pb σ → ¬ pq_fl σ → pq_Top Z σ a C g → pq_Sn K σ → K + C + 1 < 4294967296 + g → C < n → pq_Tot (M_M_aboveOf_L12 N k356 n v1 v2 σ) (pq_Ab Z σ (K + C - g) g) := by
  intro n
  induction n with
  | zero => intro σ a C K _ _ _ _ _ _ h; omega
  | succ n ih =>
    intro σ a C K hT hP hf ht hK hK2 hn
    obtain ⟨t1, t2, t3, c, t4, t5, t6, t7, t8⟩ := ht
    have f0 : gM_M_full σ = 0 := Classical.byContradiction hf
    have gc : g ≤ c := hP.le c t5 t7
    rw [M_M_aboveOf_L12]
    have am : (gM_M_aboves σ - 1).toInt = (a - 1 : Nat) := by
      rw [pq_iv_sub (by rw [t2, pq_iv_1]; omega) (by rw [t2, pq_iv_1]; omega), t2, pq_iv_1]; omega
    refine pq_Tot.ite2 (by rw [pq_iv_le, t2, pq_iv_0]; omega) (pq_Tot.ite1 f0 (pq_Tot.nm ?_))
    generalize hσ4 : sM_M_aboves σ (gM_M_aboves σ - 1) = σ4
    have e4 : pq_Ex σ σ4 := by rw [← hσ4]; exact pq_Ex.same rfl rfl rfl rfl rfl rfl rfl rfl rfl
    have g4 : pq_fr [6] [] σ σ4 := by rw [← hσ4]; exact pq_fr.s pq_fr.rf (by decide) _
    have hT4 : pq_Tb σ4 := pq_Tb.ex e4 (by rw [← hσ4]; rfl) hT
    have hf4 : ¬ pq_fl σ4 := by rw [← hσ4]; exact hf
    have am4 : (gM_M_aboves σ4).toInt = (a - 1 : Nat) := by rw [← hσ4]; exact am
    have amn : (gM_M_aboves σ4).toNatClampNeg = a - 1 := by show (gM_M_aboves σ4).toInt.toNat = _; rw [am4]; rfl
    have c4 : ck (gM_M_aboves σ4) 2000 = true := pq_ck_mk (by omega) (by omega)
    have eT : (aM_M_aboveType σ4 (gM_M_aboves σ4).toNatClampNeg).toInt = pq_bT σ (a - 1) := by rw [amn, ← hσ4]
    have eM : (aM_M_aboveMore σ4 (gM_M_aboves σ4).toNatClampNeg).toInt = pq_bM σ (a - 1) := by rw [amn, ← hσ4]
    have eF : aM_M_aboveFlag σ4 (gM_M_aboves σ4).toNatClampNeg = pq_bF σ (a - 1) := by rw [amn, ← hσ4]
    have hP4 : pq_Pb σ4 := hP.fr e4 g4 (by decide) (by decide)
    have hK4 : pq_Sn K σ4 := hK.fr g4 (by decide) (by decide)
    have g4' : pq_fr pq_LA pq_AA σ σ4 := g4.up (by decide) (by decide)
    have go : ∀ (x : Int32) (τ : SM) (K' : Nat), pq_Tb τ → pq_Ex σ4 τ → pq_fr [1, 2, 5] pq_AR σ4 τ → ¬ pq_fl τ → pq_vt τ x.toInt → (pq_kI τ x.toInt.toNat = 0 ∨ pq_kI τ x.toInt.toNat = 1) → pq_oI τ x.toInt.toNat = c → (Z → pq_qI τ x.toInt.toNat = 1) → pq_Sn K' τ → K' ≤ K + 1 → pq_Tot (M_M_aboveOf_b106 N (M_M_aboveOf_L12 N k356 n) v1 v2 x τ) (pq_Ab Z σ (K + C - g) g) := by
      intro x τ K' b1 b2 b3 b4 b5 b6 b7 b8 b9 b10
      have b3' : pq_fr pq_LA pq_AA σ4 τ := b3.up (by decide) (by decide)
      refine pq_ab_b106 b4 b1 b5 b6 (pq_ab_b208 (Z := Z) (a := a - 1) (c := c) (g := g) (by omega) b1 (hP4.fr b2 b3 (by decide) (by decide)) b5 b7 t5 ((t7.fr g4).fr b3) h2 hg ?_ (by omega) b8 (fun e => ?_) (fun σ' a' f' t' => ?_))
      · rw [show gM_M_aboves τ = gM_M_aboves σ4 from b3.1 6 (by decide)]; exact am4
      · exact ⟨b1, e4.tr b2, g4'.tr b3', ⟨K', by omega, b9⟩, fun z => absurd z b4, fun _ => ⟨b5, b6, by rw [b7, e], b8⟩⟩
      · have ex' := pq_stk_ex f'
        have q := ih σ' a' c K' (pq_Tb.ex ex'.1 ex'.2 b1) ((hP4.fr b2 b3 (by decide) (by decide)).fr ex'.1 f' (by decide) (by decide)) (by rw [pq_fl, show gM_M_full σ' = gM_M_full τ from f'.1 2 (by decide)]; exact b4) t' (b9.fr f' (by decide) (by decide)) (by omega) (by omega)
        refine q.mono (fun r υ hr => ?_)
        have := hr.pre ((e4.tr b2).tr ex'.1) ((g4'.tr b3').tr (f'.up (by decide) (by decide)))
        obtain ⟨x1, x2, x3, ⟨K'', x4, x5⟩, x6, x7⟩ := this
        exact ⟨x1, x2, x3, ⟨K'', by omega, x5⟩, x6, x7⟩
    have stop : ∀ (x : Int32) (τ : SM) (K' : Nat), pq_Tb τ → pq_Ex σ4 τ → pq_fr [1, 2, 5] pq_AR σ4 τ → pq_fl τ → pq_Sn K' τ → K' ≤ K + 1 → pq_Tot (M_M_aboveOf_b106 N (M_M_aboveOf_L12 N k356 n) v1 v2 x τ) (pq_Ab Z σ (K + C - g) g) := by
      intro x τ K' b1 b2 b3 b4 b9 b10
      exact pq_ab_full b4 ⟨b1, e4.tr b2, g4'.tr (b3.up (by decide) (by decide)), ⟨K', by omega, b9⟩, fun _ => rfl, fun z => absurd b4 z⟩
    refine pq_Tot.ite1 c4 (pq_Tot.nm (pq_Tot.ite1 c4 (pq_Tot.nm ?_)))
    rcases t8 with t8 | t8 | t8
    · rw [eF]
      refine pq_Tot.ite2 (by rw [t8.1]; decide) (pq_Tot.ite2 (by rw [t8.1]; decide) ?_)
      refine go _ σ4 K hT4 pq_Ex.rf pq_fr.rf hf4 ?_ ?_ ?_ ?_ hK4 (by omega)
      · rw [eT]; exact e4.vt t8.2.1
      · rw [eT, e4.k t8.2.1]; exact t8.2.2.1
      · rw [eT, e4.o t8.2.1]; exact t8.2.2.2.1
      · rw [eT, e4.q t8.2.1]; exact t8.2.2.2.2
    · rw [eF]
      have vm : pq_vt σ4 (aM_M_aboveMore σ4 (gM_M_aboves σ4).toNatClampNeg).toInt := by rw [eM]; exact e4.vt t8.2.1
      have em : (aM_M_one σ4 (aM_M_aboveMore σ4 (gM_M_aboves σ4).toNatClampNeg).toNatClampNeg).toInt = c := by
        show pq_oI σ4 (aM_M_aboveMore σ4 (gM_M_aboves σ4).toNatClampNeg).toInt.toNat = c
        rw [eM, e4.o t8.2.1]; exact t8.2.2
      refine pq_Tot.ite1 t8.1 (pq_Tot.ite1 c4 (pq_Tot.ite1 (pq_ck_vt hT4 vm) (pq_Tot.bd (pq_plainOf_ok (by omega) hT4 (fun _ => ?_)) (fun r τ hr => ?_))))
      · rw [em, e4.1]; exact ⟨by omega, t6⟩
      · have f3 : pq_fr [1, 2, 5] pq_AR σ4 τ := hr.2.2.1.up (by decide) (by decide)
        have s3 := hK4.fr hr.2.2.1 (by decide) (by decide)
        by_cases h : pq_fl τ
        · exact stop r τ K hr.1 hr.2.1 f3 h s3 (by omega)
        · have m := hr.2.2.2.2 h
          rw [em] at m
          refine go r τ K hr.1 hr.2.1 f3 h m.2.1 (Or.inl m.2.2.1) m.2.2.2.1 (fun _ => ?_) s3 (by omega)
          refine (hr.1.pk m.2.1).one.2 ?_
          rw [m.2.2.1]
          exact ⟨by decide, fun e => absurd e (by decide), fun e => absurd e (by decide), fun e => absurd e (by decide), fun e => absurd e (by decide)⟩
    · rw [eF]
      have vm : pq_vt σ4 (aM_M_aboveMore σ4 (gM_M_aboves σ4).toNatClampNeg).toInt := by rw [eM]; exact e4.vt t8.2.2.2.1
      have vT : pq_vt σ4 (aM_M_aboveType σ4 (gM_M_aboves σ4).toNatClampNeg).toInt := by rw [eT]; exact e4.vt t8.2.1
      have ow : pq_OwOk Z σ4 (aM_M_aboveType σ4 (gM_M_aboves σ4).toNatClampNeg) := Or.inr ⟨vT, by rw [eT, e4.k t8.2.1]; exact t8.2.2.1, fun z => by rw [eT, e4.q t8.2.1]; exact t8.2.2.2.2.2.2.1 z⟩
      refine pq_Tot.ite2 (by rw [t8.1]; decide) (pq_Tot.ite1 t8.1 (pq_Tot.ite1 c4 (pq_Tot.bd (pq_replaced_ok hN hT4 hf4 ow vm hK4 (by omega)) (fun r τ hr => ?_))))
      obtain ⟨r1, r2, r3, r4, r5, r6⟩ := hr
      by_cases h : pq_fl τ
      · exact stop r τ (K + 1) r1 r2 r3 h r6 (by omega)
      · have p := (r5 h).2
        have k1 : pq_kI σ4 (aM_M_aboveMore σ4 (gM_M_aboves σ4).toNatClampNeg).toInt.toNat = 0 ∨ pq_kI σ4 (aM_M_aboveMore σ4 (gM_M_aboves σ4).toNatClampNeg).toInt.toNat = 1 := by
          rw [eM, e4.k t8.2.2.2.1]; exact t8.2.2.2.2.1
        have o1 : pq_oI σ4 (aM_M_aboveMore σ4 (gM_M_aboves σ4).toNatClampNeg).toInt.toNat = c := by
          rw [eM, e4.o t8.2.2.2.1]; exact t8.2.2.2.2.2.1
        have q1 : pq_qI σ4 (aM_M_aboveMore σ4 (gM_M_aboves σ4).toNatClampNeg).toInt.toNat = 1 := by
          rw [eM, e4.q t8.2.2.2.1]; exact t8.2.2.2.2.2.2.2
        refine go r τ (K + 1) r1 r2 r3 h p.1 ?_ ?_ (fun z => p.2.2.2.2 z q1) r6 (by omega)
        · rcases k1 with k | k
          · exact Or.inl (p.2.2.2.1 k).1
          · exact Or.inr (p.2.2.1 k).1
        · rcases k1 with k | k
          · rw [(p.2.2.2.1 k).2, o1]
          · rw [(p.2.2.1 k).2.1, o1]
