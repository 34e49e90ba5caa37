set_option maxRecDepth 100000 in
theorem pq_Tot.det {St ρ : Type} {F : Option (ρ × St)} {P Q : ρ → St → Prop} (h : pq_Tot F P) (k : pq_Tot F Q) : pq_Tot F (fun r τ => P r τ ∧ Q r τ) := by
  obtain ⟨r, τ, e, p⟩ := h
  obtain ⟨r', τ', e', q⟩ := k
  rw [e] at e'
  obtain ⟨rfl, rfl⟩ := Prod.mk.inj (Option.some.inj e')
  exact ⟨r, τ, e, p, q⟩
set_option maxRecDepth 100000 in
theorem pq_less_L198_neg {N n : Nat} {k : SM → Option (Int32 × SM)} {v5 : Int32} {σ : SM} (hn : 0 < n) (h : v5 < 0) : M_M_less_L198 N k n v5 σ = k σ := by
  cases n with
  | zero => exact absurd hn (Nat.lt_irrefl _)
  | succ n => rw [M_M_less_L198, if_pos h]
set_option maxRecDepth 100000 in
theorem pq_less_var_aux {N n : Nat} {σ σ1 : SM} {K0 : Nat} {s t : Int32} (hN : 20002 ≤ N) (hT : pq_Tb σ) (hB : pq_Bd σ) (nf : ¬ pq_fl σ) (vs : pq_vt σ s.toInt) (v : pq_vt σ t.toInt) (k7 : pq_kI σ s.toInt.toNat = 7) (ne : s ≠ t) (sK0 : pq_Sn K0 σ)
    (f : pq_fr [7] [21, 22, 23, 24] σ σ1) (l1 : gM_M_lesses σ1 = 1) (es : aM_M_lessSort σ1 0 = 3) (el : aM_M_lessLeft σ1 0 = s) (er : aM_M_lessRight σ1 0 = t) (ed : aM_M_lessDeep σ1 0 = 1) :
    pq_Tot (M_M_less_L33 N (n + 2) σ1) (fun r τ => r ≠ 0 → pq_Hb τ 0 (pq_oI σ s.toInt.toNat) t.toInt) := by
  have fu : gM_M_full σ1 = 0 := by rw [show gM_M_full σ1 = gM_M_full σ from f.1 2 (by decide)]; exact Classical.byContradiction nf
  rw [M_M_less_L33]
  refine pq_Tot.ite2 (by rw [l1]; decide) (pq_Tot.nm ?_)
  generalize hσ6 : sM_M_lesses σ1 (gM_M_lesses σ1 - 1) = σ6
  have l6 : gM_M_lesses σ6 = 0 := by rw [← hσ6]; show gM_M_lesses σ1 - 1 = 0; rw [l1]; rfl
  have l6n : (gM_M_lesses σ6).toNatClampNeg = 0 := by rw [l6]; rfl
  have f6 : pq_fr [7] [21, 22, 23, 24] σ σ6 := by rw [← hσ6]; exact pq_fr.s f (by decide) _
  have a6 : σ6.2 = σ1.2 := by rw [← hσ6]
  have fu6 : gM_M_full σ6 = 0 := by rw [← hσ6]; exact fu
  clear hσ6
  refine pq_Tot.ite1 (by rw [l6]; decide) (pq_Tot.nm ?_)
  generalize hσ7 : sM_M_deepNow σ6 (aM_M_lessDeep σ6 (gM_M_lesses σ6).toNatClampNeg) = σ7
  have d7 : gM_M_deepNow σ7 = 1 := by
    rw [← hσ7]; show aM_M_lessDeep σ6 (gM_M_lesses σ6).toNatClampNeg = 1
    rw [l6n]; show σ6.2.1 24 0 = 1; rw [a6]; exact ed
  have l7 : gM_M_lesses σ7 = 0 := by rw [← hσ7]; exact l6
  have f7 : pq_fr [7, 8] [21, 22, 23, 24] σ σ7 := by rw [← hσ7]; exact pq_fr.s (f6.up (by decide) (by decide)) (by decide) _
  have a7 : σ7.2 = σ1.2 := by rw [← hσ7]; exact a6
  have fu7 : gM_M_full σ7 = 0 := by rw [← hσ7]; exact fu6
  clear hσ7
  have b90 : pq_Tot (M_M_less_b90 N (M_M_less_L33 N (n + 1)) σ7) (fun r τ => r ≠ 0 → pq_Hb τ 0 (pq_oI σ s.toInt.toNat) t.toInt) := by
    rw [M_M_less_b90, M_M_less_b95]
    exact pq_Tot.ite1 (by decide) (pq_Tot.nm (pq_Tot.ite2 (by decide : (1 : Int32) ≠ 0) (pq_Tot.ret (fun z => absurd rfl z))))
  refine pq_Tot.ite1 fu7 (pq_Tot.ite (fun _ => b90) (fun _ => pq_Tot.ite (fun _ => b90) (fun _ => ?_)))
  rw [M_M_less_b95]
  refine pq_Tot.ite1 (by decide) (pq_Tot.nm (pq_Tot.ite1 rfl (pq_Tot.nm ?_)))
  generalize hσ9 : sM_M_inCall (sM_M_full σ7 0) (gM_M_inCall (sM_M_full σ7 0) + 1) = σ9
  have f9 : pq_fr [2, 7, 8, 9] [21, 22, 23, 24] σ σ9 := by rw [← hσ9]; exact pq_fr.s (pq_fr.s (f7.up (by decide) (by decide)) (by decide) _) (by decide) _
  have l9 : gM_M_lesses σ9 = 0 := by rw [← hσ9]; exact l7
  have a9 : σ9.2 = σ1.2 := by rw [← hσ9]; exact a7
  have fu9 : gM_M_full σ9 = 0 := by rw [← hσ9]; rfl
  clear hσ9
  have b134 : ∀ (a b : Int32), pq_Tot (M_M_less_b134 N (M_M_less_L33 N (n + 1)) a b σ9) (fun r τ => r ≠ 0 → pq_Hb τ 0 (pq_oI σ s.toInt.toNat) t.toInt) := fun a b => by
    rw [M_M_less_b134]
    refine pq_Tot.nm (pq_Tot.nm ?_)
    generalize hσ : sM_M_nexts (sM_M_madeLess σ9 (b + a)) 0 = σa
    have fa : pq_fr [2, 7, 8, 9, 10, 15] [21, 22, 23, 24] σ σa := by rw [← hσ]; exact pq_fr.s (pq_fr.s (f9.up (by decide) (by decide)) (by decide) _) (by decide) _
    have ex := fa.ex (by decide)
    have bg := pq_BG.fr fa (by decide) (by decide) (by decide) (by decide)
    have la : gM_M_lesses σa = 0 := by rw [← hσ]; exact l9
    have lan : (gM_M_lesses σa).toNatClampNeg = 0 := by rw [la]; rfl
    have aa : σa.2 = σ1.2 := by rw [← hσ]; exact a9
    have nfa : ¬ pq_fl σa := by rw [← hσ]; exact fun z => z fu9
    have n0 : pq_nI σa = 0 := by rw [← hσ]; rfl
    clear hσ
    have hTa := pq_Tb.ex ex.1 ex.2 hT
    have e1 : aM_M_lessSort σa (gM_M_lesses σa).toNatClampNeg = 3 := by rw [lan]; show σa.2.1 21 0 = 3; rw [aa]; exact es
    have e2 : aM_M_lessLeft σa (gM_M_lesses σa).toNatClampNeg = s := by rw [lan]; show σa.2.1 22 0 = s; rw [aa]; exact el
    have e3 : aM_M_lessRight σa (gM_M_lesses σa).toNatClampNeg = t := by rw [lan]; show σa.2.1 23 0 = t; rw [aa]; exact er
    have cl : ck (gM_M_lesses σa) 200 = true := by rw [la]; decide
    have sq : pq_Sq False σa K0 0 σa := pq_Sq.start hTa (hB.ex ex.1 bg.1 bg.2) ⟨K0, Nat.le_refl _, sK0.fr fa (by decide) (by decide)⟩ n0
    rw [e1, e2, e3]
    refine pq_Tot.ite1 cl (pq_Tot.ite1 cl (pq_Tot.ite1 cl (pq_Tot.bd (P := fun r τ => pq_Stp False σa K0 r τ ∧ (s ≠ t → r ≠ 0 → ¬ pq_fl τ → pq_kI σa s.toInt.toNat = 7 → pq_Hb τ 0 (pq_oI σa s.toInt.toNat) t.toInt ∧ pq_nI τ = 0)) ?_ (fun r τ hr => ?_))))
    · rw [M_M_step]
      refine pq_Tot.ite2 (by decide) (pq_Tot.ite2 (by decide) (pq_Tot.ite2 (by decide) ?_))
      exact pq_Tot.bd (pq_equal_ok sq nfa (by omega) (ex.1.vt vs) (ex.1.vt v) (fun z => z.elim)) (fun r υ hr => pq_Tot.ite1 (decide_eq_true hr.1.1) (pq_Tot.ret hr))
    · obtain ⟨⟨hr, m, hm, s1, s2, s3, _⟩, hh⟩ := hr
      refine pq_Tot.ite (fun fτ => pq_Tot.ite (fun _ => pq_Tot.ret (fun z => absurd rfl z)) (fun nr => pq_Tot.nm ?_)) (fun _ => pq_Tot.ret (fun z => absurd rfl z))
      have q := hh ne nr (fun z => z fτ) (by rw [ex.1.k vs]; exact k7)
      rw [ex.1.o vs] at q
      have nx : gM_M_nexts τ = 0 := pq_iv_eq.2 q.2
      have lt : gM_M_lesses τ = 0 := by rw [show gM_M_lesses τ = gM_M_lesses σa from s3.1 7 (by decide)]; exact la
      rw [nx, pq_less_L198_neg (by omega) (by decide)]
      rw [M_M_less_b282, M_M_less_L33]
      exact pq_Tot.ite1 (by rw [lt]; decide) (pq_Tot.ret (fun _ => q.1))
  exact pq_Tot.ite (fun _ => b134 _ _) (fun _ => b134 _ _)
set_option maxRecDepth 100000 in
theorem pq_less_var {N : Nat} {σ : SM} {J : Nat} {s t : Int32} (hN : 20002 ≤ N) (hT : pq_Tb σ) (hP : pq_Pb σ) (hB : pq_Bd σ) (nf : ¬ pq_fl σ) (vs : pq_vt σ s.toInt) (v : pq_vt σ t.toInt) (k7 : pq_kI σ s.toInt.toNat = 7) (ne : s ≠ t) (hK : ∃ K', K' ≤ J ∧ pq_Sn K' σ) (i0 : 0 ≤ pq_icI σ) (i1 : pq_icI σ ≤ 20000) (hJ : (J : Int) + 39 * (20000 - pq_icI σ) + 41 < 4294967296) :
    pq_Tot (M_M_less N 3 s t σ) (fun r τ => pq_Les False σ J r τ ∧ (r ≠ 0 → pq_Hb τ 0 (pq_oI σ s.toInt.toNat) t.toInt)) := by
  refine (pq_less_ok (Z := False) hN hT hP hB (fun _ => ⟨vs, v, fun z => z.elim⟩) hK i0 i1 hJ).det ?_
  rw [M_M_less]
  have c0 : ck (0 : Int32) 200 = true := by decide
  refine pq_Tot.nm (pq_Tot.ite1 c0 (pq_Tot.nm (pq_Tot.ite1 c0 (pq_Tot.nm (pq_Tot.ite1 c0 (pq_Tot.nm (pq_Tot.ite1 c0 (pq_Tot.nm ?_))))))))
  generalize hσ : tM_M_lessDeep _ _ = σ1
  have f : pq_fr [7] [21, 22, 23, 24] σ σ1 := by
    rw [← hσ]; exact pq_fr.t (pq_fr.t (pq_fr.t (pq_fr.t (pq_fr.s pq_fr.rf (by decide) _) (by decide) _) (by decide) _) (by decide) _) (by decide) _
  have l1 : gM_M_lesses σ1 = 1 := by rw [← hσ]; rfl
  have es : aM_M_lessSort σ1 0 = 3 := by rw [← hσ]; rfl
  have el : aM_M_lessLeft σ1 0 = s := by rw [← hσ]; rfl
  have er : aM_M_lessRight σ1 0 = t := by rw [← hσ]; rfl
  have ed : aM_M_lessDeep σ1 0 = 1 := by rw [← hσ]; rfl
  clear hσ
  obtain ⟨K0, hK0, sK0⟩ := hK
  obtain ⟨n, hn⟩ : ∃ m, N = m + 2 := ⟨N - 2, by omega⟩
  have q := pq_less_var_aux (n := n) hN hT hB nf vs v k7 ne sK0 f l1 es el er ed
  rw [← hn] at q
  exact q
