variable {Z : Prop}
abbrev pq_LL : List Nat := [1, 2, 5, 6, 7, 8, 9, 10, 12, 13, 15, 16]
abbrev pq_AL : List Nat := [3, 4, 5, 6, 7, 8, 12, 13, 14, 16, 17, 18, 19, 20, 21, 22, 23, 24, 25, 26, 27, 28, 29, 30, 31]
def pq_icI (σ : SM) : Int := (gM_M_inCall σ).toInt
def pq_llI (σ : SM) (i : Nat) : Int := (aM_M_lessLeft σ i).toInt
def pq_lrI (σ : SM) (i : Nat) : Int := (aM_M_lessRight σ i).toInt
def pq_ldI (σ : SM) (i : Nat) : Int := (aM_M_lessDeep σ i).toInt
def pq_Stk (Z : Prop) (σ : SM) (l : Nat) : Prop := (gM_M_lesses σ).toInt = l ∧ ∀ i : Nat, i < l → pq_vt σ (pq_llI σ i) ∧ pq_vt σ (pq_lrI σ i) ∧ (Z → pq_qI σ (pq_llI σ i).toNat = 1 ∧ pq_qI σ (pq_lrI σ i).toNat = 1) ∧ (i : Int) + 1 ≤ pq_ldI σ i ∧ pq_ldI σ i ≤ 61
set_option maxRecDepth 100000 in
theorem pq_Stk.ex {σ τ : SM} {l : Nat} (h : pq_Stk Z σ l) (e : pq_Ex σ τ) (h7 : τ.1 7 = σ.1 7) (h22 : τ.2.1 22 = σ.2.1 22) (h23 : τ.2.1 23 = σ.2.1 23) (h24 : τ.2.1 24 = σ.2.1 24) : pq_Stk Z τ l := by
  have a : ∀ i, pq_llI τ i = pq_llI σ i := fun i => by show (τ.2.1 22 i).toInt = _; rw [h22]; rfl
  have b : ∀ i, pq_lrI τ i = pq_lrI σ i := fun i => by show (τ.2.1 23 i).toInt = _; rw [h23]; rfl
  have c : ∀ i, pq_ldI τ i = pq_ldI σ i := fun i => by show (τ.2.1 24 i).toInt = _; rw [h24]; rfl
  refine ⟨by show (τ.1 7).toInt = _; rw [h7]; exact h.1, fun i hi => ?_⟩
  have q := h.2 i hi
  rw [a, b, c, e.q q.1, e.q q.2.1]
  exact ⟨e.vt q.1, e.vt q.2.1, q.2.2⟩
section L1
variable {N : Nat} {k282 : SM → Option (Int32 × SM)} {Q : Int32 → SM → Prop} {σ0 : SM} {d n0 : Nat}
set_option maxRecDepth 100000 in
theorem pq_less_L198 (hd : (gM_M_deepNow σ0).toInt = d) (hd6 : d ≤ 60) (hn0 : n0 ≤ 2) (hx : ∀ i : Nat, i < n0 → pq_vt σ0 (pq_nlI σ0 i) ∧ pq_vt σ0 (pq_nrI σ0 i) ∧ (Z → pq_qI σ0 (pq_nlI σ0 i).toNat = 1 ∧ pq_qI σ0 (pq_nrI σ0 i).toNat = 1))
    (hk : ∀ (σ' : SM) (l' : Nat), pq_fr [7] [21, 22, 23, 24] σ0 σ' → pq_Stk Z σ' l' → pq_Tot (k282 σ') Q) :
    ∀ (n : Nat) (v5 : Int32) (σ : SM) (l : Nat), pq_fr [7] [21, 22, 23, 24] σ0 σ → pq_Stk Z σ l → -1 ≤ v5.toInt → v5.toInt < n0 → (l : Int) + v5.toInt ≤ d → v5.toInt + 1 < n → pq_Tot (M_M_less_L198 N k282 n v5 σ) Q := by
  intro n
  induction n with
  | zero => intro v5 σ l _ _ _ _ _ h; omega
  | succ n ih =>
    intro v5 σ l f st h1 h2 h3 hn
    rw [M_M_less_L198]
    refine pq_Tot.ite (fun _ => hk σ l f st) (fun z => ?_)
    rw [pq_iv_lt, pq_iv_0] at z
    have c5 : ck v5 2 = true := pq_ck_mk (by omega) (by omega)
    have sl := st.1
    have cl : ck (gM_M_lesses σ) 200 = true := pq_ck_mk (by omega) (by omega)
    have ln : (gM_M_lesses σ).toNatClampNeg = l := by show (gM_M_lesses σ).toInt.toNat = l; rw [sl]; rfl
    have l1 : (gM_M_lesses σ + 1).toInt = (l + 1 : Nat) := by rw [pq_iv_add (by rw [sl, pq_iv_1]; omega) (by rw [sl, pq_iv_1]; omega), sl, pq_iv_1]; omega
    have n1 : (v5 + (-1)).toInt = v5.toInt - 1 := by rw [pq_iv_add (by rw [pq_iv_m1]; omega) (by rw [pq_iv_m1]; omega), pq_iv_m1]; omega
    have dn : gM_M_deepNow σ = gM_M_deepNow σ0 := f.1 8 (by decide)
    have d1 : (gM_M_deepNow σ + 1).toInt = d + 1 := by rw [dn, pq_iv_add (by rw [hd, pq_iv_1]; omega) (by rw [hd, pq_iv_1]; omega), hd, pq_iv_1]
    refine pq_Tot.ite1 c5 (pq_Tot.ite1 cl (pq_Tot.nm (pq_Tot.ite1 c5 (pq_Tot.ite1 cl (pq_Tot.nm (pq_Tot.ite1 c5 (pq_Tot.ite1 cl (pq_Tot.nm (pq_Tot.ite1 cl (pq_Tot.nm (pq_Tot.nm (pq_Tot.nm ?_))))))))))))
    generalize hτ : sM_M_lesses _ _ = τ
    have g : pq_fr [7] [21, 22, 23, 24] σ τ := by
      rw [← hτ]
      exact pq_fr.s (pq_fr.t (pq_fr.t (pq_fr.t (pq_fr.t pq_fr.rf (by decide) _) (by decide) _) (by decide) _) (by decide) _) (by decide) _
    have ex := (g.ex (by decide)).1
    have ex0 := (f.ex (by decide)).1
    have e1 : ∀ i, pq_llI τ i = if i = l then pq_nlI σ0 v5.toInt.toNat else pq_llI σ i := fun i => by
      have : pq_nlI σ0 v5.toInt.toNat = (aM_M_nextLeft σ v5.toNatClampNeg).toInt := by show (σ0.2.1 26 _).toInt = _; rw [← f.2.1 26 (by decide)]; rfl
      rw [this, ← hτ]; show (upd (aM_M_lessLeft σ) (gM_M_lesses σ).toNatClampNeg (aM_M_nextLeft σ v5.toNatClampNeg) i).toInt = _
      rw [ln, upd]; split <;> rfl
    have e2 : ∀ i, pq_lrI τ i = if i = l then pq_nrI σ0 v5.toInt.toNat else pq_lrI σ i := fun i => by
      have : pq_nrI σ0 v5.toInt.toNat = (aM_M_nextRight σ v5.toNatClampNeg).toInt := by show (σ0.2.1 27 _).toInt = _; rw [← f.2.1 27 (by decide)]; rfl
      rw [this, ← hτ]; show (upd (aM_M_lessRight σ) (gM_M_lesses σ).toNatClampNeg (aM_M_nextRight σ v5.toNatClampNeg) i).toInt = _
      rw [ln, upd]; split <;> rfl
    have e3 : ∀ i, pq_ldI τ i = if i = l then (d : Int) + 1 else pq_ldI σ i := fun i => by
      rw [← d1, ← hτ]; show (upd (aM_M_lessDeep σ) (gM_M_lesses σ).toNatClampNeg (gM_M_deepNow σ + 1) i).toInt = _
      rw [ln, upd]; split <;> rfl
    have et : (gM_M_lesses τ).toInt = (l + 1 : Nat) := by rw [← hτ]; exact l1
    clear hτ
    refine ih (v5 + (-1)) τ (l + 1) (f.tr g) ⟨et, fun i hi => ?_⟩ (by omega) (by omega) (by omega) (by omega)
    rw [e1, e2, e3]
    by_cases e : i = l
    · rw [if_pos e, if_pos e, if_pos e]
      have q := hx v5.toInt.toNat (by omega)
      have exx := ex0.tr ex
      rw [exx.q q.1, exx.q q.2.1]
      exact ⟨exx.vt q.1, exx.vt q.2.1, q.2.2, by omega, by omega⟩
    · rw [if_neg e, if_neg e, if_neg e]
      have q := st.2 i (by omega)
      rw [ex.q q.1, ex.q q.2.1]
      exact ⟨ex.vt q.1, ex.vt q.2.1, q.2.2⟩
end L1
def pq_Les (Z : Prop) (σ : SM) (J : Nat) (r : Int32) (τ : SM) : Prop :=
  (r = 0 ∨ r = 1) ∧ pq_Tb τ ∧ pq_Ex σ τ ∧ pq_fr pq_LL pq_AL σ τ ∧ pq_Bd τ ∧ pq_BG σ τ ∧ (Z → pq_bI τ = pq_bI σ) ∧ (pq_icI σ ≤ pq_icI τ ∧ pq_icI τ ≤ 20000) ∧ (∃ K' : Nat, (K' : Int) ≤ J + 39 * (pq_icI τ - pq_icI σ) ∧ pq_Sn K' τ) ∧ (pq_fl τ → r = 0)
set_option maxRecDepth 100000 in
theorem pq_Les.pre {σ σ' τ : SM} {J J' : Nat} {r : Int32} (h : pq_Les Z σ' J' r τ) (e : pq_Ex σ σ') (f : pq_fr pq_LL pq_AL σ σ') (g : pq_BG σ σ') (z : Z → pq_bI σ' = pq_bI σ) (i : pq_icI σ ≤ pq_icI σ') (hj : (J' : Int) ≤ J + 39 * (pq_icI σ' - pq_icI σ)) : pq_Les Z σ J r τ := by
  obtain ⟨h1, h2, h3, h4, h5, h6, h7, h8, ⟨K, k1, k2⟩, h9⟩ := h
  exact ⟨h1, h2, e.tr h3, f.tr h4, h5, g.tr h6, fun y => (h7 y).trans (z y), ⟨by omega, h8.2⟩, ⟨K, by omega, k2⟩, h9⟩
set_option maxRecDepth 100000 in
theorem pq_less_L33 {N : Nat} (hN : 3000 ≤ N) : ∀ (n : Nat) (σ : SM) (l J : Nat), pq_Tb σ → pq_Pb σ → pq_Bd σ → ¬ pq_fl σ → pq_Stk Z σ l → l ≤ 61 → (∃ K', K' ≤ J ∧ pq_Sn K' σ) → 0 ≤ pq_icI σ → pq_icI σ ≤ 20000 → (J : Int) + 39 * (20000 - pq_icI σ) + 41 < 4294967296 → 20001 < (n : Int) + pq_icI σ → pq_Tot (M_M_less_L33 N n σ) (pq_Les Z σ J) := by
  intro n
  induction n with
  | zero => intro σ l J _ _ _ _ _ _ _ h1 h2 _ h; omega
  | succ n ih =>
    intro σ l J hT hP hB nf st hl hK i0 i1 hJ hn
    rw [M_M_less_L33]
    have sl := st.1
    obtain ⟨K0, hK0, sK0⟩ := hK
    refine pq_Tot.ite (fun _ => pq_Tot.ret ⟨Or.inr rfl, hT, pq_Ex.rf, pq_fr.rf, hB, pq_BG.rf, fun _ => rfl, ⟨Int.le_refl _, i1⟩, ⟨K0, by omega, sK0⟩, fun z => absurd z nf⟩) (fun pos => pq_Tot.nm ?_)
    rw [pq_iv_le, pq_iv_0, sl] at pos
    have am : (gM_M_lesses σ - 1).toInt = (l - 1 : Nat) := by rw [pq_iv_sub (by rw [sl, pq_iv_1]; omega) (by rw [sl, pq_iv_1]; omega), sl, pq_iv_1]; omega
    generalize hσ6 : sM_M_lesses σ (gM_M_lesses σ - 1) = σ6
    have am6 : (gM_M_lesses σ6).toInt = (l - 1 : Nat) := by rw [← hσ6]; exact am
    have n6 : (gM_M_lesses σ6).toNatClampNeg = l - 1 := by show (gM_M_lesses σ6).toInt.toNat = _; rw [am6]; rfl
    have f6 : pq_fr [7] [] σ σ6 := by rw [← hσ6]; exact pq_fr.s pq_fr.rf (by decide) _
    have c6 : ck (gM_M_lesses σ6) 200 = true := pq_ck_mk (by omega) (by omega)
    refine pq_Tot.ite1 c6 (pq_Tot.nm ?_)
    have top := st.2 (l - 1) (by omega)
    generalize hσ7 : sM_M_deepNow σ6 (aM_M_lessDeep σ6 (gM_M_lesses σ6).toNatClampNeg) = σ7
    have f7 : pq_fr [7, 8] [] σ σ7 := by rw [← hσ7]; exact pq_fr.s (f6.up (by decide) (by decide)) (by decide) _
    have d7 : (gM_M_deepNow σ7).toInt = pq_ldI σ (l - 1) := by
      rw [← hσ7]; show (aM_M_lessDeep σ6 (gM_M_lesses σ6).toNatClampNeg).toInt = _
      rw [n6]; show (σ6.2.1 24 _).toInt = _; rw [f6.2.1 24 (by decide)]; rfl
    have l7 : (gM_M_lesses σ7).toInt = (l - 1 : Nat) := by rw [← hσ7]; exact am6
    have full7 : gM_M_full σ7 = gM_M_full σ := f7.1 2 (by decide)
    have f0 : gM_M_full σ7 = 0 := by rw [full7]; exact Classical.byContradiction nf
    have ic7 : gM_M_inCall σ7 = gM_M_inCall σ := f7.1 9 (by decide)
    clear hσ7 hσ6
    have b90 : pq_Tot (M_M_less_b90 N (M_M_less_L33 N n) σ7) (pq_Les Z σ J) := by
      rw [M_M_less_b90, M_M_less_b95]
      refine pq_Tot.ite1 (by decide) (pq_Tot.nm (pq_Tot.ite2 (by decide : (1 : Int32) ≠ 0) (pq_Tot.ret ?_)))
      have f8 : pq_fr [2, 7, 8] [] σ (sM_M_full σ7 1) := pq_fr.s (f7.up (by decide) (by decide)) (by decide) _
      have ex := f8.ex (by decide)
      have bg := pq_BG.fr f8 (by decide) (by decide) (by decide) (by decide)
      have ei : pq_icI (sM_M_full σ7 1) = pq_icI σ := by show (gM_M_inCall σ7).toInt = _; rw [ic7]; rfl
      exact ⟨Or.inl rfl, pq_Tb.ex ex.1 ex.2 hT, ex.1, f8.up (by decide) (by decide), hB.ex ex.1 bg.1 bg.2, bg.1, fun _ => bg.2, ⟨by omega, by omega⟩, ⟨K0, by omega, sK0.fr f8 (by decide) (by decide)⟩, fun _ => rfl⟩
    refine pq_Tot.ite1 f0 (pq_Tot.ite (fun _ => b90) (fun nd => pq_Tot.ite (fun _ => b90) (fun ni => ?_)))
    rw [pq_iv_lt, d7, show (60 : Int32).toInt = 60 from rfl] at nd
    have ni' : pq_icI σ ≠ 20000 := fun z => ni (pq_iv_eq.2 (by rw [ic7]; exact z))
    rw [M_M_less_b95]
    refine pq_Tot.ite1 (by decide) (pq_Tot.nm (pq_Tot.ite1 rfl (pq_Tot.nm ?_)))
    have i7 : (gM_M_inCall (sM_M_full σ7 0)).toInt = pq_icI σ := by show (gM_M_inCall σ7).toInt = _; rw [ic7]; rfl
    have ip : (gM_M_inCall (sM_M_full σ7 0) + 1).toInt = pq_icI σ + 1 := by rw [pq_iv_add (by rw [i7, pq_iv_1]; omega) (by rw [i7, pq_iv_1]; omega), i7, pq_iv_1]
    generalize hσ9 : sM_M_inCall (sM_M_full σ7 0) (gM_M_inCall (sM_M_full σ7 0) + 1) = σ9
    have f9 : pq_fr [2, 7, 8, 9] [] σ σ9 := by rw [← hσ9]; exact pq_fr.s (pq_fr.s (f7.up (by decide) (by decide)) (by decide) _) (by decide) _
    have ic9 : pq_icI σ9 = pq_icI σ + 1 := by rw [← hσ9]; exact ip
    have d9 : (gM_M_deepNow σ9).toInt = pq_ldI σ (l - 1) := by rw [← hσ9]; exact d7
    have l9 : (gM_M_lesses σ9).toInt = (l - 1 : Nat) := by rw [← hσ9]; exact l7
    have nf9 : gM_M_full σ9 = 0 := by rw [← hσ9]; rfl
    clear hσ9
    have b134 : ∀ (a b : Int32), pq_Tot (M_M_less_b134 N (M_M_less_L33 N n) a b σ9) (pq_Les Z σ J) := fun a b => by
      rw [M_M_less_b134]
      refine pq_Tot.nm (pq_Tot.nm ?_)
      generalize hσ : sM_M_nexts (sM_M_madeLess σ9 (b + a)) 0 = σa
      have fa : pq_fr [2, 7, 8, 9, 10, 15] [] σ σa := by rw [← hσ]; exact pq_fr.s (pq_fr.s (f9.up (by decide) (by decide)) (by decide) _) (by decide) _
      have ex := fa.ex (by decide)
      have bg := pq_BG.fr fa (by decide) (by decide) (by decide) (by decide)
      have ica : pq_icI σa = pq_icI σ + 1 := by rw [← hσ]; exact ic9
      have da : (gM_M_deepNow σa).toInt = pq_ldI σ (l - 1) := by rw [← hσ]; exact d9
      have la : (gM_M_lesses σa).toInt = (l - 1 : Nat) := by rw [← hσ]; exact l9
      have lan : (gM_M_lesses σa).toNatClampNeg = l - 1 := by show (gM_M_lesses σa).toInt.toNat = _; rw [la]; rfl
      have nfa : ¬ pq_fl σa := by rw [← hσ]; exact fun z => z nf9
      have n0 : pq_nI σa = 0 := by rw [← hσ]; rfl
      clear hσ
      have hTa := pq_Tb.ex ex.1 ex.2 hT
      have hPa : pq_Pb σa := hP.fr ex.1 fa (by decide) (by decide)
      have cl : ck (gM_M_lesses σa) 200 = true := pq_ck_mk (by omega) (by omega)
      have eL : (aM_M_lessLeft σa (gM_M_lesses σa).toNatClampNeg).toInt = pq_llI σ (l - 1) := by rw [lan]; show (σa.2.1 22 _).toInt = _; rw [fa.2.1 22 (by decide)]; rfl
      have eR : (aM_M_lessRight σa (gM_M_lesses σa).toNatClampNeg).toInt = pq_lrI σ (l - 1) := by rw [lan]; show (σa.2.1 23 _).toInt = _; rw [fa.2.1 23 (by decide)]; rfl
      have sq : pq_Sq Z σa J 0 σa := pq_Sq.start hTa (hB.ex ex.1 bg.1 bg.2) ⟨K0, hK0, sK0.fr fa (by decide) (by decide)⟩ n0
      refine pq_Tot.ite1 cl (pq_Tot.ite1 cl (pq_Tot.ite1 cl (pq_Tot.bd (pq_step_ok sq hPa nfa hN (by omega) (by rw [eL]; exact ex.1.vt top.1) (by rw [eR]; exact ex.1.vt top.2.1) (fun z => ?_) _) (fun r τ hr => ?_))))
      · rw [eL, eR, ex.1.q top.1, ex.1.q top.2.1]; exact top.2.2.1 z
      obtain ⟨hr, m, hm, s1, s2, s3, s4, s5, s6, ⟨K1, s7, s7'⟩, s8, s9⟩ := hr
      have s3' : pq_fr pq_LL pq_AL σ τ := (fa.up (by decide) (by decide)).tr (s3.up (by decide) (by decide))
      have icτ : pq_icI τ = pq_icI σ + 1 := by rw [← ica]; show (τ.1 9).toInt = _; rw [s3.1 9 (by decide)]; rfl
      have bZ : Z → pq_bI τ = pq_bI σ := fun z => (s6 z).trans bg.2
      have stop : pq_Les Z σ J 0 τ := ⟨Or.inl rfl, s1, ex.1.tr s2, s3', s4, bg.1.tr s5, bZ, ⟨by omega, by omega⟩, ⟨K1, by omega, s7'⟩, fun _ => rfl⟩
      refine pq_Tot.ite (fun fτ => pq_Tot.ite (fun _ => pq_Tot.ret stop) (fun _ => pq_Tot.nm ?_)) (fun _ => pq_Tot.ret stop)
      have nfτ : ¬ pq_fl τ := fun z => z fτ
      have stτ : pq_Stk Z τ (l - 1) := by
        have st' : pq_Stk Z σa (l - 1) := by
          refine ⟨la, fun i hi => ?_⟩
          have q := st.2 i (by omega)
          have w1 : pq_llI σa i = pq_llI σ i := by show (σa.2.1 22 _).toInt = _; rw [fa.2.1 22 (by decide)]; rfl
          have w2 : pq_lrI σa i = pq_lrI σ i := by show (σa.2.1 23 _).toInt = _; rw [fa.2.1 23 (by decide)]; rfl
          have w3 : pq_ldI σa i = pq_ldI σ i := by show (σa.2.1 24 _).toInt = _; rw [fa.2.1 24 (by decide)]; rfl
          rw [w1, w2, w3, ex.1.q q.1, ex.1.q q.2.1]
          exact ⟨ex.1.vt q.1, ex.1.vt q.2.1, q.2.2⟩
        exact st'.ex s2 (s3.1 7 (by decide)) (s3.2.1 22 (by decide)) (s3.2.1 23 (by decide)) (s3.2.1 24 (by decide))
      have dτ : (gM_M_deepNow τ).toInt = (pq_ldI σ (l - 1)).toNat := by
        rw [show gM_M_deepNow τ = gM_M_deepNow σa from s3.1 8 (by decide), da]; have := top.2.2.2.1; omega
      have nm1 : (gM_M_nexts τ - 1).toInt = (m : Int) - 1 := by
        have : (gM_M_nexts τ).toInt = m := s8
        rw [pq_iv_sub (by rw [this, pq_iv_1]; omega) (by rw [this, pq_iv_1]; omega), this, pq_iv_1]
      have hPτ : pq_Pb τ := hPa.fr s2 s3 (by decide) (by decide)
      have td := top.2.2.2
      refine pq_less_L198 (Z := Z) (n0 := m) dτ (by omega) hm (s9 nfτ) (fun σ' l' f' st' => ?_) N _ τ (l - 1) pq_fr.rf stτ (by omega) (by omega) (by omega) (by omega)
      rw [M_M_less_b282]
      have e' := f'.ex (by decide)
      have bg' := pq_BG.fr f' (by decide) (by decide) (by decide) (by decide)
      have ic' : pq_icI σ' = pq_icI σ + 1 := by rw [← icτ]; show (σ'.1 9).toInt = _; rw [f'.1 9 (by decide)]; rfl
      have l61 : l' ≤ 61 := by
        by_cases z : l' = 0
        · omega
        · have := (st'.2 (l' - 1) (by omega)).2.2.2; omega
      refine (ih σ' l' (J + 39) (pq_Tb.ex e'.1 e'.2 s1) (hPτ.fr e'.1 f' (by decide) (by decide)) (s4.ex e'.1 bg'.1 bg'.2) (by rw [pq_fl, show gM_M_full σ' = gM_M_full τ from f'.1 2 (by decide)]; exact nfτ) st' l61 ⟨K1, s7, s7'.fr f' (by decide) (by decide)⟩ (by omega) (by omega) (by omega) (by omega)).mono (fun r υ hυ => ?_)
      exact hυ.pre ((ex.1.tr s2).tr e'.1) (s3'.tr (f'.up (by decide) (by decide))) ((bg.1.tr s5).tr bg'.1) (fun z => bg'.2.trans (bZ z)) (by omega) (by omega)
    exact pq_Tot.ite (fun _ => b134 _ _) (fun _ => b134 _ _)
set_option maxRecDepth 100000 in
theorem pq_less_ok {N : Nat} {σ : SM} {J : Nat} {x s t : Int32} (hN : 20002 ≤ N) (hT : pq_Tb σ) (hP : pq_Pb σ) (hB : pq_Bd σ) (hv : ¬ pq_fl σ → pq_vt σ s.toInt ∧ pq_vt σ t.toInt ∧ (Z → pq_qI σ s.toInt.toNat = 1 ∧ pq_qI σ t.toInt.toNat = 1)) (hK : ∃ K', K' ≤ J ∧ pq_Sn K' σ) (i0 : 0 ≤ pq_icI σ) (i1 : pq_icI σ ≤ 20000) (hJ : (J : Int) + 39 * (20000 - pq_icI σ) + 41 < 4294967296) :
    pq_Tot (M_M_less N x s t σ) (pq_Les Z σ J) := by
  rw [M_M_less]
  have c0 : ck (0 : Int32) 200 = true := by decide
  refine pq_Tot.nm (pq_Tot.ite1 c0 (pq_Tot.nm (pq_Tot.ite1 c0 (pq_Tot.nm (pq_Tot.ite1 c0 (pq_Tot.nm (pq_Tot.ite1 c0 (pq_Tot.nm ?_))))))))
  generalize hσ : tM_M_lessDeep _ _ = σ1
  have f : pq_fr [7] [21, 22, 23, 24] σ σ1 := by
    rw [← hσ]; exact pq_fr.t (pq_fr.t (pq_fr.t (pq_fr.t (pq_fr.s pq_fr.rf (by decide) _) (by decide) _) (by decide) _) (by decide) _) (by decide) _
  have ex := f.ex (by decide)
  have bg := pq_BG.fr f (by decide) (by decide) (by decide) (by decide)
  have ic : pq_icI σ1 = pq_icI σ := by show (σ1.1 9).toInt = _; rw [f.1 9 (by decide)]; rfl
  have fu : gM_M_full σ1 = gM_M_full σ := f.1 2 (by decide)
  have l1 : (gM_M_lesses σ1).toInt = 1 := by rw [← hσ]; rfl
  have hT1 := pq_Tb.ex ex.1 ex.2 hT
  obtain ⟨K0, hK0, sK0⟩ := hK
  have s1 : pq_Sn K0 σ1 := sK0.fr f (by decide) (by decide)
  have pre : ∀ {r : Int32} {τ : SM}, pq_Les Z σ1 J r τ → pq_Les Z σ J r τ := fun h => h.pre ex.1 (f.up (by decide) (by decide)) bg.1 (fun _ => bg.2) (by omega) (by omega)
  by_cases nf : pq_fl σ
  ·
    obtain ⟨n, rfl⟩ : ∃ m, N = m + 1 := ⟨N - 1, by omega⟩
    rw [M_M_less_L33]
    refine pq_Tot.ite2 (by rw [pq_iv_le, l1, pq_iv_0]; omega) (pq_Tot.nm ?_)
    have am : (gM_M_lesses σ1 - 1).toInt = 0 := by rw [pq_iv_sub (by rw [l1, pq_iv_1]; omega) (by rw [l1, pq_iv_1]; omega), l1, pq_iv_1]; rfl
    refine pq_Tot.ite1 (pq_ck_mk (by show 0 ≤ (gM_M_lesses σ1 - 1).toInt; omega) (by show (gM_M_lesses σ1 - 1).toInt < _; omega)) (pq_Tot.nm ?_)
    generalize hσ7 : sM_M_deepNow _ _ = σ7
    have f7 : pq_fr [7, 8] [21, 22, 23, 24] σ σ7 := by rw [← hσ7]; exact pq_fr.s (pq_fr.s (f.up (by decide) (by decide)) (by decide) _) (by decide) _
    clear hσ7
    refine pq_Tot.ite2 (by rw [show gM_M_full σ7 = gM_M_full σ from f7.1 2 (by decide)]; exact nf) ?_
    rw [M_M_less_b90, M_M_less_b95]
    refine pq_Tot.ite1 (by decide) (pq_Tot.nm (pq_Tot.ite2 (by decide : (1 : Int32) ≠ 0) (pq_Tot.ret ?_)))
    have f8 : pq_fr [2, 7, 8] [21, 22, 23, 24] σ (sM_M_full σ7 1) := pq_fr.s (f7.up (by decide) (by decide)) (by decide) _
    have ex8 := f8.ex (by decide)
    have bg8 := pq_BG.fr f8 (by decide) (by decide) (by decide) (by decide)
    have ei : pq_icI (sM_M_full σ7 1) = pq_icI σ := by show ((sM_M_full σ7 1).1 9).toInt = _; rw [f8.1 9 (by decide)]; rfl
    exact ⟨Or.inl rfl, pq_Tb.ex ex8.1 ex8.2 hT, ex8.1, f8.up (by decide) (by decide), hB.ex ex8.1 bg8.1 bg8.2, bg8.1, fun _ => bg8.2, ⟨by omega, by omega⟩, ⟨K0, by omega, sK0.fr f8 (by decide) (by decide)⟩, fun _ => rfl⟩
  · have v := hv nf
    have st : pq_Stk Z σ1 1 := by
      refine ⟨l1, fun i hi => ?_⟩
      obtain rfl : i = 0 := by omega
      have a : pq_llI σ1 0 = s.toInt := by rw [← hσ]; rfl
      have b : pq_lrI σ1 0 = t.toInt := by rw [← hσ]; rfl
      have c : pq_ldI σ1 0 = 1 := by rw [← hσ]; rfl
      rw [a, b, c, ex.1.q v.1, ex.1.q v.2.1]
      exact ⟨ex.1.vt v.1, ex.1.vt v.2.1, v.2.2, by omega, by omega⟩
    exact (pq_less_L33 (by omega) N σ1 1 J hT1 (hP.fr ex.1 f (by decide) (by decide)) (hB.ex ex.1 bg.1 bg.2) (by rw [pq_fl, fu]; exact nf) st (by omega) ⟨K0, hK0, s1⟩ (by omega) (by omega) (by omega) (by omega)).mono (fun r τ h => pre h)
