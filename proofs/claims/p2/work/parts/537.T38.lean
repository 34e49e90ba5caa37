set_option maxRecDepth 100000 in
theorem pq_less_full {N : Nat} {σ : SM} {x s t : Int32} (hN : 1 ≤ N) (nf : pq_fl σ) : pq_Tot (M_M_less N x s t σ) (fun r _ => r = 0) := by
  rw [M_M_less]
  have c0 : ck (0 : Int32) 200 = true := by decide
  refine pq_Tot.nm (pq_Tot.ite1 c0 (pq_Tot.nm (pq_Tot.ite1 c0 (pq_Tot.nm (pq_Tot.ite1 c0 (pq_Tot.nm (pq_Tot.ite1 c0 (pq_Tot.nm ?_))))))))
  generalize hσ : tM_M_lessDeep _ _ = σ1
  have fu : gM_M_full σ1 = gM_M_full σ := by rw [← hσ]; rfl
  have l1 : gM_M_lesses σ1 = 1 := by rw [← hσ]; rfl
  clear hσ
  obtain ⟨n, hn⟩ : ∃ m, N = m + 1 := ⟨N - 1, by omega⟩
  have key : pq_Tot (M_M_less_L33 N (n + 1) σ1) (fun r _ => r = 0) := by
    rw [M_M_less_L33]
    refine pq_Tot.ite2 (by rw [l1]; decide) (pq_Tot.nm (pq_Tot.ite1 (by show ck (gM_M_lesses σ1 - 1) 200 = true; rw [l1]; decide) (pq_Tot.nm (pq_Tot.ite2 (fun z => nf (by rw [← fu]; exact z)) ?_))))
    rw [M_M_less_b90, M_M_less_b95]
    exact pq_Tot.ite1 (by decide) (pq_Tot.nm (pq_Tot.ite2 (by decide : (1 : Int32) ≠ 0) (pq_Tot.ret rfl)))
  rw [← hn] at key
  exact key
abbrev pq_LY : List Nat := [1, 2, 3, 5, 6, 7, 8, 9, 10, 12, 13, 15, 16, 17, 21]
abbrev pq_AY : List Nat := [3, 4, 5, 6, 7, 8, 9, 12, 13, 14, 15, 16, 17, 18, 19, 20, 21, 22, 23, 24, 25, 26, 27, 28, 29, 30, 31, 38, 39, 40]
def pq_Gy (σ τ : SM) : Prop := pq_Ex σ τ ∧ pq_fr pq_LY pq_AY σ τ ∧ pq_BG σ τ
set_option maxRecDepth 100000 in
theorem pq_Gy.rf {σ : SM} : pq_Gy σ σ := ⟨pq_Ex.rf, pq_fr.rf, pq_BG.rf⟩
set_option maxRecDepth 100000 in
theorem pq_Gy.tr {σ τ υ : SM} (h : pq_Gy σ τ) (k : pq_Gy τ υ) : pq_Gy σ υ := ⟨h.1.tr k.1, h.2.1.tr k.2.1, h.2.2.tr k.2.2⟩
set_option maxRecDepth 100000 in
theorem pq_Gc.y {σ τ : SM} (g : pq_Gc σ τ) : pq_Gy σ τ := ⟨g.1, g.2.1.up (by decide) (by decide), g.2.2⟩
set_option maxRecDepth 100000 in
theorem pq_Gh.y {σ τ : SM} (g : pq_Gh σ τ) : pq_Gy σ τ := ⟨g.1, g.2.1.up (by decide) (by decide), g.2.2⟩
set_option maxRecDepth 100000 in
theorem pq_Gn.y {σ τ : SM} (g : pq_Gn σ τ) : pq_Gy σ τ := g.c.y
set_option maxRecDepth 100000 in
theorem pq_Gy.va {σ τ : SM} (g : pq_Gy σ τ) : gM_M_variables τ = gM_M_variables σ := g.2.1.1 4 (by decide)
set_option maxRecDepth 100000 in
theorem pq_Gy.wi {σ τ : SM} (g : pq_Gy σ τ) : aM_M_with τ = aM_M_with σ := g.2.1.2.1 37 (by decide)
set_option maxRecDepth 100000 in
theorem pq_Gc.he {σ τ : SM} (g : pq_Gc σ τ) : pq_heI τ = pq_heI σ := by show (τ.1 17).toInt = _; rw [g.2.1.1 17 (by decide)]; rfl
section CA
variable {N : Nat} {Q : Int32 → SM → Prop}
def pq_Cho (σ : SM) (n : Int) : Prop := ∀ x : Nat, (x : Int) < n → aM_M_with σ x ≠ 0 → pq_Ar σ (aM_M_chosen σ x).toInt
set_option maxRecDepth 100000 in
theorem pq_ca_L4 {BB : Int} (hN : 20002 ≤ N) (hBB : BB + 300 < 4294967296) {k71 : Int32 → SM → Option (Int32 × SM)} {σ0 : SM} (hv : 0 ≤ pq_vaI σ0 ∧ pq_vaI σ0 ≤ 12)
    (hk : ∀ σ' v1, pq_Wo BB σ' → pq_Gy σ0 σ' → pq_heI σ' = pq_heI σ0 → (pq_fl σ' → v1 = 0) → (v1 = 0 ∨ v1 = 1) → (v1 ≠ 0 → pq_Cho σ' (pq_vaI σ0)) → pq_Tot (k71 v1 σ') Q) :
    ∀ (n : Nat) (v1 v2 : Int32) (σ : SM) (B : Int), pq_Wo B σ → pq_Gy σ0 σ → pq_heI σ = pq_heI σ0 → (pq_fl σ → v1 = 0) → (v1 = 0 ∨ v1 = 1) → (v1 ≠ 0 → pq_Cho σ v2.toInt) → 0 ≤ v2.toInt → v2.toInt ≤ pq_vaI σ0 → B + 195000 * (12 - v2.toInt) ≤ BB → pq_vaI σ0 - v2.toInt < n → pq_Tot (M_M_chooseAll_L4 N k71 n v1 v2 σ) Q := by
  intro n
  induction n with
  | zero => intro v1 v2 σ B _ _ _ _ _ _ _ _ _ h; omega
  | succ n ih =>
    intro v1 v2 σ B h gy he hf hz hc z0 z1 hb hn
    rw [M_M_chooseAll_L4]
    refine pq_Tot.ite (fun le => hk σ v1 (h.le (by omega)) gy he hf hz (fun nz => ?_)) (fun lt => pq_Tot.ite (fun ez => hk σ v1 (h.le (by omega)) gy he hf hz (fun nz => absurd ez nz)) (fun nz => ?_))
    · rw [pq_iv_le, gy.va] at le
      have : (gM_M_variables σ0).toInt = pq_vaI σ0 := rfl
      have e : pq_vaI σ0 = v2.toInt := by omega
      rw [e]; exact hc nz
    rw [pq_iv_le, gy.va] at lt
    have lt' : v2.toInt < pq_vaI σ0 := by simp only [pq_vaI]; omega
    have nf : ¬ pq_fl σ := fun z => nz (hf z)
    have c2 : ck v2 12 = true := pq_ck_mk z0 (by omega)
    have e2 : (v2 + 1).toInt = v2.toInt + 1 := pq_iv_add (by rw [pq_iv_1]; omega) (by rw [pq_iv_1]; omega)
    have b39 : ∀ (τ : SM) (s : Int32) (B' : Int), pq_Wo B' τ → pq_Gy σ0 τ → pq_heI τ = pq_heI σ0 → aM_M_with τ = aM_M_with σ → aM_M_chosen τ = aM_M_chosen σ → pq_Ex σ τ → B' + 195000 * (11 - v2.toInt) ≤ BB → (pq_fl τ → s = -1 ∧ aM_M_with σ v2.toInt.toNat ≠ 0) → (s ≠ -1 → pq_Ar τ s.toInt) → pq_Tot (M_M_chooseAll_b39 N (M_M_chooseAll_L4 N k71 n) v2 s v2 τ) Q := fun τ s B' w g e hw hch ex hb' hs1 hs2 => by
      rw [M_M_chooseAll_b39]
      refine pq_Tot.ite1 c2 (pq_Tot.nm ?_)
      have v2n : v2.toNatClampNeg = v2.toInt.toNat := rfl
      rw [v2n]
      generalize hυ : tM_M_chosen τ (upd (aM_M_chosen τ) v2.toInt.toNat s) = υ
      have f : pq_fr [] [38] τ υ := by rw [← hυ]; exact pq_fr.t pq_fr.rf (by decide) _
      have q := w.cell f (by decide) (by decide) (by decide) (by decide) (by decide) (by decide) (by decide) (by decide) (by decide) (by decide)
      have gυ : pq_Gy σ0 υ := g.tr ⟨q.2.1, f.up (by decide) (by decide), q.2.2.1⟩
      have heυ : pq_heI υ = pq_heI σ0 := by rw [← e]; show (υ.1 17).toInt = _; rw [f.1 17 (by decide)]; rfl
      have wυ : aM_M_with υ = aM_M_with σ := by rw [← hw]; exact f.2.1 37 (by decide)
      have fυ : pq_fl υ ↔ pq_fl τ := by rw [pq_fl, pq_fl, show gM_M_full υ = gM_M_full τ from f.1 2 (by decide)]
      have chυ : ∀ x, aM_M_chosen υ x = if x = v2.toInt.toNat then s else aM_M_chosen σ x := fun x => by rw [← hυ, ← hch]; rfl
      clear hυ
      have cho : (s ≠ -1 ∨ aM_M_with σ v2.toInt.toNat = 0) → pq_Cho υ (v2 + 1).toInt := fun hh x hx wx => by
        rw [chυ]
        rw [wυ] at wx
        by_cases ex' : x = v2.toInt.toNat
        · rw [if_pos ex']
          rw [ex'] at wx
          rcases hh with hh | hh
          · exact (hs2 hh).ex q.2.1
          · exact absurd hh wx
        · rw [if_neg ex']
          exact (hc nz x (by omega) wx).ex (ex.tr q.2.1)
      have nx : ∀ s' : Int32, (s' = 0 ∨ s' = 1) → (pq_fl υ → s' = 0) → (s' ≠ 0 → pq_Cho υ (v2 + 1).toInt) → pq_Tot (M_M_chooseAll_b64 N (M_M_chooseAll_L4 N k71 n) v2 s' υ) Q := fun s' a b c => by
        rw [M_M_chooseAll_b64]
        exact pq_Tot.nm (ih s' (v2 + 1) υ B' q.1 gυ heυ b a c (by omega) (by omega) (by omega) (by omega))
      rw [wυ]
      refine pq_Tot.ite1 c2 (pq_Tot.ite (fun w0 => ?_) (fun w1 => pq_Tot.ite1 c2 (pq_Tot.ite (fun e1 => nx 0 (Or.inl rfl) (fun _ => rfl) (fun z => absurd rfl z)) (fun n1 => ?_))))
      · rw [M_M_chooseAll_b59]
        exact nx 1 (Or.inr rfl) (fun z => absurd w0 (hs1 (fυ.1 z)).2) (fun _ => cho (Or.inr w0))
      · rw [M_M_chooseAll_b59]
        rw [chυ, if_pos rfl] at n1
        exact nx 1 (Or.inr rfl) (fun z => absurd (hs1 (fυ.1 z)).1 n1) (fun _ => cho (Or.inl n1))
    refine pq_Tot.ite1 c2 (pq_Tot.ite (fun w0 => b39 σ (-1) B h gy he rfl rfl pq_Ex.rf (by omega) (fun z => absurd z nf) (fun z => absurd rfl z)) (fun w1 => ?_))
    refine pq_Tot.bd (pq_choose_ok hN (by omega) h nf) (fun r τ hr => ?_)
    exact b39 τ r _ hr.1 (gy.tr hr.2.1.y) (hr.2.1.he.trans he) hr.2.1.y.wi (hr.2.1.2.1.2.1 38 (by decide)) hr.2.1.1 (by omega) (fun z => ⟨hr.2.2.1 z, w1⟩) hr.2.2.2
def pq_Ca (C : Int) (σ : SM) (r : Int32) (τ : SM) : Prop := (r = 0 ∨ r = 1) ∧ pq_Ho C τ ∧ pq_Gy σ τ ∧ (pq_fl τ → r = 0) ∧ (r ≠ 0 → ∀ x : Nat, (x : Int) < pq_vaI σ → aM_M_with σ x ≠ 0 → pq_Setd τ x)
set_option maxRecDepth 100000 in
theorem pq_ca_L73 {C : Int} (hN : 20002 ≤ N) (hC : C + 18546800 + 1300 < 4294967296) {σ0 : SM} (hv : 0 ≤ pq_vaI σ0 ∧ pq_vaI σ0 ≤ 12) :
    ∀ (n : Nat) (v1 v2 : Int32) (σ : SM), pq_Ho C σ → pq_Gy σ0 σ → (pq_fl σ → v1 = 0) → (v1 = 0 ∨ v1 = 1) → (v1 ≠ 0 → pq_Cho σ (pq_vaI σ0)) → (v1 ≠ 0 → ∀ x : Nat, (x : Int) < v2.toInt → aM_M_with σ0 x ≠ 0 → pq_Setd σ x) → 0 ≤ v2.toInt → v2.toInt ≤ pq_vaI σ0 → pq_vaI σ0 - v2.toInt < n → pq_Tot (M_M_chooseAll_L73 N n v1 v2 σ) (pq_Ca C σ0) := by
  intro n
  induction n with
  | zero => intro v1 v2 σ _ _ _ _ _ _ _ _ h; omega
  | succ n ih =>
    intro v1 v2 σ h gy hf hz hc hs z0 z1 hn
    rw [M_M_chooseAll_L73]
    have zb1 : zb v1 = true := decide_eq_true hz
    refine pq_Tot.ite (fun le => pq_Tot.ite1 zb1 (pq_Tot.ret ⟨hz, h, gy, hf, fun nz x hx wx => hs nz x ?_ wx⟩)) (fun lt => pq_Tot.ite (fun ez => pq_Tot.ite1 zb1 (pq_Tot.ret ⟨hz, h, gy, hf, fun nz => absurd ez nz⟩)) (fun nz => ?_))
    · rw [pq_iv_le, gy.va] at le
      have : (gM_M_variables σ0).toInt = pq_vaI σ0 := rfl
      omega
    rw [pq_iv_le, gy.va] at lt
    have lt' : v2.toInt < pq_vaI σ0 := by simp only [pq_vaI]; omega
    have nf : ¬ pq_fl σ := fun z => nz (hf z)
    have c2 : ck v2 12 = true := pq_ck_mk z0 (by omega)
    have v2n : v2.toNatClampNeg = v2.toInt.toNat := rfl
    have e2 : (v2 + 1).toInt = v2.toInt + 1 := pq_iv_add (by rw [pq_iv_1]; omega) (by rw [pq_iv_1]; omega)
    have b130 : ∀ (τ : SM) (s : Int32), pq_Ho C τ → pq_Gy σ τ → (pq_fl τ → s = 0) → (s = 0 ∨ s = 1) → (s ≠ 0 → aM_M_chosen τ = aM_M_chosen σ) → (s ≠ 0 → aM_M_with σ0 v2.toInt.toNat ≠ 0 → pq_Setd τ v2.toInt) → pq_Tot (M_M_chooseAll_b130 N (M_M_chooseAll_L73 N n) s v2 τ) (pq_Ca C σ0) := fun τ s w g a b c d => by
      rw [M_M_chooseAll_b130]
      refine pq_Tot.nm (ih s (v2 + 1) τ w (gy.tr g) a b (fun ns x hx wx => ?_) (fun ns x hx wx => ?_) (by omega) (by omega) (by omega))
      · rw [c ns]; rw [g.wi] at wx
        exact (hc nz x hx wx).ex g.1
      · by_cases ex' : (x : Int) = v2.toInt
        · rw [ex']; exact d ns (by rw [show v2.toInt.toNat = x by omega]; exact wx)
        · exact (hs nz x (by omega) wx).g h.1.2.2.1 g.1 g.2.2
    have wi0 : aM_M_with σ = aM_M_with σ0 := gy.wi
    have stop : ∀ (τ : SM), pq_Ho C τ → pq_Gy σ τ → pq_Tot (M_M_chooseAll_b128 N (M_M_chooseAll_L73 N n) v2 τ) (pq_Ca C σ0) := fun τ w g => by
      rw [M_M_chooseAll_b128, M_M_chooseAll_b129]
      exact b130 τ 0 w g (fun _ => rfl) (Or.inl rfl) (fun z => absurd rfl z) (fun z => absurd rfl z)
    refine pq_Tot.ite1 c2 (pq_Tot.ite (fun w0 => b130 σ v1 h pq_Gy.rf hf hz (fun _ => rfl) (fun _ z => absurd (by rw [← wi0]; exact w0) z)) (fun w1 => ?_))
    have cx := hc nz v2.toInt.toNat (by omega) w1
    have hB2 : pq_pr (pq_heI σ).toNat ≤ 18546800 := by rw [← pq_pr200]; exact pq_pr_mono (by have := h.2.2; have := h.1.2.2.1.2.1; omega)
    refine pq_Tot.bd (h.1.make (by omega) (fun _ => pq_Okk.var ⟨z0, by omega⟩)) (fun r6 σ7 h7 => pq_Tot.ite1 c2 ?_)
    obtain ⟨a1, a2, a3, a4, a5, a6, a7⟩ := h7
    have ch7 : aM_M_chosen σ7 v2.toNatClampNeg = aM_M_chosen σ v2.toInt.toNat := by show σ7.2.1 38 _ = _; rw [a4.2.1 38 (by decide)]; rfl
    rw [ch7]
    have c7 := cx.ex a2.1
    have less7 : pq_Tot (M_M_less N 3 r6 (aM_M_chosen σ v2.toInt.toNat) σ7) (fun r τ => (r = 0 ∨ r = 1) ∧ pq_Wo (C + pq_pr (pq_heI σ).toNat) τ ∧ pq_Gn σ7 τ ∧ (pq_fl τ → r = 0) ∧ (r ≠ 0 → pq_Hb τ 0 v2.toInt (aM_M_chosen σ v2.toInt.toNat).toInt)) := by
      by_cases f7 : pq_fl σ7
      · refine ((a1.less (Z := False) hN (by omega) (fun z => absurd f7 z)).det (pq_less_full (by omega) f7)).mono (fun r τ hr => ?_)
        exact ⟨hr.1.1, hr.1.2.1, hr.1.2.2.1, hr.1.2.2.2.1, fun nr => absurd hr.2 nr⟩
      · obtain ⟨x1, p1, p2, p3, p4⟩ := a7 f7
        have ne : r6 ≠ aM_M_chosen σ v2.toInt.toNat := fun z => by
          have := pq_pr_n7 a1.1 c7.1 c7.2
          rw [← z] at this
          exact this p1
        refine (a1.lessv hN (by omega) f7 x1 c7.1 p1 ne).mono (fun r τ hr => ?_)
        rw [p2] at hr
        exact hr
    refine pq_Tot.bd less7 (fun r8 σ9 h9 => ?_)
    obtain ⟨l1, l2, l3, l4, l5⟩ := h9
    have g9 := a2.tr l3
    have ho9 : pq_Ho C σ9 := pq_Ho.gn g9 l2 h.2.1 h.2.2 (Int.le_refl _)
    refine pq_Tot.ite (fun _ => stop σ9 ho9 g9.y) (fun n8 => ?_)
    have nf9 : ¬ pq_fl σ9 := fun z => n8 (l4 z)
    refine pq_Tot.bd (pq_hold_ok hN (by omega) ho9 nf9) (fun r10 σ11 h11 => ?_)
    obtain ⟨m1, m2, m3, m4⟩ := h11
    have g11 : pq_Gy σ σ11 := g9.y.tr m3.y
    refine pq_Tot.ite (fun _ => stop σ11 m2 g11) (fun n10 => ?_)
    rw [M_M_chooseAll_b129]
    refine b130 σ11 1 m2 g11 (fun z => absurd (m4 z) n10) (Or.inr rfl) (fun _ => ?_) (fun _ _ => ?_)
    · rw [show aM_M_chosen σ11 = aM_M_chosen σ9 from m3.2.1.2.1 38 (by decide), show aM_M_chosen σ9 = aM_M_chosen σ from g9.2.1.2.1 38 (by decide)]
    · refine ⟨(aM_M_chosen σ v2.toInt.toNat).toInt, (l5 n8).bg m3.2.2, ?_⟩
      rw [(l3.1.tr m3.1).q c7.1]; exact c7.2
end CA
set_option maxRecDepth 100000 in
theorem pq_Gy.ho {B C : Int} {σ τ : SM} (g : pq_Gy σ τ) (w : pq_Wo B τ) (he : pq_heI τ = pq_heI σ) (h0 : 0 ≤ pq_heI σ) (h1 : pq_heI σ ≤ pq_bI σ) (hb : B ≤ C + pq_pr (pq_heI σ).toNat) : pq_Ho C τ := by
  have := g.2.2.1
  exact ⟨by rw [he]; exact w.le hb, by rw [he]; exact h0, by rw [he]; omega⟩
set_option maxRecDepth 100000 in
theorem pq_chooseAll_ok {N : Nat} {C : Int} {σ : SM} (hN : 20002 ≤ N) (hC : C + 2340000 + 18546800 + 1400 < 4294967296) (hv : 0 ≤ pq_vaI σ ∧ pq_vaI σ ≤ 12) (h : pq_Ho C σ) (nf : ¬ pq_fl σ) : pq_Tot (M_M_chooseAll N σ) (pq_Ca (C + 2340000) σ) := by
  rw [M_M_chooseAll]
  have hB2 : pq_pr (pq_heI σ).toNat ≤ 18546800 := by rw [← pq_pr200]; exact pq_pr_mono (by have := h.2.2; have := h.1.2.2.1.2.1; omega)
  refine pq_ca_L4 (BB := C + pq_pr (pq_heI σ).toNat + 2340000) (σ0 := σ) hN (by omega) hv (fun σ' v1 w g he hf hz hc => ?_) N 1 0 σ _ h.1 pq_Gy.rf rfl (fun z => absurd z nf) (Or.inr rfl) (fun _ x hx => by rw [pq_iv_0] at hx; omega) (by decide) (by rw [pq_iv_0]; exact hv.1) (by rw [pq_iv_0]; omega) (by rw [pq_iv_0]; omega)
  rw [M_M_chooseAll_b71]
  exact pq_ca_L73 hN (by omega) hv N v1 0 σ' (g.ho w he h.2.1 h.2.2 (by omega)) g hf hz hc (fun _ x hx => by rw [pq_iv_0] at hx; omega) (by decide) (by rw [pq_iv_0]; exact hv.1) (by rw [pq_iv_0]; omega)
