set_option maxRecDepth 100000 in
theorem pq_Wo.aboveF {B : Int} {σ : SM} {N : Nat} (h : pq_Wo B σ) (hN : 3000 ≤ N) (hf : pq_fl σ) {a c : Int32} : pq_Tot (M_M_aboveOf N a c σ) (fun r τ => pq_Wo B τ ∧ pq_Gn σ τ ∧ r = -1 ∧ pq_fl τ) := by
  refine (pq_aboveOf_full hN hf).mono (fun r τ hr => ?_)
  obtain ⟨a1, a2, a3⟩ := hr
  have q := h.cell a3 (by decide) (by decide) (by decide) (by decide) (by decide) (by decide) (by decide) (by decide) (by decide) (by decide)
  exact ⟨q.1, ⟨q.2.1, a3.up (by decide) (by decide), q.2.2.1⟩, a1, a2⟩
section JN
variable {N : Nat} {Q : Int32 → SM → Prop}
set_option maxRecDepth 100000 in
theorem pq_Gn.com {σ τ : SM} (g : pq_Gn σ τ) : aM_M_common τ = aM_M_common σ := g.2.1.2.1 40 (by decide)
set_option maxRecDepth 100000 in
theorem pq_jn_L148 {BB : Int} (hN : 20002 ≤ N) (hBB : BB + 100 < 4294967296) {g : Nat} {v2 v3 : Int32} (e3 : v3.toInt = g) {k206 : Int32 → Int32 → Int32 → SM → Option (Int32 × SM)} :
    ∀ (n : Nat) (v4 v5 : Int32) (σ : SM) (B : Int), pq_Wo B σ → (g : Int) < pq_cI σ → 0 ≤ v5.toInt → v5.toInt ≤ pq_cI σ → B + (39 - g) * (40 - v5.toInt) ≤ BB → pq_cI σ - v5.toInt < n →
      (∀ σ' v4', pq_Wo BB σ' → pq_Gn σ σ' → (v4' ≠ 0 → v4 ≠ 0) → ((∀ h : Nat, g < h → (h : Int) < pq_cI σ → aM_M_common σ h = 0) → v4 ≠ 0 → v4' ≠ 0) → pq_Tot (k206 v2 v3 v4' σ') Q) → pq_Tot (M_M_join_L148 N k206 n v2 v3 v4 v5 σ) Q := by
  intro n
  induction n with
  | zero => intro v4 v5 σ B _ _ _ _ _ h; omega
  | succ n ih =>
    intro v4 v5 σ B h hg z0 z1 hb hn hk
    have c40 := h.1.2.1
    have hgn : (0 : Int) ≤ 39 - g := by omega
    have prod : (0 : Int) ≤ (39 - g) * (40 - v5.toInt) := Int.mul_nonneg hgn (by omega)
    rw [M_M_join_L148]
    refine pq_Tot.ite (fun _ => hk σ v4 (h.le (by omega)) pq_Gn.rf id (fun _ => id)) (fun lt => pq_Tot.ite (fun _ => hk σ v4 (h.le (by omega)) pq_Gn.rf id (fun _ => id)) (fun n4 => ?_))
    rw [pq_iv_le] at lt
    have lt' : v5.toInt < pq_cI σ := by simp only [pq_cI]; omega
    have e5 : (v5 + 1).toInt = v5.toInt + 1 := pq_iv_add (by rw [pq_iv_1]; omega) (by rw [pq_iv_1]; omega)
    have psub : (39 - (g : Int)) * (40 - v5.toInt) = (39 - g) * (40 - (v5.toInt + 1)) + (39 - g) := by
      rw [show 40 - v5.toInt = (40 - (v5.toInt + 1)) + 1 by omega, Int.mul_add, Int.mul_one]
    have prod1 : (0 : Int) ≤ (39 - g) * (40 - (v5.toInt + 1)) := Int.mul_nonneg hgn (by omega)
    have b198 : ∀ (s : Int32) (τ : SM) (B' : Int), pq_Wo B' τ → pq_Gn σ τ → B' ≤ B + (39 - g) → ((∀ h : Nat, g < h → (h : Int) < pq_cI σ → aM_M_common σ h = 0) → s ≠ 0) → pq_Tot (M_M_join_b198 N (M_M_join_L148 N k206 n) v2 v3 v5 s τ) Q := fun s τ B' w gn hb' hs => by
      rw [M_M_join_b198]
      refine pq_Tot.nm (ih s (v5 + 1) τ B' w (by rw [gn.1.1]; exact hg) (by omega) (by rw [gn.1.1]; omega) (by rw [e5]; omega) (by rw [gn.1.1]; omega) (fun σ' v4' a b c d => hk σ' v4' a (gn.tr b) (fun z => n4) (fun k _ => ?_)))
      refine d (fun h hh hc => ?_) (hs k)
      rw [gn.com]; exact k h hh (by rw [← gn.1.1]; exact hc)
    have b193 : ∀ (τ : SM) (B' : Int), pq_Wo B' τ → pq_Gn σ τ → B' ≤ B + (39 - g) → pq_Tot (M_M_join_b193 N (M_M_join_L148 N k206 n) v2 v3 v5 τ) Q := fun τ B' w gn hb' => by
      rw [M_M_join_b193]; exact b198 1 τ B' w gn hb' (fun _ => by decide)
    refine pq_Tot.ite (fun _ => b193 σ B h pq_Gn.rf (by omega)) (fun n53 => pq_Tot.ite1 (pq_ck_mk z0 (by omega)) (pq_Tot.ite (fun _ => b193 σ B h pq_Gn.rf (by omega)) (fun nc => ?_)))
    refine pq_Tot.bd (h.plain (by omega) (fun _ => ⟨z0, lt'⟩)) (fun r9 σ10 h10 => ?_)
    obtain ⟨a1, a2, a3, a4, a5, a6, a7⟩ := h10
    by_cases f10 : pq_fl σ10
    · refine pq_Tot.bd (a1.aboveF (by omega) f10) (fun r11 σ12 h12 => ?_)
      rw [h12.2.2.1]
      exact pq_Tot.ite1 rfl (b193 σ12 B h12.1 (a2.tr h12.2.1) (by omega))
    · have x := a7 f10
      refine pq_Tot.bd (a1.above (by omega) (by omega) f10 x.1 e3 (by rw [a2.1.1]; exact hg)) (fun r11 σ12 h12 => ?_)
      obtain ⟨b1, b2, b3, b4, b5⟩ := h12
      refine pq_Tot.ite (fun _ => b193 σ12 _ b1 (a2.tr b2) (by omega)) (fun nr => b198 0 σ12 _ b1 (a2.tr b2) (by omega) (fun k => ?_))
      have nf12 : ¬ pq_fl σ12 := fun z => nr (b4 z)
      have fn : pq_fnd σ10 r9.toInt g := Classical.byContradiction (fun w => nr ((b5 nf12).2 w))
      exfalso
      have hne : v5.toInt ≠ g := fun z => n53 (pq_iv_eq.2 (by omega))
      have v5n : v5.toNatClampNeg = v5.toInt.toNat := rfl
      by_cases hlt : v5.toInt < g
      · rcases fn with y | y
        · omega
        · have y := (pq_fc_base (Or.inl x.2.1)).1 y
          rw [x.2.2.1] at y
          have := a1.2.1.le v5.toInt.toNat (by omega) y
          omega
      · exact nc (by rw [v5n]; exact k v5.toInt.toNat (by omega) (by omega))
def pq_bG : Nat → Int
  | 0 => 0
  | m + 1 => pq_bG m + 40 * m
set_option maxRecDepth 100000 in
theorem pq_bG_nn : ∀ m, 0 ≤ pq_bG m
  | 0 => Int.le_refl _
  | m + 1 => by rw [pq_bG]; have := pq_bG_nn m; omega
set_option maxRecDepth 100000 in
theorem pq_bG40 : pq_bG 40 = 31200 := by decide
set_option maxRecDepth 100000 in
theorem pq_jn_L124 {BB : Int} (hN : 20002 ≤ N) (hBB : BB + 100 < 4294967296) {k232 : Int32 → SM → Option (Int32 × SM)} {σ0 : SM}
    (hk : ∀ σ' (v2 : Int32) (c : Nat), pq_Wo BB σ' → pq_Gn σ0 σ' → ¬ pq_fl σ' → v2.toInt = c → (c : Int) < pq_cI σ' → aM_M_common σ' c ≠ 0 → pq_Tot (k232 v2 σ') Q) (hq : ∀ σ', pq_Wo BB σ' → pq_Gn σ0 σ' → Q (-1) σ') :
    ∀ (n m g : Nat) (v2 v3 : Int32) (σ : SM) (B : Int), pq_Wo B σ → pq_Gn σ0 σ → ¬ pq_fl σ → v3.toInt = g → g + m = 40 → (v2 = -1 → ∃ gm : Nat, g ≤ gm ∧ (gm : Int) < pq_cI σ ∧ aM_M_common σ gm ≠ 0 ∧ ∀ h : Nat, gm < h → (h : Int) < pq_cI σ → aM_M_common σ h = 0) → (v2 ≠ -1 → ∃ c : Nat, v2.toInt = c ∧ (c : Int) < pq_cI σ ∧ aM_M_common σ c ≠ 0) → B + pq_bG m ≤ BB → m < n → pq_Tot (M_M_join_L124 N k232 n v2 v3 σ) Q := by
  intro n
  induction n with
  | zero => intro m g v2 v3 σ B _ _ _ _ _ _ _ _ h; omega
  | succ n ih =>
    intro m g v2 v3 σ B h gn nf e3 hm hv hw hb hn
    have hr0 := pq_bG_nn m
    have c40 := h.1.2.1
    rw [M_M_join_L124]
    have fin : v2 ≠ -1 → pq_Tot (k232 v2 σ) Q := fun ne => by
      obtain ⟨c, a, b, d⟩ := hw ne
      exact hk σ v2 c (h.le (by omega)) gn nf a b d
    refine pq_Tot.ite (fun le => fin (fun z => ?_)) (fun lt => pq_Tot.ite (fun e2 => ?_) (fun n2 => fin n2))
    · rw [pq_iv_le, e3] at le
      obtain ⟨gm, a, b, _⟩ := hv z
      have : (gM_M_classes σ).toInt = pq_cI σ := rfl
      omega
    rw [pq_iv_le, e3] at lt
    have lt' : (g : Int) < pq_cI σ := by simp only [pq_cI]; omega
    obtain ⟨m, rfl⟩ : ∃ k, m = k + 1 := ⟨m - 1, by omega⟩
    rw [pq_bG] at hb
    have hr1 := pq_bG_nn m
    have e3n : v3.toNatClampNeg = g := by show v3.toInt.toNat = g; rw [e3]; rfl
    have e1 : (v3 + 1).toInt = (g + 1 : Nat) := by rw [pq_iv_add (by rw [pq_iv_1]; omega) (by rw [pq_iv_1]; omega), e3, pq_iv_1]; omega
    obtain ⟨gm, g1, g2, g3, g4⟩ := hv e2
    refine pq_Tot.ite1 (pq_ck_mk (by omega) (by omega)) (pq_Tot.nm ?_)
    rw [e3n]
    have hgn : (0 : Int) ≤ 39 - g := by omega
    refine pq_jn_L148 (BB := B + 40 * m) hN (by omega) e3 N _ 0 σ B h lt' (by decide) (by rw [pq_iv_0]; have := h.1.1; omega) ?_ (by rw [pq_iv_0]; omega) (fun σ' v4' w' g' a b => ?_)
    · rw [pq_iv_0]
      have : (39 - (g : Int)) * (40 - 0) = 40 * m := by
        rw [show (39 - (g : Int)) = m by omega, Int.mul_comm]; rfl
      omega
    · rw [M_M_join_b206]
      refine pq_Tot.ite (fun f0 => pq_Tot.ite (fun z4 => ?_) (fun n4 => ?_)) (fun _ => pq_Tot.ret (hq σ' (w'.le (by omega)) (gn.tr g')))
      · rw [M_M_join_b225]
        refine pq_Tot.nm (ih m (g + 1) v2 (v3 + 1) σ' _ w' (gn.tr g') (fun z => z f0) e1 (by omega) (fun _ => ⟨gm, ?_, by rw [g'.1.1]; exact g2, by rw [g'.com]; exact g3, fun h hh hc => by rw [g'.com]; exact g4 h hh (by rw [← g'.1.1]; exact hc)⟩) (fun z => absurd e2 z) (by omega) (by omega))
        refine Classical.byContradiction (fun w => ?_)
        have : g = gm := by omega
        subst this
        exact b g4 g3 z4
      · rw [M_M_join_b225]
        have ne : v3 ≠ -1 := pq_ne_m1 (by omega)
        exact pq_Tot.nm (ih m (g + 1) v3 (v3 + 1) σ' _ w' (gn.tr g') (fun z => z f0) e1 (by omega) (fun z => absurd z ne) (fun _ => ⟨g, e3, by rw [g'.1.1]; exact lt', by rw [g'.com]; exact a n4⟩) (by omega) (by omega))
set_option maxRecDepth 100000 in
theorem pq_last {P : Nat → Prop} : ∀ n : Nat, P 0 → 0 < n → ∃ g, g < n ∧ P g ∧ ∀ h, g < h → h < n → ¬ P h := by
  intro n
  induction n with
  | zero => intro _ h; omega
  | succ n ih =>
    intro h0 _
    by_cases hn : n = 0
    · subst hn; exact ⟨0, by omega, h0, fun h a b => by omega⟩
    · by_cases hp : P n
      · exact ⟨n, by omega, hp, fun h a b => by omega⟩
      · obtain ⟨g, a, b, c⟩ := ih h0 (by omega)
        refine ⟨g, by omega, b, fun h hh hl => ?_⟩
        by_cases e : h = n
        · rw [e]; exact hp
        · exact c h hh (by omega)
set_option maxRecDepth 100000 in
theorem pq_join_ok {B : Int} {σ : SM} (hN : 20002 ≤ N) (hB : B + 195000 + 200 < 4294967296) (h : pq_Wo B σ) (nf : ¬ pq_fl σ) (sm : pq_Sm σ) (s1 : 1 ≤ pq_smI σ) : pq_Tot (M_M_join N σ) (pq_Cc (B + 195000) σ) := by
  have b120 : ∀ τ, pq_Wo (B + 156000) τ → pq_Gc σ τ → pq_Sm τ → pq_smI τ = pq_smI σ → ¬ pq_fl τ → (∀ n : Nat, (n : Int) ≤ pq_cI τ → pq_Cm τ n) → pq_Tot (M_M_join_b120 N τ) (pq_Cc (B + 195000) σ) := fun τ w gc smt se nft cm => by
    rw [M_M_join_b120]
    have c9 := w.1.1
    have c40 := w.1.2.1
    have cm' := cm (pq_cI τ).toNat (by omega)
    have com0 : aM_M_common τ 0 ≠ 0 := (cm' 0 (by omega)).2 (fun i hi => Or.inl ⟨rfl, (smt.2.2 i hi).2.2⟩)
    obtain ⟨gm, m1, m2, m3⟩ := pq_last (P := fun g => aM_M_common τ g ≠ 0) (pq_cI τ).toNat com0 (by omega)
    refine pq_jn_L124 (BB := B + 156000 + 31200) (σ0 := τ) hN (by omega) (fun σ' v2 c w' g' nf' e2 hc cc => ?_) (fun σ' w' g' => ⟨w'.le (by omega), gc.tr g'.c, fun _ => rfl, fun z => absurd rfl z⟩) N 40 0 (-1) 0 τ _ w pq_Gn.rf nft rfl rfl (fun _ => ⟨gm, by omega, by omega, m2, fun h a b => Classical.byContradiction (m3 h a (by omega))⟩) (fun z => absurd rfl z) (by rw [pq_bG40]; omega) (by omega)
    rw [M_M_join_b232]
    have sm' := smt.gn g'
    have cmc := ((cm'.gn w.1 smt g') c (by rw [g'.1.1] at hc; omega)).1 cc
    exact pq_Tot.bd (pq_joined_ok hN (by omega) e2 w' nf' sm'.1 (by omega) hc cmc) (fun r υ hr => pq_Tot.ret ((hr.c).pre (gc.tr g'.c) (by omega)))
  have b22 : ∀ (τ : SM) (s : Int32), pq_Wo B τ → pq_Gn σ τ → (pq_fl τ → s = -1) → (s ≠ -1 → pq_vt τ s.toInt ∧ pq_qI τ s.toInt.toNat = 1) → pq_Tot (M_M_join_b22 N s τ) (pq_Cc (B + 195000) σ) := fun τ s w gn hf hs => by
    rw [M_M_join_b22]
    have q := sm.gn gn
    refine pq_Tot.ite (fun es => pq_Tot.ite (fun f0 => ?_) (fun _ => pq_Tot.ret ⟨w.le (by omega), gn.c, fun _ => es, hs⟩)) (fun ns => pq_Tot.ret ⟨w.le (by omega), gn.c, hf, hs⟩)
    exact pq_jn_L39 (BB := B + 156000) (σ0 := τ) hN (by omega) (fun σ' w' g' s' e' n' cm' => b120 σ' w' (gn.c.tr g') s' (e'.trans q.2.1) n' cm') (fun σ' w' g' => ⟨w'.le (by omega), gn.c.tr g', fun _ => rfl, fun z => absurd rfl z⟩) N 40 0 0 τ B w pq_Gc.rf q.1 rfl (fun z => z f0) rfl rfl (fun g hg => by omega) (by rw [pq_cG40]; omega) (by omega)
  rw [M_M_join]
  refine pq_Tot.ite (fun _ => pq_Tot.ite1 (by decide) ?_) (fun _ => pq_Tot.bd (pq_extreme_ok hN (by omega) h sm nf) (fun r τ hr => b22 τ r hr.1 hr.2.1 hr.2.2.1 hr.2.2.2))
  have p := sm.2.2 0 (by omega)
  exact b22 σ _ h pq_Gn.rf (fun z => absurd z nf) (fun _ => ⟨p.1, p.2.1⟩)
set_option maxRecDepth 100000 in
theorem pq_choose_ok {B : Int} {σ : SM} {x : Int32} (hN : 20002 ≤ N) (hB : B + 195000 + 200 < 4294967296) (h : pq_Wo B σ) (nf : ¬ pq_fl σ) : pq_Tot (M_M_choose N x σ) (pq_Cc (B + 195000) σ) := by
  rw [M_M_choose]
  have col : ∀ (τ : SM) (s : Int32), pq_Wo B τ → pq_Gc σ τ → ¬ pq_fl τ → pq_Tot (M_M_collect N x s τ) (fun _ υ => pq_Wo B υ ∧ pq_Gc σ υ ∧ ¬ pq_fl υ ∧ pq_Sm υ) := fun τ s w gc nft =>
    (pq_collect_ok (by omega) w.1 w.2.2.1).mono (fun _ υ hr => by
      have q := w.cell hr.1 (by decide) (by decide) (by decide) (by decide) (by decide) (by decide) (by decide) (by decide) (by decide) (by decide)
      exact ⟨q.1, gc.tr ⟨q.2.1, hr.1.up (by decide) (by decide), q.2.2.1⟩, by rw [pq_fl, show gM_M_full υ = gM_M_full τ from hr.1.1 2 (by decide)]; exact nft, hr.2⟩)
  refine pq_Tot.bd (col σ 2 h pq_Gc.rf nf) (fun _ σ2 h2 => pq_Tot.ite (fun _ => pq_Tot.bd (col σ2 1 h2.1 h2.2.1 h2.2.2.1) (fun _ σ4 h4 => pq_Tot.ite (fun _ => ?_) (fun _ => ?_))) (fun n0 => ?_))
  · exact pq_Tot.bd (pq_jo_plain (by omega) h4.1 ⟨by decide, by rw [pq_iv_0]; have := h4.1.1.1; omega⟩) (fun r υ hr => pq_Tot.ret ((hr.c).pre h4.2.1 (by omega)))
  · exact pq_Tot.bd (pq_extreme_ok hN (by omega) h4.1 h4.2.2.2 h4.2.2.1) (fun r υ hr => pq_Tot.ret ((hr.c).pre h4.2.1 (by omega)))
  · rw [pq_iv_le, pq_iv_0] at n0
    exact pq_Tot.bd (pq_join_ok hN hB h2.1 h2.2.2.1 h2.2.2.2 (by simp only [pq_smI]; omega)) (fun r υ hr => pq_Tot.ret (hr.pre h2.2.1 (Int.le_refl _)))
end JN
