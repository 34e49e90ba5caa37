abbrev pq_LX : List Nat := [1, 2, 3, 5, 6, 7, 8, 9, 10, 12, 13, 15, 16, 21]
abbrev pq_AX : List Nat := [3, 4, 5, 6, 7, 8, 9, 12, 13, 14, 15, 16, 17, 18, 19, 20, 21, 22, 23, 24, 25, 26, 27, 28, 29, 30, 31, 39, 40]
def pq_Gc (σ τ : SM) : Prop := pq_Ex σ τ ∧ pq_fr pq_LX pq_AX σ τ ∧ pq_BG σ τ
set_option maxRecDepth 100000 in
theorem pq_Gc.rf {σ : SM} : pq_Gc σ σ := ⟨pq_Ex.rf, pq_fr.rf, pq_BG.rf⟩
set_option maxRecDepth 100000 in
theorem pq_Gc.tr {σ τ υ : SM} (h : pq_Gc σ τ) (k : pq_Gc τ υ) : pq_Gc σ υ := ⟨h.1.tr k.1, h.2.1.tr k.2.1, h.2.2.tr k.2.2⟩
set_option maxRecDepth 100000 in
theorem pq_Gn.c {σ τ : SM} (g : pq_Gn σ τ) : pq_Gc σ τ := ⟨g.1, g.2.1.up (by decide) (by decide), g.2.2⟩
def pq_Cc (B : Int) (σ : SM) (r : Int32) (τ : SM) : Prop := pq_Wo B τ ∧ pq_Gc σ τ ∧ (pq_fl τ → r = -1) ∧ (r ≠ -1 → pq_vt τ r.toInt ∧ pq_qI τ r.toInt.toNat = 1)
set_option maxRecDepth 100000 in
theorem pq_Cc.pre {B B' : Int} {σ σ' τ : SM} {r : Int32} (h : pq_Cc B σ' r τ) (g : pq_Gc σ σ') (hb : B ≤ B') : pq_Cc B' σ r τ := ⟨h.1.le hb, g.tr h.2.1, h.2.2⟩
set_option maxRecDepth 100000 in
theorem pq_Ch.c {B : Int} {σ τ : SM} {r : Int32} (h : pq_Ch B σ r τ) : pq_Cc B σ r τ := ⟨h.1, h.2.1.c, h.2.2⟩
def pq_Cm (σ : SM) (n : Nat) : Prop := ∀ g : Nat, g < n → (aM_M_common σ g ≠ 0 ↔ ∀ i : Nat, (i : Int) < pq_smI σ → pq_fnd σ (pq_soI σ i) g)
set_option maxRecDepth 100000 in
theorem pq_Cm.gn {σ τ : SM} {n : Nat} (h : pq_Cm σ n) (hT : pq_Tb σ) (sm : pq_Sm σ) (g : pq_Gn σ τ) : pq_Cm τ n := by
  intro c hc
  have q := sm.gn g
  rw [show aM_M_common τ = aM_M_common σ from g.2.1.2.1 40 (by decide), h c hc, q.2.1]
  constructor
  · intro k i hi; rw [q.2.2, pq_fnd.ex hT g.1 g.up2 (sm.2.2 i hi).1]; exact k i hi
  · intro k i hi; have := k i hi; rw [q.2.2, pq_fnd.ex hT g.1 g.up2 (sm.2.2 i hi).1] at this; exact this
set_option maxRecDepth 100000 in
theorem pq_com_up {σ : SM} (c : Nat) (v : Int32) : pq_Gc σ (tM_M_common σ (upd (aM_M_common σ) c v)) ∧ pq_fr [] [40] σ (tM_M_common σ (upd (aM_M_common σ) c v)) := by
  have f : pq_fr [] [40] σ (tM_M_common σ (upd (aM_M_common σ) c v)) := pq_fr.t pq_fr.rf (by decide) _
  exact ⟨⟨(f.ex (by decide)).1, f.up (by decide) (by decide), (pq_BG.fr f (by decide) (by decide) (by decide) (by decide)).1⟩, f⟩
set_option maxRecDepth 100000 in
theorem pq_com_wo {B : Int} {σ : SM} (h : pq_Wo B σ) (c : Nat) (v : Int32) : pq_Wo B (tM_M_common σ (upd (aM_M_common σ) c v)) :=
  (h.cell (pq_com_up c v).2 (by decide) (by decide) (by decide) (by decide) (by decide) (by decide) (by decide) (by decide) (by decide) (by decide)).1
set_option maxRecDepth 100000 in
theorem pq_com_fnd {σ : SM} (c : Nat) (v : Int32) (t : Int) (g : Nat) (hT : pq_Tb σ) (vv : pq_vt σ t) : pq_fnd (tM_M_common σ (upd (aM_M_common σ) c v)) t g ↔ pq_fnd σ t g :=
  pq_fnd.ex hT (pq_com_up c v).1.1 rfl vv g
set_option maxRecDepth 100000 in
theorem pq_com_sm {σ : SM} (h : pq_Sm σ) (c : Nat) (v : Int32) : pq_Sm (tM_M_common σ (upd (aM_M_common σ) c v)) := (h.ex (pq_com_up c v).1.1 rfl rfl).1
set_option maxRecDepth 100000 in
theorem pq_Cm.com {σ : SM} {n : Nat} (h : pq_Cm σ n) (hT : pq_Tb σ) (sm : pq_Sm σ) (c : Nat) (v : Int32) (hc : n ≤ c) : pq_Cm (tM_M_common σ (upd (aM_M_common σ) c v)) n := by
  intro g hg
  show upd (aM_M_common σ) c v g ≠ 0 ↔ _
  rw [pq_upd_ne _ _ (by omega), h g hg]
  constructor
  · intro k i hi; exact (pq_com_fnd c v _ g hT (sm.2.2 i hi).1).2 (k i hi)
  · intro k i hi; exact (pq_com_fnd c v _ g hT (sm.2.2 i hi).1).1 (k i hi)
section JN
variable {N : Nat} {Q : Int32 → SM → Prop}
set_option maxRecDepth 100000 in
theorem pq_jn_L56 {BB : Int} (hN : 20002 ≤ N) (hBB : BB + 100 < 4294967296) {g : Nat} {v2 : Int32} (e2 : v2.toInt = g) {k105 : Int32 → SM → Option (Int32 × SM)} :
    ∀ (n : Nat) (v3 : Int32) (σ : SM) (B : Int), pq_Wo B σ → pq_Sm σ → (g : Int) < pq_cI σ → pq_Cm σ g → (pq_fl σ → aM_M_common σ g = 0) → (aM_M_common σ g ≠ 0 → ∀ i : Nat, (i : Int) < v3.toInt → pq_fnd σ (pq_soI σ i) g) → (aM_M_common σ g = 0 → pq_fl σ ∨ ∃ i : Nat, (i : Int) < pq_smI σ ∧ ¬ pq_fnd σ (pq_soI σ i) g) → 0 ≤ v3.toInt → v3.toInt ≤ pq_smI σ → B + (39 - g) * (pq_smI σ - v3.toInt) ≤ BB → pq_smI σ - v3.toInt < n →
      (∀ σ', pq_Wo BB σ' → pq_Gc σ σ' → pq_Sm σ' → pq_smI σ' = pq_smI σ → (¬ pq_fl σ' → pq_Cm σ' (g + 1)) → pq_Tot (k105 v2 σ') Q) → pq_Tot (M_M_join_L56 N k105 n v2 v3 σ) Q := by
  intro n
  induction n with
  | zero => intro v3 σ B _ _ _ _ _ _ _ _ _ _ h; omega
  | succ n ih =>
    intro v3 σ B h sm hg cm hfl c1 c0 z0 z1 hb hn hk
    have hgn : (0 : Int) ≤ 39 - g := by have := h.1.2.1; omega
    have prod : (0 : Int) ≤ (39 - g) * (pq_smI σ - v3.toInt) := Int.mul_nonneg hgn (by omega)
    have full : aM_M_common σ g = 0 → ¬ pq_fl σ → pq_Cm σ (g + 1) := fun z nf c hc => by
      by_cases e : c = g
      · subst e
        refine ⟨fun w => absurd z w, fun w => ?_⟩
        rcases c0 z with y | ⟨i, hi, y⟩
        · exact absurd y nf
        · exact absurd (w i hi) y
      · exact cm c (by omega)
    rw [M_M_join_L56]
    refine pq_Tot.ite (fun le => ?_) (fun lt => ?_)
    · rw [pq_iv_le] at le
      have se : (gM_M_someMany σ).toInt = pq_smI σ := rfl
      refine hk σ (h.le (by omega)) pq_Gc.rf sm rfl (fun nf => ?_)
      by_cases z : aM_M_common σ g = 0
      · exact full z nf
      · intro c hc
        by_cases e : c = g
        · subst e; exact ⟨fun w i hi => c1 w i (by omega), fun _ => z⟩
        · exact cm c (by omega)
    rw [pq_iv_le] at lt
    have lt' : v3.toInt < pq_smI σ := by simp only [pq_smI]; omega
    have c2 : ck v2 40 = true := pq_ck_mk (by omega) (by omega)
    have e2n : v2.toNatClampNeg = g := by show v2.toInt.toNat = g; rw [e2]; rfl
    refine pq_Tot.ite1 c2 (pq_Tot.ite (fun z => ?_) (fun z => ?_))
    · rw [e2n] at z
      exact hk σ (h.le (by omega)) pq_Gc.rf sm rfl (full z)
    rw [e2n] at z
    have nf : ¬ pq_fl σ := fun y => z (hfl y)
    have s2 := sm.2.1
    have c3 : ck v3 200 = true := pq_ck_mk z0 (by omega)
    have p := sm.2.2 v3.toInt.toNat (by omega)
    have e3 : (v3 + 1).toInt = v3.toInt + 1 := pq_iv_add (by rw [pq_iv_1]; omega) (by rw [pq_iv_1]; omega)
    have psub : (39 - (g : Int)) * (pq_smI σ - v3.toInt) = (39 - g) * (pq_smI σ - (v3.toInt + 1)) + (39 - g) := by
      rw [show pq_smI σ - v3.toInt = (pq_smI σ - (v3.toInt + 1)) + 1 by omega, Int.mul_add, Int.mul_one]
    have prod1 : (0 : Int) ≤ (39 - g) * (pq_smI σ - (v3.toInt + 1)) := Int.mul_nonneg hgn (by omega)
    refine pq_Tot.ite1 c3 (pq_Tot.bd (h.above (by omega) (by omega) nf p.1 e2 hg) (fun r τ hr => ?_))
    obtain ⟨b1, b2, b3, b4, b5⟩ := hr
    have q := sm.gn b2
    have cmτ := cm.gn h.1 sm b2
    have ff : ∀ i : Nat, (i : Int) < pq_smI σ → (pq_fnd τ (pq_soI τ i) g ↔ pq_fnd σ (pq_soI σ i) g) := fun i hi => by
      rw [q.2.2]; exact pq_fnd.ex h.1 b2.1 b2.up2 (sm.2.2 i hi).1 g
    have go : ∀ (s : Int32), (vp_nar .boolean s = 0 ∨ vp_nar .boolean s = 1) → (pq_fl τ → vp_nar .boolean s = 0) → (vp_nar .boolean s ≠ 0 → pq_fnd σ (pq_soI σ v3.toInt.toNat) g) → (vp_nar .boolean s = 0 → pq_fl τ ∨ ¬ pq_fnd σ (pq_soI σ v3.toInt.toNat) g) → pq_Tot (M_M_join_b98 N (M_M_join_L56 N k105 n) v2 v3 s v2 τ) Q := fun s hs f1 f2 f3 => by
      rw [M_M_join_b98]
      refine pq_Tot.ite1 c2 (pq_Tot.nm (pq_Tot.nm ?_))
      rw [e2n]
      have cu := pq_com_up (σ := τ) g (vp_nar .boolean s)
      have ug : aM_M_common (tM_M_common τ (upd (aM_M_common τ) g (vp_nar .boolean s))) g = vp_nar .boolean s := pq_upd_eq _ _ _
      have fu : ∀ i : Nat, (i : Int) < pq_smI σ → (pq_fnd (tM_M_common τ (upd (aM_M_common τ) g (vp_nar .boolean s))) (pq_soI τ i) g ↔ pq_fnd σ (pq_soI σ i) g) := fun i hi => (pq_com_fnd _ _ _ g b1.1 (q.1.2.2 i (by omega)).1).trans (ff i hi)
      refine ih (v3 + 1) _ _ (pq_com_wo b1 _ _) (pq_com_sm q.1 _ _) (by show (g : Int) < pq_cI τ; rw [b2.1.1]; exact hg) (cmτ.com b1.1 q.1 _ _ (Nat.le_refl _)) (fun z => by rw [ug]; exact f1 z) (fun w i hi => ?_) (fun w => ?_) (by omega) (by show _ ≤ pq_smI τ; omega) ?_ (by show pq_smI τ - _ < _; omega) (fun σ' w' g' s' e' cm' => hk σ' w' ((b2.c.tr cu.1).tr g') s' (e'.trans q.2.1) cm')
      · rw [ug] at w
        show pq_fnd (tM_M_common τ (upd (aM_M_common τ) g (vp_nar .boolean s))) (pq_soI τ i) g
        rw [fu i (by omega)]
        by_cases ei : (i : Int) = v3.toInt
        · have : i = v3.toInt.toNat := by omega
          rw [this]; exact f2 w
        · exact c1 z i (by omega)
      · rw [ug] at w
        rcases f3 w with y | y
        · exact Or.inl y
        · refine Or.inr ⟨v3.toInt.toNat, by show _ < pq_smI τ; omega, ?_⟩
          show ¬ pq_fnd (tM_M_common τ (upd (aM_M_common τ) g (vp_nar .boolean s))) (pq_soI τ v3.toInt.toNat) g
          rw [fu _ (by omega)]; exact y
      · show B + (39 - g) + (39 - g) * (pq_smI τ - (v3 + 1).toInt) ≤ BB
        rw [q.2.1, e3]; omega
    refine pq_Tot.ite (fun er => go 0 (Or.inl rfl) (fun _ => rfl) (fun z => absurd rfl z) (fun _ => ?_)) (fun nr => go 1 (Or.inr rfl) (fun y => absurd (b4 y) nr) (fun _ => ?_) (fun z => absurd z (by decide)))
    · by_cases y : pq_fl τ
      · exact Or.inl y
      · refine Or.inr (fun w => ?_)
        have := ((b5 y).1 w).1.1
        rw [er] at this; exact absurd this (by decide)
    · have y : ¬ pq_fl τ := fun y => nr (b4 y)
      exact Classical.byContradiction (fun w => nr ((b5 y).2 w))
def pq_cG : Nat → Int
  | 0 => 0
  | m + 1 => pq_cG m + 200 * m
set_option maxRecDepth 100000 in
theorem pq_cG_nn : ∀ m, 0 ≤ pq_cG m
  | 0 => Int.le_refl _
  | m + 1 => by rw [pq_cG]; have := pq_cG_nn m; omega
set_option maxRecDepth 100000 in
theorem pq_cG40 : pq_cG 40 = 156000 := by decide
set_option maxRecDepth 100000 in
theorem pq_jn_L39 {BB : Int} (hN : 20002 ≤ N) (hBB : BB + 100 < 4294967296) {k120 : SM → Option (Int32 × SM)} {σ0 : SM}
    (hk : ∀ σ', pq_Wo BB σ' → pq_Gc σ0 σ' → pq_Sm σ' → pq_smI σ' = pq_smI σ0 → ¬ pq_fl σ' → (∀ n : Nat, (n : Int) ≤ pq_cI σ' → pq_Cm σ' n) → pq_Tot (k120 σ') Q) (hq : ∀ σ', pq_Wo BB σ' → pq_Gc σ0 σ' → Q (-1) σ') :
    ∀ (n m g : Nat) (v2 : Int32) (σ : SM) (B : Int), pq_Wo B σ → pq_Gc σ0 σ → pq_Sm σ → pq_smI σ = pq_smI σ0 → ¬ pq_fl σ → v2.toInt = g → g + m = 40 → pq_Cm σ g → B + pq_cG m ≤ BB → m < n → pq_Tot (M_M_join_L39 N k120 n v2 σ) Q := by
  intro n
  induction n with
  | zero => intro m g v2 σ B _ _ _ _ _ _ _ _ _ h; omega
  | succ n ih =>
    intro m g v2 σ B h gc sm se nf e2 hm cm hb hn
    have hr0 := pq_cG_nn m
    rw [M_M_join_L39]
    have c40 := h.1.2.1
    refine pq_Tot.ite (fun le => hk σ (h.le (by omega)) gc sm se nf (fun k hkk c hc => cm c ?_)) (fun lt => ?_)
    · rw [pq_iv_le, e2] at le
      have : (gM_M_classes σ).toInt = pq_cI σ := rfl
      omega
    rw [pq_iv_le, e2] at lt
    have lt' : (g : Int) < pq_cI σ := by simp only [pq_cI]; omega
    obtain ⟨m, rfl⟩ : ∃ k, m = k + 1 := ⟨m - 1, by omega⟩
    rw [pq_cG] at hb
    have hr1 := pq_cG_nn m
    have e2n : v2.toNatClampNeg = g := by show v2.toInt.toNat = g; rw [e2]; rfl
    have e1 : (v2 + 1).toInt = (g + 1 : Nat) := by rw [pq_iv_add (by rw [pq_iv_1]; omega) (by rw [pq_iv_1]; omega), e2, pq_iv_1]; omega
    refine pq_Tot.ite1 (pq_ck_mk (by omega) (by omega)) (pq_Tot.nm ?_)
    rw [e2n]
    have cu := pq_com_up (σ := σ) g (vp_nar .boolean 1)
    have ug : aM_M_common (tM_M_common σ (upd (aM_M_common σ) g (vp_nar .boolean 1))) g = vp_nar .boolean 1 := pq_upd_eq _ _ _
    have s2 := sm.2.1
    have s0 := sm.1
    have hgn : (0 : Int) ≤ 39 - g := by omega
    refine pq_jn_L56 (BB := B + 200 * m) hN (by omega) e2 N 0 _ B (pq_com_wo h _ _) (pq_com_sm sm _ _) lt' (cm.com h.1 sm _ _ (Nat.le_refl _)) (fun z => absurd z nf) (fun _ i hi => by rw [pq_iv_0] at hi; omega) (fun z => by rw [ug] at z; exact absurd z (by decide)) (by decide) (by rw [pq_iv_0]; exact s0) ?_ (by rw [pq_iv_0]; show pq_smI σ - _ < _; omega) (fun σ' w' g' s' e' cm' => ?_)
    · rw [pq_iv_0]
      show B + (39 - (g : Int)) * (pq_smI σ - 0) ≤ B + 200 * m
      have : (39 - (g : Int)) * (pq_smI σ - 0) ≤ (39 - g) * 200 := Int.mul_le_mul_of_nonneg_left (by omega) hgn
      omega
    · rw [M_M_join_b105]
      have gg := (gc.tr cu.1).tr g'
      refine pq_Tot.ite (fun f0 => pq_Tot.nm ?_) (fun _ => pq_Tot.ret (hq σ' (w'.le (by omega)) gg))
      exact ih m (g + 1) (v2 + 1) σ' _ w' gg s' (e'.trans se) (fun z => z f0) e1 (by omega) (cm' (fun z => z f0)) (by omega) (by omega)
end JN
