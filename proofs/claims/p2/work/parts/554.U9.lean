section JN
variable {N : Nat} {σ : SX}
set_option maxRecDepth 100000 in
theorem pq_ne5 {τ : SX} (g : pq_XG pq_LA5 σ τ) : gX_Resolver_nearSize τ = gX_Resolver_nearSize σ := g.2.2 19 (by decide)
set_option maxRecDepth 100000 in
theorem pq_cs5 {τ : SX} (g : pq_XG pq_LA5 σ τ) : gX_Classes_size τ = gX_Classes_size σ := g.2.2 3 (by decide)
set_option maxRecDepth 100000 in
theorem pq_near5 {τ : SX} (i : pq_XI τ) (j : Nat) : (aX_Resolver_near τ j).toInt < pq_Zx τ := i.2.1.1 25 (by decide) j
set_option maxRecDepth 100000 in
theorem pq_aboveAll_x (hN : 501 ≤ N) (h : pq_XI σ) (c : Int32) : pq_Tot (X_Resolver_isAboveAll N c σ) (pq_XQ pq_LA5 σ (fun _ _ => True)) := by
  have ns : (gX_Resolver_nearSize σ).toInt ≤ 200 := h.2.2.1.2.2.2.1.2
  have key : ∀ (n : Nat) (v2 : Int32) (τ : SX), pq_XI τ → pq_XG pq_LA5 σ τ → 0 ≤ v2.toInt → v2.toInt ≤ 200 → 200 - v2.toInt < n → pq_Tot (X_Resolver_isAboveAll_L2 N n c v2 τ) (pq_XQ pq_LA5 σ (fun _ _ => True)) := by
    intro n
    induction n with
    | zero => intro v2 τ _ _ _ _ h; omega
    | succ n ih =>
      intro v2 τ i g z0 z1 hn
      rw [X_Resolver_isAboveAll_L2]
      refine pq_Tot.ite (fun _ => pq_Tot.ret ⟨i, g, trivial⟩) (fun lt => ?_)
      rw [pq_iv_le, pq_ne5 g] at lt
      have e : (v2 + 1).toInt = v2.toInt + 1 := pq_iv_add (by rw [pq_iv_1]; omega) (by rw [pq_iv_1]; omega)
      refine pq_Tot.ite1 (pq_ck_mk z0 (by omega)) (pq_Tot.bd (pq_above_x hN i (pq_near5 i _)) (fun r υ q => ?_))
      have g' := g.tr q.2.1
      exact pq_Tot.ite (fun _ => pq_Tot.ret ⟨q.1, g', trivial⟩) (fun _ => pq_Tot.ite (fun _ => pq_Tot.nm (ih (v2 + 1) υ q.1 g' (by omega) (by omega) (by omega))) (fun _ => pq_Tot.ret ⟨q.1, g', trivial⟩))
  rw [X_Resolver_isAboveAll]
  exact key N 0 σ h pq_XG.rf (by decide) (by decide) (by rw [pq_iv_0]; omega)
set_option maxRecDepth 100000 in
theorem pq_aboveAnother_x (hN : 501 ≤ N) (h : pq_XI σ) (c : Int32) (w : Int64) : pq_Tot (X_Resolver_isAboveAnother N c w σ) (pq_XQ pq_LA5 σ (fun _ _ => True)) := by
  have c40 : (gX_Classes_size σ).toInt ≤ 40 := h.2.2.1.1.2
  have key : ∀ (n : Nat) (v4 : Int32) (τ : SX), pq_XI τ → pq_XG pq_LA5 σ τ → 0 ≤ v4.toInt → v4.toInt ≤ 40 → 40 - v4.toInt < n → pq_Tot (X_Resolver_isAboveAnother_L3 N n c w v4 τ) (pq_XQ pq_LA5 σ (fun _ _ => True)) := by
    intro n
    induction n with
    | zero => intro v4 τ _ _ _ _ h; omega
    | succ n ih =>
      intro v4 τ i g z0 z1 hn
      rw [X_Resolver_isAboveAnother_L3]
      refine pq_Tot.ite (fun _ => pq_Tot.ret ⟨i, g, trivial⟩) (fun lt => ?_)
      rw [pq_iv_le, pq_cs5 g] at lt
      have e : (v4 + 1).toInt = v4.toInt + 1 := pq_iv_add (by rw [pq_iv_1]; omega) (by rw [pq_iv_1]; omega)
      have b88 : ∀ υ, pq_XI υ → pq_XG pq_LA5 σ υ → pq_Tot (X_Resolver_isAboveAnother_b88 N (X_Resolver_isAboveAnother_L3 N n) c w v4 υ) (pq_XQ pq_LA5 σ (fun _ _ => True)) := fun υ j gj => by
        rw [X_Resolver_isAboveAnother_b88]; exact pq_Tot.nm (ih (v4 + 1) υ j gj (by omega) (by omega) (by omega))
      have b69 : ∀ (υ : SX) (a : Int32), pq_XI υ → pq_XG pq_LA5 σ υ → pq_Tot (X_Resolver_isAboveAnother_b69 N (X_Resolver_isAboveAnother_L3 N n) c w v4 a υ) (pq_XQ pq_LA5 σ (fun _ _ => True)) := fun υ a j gj => by
        rw [X_Resolver_isAboveAnother_b69]
        exact pq_Tot.ite (fun _ => pq_Tot.ret ⟨j, gj, trivial⟩) (fun _ => pq_Tot.ite (fun _ => b88 υ j gj) (fun _ => pq_Tot.ret ⟨j, gj, trivial⟩))
      refine pq_Tot.ite (fun _ => b88 τ i g) (fun _ => pq_Tot.ite (fun _ => b88 τ i g) (fun _ => pq_Tot.bd (pq_bare_x hN i v4) (fun r2 σ3 q3 => ?_)))
      have g3 : pq_XG pq_LA5 σ σ3 := g.tr (q3.2.1.up (by decide))
      exact pq_Tot.ite (fun _ => pq_Tot.bd (pq_above_x hN q3.1 q3.2.2.z) (fun r4 σ5 q5 => b69 σ5 r4 q5.1 (g3.tr q5.2.1))) (fun _ => b69 σ3 (-3) q3.1 g3)
  rw [X_Resolver_isAboveAnother]
  exact key N 0 σ h pq_XG.rf (by decide) (by decide) (by rw [pq_iv_0]; omega)
set_option maxRecDepth 100000 in
theorem pq_mp2 (h : pq_XI σ) : pq_MP σ 2 0 (-1) (-1) := by
  have := h.1.1
  exact ⟨fun z => by omega, fun _ => by omega, fun z => by omega, by omega, fun _ => by omega⟩
set_option maxRecDepth 100000 in
theorem pq_shared_x (hN : 501 ≤ N) (h : pq_XI σ) (c p : Int32) : pq_Tot (X_Resolver_sharedArgument N c p σ) (pq_XQ pq_LA5 σ (fun r τ => r.toInt < pq_tz τ)) := by
  have ns : (gX_Resolver_nearSize σ).toInt ≤ 200 := h.2.2.1.2.2.2.1.2
  have b50 : ∀ τ, pq_XI τ → pq_XG pq_LA5 σ τ → pq_Tot (X_Resolver_sharedArgument_b50 N τ) (pq_XQ pq_LA5 σ (fun r τ => r.toInt < pq_tz τ)) := fun τ i g => by
    rw [X_Resolver_sharedArgument_b50]
    refine pq_Tot.bd (pq_make_x hN i (pq_mp2 i)) (fun r υ q => pq_Tot.ret ⟨q.1, g.tr (q.2.1.up (by decide)), ?_⟩)
    rcases q.2.2 with e | e
    · rw [e]; have := q.1.1.1; show (-3 : Int) < _; omega
    · exact e.1.2
  have key : ∀ (n : Nat) (v3 v4 : Int32) (τ : SX), pq_XI τ → pq_XG pq_LA5 σ τ → v3.toInt < pq_tz τ → 0 ≤ v4.toInt → v4.toInt ≤ 200 → 200 - v4.toInt < n → pq_Tot (X_Resolver_sharedArgument_L5 N (X_Resolver_sharedArgument_b50 N) n c p v3 v4 τ) (pq_XQ pq_LA5 σ (fun r τ => r.toInt < pq_tz τ)) := by
    intro n
    induction n with
    | zero => intro v3 v4 τ _ _ _ _ _ h; omega
    | succ n ih =>
      intro v3 v4 τ i g hv z0 z1 hn
      rw [X_Resolver_sharedArgument_L5]
      refine pq_Tot.ite (fun _ => pq_Tot.ret ⟨i, g, hv⟩) (fun lt => ?_)
      rw [pq_iv_le, pq_ne5 g] at lt
      have e : (v4 + 1).toInt = v4.toInt + 1 := pq_iv_add (by rw [pq_iv_1]; omega) (by rw [pq_iv_1]; omega)
      refine pq_Tot.ite1 (pq_ck_mk z0 (by omega)) (pq_Tot.bd (pq_above_x hN i (pq_near5 i _)) (fun r1 σ2 q2 => pq_Tot.bd (pq_xg_arg q2.1 r1 p) (fun r3 τ3 h3 => ?_)))
      obtain ⟨rfl, h3⟩ := h3
      have g' := g.tr q2.2.1
      have v : r3.toInt < pq_tz τ3 := by
        rcases h3 with h3 | h3
        · have r := q2.1.row r1 h3.1
          have en : ((r1.toInt.toNat : Nat) : Int) = r1.toInt := by have := h3.1.1; omega
          have := h3.1.2
          rcases h3.2 with y | y
          · have := r.2.2.2.1 (q2.2.2.2 h3.1); rw [y]; omega
          · have := r.2.2.2.2.2; rw [y]; omega
        · rw [h3.2, pq_iv_m1]; have := q2.1.1.1; omega
      have nx : pq_Tot (X_Resolver_sharedArgument_b62 N (X_Resolver_sharedArgument_L5 N (X_Resolver_sharedArgument_b50 N) n) c p v4 r3 τ3) (pq_XQ pq_LA5 σ (fun r τ => r.toInt < pq_tz τ)) := by
        rw [X_Resolver_sharedArgument_b62]; exact pq_Tot.nm (ih r3 (v4 + 1) τ3 q2.1 g' v (by omega) (by omega) (by omega))
      exact pq_Tot.ite (fun _ => nx) (fun _ => pq_Tot.ite (fun _ => nx) (fun _ => b50 τ3 q2.1 g'))
  rw [X_Resolver_sharedArgument]
  exact key N (-1) 0 σ h pq_XG.rf (by rw [pq_iv_m1]; have := h.1.1; omega) (by decide) (by decide) (by rw [pq_iv_0]; omega)
set_option maxRecDepth 100000 in
theorem pq_joinAs_x (hN : 501 ≤ N) (h : pq_XI σ) (c : Int32) : pq_Tot (X_Resolver_joinAs N c σ) (pq_XQ pq_LA5 σ (fun r τ => r.toInt < pq_Zx τ)) := by
  have ns : (gX_Resolver_nearSize σ).toInt ≤ 200 := h.2.2.1.2.2.2.1.2
  have b46 : ∀ τ, pq_XI τ → pq_XG pq_LA5 σ τ → pq_Tot (X_Resolver_joinAs_b46 N c τ) (pq_XQ pq_LA5 σ (fun r τ => r.toInt < pq_Zx τ)) := fun τ i g => by
    rw [X_Resolver_joinAs_b46]
    exact pq_Tot.bd (pq_bare_x hN i c) (fun r υ q => pq_Tot.ret ⟨q.1, g.tr (q.2.1.up (by decide)), q.2.2.z⟩)
  have b93 : ∀ (τ : SX) (a b : Int32), pq_XI τ → pq_XG pq_LA5 σ τ → a.toInt < pq_tz τ → b.toInt < pq_tz τ → pq_Tot (X_Resolver_joinAs_b93 N c a b τ) (pq_XQ pq_LA5 σ (fun r τ => r.toInt < pq_Zx τ)) := fun τ a b i g ha hb => by
    rw [X_Resolver_joinAs_b93]
    refine pq_Tot.ite (fun _ => pq_Tot.ret ⟨i, g, pq_m3_Zx⟩) (fun _ => pq_Tot.ite (fun _ => pq_Tot.ret ⟨i, g, pq_m3_Zx⟩) (fun _ => pq_Tot.bd (pq_make_x hN i ?_) (fun r υ q => pq_Tot.ret ⟨q.1, g.tr (q.2.1.up (by decide)), q.2.2.z⟩)))
    exact ⟨fun z => absurd z (by decide), fun _ => ha, fun z => absurd z (by decide), hb, fun z => absurd z (by decide)⟩
  have b64 : ∀ τ, pq_XI τ → pq_XG pq_LA5 σ τ → pq_Tot (X_Resolver_joinAs_b64 N c τ) (pq_XQ pq_LA5 σ (fun r τ => r.toInt < pq_Zx τ)) := fun τ i g => by
    rw [X_Resolver_joinAs_b64]
    refine pq_Tot.bd (pq_shared_x hN i c 0) (fun r8 σ9 q9 => pq_Tot.bd (pq_xg_par q9.1 c) (fun r10 τ10 h10 => ?_))
    obtain ⟨rfl, _⟩ := h10
    have g9 := g.tr q9.2.1
    refine pq_Tot.ite (fun _ => b93 τ10 r8 (-1) q9.1 g9 q9.2.2 (by rw [pq_iv_m1]; have := q9.1.1.1; omega)) (fun _ => pq_Tot.bd (pq_shared_x hN q9.1 c 1) (fun r14 σ15 q15 => ?_))
    exact b93 σ15 r8 r14 q15.1 (g9.tr q15.2.1) (Int.lt_of_lt_of_le q9.2.2 q15.2.1.1) q15.2.2
  have key : ∀ (n : Nat) (v2 : Int32) (τ : SX), pq_XI τ → pq_XG pq_LA5 σ τ → 0 ≤ v2.toInt → v2.toInt ≤ 200 → 200 - v2.toInt < n → pq_Tot (X_Resolver_joinAs_L2 N (X_Resolver_joinAs_b64 N) (X_Resolver_joinAs_b46 N) n c v2 τ) (pq_XQ pq_LA5 σ (fun r τ => r.toInt < pq_Zx τ)) := by
    intro n
    induction n with
    | zero => intro v2 τ _ _ _ _ h; omega
    | succ n ih =>
      intro v2 τ i g z0 z1 hn
      rw [X_Resolver_joinAs_L2]
      refine pq_Tot.ite (fun _ => b64 τ i g) (fun lt => ?_)
      rw [pq_iv_le, pq_ne5 g] at lt
      have e : (v2 + 1).toInt = v2.toInt + 1 := pq_iv_add (by rw [pq_iv_1]; omega) (by rw [pq_iv_1]; omega)
      refine pq_Tot.ite1 (pq_ck_mk z0 (by omega)) (pq_Tot.bd (pq_above_x hN i (pq_near5 i _)) (fun r1 σ2 q2 => ?_))
      have g2 := g.tr q2.2.1
      refine pq_Tot.ite (fun _ => pq_Tot.ret ⟨q2.1, g2, pq_m3_Zx⟩) (fun _ => pq_Tot.bd (pq_xg_kind q2.1 r1) (fun r3 τ3 h3 => ?_))
      obtain ⟨rfl, _⟩ := h3
      exact pq_Tot.ite (fun _ => pq_Tot.nm (ih (v2 + 1) τ3 q2.1 g2 (by omega) (by omega) (by omega))) (fun _ => b46 τ3 q2.1 g2)
  rw [X_Resolver_joinAs]
  exact key N 0 σ h pq_XG.rf (by decide) (by decide) (by rw [pq_iv_0]; omega)
set_option maxRecDepth 100000 in
theorem pq_joinC_x (hN : 501 ≤ N) (h : pq_XI σ) : pq_Tot (X_Resolver_joinOfClasses N σ) (pq_XQ pq_LA5 σ (fun r τ => r.toInt < pq_Zx τ)) := by
  have c40 : (gX_Classes_size σ).toInt ≤ 40 := h.2.2.1.1.2
  have L52 : ∀ (n : Nat) (v1 : Int64) (v3 : Int32) (τ : SX), pq_XI τ → pq_XG pq_LA5 σ τ → 0 ≤ v3.toInt → v3.toInt ≤ 40 → 40 - v3.toInt < n → pq_Tot (X_Resolver_joinOfClasses_L52 N (X_Resolver_joinOfClasses_b99 N) n v1 v3 τ) (pq_XQ pq_LA5 σ (fun r τ => r.toInt < pq_Zx τ)) := by
    intro n
    induction n with
    | zero => intro v1 v3 τ _ _ _ _ h; omega
    | succ n ih =>
      intro v1 v3 τ i g z0 z1 hn
      rw [X_Resolver_joinOfClasses_L52]
      refine pq_Tot.ite (fun _ => pq_Tot.ret ⟨i, g, pq_m1_Zx i⟩) (fun lt => ?_)
      rw [pq_iv_le, pq_cs5 g] at lt
      have e : (v3 + 1).toInt = v3.toInt + 1 := pq_iv_add (by rw [pq_iv_1]; omega) (by rw [pq_iv_1]; omega)
      have nx : ∀ υ, pq_XI υ → pq_XG pq_LA5 σ υ → pq_Tot (X_Resolver_joinOfClasses_b105 N (X_Resolver_joinOfClasses_L52 N (X_Resolver_joinOfClasses_b99 N) n) v1 v3 υ) (pq_XQ pq_LA5 σ (fun r τ => r.toInt < pq_Zx τ)) := fun υ j gj => by
        rw [X_Resolver_joinOfClasses_b105]; exact pq_Tot.nm (ih v1 (v3 + 1) υ j gj (by omega) (by omega) (by omega))
      refine pq_Tot.ite (fun _ => nx τ i g) (fun _ => pq_Tot.bd (pq_aboveAnother_x hN i v3 v1) (fun r6 σ7 q7 => ?_))
      have g7 := g.tr q7.2.1
      refine pq_Tot.ite (fun _ => pq_Tot.ret ⟨q7.1, g7, pq_m3_Zx⟩) (fun _ => pq_Tot.ite (fun _ => ?_) (fun _ => nx σ7 q7.1 g7))
      rw [X_Resolver_joinOfClasses_b99]
      exact pq_Tot.bd (pq_joinAs_x hN q7.1 v3) (fun r υ q => pq_Tot.ret (q.pre g7))
  have L4 : ∀ (n : Nat) (v1 : Int64) (v3 : Int32) (τ : SX), pq_XI τ → pq_XG pq_LA5 σ τ → 0 ≤ v3.toInt → v3.toInt ≤ 40 → 40 - v3.toInt < n → pq_Tot (X_Resolver_joinOfClasses_L4 N (X_Resolver_joinOfClasses_b50 N) n v1 v3 τ) (pq_XQ pq_LA5 σ (fun r τ => r.toInt < pq_Zx τ)) := by
    intro n
    induction n with
    | zero => intro v1 v3 τ _ _ _ _ h; omega
    | succ n ih =>
      intro v1 v3 τ i g z0 z1 hn
      rw [X_Resolver_joinOfClasses_L4]
      refine pq_Tot.ite (fun _ => ?_) (fun lt => ?_)
      · rw [X_Resolver_joinOfClasses_b50]
        exact L52 N v1 0 τ i g (by decide) (by decide) (by rw [pq_iv_0]; omega)
      · rw [pq_iv_le, pq_cs5 g] at lt
        have e : (v3 + 1).toInt = v3.toInt + 1 := pq_iv_add (by rw [pq_iv_1]; omega) (by rw [pq_iv_1]; omega)
        refine pq_Tot.bd (pq_aboveAll_x hN i v3) (fun r1 σ2 q2 => ?_)
        have g2 := g.tr q2.2.1
        have nx : ∀ w, pq_Tot (X_Resolver_joinOfClasses_b44 N (X_Resolver_joinOfClasses_L4 N (X_Resolver_joinOfClasses_b50 N) n) w v3 σ2) (pq_XQ pq_LA5 σ (fun r τ => r.toInt < pq_Zx τ)) := fun w => by
          rw [X_Resolver_joinOfClasses_b44]; exact pq_Tot.nm (ih w (v3 + 1) σ2 q2.1 g2 (by omega) (by omega) (by omega))
        exact pq_Tot.ite (fun _ => pq_Tot.ret ⟨q2.1, g2, pq_m3_Zx⟩) (fun _ => pq_Tot.ite (fun _ => pq_Tot.nm (nx _)) (fun _ => nx v1))
  rw [X_Resolver_joinOfClasses]
  exact L4 N 0 0 σ h pq_XG.rf (by decide) (by decide) (by rw [pq_iv_0]; omega)
set_option maxRecDepth 100000 in
theorem pq_choose_x (hN : 20003 ≤ N) (h : pq_XI σ) (v : Int32) : pq_Tot (X_Resolver_choose N v σ) (pq_Vs σ (fun _ _ => True)) := by
  rw [X_Resolver_choose]
  refine pq_Tot.ite (fun _ => pq_Tot.ret ⟨h, pq_XG.rf, trivial⟩) (fun a => pq_Tot.ite (fun b => ?_) (fun _ => pq_Tot.ret ⟨h, pq_XG.rf, trivial⟩))
  rw [pq_iv_lt, pq_iv_0] at a
  rw [pq_iv_lt, show (12 : Int32).toInt = 12 from rfl] at b
  have b77 : ∀ (τ : SX) (t : Int32), pq_XI τ → pq_XG pq_LV8 σ τ → t.toInt < pq_Zx τ → pq_Tot (X_Resolver_choose_b77 N v t τ) (pq_Vs σ (fun _ _ => True)) := fun τ t i g ht => by
    rw [X_Resolver_choose_b77]
    refine pq_Tot.ite1 (pq_ck_mk (by omega) (by omega)) (pq_Tot.nm ?_)
    have x : pq_xf [] [27] τ (tX_Resolver_choices τ (upd (aX_Resolver_choices τ) v.toNatClampNeg t)) := pq_xf.t pq_xf.rf (by decide) _
    have q := i.wr x (by decide) (by decide) (fun a ha z j => by
      have : a = 27 := by revert a; decide
      subst this
      show (upd (aX_Resolver_choices τ) v.toNatClampNeg t j).toInt < _
      rw [upd]; split
      · exact ht
      · exact i.2.1.1 27 (by decide) j) (fun c _ hl => absurd hl (by simp)) (i.2.2.1.xf x (by decide) (by decide)) (i.2.2.2.xf x (by decide) (by decide))
    have g' : pq_XG pq_LV8 σ (tX_Resolver_choices τ (upd (aX_Resolver_choices τ) v.toNatClampNeg t)) := g.tr (q.2.up (by decide))
    exact pq_Tot.ite (fun _ => pq_Tot.ite (fun _ => pq_Tot.ret ⟨q.1, g', trivial⟩) (fun _ => pq_Tot.ret ⟨q.1, g', trivial⟩)) (fun _ => pq_Tot.ret ⟨q.1, g', trivial⟩)
  have b76 : ∀ (τ : SX) (t : Int32), pq_XI τ → pq_XG pq_LV8 σ τ → t.toInt < pq_Zx τ → pq_Tot (X_Resolver_choose_b76 N v t τ) (pq_Vs σ (fun _ _ => True)) := fun τ t i g ht => by
    rw [X_Resolver_choose_b76]; exact b77 τ t i g ht
  refine pq_Tot.bd (pq_gather_x (by omega) h 2 v) (fun _ σ2 q2 => ?_)
  have g2 : pq_XG pq_LV8 σ σ2 := q2.2.1.up (by decide)
  refine pq_Tot.ite (fun _ => pq_Tot.bd (pq_gather_x (by omega) q2.1 1 v) (fun _ σ4 q4 => ?_)) (fun _ => pq_Tot.bd (pq_outer_x hN q2.1 2) (fun r10 σ11 q11 => ?_))
  · have g4 : pq_XG pq_LV8 σ σ4 := g2.tr (q4.2.1.up (by decide))
    refine pq_Tot.ite (fun _ => pq_Tot.bd (pq_bare_x (by omega) q4.1 0) (fun r5 σ6 q6 => b76 σ6 r5 q6.1 (g4.tr (q6.2.1.up (by decide))) q6.2.2.z)) (fun _ => pq_Tot.bd (pq_outer_x hN q4.1 1) (fun r8 σ9 q9 => b76 σ9 r8 q9.1 (g4.tr (q9.2.1.up (by decide))) q9.2.2))
  · have g11 : pq_XG pq_LV8 σ σ11 := g2.tr (q11.2.1.up (by decide))
    exact pq_Tot.ite (fun _ => pq_Tot.bd (pq_joinC_x (by omega) q11.1) (fun r12 σ13 q13 => b77 σ13 r12 q13.1 (g11.tr (q13.2.1.up (by decide))) q13.2.2)) (fun _ => b77 σ11 r10 q11.1 g11 q11.2.2)
end JN
