def pq_hR : Nat → Int
  | 0 => 0
  | m + 1 => pq_hR m + (if m < 31 then 2 * (m : Int) else 0)
set_option maxRecDepth 100000 in
theorem pq_hR_nn : ∀ m, 0 ≤ pq_hR m
  | 0 => Int.le_refl _
  | m + 1 => by rw [pq_hR]; have := pq_hR_nn m; split <;> omega
set_option maxRecDepth 100000 in
theorem pq_hR40 : pq_hR 40 = 930 := by decide
section HA
variable {N : Nat} {B : Int} {v1 v2 v3 v4 v5 : Int32} {Q : Int32 → SM → Prop} {k198 : Int32 → Int32 → Int32 → SM → Option (Int32 × SM)}
set_option maxRecDepth 100000 in
theorem pq_hA_L97 (hN : 20002 ≤ N) (hB : B + 41 < 4294967296) : ∀ (n : Nat) (v6 : Int32) (σ : SM), pq_Wo B σ → ¬ pq_fl σ → pq_vt σ v4.toInt → pq_vt σ v5.toInt → pq_kI σ v4.toInt.toNat = 1 → pq_kI σ v5.toInt.toNat = 1 → pq_oI σ v4.toInt.toNat = v3.toInt → pq_oI σ v5.toInt.toNat = v3.toInt → 0 ≤ v6.toInt → v6.toInt ≤ 2 → 3 - v6.toInt < n →
    (∀ σ', pq_Wo B σ' → ¬ pq_fl σ' → pq_Gn σ σ' → pq_Tot (k198 v1 v2 v3 σ') Q) → (∀ σ', pq_Wo B σ' → pq_Gn σ σ' → Q 0 σ') → pq_Tot (M_M_holdArguments_L97 N k198 n v1 v2 v3 v4 v5 v6 σ) Q := by
  intro n
  induction n with
  | zero => intro v6 σ _ _ _ _ _ _ _ _ _ _ h; omega
  | succ n ih =>
    intro v6 σ h nf a4 a5 k4 k5 o4 o5 z0 z2 hn hk hq
    rw [M_M_holdArguments_L97]
    have ok4 := (h.1.ok a4).1.2.1 k4
    have ok5 := (h.1.ok a5).1.2.1 k5
    have c40 := h.1.2.1
    have c3 : ck v3 40 = true := pq_ck_mk (by omega) (by omega)
    have c4 := pq_ck_vt h.1 a4
    have c5 := pq_ck_vt h.1 a5
    refine pq_Tot.ite1 c3 (pq_Tot.ite (fun _ => hk σ h nf pq_Gn.rf) (fun np => ?_))
    rw [pq_iv_le] at np
    have pe : (aM_M_parameters σ v3.toNatClampNeg).toInt = pq_pI σ v3.toInt.toNat := rfl
    rw [pe] at np
    rw [o4] at ok4
    rw [o5] at ok5
    have e1 : (v6 + 1).toInt = v6.toInt + 1 := pq_iv_add (by rw [pq_iv_1]; omega) (by rw [pq_iv_1]; omega)
    have nx : ∀ τ, pq_Wo B τ → ¬ pq_fl τ → pq_Gn σ τ → v6.toInt ≤ 1 → pq_Tot (M_M_holdArguments_b192 N (M_M_holdArguments_L97 N k198 n) v1 v2 v3 v4 v5 v6 τ) Q := fun τ w nft g z1 => by
      rw [M_M_holdArguments_b192]
      refine pq_Tot.nm (ih (v6 + 1) τ w nft (g.1.vt a4) (g.1.vt a5) (by rw [g.1.k a4]; exact k4) (by rw [g.1.k a5]; exact k5) (by rw [g.1.o a4]; exact o4) (by rw [g.1.o a5]; exact o5) (by omega) (by omega) (by omega) (fun σ' w' n' g' => hk σ' w' n' (g.tr g')) (fun σ' w' g' => hq σ' w' (g.tr g')))
    have b154 : ∀ s t : Int32, pq_vt σ s.toInt → pq_vt σ t.toInt → v6.toInt ≤ 1 → pq_Tot (M_M_holdArguments_b154 N (M_M_holdArguments_L97 N k198 n) v1 v2 v3 v4 v5 v6 s t σ) Q := fun s t vs v z1 => by
      rw [M_M_holdArguments_b154]
      refine pq_Tot.ite1 (pq_ck_vt h.1 vs) (pq_Tot.ite (fun _ => nx σ h nf pq_Gn.rf z1) (fun _ => pq_Tot.ite1 (pq_ck_vt h.1 v) (pq_Tot.ite (fun _ => nx σ h nf pq_Gn.rf z1) (fun _ => ?_))))
      refine pq_Tot.bd (h.lessH hN hB vs v) (fun r τ hr => pq_Tot.ite (fun _ => pq_Tot.ret (hq τ hr.2.1 hr.2.2.1)) (fun nr => nx τ hr.2.1 (fun z => nr (hr.2.2.2 z)) hr.2.2.1 z1))
    have b130 : ∀ s : Int32, pq_vt σ s.toInt → v6.toInt ≤ 1 → pq_Tot (M_M_holdArguments_b130 N (M_M_holdArguments_L97 N k198 n) v1 v2 v3 v4 v5 v6 s σ) Q := fun s vs z1 => by
      rw [M_M_holdArguments_b130]
      refine pq_Tot.ite (fun _ => pq_Tot.ite1 c5 (b154 _ _ vs (h.1.w a5 k5) z1)) (fun n0 => pq_Tot.ite1 c5 (b154 _ _ vs (h.1.h a5 k5 ?_) z1))
      have n0' : v6.toInt ≠ 0 := fun z => n0 (pq_iv_eq.2 z)
      rcases ok5.2.2.2.2 with y | y
      · omega
      · exact y.1
    have z1 : v6.toInt ≤ 1 := by rcases ok4.2.2.2.2 with y | y <;> omega
    refine pq_Tot.ite (fun _ => pq_Tot.ite1 c4 (b130 _ (h.1.w a4 k4) z1)) (fun n0 => pq_Tot.ite1 c4 (b130 _ (h.1.h a4 k4 ?_) z1))
    have n0' : v6.toInt ≠ 0 := fun z => n0 (pq_iv_eq.2 z)
    rcases ok4.2.2.2.2 with y | y
    · omega
    · exact y.1
set_option maxRecDepth 100000 in
theorem pq_hA_L2 {BB : Int} (hN : 20002 ≤ N) (hBB : BB + 90 < 4294967296) : ∀ (n : Nat) (m g : Nat) (v3 : Int32) (σ : SM) (B : Int), pq_Wo B σ → ¬ pq_fl σ → pq_vt σ v1.toInt → pq_vt σ v2.toInt → v3.toInt = g → g + m = 40 → B + pq_hR m ≤ BB → m < n → pq_Tot (M_M_holdArguments_L2 N n v1 v2 v3 σ) (pq_Hp BB σ) := by
  intro n
  induction n with
  | zero => intro m g v3 σ B _ _ _ _ _ _ _ h; omega
  | succ n ih =>
    intro m g v3 σ B h nf a1 a2 e3 hm hb hn
    rw [M_M_holdArguments_L2]
    have c40 := h.1.2.1
    have hr0 := pq_hR_nn m
    refine pq_Tot.ite (fun _ => pq_Tot.ret ⟨Or.inr rfl, h.le (by omega), pq_Gn.rf, fun z => absurd z nf⟩) (fun lt => ?_)
    rw [pq_iv_le, e3] at lt
    have lt' : (g : Int) < pq_cI σ := by simp only [pq_cI]; omega
    obtain ⟨m, rfl⟩ : ∃ k, m = k + 1 := ⟨m - 1, by omega⟩
    rw [pq_hR] at hb
    have hr1 := pq_hR_nn m
    have hb0 : B + pq_hR m ≤ BB := by split at hb <;> omega
    have c3 : ck v3 40 = true := pq_ck_mk (by omega) (by omega)
    have e1 : (v3 + 1).toInt = (g + 1 : Nat) := by rw [pq_iv_add (by rw [pq_iv_1]; omega) (by rw [pq_iv_1]; omega), e3, pq_iv_1]; omega
    have nx : ∀ τ B', pq_Wo B' τ → ¬ pq_fl τ → pq_Gn σ τ → B' + pq_hR m ≤ BB → pq_Tot (M_M_holdArguments_b198 N (M_M_holdArguments_L2 N n) v1 v2 v3 τ) (pq_Hp BB σ) := fun τ B' w nft gn hb' => by
      rw [M_M_holdArguments_b198]
      exact pq_Tot.nm ((ih m (g + 1) (v3 + 1) τ B' w nft (gn.1.vt a1) (gn.1.vt a2) e1 (by omega) hb' (by omega)).mono (fun r υ hr => hr.pre gn (Int.le_refl _)))
    refine pq_Tot.ite1 c3 (pq_Tot.ite (fun _ => nx σ B h nf pq_Gn.rf hb0) (fun np => ?_))
    have g9 : 9 ≤ g := Classical.byContradiction (fun z => np (pq_iv_eq.2 (by
      show pq_pI σ v3.toInt.toNat = 0
      rw [e3]; exact h.2.2.2.2.2 g (by omega))))
    rw [if_pos (by omega)] at hb
    have b46 : ∀ (τ : SM) (B' : Int) (r s : Int32), pq_Wo B' τ → pq_Gn σ τ → B' + pq_hR m ≤ BB → (¬ pq_fl τ → r ≠ -1 → s ≠ -1 → pq_vt τ r.toInt ∧ pq_oI τ r.toInt.toNat = g ∧ pq_vt τ s.toInt ∧ pq_oI τ s.toInt.toNat = g) → pq_Tot (M_M_holdArguments_b46 N (M_M_holdArguments_L2 N n) v1 v2 v3 r s τ) (pq_Hp BB σ) := fun τ B' r s w gn hb' hv => by
      rw [M_M_holdArguments_b46]
      refine pq_Tot.ite (fun f0 => ?_) (fun f0 => pq_Tot.ret ⟨Or.inl rfl, w.le (by omega), gn, fun _ => rfl⟩)
      have nft : ¬ pq_fl τ := fun z => z f0
      have go := nx τ B' w nft gn hb'
      refine pq_Tot.ite (fun _ => go) (fun nr => pq_Tot.ite (fun _ => go) (fun ns => ?_))
      obtain ⟨x1, x2, x3, x4⟩ := hv nft nr ns
      refine pq_Tot.ite1 (pq_ck_vt w.1 x1) (pq_Tot.ite (fun y1 => pq_Tot.ite1 (pq_ck_vt w.1 x3) (pq_Tot.ite (fun y2 => ?_) (fun _ => go))) (fun _ => go))
      refine pq_hA_L97 (B := B') hN (by omega) N 0 τ w nft x1 x3 (pq_eqI y1) (pq_eqI y2) (by rw [x2, e3]) (by rw [x4, e3]) (by decide) (by decide) (by rw [pq_iv_0]; omega) (fun σ' w' n' g' => nx σ' B' w' n' (gn.tr g') hb') (fun σ' w' g' => ⟨Or.inl rfl, w'.le (by omega), gn.tr g', fun _ => rfl⟩)
    refine pq_Tot.bd (h.above (by omega) (by omega) nf a1 e3 lt') (fun r σ3 hr => ?_)
    obtain ⟨b1, b2, b3, b4, b5⟩ := hr
    refine pq_Tot.ite (fun er => b46 σ3 _ r (-1) b1 b2 (by omega) (fun _ nr => absurd er nr)) (fun nr => ?_)
    have nf3 : ¬ pq_fl σ3 := fun z => nr (b4 z)
    have f1 : pq_fnd σ v1.toInt g := Classical.byContradiction (fun z => nr ((b5 nf3).2 z))
    have q1 := (b5 nf3).1 f1
    refine pq_Tot.bd (b1.above (by omega) (by omega) nf3 (b2.1.vt a2) e3 (by rw [b2.1.1]; exact lt')) (fun s σ8 hs => ?_)
    obtain ⟨d1, d2, d3, d4, d5⟩ := hs
    refine b46 σ8 _ r s d1 (b2.tr d2) (by omega) (fun nf8 _ ns => ?_)
    have f2 : pq_fnd σ3 v2.toInt g := Classical.byContradiction (fun z => ns ((d5 nf8).2 z))
    have q2 := (d5 nf8).1 f2
    exact ⟨d2.1.vt q1.1, by rw [d2.1.o q1.1]; exact q1.2.2.1, q2.1, q2.2.2.1⟩
set_option maxRecDepth 100000 in
theorem pq_holdArguments_ok {σ : SM} (hN : 20002 ≤ N) (hB : B + 930 + 90 < 4294967296) (h : pq_Wo B σ) (nf : ¬ pq_fl σ) (a1 : pq_vt σ v1.toInt) (a2 : pq_vt σ v2.toInt) : pq_Tot (M_M_holdArguments N v1 v2 σ) (pq_Hp (B + 930) σ) := by
  rw [M_M_holdArguments]
  exact pq_hA_L2 hN (by omega) N 40 0 0 σ B h nf a1 a2 rfl rfl (by rw [pq_hR40]; omega) (by omega)
end HA
