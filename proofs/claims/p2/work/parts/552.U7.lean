abbrev pq_LH7 : List Nat := [4, 5, 6, 7, 8, 9, 10, 12, 13, 14, 15, 16, 17, 18]
section HO
variable {N : Nat} {σ : SX}
set_option maxRecDepth 100000 in
theorem pq_rda {τ : SX} (h : pq_XI τ) (g : pq_XG pq_LR5 σ τ) {s a b : Int32} (ha : a.toInt < pq_Zx τ) (hb : b.toInt < pq_Zx τ) : pq_Tot (bd (X_Reducer_ask s a b τ) (fun (r : Int32) (σ' : SX) => (some (r, σ')))) (pq_Rd σ) :=
  pq_Tot.bd (pq_ask_x h ha hb) (fun _ _ q => pq_Tot.ret ⟨q.1, g.tr (q.2.1.up (by decide)), trivial⟩)
set_option maxRecDepth 100000 in
theorem pq_putsInto_x (hN : 501 ≤ N) (h : pq_XI σ) (x y : Int32) : pq_Tot (X_Holder_putsInto N x y σ) (pq_Rd σ) := by
  rw [X_Holder_putsInto]
  refine pq_Tot.bd (pq_xg_bvar h x) (fun r1 τ1 e1 => ?_)
  subst e1
  refine pq_Tot.bd (pq_xg_bvar h y) (fun r3 τ3 e3 => ?_)
  subst e3
  refine pq_Tot.bd (pq_xg_btype h x) (fun r5 τ5 h5 => ?_)
  obtain ⟨rfl, h5⟩ := h5
  refine pq_Tot.bd (pq_xg_btype h y) (fun r7 τ7 h7 => ?_)
  obtain ⟨rfl, h7⟩ := h7
  refine pq_Tot.bd (pq_xg_bsort h x) (fun r9 τ9 e9 => ?_)
  subst e9
  refine pq_Tot.ite (fun _ => pq_Tot.bd (pq_xg_isProper h r5) (fun r11 τ11 h11 => ?_)) (fun _ => pq_rd0 h)
  obtain ⟨rfl, _⟩ := h11
  refine pq_Tot.ite (fun _ => pq_rd0 h) (fun _ => pq_Tot.ite (fun _ => pq_rd0 h) (fun a => pq_Tot.ite (fun _ => pq_rd0 h) (fun b => pq_Tot.bd (pq_xg_vars h r7) (fun r13 τ13 h13 => ?_))))
  obtain ⟨rfl, _⟩ := h13
  rw [pq_iv_lt, pq_iv_0] at a
  rw [pq_iv_le, show (12 : Int32).toInt = 12 from rfl] at b
  have c : ck r3 12 = true := pq_ck_mk (by omega) (by omega)
  refine pq_Tot.ite (fun _ => pq_rd0 h) (fun _ => pq_Tot.bd (pq_forVariables_x h) (fun _ σ16 q16 => ?_))
  have g16 : pq_XG pq_LR5 τ13 σ16 := q16.2.1.up (by decide)
  refine pq_Tot.bd (pq_setInstead_x q16.1 (g16.lt h5)) (fun _ σ18 q18 => ?_)
  have g18 : pq_XG pq_LR5 τ13 σ18 := g16.tr (q18.2.1.up (by decide))
  refine pq_Tot.bd (pq_put22 hN q18.1 (g18.lt h7)) (fun r19 σ20 q20 => ?_)
  have g20 : pq_XG pq_LR5 τ13 σ20 := g18.tr (q20.2.1.up (by decide))
  refine pq_Tot.bd (pq_xg_bsort q20.1 y) (fun r21 τ21 e21 => ?_)
  subst e21
  have pq_vt : ∀ i, (aX_I_variableTypes τ21 i).toInt < pq_Zx τ21 := fun i => q20.1.2.1.1 17 (by decide) i
  exact pq_Tot.ite (fun _ => pq_Tot.ite1 c (pq_rda q20.1 g20 (pq_vt _) q20.2.2.1)) (fun _ => pq_Tot.ite (fun _ => pq_Tot.ite1 c (pq_rda q20.1 g20 (pq_vt _) q20.2.2.1)) (fun _ => pq_Tot.ite1 c (pq_rda q20.1 g20 q20.2.2.1 (pq_vt _))))
set_option maxRecDepth 100000 in
theorem pq_comes_x (hN : 501 ≤ N) (h : pq_XI σ) (x y : Int32) : pq_Tot (X_Holder_comes N x y σ) (pq_Rd σ) := by
  rw [X_Holder_comes]
  refine pq_Tot.bd (pq_xg_bvar h x) (fun r1 τ1 e1 => ?_)
  subst e1
  refine pq_Tot.bd (pq_xg_bvar h y) (fun r3 τ3 e3 => ?_)
  subst e3
  refine pq_Tot.ite (fun _ => pq_Tot.bd (pq_xg_bsort h x) (fun r5 τ5 e5 => ?_)) (fun _ => pq_Tot.bd (pq_putsInto_x hN h x y) (fun _ _ q => pq_Tot.ret q))
  subst e5
  refine pq_Tot.bd (pq_xg_bsort h y) (fun r7 τ7 e7 => ?_)
  subst e7
  refine pq_Tot.bd (pq_xg_btype h x) (fun r9 τ9 h9 => ?_)
  obtain ⟨rfl, h9⟩ := h9
  refine pq_Tot.bd (pq_xg_btype h y) (fun r11 τ11 h11 => ?_)
  obtain ⟨rfl, h11⟩ := h11
  have b119 : pq_Tot (X_Holder_comes_b119 N r5 r7 r9 r11 τ11) (pq_Rd τ11) := by
    rw [X_Holder_comes_b119]
    exact pq_Tot.ite (fun _ => pq_rd0 h) (fun _ => pq_Tot.ite (fun _ => pq_rda h pq_XG.rf h9 h11) (fun _ => pq_rd0 h))
  have b96 : pq_Tot (X_Holder_comes_b96 N r5 r7 r9 r11 τ11) (pq_Rd τ11) := by
    rw [X_Holder_comes_b96]
    exact pq_Tot.ite (fun _ => pq_Tot.ite (fun _ => pq_rda h pq_XG.rf h11 h9) (fun _ => b119)) (fun _ => b119)
  exact pq_Tot.ite (fun _ => pq_Tot.ite (fun _ => pq_Tot.ite (fun _ => pq_rd0 h) (fun _ => pq_rda h pq_XG.rf h9 h11)) (fun _ => b96)) (fun _ => b96)
set_option maxRecDepth 100000 in
theorem pq_share_x (hN : 20003 ≤ N) (h : pq_XI σ) (x y : Int32) : pq_Tot (X_Holder_shareArguments N x y σ) (pq_Rd σ) := by
  have cs : ∀ τ, pq_XG pq_LR5 σ τ → (gX_Classes_size τ).toInt = (gX_Classes_size σ).toInt := fun τ g => by rw [show gX_Classes_size τ = gX_Classes_size σ from g.2.2 3 (by decide)]
  have c40 : (gX_Classes_size σ).toInt ≤ 40 := h.2.2.1.1.2
  have L177 : ∀ (k283 : Int32 → Int32 → Int32 → Int32 → SX → Option (Int32 × SX)) (v4 v5 v6 : Int32), (∀ (τ : SX) (v3 : Int32), pq_XI τ → pq_XG pq_LR5 σ τ → pq_Tot (k283 x y v3 v4 τ) (pq_Rd σ)) → ∀ (n : Nat) (v3 v7 : Int32) (τ : SX), pq_XI τ → pq_XG pq_LR5 σ τ → (pq_Rg τ v5 ∧ pq_kX τ v5.toInt.toNat = 1) → (pq_Rg τ v6 ∧ pq_kX τ v6.toInt.toNat = 1) → 0 ≤ v7.toInt → v7.toInt ≤ 2 → 2 - v7.toInt < n → pq_Tot (X_Holder_shareArguments_L177 N k283 n x y v3 v4 v5 v6 v7 τ) (pq_Rd σ) := by
    intro k283 v4 v5 v6 hk n
    induction n with
    | zero => intro v3 v7 τ _ _ _ _ _ _ h; omega
    | succ n ih =>
      intro v3 v7 τ i g k5 k6 z0 z2 hn
      rw [X_Holder_shareArguments_L177]
      refine pq_Tot.bd (pq_xg_par i v4) (fun r24 τ24 h24 => ?_)
      obtain ⟨rfl, h24⟩ := h24
      refine pq_Tot.ite (fun _ => hk τ24 v3 i g) (fun lt => pq_Tot.ite (fun _ => ?_) (fun _ => hk τ24 v3 i g))
      rw [pq_iv_le] at lt
      have e7 : (v7 + 1).toInt = v7.toInt + 1 := pq_iv_add (by rw [pq_iv_1]; omega) (by rw [pq_iv_1]; omega)
      have b277 : ∀ (υ : SX) (w : Int32), pq_XI υ → pq_XG pq_LR5 σ υ → pq_XG pq_LR5 τ24 υ → pq_Tot (X_Holder_shareArguments_b277 N (X_Holder_shareArguments_L177 N k283 n) x y w v4 v5 v6 v7 υ) (pq_Rd σ) := fun υ w j gj gt => by
        rw [X_Holder_shareArguments_b277]
        exact pq_Tot.nm (ih w (v7 + 1) υ j gj ⟨gt.rg k5.1, by rw [gt.k k5.1]; exact k5.2⟩ ⟨gt.rg k6.1, by rw [gt.k k6.1]; exact k6.2⟩ (by omega) (by omega) (by omega))
      have arg : ∀ (z r : Int32), pq_Rg τ24 z ∧ pq_kX τ24 z.toInt.toNat = 1 → ((pq_Rg τ24 z ∧ (r.toInt = pq_wX τ24 z.toInt.toNat ∨ r.toInt = pq_hX τ24 z.toInt.toNat)) ∨ (¬ pq_Rg τ24 z ∧ r = -1)) → r.toInt < pq_Zx τ24 := fun z r k hr => by
        rcases hr with hr | hr
        · rcases hr.2 with e | e
          · rw [e]; exact i.w2 z hr.1 (Or.inl (by rw [k.2]; decide))
          · rw [e]; exact i.h3 z hr.1
        · rw [hr.2]; exact pq_m1_Zx i
      refine pq_Tot.bd (pq_xg_arg i v5 v7) (fun r26 τ26 h26 => ?_)
      obtain ⟨rfl, h26⟩ := h26
      refine pq_Tot.bd (pq_xg_arg i v6 v7) (fun r28 τ28 h28 => ?_)
      obtain ⟨rfl, h28⟩ := h28
      have a26 := arg v5 r26 k5 h26
      have a28 := arg v6 r28 k6 h28
      refine pq_Tot.bd (pq_xg_kind i r26) (fun r30 τ30 h30 => ?_)
      obtain ⟨rfl, _⟩ := h30
      refine pq_Tot.ite (fun _ => b277 τ30 v3 i g pq_XG.rf) (fun _ => pq_Tot.bd (pq_xg_kind i r28) (fun r33 τ33 h33 => ?_))
      obtain ⟨rfl, _⟩ := h33
      refine pq_Tot.ite (fun _ => b277 τ33 v3 i g pq_XG.rf) (fun _ => pq_Tot.bd (pq_ask_x i a26 a28) (fun r35 σ36 q36 => ?_))
      have g36 : pq_XG pq_LR5 τ33 σ36 := q36.2.1.up (by decide)
      exact pq_Tot.ite (fun _ => pq_Tot.bd (pq_less_x hN q36.1) (fun r37 σ38 q38 => b277 σ38 r37 q38.1 ((g.tr g36).tr q38.2.1) (g36.tr q38.2.1))) (fun _ => b277 σ36 r35 q36.1 (g.tr g36) g36)
  have L52 : ∀ (n : Nat) (v3 v4 : Int32) (τ : SX), pq_XI τ → pq_XG pq_LR5 σ τ → 0 ≤ v4.toInt → v4.toInt ≤ 40 → 40 - v4.toInt < n → pq_Tot (X_Holder_shareArguments_L52 N n x y v3 v4 τ) (pq_Rd σ) := by
    intro n
    induction n with
    | zero => intro v3 v4 τ _ _ _ _ h; omega
    | succ n ih =>
      intro v3 v4 τ i g z0 z1 hn
      rw [X_Holder_shareArguments_L52]
      refine pq_Tot.ite (fun _ => pq_rd1 i g) (fun lt => pq_Tot.ite (fun _ => pq_Tot.bd (pq_xg_par i v4) (fun r9 τ9 h9 => ?_)) (fun _ => pq_rd1 i g))
      rw [pq_iv_le, cs τ g] at lt
      obtain ⟨rfl, _⟩ := h9
      have e4 : (v4 + 1).toInt = v4.toInt + 1 := pq_iv_add (by rw [pq_iv_1]; omega) (by rw [pq_iv_1]; omega)
      have b283 : ∀ (υ : SX) (w : Int32), pq_XI υ → pq_XG pq_LR5 σ υ → pq_Tot (X_Holder_shareArguments_b283 N (X_Holder_shareArguments_L52 N n) x y w v4 υ) (pq_Rd σ) := fun υ w j gj => by
        rw [X_Holder_shareArguments_b283]
        exact pq_Tot.nm (ih w (v4 + 1) υ j gj (by omega) (by omega) (by omega))
      refine pq_Tot.ite (fun _ => b283 τ9 v3 i g) (fun _ => pq_Tot.bd (pq_xg_btype i x) (fun r12 τ12 h12 => ?_))
      obtain ⟨rfl, h12⟩ := h12
      refine pq_Tot.bd (pq_above_x (by omega) i h12) (fun r14 σ15 q15 => ?_)
      have g15 : pq_XG pq_LR5 τ12 σ15 := q15.2.1.up (by decide)
      refine pq_Tot.ite (fun _ => pq_rd1 q15.1 (g.tr g15)) (fun _ => pq_Tot.bd (pq_xg_kind q15.1 r14) (fun r16 τ16 h16 => ?_))
      obtain ⟨rfl, h16⟩ := h16
      refine pq_Tot.ite (fun e1 => pq_Tot.bd (pq_xg_btype q15.1 y) (fun r18 τ18 h18 => ?_)) (fun _ => b283 τ16 v3 q15.1 (g.tr g15))
      obtain ⟨rfl, h18⟩ := h18
      have k14 := pq_Gf.kd h16 e1 (by decide)
      refine pq_Tot.bd (pq_above_x (by omega) q15.1 h18) (fun r20 σ21 q21 => ?_)
      have g21 : pq_XG pq_LR5 τ18 σ21 := q21.2.1.up (by decide)
      have gg := (g.tr g15).tr g21
      refine pq_Tot.ite (fun _ => pq_rd1 q21.1 gg) (fun _ => pq_Tot.bd (pq_xg_kind q21.1 r20) (fun r22 τ22 h22 => ?_))
      obtain ⟨rfl, h22⟩ := h22
      refine pq_Tot.ite (fun e2 => ?_) (fun _ => b283 τ22 v3 q21.1 gg)
      have k20 := pq_Gf.kd h22 e2 (by decide)
      exact L177 _ v4 r14 r20 (fun υ w j gj => b283 υ w j gj) N v3 0 τ22 q21.1 gg ⟨g21.rg k14.1, by rw [g21.k k14.1]; exact k14.2⟩ ⟨k20.1, k20.2⟩ (by decide) (by decide) (by rw [pq_iv_0]; omega)
  rw [X_Holder_shareArguments]
  refine pq_Tot.bd (pq_xg_bvar h x) (fun r1 τ1 e1 => ?_)
  subst e1
  refine pq_Tot.bd (pq_xg_bvar h y) (fun r3 τ3 e3 => ?_)
  subst e3
  refine pq_Tot.ite (fun _ => pq_Tot.bd (pq_xg_bsort h x) (fun r5 τ5 e5 => ?_)) (fun _ => pq_rd0 h)
  subst e5
  refine pq_Tot.ite (fun _ => pq_Tot.bd (pq_xg_bsort h y) (fun r7 τ7 e7 => ?_)) (fun _ => pq_rd0 h)
  subst e7
  exact pq_Tot.ite (fun _ => L52 N 1 0 τ7 h pq_XG.rf (by decide) (by decide) (by rw [pq_iv_0]; omega)) (fun _ => pq_rd0 h)
abbrev pq_Hd (σ : SX) : Int32 → SX → Prop := pq_XQ pq_LH7 σ (fun _ _ => True)
set_option maxRecDepth 100000 in
theorem pq_holdAll_x (hN : 20003 ≤ N) (h : pq_XI σ) : pq_Tot (X_Holder_holdAll N σ) (pq_Hd σ) := by
  have L39 : ∀ (k124 : Int32 → SX → Option (Int32 × SX)) (σ0 : SX), pq_XG pq_LH7 σ σ0 → (∀ (τ : SX) (v1 : Int32), pq_XI τ → pq_XG pq_LR5 σ0 τ → pq_Tot (k124 v1 τ) (pq_Hd σ)) → ∀ (n : Nat) (v1 v2 : Int32) (τ : SX), pq_XI τ → pq_XG pq_LR5 σ0 τ → 0 ≤ v2.toInt → v2.toInt ≤ 200 → 200 - v2.toInt < n → pq_Tot (X_Holder_holdAll_L39 N k124 n v1 v2 τ) (pq_Hd σ) := by
    intro k124 σ0 g0 hk n
    induction n with
    | zero => intro v1 v2 τ _ _ _ _ h; omega
    | succ n ih =>
      intro v1 v2 τ i g z0 z1 hn
      rw [X_Holder_holdAll_L39]
      refine pq_Tot.ite (fun _ => hk τ v1 i g) (fun lt => pq_Tot.ite (fun _ => ?_) (fun _ => hk τ v1 i g))
      rw [pq_iv_le] at lt
      have h18 : (gX_Holder_held τ).toInt ≤ 200 := i.2.2.1.2.2.1.2
      have e2 : (v2 + 1).toInt = v2.toInt + 1 := pq_iv_add (by rw [pq_iv_1]; omega) (by rw [pq_iv_1]; omega)
      have b118 : ∀ (υ : SX) (w : Int32), pq_XI υ → pq_XG pq_LR5 σ0 υ → pq_Tot (X_Holder_holdAll_b118 N (X_Holder_holdAll_L39 N k124 n) w v2 υ) (pq_Hd σ) := fun υ w j gj => by
        rw [X_Holder_holdAll_b118]; exact pq_Tot.nm (ih w (v2 + 1) υ j gj (by omega) (by omega) (by omega))
      have b105 : ∀ (υ : SX) (w : Int32), pq_XI υ → pq_XG pq_LR5 σ0 υ → pq_Tot (X_Holder_holdAll_b105 N (X_Holder_holdAll_L39 N k124 n) w v2 υ) (pq_Hd σ) := fun υ w j gj => by
        rw [X_Holder_holdAll_b105]
        exact pq_Tot.ite (fun _ => pq_Tot.bd (pq_less_x hN j) (fun r υ' q => b118 υ' r q.1 (gj.tr q.2.1))) (fun _ => b118 υ w j gj)
      have b90 : ∀ (υ : SX) (w : Int32), pq_XI υ → pq_XG pq_LR5 σ0 υ → pq_Tot (X_Holder_holdAll_b90 N (X_Holder_holdAll_L39 N k124 n) w v2 υ) (pq_Hd σ) := fun υ w j gj => by
        rw [X_Holder_holdAll_b90]
        exact pq_Tot.ite (fun _ => pq_Tot.bd (pq_comes_x (by omega) j _ _) (fun r υ' q => b105 υ' r q.1 (gj.tr q.2.1))) (fun _ => b105 υ w j gj)
      have b75 : ∀ (υ : SX) (w : Int32), pq_XI υ → pq_XG pq_LR5 σ0 υ → pq_Tot (X_Holder_holdAll_b75 N (X_Holder_holdAll_L39 N k124 n) w v2 υ) (pq_Hd σ) := fun υ w j gj => by
        rw [X_Holder_holdAll_b75]
        exact pq_Tot.ite (fun _ => pq_Tot.bd (pq_share_x hN j _ _) (fun r υ' q => b90 υ' r q.1 (gj.tr q.2.1))) (fun _ => b90 υ w j gj)
      refine pq_Tot.bd (pq_comes_x (by omega) i _ _) (fun r3 σ4 q4 => ?_)
      have g4 := g.tr q4.2.1
      exact pq_Tot.ite (fun _ => pq_Tot.bd (pq_less_x hN q4.1) (fun r5 σ6 q6 => b75 σ6 r5 q6.1 (g4.tr q6.2.1))) (fun _ => b75 σ4 r3 q4.1 g4)
  have L8 : ∀ (n : Nat) (v1 : Int32) (τ : SX), pq_XI τ → pq_XG pq_LH7 σ τ → 200 - (gX_Holder_held τ).toInt < n → pq_Tot (X_Holder_holdAll_L8 N n v1 τ) (pq_Hd σ) := by
    intro n
    induction n with
    | zero => intro v1 τ i _ h; have : (gX_Holder_held τ).toInt ≤ 200 := i.2.2.1.2.2.1.2; omega
    | succ n ih =>
      intro v1 τ i g hn
      rw [X_Holder_holdAll_L8]
      have no : pq_Tot (some (v1, τ)) (pq_Hd σ) := pq_Tot.ret ⟨i, g, trivial⟩
      refine pq_Tot.ite (fun _ => pq_Tot.ite (fun _ => no) (fun _ => pq_Tot.ite (fun _ => no) (fun lt => ?_))) (fun _ => no)
      rw [pq_iv_le, show (200 : Int32).toInt = 200 from rfl] at lt
      have h18 : 0 ≤ (gX_Holder_held τ).toInt := i.2.2.1.2.2.1.1
      refine L39 _ τ g (fun υ w j gj => ?_) N v1 0 τ i pq_XG.rf (by decide) (by decide) (by rw [pq_iv_0]; omega)
      rw [X_Holder_holdAll_b124]
      refine pq_Tot.nm ?_
      have he : gX_Holder_held υ = gX_Holder_held τ := gj.2.2 18 (by decide)
      have e1 : (gX_Holder_held υ + 1).toInt = (gX_Holder_held τ).toInt + 1 := by rw [he, pq_iv_add (by rw [pq_iv_1]; omega) (by rw [pq_iv_1]; omega), pq_iv_1]
      have f : pq_xf [18] [] υ (sX_Holder_held υ (gX_Holder_held υ + 1)) := pq_xf.s pq_xf.rf (by decide) _
      have s18 : ((sX_Holder_held υ (gX_Holder_held υ + 1)).1 18).toInt = (gX_Holder_held τ).toInt + 1 := e1
      have sz : pq_SZ (sX_Holder_held υ (gX_Holder_held υ + 1)) := by
        rw [pq_SZ, f.1 0 (by decide), f.1 3 (by decide), f.1 5 (by decide), f.1 19 (by decide), f.1 20 (by decide), f.2 0 (by decide), s18]
        exact ⟨j.2.2.1.1, j.2.2.1.2.1, ⟨by omega, by omega⟩, j.2.2.1.2.2.2⟩
      have w' := j.wr f (by decide) (by decide) (fun a _ z => absurd z (by simp)) (fun c hc hl => absurd hl (by revert c; decide)) sz (j.2.2.2.xf f (by decide) (by decide))
      exact ih w _ w'.1 ((g.tr (gj.up (by decide))).tr (w'.2.up (by decide))) (by show 200 - (gX_Holder_held υ + 1).toInt < _; omega)
  rw [X_Holder_holdAll]
  refine pq_Tot.bd (pq_less_x hN h) (fun r1 σ2 q => L8 N r1 σ2 q.1 (q.2.1.up (by decide)) ?_)
  have : 0 ≤ (gX_Holder_held σ2).toInt := q.1.2.2.1.2.2.1.1
  omega
end HO
