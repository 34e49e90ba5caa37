abbrev pq_LR5 : List Nat := [4, 5, 6, 7, 8, 9, 10, 12, 13, 14, 15, 16, 17]
section BA
variable {N : Nat} {σ : SX}
set_option maxRecDepth 100000 in
theorem pq_badd_x (hN : 201 ≤ N) (h : pq_XI σ) {s v t f : Int32} (ht : t.toInt < pq_Zx σ) : pq_Tot (X_Bounds_add N s v t f σ) (pq_XQ [5] σ (fun _ _ => True)) := by
  have bs : 0 ≤ (gX_Bounds_size σ).toInt ∧ (gX_Bounds_size σ).toInt ≤ 200 := h.2.2.1.2.1
  have b53 : pq_Tot (X_Bounds_add_b53 N s v t f σ) (pq_XQ [5] σ (fun _ _ => True)) := by
    rw [X_Bounds_add_b53]
    refine pq_Tot.ite (fun _ => pq_Tot.ret ⟨h, pq_XG.rf, trivial⟩) (fun _ => pq_Tot.ite (fun lt => ?_) (fun _ => pq_Tot.ret ⟨h, pq_XG.rf, trivial⟩))
    rw [pq_iv_lt, show (200 : Int32).toInt = 200 from rfl] at lt
    have c : ck (gX_Bounds_size σ) 200 = true := pq_ck_mk bs.1 (by omega)
    have e1 : (gX_Bounds_size σ + 1).toInt = (gX_Bounds_size σ).toInt + 1 := by rw [pq_iv_add (by rw [pq_iv_1]; omega) (by rw [pq_iv_1]; omega), pq_iv_1]
    refine pq_Tot.ite1 c (pq_Tot.nm (pq_Tot.ite1 c (pq_Tot.nm (pq_Tot.ite1 c (pq_Tot.nm (pq_Tot.ite1 c (pq_Tot.nm (pq_Tot.nm (pq_Tot.ret ?_)))))))))
    generalize hτ : sX_Bounds_size _ _ = τ
    have f' : pq_xf [5] [13, 14, 15, 16] σ τ := by rw [← hτ]; exact pq_xf.s (pq_xf.t (pq_xf.t (pq_xf.t (pq_xf.t pq_xf.rf (by decide) _) (by decide) _) (by decide) _) (by decide) _) (by decide) _
    have z5 : (τ.1 5).toInt = (gX_Bounds_size σ).toInt + 1 := by rw [← hτ]; exact e1
    have q15 : ∀ i, (τ.2.1 15 i).toInt < pq_Zx σ := fun i => by
      rw [← hτ]
      show (upd (aX_Bounds_type σ) (gX_Bounds_size σ).toNatClampNeg t i).toInt < _
      rw [upd]; split
      · exact ht
      · exact h.2.1.1 15 (by decide) i
    clear hτ
    have sz : pq_SZ τ := by
      rw [pq_SZ, f'.1 0 (by decide), f'.1 3 (by decide), f'.1 18 (by decide), f'.1 19 (by decide), f'.1 20 (by decide), f'.2 0 (by decide), z5]
      exact ⟨h.2.2.1.1, ⟨by omega, by omega⟩, h.2.2.1.2.2⟩
    have q := h.wr f' (by decide) (by decide) (fun a _ z i => by
      have : a = 15 := by revert a; decide
      subst this; exact q15 i) (fun c hc hl => absurd hl (by revert c; decide)) sz (h.2.2.2.xf f' (by decide) (by decide))
    exact ⟨q.1, q.2, trivial⟩
  have key : ∀ (n : Nat) (v5 : Int32), 0 ≤ v5.toInt → v5.toInt ≤ (gX_Bounds_size σ).toInt → (gX_Bounds_size σ).toInt - v5.toInt < n → pq_Tot (X_Bounds_add_L3 N (X_Bounds_add_b53 N) n s v t f v5 σ) (pq_XQ [5] σ (fun _ _ => True)) := by
    intro n
    induction n with
    | zero => intro v5 _ _ h; omega
    | succ n ih =>
      intro v5 z0 z1 hn
      rw [X_Bounds_add_L3]
      refine pq_Tot.ite (fun _ => b53) (fun lt => ?_)
      rw [pq_iv_le] at lt
      have c : ck v5 200 = true := pq_ck_mk z0 (by omega)
      have e1 : (v5 + 1).toInt = v5.toInt + 1 := pq_iv_add (by rw [pq_iv_1]; omega) (by rw [pq_iv_1]; omega)
      have nx : pq_Tot (X_Bounds_add_b47 N (X_Bounds_add_L3 N (X_Bounds_add_b53 N) n) s v t f v5 σ) (pq_XQ [5] σ (fun _ _ => True)) := by
        rw [X_Bounds_add_b47]; exact pq_Tot.nm (ih (v5 + 1) (by omega) (by omega) (by omega))
      exact pq_Tot.ite1 c (pq_Tot.ite (fun _ => pq_Tot.ite1 c (pq_Tot.ite (fun _ => pq_Tot.ite1 c (pq_Tot.ite (fun _ => pq_Tot.ret ⟨h, pq_XG.rf, trivial⟩) (fun _ => nx))) (fun _ => nx))) (fun _ => nx))
  rw [X_Bounds_add]
  exact key N 0 (by decide) (by rw [pq_iv_0]; exact bs.1) (by rw [pq_iv_0]; omega)
set_option maxRecDepth 100000 in
theorem pq_settled_x (hN : 201 ≤ N) (h : pq_XI σ) (v : Int32) : pq_Tot (X_Bounds_settledAs N v σ) (fun r τ => τ = σ ∧ r.toInt < pq_Zx σ) := by
  have bs : 0 ≤ (gX_Bounds_size σ).toInt ∧ (gX_Bounds_size σ).toInt ≤ 200 := h.2.2.1.2.1
  have key : ∀ (n : Nat) (v3 : Int32), 0 ≤ v3.toInt → v3.toInt ≤ (gX_Bounds_size σ).toInt → (gX_Bounds_size σ).toInt - v3.toInt < n → pq_Tot (X_Bounds_settledAs_L2 N n v v3 σ) (fun r τ => τ = σ ∧ r.toInt < pq_Zx σ) := by
    intro n
    induction n with
    | zero => intro v3 _ _ h; omega
    | succ n ih =>
      intro v3 z0 z1 hn
      rw [X_Bounds_settledAs_L2]
      refine pq_Tot.ite (fun _ => pq_Tot.ret ⟨rfl, pq_m1_Zx h⟩) (fun lt => ?_)
      rw [pq_iv_le] at lt
      have c : ck v3 200 = true := pq_ck_mk z0 (by omega)
      have e1 : (v3 + 1).toInt = v3.toInt + 1 := pq_iv_add (by rw [pq_iv_1]; omega) (by rw [pq_iv_1]; omega)
      have nx : pq_Tot (X_Bounds_settledAs_b49 N (X_Bounds_settledAs_L2 N n) v v3 σ) (fun r τ => τ = σ ∧ r.toInt < pq_Zx σ) := by
        rw [X_Bounds_settledAs_b49]; exact pq_Tot.nm (ih (v3 + 1) (by omega) (by omega) (by omega))
      refine pq_Tot.ite1 c (pq_Tot.ite (fun _ => pq_Tot.ite1 c (pq_Tot.ite (fun _ => pq_Tot.ite1 c (pq_Tot.bd (pq_xg_isProper h _) (fun r τ hr => ?_))) (fun _ => nx))) (fun _ => nx))
      obtain ⟨rfl, _⟩ := hr
      exact pq_Tot.ite (fun _ => nx) (fun _ => pq_Tot.ite1 c (pq_Tot.ret ⟨rfl, h.2.1.1 15 (by decide) _⟩))
  rw [X_Bounds_settledAs]
  exact key N 0 (by decide) (by rw [pq_iv_0]; exact bs.1) (by rw [pq_iv_0]; omega)
set_option maxRecDepth 100000 in
theorem pq_wadd_x (h : pq_XI σ) {s l r w : Int32} (hl : l.toInt < pq_Zx σ) (hr : r.toInt < pq_Zx σ) : pq_Tot (X_Work_add s l r w σ) (pq_XQ [13] σ (fun _ _ => True)) := by
  rw [X_Work_add]
  refine pq_Tot.ite (fun _ => pq_Tot.ret ⟨h, pq_XG.rf, trivial⟩) (fun a => pq_Tot.ite (fun b => ?_) (fun _ => pq_Tot.ret ⟨h, pq_XG.rf, trivial⟩))
  rw [pq_iv_lt, pq_iv_0] at a
  rw [pq_iv_lt, show (120 : Int32).toInt = 120 from rfl] at b
  have c : ck (gX_Work_size σ) 120 = true := pq_ck_mk (by omega) (by omega)
  refine pq_Tot.ite1 c (pq_Tot.nm (pq_Tot.ite1 c (pq_Tot.nm (pq_Tot.ite1 c (pq_Tot.nm (pq_Tot.ite1 c (pq_Tot.nm (pq_Tot.nm (pq_Tot.ret ?_)))))))))
  generalize hτ : sX_Work_size _ _ = τ
  have f : pq_xf [13] [21, 22, 23, 24] σ τ := by rw [← hτ]; exact pq_xf.s (pq_xf.t (pq_xf.t (pq_xf.t (pq_xf.t pq_xf.rf (by decide) _) (by decide) _) (by decide) _) (by decide) _) (by decide) _
  have q22 : ∀ i, (τ.2.1 22 i).toInt < pq_Zx σ := fun i => by
    rw [← hτ]
    show (upd (aX_Work_lefts σ) (gX_Work_size σ).toNatClampNeg l i).toInt < _
    rw [upd]; split
    · exact hl
    · exact h.2.1.1 22 (by decide) i
  have q23 : ∀ i, (τ.2.1 23 i).toInt < pq_Zx σ := fun i => by
    rw [← hτ]
    show (upd (aX_Work_rights σ) (gX_Work_size σ).toNatClampNeg r i).toInt < _
    rw [upd]; split
    · exact hr
    · exact h.2.1.1 23 (by decide) i
  clear hτ
  have q := h.wr f (by decide) (by decide) (fun a _ z i => by
    have : a = 22 ∨ a = 23 := by revert a; decide
    rcases this with e | e
    · subst e; exact q22 i
    · subst e; exact q23 i) (fun c hc hl => absurd hl (by revert c; decide)) (h.2.2.1.xf f (by decide) (by decide)) (h.2.2.2.xf f (by decide) (by decide))
  exact ⟨q.1, q.2, trivial⟩
set_option maxRecDepth 100000 in
theorem pq_take_x (h : pq_XI σ) : pq_Tot (X_Work_take σ) (pq_XQ [13, 14, 15, 16, 17] σ (fun _ _ => True)) := by
  rw [X_Work_take]
  refine pq_Tot.ite (fun _ => pq_Tot.ret ⟨h, pq_XG.rf, trivial⟩) (fun a => pq_Tot.ite (fun b => pq_Tot.nm ?_) (fun _ => pq_Tot.ret ⟨h, pq_XG.rf, trivial⟩))
  rw [pq_iv_lt, pq_iv_1] at a
  rw [pq_iv_le, show (120 : Int32).toInt = 120 from rfl] at b
  have e : (gX_Work_size σ - 1).toInt = (gX_Work_size σ).toInt - 1 := by rw [pq_iv_sub (by rw [pq_iv_1]; omega) (by rw [pq_iv_1]; omega), pq_iv_1]
  have c : ck (gX_Work_size σ - 1) 120 = true := pq_ck_mk (by omega) (by omega)
  refine pq_Tot.ite1 c (pq_Tot.nm (pq_Tot.ite1 c (pq_Tot.nm (pq_Tot.ite1 c (pq_Tot.nm (pq_Tot.ite1 c (pq_Tot.nm (pq_Tot.ret ?_))))))))
  generalize hτ : sX_Work_level _ _ = τ
  have f : pq_xf [13, 14, 15, 16, 17] [] σ τ := by rw [← hτ]; exact pq_xf.s (pq_xf.s (pq_xf.s (pq_xf.s (pq_xf.s pq_xf.rf (by decide) _) (by decide) _) (by decide) _) (by decide) _) (by decide) _
  have q15 : (τ.1 15).toInt < pq_Zx σ := by rw [← hτ]; exact h.2.1.1 22 (by decide) _
  have q16 : (τ.1 16).toInt < pq_Zx σ := by rw [← hτ]; exact h.2.1.1 23 (by decide) _
  clear hτ
  have q := h.wr f (by decide) (by decide) (fun a _ z => absurd z (by simp)) (fun c hc hl => by
    have : c = 15 ∨ c = 16 := by revert c; decide
    rcases this with e | e
    · subst e; exact q15
    · subst e; exact q16) (h.2.2.1.xf f (by decide) (by decide)) (h.2.2.2.xf f (by decide) (by decide))
  exact ⟨q.1, q.2, trivial⟩
set_option maxRecDepth 100000 in
theorem pq_within_x (h : pq_XI σ) {s l r : Int32} (hl : l.toInt < pq_Zx σ) (hr : r.toInt < pq_Zx σ) : pq_Tot (X_Reducer_within s l r σ) (pq_XQ [13] σ (fun _ _ => True)) := by
  rw [X_Reducer_within]
  exact pq_Tot.ite (fun _ => pq_Tot.ret ⟨h, pq_XG.rf, trivial⟩) (fun _ => pq_Tot.ite (fun _ => pq_Tot.bd (pq_wadd_x h hl hr) (fun _ τ q => pq_Tot.ite (fun _ => pq_Tot.ret q) (fun _ => pq_Tot.ret q))) (fun _ => pq_Tot.ret ⟨h, pq_XG.rf, trivial⟩))
set_option maxRecDepth 100000 in
theorem pq_ask_x (h : pq_XI σ) {s l r : Int32} (hl : l.toInt < pq_Zx σ) (hr : r.toInt < pq_Zx σ) : pq_Tot (X_Reducer_ask s l r σ) (pq_XQ [13] σ (fun _ _ => True)) := by
  rw [X_Reducer_ask]
  exact pq_Tot.ite (fun _ => pq_Tot.ret ⟨h, pq_XG.rf, trivial⟩) (fun _ => pq_Tot.ite (fun _ => pq_Tot.bd (pq_wadd_x h hl hr) (fun _ τ q => pq_Tot.ite (fun _ => pq_Tot.ret q) (fun _ => pq_Tot.ret q))) (fun _ => pq_Tot.ret ⟨h, pq_XG.rf, trivial⟩))
set_option maxRecDepth 100000 in
theorem pq_widens_x (a b : Int32) : pq_Tot (X_Reducer_widens a b σ) (fun r τ => τ = σ ∧ (r = 0 ∨ r = 1)) := by
  rw [X_Reducer_widens]
  have n0 : pq_Tot (some ((0 : Int32), σ)) (fun r τ => τ = σ ∧ (r = 0 ∨ r = 1)) := pq_Tot.ret ⟨rfl, Or.inl rfl⟩
  have n1 : pq_Tot (some ((1 : Int32), σ)) (fun r τ => τ = σ ∧ (r = 0 ∨ r = 1)) := pq_Tot.ret ⟨rfl, Or.inr rfl⟩
  exact pq_Tot.ite (fun _ => n1) (fun _ => pq_Tot.ite (fun _ => n0) (fun _ => pq_Tot.ite (fun _ => n0) (fun _ => pq_Tot.ite (fun _ => n0) (fun _ => n1))))
set_option maxRecDepth 100000 in
theorem pq_truth_x (a : Int32) : pq_Tot (X_Reducer_truth a σ) (fun _ τ => τ = σ) := by
  rw [X_Reducer_truth]; exact pq_Tot.ite (fun _ => pq_Tot.ret rfl) (fun _ => pq_Tot.ret rfl)
set_option maxRecDepth 100000 in
theorem pq_mp0 {a b c : Int} (h : pq_XI σ) (hb : b < 0) (hc : c < 0) : pq_MP σ 0 a b c := by
  have := h.1.1
  exact ⟨fun z => by omega, fun _ => by omega, fun z => by omega, by omega, fun z => by omega⟩
set_option maxRecDepth 100000 in
theorem pq_bare_x (hN : 501 ≤ N) (h : pq_XI σ) (a : Int32) : pq_Tot (X_Types_make N 0 a (-1) (-1) σ) (pq_XQ [4] σ (pq_MR 0)) := pq_make_x hN h (pq_mp0 h (by decide) (by decide))
set_option maxRecDepth 100000 in
theorem pq_boxOf_x (hN : 501 ≤ N) (h : pq_XI σ) (x : Int32) : pq_Tot (X_Reducer_boxOf N x σ) (pq_XQ [4] σ (fun r τ => r.toInt < pq_Zx τ)) := by
  rw [X_Reducer_boxOf]
  refine pq_Tot.bd (pq_xg_first h x) (fun r τ hr => ?_)
  obtain ⟨rfl, _⟩ := hr
  exact pq_Tot.bd (pq_bare_x hN h _) (fun _ _ q => pq_Tot.ret ⟨q.1, q.2.1, q.2.2.z⟩)
set_option maxRecDepth 100000 in
theorem pq_unboxes_x (h : pq_XI σ) (x y : Int32) : pq_Tot (X_Reducer_unboxes x y σ) (fun _ τ => τ = σ) := by
  rw [X_Reducer_unboxes]
  refine pq_Tot.bd (pq_xg_first h x) (fun r τ hr => ?_)
  obtain ⟨rfl, _⟩ := hr
  refine pq_Tot.bd (pq_xg_kind h x) (fun r3 τ3 h3 => ?_)
  obtain ⟨rfl, _⟩ := h3
  refine pq_Tot.ite (fun _ => pq_Tot.ite (fun _ => pq_Tot.ret rfl) (fun _ => pq_Tot.ite (fun _ => pq_Tot.bd (pq_xg_first h y) (fun r5 τ5 h5 => ?_)) (fun _ => pq_Tot.ret rfl))) (fun _ => pq_Tot.ret rfl)
  obtain ⟨rfl, _⟩ := h5
  refine pq_Tot.bd (pq_widens_x _ _) (fun r7 τ7 h7 => ?_)
  obtain ⟨rfl, h7⟩ := h7
  exact pq_Tot.ite1 (decide_eq_true h7) (pq_Tot.ret rfl)
def pq_AbP (r : Int32) (τ : SX) : Prop := r.toInt < pq_Zx τ ∧ (pq_Rg τ r → pq_kX τ r.toInt.toNat ≠ 3)
abbrev pq_LA5 : List Nat := [4, 6, 7, 8]
set_option maxRecDepth 100000 in
theorem pq_MR.ab {r : Int32} {τ : SX} (h : pq_MR 0 r τ) : pq_AbP r τ := by
  refine ⟨h.z, fun v => ?_⟩
  rcases h with h | h
  · rw [h] at v; exact absurd v.1 (by decide)
  · rw [h.2]; decide
set_option maxRecDepth 100000 in
theorem pq_ab_neg {r : Int32} {τ : SX} (h : r.toInt < 0) : pq_AbP r τ := by
  have z : (1 : Int) ≤ pq_Zx τ := by rw [pq_Zx]; split <;> omega
  exact ⟨by omega, fun v => by have := v.1; omega⟩
set_option maxRecDepth 100000 in
theorem pq_above_x (hN : 501 ≤ N) (h : pq_XI σ) {x g : Int32} (hx : x.toInt < pq_Zx σ) : pq_Tot (X_Reducer_aboveOf N x g σ) (pq_XQ pq_LA5 σ pq_AbP) := by
  have b184 : ∀ τ, pq_XI τ → pq_XG pq_LA5 σ τ → pq_Tot (X_Reducer_aboveOf_b185 N x g τ) (pq_XQ pq_LA5 σ pq_AbP) := fun τ i gg => by
    rw [X_Reducer_aboveOf_b185]
    have no : pq_Tot (some ((-1 : Int32), τ)) (pq_XQ pq_LA5 σ pq_AbP) := pq_Tot.ret ⟨i, gg, pq_ab_neg (by decide)⟩
    refine pq_Tot.ite (fun _ => pq_Tot.bd (pq_xg_has i x) (fun r τ1 h1 => ?_)) (fun _ => no)
    obtain ⟨rfl, _⟩ := h1
    refine pq_Tot.ite (fun _ => no) (fun _ => pq_Tot.bd (pq_xg_kind i x) (fun r2 τ2 h2 => ?_))
    obtain ⟨rfl, _⟩ := h2
    exact pq_Tot.ite (fun _ => no) (fun _ => pq_Tot.bd (pq_bare_x hN i 0) (fun r3 τ3 q => pq_Tot.ret ⟨q.1, gg.tr (q.2.1.up (by decide)), q.2.2.ab⟩))
  have L44 : ∀ (n : Nat) (v3 v4 : Int32) (τ : SX), pq_XI τ → pq_XG pq_LA5 σ τ → v3.toInt < pq_Zx τ → 0 ≤ v4.toInt → v4.toInt ≤ 40 → 40 - v4.toInt < n → pq_Tot (X_Reducer_aboveOf_L44 N (X_Reducer_aboveOf_b185 N) n x g v3 v4 τ) (pq_XQ pq_LA5 σ pq_AbP) := by
    intro n
    induction n with
    | zero => intro v3 v4 τ _ _ _ _ _ h; omega
    | succ n ih =>
      intro v3 v4 τ i gg hv z0 z1 hn
      rw [X_Reducer_aboveOf_L44]
      refine pq_Tot.ite (fun _ => b184 τ i gg) (fun lt => ?_)
      rw [pq_iv_le, show (40 : Int32).toInt = 40 from rfl] at lt
      have e4 : (v4 + 1).toInt = v4.toInt + 1 := pq_iv_add (by rw [pq_iv_1]; omega) (by rw [pq_iv_1]; omega)
      have b171 : ∀ (a : Int32) (υ : SX), pq_XI υ → pq_XG pq_LA5 σ υ → a.toInt < pq_Zx υ → pq_Tot (X_Reducer_aboveOf_b172 N (X_Reducer_aboveOf_L44 N (X_Reducer_aboveOf_b185 N) n) x g a v4 υ) (pq_XQ pq_LA5 σ pq_AbP) := fun a υ j gj ha => by
        rw [X_Reducer_aboveOf_b172]
        exact pq_Tot.ite (fun _ => pq_Tot.nm (ih a (v4 + 1) υ j gj ha (by omega) (by omega) (by omega))) (fun _ => pq_Tot.ret ⟨j, gj, pq_ab_neg (by decide)⟩)
      refine pq_Tot.bd (pq_xg_class i v3) (fun r6 τ6 h6 => ?_)
      obtain ⟨rfl, h6⟩ := h6
      refine pq_Tot.bd (pq_xg_reaches i r6 g) (fun r8 τ8 h8 => ?_)
      obtain ⟨rfl, h8⟩ := h8
      refine pq_Tot.ite (fun _ => b184 τ8 i gg) (fun n8 => pq_Tot.bd (pq_xg_class i v3) (fun r10 τ10 h10 => ?_))
      obtain ⟨rfl, _⟩ := h10
      have k01 := (h6 (fun z => by have := h8 n8; rw [z, pq_iv_m1] at this; omega)).2
      refine pq_Tot.ite (fun _ => pq_Tot.ret ⟨i, gg, hv, fun _ => by omega⟩) (fun _ => pq_Tot.bd (pq_xg_towards (by omega) i r10 g) (fun r12 τ12 h12 => ?_))
      obtain ⟨rfl, h12⟩ := h12
      refine pq_Tot.bd (pq_xg_kind i v3) (fun r14 τ14 h14 => ?_)
      obtain ⟨rfl, h14⟩ := h14
      refine pq_Tot.ite (fun e1 => ?_) (fun _ => pq_Tot.bd (pq_xg_par i r10) (fun r21 τ21 h21 => ?_))
      · have v3v : pq_Rg τ14 v3 ∧ pq_kX τ14 v3.toInt.toNat = 1 := h14.elim (fun z => ⟨z.1, by rw [← z.2, e1]; rfl⟩) (fun z => by rw [z.2] at e1; exact absurd e1 (by decide))
        refine pq_Tot.bd (pq_forArguments_x i v3v.1 v3v.2) (fun _ σ17 h17 => ?_)
        refine pq_Tot.bd (pq_put22 hN h17.1 (h17.2.1.lt h12)) (fun r18 σ19 h19 => ?_)
        exact b171 r18 σ19 h19.1 ((gg.tr (h17.2.1.up (by decide))).tr (h19.2.1.up (by decide))) h19.2.2.1
      · obtain ⟨rfl, _⟩ := h21
        refine pq_Tot.ite (fun _ => b171 r12 τ21 i gg h12) (fun _ => pq_Tot.bd (pq_xg_first i r12) (fun r23 τ23 h23 => ?_))
        obtain ⟨rfl, _⟩ := h23
        exact pq_Tot.bd (pq_bare_x hN i _) (fun r25 σ26 q => b171 r25 σ26 q.1 (gg.tr (q.2.1.up (by decide))) q.2.2.z)
  have L5 : ∀ (n : Nat) (v3 v4 : Int32), v3.toInt < pq_Zx σ → 0 ≤ v4.toInt → v4.toInt ≤ 20 → 20 - v4.toInt < n → pq_Tot (X_Reducer_aboveOf_L5 N (X_Reducer_aboveOf_b41 N) n x g v3 v4 σ) (pq_XQ pq_LA5 σ pq_AbP) := by
    intro n
    induction n with
    | zero => intro v3 v4 _ _ _ h; omega
    | succ n ih =>
      intro v3 v4 hv z0 z1 hn
      rw [X_Reducer_aboveOf_L5]
      have b41 : pq_Tot (X_Reducer_aboveOf_b41 N x g v3 σ) (pq_XQ pq_LA5 σ pq_AbP) := by
        rw [X_Reducer_aboveOf_b41]
        exact L44 N v3 0 σ h pq_XG.rf hv (by decide) (by decide) (by rw [pq_iv_0]; omega)
      refine pq_Tot.ite (fun _ => b41) (fun lt => pq_Tot.bd (pq_xg_kind h v3) (fun r1 τ1 h1 => ?_))
      rw [pq_iv_le, show (20 : Int32).toInt = 20 from rfl] at lt
      obtain ⟨rfl, _⟩ := h1
      have e4 : (v4 + 1).toInt = v4.toInt + 1 := pq_iv_add (by rw [pq_iv_1]; omega) (by rw [pq_iv_1]; omega)
      refine pq_Tot.ite (fun _ => pq_Tot.bd (pq_xg_capture h v3 1) (fun r3 τ3 h3 => ?_)) (fun _ => b41)
      obtain ⟨rfl, h3⟩ := h3
      exact pq_Tot.nm (ih r3 (v4 + 1) h3 (by omega) (by omega) (by omega))
  rw [X_Reducer_aboveOf]
  exact L5 N x 0 hx (by decide) (by decide) (by rw [pq_iv_0]; omega)
end BA
