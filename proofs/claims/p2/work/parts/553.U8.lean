abbrev pq_LV8 : List Nat := [4, 5, 6, 7, 8, 9, 10, 12, 13, 14, 15, 16, 17, 19]
set_option maxRecDepth 100000 in
theorem pq_XI.row26 {σ : SX} (h : pq_XI σ) (f : Nat → Int32) : pq_XI (tX_Resolver_links σ f) ∧ pq_XG [] σ (tX_Resolver_links σ f) := by
  have x : pq_xf [] [26] σ (tX_Resolver_links σ f) := pq_xf.t pq_xf.rf (by decide) _
  exact h.wr x (by decide) (by decide) (fun a ha z => absurd z (by revert a; decide)) (fun c _ hl => absurd hl (by simp)) (h.2.2.1.xf x (by decide) (by decide)) (h.2.2.2.xf x (by decide) (by decide))
section RS
variable {N : Nat} {σ : SX}
abbrev pq_Lk8 (σ : SX) : Unit → SX → Prop := pq_XQ [] σ (fun _ _ => True)
set_option maxRecDepth 100000 in
theorem pq_fill_x (hN : 13 ≤ N) (h : pq_XI σ) (v : Int32) : pq_Tot (X_Arrays_fill N v σ) (pq_Lk8 σ) := by
  have key : ∀ (n : Nat) (v2 : Int32) (τ : SX), pq_XI τ → pq_XG [] σ τ → 0 ≤ v2.toInt → v2.toInt ≤ 12 → 12 - v2.toInt < n → pq_Tot (X_Arrays_fill_L5 N n v v2 12 τ) (pq_Lk8 σ) := by
    intro n
    induction n with
    | zero => intro v2 τ _ _ _ _ h; omega
    | succ n ih =>
      intro v2 τ i g z0 z1 hn
      rw [X_Arrays_fill_L5]
      refine pq_Tot.ite (fun _ => pq_Tot.ret ⟨i, g, trivial⟩) (fun lt => ?_)
      rw [pq_iv_le, show (12 : Int32).toInt = 12 from rfl] at lt
      have e : (v2 + 1).toInt = v2.toInt + 1 := pq_iv_add (by rw [pq_iv_1]; omega) (by rw [pq_iv_1]; omega)
      have q := i.row26 (upd (aX_Resolver_links τ) v2.toNatClampNeg v)
      exact pq_Tot.ite1 (pq_ck_mk z0 (by omega)) (pq_Tot.nm (pq_Tot.nm (ih (v2 + 1) _ q.1 (g.tr q.2) (by omega) (by omega) (by omega))))
  rw [X_Arrays_fill]
  exact key N 0 σ h pq_XG.rf (by decide) (by decide) (by rw [pq_iv_0]; omega)
set_option maxRecDepth 100000 in
theorem pq_link_x (hN : 201 ≤ N) (h : pq_XI σ) (v : Int32) : pq_Tot (X_Resolver_link N v σ) (pq_Lk8 σ) := by
  have L84 : ∀ (k120 : Int32 → Int32 → SX → Option (Unit × SX)) (v2 v3 v4 : Int32), (∀ τ, pq_XI τ → pq_XG [] σ τ → pq_Tot (k120 v v2 τ) (pq_Lk8 σ)) → ∀ (n : Nat) (v5 : Int32) (τ : SX), pq_XI τ → pq_XG [] σ τ → 0 ≤ v5.toInt → v5.toInt ≤ 12 → 12 - v5.toInt < n → pq_Tot (X_Resolver_link_L84 N k120 n v v2 v3 v4 v5 τ) (pq_Lk8 σ) := by
    intro k120 v2 v3 v4 hk n
    induction n with
    | zero => intro v5 τ _ _ _ _ h; omega
    | succ n ih =>
      intro v5 τ i g z0 z1 hn
      rw [X_Resolver_link_L84]
      refine pq_Tot.ite (fun _ => hk τ i g) (fun lt => ?_)
      rw [pq_iv_le, show (12 : Int32).toInt = 12 from rfl] at lt
      have e : (v5 + 1).toInt = v5.toInt + 1 := pq_iv_add (by rw [pq_iv_1]; omega) (by rw [pq_iv_1]; omega)
      have c : ck v5 12 = true := pq_ck_mk z0 (by omega)
      have nx : ∀ υ, pq_XI υ → pq_XG [] σ υ → pq_Tot (X_Resolver_link_b114 N (X_Resolver_link_L84 N k120 n) v v2 v3 v4 v5 υ) (pq_Lk8 σ) := fun υ j gj => by
        rw [X_Resolver_link_b114]; exact pq_Tot.nm (ih (v5 + 1) υ j gj (by omega) (by omega) (by omega))
      refine pq_Tot.ite (fun _ => nx τ i g) (fun _ => pq_Tot.ite1 c (pq_Tot.ite1 c (pq_Tot.nm ?_)))
      have q := i.row26 (upd (aX_Resolver_links τ) v5.toNatClampNeg ((aX_Resolver_links τ v5.toNatClampNeg) ||| ((1 : Int32) <<< (v3 &&& 31))))
      exact nx _ q.1 (g.tr q.2)
  have bs : 0 ≤ (gX_Bounds_size σ).toInt ∧ (gX_Bounds_size σ).toInt ≤ 200 := h.2.2.1.2.1
  have be : ∀ τ, pq_XG [] σ τ → gX_Bounds_size τ = gX_Bounds_size σ := fun τ g => g.2.2 5 (by decide)
  have L10 : ∀ (n : Nat) (v2 : Int32) (τ : SX), pq_XI τ → pq_XG [] σ τ → 0 ≤ v2.toInt → v2.toInt ≤ (gX_Bounds_size σ).toInt → (gX_Bounds_size σ).toInt - v2.toInt < n → pq_Tot (X_Resolver_link_L10 N n v v2 τ) (pq_Lk8 σ) := by
    intro n
    induction n with
    | zero => intro v2 τ _ _ _ _ h; omega
    | succ n ih =>
      intro v2 τ i g z0 z1 hn
      rw [X_Resolver_link_L10]
      refine pq_Tot.ite (fun _ => pq_Tot.ret ⟨i, g, trivial⟩) (fun lt => ?_)
      rw [pq_iv_le, be τ g] at lt
      have e : (v2 + 1).toInt = v2.toInt + 1 := pq_iv_add (by rw [pq_iv_1]; omega) (by rw [pq_iv_1]; omega)
      have nx : ∀ υ, pq_XI υ → pq_XG [] σ υ → pq_Tot (X_Resolver_link_b120 N (X_Resolver_link_L10 N n) v v2 υ) (pq_Lk8 σ) := fun υ j gj => by
        rw [X_Resolver_link_b120]; exact pq_Tot.nm (ih (v2 + 1) υ j gj (by omega) (by omega) (by omega))
      refine pq_Tot.bd (pq_xg_bvar i v2) (fun r3 τ3 e3 => ?_)
      subst e3
      refine pq_Tot.ite (fun _ => nx τ3 i g) (fun a => pq_Tot.ite (fun _ => nx τ3 i g) (fun b => pq_Tot.ite (fun _ => nx τ3 i g) (fun _ => pq_Tot.bd (pq_xg_btype i v2) (fun r6 τ6 h6 => ?_))))
      obtain ⟨rfl, _⟩ := h6
      rw [pq_iv_lt, pq_iv_0] at a
      rw [pq_iv_le, show (12 : Int32).toInt = 12 from rfl] at b
      have c : ck r3 12 = true := pq_ck_mk (by omega) (by omega)
      refine pq_Tot.bd (pq_xg_vars i r6) (fun r8 τ8 h8 => pq_Tot.nm ?_)
      obtain ⟨rfl, _⟩ := h8
      refine pq_Tot.ite1 c (pq_Tot.ite1 c (pq_Tot.nm ?_))
      have q := i.row26 (upd (aX_Resolver_links τ8) r3.toNatClampNeg ((aX_Resolver_links τ8 r3.toNatClampNeg) ||| (r8 &&& v)))
      exact L84 _ v2 r3 (r8 &&& v) (fun υ j gj => nx υ j gj) N 0 _ q.1 (g.tr q.2) (by decide) (by decide) (by rw [pq_iv_0]; omega)
  rw [X_Resolver_link]
  refine pq_Tot.bd (pq_fill_x (by omega) h 0) (fun _ σ2 q => L10 N 0 σ2 q.1 q.2.1 (by decide) (by rw [pq_iv_0]; exact bs.1) (by rw [pq_iv_0]; omega))
set_option maxRecDepth 100000 in
theorem pq_group_x (hN : 13 ≤ N) (h : pq_XI σ) (v : Int32) : pq_Tot (X_Resolver_groupOf N v σ) (fun _ τ => τ = σ) := by
  have L15 : ∀ (k47 : Int32 → Int32 → SX → Option (Int32 × SX)) (v3 : Int32), (∀ v2, pq_Tot (k47 v2 v3 σ) (fun _ τ => τ = σ)) → ∀ (n : Nat) (v2 v4 : Int32), 0 ≤ v4.toInt → v4.toInt ≤ 12 → 12 - v4.toInt < n → pq_Tot (X_Resolver_groupOf_L15 N k47 n v2 v3 v4 σ) (fun _ τ => τ = σ) := by
    intro k47 v3 hk n
    induction n with
    | zero => intro v2 v4 _ _ h; omega
    | succ n ih =>
      intro v2 v4 z0 z1 hn
      rw [X_Resolver_groupOf_L15]
      refine pq_Tot.ite (fun _ => hk v2) (fun lt => ?_)
      rw [pq_iv_le, show (12 : Int32).toInt = 12 from rfl] at lt
      have e : (v4 + 1).toInt = v4.toInt + 1 := pq_iv_add (by rw [pq_iv_1]; omega) (by rw [pq_iv_1]; omega)
      have nx : ∀ w, pq_Tot (X_Resolver_groupOf_b41 N (X_Resolver_groupOf_L15 N k47 n) w v3 v4 σ) (fun _ τ => τ = σ) := fun w => by
        rw [X_Resolver_groupOf_b41]; exact pq_Tot.nm (ih w (v4 + 1) (by omega) (by omega) (by omega))
      exact pq_Tot.ite (fun _ => nx v2) (fun _ => pq_Tot.ite1 (pq_ck_mk z0 (by omega)) (pq_Tot.nm (nx _)))
  have L6 : ∀ (n : Nat) (v2 v3 : Int32), 0 ≤ v3.toInt → v3.toInt ≤ 12 → 12 - v3.toInt < n → pq_Tot (X_Resolver_groupOf_L6 N n v2 v3 σ) (fun _ τ => τ = σ) := by
    intro n
    induction n with
    | zero => intro v2 v3 _ _ h; omega
    | succ n ih =>
      intro v2 v3 z0 z1 hn
      rw [X_Resolver_groupOf_L6]
      refine pq_Tot.ite (fun _ => pq_Tot.ret rfl) (fun lt => ?_)
      rw [pq_iv_le, show (12 : Int32).toInt = 12 from rfl] at lt
      have e : (v3 + 1).toInt = v3.toInt + 1 := pq_iv_add (by rw [pq_iv_1]; omega) (by rw [pq_iv_1]; omega)
      refine L15 _ v3 (fun w => ?_) N v2 0 (by decide) (by decide) (by rw [pq_iv_0]; omega)
      rw [X_Resolver_groupOf_b47]; exact pq_Tot.nm (ih w (v3 + 1) (by omega) (by omega) (by omega))
  rw [X_Resolver_groupOf]
  exact pq_Tot.nm (L6 N _ 0 (by decide) (by decide) (by rw [pq_iv_0]; omega))
set_option maxRecDepth 100000 in
theorem pq_bits_x (v : Int32) : pq_Tot (X_Integer_bitCount v σ) (fun _ τ => τ = σ) := by
  rw [X_Integer_bitCount]; exact pq_Tot.nm (pq_Tot.nm (pq_Tot.nm (pq_Tot.nm (pq_Tot.nm (pq_Tot.ret rfl)))))
set_option maxRecDepth 100000 in
theorem pq_next_x (hN : 501 ≤ N) (h : pq_XI σ) {v : Int32} (hv : v.toInt ≤ 12) : pq_Tot (X_Resolver_nextGroup N v σ) (pq_XQ [] σ (fun _ _ => True)) := by
  have L46 : ∀ (n : Nat) (τ : SX) (v2 v3 v4 : Int32), pq_XI τ → pq_XG [] σ τ → 0 ≤ v4.toInt → v4.toInt ≤ 12 → 12 - v4.toInt < n → pq_Tot (X_Resolver_nextGroup_L46 N n v v2 v3 v4 τ) (pq_XQ [] σ (fun _ _ => True)) := by
    intro n
    induction n with
    | zero => intro τ v2 v3 v4 _ _ _ _ h; omega
    | succ n ih =>
      intro τ v2 v3 v4 i g z0 z1 hn
      rw [X_Resolver_nextGroup_L46]
      refine pq_Tot.ite (fun _ => pq_Tot.ret ⟨i, g, trivial⟩) (fun lt => ?_)
      rw [pq_iv_le] at lt
      have e : (v4 + 1).toInt = v4.toInt + 1 := pq_iv_add (by rw [pq_iv_1]; omega) (by rw [pq_iv_1]; omega)
      have nx : ∀ w, pq_Tot (X_Resolver_nextGroup_b91 N (X_Resolver_nextGroup_L46 N n) v v2 w v4 τ) (pq_XQ [] σ (fun _ _ => True)) := fun w => by
        rw [X_Resolver_nextGroup_b91]; exact pq_Tot.nm (ih τ v2 w (v4 + 1) i g (by omega) (by omega) (by omega))
      refine pq_Tot.ite (fun _ => nx v3) (fun _ => pq_Tot.bd (pq_group_x (by omega) i v4) (fun r8 τ8 e8 => ?_))
      subst e8
      have b88 : pq_Tot (X_Resolver_nextGroup_b88 N (X_Resolver_nextGroup_L46 N n) v v2 v4 r8 τ8) (pq_XQ [] σ (fun _ _ => True)) := by rw [X_Resolver_nextGroup_b88]; exact nx r8
      refine pq_Tot.ite (fun _ => b88) (fun _ => pq_Tot.bd (pq_bits_x r8) (fun r10 τ10 e10 => ?_))
      subst e10
      refine pq_Tot.bd (pq_bits_x v3) (fun r12 τ12 e12 => ?_)
      subst e12
      exact pq_Tot.ite (fun _ => nx v3) (fun _ => b88)
  have L4 : ∀ (n : Nat) (v2 v3 : Int32), 0 ≤ v3.toInt → v3.toInt ≤ 12 → 12 - v3.toInt < n → pq_Tot (X_Resolver_nextGroup_L4 N (X_Resolver_nextGroup_b36 N) n v v2 v3 σ) (pq_XQ [] σ (fun _ _ => True)) := by
    intro n
    induction n with
    | zero => intro v2 v3 _ _ h; omega
    | succ n ih =>
      intro v2 v3 z0 z1 hn
      rw [X_Resolver_nextGroup_L4]
      refine pq_Tot.ite (fun _ => ?_) (fun lt => ?_)
      · rw [X_Resolver_nextGroup_b36]
        exact pq_Tot.bd (pq_link_x (by omega) h v2) (fun _ σ6 q => L46 N σ6 v2 0 0 q.1 q.2.1 (by decide) (by decide) (by rw [pq_iv_0]; omega))
      · rw [pq_iv_le] at lt
        have e : (v3 + 1).toInt = v3.toInt + 1 := pq_iv_add (by rw [pq_iv_1]; omega) (by rw [pq_iv_1]; omega)
        have nx : ∀ w, pq_Tot (X_Resolver_nextGroup_b30 N (X_Resolver_nextGroup_L4 N (X_Resolver_nextGroup_b36 N) n) v w v3 σ) (pq_XQ [] σ (fun _ _ => True)) := fun w => by
          rw [X_Resolver_nextGroup_b30]; exact pq_Tot.nm (ih w (v3 + 1) (by omega) (by omega) (by omega))
        refine pq_Tot.bd (pq_settled_x (by omega) h v3) (fun r1 τ1 h1 => ?_)
        obtain ⟨rfl, _⟩ := h1
        exact pq_Tot.ite (fun _ => nx v2) (fun _ => pq_Tot.nm (nx _))
  rw [X_Resolver_nextGroup]
  exact L4 N 0 0 (by decide) (by decide) (by rw [pq_iv_0]; omega)
abbrev pq_Vs (σ : SX) (P : Int32 → SX → Prop) : Int32 → SX → Prop := pq_XQ pq_LV8 σ P
set_option maxRecDepth 100000 in
theorem pq_gather_x (hN : 201 ≤ N) (h : pq_XI σ) (s v : Int32) : pq_Tot (X_Resolver_gather N s v σ) (pq_XQ [19] σ (fun _ _ => True)) := by
  have bs : 0 ≤ (gX_Bounds_size σ).toInt ∧ (gX_Bounds_size σ).toInt ≤ 200 := h.2.2.1.2.1
  have wr : ∀ (τ : SX) (f : Nat → Int32) (n : Int32), pq_XI τ → (∀ i, (f i).toInt < pq_Zx τ) → 0 ≤ n.toInt → n.toInt ≤ 200 → pq_XI (sX_Resolver_nearSize (tX_Resolver_near τ f) n) ∧ pq_XG [19] τ (sX_Resolver_nearSize (tX_Resolver_near τ f) n) := fun τ f n i hf n0 n1 => by
    have x : pq_xf [19] [25] τ (sX_Resolver_nearSize (tX_Resolver_near τ f) n) := pq_xf.s (pq_xf.t pq_xf.rf (by decide) _) (by decide) _
    have s19 : ((sX_Resolver_nearSize (tX_Resolver_near τ f) n).1 19).toInt = n.toInt := rfl
    have sz : pq_SZ (sX_Resolver_nearSize (tX_Resolver_near τ f) n) := by
      rw [pq_SZ, x.1 0 (by decide), x.1 3 (by decide), x.1 5 (by decide), x.1 18 (by decide), x.1 20 (by decide), x.2 0 (by decide), s19]
      exact ⟨i.2.2.1.1, i.2.2.1.2.1, i.2.2.1.2.2.1, ⟨n0, n1⟩, i.2.2.1.2.2.2.2⟩
    exact i.wr x (by decide) (by decide) (fun a ha z j => by
      have : a = 25 := by revert a; decide
      subst this; exact hf j) (fun c hc hl => absurd hl (by revert c; decide)) sz (i.2.2.2.xf x (by decide) (by decide))
  have L7 : ∀ (n : Nat) (v3 : Int32) (τ : SX), pq_XI τ → pq_XG [19] σ τ → 0 ≤ v3.toInt → v3.toInt ≤ (gX_Bounds_size σ).toInt → (gX_Bounds_size σ).toInt - v3.toInt < n → pq_Tot (X_Resolver_gather_L7 N n s v v3 τ) (pq_XQ [19] σ (fun _ _ => True)) := by
    intro n
    induction n with
    | zero => intro v3 τ _ _ _ _ h; omega
    | succ n ih =>
      intro v3 τ i g z0 z1 hn
      rw [X_Resolver_gather_L7]
      refine pq_Tot.ite (fun _ => pq_Tot.ret ⟨i, g, trivial⟩) (fun lt => pq_Tot.ite (fun _ => pq_Tot.ret ⟨i, g, trivial⟩) (fun n200 => ?_))
      rw [pq_iv_le, show gX_Bounds_size τ = gX_Bounds_size σ from g.2.2 5 (by decide)] at lt
      rw [pq_iv_le, show (200 : Int32).toInt = 200 from rfl] at n200
      have e : (v3 + 1).toInt = v3.toInt + 1 := pq_iv_add (by rw [pq_iv_1]; omega) (by rw [pq_iv_1]; omega)
      have nx : ∀ υ, pq_XI υ → pq_XG [19] σ υ → pq_Tot (X_Resolver_gather_b103 N (X_Resolver_gather_L7 N n) s v v3 υ) (pq_XQ [19] σ (fun _ _ => True)) := fun υ j gj => by
        rw [X_Resolver_gather_b103]; exact pq_Tot.nm (ih (v3 + 1) υ j gj (by omega) (by omega) (by omega))
      refine pq_Tot.bd (pq_xg_bsort i v3) (fun r2 τ2 e2 => ?_)
      subst e2
      refine pq_Tot.ite (fun _ => pq_Tot.bd (pq_xg_bvar i v3) (fun r4 τ4 e4 => ?_)) (fun _ => nx τ2 i g)
      subst e4
      refine pq_Tot.ite (fun _ => pq_Tot.bd (pq_xg_btype i v3) (fun r6 τ6 h6 => ?_)) (fun _ => nx τ4 i g)
      obtain ⟨rfl, _⟩ := h6
      refine pq_Tot.bd (pq_xg_isProper i r6) (fun r8 τ8 h8 => ?_)
      obtain ⟨rfl, _⟩ := h8
      refine pq_Tot.ite (fun _ => nx τ8 i g) (fun _ => pq_Tot.bd (pq_xg_btype i v3) (fun r11 τ11 h11 => ?_))
      obtain ⟨rfl, h11⟩ := h11
      have ns : 0 ≤ (gX_Resolver_nearSize τ11).toInt := i.2.2.1.2.2.2.1.1
      refine pq_Tot.ite1 (pq_ck_mk ns (by omega)) (pq_Tot.nm (pq_Tot.nm ?_))
      have e1 : (gX_Resolver_nearSize τ11 + 1).toInt = (gX_Resolver_nearSize τ11).toInt + 1 := by rw [pq_iv_add (by rw [pq_iv_1]; omega) (by rw [pq_iv_1]; omega), pq_iv_1]
      have q := wr τ11 (upd (aX_Resolver_near τ11) (gX_Resolver_nearSize τ11).toNatClampNeg r11) (gX_Resolver_nearSize τ11 + 1) i (fun j => by
        rw [upd]; split
        · exact h11
        · exact i.2.1.1 25 (by decide) j) (by omega) (by omega)
      exact nx _ q.1 (g.tr q.2)
  rw [X_Resolver_gather]
  refine pq_Tot.nm ?_
  have x : pq_xf [19] [] σ (sX_Resolver_nearSize σ 0) := pq_xf.s pq_xf.rf (by decide) _
  have s19 : ((sX_Resolver_nearSize σ 0).1 19).toInt = 0 := rfl
  have sz : pq_SZ (sX_Resolver_nearSize σ 0) := by
    rw [pq_SZ, x.1 0 (by decide), x.1 3 (by decide), x.1 5 (by decide), x.1 18 (by decide), x.1 20 (by decide), x.2 0 (by decide), s19]
    exact ⟨h.2.2.1.1, h.2.2.1.2.1, h.2.2.1.2.2.1, ⟨by omega, by omega⟩, h.2.2.1.2.2.2.2⟩
  have q := h.wr x (by decide) (by decide) (fun a ha z => absurd z (by simp)) (fun c hc hl => absurd hl (by revert c; decide)) sz (h.2.2.2.xf x (by decide) (by decide))
  exact L7 N 0 _ q.1 q.2 (by decide) (by rw [pq_iv_0]; exact bs.1) (by rw [pq_iv_0]; omega)
set_option maxRecDepth 100000 in
theorem pq_outer_x (hN : 20003 ≤ N) (h : pq_XI σ) (s : Int32) : pq_Tot (X_Resolver_outermost N s σ) (pq_XQ pq_LR5 σ (fun r τ => r.toInt < pq_Zx τ)) := by
  have ns : (gX_Resolver_nearSize σ).toInt ≤ 200 := h.2.2.1.2.2.2.1.2
  have ne : ∀ τ, pq_XG pq_LR5 σ τ → gX_Resolver_nearSize τ = gX_Resolver_nearSize σ := fun τ g => g.2.2 19 (by decide)
  have near : ∀ τ, pq_XI τ → ∀ i, (aX_Resolver_near τ i).toInt < pq_Zx τ := fun τ i j => i.2.1.1 25 (by decide) j
  have L15 : ∀ (k108 : Int32 → Int32 → Int32 → SX → Option (Int32 × SX)) (v2 : Int32), 0 ≤ v2.toInt → v2.toInt < 200 → (∀ τ v3, pq_XI τ → pq_XG pq_LR5 σ τ → pq_Tot (k108 s v2 v3 τ) (pq_XQ pq_LR5 σ (fun r τ => r.toInt < pq_Zx τ))) → ∀ (n : Nat) (v3 v4 : Int32) (τ : SX), pq_XI τ → pq_XG pq_LR5 σ τ → 0 ≤ v4.toInt → v4.toInt ≤ 200 → 200 - v4.toInt < n → pq_Tot (X_Resolver_outermost_L15 N k108 n s v2 v3 v4 τ) (pq_XQ pq_LR5 σ (fun r τ => r.toInt < pq_Zx τ)) := by
    intro k108 v2 y0 y1 hk n
    induction n with
    | zero => intro v3 v4 τ _ _ _ _ h; omega
    | succ n ih =>
      intro v3 v4 τ i g z0 z1 hn
      rw [X_Resolver_outermost_L15]
      refine pq_Tot.ite (fun _ => hk τ v3 i g) (fun lt => pq_Tot.ite (fun _ => ?_) (fun _ => hk τ v3 i g))
      rw [pq_iv_le, ne τ g] at lt
      have e : (v4 + 1).toInt = v4.toInt + 1 := pq_iv_add (by rw [pq_iv_1]; omega) (by rw [pq_iv_1]; omega)
      have c4 : ck v4 200 = true := pq_ck_mk z0 (by omega)
      have c2 : ck v2 200 = true := pq_ck_mk y0 y1
      have b102 : ∀ (υ : SX) (w : Int32), pq_XI υ → pq_XG pq_LR5 σ υ → pq_Tot (X_Resolver_outermost_b102 N (X_Resolver_outermost_L15 N k108 n) s v2 w v4 υ) (pq_XQ pq_LR5 σ (fun r τ => r.toInt < pq_Zx τ)) := fun υ w j gj => by
        rw [X_Resolver_outermost_b102]; exact pq_Tot.nm (ih w (v4 + 1) υ j gj (by omega) (by omega) (by omega))
      have b88 : ∀ (υ : SX) (w : Int32), pq_XI υ → pq_XG pq_LR5 σ υ → pq_Tot (X_Resolver_outermost_b88 N (X_Resolver_outermost_L15 N k108 n) s v2 v4 w υ) (pq_XQ pq_LR5 σ (fun r τ => r.toInt < pq_Zx τ)) := fun υ w j gj => by
        rw [X_Resolver_outermost_b88]
        exact pq_Tot.ite (fun _ => pq_Tot.bd (pq_less_x hN j) (fun r υ' q => b102 υ' r q.1 (gj.tr q.2.1))) (fun _ => b102 υ w j gj)
      refine pq_Tot.ite (fun _ => b102 τ v3 i g) (fun _ => pq_Tot.ite (fun _ => pq_Tot.ite1 c4 (pq_Tot.ite1 c2 ?_)) (fun _ => pq_Tot.ite1 c2 (pq_Tot.ite1 c4 ?_)))
      · exact pq_Tot.bd (pq_ask_x i (near τ i _) (near τ i _)) (fun r υ q => b88 υ r q.1 (g.tr (q.2.1.up (by decide))))
      · exact pq_Tot.bd (pq_ask_x i (near τ i _) (near τ i _)) (fun r υ q => b88 υ r q.1 (g.tr (q.2.1.up (by decide))))
  have L2 : ∀ (n : Nat) (v2 : Int32) (τ : SX), pq_XI τ → pq_XG pq_LR5 σ τ → 0 ≤ v2.toInt → v2.toInt ≤ 200 → 200 - v2.toInt < n → pq_Tot (X_Resolver_outermost_L2 N n s v2 τ) (pq_XQ pq_LR5 σ (fun r τ => r.toInt < pq_Zx τ)) := by
    intro n
    induction n with
    | zero => intro v2 τ _ _ _ _ h; omega
    | succ n ih =>
      intro v2 τ i g z0 z1 hn
      rw [X_Resolver_outermost_L2]
      refine pq_Tot.ite (fun _ => pq_Tot.ret ⟨i, g, pq_m1_Zx i⟩) (fun lt => ?_)
      rw [pq_iv_le, ne τ g] at lt
      have e : (v2 + 1).toInt = v2.toInt + 1 := pq_iv_add (by rw [pq_iv_1]; omega) (by rw [pq_iv_1]; omega)
      refine L15 _ v2 z0 (by omega) (fun υ v3 j gj => ?_) N 1 0 τ i g (by decide) (by decide) (by rw [pq_iv_0]; omega)
      rw [X_Resolver_outermost_b108]
      exact pq_Tot.ite (fun _ => pq_Tot.ret ⟨j, gj, pq_m3_Zx⟩) (fun _ => pq_Tot.ite (fun _ => pq_Tot.ite1 (pq_ck_mk z0 (by omega)) (pq_Tot.ret ⟨j, gj, near υ j _⟩)) (fun _ => pq_Tot.nm (ih (v2 + 1) υ j gj (by omega) (by omega) (by omega))))
  rw [X_Resolver_outermost]
  exact L2 N 0 σ h pq_XG.rf (by decide) (by decide) (by rw [pq_iv_0]; omega)
end RS
