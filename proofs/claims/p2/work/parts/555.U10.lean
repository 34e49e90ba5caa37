def pq_XW (c : Int) (σ : SX) : Prop := pq_XI σ ∧ (gX_Classes_size σ).toInt = c
def pq_Gx (c : Int) (F : Option (Int32 × SX)) : Prop := pq_Tot F (fun _ τ => pq_XW c τ)
set_option maxRecDepth 100000 in
theorem pq_XW.g {c : Int} {L : List Nat} {σ τ : SX} (h : pq_XW c σ) (i : pq_XI τ) (g : pq_XG L σ τ) (h3 : 3 ∉ L) : pq_XW c τ := ⟨i, by rw [show gX_Classes_size τ = gX_Classes_size σ from g.2.2 3 h3]; exact h.2⟩
section CA
variable {N : Nat} {c : Int} {σ : SX}
set_option maxRecDepth 100000 in
theorem pq_gx0 (h : pq_XW c σ) {r : Int32} : pq_Tot (some (r, σ)) (fun _ τ => pq_XW c τ) := pq_Tot.ret h
set_option maxRecDepth 100000 in
theorem pq_gxm (hN : 501 ≤ N) (h : pq_XW c σ) {k a b d : Int32} (hp : pq_MP σ k.toInt a.toInt b.toInt d.toInt) : pq_Tot (bd (X_Types_make N k a b d σ) (fun (r : Int32) (σ' : SX) => (some (r, σ')))) (fun _ τ => pq_XW c τ) :=
  pq_Tot.bd (pq_make_x hN h.1 hp) (fun _ _ q => pq_Tot.ret (h.g q.1 q.2.1 (by decide)))
set_option maxRecDepth 100000 in
theorem pq_mpl {k a : Int} (h : pq_XI σ) (h4 : k ≠ 4) (h8 : k ≠ 8) : pq_MP σ k a (-1) (-1) := by
  have := h.1.1
  exact ⟨fun z => by omega, fun _ => by omega, fun _ => by omega, by omega, fun _ => by omega⟩
set_option maxRecDepth 100000 in
theorem pq_xdeclare (h : pq_XW c σ) (x : Int32) : pq_Tot (X_I_declare x σ) (fun r τ => pq_XW (if 0 ≤ x.toInt ∧ x.toInt ≤ 2 ∧ c ≠ 40 then c + 1 else c) τ ∧ r.toInt = (if 0 ≤ x.toInt ∧ x.toInt ≤ 2 then (if c = 40 then -3 else c) else -2)) := by
  rw [X_I_declare]
  have two : (2 : Int32).toInt = 2 := rfl
  obtain ⟨i, hc⟩ := h
  have cb : 9 ≤ (gX_Classes_size σ).toInt ∧ (gX_Classes_size σ).toInt ≤ 40 := i.2.2.1.1
  refine pq_Tot.ite (fun n => pq_Tot.ret ?_) (fun n0 => pq_Tot.ite (fun l2 => ?_) (fun n => pq_Tot.ret ?_))
  · rw [pq_iv_lt, pq_iv_0] at n
    rw [if_neg (by omega), if_neg (by omega)]; exact ⟨⟨i, hc⟩, rfl⟩
  · rw [pq_iv_lt, pq_iv_0] at n0
    rw [pq_iv_le, two] at l2
    refine pq_Tot.bd (P := fun r τ => pq_XW (if 0 ≤ x.toInt ∧ x.toInt ≤ 2 ∧ c ≠ 40 then c + 1 else c) τ ∧ r.toInt = (if 0 ≤ x.toInt ∧ x.toInt ≤ 2 then (if c = 40 then -3 else c) else -2)) ?_ (fun _ _ q => pq_Tot.ret q)
    rw [X_Classes_add]
    refine pq_Tot.ite (fun z => ?_) (fun _ => pq_Tot.ite (fun l40 => ?_) (fun n40 => pq_Tot.ret ?_))
    · rw [pq_iv_lt, pq_iv_0] at z; omega
    · rw [pq_iv_lt, show (40 : Int32).toInt = 40 from rfl] at l40
      have ck40 : ck (gX_Classes_size σ) 40 = true := pq_ck_mk (by omega) (by omega)
      have e1 : (gX_Classes_size σ + 1).toInt = c + 1 := by rw [pq_iv_add (by rw [pq_iv_1]; omega) (by rw [pq_iv_1]; omega), pq_iv_1, hc]
      have e2 : (gX_Classes_size σ + 1 - 1).toInt = c := by rw [pq_iv_sub (by rw [e1, pq_iv_1]; omega) (by rw [e1, pq_iv_1]; omega), e1, pq_iv_1]; omega
      refine pq_Tot.ite1 ck40 (pq_Tot.nm (pq_Tot.ite1 ck40 (pq_Tot.nm (pq_Tot.nm (pq_Tot.ret ?_)))))
      rw [if_pos ⟨by omega, by omega, by omega⟩, if_pos ⟨by omega, by omega⟩, if_neg (by omega)]
      refine ⟨?_, e2⟩
      generalize hτ : sX_Classes_size _ _ = τ
      have f : pq_xf [3] [0] σ τ := by rw [← hτ]; exact pq_xf.s (pq_xf.l (pq_xf.t pq_xf.rf (by decide) _) _) (by decide) _
      have s3 : (τ.1 3).toInt = c + 1 := by rw [← hτ]; exact e1
      have p0 : ∀ j, 0 ≤ (τ.2.1 0 j).toInt ∧ (τ.2.1 0 j).toInt ≤ 2 := fun j => by
        rw [← hτ]
        show 0 ≤ (upd (aX_Classes_parameters σ) (gX_Classes_size σ).toNatClampNeg x j).toInt ∧ (upd (aX_Classes_parameters σ) (gX_Classes_size σ).toNatClampNeg x j).toInt ≤ 2
        rw [upd]; split
        · exact ⟨by omega, l2⟩
        · exact i.2.2.1.2.2.2.2.2.2 j
      clear hτ
      have sz : pq_SZ τ := by
        rw [pq_SZ, f.1 0 (by decide), f.1 5 (by decide), f.1 18 (by decide), f.1 19 (by decide), f.1 20 (by decide), s3]
        exact ⟨⟨by omega, by omega⟩, i.2.2.1.2.1, i.2.2.1.2.2.1, i.2.2.1.2.2.2.1, i.2.2.1.2.2.2.2.1, i.2.2.1.2.2.2.2.2.1, p0⟩
      have q := i.wr f (by decide) (by decide) (fun a ha z => absurd z (by revert a; decide)) (fun d hd hl => absurd hl (by revert d; decide)) sz (i.2.2.2.xf f (by decide) (by decide))
      exact ⟨q.1, s3⟩
    · rw [pq_iv_lt, show (40 : Int32).toInt = 40 from rfl] at n40
      have e : c = 40 := by omega
      rw [if_neg (by omega), if_pos ⟨by omega, by omega⟩, if_pos e]
      exact ⟨⟨i, hc⟩, rfl⟩
  · rw [pq_iv_le, two] at n
    rw [if_neg (by omega), if_neg (by omega)]; exact ⟨⟨i, hc⟩, rfl⟩
set_option maxRecDepth 100000 in
theorem pq_renew_x (hN : 50 ≤ N) (h : pq_XI σ) : pq_Tot (X_Classes_renewReach N σ) (pq_XQ [] σ (fun _ _ => True)) := by
  have c40 : (gX_Classes_size σ).toInt ≤ 40 := h.2.2.1.1.2
  have lng : ∀ (τ : SX) (f : Nat → Int64), pq_XI τ → pq_XI (tX_Classes_reach τ f) ∧ pq_XG [] τ (tX_Classes_reach τ f) := fun τ f i => by
    have x : pq_xf [] [] τ (tX_Classes_reach τ f) := pq_xf.l pq_xf.rf _
    exact i.wr x (by decide) (by decide) (fun a ha z => absurd z (by simp)) (fun d _ hl => absurd hl (by simp)) (i.2.2.1.xf x (by decide) (by decide)) (i.2.2.2.xf x (by decide) (by decide))
  have L18 : ∀ (k73 : Int32 → Int64 → SX → Option (Unit × SX)) (v1 : Int32), 0 ≤ v1.toInt → v1.toInt < 40 → ∀ τ, pq_XI τ → (gX_Classes_size τ).toInt ≤ 40 → (∀ v2, pq_Tot (k73 v1 v2 τ) (pq_XQ [] σ (fun _ _ => True))) → ∀ (n : Nat) (v2 : Int64) (v4 : Int32), 0 ≤ v4.toInt → v4.toInt ≤ 3 → 3 - v4.toInt < n → pq_Tot (X_Classes_renewReach_L18 N k73 n v1 v2 v4 τ) (pq_XQ [] σ (fun _ _ => True)) := by
    intro k73 v1 y0 y1 τ i ct hk n
    induction n with
    | zero => intro v2 v4 _ _ h; omega
    | succ n ih =>
      intro v2 v4 z0 z1 hn
      rw [X_Classes_renewReach_L18]
      refine pq_Tot.ite1 (pq_ck_mk y0 y1) (pq_Tot.ite (fun _ => hk v2) (fun _ => pq_Tot.ite (fun _ => hk v2) (fun lt => ?_)))
      rw [pq_iv_le, show (3 : Int32).toInt = 3 from rfl] at lt
      have e : (v4 + 1).toInt = v4.toInt + 1 := pq_iv_add (by rw [pq_iv_1]; omega) (by rw [pq_iv_1]; omega)
      have nx : ∀ w, pq_Tot (X_Classes_renewReach_b67 N (X_Classes_renewReach_L18 N k73 n) v1 w v4 τ) (pq_XQ [] σ (fun _ _ => True)) := fun w => by
        rw [X_Classes_renewReach_b67]; exact pq_Tot.nm (ih w (v4 + 1) (by omega) (by omega) (by omega))
      refine pq_Tot.ite1 (pq_ix3 y0 y1 z0 (by omega)) (pq_Tot.nm (pq_Tot.bd (pq_xg_chas i _) (fun r3 τ3 h3 => ?_)))
      obtain ⟨rfl, h3⟩ := h3
      exact pq_Tot.ite (fun _ => nx v2) (fun n3 => pq_Tot.ite1 (pq_ck_mk (h3 n3).1 (by have := (h3 n3).2; omega)) (pq_Tot.nm (nx _)))
  have L3 : ∀ (n : Nat) (v1 : Int32) (τ : SX), pq_XI τ → pq_XG [] σ τ → 0 ≤ v1.toInt → v1.toInt ≤ 40 → 40 - v1.toInt < n → pq_Tot (X_Classes_renewReach_L3 N n v1 τ) (pq_XQ [] σ (fun _ _ => True)) := by
    intro n
    induction n with
    | zero => intro v1 τ _ _ _ _ h; omega
    | succ n ih =>
      intro v1 τ i g z0 z1 hn
      rw [X_Classes_renewReach_L3]
      have ce : gX_Classes_size τ = gX_Classes_size σ := g.2.2 3 (by decide)
      refine pq_Tot.ite (fun _ => pq_Tot.ret ⟨i, g, trivial⟩) (fun lt => pq_Tot.nm ?_)
      rw [pq_iv_le, ce] at lt
      have e : (v1 + 1).toInt = v1.toInt + 1 := pq_iv_add (by rw [pq_iv_1]; omega) (by rw [pq_iv_1]; omega)
      refine L18 _ v1 z0 (by omega) τ i (by rw [ce]; exact c40) (fun v2 => ?_) N _ 0 (by decide) (by decide) (by rw [pq_iv_0]; omega)
      rw [X_Classes_renewReach_b73]
      have q := lng τ (vp_updL (aX_Classes_reach τ) v1.toNatClampNeg v2) i
      exact pq_Tot.ite1 (pq_ck_mk z0 (by omega)) (pq_Tot.nm (pq_Tot.nm (ih (v1 + 1) _ q.1 (g.tr q.2) (by omega) (by omega) (by omega))))
  rw [X_Classes_renewReach]
  exact L3 N 9 σ h pq_XG.rf (by decide) (by decide) (by rw [show (9 : Int32).toInt = 9 from rfl]; omega)
set_option maxRecDepth 100000 in
theorem pq_addParent_x (hN : 50 ≤ N) (h : pq_XI σ) {x t p : Int32} (ht : t.toInt < pq_Zx σ) : pq_Tot (X_Classes_addParent N x t p σ) (pq_XQ [] σ (fun _ _ => True)) := by
  rw [X_Classes_addParent]
  have c40 : (gX_Classes_size σ).toInt ≤ 40 := h.2.2.1.1.2
  have no : ∀ r : Int32, pq_Tot (some (r, σ)) (pq_XQ [] σ (fun _ _ => True)) := fun r => pq_Tot.ret ⟨h, pq_XG.rf, trivial⟩
  refine pq_Tot.bd (pq_xg_chas h x) (fun r1 τ1 h1 => ?_)
  obtain ⟨rfl, h1⟩ := h1
  refine pq_Tot.ite (fun _ => no _) (fun n1 => pq_Tot.bd (pq_xg_chas h p) (fun r3 τ3 h3 => ?_))
  obtain ⟨rfl, h3⟩ := h3
  have hx := h1 n1
  have cx : ck x 40 = true := pq_ck_mk hx.1 (by omega)
  refine pq_Tot.ite (fun _ => no _) (fun _ => pq_Tot.ite1 cx (pq_Tot.nm (pq_Tot.ite (fun _ => no _) (fun a => pq_Tot.ite (fun b => ?_) (fun _ => no _)))))
  rw [pq_iv_lt, pq_iv_0] at a
  rw [pq_iv_lt, show (3 : Int32).toInt = 3 from rfl] at b
  have c := pq_ix3 hx.1 (by omega) (show 0 ≤ (aX_Classes_parentCount τ3 x.toNatClampNeg).toInt by omega) b
  refine pq_Tot.ite1 c (pq_Tot.nm (pq_Tot.ite1 c (pq_Tot.nm (pq_Tot.ite1 cx (pq_Tot.nm ?_)))))
  generalize hτ : tX_Classes_parentCount _ _ = σ8
  have f : pq_xf [] [1, 2, 3] τ3 σ8 := by rw [← hτ]; exact pq_xf.t (pq_xf.t (pq_xf.t pq_xf.rf (by decide) _) (by decide) _) (by decide) _
  have q2 : ∀ j, (σ8.2.1 2 j).toInt < pq_Zx τ3 := fun j => by
    rw [← hτ]
    show (upd (aX_Classes_parentType τ3) _ t j).toInt < _
    rw [upd]; split
    · exact ht
    · exact h.2.1.1 2 (by decide) j
  clear hτ
  have q := h.wr f (by decide) (by decide) (fun a ha z j => by
    have : a = 2 := by revert a; decide
    subst this; exact q2 j) (fun d _ hl => absurd hl (by simp)) (h.2.2.1.xf f (by decide) (by decide)) (h.2.2.2.xf f (by decide) (by decide))
  exact pq_Tot.bd (pq_renew_x hN q.1) (fun _ _ w => pq_Tot.ret ⟨w.1, q.2.tr w.2.1, trivial⟩)
set_option maxRecDepth 100000 in
theorem pq_canBeParent_x (h : pq_XI σ) (x t : Int32) : pq_Tot (X_I_canBeParent x t σ) (fun r τ => τ = σ ∧ (r ≠ 0 → pq_Rg σ t)) := by
  have no : pq_Tot (some ((0 : Int32), σ)) (fun r τ => τ = σ ∧ (r ≠ 0 → pq_Rg σ t)) := pq_Tot.ret ⟨rfl, fun z => absurd rfl z⟩
  have b67 : pq_Rg σ t → pq_Tot (X_I_canBeParent_b67 x t σ) (fun r τ => τ = σ ∧ (r ≠ 0 → pq_Rg σ t)) := fun v => by
    rw [X_I_canBeParent_b67]
    refine pq_Tot.bd (pq_xg_second h t) (fun r9 τ9 h9 => ?_)
    obtain ⟨rfl, _⟩ := h9
    refine pq_Tot.bd (pq_xg_kind h r9) (fun r11 τ11 h11 => ?_)
    obtain ⟨rfl, _⟩ := h11
    refine pq_Tot.ite (fun _ => no) (fun _ => pq_Tot.bd (pq_xg_third h t) (fun r13 τ13 h13 => ?_))
    obtain ⟨rfl, _⟩ := h13
    refine pq_Tot.bd (pq_xg_kind h r13) (fun r15 τ15 h15 => ?_)
    obtain ⟨rfl, _⟩ := h15
    refine pq_Tot.ite (fun _ => no) (fun _ => pq_Tot.bd (pq_xg_inIt h t 7) (fun r17 τ17 h17 => ?_))
    obtain ⟨rfl, _⟩ := h17
    refine pq_Tot.ite (fun _ => pq_Tot.bd (pq_xg_inIt h t 8) (fun r19 τ19 h19 => ?_)) (fun _ => no)
    obtain ⟨rfl, _⟩ := h19
    refine pq_Tot.ite (fun _ => pq_Tot.bd (pq_xg_owners h t x) (fun r21 τ21 h21 => ?_)) (fun _ => no)
    obtain ⟨rfl, _⟩ := h21
    exact pq_Tot.ite (fun _ => pq_Tot.ret ⟨rfl, fun _ => v⟩) (fun _ => no)
  have b20 : ∀ k : Int32, pq_Rg σ t → pq_Tot (X_I_canBeParent_b20 x t k σ) (fun r τ => τ = σ ∧ (r ≠ 0 → pq_Rg σ t)) := fun k v => by
    rw [X_I_canBeParent_b20]
    refine pq_Tot.bd (pq_xg_first h t) (fun r3 τ3 h3 => ?_)
    obtain ⟨rfl, _⟩ := h3
    refine pq_Tot.ite (fun _ => no) (fun _ => pq_Tot.bd (pq_xg_before h t x) (fun r5 τ5 h5 => ?_))
    obtain ⟨rfl, _⟩ := h5
    refine pq_Tot.ite (fun _ => no) (fun _ => pq_Tot.ite (fun _ => pq_Tot.bd (pq_xg_par h r3) (fun r7 τ7 h7 => ?_)) (fun _ => b67 v))
    obtain ⟨rfl, _⟩ := h7
    exact pq_Tot.ite (fun _ => b67 v) (fun _ => no)
  rw [X_I_canBeParent]
  refine pq_Tot.bd (pq_xg_kind h t) (fun r1 τ1 h1 => ?_)
  obtain ⟨rfl, h1⟩ := h1
  exact pq_Tot.ite (fun e => b20 r1 (pq_Gf.kd h1 e (by decide)).1) (fun _ => pq_Tot.ite (fun e => b20 r1 (pq_Gf.kd h1 e (by decide)).1) (fun _ => no))
set_option maxRecDepth 100000 in
theorem pq_xparent (hN : 501 ≤ N) (h : pq_XW c σ) (x t : Int32) : pq_Gx c (X_I_parent N x t σ) := by
  rw [pq_Gx, X_I_parent]
  refine pq_Tot.ite (fun _ => pq_gx0 h) (fun _ => pq_Tot.bd (pq_xg_chas h.1 x) (fun r1 τ1 h1 => ?_))
  obtain ⟨rfl, _⟩ := h1
  refine pq_Tot.ite (fun _ => pq_gx0 h) (fun _ => pq_Tot.bd (pq_canBeParent_x h.1 x t) (fun r3 τ3 h3 => ?_))
  obtain ⟨rfl, h3⟩ := h3
  refine pq_Tot.ite (fun _ => pq_gx0 h) (fun n3 => pq_Tot.bd (pq_xg_first h.1 t) (fun r5 τ5 h5 => ?_))
  obtain ⟨rfl, _⟩ := h5
  exact pq_Tot.bd (pq_addParent_x (by omega) h.1 (h3 n3).z) (fun _ _ q => pq_Tot.ret (h.g q.1 q.2.1 (by decide)))
set_option maxRecDepth 100000 in
theorem pq_xplain (hN : 501 ≤ N) (h : pq_XW c σ) (x : Int32) : pq_Gx c (X_I_plain N x σ) := by
  rw [pq_Gx, X_I_plain]
  refine pq_Tot.bd (pq_xg_chas h.1 x) (fun r1 τ1 h1 => ?_)
  obtain ⟨rfl, _⟩ := h1
  exact pq_Tot.ite (fun _ => pq_gx0 h) (fun _ => pq_gxm hN h (pq_mpl h.1 (by decide) (by decide)))
set_option maxRecDepth 100000 in
theorem pq_canArg_x (h : pq_XI σ) (x : Int32) : pq_Tot (X_I_canBeArgument x σ) (fun r τ => τ = σ ∧ (r ≠ 0 → pq_Rg σ x)) := by
  rw [X_I_canBeArgument]
  have no : pq_Tot (some ((0 : Int32), σ)) (fun r τ => τ = σ ∧ (r ≠ 0 → pq_Rg σ x)) := pq_Tot.ret ⟨rfl, fun z => absurd rfl z⟩
  refine pq_Tot.bd (pq_xg_kind h x) (fun r1 τ1 h1 => ?_)
  obtain ⟨rfl, _⟩ := h1
  refine pq_Tot.bd (pq_xg_has h x) (fun r3 τ3 h3 => ?_)
  obtain ⟨rfl, _, h3⟩ := h3
  exact pq_Tot.ite (fun _ => no) (fun n => pq_Tot.ite (fun _ => no) (fun _ => pq_Tot.ite (fun _ => no) (fun _ => pq_Tot.ret ⟨rfl, fun _ => h3 n⟩)))
set_option maxRecDepth 100000 in
theorem pq_xof (hN : 501 ≤ N) (h : pq_XW c σ) (x a b : Int32) : pq_Gx c (X_I_of N x a b σ) := by
  rw [pq_Gx, X_I_of]
  refine pq_Tot.bd (pq_xg_par h.1 x) (fun r1 τ1 h1 => ?_)
  obtain ⟨rfl, _⟩ := h1
  refine pq_Tot.ite (fun _ => pq_gx0 h) (fun _ => pq_Tot.bd (pq_canArg_x h.1 a) (fun r3 τ3 h3 => ?_))
  obtain ⟨rfl, h3⟩ := h3
  refine pq_Tot.ite (fun _ => pq_gx0 h) (fun na => pq_Tot.ite (fun _ => pq_gxm hN h ?_) (fun _ => pq_Tot.bd (pq_canArg_x h.1 b) (fun r7 τ7 h7 => ?_)))
  · have v := (h3 na).2
    have t0 := h.1.1.1
    exact ⟨fun z => absurd z (by decide), fun _ => v, fun z => absurd z (by decide), by rw [pq_iv_m1]; omega, fun z => absurd z (by decide)⟩
  · obtain ⟨rfl, h7⟩ := h7
    refine pq_Tot.ite (fun _ => pq_gx0 h) (fun nb => pq_gxm hN h ?_)
    exact ⟨fun z => absurd z (by decide), fun _ => (h3 na).2, fun z => absurd z (by decide), (h7 nb).2, fun z => absurd z (by decide)⟩
set_option maxRecDepth 100000 in
theorem pq_xwild (hN : 501 ≤ N) (h : pq_XW c σ) (x b : Int32) : pq_Gx c (X_I_wild N x b σ) := by
  rw [pq_Gx, X_I_wild]
  refine pq_Tot.ite (fun _ => pq_gx0 h) (fun _ => pq_Tot.ite (fun _ => pq_Tot.ite (fun _ => pq_gxm hN h (pq_mpl h.1 (by decide) (by decide))) (fun _ => pq_Tot.bd (pq_canArg_x h.1 b) (fun r3 τ3 h3 => ?_))) (fun _ => pq_gx0 h))
  obtain ⟨rfl, h3⟩ := h3
  refine pq_Tot.ite (fun _ => pq_gx0 h) (fun nb => pq_Tot.bd (pq_xg_kind h.1 b) (fun r5 τ5 h5 => ?_))
  obtain ⟨rfl, _⟩ := h5
  refine pq_Tot.ite (fun _ => pq_gx0 h) (fun _ => pq_gxm hN h ?_)
  have t0 := h.1.1.1
  exact ⟨fun z => absurd z (by decide), fun _ => (h3 nb).2, fun z => absurd z (by decide), by rw [pq_iv_m1]; omega, fun _ => by decide⟩
set_option maxRecDepth 100000 in
theorem pq_xparameter (hN : 501 ≤ N) (h : pq_XW c σ) (x i : Int32) : pq_Gx c (X_I_parameter N x i σ) := by
  rw [pq_Gx, X_I_parameter]
  refine pq_Tot.ite (fun _ => pq_gx0 h) (fun _ => pq_Tot.bd (pq_xg_par h.1 x) (fun r1 τ1 h1 => ?_))
  obtain ⟨rfl, h1⟩ := h1
  refine pq_Tot.ite (fun l => pq_gxm hN h ?_) (fun _ => pq_gx0 h)
  rw [pq_iv_lt] at l
  have t0 := h.1.1.1
  exact ⟨fun z => absurd z (by decide), fun z => absurd rfl z, fun _ => by omega, by rw [pq_iv_m1]; omega, fun z => absurd z (by decide)⟩
set_option maxRecDepth 100000 in
theorem pq_xarray (hN : 501 ≤ N) (h : pq_XW c σ) (x : Int32) : pq_Gx c (X_I_array N x σ) := by
  rw [pq_Gx, X_I_array]
  refine pq_Tot.bd (pq_xg_has h.1 x) (fun r1 τ1 h1 => ?_)
  obtain ⟨rfl, _, h1⟩ := h1
  refine pq_Tot.ite (fun _ => pq_gx0 h) (fun n => pq_Tot.bd (pq_xg_kind h.1 x) (fun r3 τ3 h3 => ?_))
  obtain ⟨rfl, _⟩ := h3
  refine pq_Tot.ite (fun _ => pq_gx0 h) (fun _ => pq_Tot.ite (fun _ => pq_gx0 h) (fun _ => pq_gxm hN h ?_))
  have t0 := h.1.1.1
  exact ⟨fun _ => (h1 n).2, fun _ => by rw [pq_iv_m1]; omega, fun z => absurd z (by decide), by rw [pq_iv_m1]; omega, fun z => absurd z (by decide)⟩
set_option maxRecDepth 100000 in
theorem pq_xprimitive (hN : 501 ≤ N) (h : pq_XW c σ) (x : Int32) : pq_Gx c (X_I_primitive N x σ) := by
  rw [pq_Gx, X_I_primitive]
  exact pq_Tot.ite (fun _ => pq_gx0 h) (fun _ => pq_Tot.ite (fun _ => pq_gxm hN h (pq_mpl h.1 (by decide) (by decide))) (fun _ => pq_gx0 h))
set_option maxRecDepth 100000 in
theorem pq_xnothing (hN : 501 ≤ N) (h : pq_XW c σ) : pq_Gx c (X_I_nothing N σ) := by
  rw [pq_Gx, X_I_nothing]
  exact pq_gxm hN h (pq_mpl h.1 (by decide) (by decide))
set_option maxRecDepth 100000 in
theorem pq_xvariable (hN : 501 ≤ N) (h : pq_XW c σ) : pq_Gx c (X_I_variable N σ) := by
  rw [pq_Gx, X_I_variable]
  refine pq_Tot.ite (fun _ => pq_gx0 h) (fun a => pq_Tot.ite (fun b => pq_Tot.bd (pq_make_x hN h.1 (pq_mpl h.1 (by decide) (by decide))) (fun r1 σ2 q => ?_)) (fun _ => pq_gx0 h))
  rw [pq_iv_lt, pq_iv_0] at a
  rw [pq_iv_lt, show (12 : Int32).toInt = 12 from rfl] at b
  have h2 := h.g q.1 q.2.1 (by decide)
  have ve : gX_I_variables σ2 = gX_I_variables σ := q.2.1.2.2 0 (by decide)
  refine pq_Tot.ite (fun _ => pq_Tot.ite1 (by rw [ve]; exact pq_ck_mk (by omega) (by omega)) (pq_Tot.nm (pq_Tot.nm (pq_Tot.ret ?_)))) (fun _ => pq_gx0 h2)
  have e1 : (gX_I_variables σ2 + 1).toInt = (gX_I_variables σ).toInt + 1 := by rw [ve, pq_iv_add (by rw [pq_iv_1]; omega) (by rw [pq_iv_1]; omega), pq_iv_1]
  generalize hτ : sX_I_variables _ _ = τ
  have f : pq_xf [0] [17] σ2 τ := by rw [← hτ]; exact pq_xf.s (pq_xf.t pq_xf.rf (by decide) _) (by decide) _
  have s0 : (τ.1 0).toInt = (gX_I_variables σ).toInt + 1 := by rw [← hτ]; exact e1
  have q17 : ∀ j, (τ.2.1 17 j).toInt < pq_Zx σ2 := fun j => by
    rw [← hτ]
    show (upd (aX_I_variableTypes σ2) _ r1 j).toInt < _
    rw [upd]; split
    · exact q.2.2.z
    · exact q.1.2.1.1 17 (by decide) j
  clear hτ
  have sz : pq_SZ τ := by
    rw [pq_SZ, f.1 3 (by decide), f.1 5 (by decide), f.1 18 (by decide), f.1 19 (by decide), f.1 20 (by decide), f.2 0 (by decide), s0]
    exact ⟨q.1.2.2.1.1, q.1.2.2.1.2.1, q.1.2.2.1.2.2.1, q.1.2.2.1.2.2.2.1, q.1.2.2.1.2.2.2.2.1, ⟨by omega, by omega⟩, q.1.2.2.1.2.2.2.2.2.2⟩
  have w := q.1.wr f (by decide) (by decide) (fun a ha z j => by
    have : a = 17 := by revert a; decide
    subst this; exact q17 j) (fun d hd hl => absurd hl (by revert d; decide)) sz (q.1.2.2.2.xf f (by decide) (by decide))
  exact h2.g w.1 w.2 (by decide)
set_option maxRecDepth 100000 in
theorem pq_canTold_x (h : pq_XI σ) (s x : Int32) : pq_Tot (X_I_canBeTold s x σ) (fun r τ => τ = σ ∧ (r ≠ 0 → pq_Rg σ x)) := by
  rw [X_I_canBeTold]
  have no : pq_Tot (some ((0 : Int32), σ)) (fun r τ => τ = σ ∧ (r ≠ 0 → pq_Rg σ x)) := pq_Tot.ret ⟨rfl, fun z => absurd rfl z⟩
  refine pq_Tot.bd (pq_xg_has h x) (fun r1 τ1 h1 => ?_)
  obtain ⟨rfl, _, h1⟩ := h1
  refine pq_Tot.ite (fun _ => no) (fun n => ?_)
  have b32 : pq_Tot (X_I_canBeTold_b32 x τ1) (fun r τ => τ = τ1 ∧ (r ≠ 0 → pq_Rg τ1 x)) := by
    rw [X_I_canBeTold_b32]
    refine pq_Tot.bd (pq_xg_vars h x) (fun r5 τ5 h5 => ?_)
    obtain ⟨rfl, _⟩ := h5
    exact pq_Tot.ite (fun _ => pq_Tot.ret ⟨rfl, fun _ => h1 n⟩) (fun _ => no)
  refine pq_Tot.bd (pq_xg_kind h x) (fun r3 τ3 h3 => ?_)
  obtain ⟨rfl, _⟩ := h3
  exact pq_Tot.ite (fun _ => pq_Tot.ite (fun _ => b32) (fun _ => no)) (fun _ => b32)
set_option maxRecDepth 100000 in
theorem pq_XI.cells {L : List Nat} {τ : SX} (h : pq_XI σ) (f : pq_xf L [] σ τ) (hL : 0 ∉ L ∧ 3 ∉ L ∧ 4 ∉ L ∧ 5 ∉ L ∧ 8 ∉ L ∧ 15 ∉ L ∧ 16 ∉ L ∧ 18 ∉ L ∧ 19 ∉ L ∧ 20 ∉ L) : pq_XI τ ∧ pq_XG L σ τ :=
  h.wr f hL.2.2.1 (by decide) (fun a ha z => absurd z (by simp)) (fun d hd hl => by
    have : d = 8 ∨ d = 15 ∨ d = 16 := by clear hl; revert hd; revert d; decide
    rcases this with e | e | e
    · subst e; exact absurd hl hL.2.2.2.2.1
    · subst e; exact absurd hl hL.2.2.2.2.2.1
    · subst e; exact absurd hl hL.2.2.2.2.2.2.1) (h.2.2.1.xf f ⟨hL.1, hL.2.1, hL.2.2.2.1, hL.2.2.2.2.2.2.2.1, hL.2.2.2.2.2.2.2.2.1, hL.2.2.2.2.2.2.2.2.2⟩ (by decide)) (h.2.2.2.xf f ⟨hL.2.2.1, hL.2.2.2.2.1⟩ (by decide))
set_option maxRecDepth 100000 in
theorem pq_take_state (h : pq_XI σ) (a b : Int32) : pq_Tot (X_I_takeState a b σ) (pq_XQ [1, 2] σ (fun _ _ => True)) := by
  rw [X_I_takeState]
  have st : ∀ s : Int32, pq_XI (sX_I_stateAt (sX_I_state σ s) b) ∧ pq_XG [1, 2] σ (sX_I_stateAt (sX_I_state σ s) b) := fun s => h.cells (pq_xf.s (pq_xf.s pq_xf.rf (by decide) _) (by decide) _) (by decide)
  exact pq_Tot.ite (fun _ => pq_Tot.ret ⟨h, pq_XG.rf, trivial⟩) (fun _ => pq_Tot.ite (fun _ => pq_Tot.nm (pq_Tot.nm (pq_Tot.ret ⟨(st 1).1, (st 1).2, trivial⟩))) (fun _ => pq_Tot.nm (pq_Tot.nm (pq_Tot.ret ⟨(st 2).1, (st 2).2, trivial⟩))))
set_option maxRecDepth 100000 in
theorem pq_begin_x (h : pq_XI σ) (a : Int32) : pq_Tot (X_Reducer_begin a σ) (pq_XQ [10, 11, 12, 13] σ (fun _ _ => True)) := by
  rw [X_Reducer_begin]
  have q : pq_XI (sX_Reducer_sawUnchecked (sX_Reducer_origin (sX_Reducer_madeInCall (sX_Work_size σ 0) 0) a) 0) ∧ pq_XG [10, 11, 12, 13] σ (sX_Reducer_sawUnchecked (sX_Reducer_origin (sX_Reducer_madeInCall (sX_Work_size σ 0) 0) a) 0) := h.cells (pq_xf.s (pq_xf.s (pq_xf.s (pq_xf.s pq_xf.rf (by decide) _) (by decide) _) (by decide) _) (by decide) _) (by decide)
  exact pq_Tot.nm (pq_Tot.nm (pq_Tot.nm (pq_Tot.nm (pq_Tot.ret ⟨q.1, q.2, trivial⟩))))
set_option maxRecDepth 100000 in
theorem pq_mark_x (h : pq_XI σ) (x : Int32) : pq_Tot (X_Told_markUnchecked x σ) (pq_XQ [] σ (fun _ _ => True)) := by
  rw [X_Told_markUnchecked]
  refine pq_Tot.bd (pq_xg_ohas h x) (fun r τ hr => ?_)
  obtain ⟨rfl, hr⟩ := hr
  refine pq_Tot.ite (fun _ => pq_Tot.ret ⟨h, pq_XG.rf, trivial⟩) (fun n => pq_Tot.ite1 (hr n) (pq_Tot.nm (pq_Tot.ret ?_)))
  have f : pq_xf [] [31] τ (tX_Told_loose τ (upd (aX_Told_loose τ) x.toNatClampNeg (vp_nar .boolean 1))) := pq_xf.t pq_xf.rf (by decide) _
  have q := h.wr f (by decide) (by decide) (fun a ha z => absurd z (by revert a; decide)) (fun d _ hl => absurd hl (by simp)) (h.2.2.1.xf f (by decide) (by decide)) (h.2.2.2.xf f (by decide) (by decide))
  exact ⟨q.1, q.2, trivial⟩
set_option maxRecDepth 100000 in
theorem pq_room_x : pq_Tot (X_Told_hasRoom σ) (fun r τ => τ = σ ∧ (r ≠ 0 → (gX_Told_size σ).toInt < 60)) := by
  rw [X_Told_hasRoom]
  refine pq_Tot.ite (fun _ => pq_Tot.ret ⟨rfl, fun z => absurd rfl z⟩) (fun _ => pq_Tot.ite (fun _ => pq_Tot.ret ⟨rfl, fun z => absurd rfl z⟩) (fun b => pq_Tot.ret ⟨rfl, fun _ => ?_⟩))
  rw [pq_iv_le, show (60 : Int32).toInt = 60 from rfl] at b; omega
set_option maxRecDepth 100000 in
theorem pq_tadd_x (h : pq_XI σ) {s l r : Int32} (hl : l.toInt < pq_Zx σ) (hr : r.toInt < pq_Zx σ) : pq_Tot (X_Told_add s l r σ) (pq_XQ [20] σ (fun _ _ => True)) := by
  rw [X_Told_add]
  refine pq_Tot.bd pq_room_x (fun r1 τ1 h1 => ?_)
  obtain ⟨rfl, h1⟩ := h1
  refine pq_Tot.ite (fun _ => pq_Tot.ret ⟨h, pq_XG.rf, trivial⟩) (fun n => ?_)
  have t0 : 0 ≤ (gX_Told_size τ1).toInt := h.2.2.1.2.2.2.2.1.1
  have t6 := h1 n
  have c : ck (gX_Told_size τ1) 60 = true := pq_ck_mk t0 (by omega)
  have e1 : (gX_Told_size τ1 + 1).toInt = (gX_Told_size τ1).toInt + 1 := by rw [pq_iv_add (by rw [pq_iv_1]; omega) (by rw [pq_iv_1]; omega), pq_iv_1]
  refine pq_Tot.ite1 c (pq_Tot.nm (pq_Tot.ite1 c (pq_Tot.nm (pq_Tot.ite1 c (pq_Tot.nm (pq_Tot.ite1 c (pq_Tot.nm (pq_Tot.nm (pq_Tot.ret ?_)))))))))
  generalize hτ : sX_Told_size _ _ = τ
  have f : pq_xf [20] [28, 29, 30, 31] τ1 τ := by rw [← hτ]; exact pq_xf.s (pq_xf.t (pq_xf.t (pq_xf.t (pq_xf.t pq_xf.rf (by decide) _) (by decide) _) (by decide) _) (by decide) _) (by decide) _
  have s20 : (τ.1 20).toInt = (gX_Told_size τ1).toInt + 1 := by rw [← hτ]; exact e1
  have q29 : ∀ j, (τ.2.1 29 j).toInt < pq_Zx τ1 := fun j => by
    rw [← hτ]
    show (upd (aX_Told_left τ1) _ l j).toInt < _
    rw [upd]; split
    · exact hl
    · exact h.2.1.1 29 (by decide) j
  have q30 : ∀ j, (τ.2.1 30 j).toInt < pq_Zx τ1 := fun j => by
    rw [← hτ]
    show (upd (aX_Told_right τ1) _ r j).toInt < _
    rw [upd]; split
    · exact hr
    · exact h.2.1.1 30 (by decide) j
  clear hτ
  have sz : pq_SZ τ := by
    rw [pq_SZ, f.1 0 (by decide), f.1 3 (by decide), f.1 5 (by decide), f.1 18 (by decide), f.1 19 (by decide), f.2 0 (by decide), s20]
    exact ⟨h.2.2.1.1, h.2.2.1.2.1, h.2.2.1.2.2.1, h.2.2.1.2.2.2.1, ⟨by omega, by omega⟩, h.2.2.1.2.2.2.2.2⟩
  have q := h.wr f (by decide) (by decide) (fun a ha z j => by
    have : a = 29 ∨ a = 30 := by revert ha; revert a; decide
    rcases this with e | e
    · subst e; exact q29 j
    · subst e; exact q30 j) (fun d hd hl => absurd hl (by revert d; decide)) sz (h.2.2.2.xf f (by decide) (by decide))
  exact ⟨q.1, q.2, trivial⟩
set_option maxRecDepth 100000 in
theorem pq_xformula (hN : 20003 ≤ N) (h : pq_XW c σ) (s x y : Int32) : pq_Gx c (X_I_formula N s x y σ) := by
  rw [pq_Gx, X_I_formula]
  refine pq_Tot.ite (fun _ => pq_gx0 h) (fun _ => pq_Tot.ite (fun _ => pq_Tot.bd (pq_canTold_x h.1 s x) (fun r1 τ1 h1 => ?_)) (fun _ => pq_gx0 h))
  obtain ⟨rfl, h1⟩ := h1
  refine pq_Tot.ite (fun _ => pq_gx0 h) (fun n1 => pq_Tot.bd (pq_canTold_x h.1 s y) (fun r3 τ3 h3 => ?_))
  obtain ⟨rfl, h3⟩ := h3
  refine pq_Tot.ite (fun _ => pq_gx0 h) (fun n3 => pq_Tot.ite (fun _ => pq_Tot.bd pq_room_x (fun r5 τ5 h5 => ?_)) (fun _ => pq_gx0 h))
  obtain ⟨rfl, _⟩ := h5
  have vx := (h1 n1).z
  have vy := (h3 n3).z
  refine pq_Tot.ite (fun _ => pq_gx0 h) (fun _ => pq_Tot.bd (pq_tadd_x h.1 vx vy) (fun r7 σ8 q8 => pq_Tot.bd (pq_begin_x q8.1 r7) (fun _ σ10 q10 => ?_)))
  have w10 := (h.g q8.1 q8.2.1 (by decide)).g q10.1 q10.2.1 (by decide)
  have b119 : ∀ (τ : SX) (a b : Int32), pq_XW c τ → pq_Tot (X_I_formula_b119 N a b τ) (fun _ τ => pq_XW c τ) := fun τ a b w => by
    rw [X_I_formula_b119]; exact pq_Tot.bd (pq_take_state w.1 b a) (fun _ _ q => pq_Tot.ret (w.g q.1 q.2.1 (by decide)))
  have b100 : ∀ (τ : SX) (a b : Int32), pq_XW c τ → pq_Tot (X_I_formula_b100 N a b τ) (fun _ τ => pq_XW c τ) := fun τ a b w => by
    rw [X_I_formula_b100]
    exact pq_Tot.ite (fun _ => b119 τ a b w) (fun _ => pq_Tot.bd (pq_mark_x w.1 a) (fun _ υ q => b119 υ a b (w.g q.1 q.2.1 (by decide))))
  refine pq_Tot.bd (pq_ask_x q10.1 (q10.2.1.lt (q8.2.1.lt vx)) (q10.2.1.lt (q8.2.1.lt vy))) (fun r11 σ12 q12 => ?_)
  have w12 := w10.g q12.1 q12.2.1 (by decide)
  exact pq_Tot.ite (fun _ => pq_Tot.bd (pq_holdAll_x hN q12.1) (fun r13 σ14 q14 => b100 σ14 r7 r13 (w12.g q14.1 q14.2.1 (by decide)))) (fun _ => b100 σ12 r7 r11 w12)
set_option maxRecDepth 100000 in
theorem pq_xresolve (hN : 20003 ≤ N) (h : pq_XW c σ) : pq_Gx c (X_I_resolve N σ) := by
  have va : ∀ τ : SX, pq_XI τ → 0 ≤ (gX_I_variables τ).toInt ∧ (gX_I_variables τ).toInt ≤ 12 := fun τ i => i.2.2.1.2.2.2.2.2.1
  have L100 : ∀ (k177 : Int32 → Int32 → SX → Option (Int32 × SX)) (v1 v2 : Int32), (∀ τ v3, pq_XW c τ → pq_Tot (k177 v1 v3 τ) (fun _ τ => pq_XW c τ)) → ∀ (n : Nat) (v3 v4 : Int32) (τ : SX), pq_XW c τ → 0 ≤ v4.toInt → v4.toInt ≤ 12 → 12 - v4.toInt < n → pq_Tot (X_I_resolve_L100 N k177 n v1 v2 v3 v4 τ) (fun _ τ => pq_XW c τ) := by
    intro k177 v1 v2 hk n
    induction n with
    | zero => intro v3 v4 τ _ _ _ h; omega
    | succ n ih =>
      intro v3 v4 τ w z0 z1 hn
      rw [X_I_resolve_L100]
      refine pq_Tot.ite (fun _ => hk τ v3 w) (fun _ => pq_Tot.ite (fun _ => hk τ v3 w) (fun lt => pq_Tot.ite (fun _ => ?_) (fun _ => hk τ v3 w)))
      rw [pq_iv_le, show (12 : Int32).toInt = 12 from rfl] at lt
      have e : (v4 + 1).toInt = v4.toInt + 1 := pq_iv_add (by rw [pq_iv_1]; omega) (by rw [pq_iv_1]; omega)
      have b171 : ∀ (υ : SX) (a : Int32), pq_XW c υ → pq_Tot (X_I_resolve_b171 N (X_I_resolve_L100 N k177 n) v1 v2 a v4 υ) (fun _ τ => pq_XW c τ) := fun υ a u => by
        rw [X_I_resolve_b171]; exact pq_Tot.nm (ih a (v4 + 1) υ u (by omega) (by omega) (by omega))
      have c4 : ck v4 12 = true := pq_ck_mk z0 (by omega)
      have ch : pq_Tot (X_Resolver_choiceOf v4 τ) (fun r υ => υ = τ ∧ r.toInt < pq_Zx τ) := by
        rw [X_Resolver_choiceOf]
        exact pq_Tot.ite (fun _ => pq_Tot.ret ⟨rfl, pq_m1_Zx w.1⟩) (fun _ => pq_Tot.ite (fun _ => pq_Tot.ret ⟨rfl, pq_m1_Zx w.1⟩) (fun _ => pq_Tot.ite1 c4 (pq_Tot.ret ⟨rfl, w.1.2.1.1 27 (by decide) _⟩)))
      refine pq_Tot.ite (fun _ => b171 τ v3 w) (fun _ => pq_Tot.ite1 c4 (pq_Tot.bd ch (fun r9 τ9 h9 => ?_)))
      obtain ⟨rfl, h9⟩ := h9
      refine pq_Tot.bd (pq_ask_x w.1 (w.1.2.1.1 17 (by decide) _) h9) (fun r11 σ12 q12 => ?_)
      have w12 := w.g q12.1 q12.2.1 (by decide)
      exact pq_Tot.ite (fun _ => pq_Tot.bd (pq_holdAll_x hN q12.1) (fun r13 σ14 q14 => b171 σ14 r13 (w12.g q14.1 q14.2.1 (by decide)))) (fun _ => b171 σ12 r11 w12)
  have L58 : ∀ (k97 : Int32 → Int32 → Int32 → SX → Option (Int32 × SX)) (v1 v2 : Int32), (∀ τ v3, pq_XW c τ → pq_Tot (k97 v1 v2 v3 τ) (fun _ τ => pq_XW c τ)) → ∀ (n : Nat) (v3 v4 : Int32) (τ : SX), pq_XW c τ → 0 ≤ v4.toInt → v4.toInt ≤ 12 → 12 - v4.toInt < n → pq_Tot (X_I_resolve_L58 N k97 n v1 v2 v3 v4 τ) (fun _ τ => pq_XW c τ) := by
    intro k97 v1 v2 hk n
    induction n with
    | zero => intro v3 v4 τ _ _ _ h; omega
    | succ n ih =>
      intro v3 v4 τ w z0 z1 hn
      rw [X_I_resolve_L58]
      refine pq_Tot.ite (fun _ => hk τ v3 w) (fun lt => pq_Tot.ite (fun _ => ?_) (fun _ => hk τ v3 w))
      rw [pq_iv_le] at lt
      have vv := va τ w.1
      have e : (v4 + 1).toInt = v4.toInt + 1 := pq_iv_add (by rw [pq_iv_1]; omega) (by rw [pq_iv_1]; omega)
      have b91 : ∀ (υ : SX) (a : Int32), pq_XW c υ → pq_Tot (X_I_resolve_b91 N (X_I_resolve_L58 N k97 n) v1 v2 a v4 υ) (fun _ τ => pq_XW c τ) := fun υ a u => by
        rw [X_I_resolve_b91]; exact pq_Tot.nm (ih a (v4 + 1) υ u (by omega) (by omega) (by omega))
      exact pq_Tot.ite (fun _ => b91 τ v3 w) (fun _ => pq_Tot.bd (pq_choose_x hN w.1 v4) (fun r6 σ7 q => b91 σ7 r6 (w.g q.1 q.2.1 (by decide))))
  have L19 : ∀ (n : Nat) (v1 : Int32) (τ : SX), pq_XW c τ → 0 ≤ v1.toInt → v1.toInt ≤ 13 → 13 - v1.toInt < n → pq_Tot (X_I_resolve_L19 N n v1 τ) (fun _ τ => pq_XW c τ) := by
    intro n
    induction n with
    | zero => intro v1 τ _ _ _ h; omega
    | succ n ih =>
      intro v1 τ w z0 z1 hn
      rw [X_I_resolve_L19]
      refine pq_Tot.ite (fun _ => pq_gx0 w) (fun lt => pq_Tot.ite (fun _ => pq_Tot.bd (pq_next_x (by omega) w.1 (va τ w.1).2) (fun r3 σ4 q4 => ?_)) (fun _ => pq_gx0 w))
      rw [pq_iv_lt, show (12 : Int32).toInt = 12 from rfl] at lt
      have w4 := w.g q4.1 q4.2.1 (by decide)
      have e : (v1 + 1).toInt = v1.toInt + 1 := pq_iv_add (by rw [pq_iv_1]; omega) (by rw [pq_iv_1]; omega)
      refine pq_Tot.ite (fun _ => pq_gx0 w4) (fun _ => L58 _ v1 r3 (fun υ v3 u => ?_) N 1 0 σ4 w4 (by decide) (by decide) (by rw [pq_iv_0]; omega))
      rw [X_I_resolve_b97]
      refine L100 _ v1 r3 (fun υ' v3' u' => ?_) N v3 0 υ u (by decide) (by decide) (by rw [pq_iv_0]; omega)
      rw [X_I_resolve_b177]
      exact pq_Tot.bd (pq_take_state u'.1 v3' (-1)) (fun _ υ2 q => pq_Tot.nm (ih (v1 + 1) υ2 (u'.g q.1 q.2.1 (by decide)) (by omega) (by omega) (by omega)))
  rw [pq_Gx, X_I_resolve]
  exact pq_Tot.ite (fun _ => pq_Tot.bd (pq_begin_x h.1 (-1)) (fun _ σ2 q => L19 N 0 σ2 (h.g q.1 q.2.1 (by decide)) (by decide) (by decide) (by rw [pq_iv_0]; omega))) (fun _ => pq_gx0 h)
set_option maxRecDepth 100000 in
theorem pq_xclear (h : pq_XW c σ) : pq_Gx c (X_I_clear σ) := by
  rw [pq_Gx, X_I_clear]
  refine pq_Tot.nm (pq_Tot.nm (pq_Tot.nm (pq_Tot.nm (pq_Tot.nm (pq_Tot.nm (pq_Tot.nm (pq_Tot.nm (pq_Tot.ret ?_))))))))
  generalize hτ : sX_I_stateAt _ _ = τ
  have f : pq_xf [0, 1, 2, 5, 9, 18, 20] [] σ τ := by
    rw [← hτ]; exact pq_xf.s (pq_xf.s (pq_xf.s (pq_xf.s (pq_xf.s (pq_xf.s (pq_xf.s pq_xf.rf (by decide) _) (by decide) _) (by decide) _) (by decide) _) (by decide) _) (by decide) _) (by decide) _
  have s0 : (τ.1 0).toInt = 0 := by rw [← hτ]; rfl
  have s5 : (τ.1 5).toInt = 0 := by rw [← hτ]; rfl
  have s18 : (τ.1 18).toInt = 0 := by rw [← hτ]; rfl
  have s20 : (τ.1 20).toInt = 0 := by rw [← hτ]; rfl
  clear hτ
  have sz : pq_SZ τ := by
    rw [pq_SZ, f.1 3 (by decide), f.1 19 (by decide), f.2 0 (by decide), s0, s5, s18, s20]
    exact ⟨h.1.2.2.1.1, ⟨by omega, by omega⟩, ⟨by omega, by omega⟩, h.1.2.2.1.2.2.2.1, ⟨by omega, by omega⟩, ⟨by omega, by omega⟩, h.1.2.2.1.2.2.2.2.2.2⟩
  have q := h.1.wr f (by decide) (by decide) (fun a ha z => absurd z (by simp)) (fun d hd hl => absurd hl (by revert d; decide)) sz (h.1.2.2.2.xf f (by decide) (by decide))
  exact h.g q.1 q.2 (by decide)
set_option maxRecDepth 100000 in
theorem pq_xcount (h : pq_XW c σ) (x : Int32) : pq_Gx c (X_I_count x σ) := by
  rw [pq_Gx, X_I_count]
  iterate 8 refine pq_Tot.ite (fun _ => pq_gx0 h) (fun _ => ?_)
  exact pq_gx0 h
set_option maxRecDepth 100000 in
theorem pq_xtype (h : pq_XW c σ) (x y : Int32) : pq_Gx c (X_I_type x y σ) := by
  rw [pq_Gx, X_I_type]
  refine pq_Tot.bd (pq_xg_has h.1 x) (fun r1 τ1 h1 => ?_)
  obtain ⟨rfl, _⟩ := h1
  refine pq_Tot.ite (fun _ => pq_gx0 h) (fun _ => ?_)
  refine pq_Tot.ite (fun _ => pq_Tot.bd (pq_xg_kind h.1 x) (fun _ τ q => by rw [q.1]; exact pq_gx0 h)) (fun _ => ?_)
  refine pq_Tot.ite (fun _ => pq_Tot.bd (pq_xg_first h.1 x) (fun _ τ q => by rw [q.1]; exact pq_gx0 h)) (fun _ => ?_)
  refine pq_Tot.ite (fun _ => pq_Tot.bd (pq_xg_second h.1 x) (fun _ τ q => by rw [q.1]; exact pq_gx0 h)) (fun _ => ?_)
  refine pq_Tot.ite (fun _ => pq_Tot.bd (pq_xg_third h.1 x) (fun _ τ q => by rw [q.1]; exact pq_gx0 h)) (fun _ => ?_)
  refine pq_Tot.ite (fun _ => pq_Tot.bd (pq_xg_depth h.1 x) (fun _ τ q => by rw [q]; exact pq_gx0 h)) (fun _ => ?_)
  exact pq_Tot.ite (fun _ => pq_Tot.bd (pq_xg_isProper h.1 x) (fun _ τ q => by rw [q.1]; exact pq_Tot.ite (fun _ => pq_gx0 h) (fun _ => pq_gx0 h))) (fun _ => pq_gx0 h)
set_option maxRecDepth 100000 in
theorem pq_xbound (h : pq_XW c σ) (x y : Int32) : pq_Gx c (X_I_bound x y σ) := by
  rw [pq_Gx, X_I_bound]
  refine pq_Tot.bd (pq_xg_bhas h.1 x) (fun r1 τ1 e1 => ?_)
  subst e1
  refine pq_Tot.ite (fun _ => pq_gx0 h) (fun _ => ?_)
  refine pq_Tot.ite (fun _ => pq_Tot.bd (pq_xg_bsort h.1 x) (fun _ τ q => by rw [q]; exact pq_gx0 h)) (fun _ => ?_)
  refine pq_Tot.ite (fun _ => pq_Tot.bd (pq_xg_bvar h.1 x) (fun _ τ q => by rw [q]; exact pq_gx0 h)) (fun _ => ?_)
  refine pq_Tot.ite (fun _ => pq_Tot.bd (pq_xg_btype h.1 x) (fun _ τ q => by rw [q.1]; exact pq_gx0 h)) (fun _ => ?_)
  exact pq_Tot.ite (fun _ => pq_Tot.bd (pq_xg_borigin h.1 x) (fun _ τ q => by rw [q]; exact pq_gx0 h)) (fun _ => pq_gx0 h)
set_option maxRecDepth 100000 in
theorem pq_xinstance (hN : 501 ≤ N) (h : pq_XW c σ) (x : Int32) : pq_Gx c (X_I_instance N x σ) := by
  rw [pq_Gx, X_I_instance]
  exact pq_Tot.ite (fun _ => pq_gx0 h) (fun _ => pq_Tot.ite (fun _ => pq_Tot.bd (pq_settled_x (by omega) h.1 x) (fun _ τ q => by rw [q.1]; exact pq_gx0 h)) (fun _ => pq_gx0 h))
set_option maxRecDepth 100000 in
theorem pq_xabove (hN : 501 ≤ N) (h : pq_XW c σ) (x y : Int32) : pq_Gx c (X_I_above N x y σ) := by
  rw [pq_Gx, X_I_above]
  refine pq_Tot.bd (pq_xg_has h.1 x) (fun r1 τ1 h1 => ?_)
  obtain ⟨rfl, _, h1⟩ := h1
  refine pq_Tot.ite (fun _ => pq_gx0 h) (fun n => pq_Tot.bd (pq_xg_kind h.1 x) (fun r3 τ3 h3 => ?_))
  obtain ⟨rfl, _⟩ := h3
  refine pq_Tot.ite (fun _ => pq_gx0 h) (fun _ => pq_Tot.bd (pq_xg_chas h.1 y) (fun r5 τ5 h5 => ?_))
  obtain ⟨rfl, _⟩ := h5
  exact pq_Tot.ite (fun _ => pq_gx0 h) (fun _ => pq_Tot.bd (pq_above_x hN h.1 (h1 n).z) (fun _ _ q => pq_Tot.ret (h.g q.1 q.2.1 (by decide))))
set_option maxRecDepth 100000 in
theorem pq_xunchecked (h : pq_XW c σ) (x : Int32) : pq_Gx c (X_I_unchecked x σ) := by
  rw [pq_Gx, X_I_unchecked]
  refine pq_Tot.bd (pq_xg_ohas h.1 x) (fun r1 τ1 h1 => ?_)
  obtain ⟨rfl, _⟩ := h1
  exact pq_Tot.ite (fun _ => pq_gx0 h) (fun _ => pq_Tot.bd (pq_xg_loose h.1 x) (fun _ τ q => by rw [q]; exact pq_Tot.ite (fun _ => pq_gx0 h) (fun _ => pq_gx0 h)))
set_option maxRecDepth 100000 in
theorem pq_xjudge (hN : 20003 ≤ N) (h : pq_XW c σ) (x : Int32) : pq_Gx c (X_I_judge N x σ) := by
  have b193 : ∀ (τ : SX) (a b : Int32), pq_XW c τ → pq_Tot (X_I_judge_b195 N a b τ) (fun _ τ => pq_XW c τ) := fun τ a b w => by
    rw [X_I_judge_b195]
    refine pq_Tot.nm ?_
    have q := w.1.cells (pq_xf.s pq_xf.rf (by decide) a : pq_xf [9] [] τ (sX_Reducer_made τ a)) (by decide)
    have w' := w.g q.1 q.2 (by decide)
    exact pq_Tot.ite (fun _ => pq_Tot.ite (fun _ => pq_gx0 w') (fun _ => pq_gx0 w')) (fun _ => pq_gx0 w')
  have b102 : ∀ (τ : SX) (a b : Int32), pq_XW c τ → a.toInt < pq_Zx τ → b.toInt < pq_Zx τ → pq_Tot (X_I_judge_b104 N x a b τ) (fun _ τ => pq_XW c τ) := fun τ a b w ha hb => by
    rw [X_I_judge_b104]
    refine pq_Tot.ite (fun _ => pq_gx0 w) (fun _ => pq_Tot.ite (fun _ => pq_Tot.bd (pq_xg_isProper w.1 a) (fun r18 τ18 h18 => ?_)) (fun _ => pq_gx0 w))
    obtain ⟨rfl, _⟩ := h18
    refine pq_Tot.ite (fun _ => pq_gx0 w) (fun _ => pq_Tot.bd (pq_xg_isProper w.1 b) (fun r20 τ20 h20 => ?_))
    obtain ⟨rfl, _⟩ := h20
    refine pq_Tot.ite (fun _ => pq_gx0 w) (fun _ => pq_Tot.nm (pq_Tot.bd (pq_begin_x w.1 (-1)) (fun _ σ24 q24 => pq_Tot.bd (pq_xg_osort q24.1 x) (fun r25 τ25 e25 => ?_))))
    subst e25
    have w24 := w.g q24.1 q24.2.1 (by decide)
    refine pq_Tot.bd (pq_ask_x q24.1 (q24.2.1.lt ha) (q24.2.1.lt hb)) (fun r27 σ28 q28 => ?_)
    have w28 := w24.g q28.1 q28.2.1 (by decide)
    exact pq_Tot.ite (fun _ => pq_Tot.bd (pq_less_x hN q28.1) (fun r29 σ30 q30 => b193 σ30 _ _ (w28.g q30.1 q30.2.1 (by decide)))) (fun _ => b193 σ28 _ _ w28)
  have b68 : ∀ τ, pq_XW c τ → pq_Tot (X_I_judge_b68 N x τ) (fun _ τ => pq_XW c τ) := fun τ w => by
    rw [X_I_judge_b68]
    refine pq_Tot.bd (pq_xg_oleft w.1 x) (fun r10 τ10 h10 => ?_)
    obtain ⟨rfl, h10⟩ := h10
    refine pq_Tot.bd (pq_put22 (by omega) w.1 h10) (fun r12 σ13 q13 => ?_)
    have w13 := w.g q13.1 q13.2.1 (by decide)
    refine pq_Tot.ite (fun _ => pq_Tot.bd (pq_xg_oright q13.1 x) (fun r14 τ14 h14 => ?_)) (fun _ => b102 σ13 r12 (-3) w13 q13.2.2.1 pq_m3_Zx)
    obtain ⟨rfl, h14⟩ := h14
    exact pq_Tot.bd (pq_put22 (by omega) q13.1 h14) (fun r16 σ17 q17 => b102 σ17 r12 r16 (w13.g q17.1 q17.2.1 (by decide)) (q17.2.1.lt q13.2.2.1) q17.2.2.1)
  have L28 : ∀ (n : Nat) (v3 : Int32) (τ : SX), pq_XW c τ → 0 ≤ v3.toInt → v3.toInt ≤ 12 → 12 - v3.toInt < n → pq_Tot (X_I_judge_L28 N (X_I_judge_b68 N) n x v3 τ) (fun _ τ => pq_XW c τ) := by
    intro n
    induction n with
    | zero => intro v3 τ _ _ _ h; omega
    | succ n ih =>
      intro v3 τ w z0 z1 hn
      rw [X_I_judge_L28]
      refine pq_Tot.ite (fun _ => b68 τ w) (fun lt => pq_Tot.bd (pq_settled_x (by omega) w.1 v3) (fun r5 τ5 h5 => ?_))
      rw [pq_iv_le] at lt
      obtain ⟨rfl, h5⟩ := h5
      have vv : (gX_I_variables τ5).toInt ≤ 12 := w.1.2.2.1.2.2.2.2.2.1.2
      have e : (v3 + 1).toInt = v3.toInt + 1 := pq_iv_add (by rw [pq_iv_1]; omega) (by rw [pq_iv_1]; omega)
      have nx : ∀ υ, pq_XW c υ → pq_Tot (X_I_judge_b62 N (X_I_judge_L28 N (X_I_judge_b68 N) n) x v3 υ) (fun _ τ => pq_XW c τ) := fun υ u => by
        rw [X_I_judge_b62]; exact pq_Tot.nm (ih (v3 + 1) υ u (by omega) (by omega) (by omega))
      exact pq_Tot.ite (fun _ => nx τ5 w) (fun _ => pq_Tot.bd (pq_setInstead_x w.1 h5) (fun _ σ9 q9 => nx σ9 (w.g q9.1 q9.2.1 (by decide))))
  rw [pq_Gx, X_I_judge]
  refine pq_Tot.bd (pq_xg_ohas h.1 x) (fun r1 τ1 h1 => ?_)
  obtain ⟨rfl, _⟩ := h1
  exact pq_Tot.ite (fun _ => pq_gx0 h) (fun _ => pq_Tot.bd (pq_forVariables_x h.1) (fun _ σ4 q4 => L28 N 0 σ4 (h.g q4.1 q4.2.1 (by decide)) (by decide) (by decide) (by rw [pq_iv_0]; omega)))
end CA
