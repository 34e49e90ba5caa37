set_option maxRecDepth 100000 in
theorem pq_XG.rg {L : List Nat} {σ τ : SX} (g : pq_XG L σ τ) {x : Int32} (v : pq_Rg σ x) : pq_Rg τ x := ⟨v.1, Int.lt_of_lt_of_le v.2 g.1⟩
set_option maxRecDepth 100000 in
theorem pq_XG.k {L : List Nat} {σ τ : SX} (g : pq_XG L σ τ) {x : Int32} (v : pq_Rg σ x) : pq_kX τ x.toInt.toNat = pq_kX σ x.toInt.toNat := (g.2.1 _ (by have := v.1; have := v.2; omega)).1
set_option maxRecDepth 100000 in
theorem pq_XG.d {L : List Nat} {σ τ : SX} (g : pq_XG L σ τ) {x : Int32} (v : pq_Rg σ x) : pq_dX τ x.toInt.toNat = pq_dX σ x.toInt.toNat := (g.2.1 _ (by have := v.1; have := v.2; omega)).2
set_option maxRecDepth 100000 in
theorem pq_Rg.z {σ : SX} {x : Int32} (v : pq_Rg σ x) : x.toInt < pq_Zx σ := Int.lt_of_lt_of_le v.2 (pq_tz_Zx σ)
set_option maxRecDepth 100000 in
theorem pq_Zx_tz {σ : SX} (h : 1 ≤ pq_tz σ) : pq_Zx σ = pq_tz σ := by rw [pq_Zx]; split <;> omega
set_option maxRecDepth 100000 in
theorem pq_Rg.t1 {σ : SX} {x : Int32} (v : pq_Rg σ x) : 1 ≤ pq_tz σ := by have := v.1; have := v.2; omega
set_option maxRecDepth 100000 in
theorem pq_m3_Zx {σ : SX} : (-3 : Int32).toInt < pq_Zx σ := by rw [show (-3 : Int32).toInt = -3 from rfl, pq_Zx]; split <;> omega
set_option maxRecDepth 100000 in
theorem pq_MR.z {k : Int} {r : Int32} {τ : SX} (h : pq_MR k r τ) : r.toInt < pq_Zx τ := by
  rcases h with h | h
  · rw [h]; exact pq_m3_Zx
  · exact h.1.z
section EX
variable {N : Nat} {σ : SX}
set_option maxRecDepth 100000 in
theorem pq_forVariables_x (h : pq_XI σ) : pq_Tot (X_Exchange_forVariables σ) (pq_XQ [6, 7, 8] σ (fun _ _ => True)) := by
  rw [X_Exchange_forVariables]
  refine pq_Tot.nm (pq_Tot.nm (pq_Tot.nm (pq_Tot.ret ?_)))
  have f : pq_xf [6, 7, 8] [] σ (sX_Exchange_owner (sX_Exchange_variables (sX_Exchange_stamp σ (gX_Exchange_stamp σ + 1)) 0) (-1)) := pq_xf.s (pq_xf.s (pq_xf.s pq_xf.rf (by decide) _) (by decide) _) (by decide) _
  have q := h.wr f (by decide) (by decide) (fun a _ z => absurd z (by simp)) (fun c hc hl => by
    have : c = 8 := by revert c; decide
    subst this; exact pq_m1_Zx h) (h.2.2.1.xf f (by decide) (by decide)) (fun z => absurd (show (0 : Int) ≤ (-1 : Int32).toInt from z) (by decide))
  exact ⟨q.1, q.2, trivial⟩
set_option maxRecDepth 100000 in
theorem pq_forArguments_x (h : pq_XI σ) {x : Int32} (v : pq_Rg σ x) (k : pq_kX σ x.toInt.toNat = 1) : pq_Tot (X_Exchange_forArguments x σ) (pq_XQ [6, 7, 8] σ (fun _ _ => True)) := by
  rw [X_Exchange_forArguments]
  refine pq_Tot.nm (pq_Tot.nm (pq_Tot.nm (pq_Tot.ret ?_)))
  have f : pq_xf [6, 7, 8] [] σ (sX_Exchange_owner (sX_Exchange_variables (sX_Exchange_stamp σ (gX_Exchange_stamp σ + 1)) 0) x) := pq_xf.s (pq_xf.s (pq_xf.s pq_xf.rf (by decide) _) (by decide) _) (by decide) _
  have q := h.wr f (by decide) (by decide) (fun a _ z => absurd z (by simp)) (fun c hc hl => by
    have : c = 8 := by revert c; decide
    subst this; exact v.z) (h.2.2.1.xf f (by decide) (by decide)) (fun _ => ⟨v.2, k⟩)
  exact ⟨q.1, q.2, trivial⟩
set_option maxRecDepth 100000 in
theorem pq_setInstead_x (h : pq_XI σ) {x t : Int32} (v : t.toInt < pq_Zx σ) : pq_Tot (X_Exchange_setInstead x t σ) (pq_XQ [6, 7, 8] σ (fun _ _ => True)) := by
  rw [X_Exchange_setInstead]
  refine pq_Tot.ite (fun _ => pq_Tot.ret ⟨h, pq_XG.rf, trivial⟩) (fun a => pq_Tot.ite (fun b => ?_) (fun _ => pq_Tot.ret ⟨h, pq_XG.rf, trivial⟩))
  rw [pq_iv_lt, pq_iv_0] at a
  rw [pq_iv_lt, show (12 : Int32).toInt = 12 from rfl] at b
  refine pq_Tot.ite1 (pq_ck_mk (by omega) (by omega)) (pq_Tot.nm (pq_Tot.nm (pq_Tot.ret ?_)))
  generalize hτ : sX_Exchange_variables _ _ = τ
  have f : pq_xf [7] [18] σ τ := by rw [← hτ]; exact pq_xf.s (pq_xf.t pq_xf.rf (by decide) _) (by decide) _
  have r : ∀ i, (τ.2.1 18 i).toInt < pq_Zx σ := fun i => by
    rw [← hτ]
    show (upd (aX_Exchange_instead σ) x.toNatClampNeg t i).toInt < _
    rw [upd]; split
    · exact v
    · exact h.2.1.1 18 (by decide) i
  clear hτ
  have q := h.wr f (by decide) (by decide) (fun a _ z i => by
    have : a = 18 := by revert a; decide
    subst this; exact r i) (fun c hc hl => absurd hl (by revert c; decide)) (h.2.2.1.xf f (by decide) (by decide)) (h.2.2.2.xf f (by decide) (by decide))
  exact ⟨q.1, q.2.up (by decide), trivial⟩
def pq_PutP (x : Int32) (r : Int32) (τ : SX) : Prop := r.toInt < pq_Zx τ ∧ (x.toInt < 0 → r = x)
set_option maxRecDepth 100000 in
theorem pq_put_b374 {rc : Int32 → Int32 → SX → Option (Int32 × SX)} (h : pq_XI σ) {x r : Int32} (v : pq_Rg σ x) (hr : r.toInt < pq_Zx σ) : pq_Tot (X_Exchange_put_b374 N rc x r σ) (pq_XQ [4] σ (pq_PutP x)) := by
  rw [X_Exchange_put_b374]
  have c : ck x 500 = true := pq_ck_mk v.1 (by have := v.2; have := h.1.2.1; omega)
  refine pq_Tot.ite1 c (pq_Tot.nm (pq_Tot.ite1 c (pq_Tot.nm (pq_Tot.ret ?_))))
  generalize hτ : tX_Exchange_doneAt _ _ = τ
  have f : pq_xf [] [19, 20] σ τ := by rw [← hτ]; exact pq_xf.t (pq_xf.t pq_xf.rf (by decide) _) (by decide) _
  have q19 : ∀ i, (τ.2.1 19 i).toInt < pq_Zx σ := fun i => by
    rw [← hτ]
    show (upd (aX_Exchange_done σ) x.toNatClampNeg r i).toInt < _
    rw [upd]; split
    · exact hr
    · exact h.2.1.1 19 (by decide) i
  clear hτ
  have q := h.wr f (by decide) (by decide) (fun a _ z i => by
    have : a = 19 := by revert a; decide
    subst this; exact q19 i) (fun c _ hl => absurd hl (by simp)) (h.2.2.1.xf f (by decide) (by decide)) (h.2.2.2.xf f (by decide) (by decide))
  exact ⟨q.1, q.2.up (by decide), q.2.lt hr, fun z => by have := v.1; omega⟩
set_option maxRecDepth 100000 in
theorem pq_lgz {x y : Int64} (h : lg_cmp x y ≠ 0) : x ≠ y := fun e => h (by
  rw [lg_cmp, e]
  have : ¬ y > y := Int64.lt_irrefl
  rw [if_neg this, if_pos rfl])
set_option maxRecDepth 100000 in
theorem pq_put_x (hN : 501 ≤ N) : ∀ (d : Nat) (x v2 : Int32) (σ : SX), pq_XI σ → x.toInt < pq_Zx σ → 1 ≤ d → (pq_Rg σ x → pq_dX σ x.toInt.toNat < d) → pq_Tot (X_Exchange_put N d x v2 σ) (pq_XQ [4] σ (pq_PutP x)) := by
  intro d
  induction d with
  | zero => intro x v2 σ _ _ h; omega
  | succ d ih =>
    intro x v2 σ h hx _ hd
    rw [X_Exchange_put, X_Exchange_put_body]
    have same : pq_Tot (some (x, σ)) (pq_XQ [4] σ (pq_PutP x)) := pq_Tot.ret ⟨h, pq_XG.rf, hx, fun _ => rfl⟩
    refine pq_Tot.ite (fun _ => same) (fun x0 => pq_Tot.ite (fun x5 => ?_) (fun _ => same))
    have b0 : pq_Tot (X_Exchange_put_b63 N (X_Exchange_put N d) x v2 0 σ) (pq_XQ [4] σ (pq_PutP x)) := by rw [X_Exchange_put_b63]; exact pq_Tot.ite1 rfl same
    have b1 : pq_Rg σ x → pq_Tot (X_Exchange_put_b63 N (X_Exchange_put N d) x v2 1 σ) (pq_XQ [4] σ (pq_PutP x)) := fun v => by
      have c : ck x 500 = true := pq_ck_mk v.1 (by have := v.2; have := h.1.2.1; omega)
      have hd := hd v
      have r := h.row x v
      have tz1 := v.t1
      rw [X_Exchange_put_b63]
      refine pq_Tot.ite2 (by decide) (pq_Tot.ite (fun _ => pq_Tot.ite1 c (pq_Tot.ite (fun _ => pq_Tot.ite1 c (pq_Tot.ret ⟨h, pq_XG.rf, h.2.1.1 19 (by decide) _, fun z => by have := v.1; omega⟩)) (fun _ => ?_))) (fun _ => pq_Tot.ret ⟨h, pq_XG.rf, pq_m3_Zx, fun z => by have := v.1; omega⟩))
      refine pq_Tot.bd (pq_xg_kind h x) (fun r3 τ3 h3 => ?_)
      obtain ⟨rfl, h3⟩ := h3
      have k3 : r3.toInt = pq_kX τ3 x.toInt.toNat := h3.elim (fun z => z.2) (fun z => absurd v z.1)
      refine pq_Tot.bd (pq_xg_first h x) (fun r5 τ5 h5 => ?_)
      obtain ⟨rfl, h5⟩ := h5
      have k5 : r5.toInt = pq_oX τ5 x.toInt.toNat := h5.elim (fun z => z.2) (fun z => absurd v z.1)
      refine pq_Tot.bd (pq_xg_second h x) (fun r7 τ7 h7 => ?_)
      obtain ⟨rfl, h7⟩ := h7
      have k7 : r7.toInt = pq_wX τ7 x.toInt.toNat := h7.elim (fun z => z.2) (fun z => absurd v z.1)
      refine pq_Tot.bd (pq_xg_third h x) (fun r9 τ9 h9 => ?_)
      obtain ⟨rfl, h9⟩ := h9
      have k9 : r9.toInt = pq_hX τ9 x.toInt.toNat := h9.elim (fun z => z.2) (fun z => absurd v z.1)
      have en : ((x.toInt.toNat : Nat) : Int) = x.toInt := by have := v.1; omega
      have zt : ∀ υ, pq_XG [4] τ9 υ → pq_Zx υ = pq_tz υ := fun υ g => pq_Zx_tz (by have := g.1; omega)
      have part : ∀ (y : Int32) (υ : SX), pq_XG [4] τ9 υ → pq_XI υ → y.toInt < x.toInt → (0 ≤ y.toInt → pq_dX τ9 y.toInt.toNat < pq_dX τ9 x.toInt.toNat) → pq_Tot (X_Exchange_put N d y (v2 + 1) υ) (pq_XQ [4] υ (pq_PutP y)) := fun y υ g hυ ly dy => by
        have d1 := r.1.1
        refine ih y (v2 + 1) υ hυ ?_ (by omega) (fun vy => ?_)
        · have := v.2; have := g.1; have := pq_tz_Zx υ; omega
        · have vy' : pq_Rg τ9 y := ⟨vy.1, by have := v.2; omega⟩
          rw [g.d vy']
          have := dy vy.1; omega
      have fin : ∀ (υ : SX) (a : Int32), pq_XG [4] τ9 υ → pq_XI υ → a.toInt < pq_Zx υ → pq_Tot (X_Exchange_put_b374 N (X_Exchange_put N d) x a υ) (pq_XQ [4] τ9 (pq_PutP x)) := fun υ a g hυ ha => (pq_put_b374 hυ (g.rg v) ha).mono (fun _ _ q => q.pre g)
      have b257 : pq_kX τ9 x.toInt.toNat = 4 ∨ pq_kX τ9 x.toInt.toNat = 8 → pq_Tot (X_Exchange_put_b257 N (X_Exchange_put N d) x v2 r3 r5 r7 τ9) (pq_XQ [4] τ9 (pq_PutP x)) := fun k => by
        rw [X_Exchange_put_b257]
        have ro := r.2.1 k
        refine pq_Tot.bd (part r5 τ9 pq_XG.rf h (by rw [k5]; omega) (fun z => by rw [k5] at z ⊢; exact ro.2 z)) (fun r21 σ22 h22 => ?_)
        obtain ⟨i22, g22, p22⟩ := h22
        refine pq_Tot.ite (fun _ => ?_) (fun _ => pq_Tot.bd (pq_make_x hN i22 ?_) (fun r23 σ24 h24 => ?_))
        · rw [X_Exchange_put_b294]; exact fin σ22 (-3) g22 i22 pq_m3_Zx
        · have z22 := zt σ22 g22
          have w := r.2.2.2.1 (by omega)
          have := g22.1; have := v.2
          exact ⟨fun _ => by rw [← z22]; exact p22.1, fun _ => by rw [k7]; omega, fun z => by omega, by rw [pq_iv_m1]; omega, fun z => by omega⟩
        · rw [X_Exchange_put_b294]; exact fin σ24 r23 (g22.tr h24.2.1) h24.1 h24.2.2.z
      have b311 : pq_kX τ9 x.toInt.toNat = 1 ∨ pq_kX τ9 x.toInt.toNat = 2 → pq_Tot (X_Exchange_put_b311 N (X_Exchange_put N d) x v2 r3 r5 r7 r9 τ9) (pq_XQ [4] τ9 (pq_PutP x)) := fun k => by
        rw [X_Exchange_put_b311]
        have rd := r.2.2.1 k
        have w := r.2.2.2.1 (by omega)
        have hh := r.2.2.2.2.2
        have b372 : ∀ (υ : SX) (a : Int32), pq_XG [4] τ9 υ → pq_XI υ → a.toInt < pq_Zx υ → pq_Tot (X_Exchange_put_b372 N (X_Exchange_put N d) x a υ) (pq_XQ [4] τ9 (pq_PutP x)) := fun υ a g hυ ha => by
          rw [X_Exchange_put_b372]; exact fin υ a g hυ ha
        refine pq_Tot.bd (part r7 τ9 pq_XG.rf h (by rw [k7]; omega) (fun z => by rw [k7] at z ⊢; exact rd.1 z)) (fun r25 σ26 h26 => ?_)
        obtain ⟨i26, g26, p26⟩ := h26
        refine pq_Tot.ite (fun _ => ?_) (fun _ => pq_Tot.bd (part r9 σ26 g26 i26 (by rw [k9]; omega) (fun z => by rw [k9] at z ⊢; exact (rd.2 z).2)) (fun r29 σ30 h30 => ?_))
        · rw [X_Exchange_put_b343]; exact pq_Tot.ite1 rfl (b372 σ26 (-3) g26 i26 pq_m3_Zx)
        · obtain ⟨i30, g30, p30⟩ := h30
          have g := g26.tr g30
          rw [X_Exchange_put_b343]
          refine pq_Tot.ite (fun _ => b372 σ30 (-3) g i30 pq_m3_Zx) (fun _ => pq_Tot.bd (pq_make_x hN i30 ?_) (fun r27 σ28 h28 => b372 σ28 r27 (g.tr h28.2.1) h28.1 h28.2.2.z))
          have z30 := zt σ30 g
          have lt25 : r25.toInt < pq_tz σ30 := by rw [← z30]; exact g30.lt p26.1
          refine ⟨fun z => by omega, fun _ => lt25, fun z => by omega, by rw [← z30]; exact p30.1, fun z => ?_⟩
          have neg : pq_hX τ9 x.toInt.toNat < 0 := by
            refine Classical.byContradiction (fun y => ?_)
            have := (rd.2 (by omega)).1
            omega
          rw [p30.2 (by rw [k9]; exact neg), k9]; exact neg
      have b244 : pq_Tot (X_Exchange_put_b244 N (X_Exchange_put N d) x v2 r3 r5 r7 r9 x τ9) (pq_XQ [4] τ9 (pq_PutP x)) := by
        rw [X_Exchange_put_b244]
        refine pq_Tot.ite (fun e => b257 (Or.inl (by rw [← k3, e]; rfl))) (fun _ => pq_Tot.ite (fun e => b257 (Or.inr (by rw [← k3, e]; rfl))) (fun _ => pq_Tot.ite (fun e => b311 (Or.inr (by rw [← k3, e]; rfl))) (fun _ => pq_Tot.ite (fun e => b311 (Or.inl (by rw [← k3, e]; rfl))) (fun _ => fin τ9 x pq_XG.rf h v.z))))
      have b173 : pq_Tot (X_Exchange_put_b173 N (X_Exchange_put N d) x v2 r3 r5 r7 r9 x τ9) (pq_XQ [4] τ9 (pq_PutP x)) := by
        rw [X_Exchange_put_b173]
        refine pq_Tot.ite (fun e3 => pq_Tot.bd (pq_xg_first h _) (fun r11 τ11 h11 => ?_)) (fun _ => b244)
        obtain ⟨rfl, _⟩ := h11
        refine pq_Tot.ite (fun _ => pq_Tot.bd (pq_xg_arg h _ _) (fun r13 τ13 h13 => ?_)) (fun _ => b244)
        obtain ⟨rfl, h13⟩ := h13
        refine pq_Tot.bd (pq_xg_kind h r13) (fun r15 τ15 h15 => ?_)
        obtain ⟨rfl, h15⟩ := h15
        have arg : r13.toInt < pq_Zx τ15 ∧ (pq_Rg τ15 r13 → pq_Rg τ15 (gX_Exchange_owner τ15) ∧ r13.toInt < (gX_Exchange_owner τ15).toInt) := by
          rcases h13 with h13 | h13
          · have ow := h.2.2.2 h13.1.1
            have ro := h.row _ h13.1
            have eo : (((gX_Exchange_owner τ15).toInt.toNat : Nat) : Int) = (gX_Exchange_owner τ15).toInt := by have := h13.1.1; omega
            have w := ro.2.2.2.1 (by omega)
            have hh := ro.2.2.2.2.2
            have := h13.1.z
            rcases h13.2 with y | y
            · exact ⟨by omega, fun _ => ⟨h13.1, by omega⟩⟩
            · exact ⟨by omega, fun _ => ⟨h13.1, by omega⟩⟩
          · rw [h13.2]; exact ⟨pq_m1_Zx h, fun z => by have := z.1; rw [pq_iv_m1] at this; omega⟩
        refine pq_Tot.ite (fun e2 => pq_Tot.bd (pq_make_x hN h ?_) (fun r17 σ18 h18 => fin σ18 r17 h18.2.1 h18.1 h18.2.2.z)) (fun _ => fin τ15 r13 pq_XG.rf h arg.1)
        have v13 : pq_Rg τ15 r13 := h15.elim (fun z => z.1) (fun z => by rw [z.2] at e2; exact absurd e2 (by decide))
        have a := arg.2 v13
        have ka : pq_kX τ15 x.toInt.toNat = 3 := by rw [← k3, e3]; rfl
        have w3 := r.2.2.2.2.1 ka
        have := v13.1; have := a.1.2
        exact ⟨fun _ => a.1.2, fun _ => by rw [k7]; omega, fun z => absurd z (by decide), by rw [pq_iv_m1]; omega, fun z => absurd z (by decide)⟩
      refine pq_Tot.ite (fun _ => pq_Tot.ite (fun _ => b173) (fun a0 => pq_Tot.ite (fun _ => b173) (fun a12 => ?_))) (fun _ => b173)
      rw [pq_iv_lt, pq_iv_0] at a0
      rw [pq_iv_le, show (12 : Int32).toInt = 12 from rfl] at a12
      exact pq_Tot.ite1 (pq_ck_mk (by omega) (by omega)) (pq_Tot.nm (fin τ9 _ pq_XG.rf h (h.2.1.1 18 (by decide) _)))
    refine pq_Tot.ite (fun _ => pq_Tot.bd (pq_xg_owners h x (-1)) (fun r1 τ1 h1 => ?_)) (fun _ => pq_Tot.bd (pq_xg_vars h x) (fun r1 τ1 h1 => ?_))
    · obtain ⟨rfl, h1⟩ := h1
      exact pq_Tot.ite (fun _ => b0) (fun n => b1 (h1 (pq_lgz n)))
    · obtain ⟨rfl, h1⟩ := h1
      refine pq_Tot.ite (fun _ => b0) (fun n => b1 (h1 (fun z => n ?_)))
      rw [z]; exact Int32.zero_and
set_option maxRecDepth 100000 in
theorem pq_put22 (hN : 501 ≤ N) (h : pq_XI σ) {x v2 : Int32} (hx : x.toInt < pq_Zx σ) : pq_Tot (X_Exchange_put N 22 x v2 σ) (pq_XQ [4] σ (pq_PutP x)) :=
  pq_put_x hN 22 x v2 σ h hx (by omega) (fun v => by have := (h.row x v).1.2; omega)
end EX
