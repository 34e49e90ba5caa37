def pq_XQ {ρ : Type} (L : List Nat) (σ : SX) (P : ρ → SX → Prop) (r : ρ) (τ : SX) : Prop := pq_XI τ ∧ pq_XG L σ τ ∧ P r τ
set_option maxRecDepth 100000 in
theorem pq_XQ.pre {ρ : Type} {L : List Nat} {σ σ' : SX} {P : ρ → SX → Prop} {r : ρ} {τ : SX} (h : pq_XQ L σ' P r τ) (g : pq_XG L σ σ') : pq_XQ L σ P r τ := ⟨h.1, g.tr h.2.1, h.2.2⟩
def pq_MP (σ : SX) (k a b c : Int) : Prop := (k = 4 ∨ k = 8 → a < pq_tz σ) ∧ (k ≠ 3 → b < pq_tz σ) ∧ (k = 3 → b ≤ 1) ∧ c < pq_tz σ ∧ (k = 2 → c < 0)
def pq_MR (k : Int) (r : Int32) (τ : SX) : Prop := r = -3 ∨ (pq_Rg τ r ∧ pq_kX τ r.toInt.toNat = k)
section MK
variable {N : Nat} {σ : SX} {v1 v2 v3 v4 v5 : Int32}
set_option maxRecDepth 100000 in
theorem pq_mk_b333 (h : pq_XI σ) (hp : pq_MP σ v1.toInt v2.toInt v3.toInt v4.toInt) (h5 : ck v5 128 = true) {v7 v8 v9 : Int32} {v10 v12 : Int64} (d1 : 1 ≤ v7.toInt)
    (da : v1.toInt = 4 ∨ v1.toInt = 8 → 0 ≤ v2.toInt → pq_dX σ v2.toInt.toNat < v7.toInt) (db : v1.toInt = 1 ∨ v1.toInt = 2 → 0 ≤ v3.toInt → pq_dX σ v3.toInt.toNat < v7.toInt) (dc : v1.toInt = 1 → 0 ≤ v4.toInt → pq_dX σ v4.toInt.toNat < v7.toInt) :
    pq_Tot (X_Types_make_b333 N v1 v2 v3 v4 v5 v7 v8 v9 v10 v12 σ) (pq_XQ [4] σ (pq_MR v1.toInt)) := by
  rw [X_Types_make_b333]
  have no : pq_Tot (some ((-3 : Int32), σ)) (pq_XQ [4] σ (pq_MR v1.toInt)) := pq_Tot.ret ⟨h, pq_XG.rf, Or.inl rfl⟩
  refine pq_Tot.ite (fun _ => no) (fun d20 => pq_Tot.ite (fun _ => no) (fun t0 => pq_Tot.ite (fun t5 => pq_Tot.nm ?_) (fun _ => no)))
  rw [pq_iv_lt, show (20 : Int32).toInt = 20 from rfl] at d20
  rw [pq_iv_lt, pq_iv_0] at t0
  rw [pq_iv_lt, show (500 : Int32).toInt = 500 from rfl] at t5
  have te : (gX_Types_size σ).toInt = pq_tz σ := rfl
  have c : ck (gX_Types_size σ) 500 = true := pq_ck_mk (by omega) (by omega)
  have tn : (gX_Types_size σ).toNatClampNeg = (pq_tz σ).toNat := rfl
  have t1 : (gX_Types_size σ + 1).toInt = pq_tz σ + 1 := by rw [pq_iv_add (by rw [te, pq_iv_1]; omega) (by rw [te, pq_iv_1]; omega), te, pq_iv_1]
  iterate 9 refine pq_Tot.ite1 c (pq_Tot.nm ?_)
  refine pq_Tot.ite1 h5 (pq_Tot.ite1 c (pq_Tot.nm (pq_Tot.ite1 h5 (pq_Tot.nm (pq_Tot.nm (pq_Tot.ret ?_))))))
  rw [tn]
  generalize hτ : sX_Types_size _ _ = τ
  have f : pq_xf [4] [4, 5, 6, 7, 8, 9, 10, 11, 12] σ τ := by
    rw [← hτ]
    exact pq_xf.s (pq_xf.t (pq_xf.t (pq_xf.l (pq_xf.l (pq_xf.t (pq_xf.t (pq_xf.t (pq_xf.t (pq_xf.t (pq_xf.t (pq_xf.t pq_xf.rf (by decide) _) (by decide) _) (by decide) _) (by decide) _) (by decide) _) (by decide) _) (by decide) _) _) _) (by decide) _) (by decide) _) (by decide) _
  have z1 : pq_tz τ = pq_tz σ + 1 := by rw [← hτ]; exact t1
  have k1 : ∀ t, pq_kX τ t = if t = (pq_tz σ).toNat then v1.toInt else pq_kX σ t := fun t => by
    rw [← hτ]; show (upd (aX_Types_kind σ) (pq_tz σ).toNat v1 t).toInt = _
    rw [upd]; split <;> rfl
  have o1 : ∀ t, pq_oX τ t = if t = (pq_tz σ).toNat then v2.toInt else pq_oX σ t := fun t => by
    rw [← hτ]; show (upd (aX_Types_first σ) (pq_tz σ).toNat v2 t).toInt = _
    rw [upd]; split <;> rfl
  have w1 : ∀ t, pq_wX τ t = if t = (pq_tz σ).toNat then v3.toInt else pq_wX σ t := fun t => by
    rw [← hτ]; show (upd (aX_Types_second σ) (pq_tz σ).toNat v3 t).toInt = _
    rw [upd]; split <;> rfl
  have h1 : ∀ t, pq_hX τ t = if t = (pq_tz σ).toNat then v4.toInt else pq_hX σ t := fun t => by
    rw [← hτ]; show (upd (aX_Types_third σ) (pq_tz σ).toNat v4 t).toInt = _
    rw [upd]; split <;> rfl
  have d1' : ∀ t, pq_dX τ t = if t = (pq_tz σ).toNat then v7.toInt else pq_dX σ t := fun t => by
    rw [← hτ]; show (upd (aX_Types_depth σ) (pq_tz σ).toNat v7 t).toInt = _
    rw [upd]; split <;> rfl
  clear hτ
  have dlt : ∀ x : Int, 0 ≤ x → x < pq_tz σ → pq_dX τ x.toNat = pq_dX σ x.toNat := fun x a b => by rw [d1', if_neg (by omega)]
  have zz : pq_Zx σ ≤ pq_Zx τ := by rw [pq_Zx, pq_Zx, z1]; split <;> split <;> omega
  have ow : gX_Exchange_owner τ = gX_Exchange_owner σ := f.1 8 (by decide)
  have g : pq_XG [4] σ τ := ⟨by omega, fun t ht => ⟨by rw [k1, if_neg (by omega)], by rw [d1', if_neg (by omega)]⟩, f.1⟩
  refine ⟨⟨⟨by omega, by omega, fun t ht => ?_⟩, ⟨fun a ha i => ?_, fun c hc => ?_⟩, h.2.2.1.xf f (by decide) (by decide), fun z => ?_⟩, g, Or.inr ⟨⟨by rw [te]; omega, by rw [te]; omega⟩, ?_⟩⟩
  · by_cases e : t = (pq_tz σ).toNat
    · rw [pq_Rw, k1, o1, w1, h1, d1', if_pos e, if_pos e, if_pos e, if_pos e, if_pos e]
      have te' : (t : Int) = pq_tz σ := by omega
      refine ⟨⟨d1, by omega⟩, fun k => ⟨by rw [te']; exact hp.1 k, fun z => ?_⟩, fun k => ⟨fun z => ?_, fun z => ?_⟩, fun k => by rw [te']; exact hp.2.1 k, hp.2.2.1, by rw [te']; exact hp.2.2.2.1⟩
      · rw [dlt _ z (hp.1 k)]; exact da k z
      · rw [dlt _ z (hp.2.1 (by omega))]; exact db k z
      · rcases k with k | k
        · rw [dlt _ z hp.2.2.2.1]; exact ⟨k, dc k z⟩
        · have := hp.2.2.2.2 k; omega
    · have r := h.1.2.2 t (by omega)
      have ht' : (t : Int) < pq_tz σ := by omega
      rw [pq_Rw, k1, o1, w1, h1, d1', if_neg e, if_neg e, if_neg e, if_neg e, if_neg e]
      refine ⟨r.1, fun k => ⟨(r.2.1 k).1, fun z => ?_⟩, fun k => ⟨fun z => ?_, fun z => ?_⟩, r.2.2.2⟩
      · rw [dlt _ z (by have := (r.2.1 k).1; omega)]; exact (r.2.1 k).2 z
      · rw [dlt _ z (by have := r.2.2.2.1 (by omega); omega)]; exact (r.2.2.1 k).1 z
      · rw [dlt _ z (by have := r.2.2.2.2.2; omega)]; exact (r.2.2.1 k).2 z
  · rw [f.2 a (by revert a; decide)]
    exact Int.lt_of_lt_of_le (h.2.1.1 a ha i) zz
  · rw [f.1 c (by revert c; decide)]
    exact Int.lt_of_lt_of_le (h.2.1.2 c hc) zz
  · rw [ow] at z ⊢
    have q := h.2.2.2 z
    exact ⟨by omega, by rw [k1, if_neg (by omega)]; exact q.2⟩
  · rw [te, k1, if_pos rfl]
set_option maxRecDepth 100000 in
theorem pq_mk_L177 (h : pq_XI σ) (hp : pq_MP σ v1.toInt v2.toInt v3.toInt v4.toInt) (h5 : ck v5 128 = true) : ∀ (n : Nat) (v7 v8 v9 v14 : Int32) (v10 v12 : Int64), 1 ≤ v7.toInt → v7.toInt ≤ 21 → 0 ≤ v14.toInt → v14.toInt ≤ 3 →
    (1 ≤ v14.toInt → v1.toInt = 4 ∨ v1.toInt = 8 → 0 ≤ v2.toInt → pq_dX σ v2.toInt.toNat < v7.toInt) → (2 ≤ v14.toInt → v1.toInt = 1 ∨ v1.toInt = 2 → 0 ≤ v3.toInt → pq_dX σ v3.toInt.toNat < v7.toInt) → (3 ≤ v14.toInt → v1.toInt = 1 → 0 ≤ v4.toInt → pq_dX σ v4.toInt.toNat < v7.toInt) → 3 - v14.toInt < n →
    pq_Tot (X_Types_make_L177 N (X_Types_make_b333 N) n v1 v2 v3 v4 v5 v7 v8 v9 v10 v12 v14 σ) (pq_XQ [4] σ (pq_MR v1.toInt)) := by
  intro n
  induction n with
  | zero => intro v7 v8 v9 v14 v10 v12 _ _ _ _ _ _ _ h; omega
  | succ n ih =>
    intro v7 v8 v9 v14 v10 v12 d1 d21 z0 z3 da db dc hn
    rw [X_Types_make_L177]
    refine pq_Tot.ite (fun le => ?_) (fun lt => ?_)
    · rw [pq_iv_le, show (3 : Int32).toInt = 3 from rfl] at le
      exact pq_mk_b333 h hp h5 d1 (da (by omega)) (db (by omega)) (dc le)
    rw [pq_iv_le, show (3 : Int32).toInt = 3 from rfl] at lt
    have e1 : (v14 + 1).toInt = v14.toInt + 1 := pq_iv_add (by rw [pq_iv_1]; omega) (by rw [pq_iv_1]; omega)
    have b327 : ∀ (v7' v8 v9 : Int32) (v10 v12 : Int64), v7.toInt ≤ v7'.toInt → v7'.toInt ≤ 21 → (v14.toInt = 0 → v1.toInt = 4 ∨ v1.toInt = 8 → 0 ≤ v2.toInt → pq_dX σ v2.toInt.toNat < v7'.toInt) → (v14.toInt = 1 → v1.toInt = 1 ∨ v1.toInt = 2 → 0 ≤ v3.toInt → pq_dX σ v3.toInt.toNat < v7'.toInt) → (v14.toInt = 2 → v1.toInt = 1 → 0 ≤ v4.toInt → pq_dX σ v4.toInt.toNat < v7'.toInt) → pq_Tot (X_Types_make_b327 N (X_Types_make_L177 N (X_Types_make_b333 N) n) v1 v2 v3 v4 v5 v7' v8 v9 v10 v12 v14 σ) (pq_XQ [4] σ (pq_MR v1.toInt)) := fun v7' v8 v9 v10 v12 l1 l2 pa pb pq_pc => by
      rw [X_Types_make_b327]
      refine pq_Tot.nm (ih v7' v8 v9 (v14 + 1) v10 v12 (by omega) l2 (by omega) (by omega) (fun z k y => ?_) (fun z k y => ?_) (fun z k y => ?_) (by omega))
      · by_cases e : v14.toInt = 0
        · exact pa e k y
        · have := da (by omega) k y; omega
      · by_cases e : v14.toInt = 1
        · exact pb e k y
        · have := db (by omega) k y; omega
      · exact pq_pc (by omega) k y
    have b239 : ∀ p : Int32, (v14.toInt = 0 → v1.toInt = 4 ∨ v1.toInt = 8 → p = v2) → (v14.toInt = 1 → v1.toInt = 1 ∨ v1.toInt = 2 → p = v3) → (v14.toInt = 2 → v1.toInt = 1 → p = v4) → pq_Tot (X_Types_make_b239 N (X_Types_make_L177 N (X_Types_make_b333 N) n) v1 v2 v3 v4 v5 v7 v8 v9 v10 v12 v14 p σ) (pq_XQ [4] σ (pq_MR v1.toInt)) := fun p pa pb pq_pc => by
      rw [X_Types_make_b239]
      refine pq_Tot.ite (fun a => ?_) (fun a => pq_Tot.ite (fun b => ?_) (fun b => ?_))
      · rw [pq_iv_lt, pq_iv_0] at a
        exact b327 v7 v8 v9 v10 v12 (Int.le_refl _) d21 (fun z k y => by rw [← pa z k] at y; omega) (fun z k y => by rw [← pb z k] at y; omega) (fun z k y => by rw [← pq_pc z k] at y; omega)
      · have c := h.ckx' a b
        have v := pq_Rg.of' a b
        have r := (h.row p v).1
        have pe : (aX_Types_depth σ p.toNatClampNeg).toInt = pq_dX σ p.toInt.toNat := rfl
        have b279 : ∀ v7' : Int32, v7.toInt ≤ v7'.toInt → v7'.toInt ≤ 21 → pq_dX σ p.toInt.toNat < v7'.toInt → pq_Tot (X_Types_make_b279 N (X_Types_make_L177 N (X_Types_make_b333 N) n) v1 v2 v3 v4 v5 v7' v8 v9 v10 v12 v14 p σ) (pq_XQ [4] σ (pq_MR v1.toInt)) := fun v7' l1 l2 l3 => by
          rw [X_Types_make_b279]
          exact pq_Tot.ite1 c (pq_Tot.nm (pq_Tot.ite1 c (pq_Tot.nm (pq_Tot.ite1 c (pq_Tot.nm (pq_Tot.ite1 c (pq_Tot.nm (b327 v7' _ _ _ _ l1 l2 (fun z k _ => by rw [← pa z k]; exact l3) (fun z k _ => by rw [← pb z k]; exact l3) (fun z k _ => by rw [← pq_pc z k]; exact l3)))))))))
        refine pq_Tot.ite1 c (pq_Tot.ite (fun l => b279 v7 (Int.le_refl _) d21 (by rw [pq_iv_lt, pe] at l; exact l)) (fun l => pq_Tot.ite1 c (pq_Tot.nm ?_)))
        rw [pq_iv_lt, pe] at l
        have e : (aX_Types_depth σ p.toNatClampNeg + 1).toInt = pq_dX σ p.toInt.toNat + 1 := by rw [pq_iv_add (by rw [pe, pq_iv_1]; omega) (by rw [pe, pq_iv_1]; omega), pe, pq_iv_1]
        exact b279 _ (by omega) (by omega) (by omega)
      · rw [pq_iv_lt] at b
        have te : (gX_Types_size σ).toInt = pq_tz σ := rfl
        refine b327 v7 v8 v9 v10 v12 (Int.le_refl _) d21 (fun z k y => ?_) (fun z k y => ?_) (fun z k y => ?_)
        · rw [pa z k] at b; have := hp.1 k; omega
        · rw [pb z k] at b; have := hp.2.1 (by omega); omega
        · rw [pq_pc z k] at b; have := hp.2.2.2.1; omega
    have b224 : ∀ p : Int32, (v14.toInt = 0 → v1.toInt = 4 ∨ v1.toInt = 8 → p = v2) → (v14.toInt = 1 → v1.toInt = 1 ∨ v1.toInt = 2 → p = v3) → pq_Tot (X_Types_make_b224 N (X_Types_make_L177 N (X_Types_make_b333 N) n) v1 v2 v3 v4 v5 v7 v8 v9 v10 v12 v14 p σ) (pq_XQ [4] σ (pq_MR v1.toInt)) := fun p pa pb => by
      rw [X_Types_make_b224]
      have two : (2 : Int32).toInt = 2 := rfl
      refine pq_Tot.ite (fun e2 => pq_Tot.ite (fun k1 => ?_) (fun k1 => ?_)) (fun e2 => ?_)
      · have e2' := congrArg Int32.toInt e2
        rw [two] at e2'
        exact b239 v4 (fun z => by omega) (fun z => by omega) (fun _ _ => rfl)
      · exact b239 p pa pb (fun _ k => absurd (pq_iv_eq.2 k) k1)
      · exact b239 p pa pb (fun z => absurd (pq_iv_eq.2 (by rw [z]; rfl)) e2)
    have b205 : ∀ p : Int32, (v14.toInt = 0 → v1.toInt = 4 ∨ v1.toInt = 8 → p = v2) → pq_Tot (X_Types_make_b205 N (X_Types_make_L177 N (X_Types_make_b333 N) n) v1 v2 v3 v4 v5 v7 v8 v9 v10 v12 v14 p σ) (pq_XQ [4] σ (pq_MR v1.toInt)) := fun p pa => by
      rw [X_Types_make_b205]
      have b221 : v14 = 1 → pq_Tot (X_Types_make_b221 N (X_Types_make_L177 N (X_Types_make_b333 N) n) v1 v2 v3 v4 v5 v7 v8 v9 v10 v12 v14 σ) (pq_XQ [4] σ (pq_MR v1.toInt)) := fun e => by
        rw [X_Types_make_b221]
        have e' := congrArg Int32.toInt e
        rw [pq_iv_1] at e'
        exact b224 v3 (fun z => by omega) (fun _ _ => rfl)
      refine pq_Tot.ite (fun e1 => pq_Tot.ite (fun _ => b221 e1) (fun k1 => pq_Tot.ite (fun _ => b221 e1) (fun k2 => b224 p pa (fun _ k => ?_)))) (fun e1 => b224 p pa (fun z => absurd (pq_iv_eq.2 (by rw [z]; rfl)) e1))
      rcases k with k | k
      · exact absurd (pq_iv_eq.2 k) k1
      · exact absurd (pq_iv_eq.2 (by rw [k]; rfl)) k2
    have b202 : pq_Tot (X_Types_make_b202 N (X_Types_make_L177 N (X_Types_make_b333 N) n) v1 v2 v3 v4 v5 v7 v8 v9 v10 v12 v14 σ) (pq_XQ [4] σ (pq_MR v1.toInt)) := by
      rw [X_Types_make_b202]; exact b205 v2 (fun _ _ => rfl)
    refine pq_Tot.ite (fun e0 => pq_Tot.ite (fun _ => b202) (fun k4 => pq_Tot.ite (fun _ => b202) (fun k8 => b205 (-1) (fun _ k => ?_)))) (fun e0 => b205 (-1) (fun z => absurd (pq_iv_eq.2 (by rw [z]; rfl)) e0))
    rcases k with k | k
    · exact absurd (pq_iv_eq.2 (by rw [k]; rfl)) k4
    · exact absurd (pq_iv_eq.2 (by rw [k]; rfl)) k8
set_option maxRecDepth 100000 in
theorem pq_and127 (x : Int32) : ck (x &&& 127) 128 = true := by
  have e : (x &&& 127).toInt = ((x.toBitVec &&& 127#32).toNat : Int) := by
    show ((x &&& 127).toBitVec).toInt = _
    rw [Int32.toBitVec_and]
    rw [BitVec.toInt_eq_toNat_of_lt]
    · rfl
    · have : (x.toBitVec &&& 127#32).toNat ≤ 127 := by rw [BitVec.toNat_and]; exact Nat.and_le_right
      show 2 * (x.toBitVec &&& 127#32).toNat < 2 ^ 32
      omega
  have : (x.toBitVec &&& 127#32).toNat ≤ 127 := by rw [BitVec.toNat_and]; exact Nat.and_le_right
  exact pq_ck_mk (by omega) (by omega)
set_option maxRecDepth 100000 in
theorem pq_make_x (hN : 501 ≤ N) (h : pq_XI σ) (hp : pq_MP σ v1.toInt v2.toInt v3.toInt v4.toInt) : pq_Tot (X_Types_make N v1 v2 v3 v4 σ) (pq_XQ [4] σ (pq_MR v1.toInt)) := by
  have b119 : ∀ v5 : Int32, ck v5 128 = true → pq_Tot (X_Types_make_b119 N v1 v2 v3 v4 v5 σ) (pq_XQ [4] σ (pq_MR v1.toInt)) := fun v5 h5 => by
    have b172 : ∀ (v8 v9 : Int32) (v10 s : Int64), pq_Tot (X_Types_make_b172 N v1 v2 v3 v4 v5 1 v8 v9 v10 s σ) (pq_XQ [4] σ (pq_MR v1.toInt)) := fun v8 v9 v10 s => by
      rw [X_Types_make_b172]
      exact pq_mk_L177 h hp h5 N 1 v8 v9 0 v10 s (by decide) (by decide) (by decide) (by decide) (fun z => absurd z (by decide)) (fun z => absurd z (by decide)) (fun z => absurd z (by decide)) (by rw [pq_iv_0]; omega)
    have b154 : ∀ (v8 v9 : Int32) (s : Int64), pq_Tot (X_Types_make_b154 N v1 v2 v3 v4 v5 1 v8 v9 s σ) (pq_XQ [4] σ (pq_MR v1.toInt)) := fun v8 v9 s => by
      rw [X_Types_make_b154, X_Types_make_b165]
      exact pq_Tot.ite (fun _ => b172 _ _ _ _) (fun _ => pq_Tot.ite (fun _ => b172 _ _ _ _) (fun _ => b172 _ _ _ _))
    have b140 : ∀ (v8 s : Int32), pq_Tot (X_Types_make_b140 N v1 v2 v3 v4 v5 1 v8 s σ) (pq_XQ [4] σ (pq_MR v1.toInt)) := fun v8 s => by
      rw [X_Types_make_b140]
      exact pq_Tot.ite (fun _ => b154 _ _ _) (fun _ => b154 _ _ _)
    rw [X_Types_make_b119]
    exact pq_Tot.nm (pq_Tot.ite (fun _ => b140 _ _) (fun _ => b140 _ _))
  have key : ∀ (n : Nat) (v5 v6 v7 : Int32), ck v5 128 = true → 0 ≤ v7.toInt → v7.toInt ≤ 500 → 500 - v7.toInt < n → pq_Tot (X_Types_make_L34 N (X_Types_make_b119 N) n v1 v2 v3 v4 v5 v6 v7 σ) (pq_XQ [4] σ (pq_MR v1.toInt)) := by
    intro n
    induction n with
    | zero => intro v5 v6 v7 _ _ _ h; omega
    | succ n ih =>
      intro v5 v6 v7 h5 z0 z1 hn
      rw [X_Types_make_L34]
      refine pq_Tot.ite (fun _ => b119 v5 h5) (fun lt => pq_Tot.ite (fun _ => b119 v5 h5) (fun a => pq_Tot.ite (fun _ => b119 v5 h5) (fun b => ?_)))
      rw [pq_iv_le, show (500 : Int32).toInt = 500 from rfl] at lt
      have c := h.ckx a b
      have e7 : (v7 + 1).toInt = v7.toInt + 1 := pq_iv_add (by rw [pq_iv_1]; omega) (by rw [pq_iv_1]; omega)
      have nx : pq_Tot (X_Types_make_b104 N (X_Types_make_L34 N (X_Types_make_b119 N) n) v1 v2 v3 v4 v5 v6 v7 σ) (pq_XQ [4] σ (pq_MR v1.toInt)) := by
        rw [X_Types_make_b104]
        exact pq_Tot.ite1 c (pq_Tot.nm (pq_Tot.nm (ih v5 _ (v7 + 1) h5 (by omega) (by omega) (by omega))))
      exact pq_Tot.ite1 c (pq_Tot.ite (fun e => pq_Tot.ite1 c (pq_Tot.ite (fun _ => pq_Tot.ite1 c (pq_Tot.ite (fun _ => pq_Tot.ite1 c (pq_Tot.ite (fun _ => pq_Tot.ret ⟨h, pq_XG.rf, Or.inr ⟨pq_Rg.of a b, congrArg Int32.toInt e⟩⟩) (fun _ => nx))) (fun _ => nx))) (fun _ => nx))) (fun _ => nx))
  rw [X_Types_make]
  exact pq_Tot.nm (pq_Tot.ite1 (pq_and127 _) (pq_Tot.nm (key N _ _ 0 (pq_and127 _) (by decide) (by decide) (by rw [pq_iv_0]; omega))))
end MK
