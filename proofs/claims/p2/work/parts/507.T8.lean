variable {Z : Prop}
abbrev pq_AR : List Nat := [3, 4, 5, 6, 7, 8, 12, 13, 14, 16, 17]
abbrev pq_wT (σ : SM) (i : Nat) : Int := (aM_M_workType σ i).toInt
abbrev pq_wS (σ : SM) (i : Nat) : Int32 := aM_M_workStage σ i
abbrev pq_wF (σ : SM) (i : Nat) : Int := (aM_M_workFirst σ i).toInt
def pq_chd (σ : SM) (t : Int) (st : Int32) : Int := if st = 1 then pq_hI σ t.toNat else if pq_kI σ t.toNat = 1 ∨ pq_kI σ t.toNat = 2 then pq_wI σ t.toNat else pq_oI σ t.toNat
def pq_sw (st : Nat → Int32) : Nat → Nat
  | 0 => 0
  | n + 1 => pq_sw st n + (if st n = 1 then 1 else 3)
set_option maxRecDepth 100000 in
theorem pq_sw_out {st : Nat → Int32} {i : Nat} {v : Int32} : ∀ n, n ≤ i → pq_sw (upd st i v) n = pq_sw st n
  | 0, _ => rfl
  | n + 1, h => by rw [pq_sw, pq_sw, pq_sw_out n (by omega), pq_upd_ne st v (by omega : n ≠ i)]
def pq_RL (Z : Prop) (σ0 σ : SM) (ty : Int) (m q : Nat) (f : Nat → Int32) : Prop :=
  pq_Tb σ ∧ pq_Ex σ0 σ ∧ pq_fr pq_LM pq_AR σ0 σ ∧ q ≤ m ∧ m ≤ q + 1 ∧
  (∀ i : Nat, i < m → pq_vt σ0 (pq_wT σ i) ∧ pq_dI σ0 (pq_wT σ i).toNat + i ≤ 20) ∧
  (∀ i : Nat, i < q → pq_inn σ0 (pq_wT σ i) ∧ (pq_wS σ i = 0 ∨ (pq_wS σ i = 1 ∧ pq_kI σ0 (pq_wT σ i).toNat = 1 ∧ 0 ≤ pq_hI σ0 (pq_wT σ i).toNat ∧ pq_PP Z σ0 σ (pq_wI σ0 (pq_wT σ i).toNat) (pq_wF σ i))) ∧ aM_M_seen σ (pq_wT σ i).toNat ≠ gM_M_looks σ0) ∧
  (∀ i : Nat, i + 1 < m → pq_wT σ (i + 1) = pq_chd σ0 (pq_wT σ i) (pq_wS σ i)) ∧ (0 < m → pq_wT σ 0 = ty) ∧
  (∀ i j : Nat, i < j → j < m → pq_dI σ0 (pq_wT σ j).toNat < pq_dI σ0 (pq_wT σ i).toNat) ∧
  (∀ t : Nat, (t : Int) < pq_tI σ0 → aM_M_seen σ t = gM_M_looks σ0 → pq_PP Z σ0 σ t (aM_M_became σ t).toInt) ∧
  (∀ t : Nat, f t = gM_M_looks σ0 → aM_M_seen σ t = gM_M_looks σ0 ∨ ∃ i, i < q ∧ (pq_wT σ i).toNat = t) ∧
  (∀ t, aM_M_seen σ t = aM_M_seen σ0 t ∨ aM_M_seen σ t = gM_M_looks σ0)
def pq_Rp (Z : Prop) (σ0 : SM) (ty : Int) (r : Int32) (τ : SM) : Prop :=
  pq_Tb τ ∧ pq_Ex σ0 τ ∧ pq_fr pq_LM pq_AR σ0 τ ∧ (pq_fl τ → r = -1) ∧ (¬ pq_fl τ → pq_PP Z σ0 τ ty r.toInt) ∧ ∀ t, aM_M_seen τ t = aM_M_seen σ0 t ∨ aM_M_seen τ t = gM_M_looks σ0
set_option maxRecDepth 100000 in
theorem pq_chd_ok {σ : SM} (h : pq_Tb σ) {t : Int} (v : pq_vt σ t) (hi : pq_inn σ t) {st : Int32} (hs : st = 1 → pq_kI σ t.toNat = 1 ∧ 0 ≤ pq_hI σ t.toNat) : pq_vt σ (pq_chd σ t st) ∧ pq_dI σ (pq_chd σ t st).toNat < pq_dI σ t.toNat := by
  have o := h.ok v
  have tl := pq_tn_lt v.1 v.2
  rw [pq_chd]
  split
  · next e =>
    have := hs e
    exact ⟨h.h v this.1 this.2, (o.2.2.2.1 this.1).2 this.2⟩
  · split
    · next k =>
      rcases k with k | k
      · exact ⟨h.w v k, (o.2.2.2.1 k).1⟩
      · have p : 0 < pq_oI σ t.toNat := by
          rcases hi with e | e | e | e
          · rw [k] at e; omega
          · rw [k] at e; omega
          · rw [k] at e; omega
          · exact e.2
        have q := (o.1.2.2.1 k).2.2 p
        exact ⟨⟨q.1, Int.lt_trans q.2 tl⟩, o.2.2.2.2.1 k p⟩
    · next k =>
      have k : pq_kI σ t.toNat = 4 ∨ pq_kI σ t.toNat = 8 := by
        rcases hi with e | e | e | e
        · exact absurd (Or.inl e) k
        · exact Or.inl e
        · exact Or.inr e
        · exact absurd (Or.inr e.1) k
      rcases k with k | k
      · have q := o.1.2.2.2.2.1 k
        exact ⟨⟨q.1, Int.lt_trans q.2 tl⟩, o.2.2.2.2.2.1 k⟩
      · have q := o.1.2.2.2.2.2.2.2 k
        exact ⟨⟨q.1, Int.lt_trans q.2.1 tl⟩, o.2.2.2.2.2.2 k⟩
section RR
variable {σ0 σ : SM} {ty : Int} {m q : Nat} {f : Nat → Int32}
set_option maxRecDepth 100000 in
theorem pq_RL.tb (h : pq_RL Z σ0 σ ty m q f) : pq_Tb σ := h.1
set_option maxRecDepth 100000 in
theorem pq_RL.e (h : pq_RL Z σ0 σ ty m q f) : pq_Ex σ0 σ := h.2.1
set_option maxRecDepth 100000 in
theorem pq_RL.fr (h : pq_RL Z σ0 σ ty m q f) : pq_fr pq_LM pq_AR σ0 σ := h.2.2.1
set_option maxRecDepth 100000 in
theorem pq_RL.vt (h : pq_RL Z σ0 σ ty m q f) {i : Nat} (hi : i < m) : pq_vt σ0 (pq_wT σ i) := (h.2.2.2.2.2.1 i hi).1
set_option maxRecDepth 100000 in
theorem pq_RL.dd (h : pq_RL Z σ0 σ ty m q f) {i : Nat} (hi : i < m) : pq_dI σ0 (pq_wT σ i).toNat + i ≤ 20 := (h.2.2.2.2.2.1 i hi).2
set_option maxRecDepth 100000 in
theorem pq_RL.m20 (h : pq_RL Z σ0 σ ty m q f) (hT : pq_Tb σ0) : m ≤ 20 := by
  by_cases z : m = 0
  · omega
  · have := h.dd (show m - 1 < m by omega)
    have := (hT.ok (h.vt (show m - 1 < m by omega))).2.1
    omega
set_option maxRecDepth 100000 in
theorem pq_RL.lk (h : pq_RL Z σ0 σ ty m q f) : gM_M_looks σ = gM_M_looks σ0 := h.fr.1 5 (by decide)
set_option maxRecDepth 100000 in
theorem pq_RL.full (h : pq_RL Z σ0 σ ty m q f) {τ : SM} (hT : pq_Tb τ) (e : pq_Ex σ τ) (g : pq_fr pq_LM pq_AR σ τ) (hf : pq_fl τ) (hs : ∀ t, aM_M_seen τ t = aM_M_seen σ t) : pq_Rp Z σ0 ty (-1) τ :=
  ⟨hT, h.e.tr e, h.fr.tr g, fun _ => rfl, fun z => absurd hf z, fun t => by rw [hs]; exact h.2.2.2.2.2.2.2.2.2.2.2.2 t⟩
set_option maxRecDepth 100000 in
theorem pq_RL.grow (h : pq_RL Z σ0 σ ty m q f) {τ : SM} (hT : pq_Tb τ) (e : pq_Ex σ τ) (g : pq_fr pq_LM pq_AM σ τ) : pq_RL Z σ0 τ ty m q f := by
  have a12 : aM_M_workType τ = aM_M_workType σ := g.2.1 12 (by decide)
  have a13 : aM_M_workStage τ = aM_M_workStage σ := g.2.1 13 (by decide)
  have a14 : aM_M_workFirst τ = aM_M_workFirst σ := g.2.1 14 (by decide)
  have a16 : aM_M_became τ = aM_M_became σ := g.2.1 16 (by decide)
  have a17 : aM_M_seen τ = aM_M_seen σ := g.2.1 17 (by decide)
  obtain ⟨h1, h2, h3, h4, h5, h6, h7, h8, h9, h10, h11, h12, h13⟩ := h
  refine ⟨hT, h2.tr e, h3.tr (g.up (fun _ z => z) (by decide)), h4, h5, ?_, ?_, ?_, ?_, ?_, ?_, ?_, ?_⟩
  · simp only [pq_wT, a12]; exact h6
  · simp only [pq_wT, pq_wS, pq_wF, a12, a13, a14, a17]
    intro i hi
    obtain ⟨x, y, z⟩ := h7 i hi
    refine ⟨x, ?_, z⟩
    rcases y with y | y
    · exact Or.inl y
    · exact Or.inr ⟨y.1, y.2.1, y.2.2.1, y.2.2.2.ex h1 e⟩
  · simp only [pq_wT, pq_wS, a12, a13]; exact h8
  · simp only [pq_wT, a12]; exact h9
  · simp only [pq_wT, a12]; exact h10
  · simp only [a16, a17]; intro t ht hs; exact (h11 t ht hs).ex h1 e
  · simp only [pq_wT, a12, a17]; exact h12
  · simp only [a17]; exact h13
end RR
