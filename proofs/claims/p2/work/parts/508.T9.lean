variable {Z : Prop}
set_option maxRecDepth 100000 in
theorem pq_PP.of {σ0 σ τ : SM} (hT : pq_Tb σ0) (e : pq_Ex σ0 σ) {t r : Int} (v : pq_vt σ0 t) (h : pq_PP Z σ τ t r) : pq_PP Z σ0 τ t r := by
  obtain ⟨h1, h2, h3, h4, h5⟩ := h
  rw [e.q v] at h5
  rw [e.k v] at h2 h3
  rw [e.o v, e.w v, e.h v] at h3
  rw [e.k v, e.o v] at h4
  refine ⟨h1, h2, fun z => ?_, h4, h5⟩
  obtain ⟨a, b, c, d⟩ := h3 z
  rw [e.k (hT.w v z)] at c
  refine ⟨a, b, c, fun y => ?_⟩
  have d := d y
  rw [e.k (hT.h v z y)] at d
  exact d
set_option maxRecDepth 100000 in
theorem pq_inn.of {σ0 σ : SM} (e : pq_Ex σ0 σ) {t : Int} (v : pq_vt σ0 t) (h : pq_inn σ t) : pq_inn σ0 t := by
  rw [pq_inn, e.k v, e.o v] at h; exact h
section RR
variable {σ0 σ : SM} {ty : Int} {m q : Nat} {f : Nat → Int32}
def pq_HR (Z : Prop) (σ0 σ : SM) (ty : Int) (m : Nat) (r : Int) : Prop := (m = 0 → pq_PP Z σ0 σ ty r) ∧ (0 < m → pq_PP Z σ0 σ (pq_chd σ0 (pq_wT σ (m - 1)) (pq_wS σ (m - 1))) r)
set_option maxRecDepth 100000 in
theorem pq_RL.pop (h : pq_RL Z σ0 σ ty (q + 1) q f) : pq_RL Z σ0 σ ty q q f := by
  obtain ⟨h1, h2, h3, h4, h5, h6, h7, h8, h9, h10, h11, h12, h13⟩ := h
  exact ⟨h1, h2, h3, by omega, by omega, fun i hi => h6 i (by omega), h7, fun i hi => h8 i (by omega), fun hi => h9 (by omega), fun i j hi hj => h10 i j hi (by omega), h11, h12, h13⟩
set_option maxRecDepth 100000 in
theorem pq_RL.hr (h : pq_RL Z σ0 σ ty (q + 1) q f) {r : Int} (p : pq_PP Z σ0 σ (pq_wT σ q) r) : pq_HR Z σ0 σ ty q r := by
  obtain ⟨h1, h2, h3, h4, h5, h6, h7, h8, h9, h10, h11, h12, h13⟩ := h
  refine ⟨fun z => ?_, fun z => ?_⟩
  · subst z; rw [← h9 (by omega)]; exact p
  · have := h8 (q - 1) (by omega)
    rw [show q - 1 + 1 = q by omega] at this
    rw [← this]; exact p
set_option maxRecDepth 100000 in
theorem pq_RL.hr2 (h : pq_RL Z σ0 σ ty (q + 1) (q + 1) f) {r : Int} (p : pq_PP Z σ0 σ (pq_wT σ q) r) : pq_HR Z σ0 σ ty q r := by
  obtain ⟨h1, h2, h3, h4, h5, h6, h7, h8, h9, h10, h11, h12, h13⟩ := h
  refine ⟨fun z => ?_, fun z => ?_⟩
  · subst z; rw [← h9 (by omega)]; exact p
  · have := h8 (q - 1) (by omega)
    rw [show q - 1 + 1 = q by omega] at this
    rw [← this]; exact p
set_option maxRecDepth 100000 in
theorem pq_RL.start (h : pq_RL Z σ0 σ ty (q + 1) q f) (hT : pq_Tb σ0) (hi : pq_inn σ0 (pq_wT σ q)) (hs : aM_M_seen σ (pq_wT σ q).toNat ≠ gM_M_looks σ0) {x : Int32} (hx : x.toInt = pq_chd σ0 (pq_wT σ q) 0) :
    pq_RL Z σ0 (tM_M_workType (tM_M_workStage σ (upd (aM_M_workStage σ) q 0)) (upd (aM_M_workType σ) (q + 1) x)) ty (q + 2) (q + 1) (upd f (pq_wT σ q).toNat (gM_M_looks σ0)) ∧ f (pq_wT σ q).toNat ≠ gM_M_looks σ0 ∧ (pq_wT σ q).toNat < 500 := by
  have c := pq_chd_ok hT (h.vt (i := q) (by omega)) hi (st := 0) (fun z => absurd z (by decide))
  have dq := h.dd (i := q) (by omega)
  have vq := h.vt (i := q) (by omega)
  obtain ⟨h1, h2, h3, h4, h5, h6, h7, h8, h9, h10, h11, h12, h13⟩ := h
  have t1 : ∀ i, i ≤ q → pq_wT (tM_M_workType (tM_M_workStage σ (upd (aM_M_workStage σ) q 0)) (upd (aM_M_workType σ) (q + 1) x)) i = pq_wT σ i := fun i hi => by
    show (upd (aM_M_workType σ) (q + 1) x i).toInt = _
    rw [pq_upd_ne _ _ (by omega)]
  have t2 : pq_wT (tM_M_workType (tM_M_workStage σ (upd (aM_M_workStage σ) q 0)) (upd (aM_M_workType σ) (q + 1) x)) (q + 1) = pq_chd σ0 (pq_wT σ q) 0 := by
    show (upd (aM_M_workType σ) (q + 1) x (q + 1)).toInt = _
    rw [pq_upd_eq]; exact hx
  have s1 : ∀ i, i < q → pq_wS (tM_M_workType (tM_M_workStage σ (upd (aM_M_workStage σ) q 0)) (upd (aM_M_workType σ) (q + 1) x)) i = pq_wS σ i := fun i hi => pq_upd_ne _ _ (by omega)
  have s2 : pq_wS (tM_M_workType (tM_M_workStage σ (upd (aM_M_workStage σ) q 0)) (upd (aM_M_workType σ) (q + 1) x)) q = 0 := pq_upd_eq _ _ _
  have nf : f (pq_wT σ q).toNat ≠ gM_M_looks σ0 := fun z => by
    rcases h12 _ z with y | ⟨i, hi, y⟩
    · exact hs y
    · have := h10 i q hi (by omega)
      rw [y] at this; omega
  refine ⟨⟨h1, h2, pq_fr.t (pq_fr.t h3 (by decide) _) (by decide) _, by omega, by omega, ?_, ?_, ?_, ?_, ?_, h11, ?_, h13⟩, nf, ?_⟩
  · intro i hi
    by_cases e : i = q + 1
    · subst e; rw [t2]; exact ⟨c.1, by omega⟩
    · rw [t1 i (by omega)]; exact h6 i (by omega)
  · intro i hi
    rw [t1 i (by omega)]
    by_cases e : i = q
    · subst e; rw [s2]; exact ⟨‹pq_inn σ0 (pq_wT σ i)›, Or.inl rfl, hs⟩
    · rw [s1 i (by omega)]; exact h7 i (by omega)
  · intro i hi
    rw [t1 i (by omega)]
    by_cases e : i = q
    · subst e; rw [t2, s2]
    · rw [t1 (i + 1) (by omega), s1 i (by omega)]; exact h8 i (by omega)
  · intro _; rw [t1 0 (by omega)]; exact h9 (by omega)
  · intro i j hi hj
    by_cases e : j = q + 1
    · subst e; rw [t2, t1 i (by omega)]
      by_cases e' : i = q
      · subst e'; exact c.2
      · exact Int.lt_trans c.2 (h10 i q (by omega) (by omega))
    · rw [t1 i (by omega), t1 j (by omega)]; exact h10 i j hi (by omega)
  · intro t ht
    by_cases e : t = (pq_wT σ q).toNat
    · exact Or.inr ⟨q, by omega, by rw [t1 q (Nat.le_refl _), e]⟩
    · rw [pq_upd_ne _ _ e] at ht
      rcases h12 t ht with y | ⟨i, hi, y⟩
      · exact Or.inl y
      · exact Or.inr ⟨i, by omega, by rw [t1 i (by omega)]; exact y⟩
  · have := hT.2.2.2.1; have := vq.2; have := vq.1; omega
set_option maxRecDepth 100000 in
theorem pq_RL.second (h : pq_RL Z σ0 σ ty (q + 1) (q + 1) f) (hT : pq_Tb σ0) (h0 : pq_wS σ q = 0) (hk : pq_kI σ0 (pq_wT σ q).toNat = 1) (hz : 0 ≤ pq_hI σ0 (pq_wT σ q).toNat) {r x : Int32} (hr : pq_PP Z σ0 σ (pq_chd σ0 (pq_wT σ q) (pq_wS σ q)) r.toInt) (hx : x.toInt = pq_hI σ0 (pq_wT σ q).toNat) :
    pq_RL Z σ0 (tM_M_workType (tM_M_workStage (tM_M_workFirst σ (upd (aM_M_workFirst σ) q r)) (upd (aM_M_workStage σ) q 1)) (upd (aM_M_workType σ) (q + 1) x)) ty (q + 2) (q + 1) f := by
  have vq := h.vt (i := q) (by omega)
  have o := hT.ok vq
  have dq := h.dd (i := q) (by omega)
  obtain ⟨h1, h2, h3, h4, h5, h6, h7, h8, h9, h10, h11, h12, h13⟩ := h
  generalize hτ : tM_M_workType (tM_M_workStage (tM_M_workFirst σ (upd (aM_M_workFirst σ) q r)) (upd (aM_M_workStage σ) q 1)) (upd (aM_M_workType σ) (q + 1) x) = τ
  have t1 : ∀ i, i ≤ q → pq_wT τ i = pq_wT σ i := fun i hi => by
    rw [← hτ]; show (upd (aM_M_workType σ) (q + 1) x i).toInt = _
    rw [pq_upd_ne _ _ (by omega)]
  have t2 : pq_wT τ (q + 1) = pq_hI σ0 (pq_wT σ q).toNat := by
    rw [← hτ]; show (upd (aM_M_workType σ) (q + 1) x (q + 1)).toInt = _
    rw [pq_upd_eq]; exact hx
  have s1 : ∀ i, i < q → pq_wS τ i = pq_wS σ i := fun i hi => by rw [← hτ]; exact pq_upd_ne _ _ (by omega)
  have s2 : pq_wS τ q = 1 := by rw [← hτ]; exact pq_upd_eq _ _ _
  have f1 : ∀ i, i < q → pq_wF τ i = pq_wF σ i := fun i hi => by
    rw [← hτ]; show (upd (aM_M_workFirst σ) q r i).toInt = _
    rw [pq_upd_ne _ _ (by omega)]
  have f2 : pq_wF τ q = r.toInt := by
    rw [← hτ]; show (upd (aM_M_workFirst σ) q r q).toInt = _
    rw [pq_upd_eq]
  have sn : aM_M_seen τ = aM_M_seen σ := by rw [← hτ]; rfl
  have bc : aM_M_became τ = aM_M_became σ := by rw [← hτ]; rfl
  have pp : ∀ t r, pq_PP Z σ0 τ t r ↔ pq_PP Z σ0 σ t r := fun t r => by rw [← hτ]; exact Iff.rfl
  have hd : pq_dI σ0 (pq_hI σ0 (pq_wT σ q).toNat).toNat < pq_dI σ0 (pq_wT σ q).toNat := (o.2.2.2.1 hk).2 hz
  refine ⟨by rw [← hτ]; exact h1, by rw [← hτ]; exact h2, by rw [← hτ]; exact pq_fr.t (pq_fr.t (pq_fr.t h3 (by decide) _) (by decide) _) (by decide) _, by omega, by omega, ?_, ?_, ?_, ?_, ?_, ?_, ?_, ?_⟩
  · intro i hi
    by_cases e : i = q + 1
    · subst e; rw [t2]; exact ⟨hT.h vq hk hz, by omega⟩
    · rw [t1 i (by omega)]; exact h6 i (by omega)
  · intro i hi
    rw [t1 i (by omega), sn]
    by_cases e : i = q
    · subst e; rw [s2, f2]
      refine ⟨(h7 i (by omega)).1, Or.inr ⟨rfl, hk, hz, (pp _ _).2 ?_⟩, (h7 i (by omega)).2.2⟩
      rw [h0, pq_chd, if_neg (by decide), if_pos (Or.inl hk)] at hr; exact hr
    · rw [s1 i (by omega), f1 i (by omega), pp]; exact h7 i (by omega)
  · intro i hi
    rw [t1 i (by omega)]
    by_cases e : i = q
    · subst e; rw [t2, s2, pq_chd, if_pos rfl]
    · rw [t1 (i + 1) (by omega), s1 i (by omega)]; exact h8 i (by omega)
  · intro _; rw [t1 0 (by omega)]; exact h9 (by omega)
  · intro i j hi hj
    by_cases e : j = q + 1
    · subst e; rw [t2, t1 i (by omega)]
      by_cases e' : i = q
      · subst e'; exact hd
      · exact Int.lt_trans hd (h10 i q (by omega) (by omega))
    · rw [t1 i (by omega), t1 j (by omega)]; exact h10 i j hi (by omega)
  · intro t ht hs; rw [sn] at hs; rw [bc, pp]; exact h11 t ht hs
  · intro t ht
    rw [sn]
    rcases h12 t ht with y | ⟨i, hi, y⟩
    · exact Or.inl y
    · exact Or.inr ⟨i, by omega, by rw [t1 i (by omega)]; exact y⟩
  · intro t; rw [sn]; exact h13 t
set_option maxRecDepth 100000 in
theorem pq_RL.done (h : pq_RL Z σ0 σ ty (q + 1) (q + 1) f) {r : Int32} (hr : pq_PP Z σ0 σ (pq_wT σ q) r.toInt) :
    pq_RL Z σ0 (tM_M_seen (tM_M_became σ (upd (aM_M_became σ) (pq_wT σ q).toNat r)) (upd (aM_M_seen σ) (pq_wT σ q).toNat (gM_M_looks σ0))) ty q q f := by
  have vq := h.vt (i := q) (by omega)
  have vv : ∀ i, i < q → (pq_wT σ i).toNat ≠ (pq_wT σ q).toNat := fun i hi e => by
    have := h.2.2.2.2.2.2.2.2.2.1 i q hi (by omega)
    rw [e] at this; omega
  obtain ⟨h1, h2, h3, h4, h5, h6, h7, h8, h9, h10, h11, h12, h13⟩ := h
  refine ⟨h1, h2, pq_fr.t (pq_fr.t h3 (by decide) _) (by decide) _, by omega, by omega, fun i hi => h6 i (by omega), ?_, fun i hi => h8 i (by omega), fun hi => h9 (by omega), fun i j hi hj => h10 i j hi (by omega), ?_, ?_, ?_⟩
  · intro i hi
    refine ⟨(h7 i (by omega)).1, (h7 i (by omega)).2.1, ?_⟩
    show upd (aM_M_seen σ) (pq_wT σ q).toNat (gM_M_looks σ0) (pq_wT σ i).toNat ≠ _
    rw [pq_upd_ne _ _ (vv i hi)]; exact (h7 i (by omega)).2.2
  · intro t ht hs
    show pq_PP Z σ0 σ t (upd (aM_M_became σ) (pq_wT σ q).toNat r t).toInt
    by_cases e : t = (pq_wT σ q).toNat
    · rw [e, pq_upd_eq]
      have : (((pq_wT σ q).toNat : Nat) : Int) = pq_wT σ q := by have := vq.1; omega
      rw [this]; exact hr
    · rw [pq_upd_ne _ _ e]
      refine h11 t ht ?_
      have hs : upd (aM_M_seen σ) (pq_wT σ q).toNat (gM_M_looks σ0) t = _ := hs
      rw [pq_upd_ne _ _ e] at hs; exact hs
  · intro t ht
    show upd (aM_M_seen σ) (pq_wT σ q).toNat (gM_M_looks σ0) t = _ ∨ _
    by_cases e : t = (pq_wT σ q).toNat
    · left; rw [e, pq_upd_eq]
    · rw [pq_upd_ne _ _ e]
      rcases h12 t ht with y | ⟨i, hi, y⟩
      · exact Or.inl y
      · by_cases e' : i = q
        · subst e'; exact absurd y.symm e
        · exact Or.inr ⟨i, by omega, y⟩
  · intro t
    show upd (aM_M_seen σ) (pq_wT σ q).toNat (gM_M_looks σ0) t = _ ∨ upd (aM_M_seen σ) (pq_wT σ q).toNat (gM_M_looks σ0) t = _
    by_cases e : t = (pq_wT σ q).toNat
    · right; rw [e, pq_upd_eq]
    · rw [pq_upd_ne _ _ e]; exact h13 t
end RR
