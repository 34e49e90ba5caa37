variable {Z : Prop}
section RM
variable {σ0 : SM} {ty : Int} {N : Nat} {ow : Int32}
set_option maxRecDepth 100000 in
theorem pq_PM.kI {k a b c r : Int} {τ : SM} (h : pq_PM k a b c r τ) : pq_kI τ r.toNat = k := h.1
set_option maxRecDepth 100000 in
theorem pq_rp_b219 {n q : Nat} (hN : 501 ≤ N) (ih : pq_LpR Z σ0 ty N ow n) (hT : pq_Tb σ0) {f : Nat → Int32} {v3 v4 y4 v7 : Int32} {σ : SM} (h : pq_RL Z σ0 σ ty (q + 1) (q + 1) f) (h3 : v3.toInt = (q + 1 : Nat)) (hy4 : y4.toNatClampNeg = q) (c4 : ck y4 64 = true) (hy5 : v7.toInt = pq_wT σ q) (hr : pq_PP Z σ0 σ (pq_chd σ0 (pq_wT σ q) (pq_wS σ q)) v4.toInt)
    (hs : pq_wS σ q ≠ 1 → pq_kI σ0 (pq_wT σ q).toNat = 1 → pq_hI σ0 (pq_wT σ q).toNat = -1) (hn : 5 * pq_un f (gM_M_looks σ0) 500 + pq_sw (aM_M_workStage σ) (q + 1) < n + 1) :
    pq_Tot (M_M_replaced_b219 N (M_M_replaced_L32 N (M_M_replaced_b365 N) n) ow v3 v4 1 y4 v7 σ) (pq_Rp Z σ0 ty) := by
  have vq := h.vt (i := q) (by omega)
  have v7v : pq_vt σ0 v7.toInt := by rw [hy5]; exact vq
  have cv : ck v7 500 = true := pq_ck_vt hT v7v
  have e7 : v7.toNatClampNeg = (pq_wT σ q).toNat := by rw [← hy5]; rfl
  have o := hT.ok vq
  have k7 : (aM_M_kind σ v7.toNatClampNeg).toInt = pq_kI σ0 (pq_wT σ q).toNat := by rw [e7]; exact h.e.k vq
  have o7 : (aM_M_one σ v7.toNatClampNeg).toInt = pq_oI σ0 (pq_wT σ q).toNat := by rw [e7]; exact h.e.o vq
  have w7 : (aM_M_two σ v7.toNatClampNeg).toInt = pq_wI σ0 (pq_wT σ q).toNat := by rw [e7]; exact h.e.w vq
  have st := h.2.2.2.2.2.2.1 q (by omega)
  have go : ∀ (r : Int32) (τ : SM) (P : Int → SM → Prop), pq_Mk σ pq_LM pq_AM P r τ → (¬ pq_fl τ → pq_PP Z σ0 τ (pq_wT σ q) r.toInt) → pq_Tot (M_M_replaced_b339 N (M_M_replaced_L32 N (M_M_replaced_b365 N) n) ow v3 r 1 v7 τ) (pq_Rp Z σ0 ty) := by
    intro r τ P hm hp
    have g := h.grow hm.1 hm.2.1 hm.2.2.1
    have wt : aM_M_workType τ = aM_M_workType σ := hm.2.2.1.2.1 12 (by decide)
    have ws : aM_M_workStage τ = aM_M_workStage σ := hm.2.2.1.2.1 13 (by decide)
    refine pq_rp_b339 ih hT g h3 (by rw [pq_wT, wt]; exact hy5) (by rw [pq_wT, wt]; exact hp) (by rw [ws]; exact hn)
  rw [M_M_replaced_b219]
  refine pq_Tot.ite1 cv (pq_Tot.ite (fun e1 => pq_Tot.ite1 c4 (pq_Tot.ite (fun es => ?_) (fun es => ?_))) (fun n1 => pq_Tot.ite1 cv (pq_Tot.ite (fun e2 => pq_Tot.ite1 cv ?_) (fun n2 => ?_))))
  ·
    have k1 : pq_kI σ0 (pq_wT σ q).toNat = 1 := by rw [← k7]; exact pq_eqI e1
    rw [hy4] at es
    rcases st.2.1 with z | z
    · exact absurd (z.symm.trans es) (by decide)
    · obtain ⟨_, _, z3, z4⟩ := z
      have es' : pq_wS σ q = 1 := es
      rw [es', pq_chd, if_pos rfl] at hr
      have ok := o.1.2.1 k1
      have pa : pq_pI σ0 (pq_oI σ0 (pq_wT σ q).toNat).toNat = 2 := by
        rcases ok.2.2.2.2 with y | y
        · omega
        · exact y.2.2
      have f4 : (aM_M_workFirst σ y4.toNatClampNeg).toInt = pq_wF σ q := by rw [hy4]
      refine pq_Tot.ite1 cv (pq_Tot.ite1 c4 (pq_Tot.bd (pq_make_ok hN h.1 (fun _ => ?_)) (fun r τ hm => go r τ _ hm (fun nf => ?_))))
      · refine ⟨fun e => absurd e (by decide), fun _ => ?_, fun e => absurd e (by decide), fun e => absurd e (by decide), fun e => absurd e (by decide), fun e => absurd e (by decide), fun e => absurd e (by decide), fun e => absurd e (by decide)⟩
        rw [o7, f4, h.e.1, h.e.2.1]
        exact ⟨ok.1, ok.2.1, z4.1.1, z4.1.2, Or.inr ⟨hr.1.1, hr.1.2, pa⟩⟩
      · have q := hm.2.2.2.2 nf
        obtain ⟨p1, p2, p3, p4⟩ := q.2.2
        rw [o7] at p2
        rw [f4] at p3
        refine ⟨q.2.1, fun e => by rw [k1] at e; omega, fun _ => ⟨p1, p2, fun z => ?_, fun z => ⟨by rw [p4]; exact hr.1.1, fun y => ?_⟩⟩, fun e => by rw [k1] at e; omega, fun z b => ?_⟩
        · rw [p3, hm.2.1.k z4.1]; exact z4.2.1 z
        · rw [p4, hm.2.1.k hr.1]; exact hr.2.1 y
        · refine (hm.1.pk q.2.1).one.2 ?_
          rw [p1, p3, p4]
          have b' := ((hT.pk vq).one.1 b).2.1 k1
          refine ⟨by decide, fun _ => ⟨?_, fun _ => ?_⟩, fun e => absurd e (by decide), fun e => absurd e (by decide), fun e => absurd e (by decide)⟩
          · rw [hm.2.1.q z4.1]; exact z4.2.2.2.2 z b'.1
          · rw [hm.2.1.q hr.1]; exact hr.2.2.2.2 z (b'.2 z3)
  ·
    have k1 : pq_kI σ0 (pq_wT σ q).toNat = 1 := by rw [← k7]; exact pq_eqI e1
    rw [hy4] at es
    have es' : pq_wS σ q ≠ 1 := es
    rw [pq_chd, if_neg es', if_pos (Or.inl k1)] at hr
    have hm1 := hs es' k1
    have ok := o.1.2.1 k1
    have pa : pq_pI σ0 (pq_oI σ0 (pq_wT σ q).toNat).toNat = 1 := by
      rcases ok.2.2.2.2 with y | y
      · exact y.2
      · omega
    refine pq_Tot.ite1 cv (pq_Tot.bd (pq_make_ok hN h.1 (fun _ => ?_)) (fun r τ hm => go r τ _ hm (fun nf => ?_)))
    · refine ⟨fun e => absurd e (by decide), fun _ => ?_, fun e => absurd e (by decide), fun e => absurd e (by decide), fun e => absurd e (by decide), fun e => absurd e (by decide), fun e => absurd e (by decide), fun e => absurd e (by decide)⟩
      rw [o7, h.e.1, h.e.2.1]
      exact ⟨ok.1, ok.2.1, hr.1.1, hr.1.2, Or.inl ⟨rfl, pa⟩⟩
    · have q := hm.2.2.2.2 nf
      obtain ⟨p1, p2, p3, p4⟩ := q.2.2
      rw [o7] at p2
      refine ⟨q.2.1, fun e => by rw [k1] at e; omega, fun _ => ⟨p1, p2, fun z => ?_, fun z => by omega⟩, fun e => by rw [k1] at e; omega, fun z b => ?_⟩
      · rw [p3, hm.2.1.k hr.1]; exact hr.2.1 z
      · refine (hm.1.pk q.2.1).one.2 ?_
        rw [p1, p3, p4]
        have b' := ((hT.pk vq).one.1 b).2.1 k1
        refine ⟨by decide, fun _ => ⟨?_, fun e => absurd e (by decide)⟩, fun e => absurd e (by decide), fun e => absurd e (by decide), fun e => absurd e (by decide)⟩
        rw [hm.2.1.q hr.1]; exact hr.2.2.2.2 z b'.1
  ·
    have k2 : pq_kI σ0 (pq_wT σ q).toNat = 2 := by rw [← k7]; exact pq_eqI e2
    have es' : pq_wS σ q ≠ 1 := fun z => by
      rcases st.2.1 with y | y
      · rw [z] at y; exact absurd y (by decide)
      · rw [k2] at y; exact absurd y.2.1 (by decide)
    rw [pq_chd, if_neg es', if_pos (Or.inr k2)] at hr
    have ok := o.1.2.2.1 k2
    refine pq_Tot.bd (pq_make_ok hN h.1 (fun _ => ?_)) (fun r τ hm => go r τ _ hm (fun nf => ?_))
    · refine ⟨fun e => absurd e (by decide), fun e => absurd e (by decide), fun _ => ?_, fun e => absurd e (by decide), fun e => absurd e (by decide), fun e => absurd e (by decide), fun e => absurd e (by decide), fun e => absurd e (by decide)⟩
      rw [o7]
      exact ⟨ok.1, ok.2.1, fun _ => hr.1⟩
    · have q := hm.2.2.2.2 nf
      obtain ⟨p1, p2, p3, p4⟩ := q.2.2
      refine ⟨q.2.1, fun _ => p1, fun e => by rw [k2] at e; omega, fun e => by rw [k2] at e; omega, fun z b => ?_⟩
      refine (hm.1.pk q.2.1).one.2 ?_
      rw [o7] at p2
      rw [p1, p2, p3]
      have b' := ((hT.pk vq).one.1 b).2.2.1 k2
      refine ⟨by decide, fun e => absurd e (by decide), fun _ y => ?_, fun e => absurd e (by decide), fun e => absurd e (by decide)⟩
      rw [hm.2.1.q hr.1]; exact hr.2.2.2.2 z (b' y)
  ·
    have n1' : pq_kI σ0 (pq_wT σ q).toNat ≠ 1 := fun z => n1 (pq_iv_eq.2 (by rw [k7, z]; rfl))
    have n2' : pq_kI σ0 (pq_wT σ q).toNat ≠ 2 := fun z => n2 (pq_iv_eq.2 (by rw [k7, z]; rfl))
    have es' : pq_wS σ q ≠ 1 := fun z => by
      rcases st.2.1 with y | y
      · rw [z] at y; exact absurd y (by decide)
      · exact n1' y.2.1
    rw [pq_chd, if_neg es', if_neg (fun z => z.elim n1' n2')] at hr
    have k48 : pq_kI σ0 (pq_wT σ q).toNat = 4 ∨ pq_kI σ0 (pq_wT σ q).toNat = 8 := by
      rcases st.1 with e | e | e | e
      · exact absurd e n1'
      · exact Or.inl e
      · exact Or.inr e
      · exact absurd e.1 n2'
    refine pq_Tot.ite1 cv (pq_Tot.ite1 cv (pq_Tot.bd (pq_make_ok hN h.1 (fun _ => ?_)) (fun r τ hm => go r τ _ hm (fun nf => ?_))))
    · rw [k7, w7]
      refine ⟨fun e => by omega, fun e => by omega, fun e => by omega, fun e => by omega, fun _ => hr.1, fun e => by omega, fun e => by omega, fun e => ?_⟩
      have ok := o.1.2.2.2.2.2.2.2 e
      have p := hr.2.2.1 ok.2.2.1
      refine ⟨hr.1.1, hr.1.2, p.1, ?_⟩
      rcases ok.2.2.2 with y | y
      · exact Or.inl ⟨y.1, p.2.2.1 y.2⟩
      · exact Or.inr ⟨y.1, (p.2.2.2 y.2.1).1, (p.2.2.2 y.2.1).2 y.2.2⟩
    · have q := hm.2.2.2.2 nf
      refine ⟨q.2.1, fun e => absurd e n2', fun e => absurd e n1', fun e => by omega, fun z b => ?_⟩
      obtain ⟨p1, p2, p3, p4⟩ := q.2.2
      refine (hm.1.pk q.2.1).one.2 ?_
      rw [k7] at p1
      rw [p1, p2]
      have b' := (hT.pk vq).one.1 b
      have x1 : pq_qI τ v4.toInt.toNat = 1 := by
        rw [hm.2.1.q hr.1]
        refine hr.2.2.2.2 z ?_
        rcases k48 with e | e
        · exact b'.2.2.2.1 e
        · exact b'.2.2.2.2 e
      exact ⟨by omega, fun e => absurd e n1', fun e => absurd e n2', fun _ => x1, fun _ => x1⟩
end RM
