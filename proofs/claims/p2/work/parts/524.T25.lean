variable {Z : Prop}
set_option maxRecDepth 100000 in
theorem pq_pr_n7 {σ : SM} (hT : pq_Tb σ) {t : Int} (v : pq_vt σ t) (q : pq_qI σ t.toNat = 1) : pq_kI σ t.toNat ≠ 7 := ((hT.pk v).one.1 q).1
set_option maxRecDepth 100000 in
theorem pq_Tb.cls {σ : SM} (hT : pq_Tb σ) {t : Int} (v : pq_vt σ t) (k : pq_kI σ t.toNat = 1) : 0 ≤ pq_oI σ t.toNat ∧ pq_oI σ t.toNat < pq_cI σ := by
  have := (hT.ok v).1.2.1 k; exact ⟨by omega, this.2.1⟩
set_option maxRecDepth 100000 in
theorem pq_Tb.q2 {σ : SM} (hT : pq_Tb σ) {t : Int} (v : pq_vt σ t) (k : pq_kI σ t.toNat = 1) (q : pq_qI σ t.toNat = 1) : pq_qI σ (pq_wI σ t.toNat).toNat = 1 := (((hT.pk v).one.1 q).2.1 k).1
set_option maxRecDepth 100000 in
theorem pq_Tb.q3 {σ : SM} (hT : pq_Tb σ) {t : Int} (v : pq_vt σ t) (k : pq_kI σ t.toNat = 1) (z : 0 ≤ pq_hI σ t.toNat) (q : pq_qI σ t.toNat = 1) : pq_qI σ (pq_hI σ t.toNat).toNat = 1 := (((hT.pk v).one.1 q).2.1 k).2 z
set_option maxRecDepth 100000 in
theorem pq_Tb.o1 {σ : SM} (hT : pq_Tb σ) {t : Int} (v : pq_vt σ t) (k : pq_kI σ t.toNat = 4 ∨ pq_kI σ t.toNat = 8) : pq_vt σ (pq_oI σ t.toNat) ∧ (pq_qI σ t.toNat = 1 → pq_qI σ (pq_oI σ t.toNat).toNat = 1) := by
  have p := hT.p1 v k
  refine ⟨⟨p.1, Int.lt_trans p.2 v.2⟩, fun q => ?_⟩
  rcases k with k | k
  · exact ((hT.pk v).one.1 q).2.2.2.1 k
  · exact ((hT.pk v).one.1 q).2.2.2.2 k
set_option maxRecDepth 100000 in
theorem pq_Tb.w2 {σ : SM} (hT : pq_Tb σ) {t : Int} (v : pq_vt σ t) (k : pq_kI σ t.toNat = 2) (o : 0 < pq_oI σ t.toNat) : pq_vt σ (pq_wI σ t.toNat) ∧ (pq_qI σ t.toNat = 1 → pq_qI σ (pq_wI σ t.toNat).toNat = 1) := by
  have p := hT.p2 v (Or.inr ⟨k, o⟩)
  exact ⟨⟨p.1, Int.lt_trans p.2 v.2⟩, fun q => ((hT.pk v).one.1 q).2.2.1 k o⟩
set_option maxRecDepth 100000 in
theorem pq_Tb.three {σ : SM} (hT : pq_Tb σ) {s t : Int} (vs : pq_vt σ s) (v : pq_vt σ t) (ks : pq_kI σ s.toNat = 1) (k : pq_kI σ t.toNat = 1) (e : pq_oI σ s.toNat = pq_oI σ t.toNat) (n : pq_hI σ t.toNat ≠ -1) : 0 ≤ pq_hI σ s.toNat := by
  have a := ((hT.ok vs).1.2.1 ks).2.2.2.2
  have b := ((hT.ok v).1.2.1 k).2.2.2.2
  rw [e] at a
  rcases a with a | a
  · rcases b with b | b
    · exact absurd b.1 n
    · have := a.2.symm.trans b.2.2; omega
  · exact a.1
section pq_CC
variable {σ : SM} {J N : Nat} {s t : Int32}
set_option maxRecDepth 100000 in
theorem pq_sub_ok (h : pq_Sq Z σ J 0 σ) (hP : pq_Pb σ) (nf : ¬ pq_fl σ) (hN : 3000 ≤ N) (hJ : J + 41 < 4294967296) (vs : pq_vt σ s.toInt) (v : pq_vt σ t.toInt) (hz : Z → pq_qI σ s.toInt.toNat = 1 ∧ pq_qI σ t.toInt.toNat = 1) : pq_Tot (M_M_sub N s t σ) (pq_Stp Z σ (J + 39)) := by
  have h' : pq_Sq Z σ (J + 39) 0 σ := h.le (by omega)
  have cs := pq_ck_vt h.1 vs
  have ct := pq_ck_vt h.1 v
  have r0 : pq_Tot (some ((0 : Int32), σ)) (pq_Stp Z σ (J + 39)) := h'.ret (by omega) (Or.inl rfl)
  have r1 : pq_Tot (some ((1 : Int32), σ)) (pq_Stp Z σ (J + 39)) := h'.ret (by omega) (Or.inr rfl)
  have ks : (aM_M_kind σ s.toNatClampNeg).toInt = pq_kI σ s.toInt.toNat := rfl
  have kt : (aM_M_kind σ t.toNatClampNeg).toInt = pq_kI σ t.toInt.toNat := rfl
  have os : (aM_M_one σ s.toNatClampNeg).toInt = pq_oI σ s.toInt.toNat := rfl
  have ot : (aM_M_one σ t.toNatClampNeg).toInt = pq_oI σ t.toInt.toNat := rfl
  have five : (5 : Int32).toInt = 5 := rfl
  rw [M_M_sub]
  refine pq_Tot.ite (fun _ => r1) (fun _ => pq_Tot.ite1 cs (pq_Tot.ite (fun _ => pq_Tot.ite1 ct (pq_Tot.ite (fun _ => r0) (fun _ => r1))) (fun _ => pq_Tot.ite1 ct (pq_Tot.ite (fun _ => r0) (fun _ => pq_Tot.ite1 cs (pq_Tot.ite (fun _ => r0) (fun s5 => pq_Tot.ite1 ct (pq_Tot.ite (fun _ => r0) (fun t5 => ?_)))))))))
  have s5' : pq_kI σ s.toInt.toNat ≠ 5 := fun z => s5 (pq_iv_eq.2 z)
  have t5' : pq_kI σ t.toInt.toNat ≠ 5 := fun z => t5 (pq_iv_eq.2 z)
  have b89 : ¬ Z → pq_Tot (M_M_sub_b89 N s t σ) (pq_Stp Z σ (J + 39)) := fun nz => by
    rw [M_M_sub_b89]
    exact pq_Tot.bd (pq_isBelow_ok h' nf (by omega) vs v s5' t5' nz) (fun r υ hr => pq_Tot.ite1 (decide_eq_true hr.1) (pq_Tot.ret hr))
  refine pq_Tot.ite1 cs (pq_Tot.ite (fun e => b89 (fun z => pq_pr_n7 h.1 vs (hz z).1 (pq_eqI e))) (fun _ => pq_Tot.ite1 ct (pq_Tot.ite (fun e => b89 (fun z => pq_pr_n7 h.1 v (hz z).2 (pq_eqI e))) (fun _ => ?_))))
  refine pq_Tot.ite1 ct (pq_Tot.ite (fun e0 => pq_Tot.ite1 ct (pq_Tot.ite (fun _ => r1) (fun _ => pq_Tot.ite1 ct ?_))) (fun _ => pq_Tot.ite1 ct (pq_Tot.ite (fun e1 => pq_Tot.ite1 ct ?_) (fun _ => pq_Tot.ite1 ct (pq_Tot.ite (fun e4 => pq_Tot.ite1 cs (pq_Tot.ite (fun f4 => pq_Tot.ite1 cs ?_) (fun _ => r0))) (fun _ => pq_Tot.ite1 ct (pq_Tot.ite (fun e8 => pq_Tot.ite1 ct ?_) (fun _ => r0))))))))
  ·
    exact pq_Tot.bd (h.above hP hN nf vs (c := aM_M_one σ t.toNatClampNeg) ((h.1.ok v).1.1 (pq_eqI e0)) hJ) (fun r υ hr => pq_Tot.ite (fun _ => hr.1.ret (by omega) (Or.inl rfl)) (fun _ => hr.1.ret (by omega) (Or.inr rfl)))
  ·
    have k1 : pq_kI σ t.toInt.toNat = 1 := pq_eqI e1
    refine pq_Tot.bd (h.above hP hN nf vs (c := aM_M_one σ t.toNatClampNeg) (h.1.cls v k1) hJ) (fun r υ hr => pq_Tot.ite (fun _ => hr.1.ret (by omega) (Or.inl rfl)) (fun ne => ?_))
    obtain ⟨a1, a2, a3, a4⟩ := hr
    have nf' : ¬ pq_fl υ := fun z => ne (a3 z)
    obtain ⟨q1, q2, q3, q4⟩ := a4 nf' ne
    have cr := pq_ck_vt a1.1 q1
    have vt' := a2.vt v
    have ct' := pq_ck_vt a1.1 vt'
    have k1' : pq_kI υ t.toInt.toNat = 1 := by rw [a2.k v]; exact k1
    refine pq_Tot.ite1 cr (pq_Tot.ite (fun kr => pq_Tot.ite1 cr (pq_Tot.ite1 ct' ?_)) (fun _ => a1.ret (by omega) (Or.inl rfl)))
    have kr' : pq_kI υ r.toInt.toNat = 1 := pq_eqI kr
    have qt : Z → pq_qI υ t.toInt.toNat = 1 := fun z => by rw [a2.q v]; exact (hz z).2
    have qr : Z → pq_qI υ r.toInt.toNat = 1 := fun z => q4 (hz z).1
    refine pq_Tot.bd (a1.then (by omega) (fun _ => ⟨a1.1.w q1 kr', a1.1.w vt' k1', fun z => ⟨a1.1.q2 q1 kr' (qr z), a1.1.q2 vt' k1' (qt z)⟩⟩)) (fun r2 υ2 hr2 => ?_)
    obtain ⟨_, b1, b2⟩ := hr2
    have ex2 := (b2.ex (by decide)).1
    have v2 := ex2.vt vt'
    have w2 := ex2.vt q1
    have ct2 := pq_ck_vt b1.1 v2
    refine pq_Tot.ite1 ct2 (pq_Tot.ite (fun _ => b1.ret (by omega) (Or.inr rfl)) (fun n3 => pq_Tot.ite1 (pq_ck_vt b1.1 w2) (pq_Tot.ite1 ct2 ?_)))
    have k2 : pq_kI υ2 t.toInt.toNat = 1 := by rw [ex2.k vt']; exact k1'
    have kr2 : pq_kI υ2 r.toInt.toNat = 1 := by rw [ex2.k q1]; exact kr'
    have n3' : pq_hI υ2 t.toInt.toNat ≠ -1 := fun z => n3 (pq_iv_eq.2 z)
    have h3 := b1.1.hn v2 k2 n3'
    have eo : pq_oI υ2 r.toInt.toNat = pq_oI υ2 t.toInt.toNat := by
      rw [ex2.o q1, ex2.o vt', q3, a2.o v]; rfl
    have h4 := b1.1.three w2 v2 kr2 k2 eo n3'
    refine pq_Tot.bd (b1.then (by omega) (fun _ => ⟨b1.1.h w2 kr2 h4, b1.1.h v2 k2 h3, fun z => ⟨b1.1.q3 w2 kr2 h4 (by rw [ex2.q q1]; exact qr z), b1.1.q3 v2 k2 h3 (by rw [ex2.q vt']; exact qt z)⟩⟩)) (fun r3 υ3 hr3 => hr3.2.1.zi (by omega))
  ·
    have o1 := h.1.o1 vs (Or.inl (pq_eqI f4))
    have o2 := h.1.o1 v (Or.inl (pq_eqI e4))
    have b281 : pq_Tot (M_M_sub_b281 N s t σ) (pq_Stp Z σ (J + 39)) := by
      rw [M_M_sub_b281, M_M_sub_b286]
      exact pq_Tot.ite2 (by decide) (pq_Tot.ite1 cs (pq_Tot.ite1 ct (pq_Tot.ite (fun _ => r1) (fun _ => r0))))
    refine pq_Tot.ite1 (pq_ck_vt h.1 o1.1) (pq_Tot.ite (fun _ => b281) (fun _ => pq_Tot.ite1 ct (pq_Tot.ite1 (pq_ck_vt h.1 o2.1) (pq_Tot.ite (fun _ => b281) (fun _ => ?_)))))
    rw [M_M_sub_b286]
    exact pq_Tot.ite1 rfl (pq_Tot.ite1 cs (pq_Tot.ite1 ct (pq_Tot.bd (h'.then (by omega) (fun _ => ⟨o1.1, o2.1, fun z => ⟨o1.2 (hz z).1, o2.2 (hz z).2⟩⟩)) (fun r υ hr => hr.2.1.zb (by omega) hr.1))))
  ·
    have k8 : pq_kI σ t.toInt.toNat = 8 := pq_eqI e8
    have cc := pq_cw_ok h.1 v k8
    have step : ∀ x : Int32, x.toInt = pq_cw σ t.toInt → pq_Tot (M_M_sub_b377 N s x σ) (pq_Stp Z σ (J + 39)) := fun x hx => by
      rw [M_M_sub_b377]
      have vx : pq_vt σ x.toInt := by rw [hx]; exact cc.2.2.1
      have cx := pq_ck_vt h.1 vx
      refine pq_Tot.ite1 cx (pq_Tot.ite (fun e2 => pq_Tot.ite1 cx ?_) (fun _ => r0))
      have o2 : pq_oI σ x.toInt.toNat = 2 := pq_eqI e2
      have w := h.1.w2 vx (by rw [hx]; exact cc.2.2.2.1) (by omega)
      refine pq_Tot.bd (h'.then (by omega) (fun _ => ⟨vs, w.1, fun z => ⟨(hz z).1, w.2 (by rw [hx]; exact cc.2.2.2.2.2 (hz z).2)⟩⟩)) (fun r υ hr => hr.2.1.zi (by omega))
    have wt : (aM_M_two σ t.toNatClampNeg).toInt = pq_wI σ t.toInt.toNat := rfl
    have co := pq_ck_vt h.1 (show pq_vt σ (aM_M_one σ t.toNatClampNeg).toInt from cc.1)
    refine pq_Tot.ite (fun e0 => pq_Tot.ite1 ct (pq_Tot.ite1 co (step _ ?_))) (fun e0 => pq_Tot.ite1 ct (pq_Tot.ite1 co (step _ ?_)))
    · rw [pq_cw, if_pos (by rw [← wt, e0]; rfl)]; rfl
    · rw [pq_cw, if_neg (fun z => e0 (pq_iv_eq.2 (by rw [wt, z]; rfl)))]; rfl
set_option maxRecDepth 100000 in
theorem pq_contained_ok (h : pq_Sq Z σ J 0 σ) (nf : ¬ pq_fl σ) (hN : 501 ≤ N) (vs : pq_vt σ s.toInt) (v : pq_vt σ t.toInt) (hz : Z → pq_qI σ s.toInt.toNat = 1 ∧ pq_qI σ t.toInt.toNat = 1) : pq_Tot (M_M_contained N s t σ) (pq_Stp Z σ J) := by
  have cs := pq_ck_vt h.1 vs
  have ct := pq_ck_vt h.1 v
  have r0 : pq_Tot (some ((0 : Int32), σ)) (pq_Stp Z σ J) := h.ret (by omega) (Or.inl rfl)
  have r1 : pq_Tot (some ((1 : Int32), σ)) (pq_Stp Z σ J) := h.ret (by omega) (Or.inr rfl)
  have b136 : ∀ (τ : SM) (a b c : Int32), pq_Sq Z σ J 0 τ → (¬ pq_fl τ → pq_vt τ a.toInt ∧ pq_vt τ b.toInt ∧ (Z → pq_qI τ a.toInt.toNat = 1 ∧ pq_qI τ b.toInt.toNat = 1)) → pq_Tot (M_M_contained_b136 N b a c τ) (pq_Stp Z σ J) := fun τ a b c q ha => by
    rw [M_M_contained_b136]
    exact pq_Tot.bd (q.then (by omega) ha) (fun r υ hr => hr.2.1.zb (by omega) hr.1)
  have c0 : ∀ τ : SM, pq_Sq Z σ J 0 τ → 0 ≤ (0 : Int32).toInt ∧ (0 : Int32).toInt < pq_cI τ := fun τ q => by rw [pq_iv_0]; have := q.1.1; omega
  have os : (aM_M_one σ s.toNatClampNeg).toInt = pq_oI σ s.toInt.toNat := rfl
  have ot : (aM_M_one σ t.toNatClampNeg).toInt = pq_oI σ t.toInt.toNat := rfl
  have main : ∀ w : Int32, (w ≠ 0 → pq_kI σ s.toInt.toNat = 2) → pq_Tot (M_M_contained_b15 N s t w σ) (pq_Stp Z σ J) := fun w hw => by
    rw [M_M_contained_b15]
    refine pq_Tot.ite1 ct (pq_Tot.ite (fun e2 => pq_Tot.ite1 ct (pq_Tot.nm (pq_Tot.ite1 ct (pq_Tot.ite (fun _ => r1) (fun n0 => ?_))))) (fun _ => pq_Tot.ite (fun _ => ?_) (fun _ => r0)))
    · have k2 : pq_kI σ t.toInt.toNat = 2 := pq_eqI e2
      have ow := (h.1.ok v).1.2.2.1 k2
      have n0' : pq_oI σ t.toInt.toNat ≠ 0 := fun z => n0 (pq_iv_eq.2 z)
      have y := h.1.w2 v k2 (by omega)
      have b102 : pq_Tot (M_M_contained_b102 N s w (aM_M_two σ t.toNatClampNeg) σ) (pq_Stp Z σ J) := by
        rw [M_M_contained_b102]
        refine pq_Tot.ite (fun _ => b136 σ _ _ _ h (fun _ => ⟨vs, y.1, fun z => ⟨(hz z).1, y.2 (hz z).2⟩⟩)) (fun nw => pq_Tot.ite1 cs (pq_Tot.ite (fun e1 => pq_Tot.ite1 cs ?_) (fun _ => ?_)))
        · have o1 : pq_oI σ s.toInt.toNat = 1 := pq_eqI e1
          have x := h.1.w2 vs (hw nw) (by omega)
          exact b136 σ _ _ _ h (fun _ => ⟨x.1, y.1, fun z => ⟨x.2 (hz z).1, y.2 (hz z).2⟩⟩)
        · refine pq_Tot.bd (h.plain hN (fun _ => c0 σ h)) (fun r υ hr => b136 υ _ _ _ hr.1 (fun nf' => ⟨(hr.2.2.2 nf').1, hr.2.1.vt y.1, fun z => ⟨(hr.2.2.2 nf').2.2, ?_⟩⟩))
          exact (hr.2.1.q y.1).trans (y.2 (hz z).2)
      refine pq_Tot.ite1 ct (pq_Tot.ite (fun _ => pq_Tot.ite (fun _ => b102) (fun nw => pq_Tot.ite1 cs (pq_Tot.ite (fun _ => ?_) (fun _ => b102)))) (fun _ => pq_Tot.ite (fun _ => ?_) (fun nw => pq_Tot.ite1 cs (pq_Tot.ite (fun e2' => pq_Tot.ite1 cs ?_) (fun _ => r0)))))
      · refine pq_Tot.bd (h.plain hN (fun _ => c0 σ h)) (fun r υ hr => pq_Tot.bd (hr.1.then (by omega) (fun nf' => ⟨(hr.2.2.2 nf').1, hr.2.1.vt y.1, fun z => ⟨(hr.2.2.2 nf').2.2, (hr.2.1.q y.1).trans (y.2 (hz z).2)⟩⟩)) (fun r' υ' hr' => hr'.2.1.zb (by omega) hr'.1))
      · exact pq_Tot.bd (h.then (by omega) (fun _ => ⟨y.1, vs, fun z => ⟨y.2 (hz z).2, (hz z).1⟩⟩)) (fun r υ hr => hr.2.1.zb (by omega) hr.1)
      · have o2 : pq_oI σ s.toInt.toNat = 2 := pq_eqI e2'
        have x := h.1.w2 vs (hw nw) (by omega)
        exact pq_Tot.bd (h.then (by omega) (fun _ => ⟨y.1, x.1, fun z => ⟨y.2 (hz z).2, x.2 (hz z).1⟩⟩)) (fun r υ hr => hr.2.1.zi (by omega))
    · exact pq_Tot.bd (h.then (by omega) (fun _ => ⟨vs, v, hz⟩)) (fun r υ hr => hr.2.1.zi (by omega))
  rw [M_M_contained]
  exact pq_Tot.ite1 cs (pq_Tot.ite (fun e => main 1 (fun _ => pq_eqI e)) (fun _ => main 0 (fun z => absurd rfl z)))
set_option maxRecDepth 100000 in
theorem pq_equal_ok (h : pq_Sq Z σ J 0 σ) (nf : ¬ pq_fl σ) (hN : 501 ≤ N) (vs : pq_vt σ s.toInt) (v : pq_vt σ t.toInt) (hz : Z → pq_qI σ s.toInt.toNat = 1 ∧ pq_qI σ t.toInt.toNat = 1) :
    pq_Tot (M_M_equal N s t σ) (fun r τ => pq_Stp Z σ J r τ ∧ (s ≠ t → r ≠ 0 → ¬ pq_fl τ → pq_kI σ s.toInt.toNat = 7 → pq_Hb τ 0 (pq_oI σ s.toInt.toNat) t.toInt ∧ pq_nI τ = 0)) := by
  have cs := pq_ck_vt h.1 vs
  have ct := pq_ck_vt h.1 v
  have lift : ∀ {F : Option (Int32 × SM)}, pq_kI σ s.toInt.toNat ≠ 7 → pq_Tot F (pq_Stp Z σ J) → pq_Tot F (fun r τ => pq_Stp Z σ J r τ ∧ (s ≠ t → r ≠ 0 → ¬ pq_fl τ → pq_kI σ s.toInt.toNat = 7 → pq_Hb τ 0 (pq_oI σ s.toInt.toNat) t.toInt ∧ pq_nI τ = 0)) := fun n7 hF => hF.mono (fun r τ hr => ⟨hr, fun _ _ _ z => absurd z n7⟩)
  have q0 : pq_Tot (some ((0 : Int32), σ)) (fun r τ => pq_Stp Z σ J r τ ∧ (s ≠ t → r ≠ 0 → ¬ pq_fl τ → pq_kI σ s.toInt.toNat = 7 → pq_Hb τ 0 (pq_oI σ s.toInt.toNat) t.toInt ∧ pq_nI τ = 0)) := pq_Tot.ret ⟨⟨Or.inl rfl, 0, by omega, h⟩, fun _ z => absurd rfl z⟩
  have r0 : pq_Tot (some ((0 : Int32), σ)) (pq_Stp Z σ J) := h.ret (by omega) (Or.inl rfl)
  have ks : (aM_M_kind σ s.toNatClampNeg).toInt = pq_kI σ s.toInt.toNat := rfl
  have kt : (aM_M_kind σ t.toNatClampNeg).toInt = pq_kI σ t.toInt.toNat := rfl
  have b27 : pq_Tot (M_M_equal_b27 N s t σ) (fun r τ => pq_Stp Z σ J r τ ∧ (s ≠ t → r ≠ 0 → ¬ pq_fl τ → pq_kI σ s.toInt.toNat = 7 → pq_Hb τ 0 (pq_oI σ s.toInt.toNat) t.toInt ∧ pq_nI τ = 0)) := by
    rw [M_M_equal_b27]
    refine pq_Tot.ite1 cs (pq_Tot.nm (pq_Tot.ite (fun _ => q0) (fun _ => pq_Tot.ite (fun _ => q0) (fun s5 => pq_Tot.ite1 ct (pq_Tot.ite (fun _ => q0) (fun _ => pq_Tot.ite1 ct (pq_Tot.ite (fun _ => q0) (fun t5 => ?_))))))))
    have s5' : pq_kI σ s.toInt.toNat ≠ 5 := fun z => s5 (pq_iv_eq.2 z)
    have t5' : pq_kI σ t.toInt.toNat ≠ 5 := fun z => t5 (pq_iv_eq.2 z)
    have b85 : ¬ Z → pq_Tot (M_M_equal_b85 N s t σ) (fun r τ => pq_Stp Z σ J r τ ∧ (s ≠ t → r ≠ 0 → ¬ pq_fl τ → pq_kI σ s.toInt.toNat = 7 → pq_Hb τ 0 (pq_oI σ s.toInt.toNat) t.toInt ∧ pq_nI τ = 0)) := fun nz => by
      rw [M_M_equal_b85]
      refine pq_Tot.bd (pq_isSame_ok h nf (by omega) vs v s5' t5' nz) (fun r υ hr => pq_Tot.ite1 (decide_eq_true hr.1.1) (pq_Tot.ret ⟨⟨hr.1.1, 0, by omega, hr.1.2⟩, fun _ a b c => ⟨hr.2 a b c, hr.1.2.2.2.2.2.2.2.2.1⟩⟩))
    refine pq_Tot.ite (fun e => b85 (fun z => pq_pr_n7 h.1 vs (hz z).1 (pq_eqI e))) (fun n7 => pq_Tot.ite1 ct (pq_Tot.ite (fun e => b85 (fun z => pq_pr_n7 h.1 v (hz z).2 (pq_eqI e))) (fun _ => pq_Tot.ite1 ct (pq_Tot.ite (fun ek => lift (fun z => n7 (pq_iv_eq.2 z)) ?_) (fun _ => q0)))))
    have ek' : pq_kI σ s.toInt.toNat = pq_kI σ t.toInt.toNat := congrArg Int32.toInt ek
    have b205 : (pq_kI σ s.toInt.toNat = 4 ∨ pq_kI σ s.toInt.toNat = 8) → pq_Tot (M_M_equal_b205 N s t σ) (pq_Stp Z σ J) := fun k => by
      rw [M_M_equal_b205]
      have o1 := h.1.o1 vs k
      have o2 := h.1.o1 v (by rw [← ek']; exact k)
      exact pq_Tot.ite1 cs (pq_Tot.ite1 ct (pq_Tot.bd (h.then (by omega) (fun _ => ⟨o1.1, o2.1, fun z => ⟨o1.2 (hz z).1, o2.2 (hz z).2⟩⟩)) (fun r υ hr => hr.2.1.zb (by omega) hr.1)))
    have b223 : pq_Tot (M_M_equal_b223 N s t (aM_M_kind σ s.toNatClampNeg) σ) (pq_Stp Z σ J) := by
      rw [M_M_equal_b223]
      refine pq_Tot.ite (fun e2 => pq_Tot.ite1 cs (pq_Tot.ite1 ct (pq_Tot.ite (fun eo => pq_Tot.ite1 cs (pq_Tot.ite (fun _ => r0) (fun np => pq_Tot.ite1 cs (pq_Tot.ite1 ct ?_)))) (fun _ => r0)))) (fun _ => r0)
      have k2 : pq_kI σ s.toInt.toNat = 2 := pq_eqI e2
      have np' : 0 < pq_oI σ s.toInt.toNat := by
        rw [pq_iv_le, pq_iv_0] at np
        show 0 < (aM_M_one σ s.toNatClampNeg).toInt
        omega
      have eo' : pq_oI σ s.toInt.toNat = pq_oI σ t.toInt.toNat := congrArg Int32.toInt eo
      have x := h.1.w2 vs k2 np'
      have y := h.1.w2 v (by rw [← ek']; exact k2) (by omega)
      exact pq_Tot.bd (h.then (by omega) (fun _ => ⟨x.1, y.1, fun z => ⟨x.2 (hz z).1, y.2 (hz z).2⟩⟩)) (fun r υ hr => hr.2.1.zi (by omega))
    have b179 : pq_Tot (M_M_equal_b179 N s t (aM_M_kind σ s.toNatClampNeg) σ) (pq_Stp Z σ J) := by
      rw [M_M_equal_b179]
      exact pq_Tot.ite (fun e => b205 (Or.inl (pq_eqI e))) (fun _ => pq_Tot.ite (fun e => pq_Tot.ite1 cs (pq_Tot.ite1 ct (pq_Tot.ite (fun _ => b205 (Or.inr (pq_eqI e))) (fun _ => b223)))) (fun _ => b223))
    refine pq_Tot.ite (fun e1 => pq_Tot.ite1 cs (pq_Tot.ite1 ct (pq_Tot.ite (fun eo => pq_Tot.ite1 cs (pq_Tot.ite1 ct ?_)) (fun _ => b179)))) (fun _ => b179)
    have k1 : pq_kI σ s.toInt.toNat = 1 := pq_eqI e1
    have k1' : pq_kI σ t.toInt.toNat = 1 := by rw [← ek']; exact k1
    have eo' : pq_oI σ s.toInt.toNat = pq_oI σ t.toInt.toNat := congrArg Int32.toInt eo
    refine pq_Tot.bd (h.then (by omega) (fun _ => ⟨h.1.w vs k1, h.1.w v k1', fun z => ⟨h.1.q2 vs k1 (hz z).1, h.1.q2 v k1' (hz z).2⟩⟩)) (fun r2 υ2 hr2 => ?_)
    obtain ⟨_, b1, b2⟩ := hr2
    have ex2 := (b2.ex (by decide)).1
    have v2 := ex2.vt v
    have w2 := ex2.vt vs
    have ct2 := pq_ck_vt b1.1 v2
    have cs2 := pq_ck_vt b1.1 w2
    refine pq_Tot.ite1 cs2 (pq_Tot.ite (fun _ => b1.ret (by omega) (Or.inr rfl)) (fun n3 => pq_Tot.ite1 cs2 (pq_Tot.ite1 ct2 ?_)))
    have k2 : pq_kI υ2 t.toInt.toNat = 1 := by rw [ex2.k v]; exact k1'
    have kr2 : pq_kI υ2 s.toInt.toNat = 1 := by rw [ex2.k vs]; exact k1
    have n3' : pq_hI υ2 s.toInt.toNat ≠ -1 := fun z => n3 (pq_iv_eq.2 z)
    have h3 := b1.1.hn w2 kr2 n3'
    have eo2 : pq_oI υ2 t.toInt.toNat = pq_oI υ2 s.toInt.toNat := by rw [ex2.o v, ex2.o vs, eo']
    have h4 := b1.1.three v2 w2 k2 kr2 eo2 n3'
    exact pq_Tot.bd (b1.then (by omega) (fun _ => ⟨b1.1.h w2 kr2 h3, b1.1.h v2 k2 h4, fun z => ⟨b1.1.q3 w2 kr2 h3 (by rw [ex2.q vs]; exact (hz z).1), b1.1.q3 v2 k2 h4 (by rw [ex2.q v]; exact (hz z).2)⟩⟩)) (fun r3 υ3 hr3 => hr3.2.1.zi (by omega))
  rw [M_M_equal]
  refine pq_Tot.ite (fun e => pq_Tot.ret ⟨⟨Or.inr rfl, 0, by omega, h⟩, fun z => absurd e z⟩) (fun _ => pq_Tot.ite1 cs (pq_Tot.ite (fun _ => b27) (fun _ => pq_Tot.ite1 ct (pq_Tot.ite (fun _ => b27) (fun _ => q0)))))
set_option maxRecDepth 100000 in
theorem pq_step_ok (h : pq_Sq Z σ J 0 σ) (hP : pq_Pb σ) (nf : ¬ pq_fl σ) (hN : 3000 ≤ N) (hJ : J + 41 < 4294967296) (vs : pq_vt σ s.toInt) (v : pq_vt σ t.toInt) (hz : Z → pq_qI σ s.toInt.toNat = 1 ∧ pq_qI σ t.toInt.toNat = 1) (x : Int32) : pq_Tot (M_M_step N x s t σ) (pq_Stp Z σ (J + 39)) := by
  rw [M_M_step]
  have h' : pq_Sq Z σ (J + 39) 0 σ := h.le (by omega)
  refine pq_Tot.ite (fun _ => pq_Tot.bd (pq_comp_ok h hP nf hN hJ vs v hz) (fun r υ hr => pq_Tot.ite1 (decide_eq_true hr.1) (pq_Tot.ret hr))) (fun _ => ?_)
  refine pq_Tot.ite (fun _ => pq_Tot.bd (pq_sub_ok h hP nf hN hJ vs v hz) (fun r υ hr => pq_Tot.ite1 (decide_eq_true hr.1) (pq_Tot.ret hr))) (fun _ => ?_)
  refine pq_Tot.ite (fun _ => pq_Tot.bd (pq_contained_ok h' nf (by omega) vs v hz) (fun r υ hr => pq_Tot.ite1 (decide_eq_true hr.1) (pq_Tot.ret hr))) (fun _ => ?_)
  exact pq_Tot.bd (pq_equal_ok h' nf (by omega) vs v hz) (fun r υ hr => pq_Tot.ite1 (decide_eq_true hr.1.1) (pq_Tot.ret hr.1))
end pq_CC
