variable {Z : Prop}
set_option maxRecDepth 100000 in
theorem pq_isWidened_ok (a b : Int32) (σ : SM) : pq_Tot (M_M_isWidened a b σ) (fun r τ => τ = σ ∧ (r = 0 ∨ r = 1)) := by
  rw [M_M_isWidened]
  have r0 : pq_Tot (some ((0 : Int32), σ)) (fun r τ => τ = σ ∧ (r = 0 ∨ r = 1)) := pq_Tot.ret ⟨rfl, Or.inl rfl⟩
  have r1 : pq_Tot (some ((1 : Int32), σ)) (fun r τ => τ = σ ∧ (r = 0 ∨ r = 1)) := pq_Tot.ret ⟨rfl, Or.inr rfl⟩
  exact pq_Tot.ite (fun _ => r1) (fun _ => pq_Tot.ite (fun _ => r0) (fun _ => pq_Tot.ite (fun _ => r0) (fun _ => pq_Tot.ite (fun _ => r0) (fun _ => r1))))
section pq_CC
variable {σ : SM} {J N : Nat} {s t : Int32}
set_option maxRecDepth 100000 in
theorem pq_Sq.box {τ : SM} (h : pq_Sq Z σ J 0 τ) (hN : 501 ≤ N) {x : Int32} (v : pq_vt τ x.toInt) (k : pq_kI τ x.toInt.toNat = 5) :
    pq_Tot (M_M_boxOf N x τ) (fun r υ => pq_Sq Z σ J 0 υ ∧ pq_Ex τ υ ∧ (pq_fl τ → pq_fl υ) ∧ (¬ pq_fl υ → pq_vt υ r.toInt ∧ pq_kI υ r.toInt.toNat = 0 ∧ pq_qI υ r.toInt.toNat = 1)) := by
  rw [M_M_boxOf]
  have o := (h.1.ok v).1.2.2.2.2.2.1 k
  have e : (aM_M_one τ x.toNatClampNeg).toInt = pq_oI τ x.toInt.toNat := rfl
  have e1 : (aM_M_one τ x.toNatClampNeg + 1).toInt = pq_oI τ x.toInt.toNat + 1 := by rw [pq_iv_add (by rw [e, pq_iv_1]; omega) (by rw [e, pq_iv_1]; omega), e, pq_iv_1]
  refine pq_Tot.ite1 (pq_ck_vt h.1 v) (pq_Tot.bd (h.plain hN (fun _ => ?_)) (fun r υ hr => pq_Tot.ret hr))
  rw [e1]; have := h.1.1; omega
set_option maxRecDepth 100000 in
theorem pq_comp_b232 {τ : SM} (h : pq_Sq Z σ J 0 τ) (ha : ¬ pq_fl τ → pq_vt τ s.toInt ∧ pq_vt τ t.toInt ∧ (Z → pq_qI τ s.toInt.toNat = 1 ∧ pq_qI τ t.toInt.toNat = 1)) : pq_Tot (M_M_compatible_b232 N s t τ) (pq_Stp Z σ J) := by
  rw [M_M_compatible_b232]
  exact pq_Tot.bd (h.then (by omega) ha) (fun r υ hr => hr.2.1.zb (by omega) hr.1)
set_option maxRecDepth 100000 in
theorem pq_comp_b186 (h : pq_Sq Z σ J 0 σ) (hP : pq_Pb σ) (nf : ¬ pq_fl σ) (hN : 3000 ≤ N) (hJ : J + 41 < 4294967296) (vs : pq_vt σ s.toInt) (v : pq_vt σ t.toInt) (hz : Z → pq_qI σ s.toInt.toNat = 1 ∧ pq_qI σ t.toInt.toNat = 1) : pq_Tot (M_M_compatible_b186 N s t σ) (pq_Stp Z σ (J + 39)) := by
  rw [M_M_compatible_b186]
  have ct := pq_ck_vt h.1 v
  refine pq_Tot.ite1 ct (pq_Tot.ite (fun e => pq_Tot.ite1 ct ?_) (fun _ => pq_comp_b232 (h.le (by omega)) (fun _ => ⟨vs, v, hz⟩)))
  have o := (h.1.ok v).1.2.1 (pq_eqI e)
  refine pq_Tot.bd (h.above hP hN nf vs (c := aM_M_one σ t.toNatClampNeg) ⟨by have := o.1; show 0 ≤ pq_oI σ t.toInt.toNat; omega, o.2.1⟩ hJ) (fun r υ hr => ?_)
  obtain ⟨a1, a2, a3, a4⟩ := hr
  have go : pq_Tot (M_M_compatible_b232 N s t υ) (pq_Stp Z σ (J + 39)) := pq_comp_b232 a1 (fun _ => ⟨a2.vt vs, a2.vt v, fun z => by rw [a2.q vs, a2.q v]; exact hz z⟩)
  refine pq_Tot.ite (fun _ => go) (fun ne => ?_)
  have nf' : ¬ pq_fl υ := fun z => ne (a3 z)
  have q := a4 nf' ne
  refine pq_Tot.ite1 (pq_ck_vt a1.1 q.1) (pq_Tot.ite (fun _ => pq_Tot.nm ?_) (fun _ => go))
  exact (a1.cell (pq_fr.s pq_fr.rf (by decide) _)).ret (by omega) (Or.inr rfl)
set_option maxRecDepth 100000 in
theorem pq_comp_ok (h : pq_Sq Z σ J 0 σ) (hP : pq_Pb σ) (nf : ¬ pq_fl σ) (hN : 3000 ≤ N) (hJ : J + 41 < 4294967296) (vs : pq_vt σ s.toInt) (v : pq_vt σ t.toInt) (hz : Z → pq_qI σ s.toInt.toNat = 1 ∧ pq_qI σ t.toInt.toNat = 1) : pq_Tot (M_M_compatible N s t σ) (pq_Stp Z σ (J + 39)) := by
  have h' : pq_Sq Z σ (J + 39) 0 σ := h.le (by omega)
  have cs := pq_ck_vt h.1 vs
  have ct := pq_ck_vt h.1 v
  have b186 := pq_comp_b186 h hP nf hN hJ vs v hz
  have boxS : ∀ (srt : Int32), pq_kI σ s.toInt.toNat = 5 → pq_Tot (bd (M_M_boxOf N s σ) (fun (r16 : Int32) (σ17 : SM) => (bd (M_M_then srt r16 t σ17) (fun (r18 : Int32) (σ19 : SM) => (if zb r18 = true then some (r18, σ19) else none))))) (pq_Stp Z σ (J + 39)) := fun srt k =>
    pq_Tot.bd (h'.box (by omega) vs k) (fun r υ hr => pq_Tot.bd (hr.1.then (by omega) (fun nf' => ⟨(hr.2.2.2 nf').1, hr.2.1.vt v, fun z => ⟨(hr.2.2.2 nf').2.2, by rw [hr.2.1.q v]; exact (hz z).2⟩⟩)) (fun r' υ' hr' => hr'.2.1.zb (by omega) hr'.1))
  have boxT : ∀ (srt : Int32), pq_kI σ t.toInt.toNat = 5 → pq_Tot (bd (M_M_boxOf N t σ) (fun (r16 : Int32) (σ17 : SM) => (bd (M_M_then srt s r16 σ17) (fun (r18 : Int32) (σ19 : SM) => (if zb r18 = true then some (r18, σ19) else none))))) (pq_Stp Z σ (J + 39)) := fun srt k =>
    pq_Tot.bd (h'.box (by omega) v k) (fun r υ hr => pq_Tot.bd (hr.1.then (by omega) (fun nf' => ⟨hr.2.1.vt vs, (hr.2.2.2 nf').1, fun z => ⟨by rw [hr.2.1.q vs]; exact (hz z).1, (hr.2.2.2 nf').2.2⟩⟩)) (fun r' υ' hr' => hr'.2.1.zb (by omega) hr'.1))
  have b153 : ∀ a b : Int32, (a ≠ 0 → pq_kI σ s.toInt.toNat = 5) → (b ≠ 0 → pq_kI σ t.toInt.toNat = 5) → pq_Tot (M_M_compatible_b153 N s t a b σ) (pq_Stp Z σ (J + 39)) := fun a b ha hb => by
    rw [M_M_compatible_b153]
    exact pq_Tot.ite (fun _ => pq_Tot.ite (fun _ => b186) (fun nb => boxT 3 (hb nb))) (fun na => boxS 0 (ha na))
  have b76 : ∀ a b : Int32, (a ≠ 0 → pq_kI σ s.toInt.toNat = 5) → (b ≠ 0 → pq_kI σ t.toInt.toNat = 5) → pq_Tot (M_M_compatible_b76 N s t a b σ) (pq_Stp Z σ (J + 39)) := fun a b ha hb => by
    rw [M_M_compatible_b76]
    refine pq_Tot.ite (fun _ => pq_Tot.ite (fun _ => b186) (fun nb => pq_Tot.ite1 cs (pq_Tot.ite (fun _ => pq_Tot.ite1 cs (pq_Tot.ite (fun _ => h'.ret (by omega) (Or.inl rfl)) (fun _ => pq_Tot.ite1 cs (pq_Tot.ite (fun _ => h'.ret (by omega) (Or.inl rfl)) (fun _ => pq_Tot.ite1 cs (pq_Tot.ite1 ct ?_)))))) (fun _ => h'.ret (by omega) (Or.inl rfl))))) (fun na => boxS 1 (ha na))
    exact pq_Tot.bd (pq_isWidened_ok _ _ σ) (fun r υ hr => by rw [hr.1]; exact h'.zi (by omega))
  have b31 : ∀ a b : Int32, (a ≠ 0 → pq_kI σ s.toInt.toNat = 5) → (b ≠ 0 → pq_kI σ t.toInt.toNat = 5) → pq_Tot (M_M_compatible_b31 N s t a b σ) (pq_Stp Z σ (J + 39)) := fun a b ha hb => by
    rw [M_M_compatible_b31]
    refine pq_Tot.ite1 cs (pq_Tot.ite (fun _ => b153 a b ha hb) (fun _ => pq_Tot.ite1 ct (pq_Tot.ite (fun _ => b153 a b ha hb) (fun _ => pq_Tot.ite (fun _ => b76 a b ha hb) (fun _ => pq_Tot.ite (fun _ => b76 a b ha hb) (fun _ => pq_Tot.ite1 cs (pq_Tot.ite1 ct ?_)))))))
    refine pq_Tot.bd (pq_isWidened_ok _ _ σ) (fun r υ hr => ?_)
    rw [hr.1]
    exact pq_Tot.ite1 (decide_eq_true hr.2) (h'.ret (by omega) hr.2)
  have b15 : ∀ a : Int32, (a ≠ 0 → pq_kI σ s.toInt.toNat = 5) → pq_Tot (M_M_compatible_b15 N s t a σ) (pq_Stp Z σ (J + 39)) := fun a ha => by
    rw [M_M_compatible_b15]
    exact pq_Tot.ite1 ct (pq_Tot.ite (fun e => b31 a 1 ha (fun _ => pq_eqI e)) (fun _ => b31 a 0 ha (fun z => absurd rfl z)))
  rw [M_M_compatible]
  exact pq_Tot.ite1 cs (pq_Tot.ite (fun e => b15 1 (fun _ => pq_eqI e)) (fun _ => b15 0 (fun z => absurd rfl z)))
set_option maxRecDepth 100000 in
theorem pq_two_bind (h : pq_Sq Z σ J 0 σ) (nf : ¬ pq_fl σ) (hN : 201 ≤ N) (vs : pq_vt σ s.toInt) (v : pq_vt σ t.toInt) (ks : pq_kI σ s.toInt.toNat ≠ 5) (kt : pq_kI σ t.toInt.toNat ≠ 5) (hz : ¬ Z) {a b : Int32} (ha : 0 ≤ a.toInt ∧ a.toInt ≤ 2) (hb : 0 ≤ b.toInt ∧ b.toInt ≤ 2) :
    pq_Tot (if (gM_M_judging σ) = 0 then (if ck s 500 = true then (if (aM_M_kind σ s.toNatClampNeg) = 7 then (bd (M_M_bind N a s t σ) (fun (r1 : Unit) (σ2 : SM) => (if ck t 500 = true then (if (aM_M_kind σ2 t.toNatClampNeg) = 7 then (if (gM_M_full σ2) = 0 then (bd (M_M_bind N b t s σ2) (fun (r3 : Unit) (σ4 : SM) => (some ((1 : Int32), σ4)))) else (some (1, σ2))) else (some (1, σ2))) else none))) else (if ck t 500 = true then (if (aM_M_kind σ t.toNatClampNeg) = 7 then (if (gM_M_full σ) = 0 then (bd (M_M_bind N b t s σ) (fun (r3 : Unit) (σ4 : SM) => (some (1, σ4)))) else (some (1, σ))) else (some (1, σ))) else none)) else none) else (nm (sM_M_metVariable σ 1) (fun (σ5 : SM) => (some (0, σ5)))))
      (fun r τ => ((r = 0 ∨ r = 1) ∧ pq_Sq Z σ J 0 τ) ∧ (r ≠ 0 → ¬ pq_fl τ → pq_kI σ s.toInt.toNat = 7 → pq_Hb τ a.toInt (pq_oI σ s.toInt.toNat) t.toInt)) := by
  have b32 : ∀ τ, pq_Sq Z σ J 0 τ → (¬ pq_fl τ → pq_kI σ s.toInt.toNat = 7 → pq_Hb τ a.toInt (pq_oI σ s.toInt.toNat) t.toInt) → pq_Tot (if ck t 500 = true then (if (aM_M_kind τ t.toNatClampNeg) = 7 then (if (gM_M_full τ) = 0 then (bd (M_M_bind N b t s τ) (fun (r3 : Unit) (σ4 : SM) => (some ((1 : Int32), σ4)))) else (some (1, τ))) else (some (1, τ))) else none) (fun r τ => ((r = 0 ∨ r = 1) ∧ pq_Sq Z σ J 0 τ) ∧ (r ≠ 0 → ¬ pq_fl τ → pq_kI σ s.toInt.toNat = 7 → pq_Hb τ a.toInt (pq_oI σ s.toInt.toNat) t.toInt)) := fun τ q hq => by
    have r1 : pq_Tot (some ((1 : Int32), τ)) (fun r τ => ((r = 0 ∨ r = 1) ∧ pq_Sq Z σ J 0 τ) ∧ (r ≠ 0 → ¬ pq_fl τ → pq_kI σ s.toInt.toNat = 7 → pq_Hb τ a.toInt (pq_oI σ s.toInt.toNat) t.toInt)) := pq_Tot.ret ⟨⟨Or.inr rfl, q⟩, fun _ => hq⟩
    refine pq_Tot.ite1 (pq_ck_vt q.1 (q.e.vt v)) (pq_Tot.ite (fun e => pq_Tot.ite (fun e0 => ?_) (fun _ => r1)) (fun _ => r1))
    refine pq_Tot.bd (pq_bind_ok hN q.1 q.2.2.2.1 hb (q.e.vt v) (pq_eqI e) (q.e.vt vs) (by rw [q.e.k vs]; exact ks)) (fun r υ hr => pq_Tot.ret ⟨⟨Or.inr rfl, q.bind hz hr.1 hr.2.1 hr.2.2.1⟩, fun _ nf' k => ?_⟩)
    exact (hq (fun z => nf' (hr.2.2.2.1 z)) k).bg hr.2.2.1
  refine pq_Tot.ite (fun _ => pq_Tot.ite1 (pq_ck_vt h.1 vs) (pq_Tot.ite (fun e => ?_) (fun e => b32 σ h (fun _ k => absurd (pq_iv_eq.2 (show (aM_M_kind σ s.toNatClampNeg).toInt = (7 : Int32).toInt from k)) e)))) (fun _ => pq_Tot.nm (pq_Tot.ret ⟨⟨Or.inl rfl, h.cell (pq_fr.s pq_fr.rf (by decide) _)⟩, fun z => absurd rfl z⟩))
  refine pq_Tot.bd (pq_bind_ok hN h.1 h.2.2.2.1 ha vs (pq_eqI e) v kt) (fun r υ hr => ?_)
  exact b32 υ (h.bind hz hr.1 hr.2.1 hr.2.2.1) (fun nf' _ => hr.2.2.2.2 nf')
set_option maxRecDepth 100000 in
theorem pq_isBelow_ok (h : pq_Sq Z σ J 0 σ) (nf : ¬ pq_fl σ) (hN : 201 ≤ N) (vs : pq_vt σ s.toInt) (v : pq_vt σ t.toInt) (ks : pq_kI σ s.toInt.toNat ≠ 5) (kt : pq_kI σ t.toInt.toNat ≠ 5) (hz : ¬ Z) : pq_Tot (M_M_isBelow N s t σ) (pq_Stp Z σ J) := by
  refine pq_Tot.mono (Q := fun r τ => ((r = 0 ∨ r = 1) ∧ pq_Sq Z σ J 0 τ) ∧ (r ≠ 0 → ¬ pq_fl τ → pq_kI σ s.toInt.toNat = 7 → pq_Hb τ (1 : Int32).toInt (pq_oI σ s.toInt.toNat) t.toInt)) ?_ (fun _ _ h => ⟨h.1.1, 0, by omega, h.1.2⟩)
  exact pq_two_bind h nf hN vs v ks kt hz (a := 1) (b := 2) (by decide) (by decide)
set_option maxRecDepth 100000 in
theorem pq_isSame_ok (h : pq_Sq Z σ J 0 σ) (nf : ¬ pq_fl σ) (hN : 201 ≤ N) (vs : pq_vt σ s.toInt) (v : pq_vt σ t.toInt) (ks : pq_kI σ s.toInt.toNat ≠ 5) (kt : pq_kI σ t.toInt.toNat ≠ 5) (hz : ¬ Z) : pq_Tot (M_M_isSame N s t σ) (fun r τ => ((r = 0 ∨ r = 1) ∧ pq_Sq Z σ J 0 τ) ∧ (r ≠ 0 → ¬ pq_fl τ → pq_kI σ s.toInt.toNat = 7 → pq_Hb τ 0 (pq_oI σ s.toInt.toNat) t.toInt)) :=
  pq_two_bind h nf hN vs v ks kt hz (a := 0) (b := 0) (by decide) (by decide)
end pq_CC
