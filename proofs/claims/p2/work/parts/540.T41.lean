variable {cc : Int}
set_option maxRecDepth 100000 in
theorem pq_uc_add {P P' : Nat → Prop} {b : Nat} : ∀ n, (∀ x, x < n → P' x → P x ∨ x = b) → pq_uc P' n ≤ pq_uc P n + 1
  | 0, _ => by simp [pq_uc]
  | n + 1, h => by
    rw [pq_uc, pq_uc]
    by_cases e : n = b
    · have := pq_uc_le (P := P) (P' := P') n (fun x hx hp => (h x (by omega) hp).resolve_right (by omega))
      split <;> split <;> omega
    · have := pq_uc_add n (fun x hx => h x (by omega))
      by_cases a : P' n
      · rw [if_pos a, if_pos ((h n (by omega) a).resolve_right e)]; omega
      · rw [if_neg a]; split <;> omega
section VC
variable {N : Nat} {D : Int} {σ : SM}
set_option maxRecDepth 100000 in
theorem pq_variable_go (hN : 501 ≤ N) (h : pq_Wc D cc σ) : pq_Go (D + pq_CC) cc (M_M_variable N σ) := by
  rw [pq_Go, M_M_variable]
  have cn : pq_CC = 8372000 := rfl
  refine pq_Tot.ite (fun _ => pq_Tot.ret (h.le (by omega))) (fun n12 => ?_)
  have va := h.1.2.2.2.2.2.2.2.1
  have ve : (gM_M_variables σ).toInt = pq_vaI σ := rfl
  have v12 : pq_vaI σ ≠ 12 := fun z => n12 (pq_iv_eq.2 z)
  refine pq_Tot.bd (pq_make_ok hN h.1.1 (fun _ => pq_Okk.var ⟨by omega, by omega⟩)) (fun r τ hr => pq_Tot.bd (P := fun _ υ => pq_Wc D cc υ ∧ gM_M_variables υ = gM_M_variables σ) ?_ (fun r3 σ4 h4 => ?_))
  · refine ((pq_made_ok h hr.1 hr.2.1 hr.2.2.1 r).det (Q := fun _ υ => gM_M_variables υ = gM_M_variables σ) ?_)
    rw [M_M_made]
    have e : gM_M_variables (sM_M_full τ 0) = gM_M_variables σ := hr.2.2.1.1 4 (by decide)
    exact pq_Tot.nm (pq_Tot.nm (pq_Tot.ite (fun _ => pq_Tot.ret e) (fun _ => pq_Tot.ret e)))
  · obtain ⟨w, e⟩ := h4
    refine pq_Tot.ite (fun _ => pq_Tot.nm (pq_Tot.ret ?_)) (fun _ => pq_Tot.nm (pq_Tot.ret ?_))
    ·
      have e0 : gM_M_variables σ4 + 0 = gM_M_variables σ4 := by
        rw [pq_iv_eq, pq_iv_add (by rw [e, pq_iv_0]; omega) (by rw [e, pq_iv_0]; omega), pq_iv_0]; omega
      have : sM_M_variables σ4 (gM_M_variables σ4 + 0) = σ4 := by
        rw [e0]
        show (upd σ4.1 4 (σ4.1 4), σ4.2) = σ4
        rw [pq_upd_id rfl]
      rw [this]; exact w.le (by omega)
    · have e1 : (gM_M_variables σ4 + 1).toInt = pq_vaI σ + 1 := by rw [e, pq_iv_add (by rw [ve, pq_iv_1]; omega) (by rw [ve, pq_iv_1]; omega), ve, pq_iv_1]
      have va4 : pq_vaI σ4 = pq_vaI σ := by rw [pq_vaI, e]; rfl
      generalize hτ : sM_M_variables σ4 (gM_M_variables σ4 + 1) = υ
      have f : pq_fr [4] [] σ4 υ := by rw [← hτ]; exact pq_fr.s pq_fr.rf (by decide) _
      have vu : pq_vaI υ = pq_vaI σ4 + 1 := by rw [← hτ, va4]; exact e1
      clear hτ
      have ex := f.ex (by decide)
      have q := pq_frI f
      have bg := pq_BG.fr f (by decide) (by decide) (by decide) (by decide)
      obtain ⟨⟨h1, h2, h3, h4, h5, h6, h7, h8, h9, h10, h11, h12⟩, ⟨K, k1, k2⟩, hcc⟩ := w
      refine ⟨⟨pq_Tb.ex ex.1 ex.2 h1, h2.fr ex.1 f (by decide) (by decide), h3.ex ex.1 bg.1 bg.2, h4.ex ex.1, by rw [pq_fl, show gM_M_full υ = gM_M_full σ4 from f.1 2 (by decide)]; exact h5, by rw [q.2.2.2.2.2.1 (by decide)]; exact h6, by rw [q.2.2.1 (by decide), bg.2]; exact h7, by rw [vu, va4]; omega, by rw [q.2.2.2.1 (by decide)]; exact h9, fun i hi => ?_, fun c hc => ?_, fun z => by rw [vu, va4] at z; omega⟩, ⟨K, k1.fr f (by decide) (by decide), ?_⟩, ex.1.1.trans hcc⟩
      · rw [q.2.2.2.1 (by decide)] at hi
        rw [q.2.2.2.2.2.2.1 (by decide), q.2.2.2.2.2.2.2 (by decide)]
        exact ⟨ex.1.vt (h10 i hi).1, ex.1.vt (h10 i hi).2⟩
      · rw [ex.1.1] at hc
        rw [ex.1.2.1]; exact h11 c hc
      · have us : pq_Us υ ≤ pq_Us σ4 + 1 := pq_uc_add (b := (pq_vaI σ4).toNat) 12 (fun x _ hx => by
          by_cases e : (x : Int) < pq_vaI σ4
          · exact Or.inl ⟨e, fun z => hx.2 (z.g h3 ex.1 bg.1)⟩
          · right; have := hx.1; omega)
        have r : pq_RC * (pq_Us υ : Int) ≤ pq_RC * (pq_Us σ4 : Int) + pq_RC := by
          have := Int.mul_le_mul_of_nonneg_left (show (pq_Us υ : Int) ≤ (pq_Us σ4 : Int) + 1 by omega) (show (0 : Int) ≤ pq_RC by decide)
          rw [Int.mul_add, Int.mul_one] at this; exact this
        have rc : pq_RC = 4399200 := rfl
        have key : (if gM_M_state σ4 = 0 then pq_RC * (pq_Us υ : Int) else 0) ≤ (if gM_M_state σ4 = 0 then pq_RC * (pq_Us σ4 : Int) else 0) + pq_RC := by
          by_cases s : gM_M_state σ4 = 0
          · rw [if_pos s, if_pos s]; exact r
          · rw [if_neg s, if_neg s]; omega
        rw [pq_Ph] at k2 ⊢
        rw [bg.2, q.2.2.1 (by decide), q.2.2.2.2.1 (by decide), vu]
        rw [if_pos (by omega : 1 ≤ pq_vaI σ4 + 1)]
        have : (0 : Int) ≤ (if 1 ≤ pq_vaI σ4 then (3900000 : Int) else 0) := by split <;> omega
        omega
set_option maxRecDepth 100000 in
theorem pq_clear_go (h : pq_Wc D cc σ) : pq_Go (D + pq_CC) cc (M_M_clear σ) := by
  rw [pq_Go, M_M_clear]
  have cn : pq_CC = 8372000 := rfl
  refine pq_Tot.nm (pq_Tot.nm (pq_Tot.nm (pq_Tot.nm (pq_Tot.nm (pq_Tot.nm (pq_Tot.nm (pq_Tot.nm (pq_Tot.ret ?_))))))))
  generalize hτ : sM_M_madeLess _ _ = υ
  have f : pq_fr [4, 10, 16, 17, 18, 19, 20] [] σ υ := by
    rw [← hτ]; exact pq_fr.s (pq_fr.s (pq_fr.s (pq_fr.s (pq_fr.s (pq_fr.s (pq_fr.s pq_fr.rf (by decide) _) (by decide) _) (by decide) _) (by decide) _) (by decide) _) (by decide) _) (by decide) _
  have v0 : pq_vaI υ = 0 := by rw [← hτ]; rfl
  have b0 : pq_bI υ = 0 := by rw [← hτ]; rfl
  have h0 : pq_heI υ = 0 := by rw [← hτ]; rfl
  have t0 : pq_tdI υ = 0 := by rw [← hτ]; rfl
  clear hτ
  have ex := f.ex (by decide)
  have q := pq_frI f
  have pn := pq_Ph_nn h.1
  obtain ⟨⟨h1, h2, h3, h4, h5, h6, h7, h8, h9, h10, h11, h12⟩, ⟨K, k1, k2⟩, hcc⟩ := h
  refine ⟨⟨pq_Tb.ex ex.1 ex.2 h1, h2.fr ex.1 f (by decide) (by decide), ⟨by omega, by omega, fun k hk => by omega⟩, h4.ex ex.1, by rw [pq_fl, show gM_M_full υ = gM_M_full σ from f.1 2 (by decide)]; exact h5, by rw [q.2.2.2.2.2.1 (by decide)]; exact h6, by omega, by omega, by omega, fun i hi => by omega, fun c hc => ?_, fun _ => b0⟩, ⟨K, k1.fr f (by decide) (by decide), ?_⟩, ex.1.1.trans hcc⟩
  · rw [ex.1.1] at hc
    rw [ex.1.2.1]; exact h11 c hc
  · have us : pq_Us υ = 0 := by
      have z : ∀ k, pq_uc (fun _ => False) k = 0 := fun k => by
        induction k with
        | zero => rfl
        | succ k ihk => rw [pq_uc, ihk, if_neg id]
      have : pq_Us υ ≤ pq_uc (fun _ => False) 12 := pq_uc_le 12 (fun x _ hx => by have := hx.1; rw [v0] at this; omega)
      rw [z] at this; omega
    have key : (if gM_M_state υ = 0 then pq_RC * (pq_Us υ : Int) else 0) = 0 := by
      rw [us]; split <;> rfl
    rw [pq_Ph, key, v0, b0, h0]
    show (K : Int) + (8300000 + (if (1 : Int) ≤ 0 then 3900000 else 0) + (if (1 : Int) ≤ 0 then 7500000 else 0) - pq_pr 0 + 0) ≤ D + pq_CC
    rw [if_neg (by omega), if_neg (by omega), pq_pr]
    omega
set_option maxRecDepth 100000 in
theorem pq_declare_go (h : pq_Wc D cc σ) (x : Int32) : pq_Tot (M_M_declare x σ) (fun r τ => pq_Wc D (if 0 ≤ x.toInt ∧ x.toInt ≤ 2 ∧ cc ≠ 40 then cc + 1 else cc) τ ∧ r.toInt = (if 0 ≤ x.toInt ∧ x.toInt ≤ 2 then (if cc = 40 then -3 else cc) else -2)) := by
  rw [M_M_declare]
  have two : (2 : Int32).toInt = 2 := rfl
  have hcc := h.2.2
  have ce : (gM_M_classes σ).toInt = cc := hcc
  refine pq_Tot.ite (fun n => pq_Tot.ret ?_) (fun n0 => pq_Tot.ite (fun l2 => pq_Tot.ite (fun e40 => pq_Tot.ret ?_) (fun n40 => ?_)) (fun n => pq_Tot.ret ?_))
  · rw [pq_iv_lt, pq_iv_0] at n
    rw [if_neg (by omega), if_neg (by omega)]
    exact ⟨h, rfl⟩
  · rw [pq_iv_lt, pq_iv_0] at n0
    rw [pq_iv_le, two] at l2
    have e : cc = 40 := by rw [← ce, e40]; rfl
    rw [if_neg (by omega), if_pos (by omega), if_pos e]
    exact ⟨h, rfl⟩
  · rw [pq_iv_lt, pq_iv_0] at n0
    rw [pq_iv_le, two] at l2
    have ne : cc ≠ 40 := fun z => n40 (pq_iv_eq.2 (by rw [ce, z]; rfl))
    obtain ⟨⟨h1, h2, h3, h4, h5, h6, h7, h8, h9, h10, h11, h12⟩, ⟨K, k1, k2⟩, _⟩ := h
    have c9 := h1.1
    have c40 := h1.2.1
    rw [hcc] at c9 c40
    have e1 : (gM_M_classes σ + 1).toInt = cc + 1 := by rw [pq_iv_add (by rw [ce, pq_iv_1]; omega) (by rw [ce, pq_iv_1]; omega), ce, pq_iv_1]
    have e2 : (gM_M_classes σ + 1 - 1).toInt = cc := by rw [pq_iv_sub (by rw [e1, pq_iv_1]; omega) (by rw [e1, pq_iv_1]; omega), e1, pq_iv_1]; omega
    refine pq_Tot.ite1 (pq_ck_mk (by omega) (by omega)) (pq_Tot.nm (pq_Tot.nm (pq_Tot.ret ?_)))
    rw [if_pos ⟨by omega, by omega, ne⟩, if_pos ⟨by omega, by omega⟩, if_neg ne]
    refine ⟨?_, e2⟩
    generalize hτ : sM_M_classes _ _ = υ
    have f : pq_fr [0] [0] σ υ := by rw [← hτ]; exact pq_fr.s (pq_fr.t pq_fr.rf (by decide) _) (by decide) _
    have cu : pq_cI υ = cc + 1 := by rw [← hτ]; exact e1
    have pu : ∀ c, pq_pI υ c = if c = cc.toNat then x.toInt else pq_pI σ c := fun c => by
      rw [← hτ, ← ce]; show (upd (aM_M_parameters σ) (gM_M_classes σ).toInt.toNat x c).toInt = _
      rw [upd]; split <;> rfl
    clear hτ
    have q := pq_frI f
    have tu : pq_tI υ = pq_tI σ := by show (υ.1 1).toInt = _; rw [f.1 1 (by decide)]; rfl
    have ku : ∀ t, pq_kI υ t = pq_kI σ t := fun t => by show (υ.2.1 3 t).toInt = _; rw [f.2.1 3 (by decide)]; rfl
    have ou : ∀ t, pq_oI υ t = pq_oI σ t := fun t => by show (υ.2.1 4 t).toInt = _; rw [f.2.1 4 (by decide)]; rfl
    have wu : ∀ t, pq_wI υ t = pq_wI σ t := fun t => by show (υ.2.1 5 t).toInt = _; rw [f.2.1 5 (by decide)]; rfl
    have hu : ∀ t, pq_hI υ t = pq_hI σ t := fun t => by show (υ.2.1 6 t).toInt = _; rw [f.2.1 6 (by decide)]; rfl
    have du : ∀ t, pq_dI υ t = pq_dI σ t := fun t => by show (υ.2.1 7 t).toInt = _; rw [f.2.1 7 (by decide)]; rfl
    have qu : ∀ t, pq_qI υ t = pq_qI σ t := fun t => by show (υ.2.1 8 t).toInt = _; rw [f.2.1 8 (by decide)]; rfl
    have vu : ∀ t, pq_vt υ t ↔ pq_vt σ t := fun t => by rw [pq_vt, pq_vt, tu]
    have bg := pq_BG.fr f (by decide) (by decide) (by decide) (by decide)
    have hT : pq_Tb υ := by
      refine ⟨by omega, by omega, by rw [tu]; exact h1.2.2.1, by rw [tu]; exact h1.2.2.2.1, fun t ht => ?_⟩
      rw [tu] at ht
      obtain ⟨⟨o, d⟩, p⟩ := h1.2.2.2.2 t ht
      refine ⟨⟨?_, ?_⟩, ?_⟩
      · rw [ku, ou, wu, hu]
        obtain ⟨o0, o1, o2, o3, o4, o5, o7, o8⟩ := o
        rw [hcc] at o0 o1 o3
        refine ⟨fun e => ?_, fun e => ?_, o2, fun e => ?_, o4, o5, o7, fun e => ?_⟩
        · have := o0 e; omega
        · have y := o1 e
          rw [pu, if_neg (by omega), cu]
          exact ⟨y.1, by omega, y.2.2⟩
        · have y := o3 e
          rw [pu, if_neg (by omega), cu]
          exact ⟨y.1, by omega, y.2.2⟩
        · have y := o8 e
          rw [ku, wu, hu, ku, ku]; exact y
      · rw [ku, ou, wu, hu, du]
        obtain ⟨d1, d2, d3, d4, d5, d6⟩ := d
        refine ⟨d1, d2, fun e => ?_, fun e z => ?_, fun e => ?_, fun e => ?_⟩
        · rw [du, du]; exact d3 e
        · rw [du]; exact d4 e z
        · rw [du]; exact d5 e
        · rw [du]; exact d6 e
      · rw [ku, ou, wu, hu, qu]
        refine p.iff ?_
        simp only [pq_Pk, qu]
    have hP : pq_Pb υ := by
      have a1 : pq_prI υ = pq_prI σ := by funext i; show (υ.2.1 1 i).toInt = _; rw [f.2.1 1 (by decide)]; rfl
      have a2 : pq_pmI υ = pq_pmI σ := by funext i; show (υ.2.1 2 i).toInt = _; rw [f.2.1 2 (by decide)]; rfl
      have a3 : aM_M_upward υ = aM_M_upward σ := by show υ.2.2 0 = _; rw [f.2.2]
      refine ⟨fun c hc => ?_, fun c hc g => ?_, fun c hc k hk => ?_⟩
      · rw [a1, a2, cu]
        obtain ⟨y1, y2, y3, y4⟩ := h2.1 c hc
        refine ⟨y1, y2, fun z => y3 (by rw [hcc]; omega), fun k hk => ?_⟩
        rw [vu, ku, ou]; exact y4 k hk
      · rw [a1, a2, a3]
        simp only [ou]
        exact h2.2.1 c hc g
      · rw [a2] at hk
        rw [a1, qu]; exact h2.2.2 c hc k hk
    refine ⟨⟨hT, hP, ⟨by rw [bg.2]; exact h3.1, by rw [bg.2]; exact h3.2.1, fun k hk => ?_⟩, fun c hc => by rw [pu, if_neg (by omega)]; exact h4 c hc, by rw [pq_fl, show gM_M_full υ = gM_M_full σ from f.1 2 (by decide)]; exact h5, by rw [q.2.2.2.2.2.1 (by decide)]; exact h6, by rw [q.2.2.1 (by decide), bg.2]; exact h7, by rw [q.1 (by decide)]; exact h8, by rw [q.2.2.2.1 (by decide)]; exact h9, fun i hi => ?_, fun c hc => ?_, by rw [q.1 (by decide), bg.2]; exact h12⟩, ⟨K, k1.fr f (by decide) (by decide), ?_⟩, cu⟩
    · rw [bg.2] at hk
      have w := bg.1.2 k hk
      rw [w.1, w.2.1, w.2.2, vu, ku]; exact h3.2.2 k hk
    · rw [q.2.2.2.1 (by decide)] at hi
      rw [q.2.2.2.2.2.2.1 (by decide), q.2.2.2.2.2.2.2 (by decide), vu, vu]; exact h10 i hi
    · rw [pu]
      by_cases e : c = cc.toNat
      · rw [if_pos e]; omega
      · rw [if_neg e]; exact h11 c (by rw [hcc]; omega)
    · have us : pq_Us υ ≤ pq_Us σ := pq_uc_le 12 (fun x _ hx => ⟨by rw [← q.1 (by decide)]; exact hx.1, fun z => hx.2 (by
        obtain ⟨t, hb, hq⟩ := z
        exact ⟨t, hb.bg bg.1, by rw [qu]; exact hq⟩)⟩)
      have r : pq_RC * (pq_Us υ : Int) ≤ pq_RC * (pq_Us σ : Int) := Int.mul_le_mul_of_nonneg_left (by omega) (by decide)
      have key : (if gM_M_state σ = 0 then pq_RC * (pq_Us υ : Int) else 0) ≤ (if gM_M_state σ = 0 then pq_RC * (pq_Us σ : Int) else 0) := by
        by_cases s : gM_M_state σ = 0
        · rw [if_pos s, if_pos s]; exact r
        · rw [if_neg s, if_neg s]; exact Int.le_refl _
      rw [pq_Ph] at k2 ⊢
      rw [bg.2, q.1 (by decide), q.2.2.1 (by decide), q.2.2.2.2.1 (by decide)]
      omega
  · rw [pq_iv_le, two] at n
    rw [if_neg (by omega), if_neg (by omega)]
    exact ⟨h, rfl⟩
end VC
