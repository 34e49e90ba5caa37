variable {Z : Prop}
section RM
variable {σ0 : SM} {ty : Int} {N : Nat} {ow : Int32}
def pq_LpR (Z : Prop) (σ0 : SM) (ty : Int) (N : Nat) (ow : Int32) (n : Nat) : Prop :=
  ∀ (m q : Nat) (f : Nat → Int32) (v3 v4 v5 : Int32) (σ : SM), pq_RL Z σ0 σ ty m q f → v3.toInt = m → ((v5 = 0 ∧ m = q + 1) ∨ (v5 = 1 ∧ m = q ∧ (¬ pq_fl σ → pq_HR Z σ0 σ ty m v4.toInt))) →
    5 * pq_un f (gM_M_looks σ0) 500 + pq_sw (aM_M_workStage σ) q + (if v5 = 0 then 1 else 0) < n → pq_Tot (M_M_replaced_L32 N (M_M_replaced_b365 N) n ow v3 v4 v5 σ) (pq_Rp Z σ0 ty)
set_option maxRecDepth 100000 in
theorem pq_rp_end {m q : Nat} {f : Nat → Int32} {v4 : Int32} {σ : SM} (h : pq_RL Z σ0 σ ty m q f) (hr : ¬ pq_fl σ → pq_PP Z σ0 σ ty v4.toInt) : pq_Tot (M_M_replaced_b365 N v4 σ) (pq_Rp Z σ0 ty) := by
  rw [M_M_replaced_b365]
  refine pq_Tot.ite (fun e => pq_Tot.ret ?_) (fun e => pq_Tot.ret ?_)
  · have nf : ¬ pq_fl σ := fun z => z e
    exact ⟨h.1, h.2.1, h.2.2.1, fun z => absurd z nf, fun _ => hr nf, h.2.2.2.2.2.2.2.2.2.2.2.2⟩
  · exact ⟨h.1, h.2.1, h.2.2.1, fun _ => rfl, fun z => absurd e z, h.2.2.2.2.2.2.2.2.2.2.2.2⟩
set_option maxRecDepth 100000 in
theorem pq_v3m {v3 : Int32} {q : Nat} (h : v3.toInt = (q + 1 : Nat)) (hq : q ≤ 20) : (v3 - 1).toInt = q ∧ (v3 - 1).toNatClampNeg = q ∧ (v3 + (-1)).toInt = q ∧ (v3 + 1).toInt = (q + 2 : Nat) ∧ v3.toNatClampNeg = q + 1 := by
  have a : (v3 - 1).toInt = q := by rw [pq_iv_sub (by rw [h, pq_iv_1]; omega) (by rw [h, pq_iv_1]; omega), h, pq_iv_1]; omega
  refine ⟨a, ?_, ?_, ?_, ?_⟩
  · show (v3 - 1).toInt.toNat = q; omega
  · rw [pq_iv_add (by rw [h, pq_iv_m1]; omega) (by rw [h, pq_iv_m1]; omega), h, pq_iv_m1]; omega
  · rw [pq_iv_add (by rw [h, pq_iv_1]; omega) (by rw [h, pq_iv_1]; omega), h, pq_iv_1]; omega
  · show v3.toInt.toNat = q + 1; omega
set_option maxRecDepth 100000 in
theorem pq_rp_up {n q : Nat} (ih : pq_LpR Z σ0 ty N ow n) {f : Nat → Int32} {v3 s0 : Int32} {σ : SM} (h : pq_RL Z σ0 σ ty (q + 1) q f) (h3 : v3.toInt = (q + 1 : Nat)) (hq : q ≤ 20) (hr : ¬ pq_fl σ → pq_PP Z σ0 σ (pq_wT σ q) s0.toInt) (hn : 5 * pq_un f (gM_M_looks σ0) 500 + pq_sw (aM_M_workStage σ) q < n) :
    pq_Tot (M_M_replaced_b108 N (M_M_replaced_L32 N (M_M_replaced_b365 N) n) ow v3 s0 σ) (pq_Rp Z σ0 ty) := by
  rw [M_M_replaced_b108]
  refine pq_Tot.nm (ih q q f (v3 + (-1)) s0 1 σ h.pop (pq_v3m h3 hq).2.2.1 (Or.inr ⟨rfl, rfl, fun z => h.hr (hr z)⟩) ?_)
  rw [if_neg (by decide)]; omega
set_option maxRecDepth 100000 in
theorem pq_innerOf_ok {σ : SM} (hT' : pq_Tb σ) (e : pq_Ex σ0 σ) {t : Int32} (v : pq_vt σ0 t.toInt) : pq_Tot (M_M_innerOf t 0 σ) (fun r τ => τ = σ ∧ r.toInt = pq_chd σ0 t.toInt 0) := by
  rw [M_M_innerOf]
  have hc := pq_ck_vt hT' (e.vt v)
  have k := e.k v
  refine pq_Tot.ite1 hc (pq_Tot.ite (fun e1 => pq_Tot.ite1 rfl (pq_Tot.ite1 hc (pq_Tot.ret ⟨rfl, ?_⟩))) (fun e1 => pq_Tot.ite1 hc (pq_Tot.ite (fun e2 => pq_Tot.ite1 hc (pq_Tot.ret ⟨rfl, ?_⟩)) (fun e2 => pq_Tot.ite1 hc (pq_Tot.ret ⟨rfl, ?_⟩)))))
  · rw [pq_chd, if_neg (by decide), if_pos (Or.inl (by rw [← k]; exact pq_eqI e1))]; exact e.w v
  · rw [pq_chd, if_neg (by decide), if_pos (Or.inr (by rw [← k]; exact pq_eqI e2))]; exact e.w v
  · rw [pq_chd, if_neg (by decide), if_neg (fun z => ?_)]
    · exact e.o v
    · rw [← k] at z
      rcases z with z | z
      · exact e1 (pq_iv_eq.2 z)
      · exact e2 (pq_iv_eq.2 z)
set_option maxRecDepth 100000 in
theorem pq_rp_b93 {n q : Nat} (ih : pq_LpR Z σ0 ty N ow n) (hT : pq_Tb σ0) {f : Nat → Int32} {v3 v4 y4 y5 s0 : Int32} {σ : SM} (h : pq_RL Z σ0 σ ty (q + 1) q f) (h3 : v3.toInt = (q + 1 : Nat)) (hy4 : y4 = v3 - 1) (hy5 : y5.toInt = pq_wT σ q)
    (hr : ¬ pq_fl σ → (s0 = -1 ∧ pq_inn σ0 (pq_wT σ q) ∧ aM_M_seen σ (pq_wT σ q).toNat ≠ gM_M_looks σ0) ∨ (s0 ≠ -1 ∧ pq_PP Z σ0 σ (pq_wT σ q) s0.toInt)) (hn : 5 * pq_un f (gM_M_looks σ0) 500 + pq_sw (aM_M_workStage σ) q < n) :
    pq_Tot (M_M_replaced_b93 N (M_M_replaced_L32 N (M_M_replaced_b365 N) n) ow v3 v4 0 y4 y5 s0 σ) (pq_Rp Z σ0 ty) := by
  have hq : q ≤ 20 := by have := h.m20 hT; omega
  have e3 := pq_v3m h3 hq
  have vq := h.vt (i := q) (by omega)
  rw [M_M_replaced_b93]
  refine pq_Tot.ite (fun e1 => pq_Tot.ite (fun ef => ?_) (fun ef => ?_)) (fun e1 => ?_)
  · have nf : ¬ pq_fl σ := fun z => z ef
    rcases hr nf with ⟨_, hi, hs⟩ | ⟨z, _⟩
    · have c4 : ck y4 64 = true := by rw [hy4]; exact pq_ck_mk (by rw [e3.1]; omega) (by rw [e3.1]; omega)
      have c3 : ck v3 64 = true := pq_ck_mk (by rw [h3]; omega) (by rw [h3]; have := h.m20 hT; omega)
      refine pq_Tot.ite1 c4 (pq_Tot.nm (pq_Tot.bd (pq_innerOf_ok (σ := tM_M_workStage σ (upd (aM_M_workStage σ) y4.toNatClampNeg 0)) h.1 h.2.1 (t := y5) (by rw [hy5]; exact vq)) (fun r τ hr => ?_)))
      obtain ⟨rfl, hx⟩ := hr
      refine pq_Tot.ite1 c3 (pq_Tot.nm (pq_Tot.nm ?_))
      rw [hy5] at hx
      have st := h.start hT hi hs hx
      have e4 : y4.toNatClampNeg = q := by rw [hy4]; exact e3.2.1
      rw [e4, e3.2.2.2.2]
      refine ih (q + 2) (q + 1) _ (v3 + 1) v4 0 _ st.1 e3.2.2.2.1 (Or.inl ⟨rfl, rfl⟩) ?_
      rw [if_pos rfl]
      have u1 := pq_un_upd st.2.1 500 st.2.2
      have s1 : pq_sw (upd (aM_M_workStage σ) q 0) (q + 1) = pq_sw (aM_M_workStage σ) q + 3 := by
        rw [pq_sw, pq_sw_out q (Nat.le_refl _), pq_upd_eq, if_neg (by decide)]
      show 5 * pq_un _ _ 500 + pq_sw (upd (aM_M_workStage σ) q 0) (q + 1) + 1 < n
      rw [s1]; omega
    · exact absurd e1 z
  · exact pq_rp_up ih h h3 hq (fun z => absurd ef (fun y => z y)) hn
  · exact pq_rp_up ih h h3 hq (fun z => by
      rcases hr z with y | y
      · exact absurd y.1 e1
      · exact y.2) hn
set_option maxRecDepth 100000 in
theorem pq_rp_b339 {n q : Nat} (ih : pq_LpR Z σ0 ty N ow n) (hT : pq_Tb σ0) {f : Nat → Int32} {v3 v4 v7 : Int32} {σ : SM} (h : pq_RL Z σ0 σ ty (q + 1) (q + 1) f) (h3 : v3.toInt = (q + 1 : Nat)) (hy5 : v7.toInt = pq_wT σ q) (hr : ¬ pq_fl σ → pq_PP Z σ0 σ (pq_wT σ q) v4.toInt) (hn : 5 * pq_un f (gM_M_looks σ0) 500 + pq_sw (aM_M_workStage σ) (q + 1) < n + 1) :
    pq_Tot (M_M_replaced_b339 N (M_M_replaced_L32 N (M_M_replaced_b365 N) n) ow v3 v4 1 v7 σ) (pq_Rp Z σ0 ty) := by
  have hq : q ≤ 20 := by have := h.m20 hT; omega
  have e3 := pq_v3m h3 hq
  have vq := h.vt (i := q) (by omega)
  have cv : ck v7 500 = true := pq_ck_vt hT (by rw [hy5]; exact vq)
  have e7 : v7.toNatClampNeg = (pq_wT σ q).toNat := by rw [← hy5]; rfl
  rw [M_M_replaced_b339]
  refine pq_Tot.ite1 cv (pq_Tot.nm (pq_Tot.ite1 cv (pq_Tot.nm (pq_Tot.nm ?_))))
  rw [pq_sw] at hn
  have sl : 0 < (if aM_M_workStage σ q = 1 then 1 else 3) := by split <;> decide
  by_cases hf : pq_fl σ
  ·
    obtain ⟨n', rfl⟩ : ∃ n', n = n' + 1 := ⟨n - 1, by omega⟩
    have rp : pq_Rp Z σ0 ty (-1) (tM_M_seen (tM_M_became σ (upd (aM_M_became σ) v7.toNatClampNeg v4)) (upd (aM_M_seen σ) v7.toNatClampNeg (gM_M_looks σ))) := by
      refine ⟨h.1, h.2.1, pq_fr.t (pq_fr.t h.2.2.1 (by decide) _) (by decide) _, fun _ => rfl, fun z => absurd hf z, fun t => ?_⟩
      show upd (aM_M_seen σ) v7.toNatClampNeg (gM_M_looks σ) t = _ ∨ upd (aM_M_seen σ) v7.toNatClampNeg (gM_M_looks σ) t = _
      rw [upd]; split
      · right; exact h.lk
      · exact h.2.2.2.2.2.2.2.2.2.2.2.2 t
    have fin : pq_Tot (M_M_replaced_b365 N v4 (tM_M_seen (tM_M_became σ (upd (aM_M_became σ) v7.toNatClampNeg v4)) (upd (aM_M_seen σ) v7.toNatClampNeg (gM_M_looks σ)))) (pq_Rp Z σ0 ty) := by
      rw [M_M_replaced_b365]
      exact pq_Tot.ite2 hf (pq_Tot.ret rp)
    rw [M_M_replaced_b362, M_M_replaced_L32]
    exact pq_Tot.ite (fun _ => fin) (fun _ => pq_Tot.ite2 hf fin)
  · have d := h.done (hr hf)
    have hr' : pq_HR Z σ0 σ ty q v4.toInt := by
      exact h.hr2 (hr hf)
    rw [e7, h.lk]
    refine ih q q f (v3 + (-1)) v4 1 _ d e3.2.2.1 (Or.inr ⟨rfl, rfl, fun _ => hr'⟩) ?_
    rw [if_neg (by decide)]
    show 5 * pq_un f (gM_M_looks σ0) 500 + pq_sw (aM_M_workStage σ) q + 0 < n
    omega
end RM
