variable {Z : Prop}
abbrev pq_LS : List Nat := [1, 2, 5, 6, 12, 13, 15, 16]
abbrev pq_AS : List Nat := [3, 4, 5, 6, 7, 8, 12, 13, 14, 16, 17, 18, 19, 20, 25, 26, 27, 28, 29, 30, 31]
def pq_nI (σ : SM) : Int := (gM_M_nexts σ).toInt
def pq_nlI (σ : SM) (i : Nat) : Int := (aM_M_nextLeft σ i).toInt
def pq_nrI (σ : SM) (i : Nat) : Int := (aM_M_nextRight σ i).toInt
def pq_Sq (Z : Prop) (σ : SM) (J n : Nat) (τ : SM) : Prop :=
  pq_Tb τ ∧ pq_Ex σ τ ∧ pq_fr pq_LS pq_AS σ τ ∧ pq_Bd τ ∧ pq_BG σ τ ∧ (Z → pq_bI τ = pq_bI σ) ∧ (∃ K', K' ≤ J ∧ pq_Sn K' τ) ∧ pq_nI τ = n ∧ (¬ pq_fl τ → ∀ i : Nat, i < n → pq_vt τ (pq_nlI τ i) ∧ pq_vt τ (pq_nrI τ i) ∧ (Z → pq_qI τ (pq_nlI τ i).toNat = 1 ∧ pq_qI τ (pq_nrI τ i).toNat = 1))
def pq_Stp (Z : Prop) (σ : SM) (J : Nat) (r : Int32) (τ : SM) : Prop := (r = 0 ∨ r = 1) ∧ ∃ n : Nat, n ≤ 2 ∧ pq_Sq Z σ J n τ
section SS
variable {σ τ : SM} {J n N : Nat}
set_option maxRecDepth 100000 in
theorem pq_Sq.start (hT : pq_Tb σ) (hB : pq_Bd σ) (hK : ∃ K', K' ≤ J ∧ pq_Sn K' σ) (h0 : pq_nI σ = 0) : pq_Sq Z σ J 0 σ :=
  ⟨hT, pq_Ex.rf, pq_fr.rf, hB, pq_BG.rf, fun _ => rfl, hK, h0, fun _ i hi => absurd hi (Nat.not_lt_zero _)⟩
set_option maxRecDepth 100000 in
theorem pq_Sq.tb (h : pq_Sq Z σ J n τ) : pq_Tb τ := h.1
set_option maxRecDepth 100000 in
theorem pq_Sq.e (h : pq_Sq Z σ J n τ) : pq_Ex σ τ := h.2.1
set_option maxRecDepth 100000 in
theorem pq_Sq.f (h : pq_Sq Z σ J n τ) : pq_fr pq_LS pq_AS σ τ := h.2.2.1
set_option maxRecDepth 100000 in
theorem pq_Sq.pb (h : pq_Sq Z σ J n τ) (hP : pq_Pb σ) : pq_Pb τ := hP.fr h.e h.f (by decide) (by decide)
set_option maxRecDepth 100000 in
theorem pq_Sq.le (h : pq_Sq Z σ J n τ) {J' : Nat} (hJ : J ≤ J') : pq_Sq Z σ J' n τ := by
  obtain ⟨a, b, c, d, e, f, ⟨K, k1, k2⟩, g⟩ := h
  exact ⟨a, b, c, d, e, f, ⟨K, by omega, k2⟩, g⟩
set_option maxRecDepth 100000 in
theorem pq_Sq.ret (h : pq_Sq Z σ J n τ) (hn : n ≤ 2) {r : Int32} (hr : r = 0 ∨ r = 1) : pq_Tot (some (r, τ)) (pq_Stp Z σ J) := pq_Tot.ret ⟨hr, n, hn, h⟩
set_option maxRecDepth 100000 in
theorem pq_Sq.zb (h : pq_Sq Z σ J n τ) (hn : n ≤ 2) {r : Int32} (hr : r = 1) : pq_Tot (if zb r = true then some (r, τ) else none) (pq_Stp Z σ J) := by
  subst hr; exact pq_Tot.ite1 (by decide) (h.ret hn (Or.inr rfl))
set_option maxRecDepth 100000 in
theorem pq_Sq.zi (h : pq_Sq Z σ J n τ) (hn : n ≤ 2) {r : Int32} : pq_Tot (if r = 0 then some (0, τ) else some (1, τ)) (pq_Stp Z σ J) :=
  pq_Tot.ite (fun _ => h.ret hn (Or.inl rfl)) (fun _ => h.ret hn (Or.inr rfl))
set_option maxRecDepth 100000 in
theorem pq_Sq.cell (h : pq_Sq Z σ J 0 τ) {υ : SM} (f : pq_fr [12, 13] [] τ υ) : pq_Sq Z σ J 0 υ := by
  obtain ⟨a, b, c, d, e, g, ⟨K, k1, k2⟩, i, j⟩ := h
  have ex := f.ex (by decide)
  have bg := pq_BG.fr f (by decide) (by decide) (by decide) (by decide)
  refine ⟨pq_Tb.ex ex.1 ex.2 a, b.tr ex.1, c.tr (f.up (by decide) (by decide)), d.ex ex.1 bg.1 bg.2, e.tr bg.1, fun z => by rw [bg.2]; exact g z, ⟨K, k1, k2.fr f (by decide) (by decide)⟩, ?_, fun _ i hi => absurd hi (Nat.not_lt_zero _)⟩
  show (υ.1 15).toInt = _
  rw [f.1 15 (by decide)]; exact i
set_option maxRecDepth 100000 in
theorem pq_Sq.then (h : pq_Sq Z σ J n τ) (hn : n < 2) {s a b : Int32} (ha : ¬ pq_fl τ → pq_vt τ a.toInt ∧ pq_vt τ b.toInt ∧ (Z → pq_qI τ a.toInt.toNat = 1 ∧ pq_qI τ b.toInt.toNat = 1)) :
    pq_Tot (M_M_then s a b τ) (fun r υ => r = 1 ∧ pq_Sq Z σ J (n + 1) υ ∧ pq_fr [15] [25, 26, 27] τ υ) := by
  obtain ⟨h1, h2, h3, h4, h5, h6, ⟨K, k1, k2⟩, h8, h9⟩ := h
  rw [M_M_then]
  have nt : (gM_M_nexts τ).toInt = n := h8
  have nn : (gM_M_nexts τ).toNatClampNeg = n := by show (gM_M_nexts τ).toInt.toNat = n; rw [nt]; rfl
  have c2 : ck (gM_M_nexts τ) 2 = true := pq_ck_mk (by omega) (by omega)
  have n1 : (gM_M_nexts τ + 1).toInt = (n + 1 : Nat) := by rw [pq_iv_add (by rw [nt, pq_iv_1]; omega) (by rw [nt, pq_iv_1]; omega), nt, pq_iv_1]; omega
  refine pq_Tot.ite1 c2 (pq_Tot.nm (pq_Tot.ite1 c2 (pq_Tot.nm (pq_Tot.ite1 c2 (pq_Tot.nm (pq_Tot.nm (pq_Tot.ret ?_)))))))
  generalize hυ : sM_M_nexts _ _ = υ
  have f : pq_fr [15] [25, 26, 27] τ υ := by
    rw [← hυ]
    exact pq_fr.s (pq_fr.t (pq_fr.t (pq_fr.t pq_fr.rf (by decide) _) (by decide) _) (by decide) _) (by decide) _
  have ex := f.ex (by decide)
  have bg := pq_BG.fr f (by decide) (by decide) (by decide) (by decide)
  refine ⟨rfl, ⟨pq_Tb.ex ex.1 ex.2 h1, h2.tr ex.1, h3.tr (f.up (by decide) (by decide)), h4.ex ex.1 bg.1 bg.2, h5.tr bg.1, fun z => by rw [bg.2]; exact h6 z, ⟨K, k1, k2.fr f (by decide) (by decide)⟩, by rw [← hυ]; exact n1, fun nf i hi => ?_⟩, f⟩
  have nf' : ¬ pq_fl τ := by rw [pq_fl, show gM_M_full υ = gM_M_full τ from f.1 2 (by decide)] at nf; exact nf
  have l1 : pq_nlI υ i = if i = n then a.toInt else pq_nlI τ i := by
    rw [← hυ]; show (upd (aM_M_nextLeft τ) (gM_M_nexts τ).toNatClampNeg a i).toInt = _
    rw [nn, upd]; split <;> rfl
  have r1 : pq_nrI υ i = if i = n then b.toInt else pq_nrI τ i := by
    rw [← hυ]; show (upd (aM_M_nextRight τ) (gM_M_nexts τ).toNatClampNeg b i).toInt = _
    rw [nn, upd]; split <;> rfl
  rw [l1, r1]
  by_cases e : i = n
  · rw [if_pos e, if_pos e]
    have q := ha nf'
    rw [ex.1.q q.1, ex.1.q q.2.1]
    exact ⟨ex.1.vt q.1, ex.1.vt q.2.1, q.2.2⟩
  · rw [if_neg e, if_neg e]
    have q := h9 nf' i (by omega)
    rw [ex.1.q q.1, ex.1.q q.2.1]
    exact ⟨ex.1.vt q.1, ex.1.vt q.2.1, q.2.2⟩
set_option maxRecDepth 100000 in
theorem pq_Sq.mk (h : pq_Sq Z σ J 0 τ) {υ : SM} (hT : pq_Tb υ) (e : pq_Ex τ υ) {L A : List Nat} (f : pq_fr L A τ υ) (hL : ∀ i ∈ L, i ∈ pq_LS) (hA : ∀ i ∈ A, i ∈ pq_AS) (h15 : 15 ∉ L) (h16 : 16 ∉ L) (h28 : 28 ∉ A) (h29 : 29 ∉ A) (h30 : 30 ∉ A) {J' : Nat} (hK : ∃ K', K' ≤ J' ∧ pq_Sn K' υ) : pq_Sq Z σ J' 0 υ := by
  obtain ⟨h1, h2, h3, h4, h5, h6, _, h8, h9⟩ := h
  have bg := pq_BG.fr f h16 h28 h29 h30
  refine ⟨hT, h2.tr e, h3.tr (f.up hL hA), h4.ex e bg.1 bg.2, h5.tr bg.1, fun z => by rw [bg.2]; exact h6 z, hK, ?_, fun _ i hi => absurd hi (Nat.not_lt_zero _)⟩
  show (υ.1 15).toInt = _
  rw [f.1 15 h15]; exact h8
set_option maxRecDepth 100000 in
theorem pq_Sq.plain (h : pq_Sq Z σ J 0 τ) (hN : 501 ≤ N) {c : Int32} (hc : ¬ pq_fl τ → 0 ≤ c.toInt ∧ c.toInt < pq_cI τ) :
    pq_Tot (M_M_plainOf N c τ) (fun r υ => pq_Sq Z σ J 0 υ ∧ pq_Ex τ υ ∧ (pq_fl τ → pq_fl υ) ∧ (¬ pq_fl υ → pq_vt υ r.toInt ∧ pq_kI υ r.toInt.toNat = 0 ∧ pq_qI υ r.toInt.toNat = 1)) := by
  refine (pq_plainOf_ok hN h.1 hc).mono (fun r υ hr => ?_)
  obtain ⟨K, k1, k2⟩ := h.2.2.2.2.2.2.1
  refine ⟨h.mk hr.1 hr.2.1 hr.2.2.1 (by decide) (by decide) (by decide) (by decide) (by decide) (by decide) (by decide) ⟨K, k1, k2.fr hr.2.2.1 (by decide) (by decide)⟩, hr.2.1, fun z => ?_, fun nf => ?_⟩
  · exact Classical.byContradiction (fun w => (hr.2.2.2.2 w).1 z)
  · have m := hr.2.2.2.2 nf
    exact ⟨m.2.1, m.2.2.1, pq_plain_q hr.1 m.2.1 m.2.2.1⟩
set_option maxRecDepth 100000 in
theorem pq_Sq.above (h : pq_Sq Z σ J 0 τ) (hP : pq_Pb σ) (hN : 3000 ≤ N) (nf : ¬ pq_fl τ) {a c : Int32} (va : pq_vt τ a.toInt) (hc : 0 ≤ c.toInt ∧ c.toInt < pq_cI τ) (hJ : J + 41 < 4294967296) :
    pq_Tot (M_M_aboveOf N a c τ) (fun r υ => pq_Sq Z σ (J + 39) 0 υ ∧ pq_Ex τ υ ∧ (pq_fl υ → r = -1) ∧ (¬ pq_fl υ → r ≠ -1 → pq_vt υ r.toInt ∧ (pq_kI υ r.toInt.toNat = 0 ∨ pq_kI υ r.toInt.toNat = 1) ∧ pq_oI υ r.toInt.toNat = c.toInt ∧ (pq_qI τ a.toInt.toNat = 1 → pq_qI υ r.toInt.toNat = 1))) := by
  obtain ⟨K, k1, k2⟩ := h.2.2.2.2.2.2.1
  have eg : c.toInt = (c.toInt.toNat : Nat) := by omega
  refine (pq_aboveOf_ok hN h.1 (h.pb hP) nf va eg (by omega) k2 (by omega)).mono (fun r υ hr => ?_)
  obtain ⟨a1, a2, a3, ⟨K', a4, a5⟩, a6, a7⟩ := hr
  refine ⟨h.mk a1 a2 a3 (by decide) (by decide) (by decide) (by decide) (by decide) (by decide) (by decide) ⟨K', by omega, a5⟩, a2, a6, fun nf ne => ?_⟩
  have q := a7 nf
  by_cases w : pq_fnd τ a.toInt c.toInt.toNat
  · have q := q.1 w
    exact ⟨q.1, q.2.1, by omega, q.2.2.2⟩
  · exact absurd (q.2 w) ne
set_option maxRecDepth 100000 in
theorem pq_Sq.bind (h : pq_Sq Z σ J 0 τ) (hz : ¬ Z) {υ : SM} (f : pq_fr [2, 16] [28, 29, 30, 31] τ υ) (hB : pq_Bd υ) (hG : pq_BG τ υ) : pq_Sq Z σ J 0 υ := by
  obtain ⟨h1, h2, h3, h4, h5, h6, ⟨K, k1, k2⟩, h8, h9⟩ := h
  have ex := f.ex (by decide)
  refine ⟨pq_Tb.ex ex.1 ex.2 h1, h2.tr ex.1, h3.tr (f.up (by decide) (by decide)), hB, h5.tr hG, fun z => absurd z hz, ⟨K, k1, k2.fr f (by decide) (by decide)⟩, ?_, fun _ i hi => absurd hi (Nat.not_lt_zero _)⟩
  show (υ.1 15).toInt = _
  rw [f.1 15 (by decide)]; exact h8
end SS
