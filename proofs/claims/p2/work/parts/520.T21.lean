def pq_Jn (σ0 σ : SM) (td : Nat) (z : Int) : Prop := aM_M_seen σ z.toNat = gM_M_looks σ0 ∨ pq_In σ td z
def pq_Cd (G : Nat → Prop) (σ0 σ : SM) (td : Nat) : Prop := ∀ t : Nat, (t : Int) < pq_tI σ0 → aM_M_seen σ t = gM_M_looks σ0 → G t ∧ pq_P1 σ0 t (pq_Jn σ0 σ td) ∧ pq_P2 σ0 t (pq_Jn σ0 σ td) ∧ pq_P3 σ0 t (pq_Jn σ0 σ td)
set_option maxRecDepth 100000 in
theorem pq_Jn.step {σ0 σ τ σ' : SM} {td td' : Nat} {y z : Int} (hy : (aM_M_todo σ td).toInt = y) (e1 : aM_M_todo τ = aM_M_todo σ) (e2 : aM_M_seen τ = upd (aM_M_seen σ) y.toNat (gM_M_looks σ0)) (g : pq_Gw τ σ' td td') (h : pq_Jn σ0 σ (td + 1) z) : pq_Jn σ0 σ' td' z := by
  have sy : ∀ t, aM_M_seen σ' t = if t = y.toNat then gM_M_looks σ0 else aM_M_seen σ t := fun t => by rw [g.1, e2]; rfl
  rcases h with h | ⟨i, hi, h⟩
  · left; rw [sy]; split
    · rfl
    · exact h
  · by_cases e : i = td
    · left; rw [sy, if_pos (by rw [← h, e, hy])]
    · right; exact g.2 z ⟨i, by omega, by rw [e1]; exact h⟩
set_option maxRecDepth 100000 in
theorem pq_Cd.step {G : Nat → Prop} {σ0 σ τ σ' : SM} {td td' : Nat} {y : Int} (h : pq_Cd G σ0 σ (td + 1)) (v : pq_vt σ0 y) (hy : (aM_M_todo σ td).toInt = y) (e1 : aM_M_todo τ = aM_M_todo σ) (e2 : aM_M_seen τ = upd (aM_M_seen σ) y.toNat (gM_M_looks σ0)) (g : pq_Gw τ σ' td td')
    (hg : aM_M_seen σ y.toNat = gM_M_looks σ0 ∨ (G y.toNat ∧ pq_P1 σ0 y (pq_In σ' td') ∧ pq_P2 σ0 y (pq_In σ' td') ∧ pq_P3 σ0 y (pq_In σ' td'))) : pq_Cd G σ0 σ' td' := by
  intro t ht hs
  rw [g.1, e2, upd] at hs
  have old : aM_M_seen σ t = gM_M_looks σ0 → G t ∧ pq_P1 σ0 t (pq_Jn σ0 σ' td') ∧ pq_P2 σ0 t (pq_Jn σ0 σ' td') ∧ pq_P3 σ0 t (pq_Jn σ0 σ' td') := fun s => by
    obtain ⟨a, b, c, d⟩ := h t ht s
    exact ⟨a, fun z => (b z).step hy e1 e2 g, fun z => (c z).step hy e1 e2 g, fun z w => (d z w).step hy e1 e2 g⟩
  by_cases e : t = y.toNat
  · rcases hg with hg | ⟨a, b, c, d⟩
    · exact old (by rw [e]; exact hg)
    · rw [e]
      have ey : ((y.toNat : Nat) : Int).toNat = y.toNat := rfl
      exact ⟨a, fun z => Or.inr (b z), fun z => Or.inr (c z), fun z w => Or.inr (d z w)⟩
  · rw [if_neg e] at hs; exact old hs
def pq_Oc (σ : SM) (x t : Int) : Prop := ∀ P : Int → Prop, (∀ t : Int, pq_kI σ t.toNat = 7 → pq_oI σ t.toNat = x → P t) → (∀ t : Int, (pq_kI σ t.toNat = 4 ∨ pq_kI σ t.toNat = 8) → P (pq_oI σ t.toNat) → P t) → (∀ t : Int, (pq_kI σ t.toNat = 1 ∨ pq_kI σ t.toNat = 2 ∧ 0 < pq_oI σ t.toNat) → P (pq_wI σ t.toNat) → P t) → (∀ t : Int, pq_kI σ t.toNat = 1 → pq_hI σ t.toNat ≠ -1 → P (pq_hI σ t.toNat) → P t) → P t
set_option maxRecDepth 100000 in
theorem pq_Oc.here {σ : SM} {x t : Int} (a : pq_kI σ t.toNat = 7) (b : pq_oI σ t.toNat = x) : pq_Oc σ x t := fun _ p1 _ _ _ => p1 t a b
set_option maxRecDepth 100000 in
theorem pq_Oc.one {σ : SM} {x t : Int} (a : pq_kI σ t.toNat = 4 ∨ pq_kI σ t.toNat = 8) (h : pq_Oc σ x (pq_oI σ t.toNat)) : pq_Oc σ x t := fun P p1 p2 p3 p4 => p2 t a (h P p1 p2 p3 p4)
set_option maxRecDepth 100000 in
theorem pq_Oc.two {σ : SM} {x t : Int} (a : pq_kI σ t.toNat = 1 ∨ pq_kI σ t.toNat = 2 ∧ 0 < pq_oI σ t.toNat) (h : pq_Oc σ x (pq_wI σ t.toNat)) : pq_Oc σ x t := fun P p1 p2 p3 p4 => p3 t a (h P p1 p2 p3 p4)
set_option maxRecDepth 100000 in
theorem pq_Oc.three {σ : SM} {x t : Int} (a : pq_kI σ t.toNat = 1) (b : pq_hI σ t.toNat ≠ -1) (h : pq_Oc σ x (pq_hI σ t.toNat)) : pq_Oc σ x t := fun P p1 p2 p3 p4 => p4 t a b (h P p1 p2 p3 p4)
set_option maxRecDepth 100000 in
theorem pq_Tb.p1 {σ : SM} (h : pq_Tb σ) {t : Int} (v : pq_vt σ t) (k : pq_kI σ t.toNat = 4 ∨ pq_kI σ t.toNat = 8) : 0 ≤ pq_oI σ t.toNat ∧ pq_oI σ t.toNat < t := by
  have o := (h.ok v).1
  have e : ((t.toNat : Nat) : Int) = t := by have := v.1; omega
  rw [e] at o
  rcases k with k | k
  · exact o.2.2.2.2.1 k
  · have := o.2.2.2.2.2.2.2 k; exact ⟨this.1, this.2.1⟩
set_option maxRecDepth 100000 in
theorem pq_Tb.p2 {σ : SM} (h : pq_Tb σ) {t : Int} (v : pq_vt σ t) (k : pq_kI σ t.toNat = 1 ∨ pq_kI σ t.toNat = 2 ∧ 0 < pq_oI σ t.toNat) : 0 ≤ pq_wI σ t.toNat ∧ pq_wI σ t.toNat < t := by
  have o := (h.ok v).1
  have e : ((t.toNat : Nat) : Int) = t := by have := v.1; omega
  rw [e] at o
  rcases k with k | k
  · have := o.2.1 k; exact ⟨this.2.2.1, this.2.2.2.1⟩
  · exact (o.2.2.1 k.1).2.2 k.2
set_option maxRecDepth 100000 in
theorem pq_Tb.p3 {σ : SM} (h : pq_Tb σ) {t : Int} (v : pq_vt σ t) (k : pq_kI σ t.toNat = 1) (n : pq_hI σ t.toNat ≠ -1) : 0 ≤ pq_hI σ t.toNat ∧ pq_hI σ t.toNat < t := by
  have o := (h.ok v).1
  have e : ((t.toNat : Nat) : Int) = t := by have := v.1; omega
  rw [e] at o
  rcases (o.2.1 k).2.2.2.2 with y | y
  · exact absurd y.1 n
  · exact ⟨y.1, y.2.1⟩
set_option maxRecDepth 100000 in
theorem pq_In.no {σ : SM} {z : Int} (h : pq_In σ 0 z) : False := by obtain ⟨i, hi, _⟩ := h; omega
set_option maxRecDepth 100000 in
theorem pq_Jn.zero {σ0 σ : SM} {z : Int} (h : pq_Jn σ0 σ 0 z) : aM_M_seen σ z.toNat = gM_M_looks σ0 := h.elim id (fun h => h.no.elim)
set_option maxRecDepth 100000 in
theorem pq_Cd.oc {σ0 σ : SM} {x : Int} (hT : pq_Tb σ0) (h : pq_Cd (fun t => ¬ (pq_kI σ0 t = 7 ∧ pq_oI σ0 t = x)) σ0 σ 0) {t : Int} (ho : pq_Oc σ0 x t) : pq_vt σ0 t → aM_M_seen σ t.toNat = gM_M_looks σ0 → False := by
  refine ho (fun t => pq_vt σ0 t → aM_M_seen σ t.toNat = gM_M_looks σ0 → False) ?_ ?_ ?_ ?_
  · intro t k o v s; exact (h t.toNat (pq_tn_lt v.1 v.2) s).1 ⟨k, o⟩
  · intro t k ih v s
    have p := hT.p1 v k
    exact ih ⟨p.1, Int.lt_trans p.2 v.2⟩ ((h t.toNat (pq_tn_lt v.1 v.2) s).2.1 k).zero
  · intro t k ih v s
    have p := hT.p2 v k
    exact ih ⟨p.1, Int.lt_trans p.2 v.2⟩ ((h t.toNat (pq_tn_lt v.1 v.2) s).2.2.1 k).zero
  · intro t k n ih v s
    have p := hT.p3 v k n
    exact ih ⟨p.1, Int.lt_trans p.2 v.2⟩ ((h t.toNat (pq_tn_lt v.1 v.2) s).2.2.2 k n).zero
set_option maxRecDepth 100000 in
theorem pq_no_oc {σ : SM} (h : pq_Tb σ) : ∀ (n : Nat) (t : Int), t.toNat = n → pq_vt σ t → (∀ x : Int, 0 ≤ x → x < 12 → ¬ pq_Oc σ x t) → pq_qI σ t.toNat = 1 := by
  intro n
  induction n using Nat.strongRecOn with
  | ind n ih =>
    intro t hn v no
    have o := (h.ok v).1
    refine (h.pk v).one.2 ⟨fun k => ?_, fun k => ⟨?_, fun z => ?_⟩, fun k z => ?_, fun k => ?_, fun k => ?_⟩
    · have := o.2.2.2.2.2.2.1 k
      exact no _ this.1 (by omega) (pq_Oc.here k rfl)
    · have p := h.p2 v (Or.inl k)
      exact ih _ (by omega) _ rfl ⟨p.1, Int.lt_trans p.2 v.2⟩ (fun x a b c => no x a b (pq_Oc.two (Or.inl k) c))
    · have p := h.p3 v k (by omega)
      exact ih _ (by omega) _ rfl ⟨p.1, Int.lt_trans p.2 v.2⟩ (fun x a b c => no x a b (pq_Oc.three k (by omega) c))
    · have p := h.p2 v (Or.inr ⟨k, z⟩)
      exact ih _ (by omega) _ rfl ⟨p.1, Int.lt_trans p.2 v.2⟩ (fun x a b c => no x a b (pq_Oc.two (Or.inr ⟨k, z⟩) c))
    · have p := h.p1 v (Or.inl k)
      exact ih _ (by omega) _ rfl ⟨p.1, Int.lt_trans p.2 v.2⟩ (fun x a b c => no x a b (pq_Oc.one (Or.inl k) c))
    · have p := h.p1 v (Or.inr k)
      exact ih _ (by omega) _ rfl ⟨p.1, Int.lt_trans p.2 v.2⟩ (fun x a b c => no x a b (pq_Oc.one (Or.inr k) c))
set_option maxRecDepth 100000 in
theorem pq_Cd.pr {σ0 σ : SM} (hT : pq_Tb σ0) (h : pq_Cd (fun t => pq_kI σ0 t ≠ 7 ∧ pq_kI σ0 t ≠ 8) σ0 σ 0) : ∀ (n : Nat) (t : Int), t.toNat = n → pq_vt σ0 t → aM_M_seen σ t.toNat = gM_M_looks σ0 → pq_qI σ0 t.toNat = 1 := by
  intro n
  induction n using Nat.strongRecOn with
  | ind n ih =>
    intro t hn v s
    obtain ⟨a, b, c, d⟩ := h t.toNat (pq_tn_lt v.1 v.2) s
    have et : ((t.toNat : Nat) : Int).toNat = t.toNat := rfl
    refine (hT.pk v).one.2 ⟨a.1, fun k => ⟨?_, fun z => ?_⟩, fun k z => ?_, fun k => ?_, fun k => absurd k a.2⟩
    · have p := hT.p2 v (Or.inl k)
      exact ih _ (by omega) _ rfl ⟨p.1, Int.lt_trans p.2 v.2⟩ (c (Or.inl k)).zero
    · have p := hT.p3 v k (by omega)
      exact ih _ (by omega) _ rfl ⟨p.1, Int.lt_trans p.2 v.2⟩ (d k (by rw [et]; omega)).zero
    · have p := hT.p2 v (Or.inr ⟨k, z⟩)
      exact ih _ (by omega) _ rfl ⟨p.1, Int.lt_trans p.2 v.2⟩ (c (Or.inr ⟨k, z⟩)).zero
    · have p := hT.p1 v (Or.inl k)
      exact ih _ (by omega) _ rfl ⟨p.1, Int.lt_trans p.2 v.2⟩ (b (Or.inl k)).zero
set_option maxRecDepth 100000 in
theorem pq_gIn_L34 {σ0 : SM} (N : Nat) (x : Int32) {ty : Int} (hT : pq_Tb σ0) : ∀ (n : Nat) (v3 : Int32) (σ : SM) (td u : Nat), pq_IsL σ0 σ td u → v3 = 0 ∨ v3 = 1 → (v3 = 0 → pq_Cd (fun t => ¬ (pq_kI σ0 t = 7 ∧ pq_oI σ0 t = x.toInt)) σ0 σ td) → pq_Jn σ0 σ td ty → td + 2 * u ≤ 1001 → 3 * u + td < n → pq_Tot (M_M_isIn_L34 N n x v3 σ) (fun r τ => (r = 0 ∨ r = 1) ∧ (∃ td u, pq_IsL σ0 τ td u) ∧ (r = 0 → pq_Cd (fun t => ¬ (pq_kI σ0 t = 7 ∧ pq_oI σ0 t = x.toInt)) σ0 τ 0 ∧ pq_Jn σ0 τ 0 ty)) := by
  intro n
  induction n with
  | zero => intro v3 σ td u _ _ _ _ _ h; omega
  | succ n ih =>
    intro v3 σ td u h hv hcd hj hb hn
    rw [M_M_isIn_L34]
    have hz : zb v3 = true := decide_eq_true hv
    refine pq_Tot.ite (fun e => pq_Tot.ite1 hz (pq_Tot.ret ⟨hv, ⟨td, u, h⟩, fun z => ?_⟩)) (fun e => ?_)
    · rw [pq_iv_le, pq_iv_0, h.2.1] at e
      obtain rfl : td = 0 := by omega
      exact ⟨hcd z, hj⟩
    refine pq_Tot.ite (fun e3 => ?_) (fun n3 => pq_Tot.ite1 hz (pq_Tot.ret ⟨hv, ⟨td, u, h⟩, fun z => absurd z n3⟩))
    rw [pq_iv_le, pq_iv_0, h.2.1] at e
    obtain ⟨td', rfl⟩ : ∃ td', td = td' + 1 := ⟨td - 1, by omega⟩
    have hp := h.pop
    have ey : (gM_M_todos σ - 1).toNatClampNeg = td' := by
      show (gM_M_todos σ - 1).toInt.toNat = td'
      have : (gM_M_todos σ - 1).toInt = td' := hp.2.1
      omega
    have hy : pq_vt σ0 (aM_M_todo σ (gM_M_todos σ - 1).toNatClampNeg).toInt := by rw [ey]; exact h.2.2.1 td' (by omega)
    have cy : ck (gM_M_todos σ - 1) 2000 = true := pq_ck_mk (by have : (gM_M_todos σ - 1).toInt = td' := hp.2.1; omega) (by have : (gM_M_todos σ - 1).toInt = td' := hp.2.1; omega)
    have ety : (aM_M_todo σ td').toInt = (aM_M_todo σ (gM_M_todos σ - 1).toNatClampNeg).toInt := by rw [ey]
    refine pq_Tot.nm (pq_Tot.nm (pq_Tot.ite1 cy (pq_Tot.nm (pq_Tot.bd (pq_isSeen_ok2 hT hp hy) (fun r τ hr => ?_)))))
    obtain ⟨hr, e1, e2⟩ := hr
    rcases hr with ⟨rfl, u', hu, ht⟩ | ⟨rfl, ht, hse⟩
    · have hc := pq_ck_vt (ht.tb hT) (ht.v hy)
      have nx : ∀ v3 : Int32, v3 = 0 ∨ v3 = 1 → (v3 = 0 → ¬ (pq_kI σ0 (aM_M_todo σ (gM_M_todos σ - 1).toNatClampNeg).toInt.toNat = 7 ∧ pq_oI σ0 (aM_M_todo σ (gM_M_todos σ - 1).toNatClampNeg).toInt.toNat = x.toInt)) → pq_Tot (M_M_isIn_b103 N (M_M_isIn_L34 N n) x (aM_M_todo (sM_M_todos σ (gM_M_todos σ - 1)) (gM_M_todos σ - 1).toNatClampNeg) v3 τ) (fun r τ => (r = 0 ∨ r = 1) ∧ (∃ td u, pq_IsL σ0 τ td u) ∧ (r = 0 → pq_Cd (fun t => ¬ (pq_kI σ0 t = 7 ∧ pq_oI σ0 t = x.toInt)) σ0 τ 0 ∧ pq_Jn σ0 τ 0 ty)) := fun v3 hv hg =>
        pq_gIn_b103 hT hy ht (B := td' + 3) (by omega) (by omega) (fun σ' td'' h' hb' gw p1 p2 p3 => ih v3 σ' td'' u' h' hv (fun z => (hcd e3).step hy ety e1 e2 gw (Or.inr ⟨hg z, p1, p2, p3⟩)) (hj.step ety e1 e2 gw) (by omega) (by omega))
      have ek : (aM_M_kind τ (aM_M_todo σ (gM_M_todos σ - 1).toNatClampNeg).toNatClampNeg).toInt = pq_kI σ0 (aM_M_todo σ (gM_M_todos σ - 1).toNatClampNeg).toInt.toNat := ht.ex.1.k hy
      have eo : (aM_M_one τ (aM_M_todo σ (gM_M_todos σ - 1).toNatClampNeg).toNatClampNeg).toInt = pq_oI σ0 (aM_M_todo σ (gM_M_todos σ - 1).toNatClampNeg).toInt.toNat := ht.ex.1.o hy
      refine pq_Tot.ite1 rfl (pq_Tot.ite1 hc (pq_Tot.ite (fun _ => pq_Tot.ite1 hc (pq_Tot.ite (fun _ => nx 1 (Or.inr rfl) (fun z => absurd z (by decide))) (fun n1 => nx 0 (Or.inl rfl) (fun _ z => n1 (pq_iv_eq.2 (eo.trans z.2)))))) (fun n7 => nx 0 (Or.inl rfl) (fun _ z => n7 (pq_iv_eq.2 (ek.trans z.1))))))
    · exact pq_Tot.ite2 (by decide) (ih v3 τ td' u ht hv (fun z => (hcd e3).step hy ety e1 e2 pq_Gw.rf (Or.inl hse)) (hj.step ety e1 e2 pq_Gw.rf) (by omega) (by omega))
set_option maxRecDepth 100000 in
theorem pq_gOf_L34 {σ0 : SM} (N : Nat) (x : Int32) {ty : Int} (hT : pq_Tb σ0) : ∀ (n : Nat) (v3 : Int32) (σ : SM) (td u : Nat), pq_IsL σ0 σ td u → v3 = 0 ∨ v3 = 1 → (v3 = 1 → pq_Cd (fun t => pq_kI σ0 t ≠ 7 ∧ pq_kI σ0 t ≠ 8) σ0 σ td) → pq_Jn σ0 σ td ty → td + 2 * u ≤ 1001 → 3 * u + td < n → pq_Tot (M_M_isOfBefore_L34 N n x v3 σ) (fun r τ => (r = 0 ∨ r = 1) ∧ (∃ td u, pq_IsL σ0 τ td u) ∧ (r = 1 → pq_Cd (fun t => pq_kI σ0 t ≠ 7 ∧ pq_kI σ0 t ≠ 8) σ0 τ 0 ∧ pq_Jn σ0 τ 0 ty)) := by
  intro n
  induction n with
  | zero => intro v3 σ td u _ _ _ _ _ h; omega
  | succ n ih =>
    intro v3 σ td u h hv hcd hj hb hn
    rw [M_M_isOfBefore_L34]
    have hz : zb v3 = true := decide_eq_true hv
    refine pq_Tot.ite (fun e => pq_Tot.ite1 hz (pq_Tot.ret ⟨hv, ⟨td, u, h⟩, fun z => ?_⟩)) (fun e => ?_)
    · rw [pq_iv_le, pq_iv_0, h.2.1] at e
      obtain rfl : td = 0 := by omega
      exact ⟨hcd z, hj⟩
    refine pq_Tot.ite (fun e3 => pq_Tot.ite1 hz (pq_Tot.ret ⟨hv, ⟨td, u, h⟩, fun z => absurd (z.symm.trans e3) (by decide)⟩)) (fun n3 => ?_)
    have e3 : v3 = 1 := hv.elim (fun z => absurd z n3) id
    rw [pq_iv_le, pq_iv_0, h.2.1] at e
    obtain ⟨td', rfl⟩ : ∃ td', td = td' + 1 := ⟨td - 1, by omega⟩
    have hp := h.pop
    have ey : (gM_M_todos σ - 1).toNatClampNeg = td' := by
      show (gM_M_todos σ - 1).toInt.toNat = td'
      have : (gM_M_todos σ - 1).toInt = td' := hp.2.1
      omega
    have hy : pq_vt σ0 (aM_M_todo σ (gM_M_todos σ - 1).toNatClampNeg).toInt := by rw [ey]; exact h.2.2.1 td' (by omega)
    have cy : ck (gM_M_todos σ - 1) 2000 = true := pq_ck_mk (by have : (gM_M_todos σ - 1).toInt = td' := hp.2.1; omega) (by have : (gM_M_todos σ - 1).toInt = td' := hp.2.1; omega)
    have ety : (aM_M_todo σ td').toInt = (aM_M_todo σ (gM_M_todos σ - 1).toNatClampNeg).toInt := by rw [ey]
    refine pq_Tot.nm (pq_Tot.nm (pq_Tot.ite1 cy (pq_Tot.nm (pq_Tot.bd (pq_isSeen_ok2 hT hp hy) (fun r τ hr => ?_)))))
    obtain ⟨hr, e1, e2⟩ := hr
    rcases hr with ⟨rfl, u', hu, ht⟩ | ⟨rfl, ht, hse⟩
    · have hc := pq_ck_vt (ht.tb hT) (ht.v hy)
      have ek : (aM_M_kind τ (aM_M_todo σ (gM_M_todos σ - 1).toNatClampNeg).toNatClampNeg).toInt = pq_kI σ0 (aM_M_todo σ (gM_M_todos σ - 1).toNatClampNeg).toInt.toNat := ht.ex.1.k hy
      have nx : ∀ v3 : Int32, v3 = 0 ∨ v3 = 1 → (v3 = 1 → pq_kI σ0 (aM_M_todo σ (gM_M_todos σ - 1).toNatClampNeg).toInt.toNat ≠ 7 ∧ pq_kI σ0 (aM_M_todo σ (gM_M_todos σ - 1).toNatClampNeg).toInt.toNat ≠ 8) → pq_Tot (M_M_isOfBefore_b162 N (M_M_isOfBefore_L34 N n) x (aM_M_todo (sM_M_todos σ (gM_M_todos σ - 1)) (gM_M_todos σ - 1).toNatClampNeg) (aM_M_kind τ (aM_M_todo (sM_M_todos σ (gM_M_todos σ - 1)) (gM_M_todos σ - 1).toNatClampNeg).toNatClampNeg) v3 τ) (fun r τ => (r = 0 ∨ r = 1) ∧ (∃ td u, pq_IsL σ0 τ td u) ∧ (r = 1 → pq_Cd (fun t => pq_kI σ0 t ≠ 7 ∧ pq_kI σ0 t ≠ 8) σ0 τ 0 ∧ pq_Jn σ0 τ 0 ty)) := fun v3 hv hg =>
        pq_gOf_b162 hT hy (ht.k hy) ht (B := td' + 3) (by omega) (by omega) (fun σ' td'' h' hb' gw p1 p2 p3 => ih v3 σ' td'' u' h' hv (fun z => (hcd e3).step hy ety e1 e2 gw (Or.inr ⟨hg z, fun k => k.elim p1 (fun k => absurd k (hg z).2), p2, p3⟩)) (hj.step ety e1 e2 gw) (by omega) (by omega))
      have n0 := nx 0 (Or.inl rfl) (fun z => absurd z (by decide))
      have n1 : ∀ k : Int32, aM_M_kind τ (aM_M_todo σ (gM_M_todos σ - 1).toNatClampNeg).toNatClampNeg = k → k.toInt ≠ 7 → k.toInt ≠ 8 → _ := fun k e a b => nx 1 (Or.inr rfl) (fun _ => by rw [← ek, e]; exact ⟨a, b⟩)
      refine pq_Tot.ite1 rfl (pq_Tot.ite1 hc (pq_Tot.nm ?_))
      refine pq_Tot.ite (fun e => pq_Tot.ite1 hc (pq_Tot.ite (fun _ => n0) (fun _ => n1 _ e (by decide) (by decide)))) (fun _ => ?_)
      refine pq_Tot.ite (fun e => pq_Tot.ite1 hc (pq_Tot.ite (fun _ => n0) (fun _ => n1 _ e (by decide) (by decide)))) (fun _ => ?_)
      refine pq_Tot.ite (fun e => pq_Tot.ite1 hc (pq_Tot.ite (fun _ => n1 _ e (by decide) (by decide)) (fun _ => n0))) (fun _ => ?_)
      refine pq_Tot.ite (fun e => n1 _ e (by decide) (by decide)) (fun _ => ?_)
      refine pq_Tot.ite (fun e => n1 _ e (by decide) (by decide)) (fun _ => ?_)
      exact pq_Tot.ite (fun e => n1 _ e (by decide) (by decide)) (fun _ => n0)
    · exact pq_Tot.ite2 (by decide) (ih v3 τ td' u ht hv (fun z => (hcd e3).step hy ety e1 e2 pq_Gw.rf (Or.inl hse)) (hj.step ety e1 e2 pq_Gw.rf) (by omega) (by omega))
set_option maxRecDepth 100000 in
theorem pq_Sn.fresh {K : Nat} {σ : SM} (h : pq_Sn K σ) (hK : K + 1 < 4294967296) (i : Nat) : aM_M_seen σ i ≠ gM_M_looks σ + 1 := fun e => by
  obtain ⟨m, hm, e'⟩ := h.2 i
  rw [e', h.look] at e
  have := pq_ofNat_inj (by omega) (by omega) e
  omega
set_option maxRecDepth 100000 in
theorem pq_isIn_no {σ : SM} {N : Nat} (hN : 2000 ≤ N) (x : Int32) {t : Int32} (hT : pq_Tb σ) (v : pq_vt σ t.toInt) {K : Nat} (hK : pq_Sn K σ) (hK2 : K + 1 < 4294967296) : pq_Tot (M_M_isIn N x t σ) (fun r τ => (r = 0 ∨ r = 1) ∧ pq_fr pq_LI pq_AI σ τ ∧ pq_Sn (K + 1) τ ∧ (r = 0 → ¬ pq_Oc σ x.toInt t.toInt)) := by
  rw [M_M_isIn]
  obtain ⟨u, hu, h⟩ := pq_isIn_st v
  refine pq_Tot.nm (pq_Tot.nm (pq_Tot.nm (pq_Tot.nm (pq_Tot.ite1 (show ck (0 : Int32) 2000 = true by decide) (pq_Tot.nm ?_)))))
  have hT' : pq_Tb (sM_M_looks σ (gM_M_looks σ + 1)) := hT
  refine (pq_gIn_L34 N x (ty := t.toInt) hT' N 0 _ 1 u h (Or.inl rfl) (fun _ i _ hs => absurd hs (hK.fresh hK2 i)) (Or.inr ⟨0, by omega, rfl⟩) (by omega) (by omega)).mono (fun r τ hr => ?_)
  obtain ⟨h1, ⟨td, u, hh⟩, h2⟩ := hr
  refine ⟨h1, pq_fr.tr (pq_fr.s pq_fr.rf (by decide) _) (hh.1.up (by decide) (fun _ z => z)), hK.isL hh, fun z ho => ?_⟩
  have q := h2 z
  exact pq_Cd.oc (σ0 := sM_M_looks σ (gM_M_looks σ + 1)) hT' q.1 (t := t.toInt) (by
    have : ∀ {s : Int}, pq_Oc σ x.toInt s → pq_Oc (sM_M_looks σ (gM_M_looks σ + 1)) x.toInt s := fun {s} h => h (fun s => pq_Oc (sM_M_looks σ (gM_M_looks σ + 1)) x.toInt s) (fun _ a b => pq_Oc.here (σ := sM_M_looks σ (gM_M_looks σ + 1)) a b) (fun _ a ih => pq_Oc.one (σ := sM_M_looks σ (gM_M_looks σ + 1)) a ih) (fun _ a ih => pq_Oc.two (σ := sM_M_looks σ (gM_M_looks σ + 1)) a ih) (fun _ a b ih => pq_Oc.three (σ := sM_M_looks σ (gM_M_looks σ + 1)) a b ih)
    exact this ho) v q.2.zero
set_option maxRecDepth 100000 in
theorem pq_isOfBefore_pr {σ : SM} {N : Nat} (hN : 2000 ≤ N) (x : Int32) {t : Int32} (hT : pq_Tb σ) (v : pq_vt σ t.toInt) {K : Nat} (hK : pq_Sn K σ) (hK2 : K + 1 < 4294967296) : pq_Tot (M_M_isOfBefore N x t σ) (fun r τ => (r = 0 ∨ r = 1) ∧ pq_fr pq_LI pq_AI σ τ ∧ pq_Sn (K + 1) τ ∧ (r = 1 → pq_qI σ t.toInt.toNat = 1)) := by
  rw [M_M_isOfBefore]
  obtain ⟨u, hu, h⟩ := pq_isIn_st v
  refine pq_Tot.nm (pq_Tot.nm (pq_Tot.nm (pq_Tot.nm (pq_Tot.ite1 (show ck (0 : Int32) 2000 = true by decide) (pq_Tot.nm ?_)))))
  have hT' : pq_Tb (sM_M_looks σ (gM_M_looks σ + 1)) := hT
  refine (pq_gOf_L34 N x (ty := t.toInt) hT' N 1 _ 1 u h (Or.inr rfl) (fun _ i _ hs => absurd hs (hK.fresh hK2 i)) (Or.inr ⟨0, by omega, rfl⟩) (by omega) (by omega)).mono (fun r τ hr => ?_)
  obtain ⟨h1, ⟨td, u, hh⟩, h2⟩ := hr
  refine ⟨h1, pq_fr.tr (pq_fr.s pq_fr.rf (by decide) _) (hh.1.up (by decide) (fun _ z => z)), hK.isL hh, fun z => ?_⟩
  have q := h2 z
  exact pq_Cd.pr (σ0 := sM_M_looks σ (gM_M_looks σ + 1)) hT' q.1 _ t.toInt rfl v q.2.zero
