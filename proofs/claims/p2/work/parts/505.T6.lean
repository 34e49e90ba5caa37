set_option maxRecDepth 100000 in
theorem pq_IsL.k {σ0 σ : SM} {td u : Nat} (h : pq_IsL σ0 σ td u) {x : Int} (v : pq_vt σ0 x) : pq_kI σ x.toNat = pq_kI σ0 x.toNat := h.ex.1.k v
section OB
variable {σ0 : SM} {N : Nat} {k34 : Int32 → Int32 → SM → Option (Int32 × SM)} {v1 v3 v4 v5 : Int32} {Q : Int32 → SM → Prop} {u B : Nat}
set_option maxRecDepth 100000 in
theorem pq_ofB_b237 (hT : pq_Tb σ0) (v : pq_vt σ0 v4.toInt) (h5 : v5.toInt = pq_kI σ0 v4.toInt.toNat) {σ : SM} {td : Nat} (h : pq_IsL σ0 σ td u) (hB : td < B) (ht : B ≤ 1999) (hk : ∀ (σ' : SM) (td' : Nat), pq_IsL σ0 σ' td' u → td' ≤ B → pq_Tot (k34 v1 v3 σ') Q) : pq_Tot (M_M_isOfBefore_b237 N k34 v1 v3 v4 v5 σ) Q := by
  rw [M_M_isOfBefore_b237]
  have hc := pq_ck_vt (h.tb hT) (h.v v)
  refine pq_Tot.ite (fun e => pq_Tot.ite1 hc (pq_Tot.ite (fun _ => hk σ td h (by omega)) (fun e3 => ?_))) (fun _ => hk σ td h (by omega))
  have o := ((h.tb hT).ok (h.v v)).1.2.1 (by rw [h.k v, ← h5]; exact pq_eqI e)
  refine pq_Tot.nm (pq_Tot.nm (pq_Tot.ite1 hc (pq_Tot.ite1 (h.ckx (by omega)) (pq_Tot.nm (hk _ (td + 1) (h.push (by omega) ?_) (by omega))))))
  refine h.vi ?_
  have := pq_tn_lt (h.v v).1 (h.v v).2
  rcases o.2.2.2.2 with y | y
  · exact absurd (pq_iv_eq.2 (show (aM_M_three σ v4.toNatClampNeg).toInt = (-1 : Int32).toInt from y.1)) e3
  · exact ⟨y.1, Int.lt_trans y.2.1 this⟩
set_option maxRecDepth 100000 in
theorem pq_ofB_b214 (hT : pq_Tb σ0) (v : pq_vt σ0 v4.toInt) (h5 : v5.toInt = pq_kI σ0 v4.toInt.toNat) {σ : SM} {td : Nat} (h : pq_IsL σ0 σ td u) (hB : td + 1 < B) (ht : B ≤ 1999) (hw : pq_vt σ0 (pq_wI σ v4.toInt.toNat)) (hk : ∀ (σ' : SM) (td' : Nat), pq_IsL σ0 σ' td' u → td' ≤ B → pq_Tot (k34 v1 v3 σ') Q) : pq_Tot (M_M_isOfBefore_b214 N k34 v1 v3 v4 v5 σ) Q := by
  rw [M_M_isOfBefore_b214]
  have hc := pq_ck_vt (h.tb hT) (h.v v)
  exact pq_Tot.nm (pq_Tot.nm (pq_Tot.ite1 hc (pq_Tot.ite1 (h.ckx (by omega)) (pq_Tot.nm (pq_ofB_b237 hT v h5 (h.push (by omega) hw) (by omega) ht hk)))))
set_option maxRecDepth 100000 in
theorem pq_ofB_b192 (hT : pq_Tb σ0) (v : pq_vt σ0 v4.toInt) (h5 : v5.toInt = pq_kI σ0 v4.toInt.toNat) {σ : SM} {td : Nat} (h : pq_IsL σ0 σ td u) (hB : td + 1 < B) (ht : B ≤ 1999) (hk : ∀ (σ' : SM) (td' : Nat), pq_IsL σ0 σ' td' u → td' ≤ B → pq_Tot (k34 v1 v3 σ') Q) : pq_Tot (M_M_isOfBefore_b192 N k34 v1 v3 v4 v5 σ) Q := by
  rw [M_M_isOfBefore_b192]
  have hc := pq_ck_vt (h.tb hT) (h.v v)
  have o := ((h.tb hT).ok (h.v v)).1
  rw [h.k v, ← h5] at o
  have := pq_tn_lt (h.v v).1 (h.v v).2
  refine pq_Tot.ite (fun e => ?_) (fun _ => pq_Tot.ite (fun e => pq_Tot.ite1 hc (pq_Tot.ite (fun _ => ?_) (fun e1 => ?_))) (fun _ => ?_))
  · have q := o.2.1 (pq_eqI e)
    exact pq_ofB_b214 hT v h5 h hB ht (h.vi ⟨q.2.2.1, Int.lt_trans q.2.2.2.1 this⟩) hk
  · exact pq_ofB_b237 hT v h5 h (by omega) ht hk
  · have q := (o.2.2.1 (pq_eqI e)).2.2 (by rw [pq_iv_le, pq_iv_0] at e1; show 0 < (aM_M_one σ v4.toNatClampNeg).toInt; omega)
    exact pq_ofB_b214 hT v h5 h hB ht (h.vi ⟨q.1, Int.lt_trans q.2 this⟩) hk
  · exact pq_ofB_b237 hT v h5 h (by omega) ht hk
set_option maxRecDepth 100000 in
theorem pq_ofB_b162 (hT : pq_Tb σ0) (v : pq_vt σ0 v4.toInt) (h5 : v5.toInt = pq_kI σ0 v4.toInt.toNat) {σ : SM} {td : Nat} (h : pq_IsL σ0 σ td u) (hB : td + 2 < B) (ht : B ≤ 1999) (hk : ∀ (σ' : SM) (td' : Nat), pq_IsL σ0 σ' td' u → td' ≤ B → pq_Tot (k34 v1 v3 σ') Q) : pq_Tot (M_M_isOfBefore_b162 N k34 v1 v4 v5 v3 σ) Q := by
  rw [M_M_isOfBefore_b162]
  have hc := pq_ck_vt (h.tb hT) (h.v v)
  have o := ((h.tb hT).ok (h.v v)).1
  rw [h.k v, ← h5] at o
  have := pq_tn_lt (h.v v).1 (h.v v).2
  refine pq_Tot.ite (fun e => ?_) (fun _ => pq_ofB_b192 hT v h5 h (by omega) ht hk)
  have q := o.2.2.2.2.1 (pq_eqI e)
  exact pq_Tot.nm (pq_Tot.nm (pq_Tot.ite1 hc (pq_Tot.ite1 (h.ckx (by omega)) (pq_Tot.nm (pq_ofB_b192 hT v h5 (h.push (by omega) (h.vi ⟨q.1, Int.lt_trans q.2 this⟩)) (by omega) ht hk)))))
end OB
set_option maxRecDepth 100000 in
theorem pq_ofB_L34 {σ0 : SM} (N : Nat) (x : Int32) (hT : pq_Tb σ0) : ∀ (n : Nat) (v3 : Int32) (σ : SM) (td u : Nat), pq_IsL σ0 σ td u → v3 = 0 ∨ v3 = 1 → td + 2 * u ≤ 1001 → 3 * u + td < n → pq_Tot (M_M_isOfBefore_L34 N n x v3 σ) (fun r τ => (r = 0 ∨ r = 1) ∧ ∃ td u, pq_IsL σ0 τ td u) := by
  intro n
  induction n with
  | zero => intro v3 σ td u _ _ _ h; omega
  | succ n ih =>
    intro v3 σ td u h hv hb hn
    rw [M_M_isOfBefore_L34]
    have hz : zb v3 = true := decide_eq_true hv
    refine pq_Tot.ite (fun _ => pq_Tot.ite1 hz (pq_Tot.ret ⟨hv, td, u, h⟩)) (fun e => ?_)
    refine pq_Tot.ite (fun _ => pq_Tot.ite1 hz (pq_Tot.ret ⟨hv, td, u, h⟩)) (fun e3 => ?_)
    rw [pq_iv_le, pq_iv_0, h.2.1] at e
    obtain ⟨td', rfl⟩ : ∃ td', td = td' + 1 := ⟨td - 1, by omega⟩
    have hp := h.pop
    have ey : (gM_M_todos σ - 1).toNatClampNeg = td' := by
      show (gM_M_todos σ - 1).toInt.toNat = td'
      have : (gM_M_todos σ - 1).toInt = td' := hp.2.1
      omega
    have hy : pq_vt σ0 (aM_M_todo σ (gM_M_todos σ - 1).toNatClampNeg).toInt := by rw [ey]; exact h.2.2.1 td' (by omega)
    have cy : ck (gM_M_todos σ - 1) 2000 = true := pq_ck_mk (by have : (gM_M_todos σ - 1).toInt = td' := hp.2.1; omega) (by have : (gM_M_todos σ - 1).toInt = td' := hp.2.1; omega)
    refine pq_Tot.nm (pq_Tot.nm (pq_Tot.ite1 cy (pq_Tot.nm (pq_Tot.bd (pq_isSeen_ok hT hp hy) (fun r τ hr => ?_)))))
    rcases hr with ⟨rfl, u', hu, ht⟩ | ⟨rfl, ht⟩
    · have hc := pq_ck_vt (ht.tb hT) (ht.v hy)
      have nx : ∀ v3 : Int32, v3 = 0 ∨ v3 = 1 → pq_Tot (M_M_isOfBefore_b162 N (M_M_isOfBefore_L34 N n) x (aM_M_todo (sM_M_todos σ (gM_M_todos σ - 1)) (gM_M_todos σ - 1).toNatClampNeg) (aM_M_kind τ (aM_M_todo (sM_M_todos σ (gM_M_todos σ - 1)) (gM_M_todos σ - 1).toNatClampNeg).toNatClampNeg) v3 τ) (fun r τ => (r = 0 ∨ r = 1) ∧ ∃ td u, pq_IsL σ0 τ td u) := fun v3 hv =>
        pq_ofB_b162 hT hy (ht.k hy) ht (B := td' + 3) (by omega) (by omega) (fun σ' td'' h' hb' => ih v3 σ' td'' u' h' hv (by omega) (by omega))
      have n0 := nx 0 (Or.inl rfl)
      have n1 := nx 1 (Or.inr rfl)
      refine pq_Tot.ite1 rfl (pq_Tot.ite1 hc (pq_Tot.nm ?_))
      refine pq_Tot.ite (fun _ => pq_Tot.ite1 hc (pq_Tot.ite (fun _ => n0) (fun _ => n1))) (fun _ => ?_)
      refine pq_Tot.ite (fun _ => pq_Tot.ite1 hc (pq_Tot.ite (fun _ => n0) (fun _ => n1))) (fun _ => ?_)
      refine pq_Tot.ite (fun _ => pq_Tot.ite1 hc (pq_Tot.ite (fun _ => n1) (fun _ => n0))) (fun _ => ?_)
      refine pq_Tot.ite (fun _ => n1) (fun _ => ?_)
      refine pq_Tot.ite (fun _ => n1) (fun _ => ?_)
      exact pq_Tot.ite (fun _ => n1) (fun _ => n0)
    · exact pq_Tot.ite2 (by decide) (ih v3 τ td' u ht hv (by omega) (by omega))
set_option maxRecDepth 100000 in
theorem pq_isOfBefore_ok {σ : SM} {N : Nat} (hN : 2000 ≤ N) (x : Int32) {t : Int32} (hT : pq_Tb σ) (v : pq_vt σ t.toInt) : pq_Tot (M_M_isOfBefore N x t σ) (pq_Lk σ) := by
  rw [M_M_isOfBefore]
  obtain ⟨u, hu, h⟩ := pq_isIn_st v
  refine pq_Tot.nm (pq_Tot.nm (pq_Tot.nm (pq_Tot.nm (pq_Tot.ite1 (show ck (0 : Int32) 2000 = true by decide) (pq_Tot.nm ?_)))))
  have hT' : pq_Tb (sM_M_looks σ (gM_M_looks σ + 1)) := hT
  refine (pq_ofB_L34 N x hT' N 1 _ 1 u h (Or.inr rfl) (by omega) (by omega)).mono (fun r τ hr => ?_)
  obtain ⟨h1, td, u, hh⟩ := hr
  refine ⟨h1, pq_fr.tr (pq_fr.s pq_fr.rf (by decide) _) (hh.1.up (by decide) (fun _ z => z)), fun K hK => hK.isL hh⟩
