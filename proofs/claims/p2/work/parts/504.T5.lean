def pq_un (f : Nat → Int32) (l : Int32) : Nat → Nat
  | 0 => 0
  | n + 1 => pq_un f l n + (if f n = l then 0 else 1)
set_option maxRecDepth 100000 in
theorem pq_un_le (f : Nat → Int32) (l : Int32) : ∀ n, pq_un f l n ≤ n
  | 0 => Nat.le_refl _
  | n + 1 => by rw [pq_un]; have := pq_un_le f l n; split <;> omega
set_option maxRecDepth 100000 in
theorem pq_un_out {f : Nat → Int32} {l : Int32} {i : Nat} : ∀ n, n ≤ i → pq_un (upd f i l) l n = pq_un f l n
  | 0, _ => rfl
  | n + 1, h => by rw [pq_un, pq_un, pq_un_out n (by omega), pq_upd_ne f l (by omega : n ≠ i)]
set_option maxRecDepth 100000 in
theorem pq_un_upd {f : Nat → Int32} {l : Int32} {i : Nat} (hf : f i ≠ l) : ∀ n, i < n → pq_un (upd f i l) l n + 1 = pq_un f l n
  | 0, h => absurd h (Nat.not_lt_zero _)
  | n + 1, h => by
    rw [pq_un, pq_un]
    by_cases e : n = i
    · subst e
      rw [pq_un_out n (Nat.le_refl _), pq_upd_eq, if_pos rfl, if_neg hf]
    · rw [pq_upd_ne f l e]
      have := pq_un_upd hf n (by omega)
      split <;> omega
set_option maxRecDepth 100000 in
theorem pq_upd_id {f : Nat → Int32} {i : Nat} {l : Int32} (h : f i = l) : upd f i l = f := by
  funext j; rw [upd]; split
  · next e => rw [e, h]
  · rfl
abbrev pq_LI : List Nat := [3, 5]
abbrev pq_AI : List Nat := [9, 17]
def pq_IsL (σ0 σ : SM) (td u : Nat) : Prop :=
  pq_fr [3] pq_AI σ0 σ ∧ (gM_M_todos σ).toInt = td ∧ (∀ i : Nat, i < td → pq_vt σ0 (aM_M_todo σ i).toInt) ∧ pq_un (aM_M_seen σ) (gM_M_looks σ) 500 = u ∧ ∀ t, aM_M_seen σ t = aM_M_seen σ0 t ∨ aM_M_seen σ t = gM_M_looks σ0
set_option maxRecDepth 100000 in
theorem pq_IsL.ex {σ0 σ : SM} {td u : Nat} (h : pq_IsL σ0 σ td u) : pq_Ex σ0 σ ∧ pq_tI σ = pq_tI σ0 := h.1.ex (by decide)
set_option maxRecDepth 100000 in
theorem pq_IsL.tb {σ0 σ : SM} {td u : Nat} (h : pq_IsL σ0 σ td u) (hT : pq_Tb σ0) : pq_Tb σ := pq_Tb.ex h.ex.1 h.ex.2 hT
set_option maxRecDepth 100000 in
theorem pq_IsL.v {σ0 σ : SM} {td u : Nat} (h : pq_IsL σ0 σ td u) {x : Int} (v : pq_vt σ0 x) : pq_vt σ x := h.ex.1.vt v
set_option maxRecDepth 100000 in
theorem pq_IsL.vi {σ0 σ : SM} {td u : Nat} (h : pq_IsL σ0 σ td u) {x : Int} (v : pq_vt σ x) : pq_vt σ0 x := ⟨v.1, by rw [← h.ex.2]; exact v.2⟩
set_option maxRecDepth 100000 in
theorem pq_IsL.push {σ0 σ : SM} {td u : Nat} (h : pq_IsL σ0 σ td u) (ht : td < 1999) {x : Int32} (v : pq_vt σ0 x.toInt) :
    pq_IsL σ0 (tM_M_todo (sM_M_todos σ (gM_M_todos σ + 1)) (upd (aM_M_todo σ) (gM_M_todos σ).toNatClampNeg x)) (td + 1) u := by
  have e : (gM_M_todos σ).toNatClampNeg = td := by show (gM_M_todos σ).toInt.toNat = td; rw [h.2.1]; omega
  refine ⟨pq_fr.t (pq_fr.s h.1 (by decide) _) (by decide) _, ?_, ?_, h.2.2.2.1, h.2.2.2.2⟩
  · show (gM_M_todos σ + 1).toInt = _
    rw [pq_iv_add (by rw [h.2.1, pq_iv_1]; omega) (by rw [h.2.1, pq_iv_1]; omega), h.2.1, pq_iv_1]; omega
  · intro i hi
    show pq_vt σ0 (upd (aM_M_todo σ) (gM_M_todos σ).toNatClampNeg x i).toInt
    rw [e, upd]
    split
    · exact v
    · exact h.2.2.1 i (by omega)
set_option maxRecDepth 100000 in
theorem pq_IsL.ckx {σ0 σ : SM} {td u : Nat} (h : pq_IsL σ0 σ td u) (ht : td < 1999) : ck (gM_M_todos σ) 2000 = true := pq_ck_mk (by rw [h.2.1]; omega) (by rw [h.2.1]; omega)
section II
variable {σ0 : SM} {N : Nat} {k34 : Int32 → Int32 → SM → Option (Int32 × SM)} {v1 v3 v4 : Int32} {Q : Int32 → SM → Prop} {u B : Nat}
set_option maxRecDepth 100000 in
theorem pq_isIn_b205 (hT : pq_Tb σ0) (v : pq_vt σ0 v4.toInt) {σ : SM} {td : Nat} (h : pq_IsL σ0 σ td u) (hB : td < B) (ht : B ≤ 1999) (hk : ∀ (σ' : SM) (td' : Nat), pq_IsL σ0 σ' td' u → td' ≤ B → pq_Tot (k34 v1 v3 σ') Q) : pq_Tot (M_M_isIn_b205 N k34 v1 v3 v4 σ) Q := by
  rw [M_M_isIn_b205]
  have hc := pq_ck_vt (h.tb hT) (h.v v)
  refine pq_Tot.ite1 hc (pq_Tot.ite (fun e => pq_Tot.ite1 hc (pq_Tot.ite (fun _ => hk σ td h (by omega)) (fun e3 => ?_))) (fun _ => hk σ td h (by omega)))
  have o := ((h.tb hT).ok (h.v v)).1.2.1 (pq_eqI e)
  refine pq_Tot.nm (pq_Tot.nm (pq_Tot.ite1 hc (pq_Tot.ite1 (h.ckx (by omega)) (pq_Tot.nm (hk _ (td + 1) (h.push (by omega) ?_) (by omega))))))
  refine h.vi ?_
  have := pq_tn_lt (h.v v).1 (h.v v).2
  rcases o.2.2.2.2 with y | y
  · exact absurd (pq_iv_eq.2 (show (aM_M_three σ v4.toNatClampNeg).toInt = (-1 : Int32).toInt from y.1)) e3
  · exact ⟨y.1, Int.lt_trans y.2.1 this⟩
set_option maxRecDepth 100000 in
theorem pq_isIn_b182 (hT : pq_Tb σ0) (v : pq_vt σ0 v4.toInt) {σ : SM} {td : Nat} (h : pq_IsL σ0 σ td u) (hB : td + 1 < B) (ht : B ≤ 1999) (hw : pq_vt σ0 (pq_wI σ v4.toInt.toNat)) (hk : ∀ (σ' : SM) (td' : Nat), pq_IsL σ0 σ' td' u → td' ≤ B → pq_Tot (k34 v1 v3 σ') Q) : pq_Tot (M_M_isIn_b182 N k34 v1 v3 v4 σ) Q := by
  rw [M_M_isIn_b182]
  have hc := pq_ck_vt (h.tb hT) (h.v v)
  exact pq_Tot.nm (pq_Tot.nm (pq_Tot.ite1 hc (pq_Tot.ite1 (h.ckx (by omega)) (pq_Tot.nm (pq_isIn_b205 hT v (h.push (by omega) hw) (by omega) ht hk)))))
set_option maxRecDepth 100000 in
theorem pq_isIn_b150 (hT : pq_Tb σ0) (v : pq_vt σ0 v4.toInt) {σ : SM} {td : Nat} (h : pq_IsL σ0 σ td u) (hB : td + 1 < B) (ht : B ≤ 1999) (hk : ∀ (σ' : SM) (td' : Nat), pq_IsL σ0 σ' td' u → td' ≤ B → pq_Tot (k34 v1 v3 σ') Q) : pq_Tot (M_M_isIn_b150 N k34 v1 v3 v4 σ) Q := by
  rw [M_M_isIn_b150]
  have hc := pq_ck_vt (h.tb hT) (h.v v)
  have o := ((h.tb hT).ok (h.v v)).1
  have := pq_tn_lt (h.v v).1 (h.v v).2
  refine pq_Tot.ite1 hc (pq_Tot.ite (fun e => ?_) (fun _ => pq_Tot.ite1 hc (pq_Tot.ite (fun e => pq_Tot.ite1 hc (pq_Tot.ite (fun _ => ?_) (fun e1 => ?_))) (fun _ => ?_))))
  · have q := o.2.1 (pq_eqI e)
    exact pq_isIn_b182 hT v h hB ht (h.vi ⟨q.2.2.1, Int.lt_trans q.2.2.2.1 this⟩) hk
  · exact pq_isIn_b205 hT v h (by omega) ht hk
  · have q := (o.2.2.1 (pq_eqI e)).2.2 (by rw [pq_iv_le, pq_iv_0] at e1; show 0 < (aM_M_one σ v4.toNatClampNeg).toInt; omega)
    exact pq_isIn_b182 hT v h hB ht (h.vi ⟨q.1, Int.lt_trans q.2 this⟩) hk
  · exact pq_isIn_b205 hT v h (by omega) ht hk
set_option maxRecDepth 100000 in
theorem pq_isIn_b103 (hT : pq_Tb σ0) (v : pq_vt σ0 v4.toInt) {σ : SM} {td : Nat} (h : pq_IsL σ0 σ td u) (hB : td + 2 < B) (ht : B ≤ 1999) (hk : ∀ (σ' : SM) (td' : Nat), pq_IsL σ0 σ' td' u → td' ≤ B → pq_Tot (k34 v1 v3 σ') Q) : pq_Tot (M_M_isIn_b103 N k34 v1 v4 v3 σ) Q := by
  rw [M_M_isIn_b103]
  have hc := pq_ck_vt (h.tb hT) (h.v v)
  have o := ((h.tb hT).ok (h.v v)).1
  have := pq_tn_lt (h.v v).1 (h.v v).2
  have b127 : pq_vt σ0 (pq_oI σ v4.toInt.toNat) → pq_Tot (M_M_isIn_b127 N k34 v1 v3 v4 σ) Q := fun ho => by
    rw [M_M_isIn_b127]
    exact pq_Tot.nm (pq_Tot.nm (pq_Tot.ite1 hc (pq_Tot.ite1 (h.ckx (by omega)) (pq_Tot.nm (pq_isIn_b150 hT v (h.push (by omega) ho) (by omega) ht hk)))))
  refine pq_Tot.ite1 hc (pq_Tot.ite (fun e => ?_) (fun _ => pq_Tot.ite1 hc (pq_Tot.ite (fun e => ?_) (fun e1 => ?_))))
  · have q := o.2.2.2.2.1 (pq_eqI e)
    exact b127 (h.vi ⟨q.1, Int.lt_trans q.2 this⟩)
  · have q := o.2.2.2.2.2.2.2 (pq_eqI e)
    exact b127 (h.vi ⟨q.1, Int.lt_trans q.2.1 this⟩)
  · exact pq_isIn_b150 hT v h (by omega) ht hk
end II
set_option maxRecDepth 100000 in
theorem pq_IsL.pop {σ0 σ : SM} {td u : Nat} (h : pq_IsL σ0 σ (td + 1) u) : pq_IsL σ0 (sM_M_todos σ (gM_M_todos σ - 1)) td u := by
  refine ⟨pq_fr.s h.1 (by decide) _, ?_, fun i hi => h.2.2.1 i (by omega), h.2.2.2.1, h.2.2.2.2⟩
  show (gM_M_todos σ - 1).toInt = _
  have := h.2.1
  have := pq_iv_rng (gM_M_todos σ)
  rw [pq_iv_sub (by rw [pq_iv_1]; omega) (by rw [pq_iv_1]; omega), pq_iv_1]; omega
set_option maxRecDepth 100000 in
theorem pq_isSeen_ok {σ0 σ : SM} {td u : Nat} (hT : pq_Tb σ0) (h : pq_IsL σ0 σ td u) {x : Int32} (v : pq_vt σ0 x.toInt) :
    pq_Tot (M_M_isSeen x σ) (fun r τ => (r = 0 ∧ ∃ u', u' + 1 = u ∧ pq_IsL σ0 τ td u') ∨ (r = 1 ∧ pq_IsL σ0 τ td u)) := by
  rw [M_M_isSeen]
  have hc := pq_ck_vt (h.tb hT) (h.v v)
  have lk : gM_M_looks σ = gM_M_looks σ0 := h.1.1 5 (by decide)
  have hs : ∀ (l : Int32), l = gM_M_looks σ0 → ∀ t, upd (aM_M_seen σ) x.toNatClampNeg l t = aM_M_seen σ0 t ∨ upd (aM_M_seen σ) x.toNatClampNeg l t = gM_M_looks σ0 := fun l hl t => by
    rw [upd]; split
    · exact Or.inr hl
    · exact h.2.2.2.2 t
  have xlt : x.toNatClampNeg < 500 := by
    have := (h.tb hT).2.2.2.1
    have := (h.v v).2
    have := pq_iv_nat v.1
    omega
  refine pq_Tot.ite1 hc (pq_Tot.ite (fun e => ?_) (fun e => ?_))
  · rw [M_M_isSeen_b18]
    refine pq_Tot.ite1 hc (pq_Tot.nm (pq_Tot.ite1 (by decide) (pq_Tot.ret (Or.inr ⟨rfl, pq_fr.t h.1 (by decide) _, h.2.1, h.2.2.1, ?_, ?_⟩))))
    · show pq_un (upd (aM_M_seen σ) x.toNatClampNeg (gM_M_looks σ)) (gM_M_looks σ) 500 = u
      rw [pq_upd_id e]; exact h.2.2.2.1
    · exact hs _ lk
  · rw [M_M_isSeen_b18]
    have := pq_un_upd e 500 xlt
    have h4 := h.2.2.2.1
    refine pq_Tot.ite1 hc (pq_Tot.nm (pq_Tot.ite1 (by decide) (pq_Tot.ret (Or.inl ⟨rfl, u - 1, by omega, pq_fr.t h.1 (by decide) _, h.2.1, h.2.2.1, ?_, ?_⟩))))
    · show pq_un (upd (aM_M_seen σ) x.toNatClampNeg (gM_M_looks σ)) (gM_M_looks σ) 500 = u - 1
      omega
    · exact hs _ lk
set_option maxRecDepth 100000 in
theorem pq_isIn_L34 {σ0 : SM} (N : Nat) (x : Int32) (hT : pq_Tb σ0) : ∀ (n : Nat) (v3 : Int32) (σ : SM) (td u : Nat), pq_IsL σ0 σ td u → v3 = 0 ∨ v3 = 1 → td + 2 * u ≤ 1001 → 3 * u + td < n → pq_Tot (M_M_isIn_L34 N n x v3 σ) (fun r τ => (r = 0 ∨ r = 1) ∧ ∃ td u, pq_IsL σ0 τ td u) := by
  intro n
  induction n with
  | zero => intro v3 σ td u _ _ _ h; omega
  | succ n ih =>
    intro v3 σ td u h hv hb hn
    rw [M_M_isIn_L34]
    have hz : zb v3 = true := decide_eq_true hv
    refine pq_Tot.ite (fun _ => pq_Tot.ite1 hz (pq_Tot.ret ⟨hv, td, u, h⟩)) (fun e => ?_)
    refine pq_Tot.ite (fun e3 => ?_) (fun _ => pq_Tot.ite1 hz (pq_Tot.ret ⟨hv, td, u, h⟩))
    rw [pq_iv_le, pq_iv_0, h.2.1] at e
    obtain ⟨td', rfl⟩ : ∃ td', td = td' + 1 := ⟨td - 1, by omega⟩
    have hp := h.pop
    have ey : (gM_M_todos σ - 1).toNatClampNeg = td' := by
      show (gM_M_todos σ - 1).toInt.toNat = td'
      have : (gM_M_todos σ - 1).toInt = td' := hp.2.1
      omega
    have hy : pq_vt σ0 (aM_M_todo σ (gM_M_todos σ - 1).toNatClampNeg).toInt := by rw [ey]; exact h.2.2.1 td' (by omega)
    have cy : ck (gM_M_todos σ - 1) 2000 = true := pq_ck_mk (by have : (gM_M_todos σ - 1).toInt = td' := hp.2.1; omega) (by have : (gM_M_todos σ - 1).toInt = td' := hp.2.1; omega)
    refine pq_Tot.nm (pq_Tot.nm (pq_Tot.ite1 cy (pq_Tot.nm (pq_Tot.bd (pq_isSeen_ok hT hp hy) (fun r τ hr => ?_)))))
    rcases hr with ⟨rfl, u', hu, ht⟩ | ⟨rfl, ht⟩
    · have hc := pq_ck_vt (ht.tb hT) (ht.v hy)
      have nx : ∀ v3 : Int32, v3 = 0 ∨ v3 = 1 → pq_Tot (M_M_isIn_b103 N (M_M_isIn_L34 N n) x (aM_M_todo (sM_M_todos σ (gM_M_todos σ - 1)) (gM_M_todos σ - 1).toNatClampNeg) v3 τ) (fun r τ => (r = 0 ∨ r = 1) ∧ ∃ td u, pq_IsL σ0 τ td u) := fun v3 hv =>
        pq_isIn_b103 hT hy ht (B := td' + 3) (by omega) (by omega) (fun σ' td'' h' hb' => ih v3 σ' td'' u' h' hv (by omega) (by omega))
      refine pq_Tot.ite1 rfl (pq_Tot.ite1 hc (pq_Tot.ite (fun _ => pq_Tot.ite1 hc (pq_Tot.ite (fun _ => nx 1 (Or.inr rfl)) (fun _ => nx 0 (Or.inl rfl)))) (fun _ => nx 0 (Or.inl rfl))))
    · exact pq_Tot.ite2 (by decide) (ih v3 τ td' u ht hv (by omega) (by omega))
set_option maxRecDepth 100000 in
theorem pq_isIn_st {σ : SM} {x : Int32} (v : pq_vt σ x.toInt) : ∃ u, u ≤ 500 ∧ pq_IsL (sM_M_looks σ (gM_M_looks σ + 1)) (tM_M_todo (sM_M_todos (sM_M_todos (sM_M_looks σ (gM_M_looks σ + 1)) 0) (0 + 1)) (upd (aM_M_todo σ) (0 : Int32).toNatClampNeg x)) 1 u :=
  ⟨_, pq_un_le _ _ _, pq_fr.t (pq_fr.s (pq_fr.s pq_fr.rf (by decide) _) (by decide) _) (by decide) _, rfl, fun i hi => by
    have : i = 0 := by omega
    subst this
    exact v, rfl, fun t => Or.inl rfl⟩
def pq_Sn (K : Nat) (σ : SM) : Prop := gM_M_looks σ = Int32.ofNat K ∧ ∀ t, ∃ m, m ≤ K ∧ aM_M_seen σ t = Int32.ofNat m
set_option maxRecDepth 100000 in
theorem pq_Sn.look {K : Nat} {σ : SM} (h : pq_Sn K σ) : gM_M_looks σ + 1 = Int32.ofNat (K + 1) := by
  rw [h.1, Int32.ofNat_add]; rfl
set_option maxRecDepth 100000 in
theorem pq_Sn.isL {K : Nat} {σ τ : SM} {td u : Nat} (h : pq_Sn K σ) (k : pq_IsL (sM_M_looks σ (gM_M_looks σ + 1)) τ td u) : pq_Sn (K + 1) τ := by
  have l : gM_M_looks τ = gM_M_looks σ + 1 := k.1.1 5 (by decide)
  refine ⟨l.trans h.look, fun t => ?_⟩
  rcases k.2.2.2.2 t with e | e
  · obtain ⟨m, hm, e'⟩ := h.2 t
    exact ⟨m, by omega, e.trans e'⟩
  · exact ⟨K + 1, Nat.le_refl _, e.trans h.look⟩
def pq_Lk (σ : SM) (r : Int32) (τ : SM) : Prop := (r = 0 ∨ r = 1) ∧ pq_fr pq_LI pq_AI σ τ ∧ ∀ K, pq_Sn K σ → pq_Sn (K + 1) τ
set_option maxRecDepth 100000 in
theorem pq_isIn_ok {σ : SM} {N : Nat} (hN : 2000 ≤ N) (x : Int32) {t : Int32} (hT : pq_Tb σ) (v : pq_vt σ t.toInt) : pq_Tot (M_M_isIn N x t σ) (pq_Lk σ) := by
  rw [M_M_isIn]
  obtain ⟨u, hu, h⟩ := pq_isIn_st v
  refine pq_Tot.nm (pq_Tot.nm (pq_Tot.nm (pq_Tot.nm (pq_Tot.ite1 (show ck (0 : Int32) 2000 = true by decide) (pq_Tot.nm ?_)))))
  have hT' : pq_Tb (sM_M_looks σ (gM_M_looks σ + 1)) := hT
  refine (pq_isIn_L34 N x hT' N 0 _ 1 u h (Or.inl rfl) (by omega) (by omega)).mono (fun r τ hr => ?_)
  obtain ⟨h1, td, u, hh⟩ := hr
  refine ⟨h1, pq_fr.tr (pq_fr.s pq_fr.rf (by decide) _) (hh.1.up (by decide) (fun _ z => z)), fun K hK => hK.isL hh⟩
