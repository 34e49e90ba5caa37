def pq_In (σ : SM) (td : Nat) (x : Int) : Prop := ∃ i : Nat, i < td ∧ (aM_M_todo σ i).toInt = x
def pq_Gw (σ σ' : SM) (td td' : Nat) : Prop := aM_M_seen σ' = aM_M_seen σ ∧ ∀ x, pq_In σ td x → pq_In σ' td' x
set_option maxRecDepth 100000 in
theorem pq_Gw.rf {σ : SM} {td : Nat} : pq_Gw σ σ td td := ⟨rfl, fun _ h => h⟩
set_option maxRecDepth 100000 in
theorem pq_Gw.tr {σ τ υ : SM} {a b c : Nat} (h : pq_Gw σ τ a b) (k : pq_Gw τ υ b c) : pq_Gw σ υ a c := ⟨k.1.trans h.1, fun x z => k.2 x (h.2 x z)⟩
set_option maxRecDepth 100000 in
theorem pq_IsL.g {σ0 σ : SM} {td u : Nat} (h : pq_IsL σ0 σ td u) (x : Int32) :
    pq_Gw σ (tM_M_todo (sM_M_todos σ (gM_M_todos σ + 1)) (upd (aM_M_todo σ) (gM_M_todos σ).toNatClampNeg x)) td (td + 1) ∧ pq_In (tM_M_todo (sM_M_todos σ (gM_M_todos σ + 1)) (upd (aM_M_todo σ) (gM_M_todos σ).toNatClampNeg x)) (td + 1) x.toInt := by
  have e : (gM_M_todos σ).toNatClampNeg = td := by show (gM_M_todos σ).toInt.toNat = td; rw [h.2.1]; omega
  refine ⟨⟨rfl, fun y ⟨i, hi, hy⟩ => ⟨i, by omega, ?_⟩⟩, td, by omega, ?_⟩
  · show (upd (aM_M_todo σ) (gM_M_todos σ).toNatClampNeg x i).toInt = y
    rw [e, pq_upd_ne _ _ (by omega)]; exact hy
  · show (upd (aM_M_todo σ) (gM_M_todos σ).toNatClampNeg x td).toInt = x.toInt
    rw [e, pq_upd_eq]
def pq_P3 (σ : SM) (y : Int) (J : Int → Prop) : Prop := pq_kI σ y.toNat = 1 → pq_hI σ y.toNat ≠ -1 → J (pq_hI σ y.toNat)
def pq_P2 (σ : SM) (y : Int) (J : Int → Prop) : Prop := (pq_kI σ y.toNat = 1 ∨ pq_kI σ y.toNat = 2 ∧ 0 < pq_oI σ y.toNat) → J (pq_wI σ y.toNat)
def pq_P1 (σ : SM) (y : Int) (J : Int → Prop) : Prop := (pq_kI σ y.toNat = 4 ∨ pq_kI σ y.toNat = 8) → J (pq_oI σ y.toNat)
def pq_P0 (σ : SM) (y : Int) (J : Int → Prop) : Prop := pq_kI σ y.toNat = 4 → J (pq_oI σ y.toNat)
section II
variable {σ0 : SM} {N : Nat} {k34 : Int32 → Int32 → SM → Option (Int32 × SM)} {v1 v3 v4 v5 : Int32} {Q : Int32 → SM → Prop} {u B : Nat}
set_option maxRecDepth 100000 in
theorem pq_gIn_b205 (hT : pq_Tb σ0) (v : pq_vt σ0 v4.toInt) {σ : SM} {td : Nat} (h : pq_IsL σ0 σ td u) (hB : td < B) (ht : B ≤ 1999) (hk : ∀ (σ' : SM) (td' : Nat), pq_IsL σ0 σ' td' u → td' ≤ B → pq_Gw σ σ' td td' → pq_P3 σ0 v4.toInt (pq_In σ' td') → pq_Tot (k34 v1 v3 σ') Q) : pq_Tot (M_M_isIn_b205 N k34 v1 v3 v4 σ) Q := by
  rw [M_M_isIn_b205]
  have hc := pq_ck_vt (h.tb hT) (h.v v)
  have ek : (aM_M_kind σ v4.toNatClampNeg).toInt = pq_kI σ0 v4.toInt.toNat := h.ex.1.k v
  have eh : (aM_M_three σ v4.toNatClampNeg).toInt = pq_hI σ0 v4.toInt.toNat := h.ex.1.h v
  refine pq_Tot.ite1 hc (pq_Tot.ite (fun e => pq_Tot.ite1 hc (pq_Tot.ite (fun e3 => hk σ td h (by omega) pq_Gw.rf (fun _ z => absurd (by rw [← eh, e3]; rfl) z)) (fun e3 => ?_))) (fun n => hk σ td h (by omega) pq_Gw.rf (fun z _ => absurd (pq_iv_eq.2 (by rw [ek, z]; rfl)) n)))
  have vh : pq_vt σ0 (aM_M_three σ v4.toNatClampNeg).toInt := by
    rw [eh]; exact hT.h v (by rw [← ek, e]; rfl) (hT.hn v (by rw [← ek, e]; rfl) (fun z => e3 (pq_iv_eq.2 (by rw [eh, z]; rfl))))
  have g := h.g (aM_M_three σ v4.toNatClampNeg)
  exact pq_Tot.nm (pq_Tot.nm (pq_Tot.ite1 hc (pq_Tot.ite1 (h.ckx (by omega)) (pq_Tot.nm (hk _ (td + 1) (h.push (by omega) vh) (by omega) g.1 (fun _ _ => by rw [← eh]; exact g.2))))))
set_option maxRecDepth 100000 in
theorem pq_gIn_b182 (hT : pq_Tb σ0) (v : pq_vt σ0 v4.toInt) {σ : SM} {td : Nat} (h : pq_IsL σ0 σ td u) (hB : td + 1 < B) (ht : B ≤ 1999) (hw : pq_vt σ0 (pq_wI σ0 v4.toInt.toNat)) (hk : ∀ (σ' : SM) (td' : Nat), pq_IsL σ0 σ' td' u → td' ≤ B → pq_Gw σ σ' td td' → pq_In σ' td' (pq_wI σ0 v4.toInt.toNat) → pq_P3 σ0 v4.toInt (pq_In σ' td') → pq_Tot (k34 v1 v3 σ') Q) : pq_Tot (M_M_isIn_b182 N k34 v1 v3 v4 σ) Q := by
  rw [M_M_isIn_b182]
  have hc := pq_ck_vt (h.tb hT) (h.v v)
  have ew : (aM_M_two σ v4.toNatClampNeg).toInt = pq_wI σ0 v4.toInt.toNat := h.ex.1.w v
  have g := h.g (aM_M_two σ v4.toNatClampNeg)
  rw [ew] at g
  exact pq_Tot.nm (pq_Tot.nm (pq_Tot.ite1 hc (pq_Tot.ite1 (h.ckx (by omega)) (pq_Tot.nm (pq_gIn_b205 hT v (h.push (by omega) (by rw [ew]; exact hw)) (by omega) ht (fun σ' td' a b c d => hk σ' td' a b (g.1.tr c) (c.2 _ g.2) d))))))
set_option maxRecDepth 100000 in
theorem pq_gIn_b150 (hT : pq_Tb σ0) (v : pq_vt σ0 v4.toInt) {σ : SM} {td : Nat} (h : pq_IsL σ0 σ td u) (hB : td + 1 < B) (ht : B ≤ 1999) (hk : ∀ (σ' : SM) (td' : Nat), pq_IsL σ0 σ' td' u → td' ≤ B → pq_Gw σ σ' td td' → pq_P2 σ0 v4.toInt (pq_In σ' td') → pq_P3 σ0 v4.toInt (pq_In σ' td') → pq_Tot (k34 v1 v3 σ') Q) : pq_Tot (M_M_isIn_b150 N k34 v1 v3 v4 σ) Q := by
  rw [M_M_isIn_b150]
  have hc := pq_ck_vt (h.tb hT) (h.v v)
  have o := (hT.ok v).1
  have tl := pq_tn_lt v.1 v.2
  have ek : (aM_M_kind σ v4.toNatClampNeg).toInt = pq_kI σ0 v4.toInt.toNat := h.ex.1.k v
  have eo : (aM_M_one σ v4.toNatClampNeg).toInt = pq_oI σ0 v4.toInt.toNat := h.ex.1.o v
  refine pq_Tot.ite1 hc (pq_Tot.ite (fun e => ?_) (fun n1 => pq_Tot.ite1 hc (pq_Tot.ite (fun e => pq_Tot.ite1 hc (pq_Tot.ite (fun e1 => ?_) (fun e1 => ?_))) (fun n2 => ?_))))
  · have q := o.2.1 (by rw [← ek, e]; rfl)
    exact pq_gIn_b182 hT v h hB ht ⟨q.2.2.1, Int.lt_trans q.2.2.2.1 tl⟩ (fun σ' td' a b c d f => hk σ' td' a b c (fun _ => d) f)
  · refine pq_gIn_b205 hT v h (by omega) ht (fun σ' td' a b c d => hk σ' td' a b c (fun z => ?_) d)
    rw [pq_iv_le, pq_iv_0, eo] at e1
    have k2 : pq_kI σ0 v4.toInt.toNat = 2 := by rw [← ek, e]; rfl
    omega
  · rw [pq_iv_le, pq_iv_0, eo] at e1
    have q := (o.2.2.1 (by rw [← ek, e]; rfl)).2.2 (by omega)
    exact pq_gIn_b182 hT v h hB ht ⟨q.1, Int.lt_trans q.2 tl⟩ (fun σ' td' a b c d f => hk σ' td' a b c (fun _ => d) f)
  · refine pq_gIn_b205 hT v h (by omega) ht (fun σ' td' a b c d => hk σ' td' a b c (fun z => ?_) d)
    rcases z with z | z
    · exact absurd (pq_iv_eq.2 (by rw [ek, z]; rfl)) n1
    · exact absurd (pq_iv_eq.2 (by rw [ek, z.1]; rfl)) n2
set_option maxRecDepth 100000 in
theorem pq_gIn_b103 (hT : pq_Tb σ0) (v : pq_vt σ0 v4.toInt) {σ : SM} {td : Nat} (h : pq_IsL σ0 σ td u) (hB : td + 2 < B) (ht : B ≤ 1999) (hk : ∀ (σ' : SM) (td' : Nat), pq_IsL σ0 σ' td' u → td' ≤ B → pq_Gw σ σ' td td' → pq_P1 σ0 v4.toInt (pq_In σ' td') → pq_P2 σ0 v4.toInt (pq_In σ' td') → pq_P3 σ0 v4.toInt (pq_In σ' td') → pq_Tot (k34 v1 v3 σ') Q) : pq_Tot (M_M_isIn_b103 N k34 v1 v4 v3 σ) Q := by
  rw [M_M_isIn_b103]
  have hc := pq_ck_vt (h.tb hT) (h.v v)
  have o := (hT.ok v).1
  have tl := pq_tn_lt v.1 v.2
  have ek : (aM_M_kind σ v4.toNatClampNeg).toInt = pq_kI σ0 v4.toInt.toNat := h.ex.1.k v
  have eo : (aM_M_one σ v4.toNatClampNeg).toInt = pq_oI σ0 v4.toInt.toNat := h.ex.1.o v
  have b127 : pq_vt σ0 (pq_oI σ0 v4.toInt.toNat) → pq_Tot (M_M_isIn_b127 N k34 v1 v3 v4 σ) Q := fun ho => by
    rw [M_M_isIn_b127]
    have g := h.g (aM_M_one σ v4.toNatClampNeg)
    rw [eo] at g
    exact pq_Tot.nm (pq_Tot.nm (pq_Tot.ite1 hc (pq_Tot.ite1 (h.ckx (by omega)) (pq_Tot.nm (pq_gIn_b150 hT v (h.push (by omega) (by rw [eo]; exact ho)) (by omega) ht (fun σ' td' a b c d f => hk σ' td' a b (g.1.tr c) (fun _ => c.2 _ g.2) d f))))))
  refine pq_Tot.ite1 hc (pq_Tot.ite (fun e => ?_) (fun n4 => pq_Tot.ite1 hc (pq_Tot.ite (fun e => ?_) (fun n8 => ?_))))
  · have q := o.2.2.2.2.1 (by rw [← ek, e]; rfl)
    exact b127 ⟨q.1, Int.lt_trans q.2 tl⟩
  · have q := o.2.2.2.2.2.2.2 (by rw [← ek, e]; rfl)
    exact b127 ⟨q.1, Int.lt_trans q.2.1 tl⟩
  · refine pq_gIn_b150 hT v h (by omega) ht (fun σ' td' a b c d f => hk σ' td' a b c (fun z => ?_) d f)
    rcases z with z | z
    · exact absurd (pq_iv_eq.2 (by rw [ek, z]; rfl)) n4
    · exact absurd (pq_iv_eq.2 (by rw [ek, z]; rfl)) n8
set_option maxRecDepth 100000 in
theorem pq_gOf_b237 (hT : pq_Tb σ0) (v : pq_vt σ0 v4.toInt) (h5 : v5.toInt = pq_kI σ0 v4.toInt.toNat) {σ : SM} {td : Nat} (h : pq_IsL σ0 σ td u) (hB : td < B) (ht : B ≤ 1999) (hk : ∀ (σ' : SM) (td' : Nat), pq_IsL σ0 σ' td' u → td' ≤ B → pq_Gw σ σ' td td' → pq_P3 σ0 v4.toInt (pq_In σ' td') → pq_Tot (k34 v1 v3 σ') Q) : pq_Tot (M_M_isOfBefore_b237 N k34 v1 v3 v4 v5 σ) Q := by
  rw [M_M_isOfBefore_b237]
  have hc := pq_ck_vt (h.tb hT) (h.v v)
  have eh : (aM_M_three σ v4.toNatClampNeg).toInt = pq_hI σ0 v4.toInt.toNat := h.ex.1.h v
  refine pq_Tot.ite (fun e => pq_Tot.ite1 hc (pq_Tot.ite (fun e3 => hk σ td h (by omega) pq_Gw.rf (fun _ z => absurd (by rw [← eh, e3]; rfl) z)) (fun e3 => ?_))) (fun n => hk σ td h (by omega) pq_Gw.rf (fun z _ => absurd (pq_iv_eq.2 (by rw [h5, z]; rfl)) n))
  have k1 : pq_kI σ0 v4.toInt.toNat = 1 := by rw [← h5, e]; rfl
  have vh : pq_vt σ0 (aM_M_three σ v4.toNatClampNeg).toInt := by
    rw [eh]; exact hT.h v k1 (hT.hn v k1 (fun z => e3 (pq_iv_eq.2 (by rw [eh, z]; rfl))))
  have g := h.g (aM_M_three σ v4.toNatClampNeg)
  exact pq_Tot.nm (pq_Tot.nm (pq_Tot.ite1 hc (pq_Tot.ite1 (h.ckx (by omega)) (pq_Tot.nm (hk _ (td + 1) (h.push (by omega) vh) (by omega) g.1 (fun _ _ => by rw [← eh]; exact g.2))))))
set_option maxRecDepth 100000 in
theorem pq_gOf_b214 (hT : pq_Tb σ0) (v : pq_vt σ0 v4.toInt) (h5 : v5.toInt = pq_kI σ0 v4.toInt.toNat) {σ : SM} {td : Nat} (h : pq_IsL σ0 σ td u) (hB : td + 1 < B) (ht : B ≤ 1999) (hw : pq_vt σ0 (pq_wI σ0 v4.toInt.toNat)) (hk : ∀ (σ' : SM) (td' : Nat), pq_IsL σ0 σ' td' u → td' ≤ B → pq_Gw σ σ' td td' → pq_In σ' td' (pq_wI σ0 v4.toInt.toNat) → pq_P3 σ0 v4.toInt (pq_In σ' td') → pq_Tot (k34 v1 v3 σ') Q) : pq_Tot (M_M_isOfBefore_b214 N k34 v1 v3 v4 v5 σ) Q := by
  rw [M_M_isOfBefore_b214]
  have hc := pq_ck_vt (h.tb hT) (h.v v)
  have ew : (aM_M_two σ v4.toNatClampNeg).toInt = pq_wI σ0 v4.toInt.toNat := h.ex.1.w v
  have g := h.g (aM_M_two σ v4.toNatClampNeg)
  rw [ew] at g
  exact pq_Tot.nm (pq_Tot.nm (pq_Tot.ite1 hc (pq_Tot.ite1 (h.ckx (by omega)) (pq_Tot.nm (pq_gOf_b237 hT v h5 (h.push (by omega) (by rw [ew]; exact hw)) (by omega) ht (fun σ' td' a b c d => hk σ' td' a b (g.1.tr c) (c.2 _ g.2) d))))))
set_option maxRecDepth 100000 in
theorem pq_gOf_b192 (hT : pq_Tb σ0) (v : pq_vt σ0 v4.toInt) (h5 : v5.toInt = pq_kI σ0 v4.toInt.toNat) {σ : SM} {td : Nat} (h : pq_IsL σ0 σ td u) (hB : td + 1 < B) (ht : B ≤ 1999) (hk : ∀ (σ' : SM) (td' : Nat), pq_IsL σ0 σ' td' u → td' ≤ B → pq_Gw σ σ' td td' → pq_P2 σ0 v4.toInt (pq_In σ' td') → pq_P3 σ0 v4.toInt (pq_In σ' td') → pq_Tot (k34 v1 v3 σ') Q) : pq_Tot (M_M_isOfBefore_b192 N k34 v1 v3 v4 v5 σ) Q := by
  rw [M_M_isOfBefore_b192]
  have hc := pq_ck_vt (h.tb hT) (h.v v)
  have o := (hT.ok v).1
  have tl := pq_tn_lt v.1 v.2
  have eo : (aM_M_one σ v4.toNatClampNeg).toInt = pq_oI σ0 v4.toInt.toNat := h.ex.1.o v
  refine pq_Tot.ite (fun e => ?_) (fun n1 => pq_Tot.ite (fun e => pq_Tot.ite1 hc (pq_Tot.ite (fun e1 => ?_) (fun e1 => ?_))) (fun n2 => ?_))
  · have q := o.2.1 (by rw [← h5, e]; rfl)
    exact pq_gOf_b214 hT v h5 h hB ht ⟨q.2.2.1, Int.lt_trans q.2.2.2.1 tl⟩ (fun σ' td' a b c d f => hk σ' td' a b c (fun _ => d) f)
  · refine pq_gOf_b237 hT v h5 h (by omega) ht (fun σ' td' a b c d => hk σ' td' a b c (fun z => ?_) d)
    rw [pq_iv_le, pq_iv_0, eo] at e1
    have k2 : pq_kI σ0 v4.toInt.toNat = 2 := by rw [← h5, e]; rfl
    omega
  · rw [pq_iv_le, pq_iv_0, eo] at e1
    have q := (o.2.2.1 (by rw [← h5, e]; rfl)).2.2 (by omega)
    exact pq_gOf_b214 hT v h5 h hB ht ⟨q.1, Int.lt_trans q.2 tl⟩ (fun σ' td' a b c d f => hk σ' td' a b c (fun _ => d) f)
  · refine pq_gOf_b237 hT v h5 h (by omega) ht (fun σ' td' a b c d => hk σ' td' a b c (fun z => ?_) d)
    rcases z with z | z
    · exact absurd (pq_iv_eq.2 (by rw [h5, z]; rfl)) n1
    · exact absurd (pq_iv_eq.2 (by rw [h5, z.1]; rfl)) n2
set_option maxRecDepth 100000 in
theorem pq_gOf_b162 (hT : pq_Tb σ0) (v : pq_vt σ0 v4.toInt) (h5 : v5.toInt = pq_kI σ0 v4.toInt.toNat) {σ : SM} {td : Nat} (h : pq_IsL σ0 σ td u) (hB : td + 2 < B) (ht : B ≤ 1999) (hk : ∀ (σ' : SM) (td' : Nat), pq_IsL σ0 σ' td' u → td' ≤ B → pq_Gw σ σ' td td' → pq_P0 σ0 v4.toInt (pq_In σ' td') → pq_P2 σ0 v4.toInt (pq_In σ' td') → pq_P3 σ0 v4.toInt (pq_In σ' td') → pq_Tot (k34 v1 v3 σ') Q) : pq_Tot (M_M_isOfBefore_b162 N k34 v1 v4 v5 v3 σ) Q := by
  rw [M_M_isOfBefore_b162]
  have hc := pq_ck_vt (h.tb hT) (h.v v)
  have o := (hT.ok v).1
  have tl := pq_tn_lt v.1 v.2
  have eo : (aM_M_one σ v4.toNatClampNeg).toInt = pq_oI σ0 v4.toInt.toNat := h.ex.1.o v
  refine pq_Tot.ite (fun e => ?_) (fun n4 => pq_gOf_b192 hT v h5 h (by omega) ht (fun σ' td' a b c d f => hk σ' td' a b c (fun z => absurd (pq_iv_eq.2 (by rw [h5, z]; rfl)) n4) d f))
  have q := o.2.2.2.2.1 (by rw [← h5, e]; rfl)
  have g := h.g (aM_M_one σ v4.toNatClampNeg)
  rw [eo] at g
  exact pq_Tot.nm (pq_Tot.nm (pq_Tot.ite1 hc (pq_Tot.ite1 (h.ckx (by omega)) (pq_Tot.nm (pq_gOf_b192 hT v h5 (h.push (by omega) (by rw [eo]; exact ⟨q.1, Int.lt_trans q.2 tl⟩)) (by omega) ht (fun σ' td' a b c d f => hk σ' td' a b (g.1.tr c) (fun _ => c.2 _ g.2) d f))))))
end II
set_option maxRecDepth 100000 in
theorem pq_isSeen_ok2 {σ0 σ : SM} {td u : Nat} (hT : pq_Tb σ0) (h : pq_IsL σ0 σ td u) {x : Int32} (v : pq_vt σ0 x.toInt) :
    pq_Tot (M_M_isSeen x σ) (fun r τ => ((r = 0 ∧ ∃ u', u' + 1 = u ∧ pq_IsL σ0 τ td u') ∨ (r = 1 ∧ pq_IsL σ0 τ td u ∧ aM_M_seen σ x.toInt.toNat = gM_M_looks σ0)) ∧ aM_M_todo τ = aM_M_todo σ ∧ aM_M_seen τ = upd (aM_M_seen σ) x.toInt.toNat (gM_M_looks σ0)) := by
  obtain ⟨r, τ, e, q⟩ := pq_isSeen_ok hT h v
  have lk : gM_M_looks σ = gM_M_looks σ0 := h.1.1 5 (by decide)
  refine ⟨r, τ, e, ?_⟩
  have hc := pq_ck_vt (h.tb hT) (h.v v)
  rw [M_M_isSeen, if_pos hc] at e
  have xn : x.toNatClampNeg = x.toInt.toNat := rfl
  by_cases s : aM_M_seen σ x.toNatClampNeg = gM_M_looks σ
  · rw [if_pos s, M_M_isSeen_b18, if_pos hc] at e
    simp only [nm] at e
    rw [if_pos (by decide)] at e
    obtain ⟨rfl, rfl⟩ := Prod.mk.inj (Option.some.inj e)
    refine ⟨?_, rfl, by rw [← lk]; rfl⟩
    rcases q with q | q
    · exact absurd q.1 (by decide)
    · exact Or.inr ⟨q.1, q.2, by rw [← lk]; exact s⟩
  · rw [if_neg s, M_M_isSeen_b18, if_pos hc] at e
    simp only [nm] at e
    rw [if_pos (by decide)] at e
    obtain ⟨rfl, rfl⟩ := Prod.mk.inj (Option.some.inj e)
    refine ⟨?_, rfl, by rw [← lk]; rfl⟩
    rcases q with q | q
    · exact Or.inl q
    · exact absurd q.1 (by decide)
