variable {Z : Prop}
set_option maxRecDepth 100000 in
theorem pq_stk_ex {σ τ : SM} (h : pq_fr [6] [18, 19, 20] σ τ) : pq_Ex σ τ ∧ pq_tI τ = pq_tI σ := h.ex (by decide)
set_option maxRecDepth 100000 in
theorem pq_ar2 {k v : Int} (h : k ≤ v) (e : ¬ k = v) : k ≤ v - 1 := by omega
set_option maxRecDepth 100000 in
theorem pq_ar3 {a' : Nat} {a v w p : Int} (h : (a' : Int) + v + 1 ≤ a + p) (n1 : w = v - 1) : ((a' + 1 : Nat) : Int) + w + 1 ≤ a + p := by omega
set_option maxRecDepth 100000 in
theorem pq_ar4 {a a' c : Nat} {v p : Int} (hB : a + 2 * c ≤ 87) (h3 : (a' : Int) + v + 1 ≤ a + p) (hp : p ≤ 3) (z : ¬ v < 0) : a' + 1 + 2 * c ≤ 90 := by omega
set_option maxRecDepth 100000 in
theorem pq_ar5 {a a' c : Nat} {v p : Int} (hB : a + 2 * c ≤ 87) (h3 : (a' : Int) + v + 1 ≤ a + p) (hp : p ≤ 3) (z : ¬ v < 0) : a' < 1999 := by omega
set_option maxRecDepth 100000 in
theorem pq_ar1 {A a v w p n : Int} (n1 : w = v - 1) (h3 : A + v + 1 ≤ a + p) (z : ¬ v < 0) (h6 : v < p) (hn : v + 1 < n + 1) : A + w + 1 ≤ a + p ∧ -1 ≤ w ∧ w < p ∧ w + 1 < n := by omega
section AB
variable {σ0 : SM} {N : Nat} {k353 : Int32 → Int32 → SM → Option (Int32 × SM)} {v1 v2 v3 v5 : Int32} {Q : Int32 → SM → Prop} {a c g : Nat}
set_option maxRecDepth 100000 in
theorem pq_ab_L235 (hT : pq_Tb σ0) (hP : pq_Pb σ0) (v3v : pq_vt σ0 v3.toInt) (q3 : Z → pq_qI σ0 v3.toInt.toNat = 1) (h5 : v5.toInt = c) (hc : c < 40) (h2 : v2.toInt = g) (hg : g < 40) (hB : a + 2 * c ≤ 87)
    (hk : ∀ (σ' : SM) (a' : Nat), pq_fr [6] [18, 19, 20] σ0 σ' → pq_Top Z σ' a' c g → pq_Tot (k353 v1 v2 σ') Q) :
    ∀ (n : Nat) (v6 : Int32) (σ : SM) (a' : Nat), pq_fr [6] [18, 19, 20] σ0 σ → (gM_M_aboves σ).toInt = a' → a ≤ a' → (a' : Int) + v6.toInt + 1 ≤ a + pq_pmI σ0 c → -1 ≤ v6.toInt → v6.toInt < pq_pmI σ0 c →
      (a' = a → ∃ k : Nat, (k : Int) ≤ v6.toInt ∧ pq_rch σ0 (pq_oI σ0 (pq_prI σ0 (3 * c + k)).toNat).toNat g) → (a < a' → pq_Top Z σ a' c g) → v6.toInt + 1 < n → pq_Tot (M_M_aboveOf_L235 N k353 n v1 v2 v3 v5 v6 σ) Q := by
  intro n
  induction n with
  | zero => intro v6 σ a' _ _ _ _ _ _ _ _ h; omega
  | succ n ih =>
    intro v6 σ a' hf ha h1 h3 h4 h6 h7 h8 hn
    rw [M_M_aboveOf_L235]
    refine pq_Tot.ite (fun z => ?_) (fun z => ?_)
    · rw [pq_iv_lt, pq_iv_0] at z
      refine hk σ a' hf (h8 ?_)
      by_cases e : a' = a
      · obtain ⟨k, hk, _⟩ := h7 e; omega
      · omega
    rw [pq_iv_lt, pq_iv_0] at z
    have pq_pc := hP.1 c hc
    have pk := pq_pc.2.2.2 v6.toInt.toNat (by omega)
    have pq := hP.2.2 c hc v6.toInt.toNat (by omega)
    have ex := pq_stk_ex hf
    have hT' : pq_Tb σ := pq_Tb.ex ex.1 ex.2 hT
    have m3 : ((3 : Int32) * v5).toInt = 3 * c := by
      have : (3 : Int32).toInt = 3 := rfl
      rw [pq_iv_mul (by rw [h5, this]; omega) (by rw [h5, this]; omega), h5, this]
    have ix : ((3 : Int32) * v5 + v6).toInt = 3 * c + v6.toInt := by rw [pq_iv_add (by rw [m3]; omega) (by rw [m3]; omega), m3]
    have c1 : ck ((3 : Int32) * v5 + v6) 120 = true := pq_ck_mk (by rw [ix]; omega) (by rw [ix]; omega)
    have ixn : ((3 : Int32) * v5 + v6).toNatClampNeg = 3 * c + v6.toInt.toNat := by show ((3 : Int32) * v5 + v6).toInt.toNat = _; rw [ix]; omega
    have ey : (aM_M_parents σ ((3 : Int32) * v5 + v6).toNatClampNeg).toInt = pq_prI σ0 (3 * c + v6.toInt.toNat) := by
      rw [ixn]; show (σ.2.1 1 _).toInt = _; rw [hf.2.1 1 (by decide)]; rfl
    have pk' : pq_vt σ (pq_prI σ0 (3 * c + v6.toInt.toNat)) := ex.1.vt pk.1
    have cy : ck (aM_M_parents σ ((3 : Int32) * v5 + v6).toNatClampNeg) 500 = true := pq_ck_vt hT' (by rw [ey]; exact pk')
    have eo : (aM_M_one σ (aM_M_parents σ ((3 : Int32) * v5 + v6).toNatClampNeg).toNatClampNeg).toInt = pq_oI σ0 (pq_prI σ0 (3 * c + v6.toInt.toNat)).toNat := by
      rw [← ex.1.o pk.1, ← ey]; rfl
    have ck1 : ck (aM_M_one σ (aM_M_parents σ ((3 : Int32) * v5 + v6).toNatClampNeg).toNatClampNeg) 40 = true := pq_ck_mk (by rw [eo]; exact pk.2.2.1) (by rw [eo]; have := pk.2.2.2; omega)
    have up : aM_M_upward σ = aM_M_upward σ0 := by show σ.2.2 0 = _; rw [hf.2.2]
    have n1 : (v6 + (-1)).toInt = v6.toInt - 1 := by rw [pq_iv_add (by rw [pq_iv_m1]; omega) (by rw [pq_iv_m1]; omega), pq_iv_m1]; omega
    have ts := pq_tst (x := aM_M_upward σ (aM_M_one σ (aM_M_parents σ ((3 : Int32) * v5 + v6).toNatClampNeg).toNatClampNeg).toNatClampNeg ||| ((1 : Int64) <<< ((aM_M_one σ (aM_M_parents σ ((3 : Int32) * v5 + v6).toNatClampNeg).toNatClampNeg).toInt64 &&& 63))) (g := v2) (by omega) (by omega)
    have eon : (aM_M_one σ (aM_M_parents σ ((3 : Int32) * v5 + v6).toNatClampNeg).toNatClampNeg).toNatClampNeg = (pq_oI σ0 (pq_prI σ0 (3 * c + v6.toInt.toNat)).toNat).toNat := by rw [← eo]; rfl
    have rc : pq_bt (aM_M_upward σ (aM_M_one σ (aM_M_parents σ ((3 : Int32) * v5 + v6).toNatClampNeg).toNatClampNeg).toNatClampNeg ||| ((1 : Int64) <<< ((aM_M_one σ (aM_M_parents σ ((3 : Int32) * v5 + v6).toNatClampNeg).toNatClampNeg).toInt64 &&& 63))) v2.toInt.toNat ↔ pq_rch σ0 (pq_oI σ0 (pq_prI σ0 (3 * c + v6.toInt.toNat)).toNat).toNat g := by
      rw [pq_bt_or, pq_bt_one (by rw [eo]; exact pk.2.2.1) (by rw [eo]; have := pk.2.2.2; omega), eon, eo, up, h2]
      rw [show (g : Int).toNat = g by omega]
      exact ⟨fun h => h.elim Or.inr (fun e => Or.inl e.symm), fun h => h.elim (fun e => Or.inr e.symm) Or.inl⟩
    rw [rc] at ts
    refine pq_Tot.ite1 c1 (pq_Tot.nm (pq_Tot.ite1 cy (pq_Tot.ite1 ck1 (pq_Tot.ite1 cy (pq_Tot.ite (fun zt => ?_) (fun zt => ?_))))))
    · have nr := ts.1 zt
      clear zt ts rc eon up ck1 eo cy ey c1 ixn ix m3
      rw [M_M_aboveOf_b347]
      obtain ⟨b1, b2, b3, b4⟩ := pq_ar1 n1 h3 z h6 (show v6.toInt + 1 < (n : Int) + 1 from hn)
      refine pq_Tot.nm (ih (v6 + (-1)) σ a' hf ha h1 b1 b2 b3 (fun e => ?_) h8 b4)
      obtain ⟨k, hk', hr⟩ := h7 e
      refine ⟨k, ?_, hr⟩
      rw [n1]
      by_cases ek : (k : Int) = v6.toInt
      · have : v6.toInt.toNat = k := by rw [← ek]; rfl
        rw [this] at nr
        exact absurd hr nr
      · exact pq_ar2 hk' ek
    · have hr : pq_rch σ0 (pq_oI σ0 (pq_prI σ0 (3 * c + v6.toInt.toNat)).toNat).toNat g := Classical.byContradiction (fun w => zt (ts.2 w))
      clear zt ts rc eon up ck1 eo cy c1 ixn ix m3
      have go : ∀ (x y z : Int32), (z = 0 ∧ x.toInt = pq_prI σ0 (3 * c + v6.toInt.toNat) ∨ z = 1 ∧ y.toInt = pq_prI σ0 (3 * c + v6.toInt.toNat) ∨ z = 2 ∧ x = v3 ∧ pq_kI σ0 v3.toInt.toNat = 1 ∧ y.toInt = pq_prI σ0 (3 * c + v6.toInt.toNat)) →
          pq_Tot (bd (M_M_push x y z σ) (fun (_ : Unit) (σ16 : SM) => M_M_aboveOf_b347 N (M_M_aboveOf_L235 N k353 n) v1 v2 v3 v5 v6 σ16)) Q := by
        intro x y zz hz
        have z6 := z
        refine pq_Tot.bd (pq_push_ok ha (pq_ar5 hB h3 pq_pc.2.1 z6) x y zz) (fun _ τ hp => ?_)
        obtain ⟨p1, p2, p3, p4, p5⟩ := hp
        have ex2 := pq_stk_ex p1
        have e3 := ex.1.tr ex2.1
        rw [M_M_aboveOf_b347]
        obtain ⟨b1, b2, b3, b4⟩ := pq_ar1 n1 h3 z6 h6 (show v6.toInt + 1 < (n : Int) + 1 from hn)
        refine pq_Tot.nm (ih (v6 + (-1)) τ (a' + 1) (hf.tr p1) p2 (Nat.le_succ_of_le h1) (pq_ar3 h3 n1) b2 b3 (fun e => absurd h1 (by rw [← e]; exact Nat.not_succ_le_self _)) (fun _ => ?_) b4)
        refine ⟨Nat.le_add_left _ _, p2, pq_ar4 hB h3 pq_pc.2.1 z6, (pq_oI σ0 (pq_prI σ0 (3 * c + v6.toInt.toNat)).toNat).toNat, by omega, by omega, ?_, ?_, ?_⟩
        · rw [e3.1]
          have o := (hT.ok pk.1).1
          have := pk.2.2.1
          rcases pk.2.1 with k0 | k1
          · have := (o.1 k0).2; omega
          · have := (o.2.1 k1).2.1; omega
        · rw [pq_rch, show aM_M_upward τ = aM_M_upward σ0 by show τ.2.2 0 = _; rw [(hf.tr p1).2.2]]; exact hr
        · have en : ((pq_oI σ0 (pq_prI σ0 (3 * c + v6.toInt.toNat)).toNat).toNat : Int) = pq_oI σ0 (pq_prI σ0 (3 * c + v6.toInt.toNat)).toNat := by have := pk.2.2.1; omega
          rw [show a' + 1 - 1 = a' by omega, pq_Ent, p3, p4, p5, en]
          rcases hz with hz | hz | hz
          · left
            rw [hz.2, e3.k pk.1, e3.o pk.1, e3.q pk.1]
            exact ⟨hz.1, e3.vt pk.1, pk.2.1, rfl, fun _ => pq⟩
          · right; left
            rw [hz.2, e3.o pk.1]
            exact ⟨hz.1, e3.vt pk.1, rfl⟩
          · right; right
            rw [hz.2.1, hz.2.2.2, e3.k pk.1, e3.o pk.1, e3.k v3v, e3.q v3v, e3.q pk.1]
            exact ⟨hz.1, e3.vt v3v, hz.2.2.1, e3.vt pk.1, pk.2.1, rfl, q3, pq⟩
      have c3 := pq_ck_vt hT' (ex.1.vt v3v)
      have c5 : ck v5 40 = true := pq_ck_mk (by omega) (by omega)
      refine pq_Tot.ite1 c3 (pq_Tot.ite (fun e1 => go _ _ 2 (Or.inr (Or.inr ⟨rfl, rfl, ?_, ey⟩))) (fun _ => pq_Tot.ite1 c5 (pq_Tot.ite (fun ep => ?_) (fun ep => ?_))))
      · rw [← ex.1.k v3v]; exact pq_eqI e1
      · rw [M_M_aboveOf_b327]
        exact pq_Tot.ite1 c5 (pq_Tot.ite1 ep (go _ _ 0 (Or.inl ⟨rfl, ey⟩)))
      · rw [M_M_aboveOf_b327]
        exact pq_Tot.ite1 c5 (pq_Tot.ite2 ep (go _ _ 1 (Or.inr (Or.inl ⟨rfl, ey⟩))))
end AB
