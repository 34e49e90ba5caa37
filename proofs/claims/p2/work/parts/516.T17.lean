variable {Z : Prop}
def pq_cw (σ : SM) (t : Int) : Int := if pq_wI σ t.toNat = 0 then pq_wI σ (pq_oI σ t.toNat).toNat else pq_hI σ (pq_oI σ t.toNat).toNat
def pq_Cls (σ : SM) (t c : Int) : Prop := ∀ P : Int → Int → Prop, (∀ t : Int, (pq_kI σ t.toNat = 0 ∨ pq_kI σ t.toNat = 1) → P t (pq_oI σ t.toNat)) → (∀ t c : Int, pq_kI σ t.toNat = 8 → pq_oI σ (pq_cw σ t).toNat = 1 → P (pq_wI σ (pq_cw σ t).toNat) c → P t c) → P t c
set_option maxRecDepth 100000 in
theorem pq_Cls.base {σ : SM} {t : Int} (k : pq_kI σ t.toNat = 0 ∨ pq_kI σ t.toNat = 1) : pq_Cls σ t (pq_oI σ t.toNat) := fun _ b _ => b t k
set_option maxRecDepth 100000 in
theorem pq_Cls.up {σ : SM} {t c : Int} (k1 : pq_kI σ t.toNat = 8) (k2 : pq_oI σ (pq_cw σ t).toNat = 1) (h : pq_Cls σ (pq_wI σ (pq_cw σ t).toNat) c) : pq_Cls σ t c := fun P b u => u t c k1 k2 (h P b u)
set_option maxRecDepth 100000 in
theorem pq_Cls.rc {σ : SM} {t c : Int} (h : pq_Cls σ t c) (P : Int → Int → Prop) (b : ∀ t : Int, (pq_kI σ t.toNat = 0 ∨ pq_kI σ t.toNat = 1) → P t (pq_oI σ t.toNat)) (u : ∀ t c : Int, pq_kI σ t.toNat = 8 → pq_oI σ (pq_cw σ t).toNat = 1 → pq_Cls σ (pq_wI σ (pq_cw σ t).toNat) c → P (pq_wI σ (pq_cw σ t).toNat) c → P t c) : P t c :=
  (h (fun t c => pq_Cls σ t c ∧ P t c) (fun t k => ⟨pq_Cls.base k, b t k⟩) (fun t c k1 k2 z => ⟨pq_Cls.up k1 k2 z.1, u t c k1 k2 z.1 z.2⟩)).2
set_option maxRecDepth 100000 in
theorem pq_Cls.inv {σ : SM} {t c : Int} (h : pq_Cls σ t c) : ((pq_kI σ t.toNat = 0 ∨ pq_kI σ t.toNat = 1) ∧ c = pq_oI σ t.toNat) ∨ (pq_kI σ t.toNat = 8 ∧ pq_oI σ (pq_cw σ t).toNat = 1 ∧ pq_Cls σ (pq_wI σ (pq_cw σ t).toNat) c) :=
  h.rc (fun t c => ((pq_kI σ t.toNat = 0 ∨ pq_kI σ t.toNat = 1) ∧ c = pq_oI σ t.toNat) ∨ (pq_kI σ t.toNat = 8 ∧ pq_oI σ (pq_cw σ t).toNat = 1 ∧ pq_Cls σ (pq_wI σ (pq_cw σ t).toNat) c)) (fun _ k => Or.inl ⟨k, rfl⟩) (fun _ _ k1 k2 z _ => Or.inr ⟨k1, k2, z⟩)
set_option maxRecDepth 100000 in
theorem pq_cw_ok {σ : SM} (h : pq_Tb σ) {t : Int} (v : pq_vt σ t) (k : pq_kI σ t.toNat = 8) : pq_vt σ (pq_oI σ t.toNat) ∧ pq_kI σ (pq_oI σ t.toNat).toNat = 1 ∧ pq_vt σ (pq_cw σ t) ∧ pq_kI σ (pq_cw σ t).toNat = 2 ∧ (0 < pq_oI σ (pq_cw σ t).toNat → pq_vt σ (pq_wI σ (pq_cw σ t).toNat) ∧ pq_dI σ (pq_wI σ (pq_cw σ t).toNat).toNat < pq_dI σ t.toNat) ∧ (pq_qI σ t.toNat = 1 → pq_qI σ (pq_cw σ t).toNat = 1) := by
  have o := (h.ok v).1.2.2.2.2.2.2.2 k
  have d := (h.ok v).2.2.2.2.2.2 k
  have tl := pq_tn_lt v.1 v.2
  have vo : pq_vt σ (pq_oI σ t.toNat) := ⟨o.1, Int.lt_trans o.2.1 tl⟩
  have ko := o.2.2.1
  have dk := (h.ok vo).2.2.2.1 ko
  have key : pq_vt σ (pq_cw σ t) ∧ pq_kI σ (pq_cw σ t).toNat = 2 ∧ pq_dI σ (pq_cw σ t).toNat < pq_dI σ (pq_oI σ t.toNat).toNat ∧ (pq_qI σ (pq_oI σ t.toNat).toNat = 1 → pq_qI σ (pq_cw σ t).toNat = 1) := by
    rw [pq_cw]
    rcases o.2.2.2 with y | y
    · rw [if_pos y.1]; exact ⟨h.w vo ko, y.2, dk.1, fun z => (((h.pk vo).one.1 z).2.1 ko).1⟩
    · rw [if_neg (by omega)]; exact ⟨h.h vo ko y.2.1, y.2.2, dk.2 y.2.1, fun z => (((h.pk vo).one.1 z).2.1 ko).2 y.2.1⟩
  refine ⟨vo, ko, key.1, key.2.1, fun z => ?_, fun z => key.2.2.2 (((h.pk v).one.1 z).2.2.2.2 k)⟩
  have w := ((h.ok key.1).1.2.2.1 key.2.1).2.2 z
  have wl := pq_tn_lt key.1.1 key.1.2
  have wd := (h.ok key.1).2.2.2.2.1 key.2.1 z
  exact ⟨⟨w.1, Int.lt_trans w.2 wl⟩, Int.lt_trans wd (Int.lt_trans key.2.2.1 d)⟩
set_option maxRecDepth 100000 in
theorem pq_cw_ex {σ τ : SM} (h : pq_Tb σ) (e : pq_Ex σ τ) {t : Int} (v : pq_vt σ t) (k : pq_kI σ t.toNat = 8) : pq_cw τ t = pq_cw σ t := by
  have c := pq_cw_ok h v k
  rw [pq_cw, pq_cw, e.w v, e.o v, e.w c.1, e.h c.1]
set_option maxRecDepth 100000 in
theorem pq_Cls.ex {σ τ : SM} (hT : pq_Tb σ) (e : pq_Ex σ τ) {t c : Int} (h : pq_Cls σ t c) : pq_vt σ t → pq_Cls τ t c := by
  refine h.rc (fun t c => pq_vt σ t → pq_Cls τ t c) ?_ ?_
  · intro t k v; rw [← e.o v]; exact pq_Cls.base (by rw [e.k v]; exact k)
  · intro t c k1 k2 _ ih v
    have cc := pq_cw_ok hT v k1
    refine pq_Cls.up (by rw [e.k v]; exact k1) ?_ ?_
    · rw [pq_cw_ex hT e v k1, e.o cc.2.2.1]; exact k2
    · rw [pq_cw_ex hT e v k1, e.w cc.2.2.1]; exact ih (cc.2.2.2.2.1 (by omega)).1
set_option maxRecDepth 100000 in
theorem pq_Cls.of {σ τ : SM} (hT : pq_Tb σ) (e : pq_Ex σ τ) {t c : Int} (h : pq_Cls τ t c) : pq_vt σ t → pq_Cls σ t c := by
  refine h.rc (fun t c => pq_vt σ t → pq_Cls σ t c) ?_ ?_
  · intro t k v; rw [e.o v]; rw [e.k v] at k; exact pq_Cls.base k
  · intro t c k1 k2 _ ih v
    rw [e.k v] at k1
    have cc := pq_cw_ok hT v k1
    rw [pq_cw_ex hT e v k1] at k2 ih
    rw [e.o cc.2.2.1] at k2
    rw [e.w cc.2.2.1] at ih
    exact pq_Cls.up k1 k2 (ih (cc.2.2.2.2.1 (by omega)).1)
def pq_fc (σ : SM) (t : Int) (g : Nat) : Prop := ∃ c, pq_Cls σ t c ∧ pq_rch σ c.toNat g
def pq_fnd (σ : SM) (t : Int) (g : Nat) : Prop := (g = 0 ∧ pq_kI σ t.toNat ≠ 5) ∨ pq_fc σ t g
set_option maxRecDepth 100000 in
theorem pq_fnd.ex {σ τ : SM} (hT : pq_Tb σ) (e : pq_Ex σ τ) (u : τ.2.2 = σ.2.2) {t : Int} (v : pq_vt σ t) (g : Nat) : pq_fnd τ t g ↔ pq_fnd σ t g := by
  have r : ∀ c, pq_rch τ c g ↔ pq_rch σ c g := fun c => by rw [pq_rch, pq_rch, show aM_M_upward τ = aM_M_upward σ by show τ.2.2 0 = _; rw [u]]
  rw [pq_fnd, pq_fnd, e.k v]
  refine or_congr Iff.rfl ⟨?_, ?_⟩
  · rintro ⟨c, h, z⟩; exact ⟨c, h.of hT e v, (r _).1 z⟩
  · rintro ⟨c, h, z⟩; exact ⟨c, h.ex hT e v, (r _).2 z⟩
set_option maxRecDepth 100000 in
theorem pq_fc_base {σ : SM} {t : Int} {g : Nat} (k : pq_kI σ t.toNat = 0 ∨ pq_kI σ t.toNat = 1) : pq_fc σ t g ↔ pq_rch σ (pq_oI σ t.toNat).toNat g := by
  constructor
  · rintro ⟨c, h, z⟩
    rcases h.inv with ⟨_, e⟩ | ⟨k1, _, _⟩
    · rw [← e]; exact z
    · omega
  · intro h; exact ⟨_, pq_Cls.base k, h⟩
set_option maxRecDepth 100000 in
theorem pq_fc_cap {σ : SM} {t : Int} {g : Nat} (k : pq_kI σ t.toNat = 8) : pq_fc σ t g ↔ (pq_oI σ (pq_cw σ t).toNat = 1 ∧ pq_fc σ (pq_wI σ (pq_cw σ t).toNat) g) := by
  constructor
  · rintro ⟨c, h, z⟩
    rcases h.inv with ⟨k1, _⟩ | ⟨_, k2, h⟩
    · omega
    · exact ⟨k2, c, h, z⟩
  · rintro ⟨k2, c, h, z⟩; exact ⟨c, pq_Cls.up k k2 h, z⟩
set_option maxRecDepth 100000 in
theorem pq_fc_no {σ : SM} {t : Int} {g : Nat} (k0 : pq_kI σ t.toNat ≠ 0) (k1 : pq_kI σ t.toNat ≠ 1) (k8 : pq_kI σ t.toNat ≠ 8) : ¬ pq_fc σ t g := by
  rintro ⟨c, h, z⟩
  rcases h.inv with ⟨k, _⟩ | ⟨k, _, _⟩
  · exact k.elim k0 k1
  · exact k8 k
section AN
variable {N : Nat} {k353 : Int32 → Int32 → SM → Option (Int32 × SM)} {v1 v2 v3 v5 : Int32} {Q : Int32 → SM → Prop} {c g : Nat} {σ : SM}
set_option maxRecDepth 100000 in
theorem pq_ab_L235n (hT : pq_Tb σ) (hP : pq_Pb σ) (h5 : v5.toInt = c) (hc : c < 40) (h2 : v2.toInt = g) (hg : g < 40) (hk : pq_Tot (k353 v1 v2 σ) Q)
    (hno : ∀ k : Nat, (k : Int) < pq_pmI σ c → ¬ pq_rch σ (pq_oI σ (pq_prI σ (3 * c + k)).toNat).toNat g) :
    ∀ (n : Nat) (v6 : Int32), -1 ≤ v6.toInt → v6.toInt < pq_pmI σ c → v6.toInt + 1 < n → pq_Tot (M_M_aboveOf_L235 N k353 n v1 v2 v3 v5 v6 σ) Q := by
  intro n
  induction n with
  | zero => intro v6 _ _ h; omega
  | succ n ih =>
    intro v6 h4 h6 hn
    rw [M_M_aboveOf_L235]
    refine pq_Tot.ite (fun _ => hk) (fun z => ?_)
    rw [pq_iv_lt, pq_iv_0] at z
    have pq_pc := hP.1 c hc
    have pk := pq_pc.2.2.2 v6.toInt.toNat (by omega)
    have no := hno v6.toInt.toNat (by omega)
    have m3 : ((3 : Int32) * v5).toInt = 3 * c := by
      have : (3 : Int32).toInt = 3 := rfl
      rw [pq_iv_mul (by rw [h5, this]; omega) (by rw [h5, this]; omega), h5, this]
    have ix : ((3 : Int32) * v5 + v6).toInt = 3 * c + v6.toInt := by rw [pq_iv_add (by rw [m3]; omega) (by rw [m3]; omega), m3]
    have c1 : ck ((3 : Int32) * v5 + v6) 120 = true := pq_ck_mk (by rw [ix]; omega) (by rw [ix]; omega)
    have ixn : ((3 : Int32) * v5 + v6).toNatClampNeg = 3 * c + v6.toInt.toNat := by show ((3 : Int32) * v5 + v6).toInt.toNat = _; rw [ix]; omega
    have ey : (aM_M_parents σ ((3 : Int32) * v5 + v6).toNatClampNeg).toInt = pq_prI σ (3 * c + v6.toInt.toNat) := by
      rw [ixn]; rfl
    have cy : ck (aM_M_parents σ ((3 : Int32) * v5 + v6).toNatClampNeg) 500 = true := pq_ck_vt hT (by rw [ey]; exact pk.1)
    have eo : (aM_M_one σ (aM_M_parents σ ((3 : Int32) * v5 + v6).toNatClampNeg).toNatClampNeg).toInt = pq_oI σ (pq_prI σ (3 * c + v6.toInt.toNat)).toNat := by
      rw [← ey]; rfl
    have ck1 : ck (aM_M_one σ (aM_M_parents σ ((3 : Int32) * v5 + v6).toNatClampNeg).toNatClampNeg) 40 = true := pq_ck_mk (by rw [eo]; exact pk.2.2.1) (by rw [eo]; have := pk.2.2.2; omega)
    have n1 : (v6 + (-1)).toInt = v6.toInt - 1 := by rw [pq_iv_add (by rw [pq_iv_m1]; omega) (by rw [pq_iv_m1]; omega), pq_iv_m1]; omega
    have ts := pq_tst (x := aM_M_upward σ (aM_M_one σ (aM_M_parents σ ((3 : Int32) * v5 + v6).toNatClampNeg).toNatClampNeg).toNatClampNeg ||| ((1 : Int64) <<< ((aM_M_one σ (aM_M_parents σ ((3 : Int32) * v5 + v6).toNatClampNeg).toNatClampNeg).toInt64 &&& 63))) (g := v2) (by omega) (by omega)
    have eon : (aM_M_one σ (aM_M_parents σ ((3 : Int32) * v5 + v6).toNatClampNeg).toNatClampNeg).toNatClampNeg = (pq_oI σ (pq_prI σ (3 * c + v6.toInt.toNat)).toNat).toNat := by rw [← eo]; rfl
    have rc : pq_bt (aM_M_upward σ (aM_M_one σ (aM_M_parents σ ((3 : Int32) * v5 + v6).toNatClampNeg).toNatClampNeg).toNatClampNeg ||| ((1 : Int64) <<< ((aM_M_one σ (aM_M_parents σ ((3 : Int32) * v5 + v6).toNatClampNeg).toNatClampNeg).toInt64 &&& 63))) v2.toInt.toNat ↔ pq_rch σ (pq_oI σ (pq_prI σ (3 * c + v6.toInt.toNat)).toNat).toNat g := by
      rw [pq_bt_or, pq_bt_one (by rw [eo]; exact pk.2.2.1) (by rw [eo]; have := pk.2.2.2; omega), eon, eo, h2]
      rw [show (g : Int).toNat = g by omega]
      exact ⟨fun h => h.elim Or.inr (fun e => Or.inl e.symm), fun h => h.elim (fun e => Or.inr e.symm) Or.inl⟩
    rw [rc] at ts
    have zt := ts.2 no
    refine pq_Tot.ite1 c1 (pq_Tot.nm (pq_Tot.ite1 cy (pq_Tot.ite1 ck1 (pq_Tot.ite1 cy (pq_Tot.ite1 zt ?_)))))
    clear zt ts rc eon ck1 eo cy ey c1 ixn ix m3
    rw [M_M_aboveOf_b347]
    exact pq_Tot.nm (ih (v6 + (-1)) (by omega) (by omega) (by omega))
end AN
