set_option maxRecDepth 100000 in
theorem pq_Okk.any {σ : SM} {T b c : Int} : pq_Okk σ T 2 0 b c :=
  ⟨fun e => absurd e (by decide), fun e => absurd e (by decide), fun _ => ⟨by decide, by decide, fun e => absurd e (by decide)⟩, fun e => absurd e (by decide), fun e => absurd e (by decide), fun e => absurd e (by decide), fun e => absurd e (by decide), fun e => absurd e (by decide)⟩
set_option maxRecDepth 100000 in
theorem pq_any_q {τ : SM} (h : pq_Tb τ) {r : Int} (v : pq_vt τ r) (k : pq_kI τ r.toNat = 2) (o : pq_oI τ r.toNat = 0) : pq_qI τ r.toNat = 1 := by
  refine (h.pk v).one.2 ?_
  rw [k, o]
  exact ⟨by decide, fun e => absurd e (by decide), fun _ e => absurd e (by decide), fun e => absurd e (by decide), fun e => absurd e (by decide)⟩
set_option maxRecDepth 100000 in
theorem pq_Gn.up2 {σ τ : SM} (g : pq_Gn σ τ) : τ.2.2 = σ.2.2 := g.2.1.2.2
section JO
variable {N : Nat} {g : Nat} {v1 : Int32}
def pq_Ar (σ : SM) (a : Int) : Prop := pq_vt σ a ∧ pq_qI σ a.toNat = 1
set_option maxRecDepth 100000 in
theorem pq_Ar.ex {σ τ : SM} {a : Int} (h : pq_Ar σ a) (e : pq_Ex σ τ) : pq_Ar τ a := ⟨e.vt h.1, by rw [e.q h.1]; exact h.2⟩
set_option maxRecDepth 100000 in
theorem pq_jo_b204 {B : Int} {σ : SM} (hN : 501 ≤ N) (e1 : v1.toInt = g) (h : pq_Wo B σ) (hg : (9 : Int) ≤ g ∧ (g : Int) < pq_cI σ) {a b : Int32} (ha : ¬ pq_fl σ → pq_Ar σ a.toInt ∧ (b = -1 ∧ pq_pI σ g = 1 ∨ pq_Ar σ b.toInt ∧ pq_pI σ g = 2)) : pq_Tot (M_M_joined_b204 N v1 a b σ) (pq_Ch B σ) := by
  rw [M_M_joined_b204]
  refine pq_Tot.ite (fun f0 => ?_) (fun _ => pq_Tot.ret ⟨h, pq_Gn.rf, fun _ => rfl, fun z => absurd rfl z⟩)
  have nf : ¬ pq_fl σ := fun z => z f0
  obtain ⟨q1, q2⟩ := ha nf
  refine pq_Tot.bd (h.make hN (fun _ => ?_)) (fun r τ hr => pq_Tot.ret ?_)
  · refine ⟨fun e => absurd e (by decide), fun _ => ?_, fun e => absurd e (by decide), fun e => absurd e (by decide), fun e => absurd e (by decide), fun e => absurd e (by decide), fun e => absurd e (by decide), fun e => absurd e (by decide)⟩
    rw [e1]
    refine ⟨hg.1, hg.2, q1.1.1, q1.1.2, ?_⟩
    rcases q2 with y | y
    · exact Or.inl ⟨by rw [y.1]; rfl, y.2⟩
    · exact Or.inr ⟨y.1.1.1, y.1.1.2, y.2⟩
  · obtain ⟨b1, b2, b3, b4, b5, b6, b7⟩ := hr
    refine ⟨b1, b2, b6, fun ne => ?_⟩
    have nf' : ¬ pq_fl τ := fun z => ne (b6 z)
    obtain ⟨x, p1, p2, p3, p4⟩ := b7 nf'
    refine ⟨x, (b1.1.pk x).one.2 ?_⟩
    rw [p1, p2, p3, p4]
    refine ⟨by decide, fun _ => ⟨?_, fun z => ?_⟩, fun e => absurd e (by decide), fun e => absurd e (by decide), fun e => absurd e (by decide)⟩
    · rw [b2.1.q q1.1]; exact q1.2
    · rcases q2 with y | y
      · rw [y.1] at z; exact absurd z (by decide)
      · rw [b2.1.q y.1.1]; exact y.1.2
set_option maxRecDepth 100000 in
theorem pq_Ch.pre {B : Int} {σ σ' τ : SM} {r : Int32} (h : pq_Ch B σ' r τ) (g : pq_Gn σ σ') : pq_Ch B σ r τ := ⟨h.1, g.tr h.2.1, h.2.2⟩
set_option maxRecDepth 100000 in
theorem pq_jo_any {B : Int} {σ : SM} (hN : 501 ≤ N) (h : pq_Wo B σ) : pq_Tot (M_M_make N 2 0 (-1) (-1) σ) (fun r τ => pq_Wo B τ ∧ pq_Gn σ τ ∧ (pq_fl σ → pq_fl τ) ∧ (¬ pq_fl τ → pq_Ar τ r.toInt)) := by
  refine (h.make hN (fun _ => pq_Okk.any)).mono (fun r τ hr => ?_)
  obtain ⟨b1, b2, b3, b4, b5, b6, b7⟩ := hr
  refine ⟨b1, b2, b5, fun nf => ?_⟩
  obtain ⟨x, p1, p2, p3, p4⟩ := b7 nf
  exact ⟨x, pq_any_q b1.1 x p1 p2⟩
set_option maxRecDepth 100000 in
theorem pq_jo_b155 {B : Int} {σ : SM} (hN : 501 ≤ N) (e1 : v1.toInt = g) (h : pq_Wo B σ) (nf : ¬ pq_fl σ) (hg : (9 : Int) ≤ g ∧ (g : Int) < pq_cI σ) {v2 v3 v4 v5 : Int32} (ha : pq_Ar σ v2.toInt) (hb : v3 = -1 ∧ pq_pI σ g = 1 ∨ pq_Ar σ v3.toInt ∧ pq_pI σ g = 2) : pq_Tot (M_M_joined_b155 N v1 v2 v3 v4 v5 σ) (pq_Ch B σ) := by
  have c40 := h.1.2.1
  have b172 : ∀ (τ : SM) (s : Int32), pq_Wo B τ → pq_Gn σ τ → (¬ pq_fl τ → pq_Ar τ s.toInt) → pq_Tot (M_M_joined_b172 N v1 v3 v5 s τ) (pq_Ch B σ) := fun τ s w gn hs => by
    rw [M_M_joined_b172]
    have hg' : (9 : Int) ≤ g ∧ (g : Int) < pq_cI τ := by rw [gn.1.1]; exact hg
    have pe : (aM_M_parameters τ v1.toNatClampNeg).toInt = pq_pI σ g := by
      rw [← gn.1.2.1 g]; show pq_pI τ v1.toInt.toNat = _; rw [e1]; rfl
    refine pq_Tot.ite1 (pq_ck_mk (by omega) (by omega)) (pq_Tot.ite (fun e => ?_) (fun ne => ?_))
    · refine (pq_jo_b204 hN e1 w hg' (fun nf' => ⟨hs nf', Or.inl ⟨rfl, ?_⟩⟩)).mono (fun r υ hr => hr.pre gn)
      rw [gn.1.2.1, ← pe, e]; rfl
    · have hb' : pq_Ar σ v3.toInt ∧ pq_pI σ g = 2 := by
        rcases hb with y | y
        · exact absurd (pq_iv_eq.2 (by rw [pe, y.2]; rfl)) ne
        · exact y
      refine pq_Tot.ite (fun _ => pq_Tot.bd (pq_jo_any hN w) (fun r υ hr => ?_)) (fun _ => ?_)
      · refine (pq_jo_b204 hN e1 hr.1 (by rw [hr.2.1.1.1]; exact hg') (fun nf' => ⟨?_, Or.inr ⟨hr.2.2.2 nf', ?_⟩⟩)).mono (fun r υ' hr' => hr'.pre (gn.tr hr.2.1))
        · exact (hs (fun z => nf' (hr.2.2.1 z))).ex hr.2.1.1
        · rw [hr.2.1.1.2.1, gn.1.2.1]; exact hb'.2
      · exact (pq_jo_b204 hN e1 w hg' (fun nf' => ⟨hs nf', Or.inr ⟨hb'.1.ex gn.1, by rw [gn.1.2.1]; exact hb'.2⟩⟩)).mono (fun r υ hr => hr.pre gn)
  rw [M_M_joined_b155]
  exact pq_Tot.ite (fun _ => pq_Tot.bd (pq_jo_any hN h) (fun r τ hr => b172 τ r hr.1 hr.2.1 hr.2.2.2)) (fun _ => b172 σ v2 h pq_Gn.rf (fun _ => ha))
set_option maxRecDepth 100000 in
theorem pq_jo_plain {B : Int} {σ : SM} {c : Int32} (hN : 501 ≤ N) (h : pq_Wo B σ) (hc : 0 ≤ c.toInt ∧ c.toInt < pq_cI σ) : pq_Tot (M_M_plainOf N c σ) (pq_Ch B σ) := by
  refine (h.plain hN (fun _ => hc)).mono (fun r τ hr => ?_)
  obtain ⟨b1, b2, b3, b4, b5, b6, b7⟩ := hr
  refine ⟨b1, b2, b6, fun ne => ?_⟩
  have x := b7 (fun z => ne (b6 z))
  exact ⟨x.1, pq_plain_q b1.1 x.1 x.2.1⟩
set_option maxRecDepth 100000 in
theorem pq_jo_L28 {BB : Int} (hN : 20002 ≤ N) (hBB : BB + 100 < 4294967296) (e1 : v1.toInt = g) : ∀ (n : Nat) (v2 v3 v4 v5 v6 : Int32) (σ : SM) (B : Int), pq_Wo B σ → ¬ pq_fl σ → pq_Sm σ → 1 ≤ pq_smI σ → (9 : Int) ≤ g ∧ (g : Int) < pq_cI σ → (∀ i : Nat, (i : Int) < pq_smI σ → pq_fnd σ (pq_soI σ i) g) → 0 ≤ v6.toInt → v6.toInt ≤ pq_smI σ → (0 < v6.toInt → pq_Ar σ v2.toInt ∧ (v3 = -1 ∧ pq_pI σ g = 1 ∨ pq_Ar σ v3.toInt ∧ pq_pI σ g = 2)) → B + 39 * (pq_smI σ - v6.toInt) ≤ BB → pq_smI σ - v6.toInt < n → pq_Tot (M_M_joined_L28 N (M_M_joined_b155 N) (M_M_joined_b71 N) n v1 v2 v3 v4 v5 v6 σ) (pq_Ch BB σ) := by
  intro n
  induction n with
  | zero => intro v2 v3 v4 v5 v6 σ B _ _ _ _ _ _ _ _ _ _ h; omega
  | succ n ih =>
    intro v2 v3 v4 v5 v6 σ B h nf sm s1 hg hfn z0 z1 har hb hn
    rw [M_M_joined_L28]
    refine pq_Tot.ite (fun le => ?_) (fun lt => ?_)
    · rw [pq_iv_le] at le
      have : (gM_M_someMany σ).toInt = pq_smI σ := rfl
      have q := har (by omega)
      exact pq_jo_b155 (by omega) e1 (h.le (by omega)) nf hg q.1 q.2
    rw [pq_iv_le] at lt
    have lt' : v6.toInt < pq_smI σ := by simp only [pq_smI]; omega
    have s2 := sm.2.1
    have c6 : ck v6 200 = true := pq_ck_mk z0 (by omega)
    have e6 : (v6 + 1).toInt = v6.toInt + 1 := pq_iv_add (by rw [pq_iv_1]; omega) (by rw [pq_iv_1]; omega)
    have p := sm.2.2 v6.toInt.toNat (by omega)
    have fn := hfn v6.toInt.toNat (by omega)
    refine pq_Tot.ite1 c6 (pq_Tot.bd (h.above (by omega) (by omega) nf p.1 e1 hg.2) (fun r τ hr => ?_))
    obtain ⟨b1, b2, b3, b4, b5⟩ := hr
    have b1' : pq_Wo BB τ := b1.le (by omega)
    refine pq_Tot.ite (fun f0 => ?_) (fun _ => pq_Tot.ret ⟨b1', b2, fun _ => rfl, fun z => absurd rfl z⟩)
    have nf' : ¬ pq_fl τ := fun z => z f0
    obtain ⟨x1, x2, x3, x4⟩ := (b5 nf').1 fn
    have cr := pq_ck_vt b1.1 x1
    have hg' : (9 : Int) ≤ g ∧ (g : Int) < pq_cI τ := by rw [b2.1.1]; exact hg
    refine pq_Tot.ite1 cr (pq_Tot.ite (fun k1 => ?_) (fun _ => ?_))
    · have k1' : pq_kI τ r.toInt.toNat = 1 := pq_eqI k1
      have q := sm.gn b2
      have ok := (b1.1.ok x1).1.2.1 k1'
      have pr' := x4 p.2.1
      have nx : ∀ s s' : Int32, pq_Tot (M_M_joined_b131 N (M_M_joined_L28 N (M_M_joined_b155 N) (M_M_joined_b71 N) n) v1 s v6 r s' τ) (pq_Ch BB σ) := fun s s' => by
        rw [M_M_joined_b131]
        refine pq_Tot.ite1 cr (pq_Tot.nm (pq_Tot.ite1 cr (pq_Tot.nm (pq_Tot.nm ?_))))
        refine (ih _ _ s s' (v6 + 1) τ _ b1 nf' q.1 (by omega) hg' (fun i hi => ?_) (by omega) (by omega) (fun _ => ⟨⟨b1.1.w x1 k1', b1.1.q2 x1 k1' pr'⟩, ?_⟩) (by omega) (by omega)).mono (fun r υ hr => hr.pre b2)
        · rw [q.2.2, pq_fnd.ex h.1 b2.1 b2.up2 (sm.2.2 i (by omega)).1]; exact hfn i (by omega)
        · rw [x3] at ok
          rcases ok.2.2.2.2 with y | y
          · exact Or.inl ⟨pq_iv_eq.2 y.1, y.2⟩
          · exact Or.inr ⟨⟨b1.1.h x1 k1' y.1, b1.1.q3 x1 k1' y.1 pr'⟩, y.2.2⟩
      have b103 : ∀ s : Int32, pq_Tot (M_M_joined_b103 N (M_M_joined_L28 N (M_M_joined_b155 N) (M_M_joined_b71 N) n) v1 v3 v5 v6 r s τ) (pq_Ch BB σ) := fun s => by
        rw [M_M_joined_b103]
        exact pq_Tot.ite (fun _ => nx s 1) (fun _ => pq_Tot.ite (fun _ => nx s 0) (fun _ => pq_Tot.ite1 cr (pq_Tot.ite (fun _ => nx s 1) (fun _ => nx s 0))))
      exact pq_Tot.ite (fun _ => b103 1) (fun _ => pq_Tot.ite (fun _ => b103 0) (fun _ => pq_Tot.ite1 cr (pq_Tot.ite (fun _ => b103 1) (fun _ => b103 0))))
    · rw [M_M_joined_b71]
      exact pq_Tot.bd (pq_jo_plain (by omega) b1' ⟨by omega, by omega⟩) (fun r υ hr => pq_Tot.ret (hr.pre b2))
set_option maxRecDepth 100000 in
theorem pq_joined_ok {B : Int} {σ : SM} (hN : 20002 ≤ N) (hB : B + 7800 + 100 < 4294967296) (e1 : v1.toInt = g) (h : pq_Wo B σ) (nf : ¬ pq_fl σ) (sm : pq_Sm σ) (s1 : 1 ≤ pq_smI σ) (hg : (g : Int) < pq_cI σ) (hfn : ∀ i : Nat, (i : Int) < pq_smI σ → pq_fnd σ (pq_soI σ i) g) : pq_Tot (M_M_joined N v1 σ) (pq_Ch (B + 7800) σ) := by
  rw [M_M_joined]
  have c40 := h.1.2.1
  refine pq_Tot.ite1 (pq_ck_mk (by omega) (by omega)) (pq_Tot.ite (fun _ => pq_Tot.bd (pq_jo_plain (by omega) (h.le (by omega)) ⟨by omega, by omega⟩) (fun r τ hr => pq_Tot.ret hr)) (fun np => ?_))
  have g9 : 9 ≤ g := Classical.byContradiction (fun z => np (pq_iv_eq.2 (by
    show pq_pI σ v1.toInt.toNat = 0
    rw [e1]; exact h.2.2.2.2.2 g (by omega))))
  have s2 := sm.2.1
  exact pq_jo_L28 hN (by omega) e1 N _ _ _ _ 0 σ B h nf sm s1 ⟨by omega, hg⟩ hfn (by decide) (by rw [pq_iv_0]; exact sm.1) (fun z => by rw [pq_iv_0] at z; omega) (by rw [pq_iv_0]; omega) (by rw [pq_iv_0]; omega)
end JO
