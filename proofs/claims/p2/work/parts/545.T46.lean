variable {cc : Int}
section JG
variable {N : Nat} {D : Int} {σ : SM}
abbrev pq_LJ : List Nat := [1, 2, 3, 5, 6, 7, 8, 9, 10, 11, 12, 13, 14, 15, 16]
set_option maxRecDepth 100000 in
theorem pq_judge_L22 {Q : Int32 → SM → Prop} {k57 : Int32 → SM → Option (Int32 × SM)} {σ0 : SM} {v1 : Int32} (hN : 3000 ≤ N) (hT : pq_Tb σ0) (hB : pq_Bd σ0)
    (hk : ∀ σ', pq_fr [] [15] σ0 σ' → pq_OwOk False σ' (-1) → pq_Tot (k57 v1 σ') Q) :
    ∀ (n : Nat) (v2 : Int32) (σ : SM), pq_fr [] [15] σ0 σ → 0 ≤ v2.toInt → v2.toInt ≤ 12 → (∀ k : Nat, (k : Int) < v2.toInt → aM_M_inPlace σ k = -1 ∨ pq_vt σ0 (aM_M_inPlace σ k).toInt) → 12 - v2.toInt < n → pq_Tot (M_M_judge_L22 N k57 n v1 v2 σ) Q := by
  intro n
  induction n with
  | zero => intro v2 σ _ _ _ _ h; omega
  | succ n ih =>
    intro v2 σ f z0 z1 hin hn
    rw [M_M_judge_L22]
    have t12 : (12 : Int32).toInt = 12 := rfl
    have ex := f.ex (by decide)
    have bg := pq_BG.fr f (by decide) (by decide) (by decide) (by decide)
    refine pq_Tot.ite (fun le => hk σ f (Or.inl ⟨rfl, fun k hk' => ?_⟩)) (fun lt => ?_)
    · rw [pq_iv_le, t12] at le
      exact (hin k (by omega)).imp id ex.1.vt
    rw [pq_iv_le, t12] at lt
    have e2 : (v2 + 1).toInt = v2.toInt + 1 := pq_iv_add (by rw [pq_iv_1]; omega) (by rw [pq_iv_1]; omega)
    have go : ∀ s : Int32, (s = -1 ∨ pq_vt σ0 s.toInt) → pq_Tot (M_M_judge_b50 N (M_M_judge_L22 N k57 n) v1 v2 s v2 σ) Q := fun s hs => by
      rw [M_M_judge_b50]
      refine pq_Tot.ite1 (pq_ck_mk z0 (by omega)) (pq_Tot.nm (pq_Tot.nm (ih (v2 + 1) _ (pq_fr.t f (by decide) _) (by omega) (by omega) (fun k hk' => ?_) (by omega))))
      show upd (aM_M_inPlace σ) v2.toInt.toNat s k = -1 ∨ pq_vt σ0 (upd (aM_M_inPlace σ) v2.toInt.toNat s k).toInt
      rw [upd]; split
      · exact hs
      · exact hin k (by omega)
    refine pq_Tot.ite (fun _ => go (-1) (Or.inl rfl)) (fun _ => pq_Tot.bd (pq_instanceOf_ok (by omega) (pq_Tb.ex ex.1 ex.2 hT) (hB.ex ex.1 bg.1 bg.2)) (fun r τ hr => ?_))
    obtain ⟨rfl, hr⟩ := hr
    refine go r ?_
    rcases hr with hr | hr
    · exact Or.inl hr.1
    · exact Or.inr ⟨hr.2.1.1, by rw [← ex.2]; exact hr.2.1.2⟩
set_option maxRecDepth 100000 in
theorem pq_judge_go (hN : 20002 ≤ N) (h : pq_Wc D cc σ) (hD : D + pq_CC + 3000 < 4294967296) (x : Int32) : pq_Go (D + pq_CC) cc (M_M_judge N x σ) := by
  rw [pq_Go, M_M_judge]
  have cn : pq_CC = 8372000 := rfl
  have w := h.le (show D ≤ D + pq_CC by omega)
  obtain ⟨pq_hI, ⟨K, k1, k2⟩, hcc⟩ := h
  have pn := pq_Ph_nn pq_hI
  refine pq_Tot.ite (fun _ => pq_Tot.ret w) (fun n0 => pq_Tot.ite (fun lt => pq_Tot.bd (pq_begin_ok (-1) σ) (fun _ σ2 h2 => ?_)) (fun _ => pq_Tot.ret w))
  rw [pq_iv_lt, pq_iv_0] at n0
  rw [pq_iv_lt] at lt
  have te : (gM_M_told σ).toInt = pq_tdI σ := rfl
  have tb := pq_hI.2.2.2.2.2.2.2.2.1
  have cx : ck x 60 = true := pq_ck_mk (by omega) (by omega)
  obtain ⟨f2, nf2, ic2⟩ := h2
  have ex := f2.ex (by decide)
  obtain ⟨w2, bg2, b2⟩ := pq_hI.wo k1 ex.1 ex.2 f2 (by decide) (by decide) (by decide) (by decide) (by decide) (by decide) (by decide) (by decide) ic2
  have told := pq_hI.2.2.2.2.2.2.2.2.2.1 x.toInt.toNat (by omega)
  have b147 : ∀ (σe : SM) (s : Int32), pq_Wo (K + 780002) σe → pq_Ex σ σe → pq_fr pq_LJ pq_AG σ σe → pq_BG σ σe → pq_bI σe = pq_bI σ → pq_Tot (M_M_judge_b147 N s σe) (fun _ τ => pq_Wc (D + pq_CC) cc τ) := fun σe s we exe fe bge be => by
    rw [M_M_judge_b147]
    refine pq_Tot.nm (pq_Tot.nm (pq_Tot.nm ?_))
    generalize hτ : sM_M_judging _ _ = τ
    have fτ : pq_fr [2, 11] [] σe τ := by rw [← hτ]; exact pq_fr.s (pq_fr.s pq_fr.rf (by decide) _) (by decide) _
    have nfτ : ¬ pq_fl τ := by rw [← hτ]; exact fun z => z rfl
    clear hτ
    have exτ := fτ.ex (by decide)
    have bgτ := pq_BG.fr fτ (by decide) (by decide) (by decide) (by decide)
    have exσ : pq_Ex σ τ := exe.tr exτ.1
    have fσ : pq_fr pq_LJ pq_AG σ τ := fe.tr (fτ.up (by decide) (by decide))
    have q := pq_frI fσ
    obtain ⟨K', k3, k4⟩ := we.2.2.2.1
    have ice := we.2.2.2.2.1
    have bτ : pq_bI τ = pq_bI σ := bgτ.2.trans be
    have heτ : pq_heI τ = pq_heI σ := q.2.2.1 (by decide)
    have hIτ := pq_hI.fin (τ := τ) (pq_Tb.ex exτ.1 exτ.2 we.1) exσ (fσ.up (by decide) (by decide)) (we.2.2.1.ex exτ.1 bgτ.1 bgτ.2) (bge.tr bgτ.1) (by rw [(pq_frI fτ).2.2.2.2.2.1 (by decide)]; exact ice) (by rw [heτ, bτ]; exact pq_hI.2.2.2.2.2.2.1) nfτ (by rw [q.2.2.2.1 (by decide)]; exact tb) (fun i hi => by
      rw [q.2.2.2.1 (by decide)] at hi
      rw [q.2.2.2.2.2.2.1 (by decide), q.2.2.2.2.2.2.2 (by decide)]
      have t := pq_hI.2.2.2.2.2.2.2.2.2.1 i hi
      exact ⟨exσ.vt t.1, exσ.vt t.2⟩) (fun z => by rw [bτ]; exact pq_hI.2.2.2.2.2.2.2.2.2.2.2 z)
    have wτ : pq_Wc (D + pq_CC) cc τ := by
      refine ⟨hIτ.1, ⟨K', k4.fr fτ (by decide) (by decide), ?_⟩, exσ.1.trans hcc⟩
      have r : pq_RC * (pq_Us τ : Int) ≤ pq_RC * (pq_Us σ : Int) := Int.mul_le_mul_of_nonneg_left (by have := hIτ.2.2; omega) (by decide)
      have key : (if gM_M_state σ = 0 then pq_RC * (pq_Us τ : Int) else 0) ≤ (if gM_M_state σ = 0 then pq_RC * (pq_Us σ : Int) else 0) := by
        by_cases s : gM_M_state σ = 0
        · rw [if_pos s, if_pos s]; exact r
        · rw [if_neg s, if_neg s]; exact Int.le_refl _
      rw [pq_Ph] at k2 ⊢
      rw [hIτ.2.1, bτ, heτ, q.2.2.2.2.1 (by decide)]
      omega
    exact pq_Tot.ite (fun _ => pq_Tot.ite (fun _ => pq_Tot.ret wτ) (fun _ => pq_Tot.ite (fun _ => pq_Tot.ret wτ) (fun _ => pq_Tot.ret wτ))) (fun _ => pq_Tot.ret wτ)
  have b146 : ∀ (σe : SM), pq_Wo (K + 780002) σe → pq_Ex σ σe → pq_fr pq_LJ pq_AG σ σe → pq_BG σ σe → pq_bI σe = pq_bI σ → pq_Tot (M_M_judge_b146 N σe) (fun _ τ => pq_Wc (D + pq_CC) cc τ) := fun σe a b c d e => by
    rw [M_M_judge_b146]; exact b147 σe 0 a b c d e
  have b91 : ∀ (σe : SM) (a b : Int32), pq_Wo (K + 780002) σe → pq_Ex σ σe → pq_fr pq_LJ pq_AG σ σe → pq_BG σ σe → pq_bI σe = pq_bI σ → (¬ pq_fl σe → pq_vt σe a.toInt ∧ pq_vt σe b.toInt) → pq_Tot (M_M_judge_b91 N x a b σe) (fun _ τ => pq_Wc (D + pq_CC) cc τ) := fun σe a b we exe fe bge be hab => by
    rw [M_M_judge_b91]
    refine pq_Tot.nm (pq_Tot.nm ?_)
    generalize hτ : sM_M_metVariable _ _ = σ12
    have f12 : pq_fr [11, 12] [] σe σ12 := by rw [← hτ]; exact pq_fr.s (pq_fr.s pq_fr.rf (by decide) _) (by decide) _
    clear hτ
    have q12 := we.cell f12 (by decide) (by decide) (by decide) (by decide) (by decide) (by decide) (by decide) (by decide) (by decide) (by decide)
    have ex12 := exe.tr q12.2.1
    have fe12 : pq_fr pq_LJ pq_AG σ σ12 := fe.tr (f12.up (by decide) (by decide))
    have bg12 := bge.tr q12.2.2.1
    have be12 := q12.2.2.2.trans be
    have stop := b146 σ12 q12.1 ex12 fe12 bg12 be12
    refine pq_Tot.ite (fun f0 => ?_) (fun _ => stop)
    have nfe : ¬ pq_fl σe := by rw [pq_fl, ← show gM_M_full σ12 = gM_M_full σe from f12.1 2 (by decide)]; exact fun z => z f0
    have vab := hab nfe
    have va := q12.2.1.vt vab.1
    have vb := q12.2.1.vt vab.2
    refine pq_Tot.ite1 (pq_ck_vt q12.1.1 va) (pq_Tot.ite (fun _ => stop) (fun pa => pq_Tot.ite1 (pq_ck_vt q12.1.1 vb) (pq_Tot.ite (fun _ => stop) (fun pb => pq_Tot.ite1 cx ?_))))
    have pa' : pq_qI σ12 a.toInt.toNat = 1 := ((q12.1.1.pk va).b).elim (fun z => absurd (pq_iv_eq.2 (show (aM_M_proper σ12 a.toNatClampNeg).toInt = (0 : Int32).toInt from z)) pa) id
    have pb' : pq_qI σ12 b.toInt.toNat = 1 := ((q12.1.1.pk vb).b).elim (fun z => absurd (pq_iv_eq.2 (show (aM_M_proper σ12 b.toNatClampNeg).toInt = (0 : Int32).toInt from z)) pb) id
    refine pq_Tot.bd (q12.1.less (Z := True) hN (by omega) (fun _ => ⟨va, vb, fun _ => ⟨pa', pb'⟩⟩)) (fun r τ hr => ?_)
    obtain ⟨l1, l2, l3, l4, l5⟩ := hr
    have exτ := ex12.tr l3.1
    have fτ : pq_fr pq_LJ pq_AG σ τ := fe12.tr (l3.2.1.up (by decide) (fun _ z => z))
    have bτ := bg12.tr l3.2.2
    have beτ := (l5 trivial).trans be12
    exact pq_Tot.ite (fun _ => b146 τ l2 exτ fτ bτ beτ) (fun _ => b147 τ 1 l2 exτ fτ bτ beτ)
  refine pq_judge_L22 (by omega) w2.1 w2.2.2.1 (fun σ3 f3 ho => ?_) N 0 σ2 pq_fr.rf (by decide) (by decide) (fun k hk => by rw [pq_iv_0] at hk; omega) (by rw [pq_iv_0]; omega)
  have q3 := w2.cell f3 (by decide) (by decide) (by decide) (by decide) (by decide) (by decide) (by decide) (by decide) (by decide) (by decide)
  have nf3 : ¬ pq_fl σ3 := by rw [pq_fl, show gM_M_full σ3 = gM_M_full σ2 from f3.1 2 (by decide)]; exact nf2
  have ex3 := ex.1.tr q3.2.1
  have fe3 : pq_fr pq_LJ pq_AG σ σ3 := (f2.up (by decide) (by decide)).tr (f3.up (by decide) (by decide))
  have bg3 := bg2.tr q3.2.2.1
  have be3 := q3.2.2.2.trans b2
  have q := pq_frI fe3
  rw [M_M_judge_b57]
  have vl : pq_vt σ3 (aM_M_toldLeft σ3 x.toNatClampNeg).toInt := by
    show pq_vt σ3 (pq_tlI σ3 x.toInt.toNat)
    rw [q.2.2.2.2.2.2.1 (by decide)]; exact ex3.vt told.1
  refine pq_Tot.ite1 cx (pq_Tot.bd (q3.1.replaced (by omega) (by omega) nf3 ho vl) (fun r7 σ8 h8 => ?_))
  obtain ⟨c1, c2, c3, c4, c5, c6⟩ := h8
  have ex8 := ex3.tr c2.1
  have fe8 : pq_fr pq_LJ pq_AG σ σ8 := fe3.tr (c2.2.1.up (by decide) (fun _ z => z))
  have bg8 := bg3.tr c2.2.2
  have be8 := c3.trans be3
  refine pq_Tot.ite (fun f0 => pq_Tot.ite1 cx ?_) (fun nf => b91 σ8 r7 (-1) (c1.le (by omega)) ex8 fe8 bg8 be8 (fun z => absurd nf z))
  have nf8 : ¬ pq_fl σ8 := fun z => z f0
  have ho8 : pq_OwOk False σ8 (-1) := ho.ex c2.1 (c4.2.1 15 (by decide))
  have vr : pq_vt σ8 (aM_M_toldRight σ8 x.toNatClampNeg).toInt := by
    show pq_vt σ8 (pq_trI σ8 x.toInt.toNat)
    rw [(pq_frI fe8).2.2.2.2.2.2.2 (by decide)]; exact ex8.vt told.2
  refine pq_Tot.bd (c1.replaced (by omega) (by omega) nf8 ho8 vr) (fun r9 σ10 h10 => ?_)
  obtain ⟨d1, d2, d3, d4, d5, d6⟩ := h10
  exact b91 σ10 r7 r9 (d1.le (by omega)) (ex8.tr d2.1) (fe8.tr (d2.2.1.up (by decide) (fun _ z => z))) (bg8.tr d2.2.2) (d3.trans be8) (fun nf => ⟨d2.1.vt (c6 nf8), d6 nf⟩)
end JG
