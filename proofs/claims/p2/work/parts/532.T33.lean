set_option maxRecDepth 100000 in
theorem pq_un_out2 {f : Nat → Int32} {l v : Int32} {i : Nat} : ∀ n, n ≤ i → pq_un (upd f i v) l n = pq_un f l n
  | 0, _ => rfl
  | n + 1, h => by rw [pq_un, pq_un, pq_un_out2 n (by omega), pq_upd_ne f v (by omega : n ≠ i)]
set_option maxRecDepth 100000 in
theorem pq_un_set {f : Nat → Int32} {l v : Int32} {i : Nat} (hf : f i = l) (hv : v ≠ l) : ∀ n, i < n → pq_un (upd f i v) l n = pq_un f l n + 1
  | 0, h => absurd h (Nat.not_lt_zero _)
  | n + 1, h => by
    rw [pq_un, pq_un]
    by_cases e : n = i
    · subst e
      rw [pq_un_out2 n (Nat.le_refl _), pq_upd_eq, if_neg hv, if_pos hf]
    · rw [pq_upd_ne f v e]
      have := pq_un_set hf hv n (by omega)
      omega
def pq_vaI (σ : SM) : Int := (gM_M_variables σ).toInt
abbrev pq_LD : List Nat := [3, 5]
abbrev pq_AD : List Nat := [9, 17, 37]
def pq_De (x : Nat) (σ0 σ : SM) (B : Int) (m : Nat) : Prop :=
  pq_Wo B σ ∧ pq_fr pq_LD pq_AD σ0 σ ∧ pq_un (aM_M_with σ) 0 12 = m ∧ aM_M_with σ x ≠ 0 ∧ ∀ z : Nat, z < 12 → aM_M_with σ z ≠ 0 → z = x ∨ (aM_M_settled σ0 z = 0 ∧ (z : Int) < pq_vaI σ0)
set_option maxRecDepth 100000 in
theorem pq_De.le {x : Nat} {σ0 σ : SM} {B B' : Int} {m : Nat} (h : pq_De x σ0 σ B m) (k : B ≤ B') : pq_De x σ0 σ B' m := ⟨h.1.le k, h.2⟩
set_option maxRecDepth 100000 in
theorem pq_De.lo {x : Nat} {σ0 σ τ : SM} {B B' : Int} {m : Nat} (h : pq_De x σ0 σ B m) (l : pq_Lo B' σ τ) : pq_De x σ0 τ B' m := by
  have w : aM_M_with τ = aM_M_with σ := l.2.2.1 37 (by decide)
  obtain ⟨h1, h2, h3, h4, h5⟩ := h
  refine ⟨l.1, h2.tr (l.2.up (by decide) (by decide)), by rw [w]; exact h3, by rw [w]; exact h4, by rw [w]; exact h5⟩
set_option maxRecDepth 100000 in
theorem pq_De.va {x : Nat} {σ0 σ : SM} {B : Int} {m : Nat} (h : pq_De x σ0 σ B m) : gM_M_variables σ = gM_M_variables σ0 := h.2.1.1 4 (by decide)
set_option maxRecDepth 100000 in
theorem pq_De.st {x : Nat} {σ0 σ : SM} {B : Int} {m : Nat} (h : pq_De x σ0 σ B m) : aM_M_settled σ = aM_M_settled σ0 := h.2.1.2.1 36 (by decide)
set_option maxRecDepth 100000 in
theorem pq_De.m12 {x : Nat} {σ0 σ : SM} {B : Int} {m : Nat} (h : pq_De x σ0 σ B m) : m ≤ 12 := by rw [← h.2.2.1]; exact pq_un_le _ _ _
set_option maxRecDepth 100000 in
theorem pq_De.add {x : Nat} {σ0 σ : SM} {B : Int} {m : Nat} (h : pq_De x σ0 σ B m) {z : Nat} (hz : z < 12) (w0 : aM_M_with σ z = 0) (hs : aM_M_settled σ0 z = 0) (hv : (z : Int) < pq_vaI σ0) {v : Int32} (v1 : v ≠ 0) :
    pq_De x σ0 (tM_M_with σ (upd (aM_M_with σ) z v)) B (m + 1) := by
  obtain ⟨h1, h2, h3, h4, h5⟩ := h
  have f : pq_fr [] [37] σ (tM_M_with σ (upd (aM_M_with σ) z v)) := pq_fr.t pq_fr.rf (by decide) _
  have q := h1.cell f (by decide) (by decide) (by decide) (by decide) (by decide) (by decide) (by decide) (by decide) (by decide) (by decide)
  refine ⟨q.1, h2.tr (f.up (by decide) (by decide)), ?_, ?_, fun y hy wy => ?_⟩
  · show pq_un (upd (aM_M_with σ) z v) 0 12 = m + 1
    rw [pq_un_set w0 v1 12 hz, h3]
  · show upd (aM_M_with σ) z v x ≠ 0
    rw [upd]; split
    · exact v1
    · exact h4
  · by_cases e : y = z
    · exact Or.inr ⟨by rw [e]; exact hs, by rw [e]; exact hv⟩
    · refine h5 y hy ?_
      have : upd (aM_M_with σ) z v y ≠ 0 := wy
      rw [pq_upd_ne _ _ e] at this; exact this
def pq_zr (f : Nat → Int32) (a : Nat) : Int := (12 - (a : Int)) - ((pq_un f 0 12 : Int) - (pq_un f 0 a : Int))
set_option maxRecDepth 100000 in
theorem pq_un_diff (f : Nat → Int32) (l : Int32) {a : Nat} : ∀ b, a ≤ b → pq_un f l b ≤ pq_un f l a + (b - a)
  | 0, h => by have : a = 0 := by omega
               subst this; omega
  | b + 1, h => by
    by_cases e : a = b + 1
    · subst e; omega
    · rw [pq_un]
      have := pq_un_diff f l b (by omega : a ≤ b)
      split <;> omega
set_option maxRecDepth 100000 in
theorem pq_zr_nn (f : Nat → Int32) {a : Nat} (h : a ≤ 12) : 0 ≤ pq_zr f a := by
  have := pq_un_diff f 0 12 h
  rw [pq_zr]; omega
set_option maxRecDepth 100000 in
theorem pq_zr_s0 {f : Nat → Int32} {a : Nat} (h : f a = 0) : pq_zr f (a + 1) = pq_zr f a - 1 := by
  have e : pq_un f 0 (a + 1) = pq_un f 0 a := by rw [pq_un, if_pos h, Nat.add_zero]
  rw [pq_zr, pq_zr, e]; omega
set_option maxRecDepth 100000 in
theorem pq_zr_s1 {f : Nat → Int32} {a : Nat} (h : f a ≠ 0) : pq_zr f (a + 1) = pq_zr f a := by
  have e : pq_un f 0 (a + 1) = pq_un f 0 a + 1 := by rw [pq_un, if_neg h]
  rw [pq_zr, pq_zr, e]; omega
set_option maxRecDepth 100000 in
theorem pq_zr_upd {f : Nat → Int32} {a : Nat} {v : Int32} (h : f a = 0) (hv : v ≠ 0) (ha : a < 12) : pq_zr (upd f a v) (a + 1) = pq_zr f (a + 1) := by
  rw [pq_zr, pq_zr, pq_un_set h hv 12 ha, pq_un_set h hv (a + 1) (by omega)]; omega
def pq_Tz : Nat → Int
  | 0 => 0
  | k + 1 => pq_Tz k + 2400 * ((k : Int) + 1)
set_option maxRecDepth 100000 in
theorem pq_Tz_nn : ∀ k, 0 ≤ pq_Tz k
  | 0 => Int.le_refl _
  | k + 1 => by rw [pq_Tz]; have := pq_Tz_nn k; omega
set_option maxRecDepth 100000 in
theorem pq_Tz11 : pq_Tz 11 = 158400 := by decide
set_option maxRecDepth 100000 in
theorem pq_Tz_mono {a b : Nat} (h : a ≤ b) : pq_Tz a ≤ pq_Tz b := by
  induction h with
  | refl => exact Int.le_refl _
  | step _ ih => rw [pq_Tz]; omega
section DD
variable {N : Nat} {σ0 : SM} {x : Nat} {Q : Int32 → SM → Prop}
set_option maxRecDepth 100000 in
theorem pq_dep_L55 (hN : 3000 ≤ N) (hv : 0 ≤ pq_vaI σ0 ∧ pq_vaI σ0 ≤ 12) {v4 : Int32} (h4 : 0 ≤ v4.toInt ∧ v4.toInt < 12) {BB : Int} (hBB : BB + 300 < 4294967296) {m0 : Nat} {k124 : Int32 → Int32 → Int32 → SM → Option (Int32 × SM)} {w3 : Int32}
    (hk : ∀ (σ' : SM) (v2 v3 : Int32) (m : Nat), pq_De x σ0 σ' BB m → v2.toInt = m → m0 ≤ m → (v3 ≠ 0 → w3 ≠ 0 ∨ m0 < m) → pq_Tot (k124 v2 v3 v4 σ') Q) :
    ∀ (n : Nat) (v5 v2 v3 : Int32) (σ : SM) (B : Int) (m : Nat), pq_De x σ0 σ B m → v2.toInt = m → m0 ≤ m → (v3 ≠ 0 → w3 ≠ 0 ∨ m0 < m) → 0 ≤ v5.toInt → v5.toInt ≤ pq_vaI σ0 → B + 200 * pq_zr (aM_M_with σ) v5.toInt.toNat ≤ BB → pq_vaI σ0 - v5.toInt < n → pq_Tot (M_M_depends_L55 N k124 n v2 v3 v4 v5 σ) Q := by
  intro n
  induction n with
  | zero => intro v5 v2 v3 σ B m _ _ _ _ _ _ _ h; omega
  | succ n ih =>
    intro v5 v2 v3 σ B m h e2 hm h3 z0 z1 hb hn
    rw [M_M_depends_L55]
    have zn := pq_zr_nn (aM_M_with σ) (a := v5.toInt.toNat) (by omega)
    refine pq_Tot.ite (fun _ => hk σ v2 v3 m (h.le (by omega)) e2 hm h3) (fun lt => ?_)
    rw [pq_iv_le, h.va] at lt
    have lt' : v5.toInt < pq_vaI σ0 := by simp only [pq_vaI]; omega
    have zn1 := pq_zr_nn (aM_M_with σ) (a := v5.toInt.toNat + 1) (by omega)
    have c4 : ck v4 12 = true := pq_ck_mk h4.1 h4.2
    have c5 : ck v5 12 = true := pq_ck_mk z0 (by omega)
    have e1 : (v5 + 1).toInt = v5.toInt + 1 := pq_iv_add (by rw [pq_iv_1]; omega) (by rw [pq_iv_1]; omega)
    have e1n : (v5 + 1).toInt.toNat = v5.toInt.toNat + 1 := by omega
    have nx : ∀ (w2 w3' : Int32) (τ : SM) (B' : Int) (m' : Nat), pq_De x σ0 τ B' m' → w2.toInt = m' → m0 ≤ m' → (w3' ≠ 0 → w3 ≠ 0 ∨ m0 < m') → B' + 200 * pq_zr (aM_M_with τ) (v5.toInt.toNat + 1) ≤ BB → pq_Tot (M_M_depends_b118 N (M_M_depends_L55 N k124 n) w2 w3' v4 v5 τ) Q := fun w2 w3' τ B' m' d a b c e => by
      rw [M_M_depends_b118]
      exact pq_Tot.nm (ih (v5 + 1) w2 w3' τ B' m' d a b c (by omega) (by omega) (by rw [e1n]; exact e) (by omega))
    have mono : pq_zr (aM_M_with σ) (v5.toInt.toNat + 1) ≤ pq_zr (aM_M_with σ) v5.toInt.toNat := by
      by_cases w : aM_M_with σ v5.toInt.toNat = 0
      · rw [pq_zr_s0 w]; omega
      · rw [pq_zr_s1 w]; exact Int.le_refl _
    have same := nx v2 v3 σ B m h e2 hm h3 (by omega)
    refine pq_Tot.ite1 c4 (pq_Tot.ite (fun _ => same) (fun w4 => pq_Tot.ite1 c5 (pq_Tot.ite (fun w5 => pq_Tot.ite1 c5 (pq_Tot.ite (fun s5 => ?_) (fun _ => same))) (fun _ => same))))
    have ne : v4 ≠ v5 := fun z => w4 (by rw [z]; exact w5)
    have hm12 := h.m12
    have w5z : aM_M_with σ v5.toInt.toNat = 0 := w5
    have zs := pq_zr_s0 w5z
    refine pq_Tot.bd (pq_isLinked_ok hN (by omega) ne h.1) (fun r τ hr => ?_)
    have d := h.lo hr.2
    have wt : aM_M_with τ = aM_M_with σ := hr.2.2.2.1 37 (by decide)
    refine pq_Tot.ite (fun _ => nx v2 v3 τ (B + 200) m d e2 hm h3 (by rw [wt]; omega)) (fun _ => pq_Tot.ite1 c5 (pq_Tot.nm (pq_Tot.nm ?_)))
    have w5' : aM_M_with τ v5.toInt.toNat = 0 := by rw [wt]; exact w5
    have s5' : aM_M_settled σ0 v5.toInt.toNat = 0 := by rw [← h.st]; exact s5
    have a := d.add (z := v5.toInt.toNat) (by omega) w5' s5' (by omega) (v := vp_nar .boolean 1) (by decide)
    have e2' : (v2 + 1).toInt = (m + 1 : Nat) := by rw [pq_iv_add (by rw [e2, pq_iv_1]; omega) (by rw [e2, pq_iv_1]; omega), e2, pq_iv_1]; omega
    refine nx (v2 + 1) 1 _ (B + 200) (m + 1) a e2' (by omega) (fun _ => Or.inr (by omega)) ?_
    show B + 200 + 200 * pq_zr (upd (aM_M_with τ) v5.toInt.toNat (vp_nar .boolean 1)) (v5.toInt.toNat + 1) ≤ BB
    rw [pq_zr_upd w5' (by decide) (by omega), wt]; omega
set_option maxRecDepth 100000 in
theorem pq_dep_L43 (hN : 3000 ≤ N) (hv : 0 ≤ pq_vaI σ0 ∧ pq_vaI σ0 ≤ 12) {BB : Int} (hBB : BB + 300 < 4294967296) {m0 : Nat} {k130 : Int32 → Int32 → SM → Option (Int32 × SM)}
    (hk : ∀ (σ' : SM) (v2 v3 : Int32) (m : Nat), pq_De x σ0 σ' BB m → v2.toInt = m → m0 ≤ m → (v3 ≠ 0 → m0 < m) → pq_Tot (k130 v2 v3 σ') Q) :
    ∀ (n : Nat) (v4 v2 v3 : Int32) (σ : SM) (B : Int) (m : Nat), pq_De x σ0 σ B m → v2.toInt = m → m0 ≤ m → (v3 ≠ 0 → m0 < m) → 0 ≤ v4.toInt → v4.toInt ≤ pq_vaI σ0 → B + (200 * (12 - (m0 : Int))) * (12 - v4.toInt) ≤ BB → pq_vaI σ0 - v4.toInt < n → pq_Tot (M_M_depends_L43 N k130 n v2 v3 v4 σ) Q := by
  intro n
  induction n with
  | zero => intro v4 v2 v3 σ B m _ _ _ _ _ _ _ h; omega
  | succ n ih =>
    intro v4 v2 v3 σ B m h e2 hm h3 z0 z1 hb hn
    have m12 := h.m12
    have hp : (0 : Int) ≤ (200 * (12 - (m0 : Int))) * (12 - v4.toInt) := Int.mul_nonneg (by omega) (by omega)
    rw [M_M_depends_L43]
    refine pq_Tot.ite (fun _ => hk σ v2 v3 m (h.le (by omega)) e2 hm h3) (fun lt => ?_)
    rw [pq_iv_le, h.va] at lt
    have lt' : v4.toInt < pq_vaI σ0 := by simp only [pq_vaI]; omega
    have e1 : (v4 + 1).toInt = v4.toInt + 1 := pq_iv_add (by rw [pq_iv_1]; omega) (by rw [pq_iv_1]; omega)
    have psub : (200 * (12 - (m0 : Int))) * (12 - v4.toInt) = (200 * (12 - (m0 : Int))) * (12 - (v4.toInt + 1)) + 200 * (12 - (m0 : Int)) := by
      rw [show 12 - v4.toInt = (12 - (v4.toInt + 1)) + 1 by omega, Int.mul_add, Int.mul_one]
    have hp1 : (0 : Int) ≤ (200 * (12 - (m0 : Int))) * (12 - (v4.toInt + 1)) := Int.mul_nonneg (by omega) (by omega)
    have z00 : pq_zr (aM_M_with σ) 0 = 12 - (m : Int) := by rw [pq_zr, h.2.2.1, pq_un]; omega
    refine pq_dep_L55 (m0 := m) (w3 := v3) (BB := B + 200 * (12 - (m0 : Int))) hN hv ⟨z0, by omega⟩ (by omega) (fun σ' v2' v3' m' d a b c => ?_) N 0 v2 v3 σ B m h e2 (Nat.le_refl _) (fun z => Or.inl z) (by decide) (by rw [pq_iv_0]; exact hv.1) (by rw [pq_iv_0]; show B + 200 * pq_zr (aM_M_with σ) 0 ≤ _; rw [z00]; omega) (by rw [pq_iv_0]; omega)
    rw [M_M_depends_b124]
    refine pq_Tot.nm (ih (v4 + 1) v2' v3' σ' (B + 200 * (12 - (m0 : Int))) m' d a (by omega) (fun z => ?_) (by omega) (by omega) (by rw [e1]; omega) (by omega))
    rcases c z with y | y
    · have := h3 y; omega
    · omega
set_option maxRecDepth 100000 in
theorem pq_dep_L34 (hN : 3000 ≤ N) (hv : 0 ≤ pq_vaI σ0 ∧ pq_vaI σ0 ≤ 12) {BB : Int} (hBB : BB + 300 < 4294967296) : ∀ (n : Nat) (v2 v3 : Int32) (σ : SM) (B : Int) (m : Nat), pq_De x σ0 σ B m → v2.toInt = m → 1 ≤ n → (v3 ≠ 0 → B + pq_Tz (12 - m) ≤ BB ∧ 13 < n + m) → B ≤ BB → pq_Tot (M_M_depends_L34 N n v2 v3 σ) (fun r τ => ∃ m, pq_De x σ0 τ BB m ∧ r.toInt = m) := by
  intro n
  induction n with
  | zero => intro v2 v3 σ B m _ _ h; omega
  | succ n ih =>
    intro v2 v3 σ B m h e2 _ hb hB
    rw [M_M_depends_L34]
    refine pq_Tot.ite (fun _ => pq_Tot.ret ⟨m, h.le hB, e2⟩) (fun n3 => ?_)
    have hb := hb n3
    have m12 := h.m12
    have tn := pq_Tz_nn (12 - m)
    have pq_tz : pq_Tz (12 - m) = pq_Tz (12 - (m + 1)) + 2400 * (12 - (m : Int)) ∨ m = 12 := by
      by_cases e : m = 12
      · exact Or.inr e
      · left
        obtain ⟨k, hk⟩ : ∃ k, 12 - m = k + 1 := ⟨11 - m, by omega⟩
        rw [hk, pq_Tz, show 12 - (m + 1) = k by omega]
        omega
    have cost : B + 2400 * (12 - (m : Int)) ≤ BB := by
      have := pq_Tz_nn (12 - (m + 1))
      rcases pq_tz with y | y <;> omega
    refine pq_dep_L43 (m0 := m) (BB := B + 2400 * (12 - (m : Int))) hN hv (by omega) (fun σ' v2' v3' m' d a b c => ?_) N 0 v2 0 σ B m h e2 (Nat.le_refl _) (fun z => absurd rfl z) (by decide) (by rw [pq_iv_0]; exact hv.1) (by rw [pq_iv_0]; omega) (by rw [pq_iv_0]; omega)
    rw [M_M_depends_b130]
    refine ih v2' v3' σ' _ m' d a (by omega) (fun z => ?_) cost
    have cz := c z
    have mm := pq_Tz_mono (a := 12 - m') (b := 12 - (m + 1)) (by omega)
    have dm := d.m12
    rcases pq_tz with y | y
    · exact ⟨by omega, by omega⟩
    · omega
set_option maxRecDepth 100000 in
theorem pq_dep_L2 {v1 : Int32} {k30 : SM → Option (Int32 × SM)} (hx : v1.toInt = x) (hx12 : x < 12) {B : Int} (h0 : pq_Wo B σ0) (hk : ∀ σ', pq_De x σ0 σ' B 1 → pq_Tot (k30 σ') Q) : ∀ (n : Nat) (v2 : Int32) (σ : SM), pq_fr [] [37] σ0 σ → 0 ≤ v2.toInt → v2.toInt ≤ 12 → (∀ k : Nat, (k : Int) < v2.toInt → aM_M_with σ k = if k = x then 1 else 0) → 12 - v2.toInt < n → pq_Tot (M_M_depends_L2 N k30 n v1 v2 σ) Q := by
  intro n
  induction n with
  | zero => intro v2 σ _ _ _ _ h; omega
  | succ n ih =>
    intro v2 σ f z0 z1 hw hn
    rw [M_M_depends_L2]
    have t12 : (12 : Int32).toInt = 12 := rfl
    refine pq_Tot.ite (fun e => hk σ ?_) (fun e => ?_)
    · rw [pq_iv_le, t12] at e
      have q := h0.cell f (by decide) (by decide) (by decide) (by decide) (by decide) (by decide) (by decide) (by decide) (by decide) (by decide)
      have hw' : ∀ k : Nat, k < 12 → aM_M_with σ k = if k = x then 1 else 0 := fun k hk => hw k (by omega)
      refine ⟨q.1, f.up (by decide) (by decide), ?_, by rw [hw' x hx12, if_pos rfl]; decide, fun z hz wz => Or.inl (Classical.byContradiction (fun ne => wz (by rw [hw' z hz, if_neg ne])))⟩
      have key : ∀ m, m ≤ 12 → pq_un (aM_M_with σ) 0 m = if x < m then 1 else 0 := by
        intro m
        induction m with
        | zero => intro _; rw [pq_un, if_neg (by omega)]
        | succ m ihm =>
          intro hm
          rw [pq_un, ihm (by omega), hw' m (by omega)]
          by_cases e : m = x
          · subst e; simp
          · rw [if_neg e]
            by_cases l : x < m
            · have l' : x < m + 1 := by omega
              simp [l, l']
            · have l' : ¬ x < m + 1 := by omega
              simp [l, l']
      rw [key 12 (Nat.le_refl _), if_pos hx12]
    · rw [pq_iv_le, t12] at e
      have e1 : (v2 + 1).toInt = v2.toInt + 1 := pq_iv_add (by rw [pq_iv_1]; omega) (by rw [pq_iv_1]; omega)
      have c2 : ck v2 12 = true := pq_ck_mk z0 (by omega)
      have go : ∀ s : Int32, vp_nar .boolean s = (if v2.toInt.toNat = x then 1 else 0) → pq_Tot (M_M_depends_b23 N (M_M_depends_L2 N k30 n) v1 v2 s v2 σ) Q := fun s hs => by
        rw [M_M_depends_b23]
        refine pq_Tot.ite1 c2 (pq_Tot.nm (pq_Tot.nm (ih (v2 + 1) _ (pq_fr.t f (by decide) _) (by omega) (by omega) (fun k hk' => ?_) (by omega))))
        show upd (aM_M_with σ) v2.toInt.toNat (vp_nar .boolean s) k = _
        rw [upd]; split
        · next e => rw [hs, e]
        · next e => exact hw k (by omega)
      refine pq_Tot.ite (fun e => go 1 ?_) (fun e => go 0 ?_)
      · rw [if_pos (by have := pq_eqI e; omega)]; rfl
      · rw [if_neg (fun z => e (pq_iv_eq.2 (by omega)))]; rfl
set_option maxRecDepth 100000 in
theorem pq_depends_ok {v1 : Int32} (hN : 3000 ≤ N) (hv : 0 ≤ pq_vaI σ0 ∧ pq_vaI σ0 ≤ 12) {B : Int} (hB : B + 158400 + 300 < 4294967296) (h : pq_Wo B σ0) (hx : v1.toInt = x) (hx12 : x < 12) : pq_Tot (M_M_depends N v1 σ0) (fun r τ => ∃ m, pq_De x σ0 τ (B + 158400) m ∧ r.toInt = m) := by
  rw [M_M_depends]
  refine pq_dep_L2 hx hx12 h (fun σ' d => ?_) N 0 σ0 pq_fr.rf (by decide) (by decide) (fun k hk => by rw [pq_iv_0] at hk; omega) (by rw [pq_iv_0]; omega)
  rw [M_M_depends_b30]
  exact pq_dep_L34 hN hv (by omega) N 1 1 σ' B 1 d rfl (by omega) (fun _ => ⟨by rw [pq_Tz11]; omega, by omega⟩) (by omega)
end DD
