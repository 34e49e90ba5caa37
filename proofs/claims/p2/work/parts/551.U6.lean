abbrev pq_Rd (σ : SX) : Int32 → SX → Prop := pq_XQ pq_LR5 σ (fun _ _ => True)
section RE
variable {N : Nat} {σ : SX}
set_option maxRecDepth 100000 in
theorem pq_rd0 (h : pq_XI σ) {r : Int32} : pq_Tot (some (r, σ)) (pq_Rd σ) := pq_Tot.ret ⟨h, pq_XG.rf, trivial⟩
set_option maxRecDepth 100000 in
theorem pq_rd1 {τ : SX} (h : pq_XI τ) (g : pq_XG pq_LR5 σ τ) {r : Int32} : pq_Tot (some (r, τ)) (pq_Rd σ) := pq_Tot.ret ⟨h, g, trivial⟩
set_option maxRecDepth 100000 in
theorem pq_rdw {τ : SX} (h : pq_XI τ) (g : pq_XG pq_LR5 σ τ) {s a b : Int32} (ha : a.toInt < pq_Zx τ) (hb : b.toInt < pq_Zx τ) : pq_Tot (bd (X_Reducer_within s a b τ) (fun (r : Int32) (σ' : SX) => (some (r, σ')))) (pq_Rd σ) :=
  pq_Tot.bd (pq_within_x h ha hb) (fun _ _ q => pq_Tot.ret ⟨q.1, g.tr (q.2.1.up (by decide)), trivial⟩)
set_option maxRecDepth 100000 in
theorem pq_truth_rd (h : pq_XI σ) {s : Int32} : pq_Tot (bd (X_Reducer_truth s σ) (fun (r : Int32) (σ' : SX) => (some (r, σ')))) (pq_Rd σ) :=
  pq_Tot.bd (pq_truth_x s) (fun _ _ e => by rw [e]; exact pq_rd0 h)
set_option maxRecDepth 100000 in
theorem pq_comp_x (hN : 501 ≤ N) (h : pq_XI σ) {x y : Int32} (hx : x.toInt < pq_Zx σ) (hy : y.toInt < pq_Zx σ) : pq_Tot (X_Reducer_lessCompatible N x y σ) (pq_Rd σ) := by
  have b211 : ∀ τ, pq_XI τ → pq_XG pq_LR5 σ τ → pq_Tot (X_Reducer_lessCompatible_b211 N x y τ) (pq_Rd σ) := fun τ i g => by
    rw [X_Reducer_lessCompatible_b211]; exact pq_rdw i g (g.lt hx) (g.lt hy)
  have b155 : pq_Tot (X_Reducer_lessCompatible_b155 N x y σ) (pq_Rd σ) := by
    rw [X_Reducer_lessCompatible_b155]
    refine pq_Tot.bd (pq_xg_kind h y) (fun r τ hr => ?_)
    obtain ⟨rfl, _⟩ := hr
    refine pq_Tot.ite (fun _ => pq_Tot.bd (pq_xg_first h y) (fun r9 τ9 h9 => ?_)) (fun _ => b211 τ h pq_XG.rf)
    obtain ⟨rfl, _⟩ := h9
    refine pq_Tot.bd (pq_above_x hN h hx) (fun r11 σ12 q => ?_)
    have g : pq_XG pq_LR5 τ9 σ12 := q.2.1.up (by decide)
    refine pq_Tot.ite (fun _ => pq_rd1 q.1 g) (fun _ => pq_Tot.bd (pq_xg_kind q.1 r11) (fun r13 τ13 h13 => ?_))
    obtain ⟨rfl, _⟩ := h13
    refine pq_Tot.ite (fun _ => pq_Tot.nm ?_) (fun _ => b211 τ13 q.1 g)
    have f : pq_xf [12] [] τ13 (sX_Reducer_sawUnchecked τ13 1) := pq_xf.s pq_xf.rf (by decide) _
    have w := q.1.wr f (by decide) (by decide) (fun a _ z => absurd z (by simp)) (fun c hc hl => absurd hl (by revert c; decide)) (q.1.2.2.1.xf f (by decide) (by decide)) (q.1.2.2.2.xf f (by decide) (by decide))
    exact pq_rd1 w.1 (g.tr (w.2.up (by decide)))
  have boxS : ∀ s : Int32, pq_Tot (bd (X_Reducer_boxOf N x σ) (fun (r32 : Int32) (σ33 : SX) => (bd (X_Reducer_within s r32 y σ33) (fun (r34 : Int32) (σ35 : SX) => (some (r34, σ35)))))) (pq_Rd σ) := fun s =>
    pq_Tot.bd (pq_boxOf_x hN h x) (fun r τ q => pq_rdw q.1 (q.2.1.up (by decide)) q.2.2 (q.2.1.lt hy))
  have boxT : ∀ s : Int32, pq_Tot (bd (X_Reducer_boxOf N y σ) (fun (r32 : Int32) (σ33 : SX) => (bd (X_Reducer_within s x r32 σ33) (fun (r34 : Int32) (σ35 : SX) => (some (r34, σ35)))))) (pq_Rd σ) := fun s =>
    pq_Tot.bd (pq_boxOf_x hN h y) (fun r τ q => pq_rdw q.1 (q.2.1.up (by decide)) (q.2.1.lt hx) q.2.2)
  have b122 : ∀ a b : Int32, pq_Tot (X_Reducer_lessCompatible_b122 N x y a b σ) (pq_Rd σ) := fun a b => by
    rw [X_Reducer_lessCompatible_b122]
    exact pq_Tot.ite (fun _ => pq_Tot.ite (fun _ => b155) (fun _ => boxT 3)) (fun _ => boxS 0)
  have b91 : ∀ a b : Int32, pq_Tot (X_Reducer_lessCompatible_b91 N x y a b σ) (pq_Rd σ) := fun a b => by
    rw [X_Reducer_lessCompatible_b91]
    refine pq_Tot.ite (fun _ => pq_Tot.ite (fun _ => b155) (fun _ => pq_Tot.bd (pq_unboxes_x h x y) (fun r τ e => ?_))) (fun _ => boxS 1)
    rw [e]; exact pq_truth_rd h
  have b35 : ∀ a b : Int32, pq_Tot (X_Reducer_lessCompatible_b35 N x y a b σ) (pq_Rd σ) := fun a b => by
    rw [X_Reducer_lessCompatible_b35]
    refine pq_Tot.bd (pq_xg_isProper h x) (fun r τ hr => ?_)
    obtain ⟨rfl, _⟩ := hr
    refine pq_Tot.ite (fun _ => b122 a b) (fun _ => pq_Tot.bd (pq_xg_isProper h y) (fun r2 τ2 h2 => ?_))
    obtain ⟨rfl, _⟩ := h2
    refine pq_Tot.ite (fun _ => b122 a b) (fun _ => pq_Tot.ite (fun _ => b91 a b) (fun _ => pq_Tot.ite (fun _ => b91 a b) (fun _ => pq_Tot.bd (pq_xg_first h x) (fun r3 τ3 h3 => ?_))))
    obtain ⟨rfl, _⟩ := h3
    refine pq_Tot.bd (pq_xg_first h y) (fun r4 τ4 h4 => ?_)
    obtain ⟨rfl, _⟩ := h4
    refine pq_Tot.bd (pq_widens_x r3 r4) (fun r5 τ5 h5 => ?_)
    obtain ⟨rfl, _⟩ := h5
    exact pq_truth_rd h
  have b17 : ∀ a : Int32, pq_Tot (X_Reducer_lessCompatible_b17 N x y a σ) (pq_Rd σ) := fun a => by
    rw [X_Reducer_lessCompatible_b17]
    refine pq_Tot.bd (pq_xg_kind h y) (fun r τ hr => ?_)
    obtain ⟨rfl, _⟩ := hr
    exact pq_Tot.ite (fun _ => b35 a 1) (fun _ => b35 a 0)
  rw [X_Reducer_lessCompatible]
  refine pq_Tot.bd (pq_xg_kind h x) (fun r τ hr => ?_)
  obtain ⟨rfl, _⟩ := hr
  exact pq_Tot.ite (fun _ => b17 1) (fun _ => b17 0)
set_option maxRecDepth 100000 in
theorem pq_bind_x (hN : 501 ≤ N) (h : pq_XI σ) {s t x y : Int32} (hx : x.toInt < pq_Zx σ) (hy : y.toInt < pq_Zx σ) : pq_Tot (bd (X_Reducer_bind N s t x y σ) (fun (r : Int32) (σ' : SX) => (some (r, σ')))) (pq_Rd σ) := by
  refine pq_Tot.bd (P := pq_Rd σ) ?_ (fun _ _ q => pq_Tot.ret q)
  have b40 : ∀ (τ : SX) (v : Int32), pq_XI τ → pq_XG pq_LR5 σ τ → pq_Tot (X_Reducer_bind_b40 N t x y v τ) (pq_Rd σ) := fun τ v i g => by
    rw [X_Reducer_bind_b40]
    refine pq_Tot.ite (fun _ => pq_Tot.bd (pq_xg_kind i y) (fun r τ2 h2 => ?_)) (fun _ => pq_rd1 i g)
    obtain ⟨rfl, _⟩ := h2
    refine pq_Tot.ite (fun _ => pq_Tot.bd (pq_xg_first i y) (fun r3 τ3 h3 => ?_)) (fun _ => pq_rd1 i g)
    obtain ⟨rfl, _⟩ := h3
    exact pq_Tot.bd (pq_badd_x (by omega) i (g.lt hx)) (fun _ _ q => pq_Tot.ret ⟨q.1, g.tr (q.2.1.up (by decide)), trivial⟩)
  rw [X_Reducer_bind]
  refine pq_Tot.bd (pq_xg_kind h x) (fun r τ hr => ?_)
  obtain ⟨rfl, _⟩ := hr
  refine pq_Tot.ite (fun _ => pq_Tot.bd (pq_xg_first h x) (fun r3 τ3 h3 => ?_)) (fun _ => b40 τ 1 h pq_XG.rf)
  obtain ⟨rfl, _⟩ := h3
  exact pq_Tot.bd (pq_badd_x (by omega) h hy) (fun r5 σ6 q => b40 σ6 r5 q.1 (q.2.1.up (by decide)))
set_option maxRecDepth 100000 in
theorem pq_wargs_x (hN : 501 ≤ N) (h : pq_XI σ) {s x y : Int32} (kx : pq_Rg σ x → pq_kX σ x.toInt.toNat ≠ 3) (ky : pq_Rg σ y → pq_kX σ y.toInt.toNat ≠ 3) : pq_Tot (bd (X_Reducer_withinArguments N s x y σ) (fun (r : Int32) (σ' : SX) => (some (r, σ')))) (pq_Rd σ) := by
  refine pq_Tot.bd (P := pq_Rd σ) ?_ (fun _ _ q => pq_Tot.ret q)
  have argz : ∀ (z : Int32) (τ : SX) (r : Int32), pq_XI τ → (pq_Rg τ z → pq_kX τ z.toInt.toNat ≠ 3) → ((pq_Rg τ z ∧ (r.toInt = pq_wX τ z.toInt.toNat ∨ r.toInt = pq_hX τ z.toInt.toNat)) ∨ (¬ pq_Rg τ z ∧ r = -1)) → r.toInt < pq_Zx τ := fun z τ r i k hr => by
    rcases hr with hr | hr
    · rcases hr.2 with e | e
      · rw [e]; exact i.w2 z hr.1 (Or.inl (k hr.1))
      · rw [e]; exact i.h3 z hr.1
    · rw [hr.2]; exact pq_m1_Zx i
  have key : ∀ (n : Nat) (v4 v5 : Int32) (τ : SX), pq_XI τ → pq_XG pq_LR5 σ τ → pq_tz τ = pq_tz σ → -1 ≤ v5.toInt → v5.toInt + 1 < n → pq_Tot (X_Reducer_withinArguments_L22 N n s x y v4 v5 τ) (pq_Rd σ) := by
    intro n
    induction n with
    | zero => intro v4 v5 τ _ _ _ _ h; omega
    | succ n ih =>
      intro v4 v5 τ i g et z0 hn
      rw [X_Reducer_withinArguments_L22]
      refine pq_Tot.ite (fun _ => pq_rd1 i g) (fun lt => pq_Tot.ite (fun _ => pq_Tot.bd (pq_xg_arg i x v5) (fun r6 τ6 h6 => ?_)) (fun _ => pq_rd1 i g))
      rw [pq_iv_lt, pq_iv_0] at lt
      obtain ⟨rfl, h6⟩ := h6
      refine pq_Tot.bd (pq_xg_arg i y v5) (fun r8 τ8 h8 => ?_)
      obtain ⟨rfl, h8⟩ := h8
      have back : ∀ z : Int32, pq_Rg τ8 z → pq_Rg σ z := fun z v => ⟨v.1, by rw [← et]; exact v.2⟩
      have a6 := argz x τ8 r6 i (fun v => by rw [g.k (back x v)]; exact kx (back x v)) h6
      have a8 := argz y τ8 r8 i (fun v => by rw [g.k (back y v)]; exact ky (back y v)) h8
      have e5 : (v5 + (-1)).toInt = v5.toInt - 1 := by rw [pq_iv_add (by rw [pq_iv_m1]; have := pq_iv_rng v5; omega) (by rw [pq_iv_m1]; have := pq_iv_rng v5; omega), pq_iv_m1]; omega
      refine pq_Tot.bd (pq_within_x i a6 a8) (fun r10 σ11 q => pq_Tot.nm (ih r10 (v5 + (-1)) σ11 q.1 (g.tr (q.2.1.up (by decide))) ?_ (by omega) (by omega)))
      rw [← et]; show (σ11.1 4).toInt = _; rw [q.2.1.2.2 4 (by decide)]; rfl
  rw [X_Reducer_withinArguments]
  refine pq_Tot.bd (pq_xg_class h y) (fun r1 τ1 h1 => ?_)
  obtain ⟨rfl, _⟩ := h1
  refine pq_Tot.bd (pq_xg_par h r1) (fun r3 τ3 h3 => pq_Tot.nm ?_)
  obtain ⟨rfl, h3⟩ := h3
  have e : (r3 - 1).toInt = r3.toInt - 1 := by rw [pq_iv_sub (by rw [pq_iv_1]; omega) (by rw [pq_iv_1]; omega), pq_iv_1]
  exact key N 1 (r3 - 1) τ3 h pq_XG.rf rfl (by omega) (by omega)
set_option maxRecDepth 100000 in
theorem pq_Gf.kd {x : Int32} {v : Int} {r : Int32} {τ : SX} {n : Int32} (h : (pq_Rg τ x ∧ r.toInt = v) ∨ (¬ pq_Rg τ x ∧ r = -1)) (e : r = n) (hn : n ≠ -1) : pq_Rg τ x ∧ v = n.toInt := by
  rcases h with h | h
  · exact ⟨h.1, by rw [← h.2, e]⟩
  · exact absurd (e.symm.trans h.2) hn
set_option maxRecDepth 100000 in
theorem pq_sub_x (hN : 501 ≤ N) (h : pq_XI σ) {x y : Int32} (hx : x.toInt < pq_Zx σ) (hy : y.toInt < pq_Zx σ) : pq_Tot (X_Reducer_lessSub N x y σ) (pq_Rd σ) := by
  rw [X_Reducer_lessSub]
  refine pq_Tot.ite (fun _ => pq_rd0 h) (fun _ => pq_Tot.bd (pq_xg_kind h x) (fun r1 τ1 h1 => ?_))
  obtain ⟨rfl, h1⟩ := h1
  refine pq_Tot.bd (pq_xg_kind h y) (fun r3 τ3 h3 => ?_)
  obtain ⟨rfl, h3⟩ := h3
  have b80 : pq_Tot (X_Reducer_lessSub_b80 N x y τ3) (pq_Rd τ3) := by rw [X_Reducer_lessSub_b80]; exact pq_bind_x hN h hx hy
  have b288 : pq_Tot (X_Reducer_lessSub_b288 N x y τ3) (pq_Rd τ3) := by
    rw [X_Reducer_lessSub_b288]
    refine pq_Tot.bd (pq_xg_capture h y 2) (fun r τ hr => ?_)
    obtain ⟨rfl, hr⟩ := hr
    exact pq_Tot.ite (fun _ => pq_rd0 h) (fun _ => pq_rdw h pq_XG.rf hx hr)
  have b262 : ∀ a b : Int32, pq_Tot (X_Reducer_lessSub_b262 N a b τ3) (pq_Rd τ3) := fun a b => by
    rw [X_Reducer_lessSub_b262, X_Reducer_lessSub_b274, X_Reducer_lessSub_b274]
    exact pq_Tot.ite (fun _ => pq_truth_rd h) (fun _ => pq_truth_rd h)
  refine pq_Tot.ite (fun _ => pq_Tot.ite (fun _ => by rw [X_Reducer_lessSub_b43]; exact pq_truth_rd h) (fun _ => by rw [X_Reducer_lessSub_b43]; exact pq_truth_rd h)) (fun _ => pq_Tot.ite (fun _ => pq_rd0 h) (fun _ => pq_Tot.ite (fun _ => pq_rd0 h) (fun _ => pq_Tot.ite (fun _ => pq_rd0 h) (fun _ => pq_Tot.ite (fun _ => b80) (fun _ => pq_Tot.ite (fun _ => b80) (fun _ => ?_))))))
  refine pq_Tot.ite (fun _ => pq_Tot.bd (pq_xg_first h y) (fun r9 τ9 h9 => ?_)) (fun _ => pq_Tot.ite (fun e1 => pq_Tot.bd (pq_xg_first h y) (fun r17 τ17 h17 => ?_)) (fun _ => pq_Tot.ite (fun e4 => pq_Tot.ite (fun f4 => pq_Tot.bd (pq_xg_first h x) (fun r25 τ25 h25 => ?_)) (fun _ => b288)) (fun _ => b288)))
  · obtain ⟨rfl, _⟩ := h9
    refine pq_Tot.ite (fun _ => pq_rd0 h) (fun _ => pq_Tot.bd (pq_xg_first h y) (fun r11 τ11 h11 => ?_))
    obtain ⟨rfl, _⟩ := h11
    refine pq_Tot.bd (pq_above_x hN h hx) (fun r13 σ14 q => ?_)
    have g : pq_XG pq_LR5 τ11 σ14 := q.2.1.up (by decide)
    have tr : ∀ s : Int32, pq_Tot (X_Reducer_lessSub_b144 N s σ14) (pq_Rd τ11) := fun s => by
      rw [X_Reducer_lessSub_b144]; exact (pq_truth_rd q.1).mono (fun _ _ w => w.pre g)
    exact pq_Tot.ite (fun _ => pq_rd1 q.1 g) (fun _ => pq_Tot.ite (fun _ => tr 0) (fun _ => tr 1))
  · obtain ⟨rfl, _⟩ := h17
    have ky := pq_Gf.kd h3 e1 (by decide)
    refine pq_Tot.bd (pq_above_x hN h hx) (fun r19 σ20 q => ?_)
    have g : pq_XG pq_LR5 τ17 σ20 := q.2.1.up (by decide)
    refine pq_Tot.ite (fun _ => pq_rd1 q.1 g) (fun _ => pq_Tot.bd (pq_xg_kind q.1 r19) (fun r21 τ21 h21 => ?_))
    obtain ⟨rfl, h21⟩ := h21
    refine pq_Tot.ite (fun _ => ?_) (fun _ => pq_rd1 q.1 g)
    refine (pq_wargs_x hN q.1 q.2.2.2 (fun _ => ?_)).mono (fun _ _ w => w.pre g)
    rw [g.k ky.1, ky.2]; decide
  · obtain ⟨rfl, h25⟩ := h25
    refine pq_Tot.bd (pq_xg_first h y) (fun r27 τ27 h27 => ?_)
    obtain ⟨rfl, h27⟩ := h27
    have kx := pq_Gf.kd h1 f4 (by decide)
    have ky := pq_Gf.kd h3 e4 (by decide)
    have v25 : r25.toInt < pq_Zx τ27 := by
      have o := (h.row x kx.1).2.1 (Or.inl kx.2)
      have e : r25.toInt = pq_oX τ27 x.toInt.toNat := h25.elim (fun z => z.2) (fun z => absurd kx.1 z.1)
      have := kx.1.1; have := kx.1.z
      rw [e]; omega
    have v27 : r27.toInt < pq_Zx τ27 := by
      have o := (h.row y ky.1).2.1 (Or.inl ky.2)
      have e : r27.toInt = pq_oX τ27 y.toInt.toNat := h27.elim (fun z => z.2) (fun z => absurd ky.1 z.1)
      have := ky.1.1; have := ky.1.z
      rw [e]; omega
    refine pq_Tot.bd (pq_xg_kind h r25) (fun r29 τ29 h29 => ?_)
    obtain ⟨rfl, _⟩ := h29
    refine pq_Tot.ite (fun _ => b262 _ _) (fun _ => pq_Tot.bd (pq_xg_kind h r27) (fun r33 τ33 h33 => ?_))
    obtain ⟨rfl, _⟩ := h33
    exact pq_Tot.ite (fun _ => b262 _ _) (fun _ => pq_rdw h pq_XG.rf v25 v27)
set_option maxRecDepth 100000 in
theorem pq_contained_x (hN : 501 ≤ N) (h : pq_XI σ) {x y : Int32} (hx : x.toInt < pq_Zx σ) (hy : y.toInt < pq_Zx σ) : pq_Tot (X_Reducer_lessContained N x y σ) (pq_Rd σ) := by
  have b143 : ∀ (v s : Int32), v.toInt < pq_Zx σ → pq_Tot (X_Reducer_lessContained_b143 N v s σ) (pq_Rd σ) := fun v s hv => by
    rw [X_Reducer_lessContained_b143]
    exact pq_Tot.bd (pq_bare_x hN h 0) (fun r τ q => pq_rdw q.1 (q.2.1.up (by decide)) q.2.2.z (q.2.1.lt hv))
  have sec : ∀ z : Int32, (pq_Rg σ z → pq_kX σ z.toInt.toNat ≠ 3) → pq_Tot (X_Types_secondOf z σ) (fun r τ => τ = σ ∧ r.toInt < pq_Zx σ) := fun z k =>
    (pq_xg_second h z).mono (fun r τ hr => ⟨hr.1, by
      rcases hr.2 with e | e
      · rw [e.2]; exact h.w2 z e.1 (Or.inl (k e.1))
      · rw [e.2]; exact pq_m1_Zx h⟩)
  have main : ∀ w : Int32, (w ≠ 0 → pq_Rg σ x ∧ pq_kX σ x.toInt.toNat = 2) → pq_Tot (X_Reducer_lessContained_b17 N x y w σ) (pq_Rd σ) := fun w hw => by
    have b89 : ∀ (a b s : Int32), b.toInt < pq_Zx σ → pq_Tot (X_Reducer_lessContained_b89 N x w a b s σ) (pq_Rd σ) := fun a b s hb => by
      rw [X_Reducer_lessContained_b89]
      refine pq_Tot.ite (fun _ => pq_Tot.ite (fun _ => pq_rdw h pq_XG.rf hx hb) (fun nw => pq_Tot.ite (fun _ => ?_) (fun _ => pq_Tot.ite (fun _ => b143 b 1 hb) (fun _ => b143 b 3 hb)))) (fun _ => pq_Tot.ite (fun _ => pq_rdw h pq_XG.rf hb hx) (fun nw => pq_Tot.ite (fun _ => ?_) (fun _ => pq_rd0 h)))
      · refine pq_Tot.bd (sec x (fun _ => by rw [(hw nw).2]; decide)) (fun r τ hr => ?_)
        obtain ⟨rfl, hr⟩ := hr
        exact pq_rdw h pq_XG.rf hr hb
      · refine pq_Tot.bd (sec x (fun _ => by rw [(hw nw).2]; decide)) (fun r τ hr => ?_)
        obtain ⟨rfl, hr⟩ := hr
        exact pq_rdw h pq_XG.rf hb hr
    rw [X_Reducer_lessContained_b17]
    refine pq_Tot.bd (pq_xg_kind h y) (fun r3 τ3 h3 => ?_)
    obtain ⟨rfl, h3⟩ := h3
    refine pq_Tot.ite (fun e2 => pq_Tot.bd (pq_xg_first h y) (fun r5 τ5 h5 => ?_)) (fun _ => pq_Tot.ite (fun _ => pq_rdw h pq_XG.rf hx hy) (fun _ => pq_rd0 h))
    obtain ⟨rfl, _⟩ := h5
    have ky := pq_Gf.kd h3 e2 (by decide)
    refine pq_Tot.bd (sec y (fun _ => by rw [ky.2]; decide)) (fun r7 τ7 h7 => ?_)
    obtain ⟨rfl, h7⟩ := h7
    refine pq_Tot.ite (fun _ => pq_rd0 h) (fun _ => pq_Tot.ite (fun _ => b89 _ _ _ h7) (fun _ => pq_Tot.bd (pq_xg_first h x) (fun r τ hr => ?_)))
    obtain ⟨rfl, _⟩ := hr
    exact b89 _ _ _ h7
  rw [X_Reducer_lessContained]
  refine pq_Tot.bd (pq_xg_kind h x) (fun r1 τ1 h1 => ?_)
  obtain ⟨rfl, h1⟩ := h1
  exact pq_Tot.ite (fun e => main 1 (fun _ => pq_Gf.kd h1 e (by decide))) (fun _ => main 0 (fun z => absurd rfl z))
set_option maxRecDepth 100000 in
theorem pq_equal_x (hN : 501 ≤ N) (h : pq_XI σ) {x y : Int32} (hx : x.toInt < pq_Zx σ) (hy : y.toInt < pq_Zx σ) : pq_Tot (X_Reducer_lessEqual N x y σ) (pq_Rd σ) := by
  have b31 : pq_Tot (X_Reducer_lessEqual_b31 N x y σ) (pq_Rd σ) := by
    have b89 : pq_Tot (X_Reducer_lessEqual_b89 N x y σ) (pq_Rd σ) := by rw [X_Reducer_lessEqual_b89]; exact pq_bind_x hN h hx hy
    rw [X_Reducer_lessEqual_b31]
    refine pq_Tot.bd (pq_xg_kind h x) (fun r3 τ3 h3 => ?_)
    obtain ⟨rfl, h3⟩ := h3
    refine pq_Tot.bd (pq_xg_kind h y) (fun r5 τ5 h5 => ?_)
    obtain ⟨rfl, h5⟩ := h5
    refine pq_Tot.ite (fun _ => pq_rd0 h) (fun _ => pq_Tot.ite (fun _ => pq_rd0 h) (fun _ => pq_Tot.ite (fun _ => pq_rd0 h) (fun _ => pq_Tot.ite (fun _ => pq_rd0 h) (fun _ => pq_Tot.ite (fun _ => b89) (fun _ => pq_Tot.ite (fun _ => b89) (fun _ => pq_Tot.ite (fun ee => pq_Tot.bd (pq_xg_first h x) (fun r9 τ9 h9 => ?_)) (fun _ => pq_rd0 h)))))))
    obtain ⟨rfl, h9⟩ := h9
    refine pq_Tot.bd (pq_xg_first h y) (fun r11 τ11 h11 => ?_)
    obtain ⟨rfl, h11⟩ := h11
    have kk : ∀ n : Int32, r3 = n → n ≠ -1 → (pq_Rg τ11 x ∧ pq_kX τ11 x.toInt.toNat = n.toInt) ∧ (pq_Rg τ11 y ∧ pq_kX τ11 y.toInt.toNat = n.toInt) := fun n e hn => ⟨pq_Gf.kd h3 e hn, pq_Gf.kd h5 (ee.symm.trans e) hn⟩
    have ones : ∀ n : Int32, r3 = n → (n.toInt = 4 ∨ n.toInt = 8) → r9.toInt < pq_Zx τ11 ∧ r11.toInt < pq_Zx τ11 := fun n e hn => by
      have k := kk n e (fun z => by rw [z] at hn; revert hn; decide)
      have o1 := (h.row x k.1.1).2.1 (by rw [k.1.2]; exact hn)
      have o2 := (h.row y k.2.1).2.1 (by rw [k.2.2]; exact hn)
      have e1 : r9.toInt = pq_oX τ11 x.toInt.toNat := h9.elim (fun z => z.2) (fun z => absurd k.1.1 z.1)
      have e2 : r11.toInt = pq_oX τ11 y.toInt.toNat := h11.elim (fun z => z.2) (fun z => absurd k.2.1 z.1)
      have := k.1.1.1; have := k.1.1.z; have := k.2.1.1; have := k.2.1.z
      exact ⟨by rw [e1]; omega, by rw [e2]; omega⟩
    refine pq_Tot.ite (fun e1 => pq_Tot.ite (fun _ => ?_) (fun _ => pq_rd0 h)) (fun _ => pq_Tot.ite (fun e4 => ?_) (fun _ => pq_Tot.bd (pq_xg_second h x) (fun r17 τ17 h17 => ?_)))
    · have k := kk 1 e1 (by decide)
      exact pq_wargs_x hN h (fun _ => by rw [k.1.2]; decide) (fun _ => by rw [k.2.2]; decide)
    · have o := ones 4 e4 (Or.inl rfl)
      exact pq_rdw h pq_XG.rf o.1 o.2
    · obtain ⟨rfl, h17⟩ := h17
      refine pq_Tot.bd (pq_xg_second h y) (fun r19 τ19 h19 => ?_)
      obtain ⟨rfl, h19⟩ := h19
      refine pq_Tot.ite (fun e8 => pq_Tot.ite (fun _ => ?_) (fun _ => pq_rd0 h)) (fun _ => pq_Tot.ite (fun e2 => pq_Tot.ite (fun _ => ?_) (fun _ => pq_rd0 h)) (fun _ => pq_rd0 h))
      · have o := ones 8 e8 (Or.inr rfl)
        exact pq_rdw h pq_XG.rf o.1 o.2
      · have k := kk 2 e2 (by decide)
        have a : r17.toInt = pq_wX τ19 x.toInt.toNat := h17.elim (fun z => z.2) (fun z => absurd k.1.1 z.1)
        have b : r19.toInt = pq_wX τ19 y.toInt.toNat := h19.elim (fun z => z.2) (fun z => absurd k.2.1 z.1)
        exact pq_rdw h pq_XG.rf (by rw [a]; exact h.w2 x k.1.1 (Or.inl (by rw [k.1.2]; decide))) (by rw [b]; exact h.w2 y k.2.1 (Or.inl (by rw [k.2.2]; decide)))
  rw [X_Reducer_lessEqual]
  refine pq_Tot.ite (fun _ => pq_rd0 h) (fun _ => pq_Tot.bd (pq_xg_isProper h x) (fun r τ hr => ?_))
  obtain ⟨rfl, _⟩ := hr
  refine pq_Tot.ite (fun _ => b31) (fun _ => pq_Tot.bd (pq_xg_isProper h y) (fun r2 τ2 h2 => ?_))
  obtain ⟨rfl, _⟩ := h2
  exact pq_Tot.ite (fun _ => b31) (fun _ => pq_rd0 h)
set_option maxRecDepth 100000 in
theorem pq_less_x (hN : 20003 ≤ N) (h : pq_XI σ) : pq_Tot (X_Reducer_less N σ) (pq_Rd σ) := by
  have fin : ∀ (τ : SX) (r : Int32), pq_XI τ → pq_XG pq_LR5 σ τ → pq_Tot (nm (sX_Work_size τ 0) (fun (σ1 : SX) => (some (r, σ1)))) (pq_Rd σ) := fun τ r i g => by
    refine pq_Tot.nm ?_
    have f : pq_xf [13] [] τ (sX_Work_size τ 0) := pq_xf.s pq_xf.rf (by decide) _
    have w := i.wr f (by decide) (by decide) (fun a _ z => absurd z (by simp)) (fun c hc hl => absurd hl (by revert c; decide)) (i.2.2.1.xf f (by decide) (by decide)) (i.2.2.2.xf f (by decide) (by decide))
    exact pq_rd1 w.1 (g.tr (w.2.up (by decide)))
  have key : ∀ (n : Nat) (v1 v2 : Int32) (τ : SX), pq_XI τ → pq_XG pq_LR5 σ τ → 0 ≤ v2.toInt → v2.toInt ≤ 20001 → 20001 - v2.toInt < n → pq_Tot (X_Reducer_less_L4 N n v1 v2 τ) (pq_Rd σ) := by
    intro n
    induction n with
    | zero => intro v1 v2 τ _ _ _ _ h; omega
    | succ n ih =>
      intro v1 v2 τ i g z0 z1 hn
      rw [X_Reducer_less_L4]
      refine pq_Tot.ite (fun _ => fin τ v1 i g) (fun le => pq_Tot.ite (fun _ => pq_Tot.bd (pq_take_x i) (fun r2 σ3 q => ?_)) (fun _ => fin τ v1 i g))
      rw [pq_iv_lt, show (20000 : Int32).toInt = 20000 from rfl] at le
      have e2 : (v2 + 1).toInt = v2.toInt + 1 := pq_iv_add (by rw [pq_iv_1]; omega) (by rw [pq_iv_1]; omega)
      have g3 : pq_XG pq_LR5 σ σ3 := g.tr (q.2.1.up (by decide))
      have b193 : ∀ (a : Int32) (υ : SX), pq_XI υ → pq_XG pq_LR5 σ υ → pq_Tot (X_Reducer_less_b193 N (X_Reducer_less_L4 N n) a v2 υ) (pq_Rd σ) := fun a υ j gj => by
        rw [X_Reducer_less_b193]; exact pq_Tot.nm (ih a (v2 + 1) υ j gj (by omega) (by omega) (by omega))
      have b48 : pq_Tot (X_Reducer_less_b48 N (X_Reducer_less_L4 N n) v2 σ3) (pq_Rd σ) := by rw [X_Reducer_less_b48]; exact b193 (-3) σ3 q.1 g3
      refine pq_Tot.ite (fun _ => fin σ3 v1 q.1 g3) (fun _ => pq_Tot.ite (fun _ => b48) (fun _ => pq_Tot.ite (fun _ => pq_Tot.nm (pq_Tot.nm (pq_Tot.nm ?_))) (fun _ => b48)))
      generalize hτ : sX_Reducer_made _ _ = σ7
      have f : pq_xf [9, 10] [] σ3 σ7 := by rw [← hτ]; exact pq_xf.s (pq_xf.s pq_xf.rf (by decide) _) (by decide) _
      clear hτ
      have w := q.1.wr f (by decide) (by decide) (fun a _ z => absurd z (by simp)) (fun c hc hl => absurd hl (by revert c; decide)) (q.1.2.2.1.xf f (by decide) (by decide)) (q.1.2.2.2.xf f (by decide) (by decide))
      have g7 : pq_XG pq_LR5 σ σ7 := g3.tr (w.2.up (by decide))
      have l7 : (gX_Work_left σ7).toInt < pq_Zx σ7 := w.1.2.1.2 15 (by decide)
      have r7 : (gX_Work_right σ7).toInt < pq_Zx σ7 := w.1.2.1.2 16 (by decide)
      refine pq_Tot.ite (fun _ => pq_Tot.bd (pq_comp_x (by omega) w.1 l7 r7) (fun a υ p => b193 a υ p.1 (g7.tr p.2.1))) (fun _ => ?_)
      refine pq_Tot.ite (fun _ => pq_Tot.bd (pq_sub_x (by omega) w.1 l7 r7) (fun a υ p => b193 a υ p.1 (g7.tr p.2.1))) (fun _ => ?_)
      refine pq_Tot.ite (fun _ => pq_Tot.bd (pq_contained_x (by omega) w.1 l7 r7) (fun a υ p => b193 a υ p.1 (g7.tr p.2.1))) (fun _ => ?_)
      exact pq_Tot.bd (pq_equal_x (by omega) w.1 l7 r7) (fun a υ p => b193 a υ p.1 (g7.tr p.2.1))
  rw [X_Reducer_less]
  exact key N 1 0 σ h pq_XG.rf (by decide) (by decide) (by rw [pq_iv_0]; omega)
end RE
