abbrev pq_LG : List Nat := [1, 2, 3, 5, 6, 7, 8, 9, 10, 12, 13, 15, 16]
abbrev pq_AG : List Nat := [3, 4, 5, 6, 7, 8, 9, 12, 13, 14, 15, 16, 17, 18, 19, 20, 21, 22, 23, 24, 25, 26, 27, 28, 29, 30, 31]
def pq_P9 (σ : SM) : Prop := ∀ c : Nat, c < 9 → pq_pI σ c = 0
def pq_Sb (B : Int) (σ : SM) : Prop := ∃ K' : Nat, (K' : Int) + 39 * (20000 - pq_icI σ) ≤ B ∧ pq_Sn K' σ
def pq_Wo (B : Int) (σ : SM) : Prop := pq_Tb σ ∧ pq_Pb σ ∧ pq_Bd σ ∧ pq_Sb B σ ∧ (0 ≤ pq_icI σ ∧ pq_icI σ ≤ 20000) ∧ pq_P9 σ
def pq_Gn (σ τ : SM) : Prop := pq_Ex σ τ ∧ pq_fr pq_LG pq_AG σ τ ∧ pq_BG σ τ
set_option maxRecDepth 100000 in
theorem pq_Gn.rf {σ : SM} : pq_Gn σ σ := ⟨pq_Ex.rf, pq_fr.rf, pq_BG.rf⟩
set_option maxRecDepth 100000 in
theorem pq_Gn.tr {σ τ υ : SM} (h : pq_Gn σ τ) (k : pq_Gn τ υ) : pq_Gn σ υ := ⟨h.1.tr k.1, h.2.1.tr k.2.1, h.2.2.tr k.2.2⟩
set_option maxRecDepth 100000 in
theorem pq_P9.ex {σ τ : SM} (h : pq_P9 σ) (e : pq_Ex σ τ) : pq_P9 τ := fun c hc => by rw [e.2.1]; exact h c hc
set_option maxRecDepth 100000 in
theorem pq_Sb.le {B B' : Int} {σ : SM} (h : pq_Sb B σ) (k : B ≤ B') : pq_Sb B' σ := by
  obtain ⟨K, a, b⟩ := h
  exact ⟨K, by omega, b⟩
set_option maxRecDepth 100000 in
theorem pq_Wo.le {B B' : Int} {σ : SM} (h : pq_Wo B σ) (k : B ≤ B') : pq_Wo B' σ := ⟨h.1, h.2.1, h.2.2.1, h.2.2.2.1.le k, h.2.2.2.2⟩
set_option maxRecDepth 100000 in
theorem pq_Wo.mk {B B' : Int} {σ τ : SM} (h : pq_Wo B σ) (hT : pq_Tb τ) (e : pq_Ex σ τ) {L A : List Nat} (f : pq_fr L A σ τ) (h9 : 9 ∉ L) (h16 : 16 ∉ L) (a1 : 1 ∉ A) (a2 : 2 ∉ A) (a28 : 28 ∉ A) (a29 : 29 ∉ A) (a30 : 30 ∉ A) {K' : Nat} (hK : pq_Sn K' τ) (hb : (K' : Int) + 39 * (20000 - pq_icI σ) ≤ B') : pq_Wo B' τ ∧ pq_BG σ τ ∧ pq_bI τ = pq_bI σ := by
  have bg := pq_BG.fr f h16 a28 a29 a30
  have ic : pq_icI τ = pq_icI σ := by show (τ.1 9).toInt = _; rw [f.1 9 h9]; rfl
  exact ⟨⟨hT, h.2.1.fr e f a1 a2, h.2.2.1.ex e bg.1 bg.2, ⟨K', by rw [ic]; exact hb, hK⟩, by rw [ic]; exact h.2.2.2.2.1, h.2.2.2.2.2.ex e⟩, bg⟩
section WW
variable {B : Int} {σ : SM} {N : Nat}
set_option maxRecDepth 100000 in
theorem pq_Wo.cell (h : pq_Wo B σ) {τ : SM} {L A : List Nat} (f : pq_fr L A σ τ) (h0 : 0 ∉ L ∧ 1 ∉ L ∧ 0 ∉ A ∧ 3 ∉ A ∧ 4 ∉ A ∧ 5 ∉ A ∧ 6 ∉ A ∧ 7 ∉ A ∧ 8 ∉ A) (h5 : 5 ∉ L) (h9 : 9 ∉ L) (h16 : 16 ∉ L) (a1 : 1 ∉ A) (a2 : 2 ∉ A) (a17 : 17 ∉ A) (a28 : 28 ∉ A) (a29 : 29 ∉ A) (a30 : 30 ∉ A) : pq_Wo B τ ∧ pq_Ex σ τ ∧ pq_BG σ τ ∧ pq_bI τ = pq_bI σ := by
  have ex := f.ex h0
  obtain ⟨K, k1, k2⟩ := h.2.2.2.1
  have q := h.mk (B' := B) (pq_Tb.ex ex.1 ex.2 h.1) ex.1 f h9 h16 a1 a2 a28 a29 a30 (k2.fr f h5 a17) k1
  exact ⟨q.1, ex.1, q.2⟩
set_option maxRecDepth 100000 in
theorem pq_Wo.less (h : pq_Wo B σ) (hN : 20002 ≤ N) (hB : B + 41 < 4294967296) {x s t : Int32} {Z : Prop} (hv : ¬ pq_fl σ → pq_vt σ s.toInt ∧ pq_vt σ t.toInt ∧ (Z → pq_qI σ s.toInt.toNat = 1 ∧ pq_qI σ t.toInt.toNat = 1)) :
    pq_Tot (M_M_less N x s t σ) (fun r τ => (r = 0 ∨ r = 1) ∧ pq_Wo B τ ∧ pq_Gn σ τ ∧ (pq_fl τ → r = 0) ∧ (Z → pq_bI τ = pq_bI σ)) := by
  obtain ⟨h1, h2, h3, ⟨K, k1, k2⟩, h5, h6⟩ := h
  refine (pq_less_ok (Z := Z) (J := K) hN h1 h2 h3 hv ⟨K, Nat.le_refl _, k2⟩ h5.1 h5.2 (by omega)).mono (fun r τ hr => ?_)
  obtain ⟨l1, l2, l3, l4, l5, l6, l7, l8, ⟨K', l9, l10⟩, l11⟩ := hr
  exact ⟨l1, ⟨l2, h2.fr l3 l4 (by decide) (by decide), l5, ⟨K', by omega, l10⟩, ⟨by omega, by omega⟩, h6.ex l3⟩, ⟨l3, l4.up (by decide) (by decide), l6⟩, l11, l7⟩
set_option maxRecDepth 100000 in
theorem pq_Wo.lessv (h : pq_Wo B σ) (hN : 20002 ≤ N) (hB : B + 41 < 4294967296) {s t : Int32} (nf : ¬ pq_fl σ) (vs : pq_vt σ s.toInt) (v : pq_vt σ t.toInt) (k7 : pq_kI σ s.toInt.toNat = 7) (ne : s ≠ t) :
    pq_Tot (M_M_less N 3 s t σ) (fun r τ => (r = 0 ∨ r = 1) ∧ pq_Wo B τ ∧ pq_Gn σ τ ∧ (pq_fl τ → r = 0) ∧ (r ≠ 0 → pq_Hb τ 0 (pq_oI σ s.toInt.toNat) t.toInt)) := by
  obtain ⟨h1, h2, h3, ⟨K, k1, k2⟩, h5, h6⟩ := h
  refine (pq_less_var (J := K) hN h1 h2 h3 nf vs v k7 ne ⟨K, Nat.le_refl _, k2⟩ h5.1 h5.2 (by omega)).mono (fun r τ hr => ?_)
  obtain ⟨⟨l1, l2, l3, l4, l5, l6, l7, l8, ⟨K', l9, l10⟩, l11⟩, l12⟩ := hr
  exact ⟨l1, ⟨l2, h2.fr l3 l4 (by decide) (by decide), l5, ⟨K', by omega, l10⟩, ⟨by omega, by omega⟩, h6.ex l3⟩, ⟨l3, l4.up (by decide) (by decide), l6⟩, l11, l12⟩
set_option maxRecDepth 100000 in
theorem pq_Wo.above (h : pq_Wo B σ) (hN : 3000 ≤ N) (hB : B + 41 < 4294967296) (nf : ¬ pq_fl σ) {a c : Int32} {g : Nat} (va : pq_vt σ a.toInt) (eg : c.toInt = g) (hg : (g : Int) < pq_cI σ) :
    pq_Tot (M_M_aboveOf N a c σ) (fun r τ => pq_Wo (B + (39 - g)) τ ∧ pq_Gn σ τ ∧ pq_bI τ = pq_bI σ ∧ (pq_fl τ → r = -1) ∧ (¬ pq_fl τ → (pq_fnd σ a.toInt g → pq_vt τ r.toInt ∧ (pq_kI τ r.toInt.toNat = 0 ∨ pq_kI τ r.toInt.toNat = 1) ∧ pq_oI τ r.toInt.toNat = g ∧ (pq_qI σ a.toInt.toNat = 1 → pq_qI τ r.toInt.toNat = 1)) ∧ (¬ pq_fnd σ a.toInt g → r = -1))) := by
  obtain ⟨K, k1, k2⟩ := h.2.2.2.1
  have i0 := h.2.2.2.2.1
  have hc := h.1.2.1
  refine (pq_aboveOf_ok hN h.1 h.2.1 nf va eg hg k2 (by omega)).mono (fun r τ hr => ?_)
  obtain ⟨a1, a2, a3, ⟨K', a4, a5⟩, a6, a7⟩ := hr
  have q := h.mk (B' := B + (39 - g)) a1 a2 a3 (by decide) (by decide) (by decide) (by decide) (by decide) (by decide) (by decide) a5 (by omega)
  exact ⟨q.1, ⟨a2, a3.up (by decide) (by decide), q.2.1⟩, q.2.2, a6, a7⟩
set_option maxRecDepth 100000 in
theorem pq_Wo.isIn (h : pq_Wo B σ) (hN : 3000 ≤ N) (hB : B + 41 < 4294967296) (x : Int32) {t : Int32} (v : pq_vt σ t.toInt) :
    pq_Tot (M_M_isIn N x t σ) (fun r τ => (r = 0 ∨ r = 1) ∧ pq_Wo (B + 1) τ ∧ pq_Gn σ τ ∧ pq_bI τ = pq_bI σ ∧ pq_fr pq_LI pq_AI σ τ ∧ (r = 0 → ¬ pq_Oc σ x.toInt t.toInt)) := by
  obtain ⟨K, k1, k2⟩ := h.2.2.2.1
  have i0 := h.2.2.2.2.1
  refine (pq_isIn_no (by omega) x h.1 v k2 (by omega)).mono (fun r τ hr => ?_)
  obtain ⟨a1, a2, a3, a4⟩ := hr
  have ex := a2.ex (by decide)
  have q := h.mk (B' := B + 1) (pq_Tb.ex ex.1 ex.2 h.1) ex.1 a2 (by decide) (by decide) (by decide) (by decide) (by decide) (by decide) (by decide) a3 (by omega)
  exact ⟨a1, q.1, ⟨ex.1, a2.up (by decide) (by decide), q.2.1⟩, q.2.2, a2, a4⟩
set_option maxRecDepth 100000 in
theorem pq_Wo.replaced (h : pq_Wo B σ) (hN : 3000 ≤ N) (hB : B + 41 < 4294967296) (nf : ¬ pq_fl σ) {t ow : Int32} {Z : Prop} (ho : pq_OwOk Z σ ow) (v : pq_vt σ t.toInt) :
    pq_Tot (M_M_replaced N t ow σ) (fun r τ => pq_Wo (B + 1) τ ∧ pq_Gn σ τ ∧ pq_bI τ = pq_bI σ ∧ pq_fr pq_LR pq_AR σ τ ∧ (pq_fl τ → r = -1) ∧ (¬ pq_fl τ → pq_vt τ r.toInt)) := by
  obtain ⟨K, k1, k2⟩ := h.2.2.2.1
  have i0 := h.2.2.2.2.1
  refine (pq_replaced_ok hN h.1 nf ho v k2 (by omega)).mono (fun r τ hr => ?_)
  obtain ⟨a1, a2, a3, a4, a5, a6⟩ := hr
  have q := h.mk (B' := B + 1) a1 a2 a3 (by decide) (by decide) (by decide) (by decide) (by decide) (by decide) (by decide) a6 (by omega)
  exact ⟨q.1, ⟨a2, a3.up (by decide) (by decide), q.2.1⟩, q.2.2, a3, a4, fun z => (a5 z).2.1⟩
set_option maxRecDepth 100000 in
theorem pq_Wo.make (h : pq_Wo B σ) (hN : 501 ≤ N) {v1 v2 v3 v4 : Int32} (ho : ¬ pq_fl σ → pq_Okk σ (pq_tI σ) v1.toInt v2.toInt v3.toInt v4.toInt) :
    pq_Tot (M_M_make N v1 v2 v3 v4 σ) (fun r τ => pq_Wo B τ ∧ pq_Gn σ τ ∧ pq_bI τ = pq_bI σ ∧ pq_fr pq_LM pq_AM σ τ ∧ (pq_fl σ → pq_fl τ) ∧ (pq_fl τ → r = -1) ∧ (¬ pq_fl τ → pq_vt τ r.toInt ∧ pq_PM v1.toInt v2.toInt v3.toInt v4.toInt r.toInt τ)) := by
  obtain ⟨K, k1, k2⟩ := h.2.2.2.1
  refine (pq_make_ok hN h.1 ho).mono (fun r τ hr => ?_)
  obtain ⟨a1, a2, a3, a4, a5⟩ := hr
  have q := h.mk (B' := B) a1 a2 a3 (by decide) (by decide) (by decide) (by decide) (by decide) (by decide) (by decide) (k2.fr a3 (by decide) (by decide)) k1
  exact ⟨q.1, ⟨a2, a3.up (by decide) (by decide), q.2.1⟩, q.2.2, a3, fun z => Classical.byContradiction (fun w => (a5 w).1 z), a4, fun z => ⟨(a5 z).2.1, (a5 z).2.2⟩⟩
set_option maxRecDepth 100000 in
theorem pq_Okk.var {σ : SM} {T a b c : Int} (h : 0 ≤ a ∧ a ≤ 11) : pq_Okk σ T 7 a b c :=
  ⟨fun e => absurd e (by decide), fun e => absurd e (by decide), fun e => absurd e (by decide), fun e => absurd e (by decide), fun e => absurd e (by decide), fun e => absurd e (by decide), fun _ => h, fun e => absurd e (by decide)⟩
set_option maxRecDepth 100000 in
theorem pq_Okk.pl {σ : SM} {T a b c : Int} (h : 0 ≤ a ∧ a < pq_cI σ) : pq_Okk σ T 0 a b c :=
  ⟨fun _ => h, fun e => absurd e (by decide), fun e => absurd e (by decide), fun e => absurd e (by decide), fun e => absurd e (by decide), fun e => absurd e (by decide), fun e => absurd e (by decide), fun e => absurd e (by decide)⟩
set_option maxRecDepth 100000 in
theorem pq_Wo.plain (h : pq_Wo B σ) (hN : 501 ≤ N) {c : Int32} (hc : ¬ pq_fl σ → 0 ≤ c.toInt ∧ c.toInt < pq_cI σ) :
    pq_Tot (M_M_plainOf N c σ) (fun r τ => pq_Wo B τ ∧ pq_Gn σ τ ∧ pq_bI τ = pq_bI σ ∧ pq_fr pq_LM pq_AM σ τ ∧ (pq_fl σ → pq_fl τ) ∧ (pq_fl τ → r = -1) ∧ (¬ pq_fl τ → pq_vt τ r.toInt ∧ pq_PM 0 c.toInt (-1) (-1) r.toInt τ)) := by
  rw [M_M_plainOf]
  exact pq_Tot.bd (h.make hN (fun nf => pq_Okk.pl (hc nf))) (fun r τ hr => pq_Tot.ret hr)
end WW
