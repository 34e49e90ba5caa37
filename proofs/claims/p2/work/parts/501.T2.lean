def pq_cI (σ : SM) : Int := (gM_M_classes σ).toInt
def pq_tI (σ : SM) : Int := (gM_M_types σ).toInt
def pq_kI (σ : SM) (t : Nat) : Int := (aM_M_kind σ t).toInt
def pq_oI (σ : SM) (t : Nat) : Int := (aM_M_one σ t).toInt
def pq_wI (σ : SM) (t : Nat) : Int := (aM_M_two σ t).toInt
def pq_hI (σ : SM) (t : Nat) : Int := (aM_M_three σ t).toInt
def pq_dI (σ : SM) (t : Nat) : Int := (aM_M_deep σ t).toInt
def pq_qI (σ : SM) (t : Nat) : Int := (aM_M_proper σ t).toInt
def pq_pI (σ : SM) (c : Nat) : Int := (aM_M_parameters σ c).toInt
def pq_fl (σ : SM) : Prop := gM_M_full σ ≠ 0
def pq_vt (σ : SM) (x : Int) : Prop := 0 ≤ x ∧ x < pq_tI σ
def pq_Okk (σ : SM) (T k a b c : Int) : Prop :=
  (k = 0 → 0 ≤ a ∧ a < pq_cI σ) ∧
  (k = 1 → 9 ≤ a ∧ a < pq_cI σ ∧ 0 ≤ b ∧ b < T ∧ (c = -1 ∧ pq_pI σ a.toNat = 1 ∨ 0 ≤ c ∧ c < T ∧ pq_pI σ a.toNat = 2)) ∧
  (k = 2 → 0 ≤ a ∧ a ≤ 2 ∧ (0 < a → 0 ≤ b ∧ b < T)) ∧
  (k = 3 → 0 ≤ a ∧ a < pq_cI σ ∧ (b = 0 ∨ b = 1) ∧ b < pq_pI σ a.toNat) ∧
  (k = 4 → 0 ≤ a ∧ a < T) ∧
  (k = 5 → 0 ≤ a ∧ a ≤ 7) ∧
  (k = 7 → 0 ≤ a ∧ a ≤ 11) ∧
  (k = 8 → 0 ≤ a ∧ a < T ∧ pq_kI σ a.toNat = 1 ∧ (b = 0 ∧ pq_kI σ (pq_wI σ a.toNat).toNat = 2 ∨ b = 1 ∧ 0 ≤ pq_hI σ a.toNat ∧ pq_kI σ (pq_hI σ a.toNat).toNat = 2))
def pq_Dok (σ : SM) (k a b c d : Int) : Prop :=
  1 ≤ d ∧ d ≤ 20 ∧ (k = 1 → pq_dI σ b.toNat < d ∧ (0 ≤ c → pq_dI σ c.toNat < d)) ∧ (k = 2 → 0 < a → pq_dI σ b.toNat < d) ∧ (k = 4 → pq_dI σ a.toNat < d) ∧ (k = 8 → pq_dI σ a.toNat < d)
def pq_TyOk (σ : SM) (t : Nat) : Prop := pq_Okk σ t (pq_kI σ t) (pq_oI σ t) (pq_wI σ t) (pq_hI σ t) ∧ pq_Dok σ (pq_kI σ t) (pq_oI σ t) (pq_wI σ t) (pq_hI σ t) (pq_dI σ t)
def pq_Pk (σ : SM) (k a b c : Int) : Prop :=
  k ≠ 7 ∧ (k = 1 → pq_qI σ b.toNat = 1 ∧ (0 ≤ c → pq_qI σ c.toNat = 1)) ∧ (k = 2 → 0 < a → pq_qI σ b.toNat = 1) ∧ (k = 4 → pq_qI σ a.toNat = 1) ∧ (k = 8 → pq_qI σ a.toNat = 1)
def pq_Fl (x : Int) (P : Prop) : Prop := (x = 0 ∧ ¬ P) ∨ (x = 1 ∧ P)
set_option maxRecDepth 100000 in
theorem pq_Fl.iff {x : Int} {P P' : Prop} (h : pq_Fl x P) (e : P ↔ P') : pq_Fl x P' := h.imp (fun z => ⟨z.1, fun y => z.2 (e.2 y)⟩) (fun z => ⟨z.1, e.1 z.2⟩)
set_option maxRecDepth 100000 in
theorem pq_Fl.one {x : Int} {P : Prop} (h : pq_Fl x P) : x = 1 ↔ P := by
  rcases h with h | h
  · exact ⟨fun e => by have := h.1; omega, fun e => absurd e h.2⟩
  · exact ⟨fun _ => h.2, fun _ => h.1⟩
set_option maxRecDepth 100000 in
theorem pq_Fl.nz {x : Int} {P : Prop} (h : pq_Fl x P) : x ≠ 0 ↔ P := by
  rcases h with h | h
  · exact ⟨fun e => absurd h.1 e, fun e => absurd e h.2⟩
  · exact ⟨fun _ => h.2, fun _ => by have := h.1; omega⟩
def pq_Tb (σ : SM) : Prop := 9 ≤ pq_cI σ ∧ pq_cI σ ≤ 40 ∧ 0 ≤ pq_tI σ ∧ pq_tI σ ≤ 500 ∧ ∀ t : Nat, (t : Int) < pq_tI σ → pq_TyOk σ t ∧ pq_Fl (pq_qI σ t) (pq_Pk σ (pq_kI σ t) (pq_oI σ t) (pq_wI σ t) (pq_hI σ t))
def pq_Ex (σ τ : SM) : Prop := pq_cI τ = pq_cI σ ∧ (∀ c, pq_pI τ c = pq_pI σ c) ∧ pq_tI σ ≤ pq_tI τ ∧ ∀ t : Nat, (t : Int) < pq_tI σ → pq_kI τ t = pq_kI σ t ∧ pq_oI τ t = pq_oI σ t ∧ pq_wI τ t = pq_wI σ t ∧ pq_hI τ t = pq_hI σ t ∧ pq_dI τ t = pq_dI σ t ∧ pq_qI τ t = pq_qI σ t
set_option maxRecDepth 100000 in
theorem pq_Ex.rf {σ : SM} : pq_Ex σ σ := ⟨rfl, fun _ => rfl, Int.le_refl _, fun _ _ => ⟨rfl, rfl, rfl, rfl, rfl, rfl⟩⟩
set_option maxRecDepth 100000 in
theorem pq_Ex.tr {σ τ υ : SM} (h : pq_Ex σ τ) (k : pq_Ex τ υ) : pq_Ex σ υ := by
  refine ⟨k.1.trans h.1, fun c => (k.2.1 c).trans (h.2.1 c), Int.le_trans h.2.2.1 k.2.2.1, fun t ht => ?_⟩
  have a := h.2.2.2 t ht
  have b := k.2.2.2 t (Int.lt_of_lt_of_le ht h.2.2.1)
  exact ⟨b.1.trans a.1, b.2.1.trans a.2.1, b.2.2.1.trans a.2.2.1, b.2.2.2.1.trans a.2.2.2.1, b.2.2.2.2.1.trans a.2.2.2.2.1, b.2.2.2.2.2.trans a.2.2.2.2.2⟩
set_option maxRecDepth 100000 in
theorem pq_Ex.vt {σ τ : SM} (h : pq_Ex σ τ) {x : Int} (k : pq_vt σ x) : pq_vt τ x := ⟨k.1, Int.lt_of_lt_of_le k.2 h.2.2.1⟩
set_option maxRecDepth 100000 in
theorem pq_tn_lt {x : Int} {T : Int} (h : 0 ≤ x) (k : x < T) : ((x.toNat : Nat) : Int) < T := by omega
set_option maxRecDepth 100000 in
theorem pq_Ex.k {σ τ : SM} (h : pq_Ex σ τ) {x : Int} (v : pq_vt σ x) : pq_kI τ x.toNat = pq_kI σ x.toNat := (h.2.2.2 _ (pq_tn_lt v.1 v.2)).1
set_option maxRecDepth 100000 in
theorem pq_Ex.o {σ τ : SM} (h : pq_Ex σ τ) {x : Int} (v : pq_vt σ x) : pq_oI τ x.toNat = pq_oI σ x.toNat := (h.2.2.2 _ (pq_tn_lt v.1 v.2)).2.1
set_option maxRecDepth 100000 in
theorem pq_Ex.w {σ τ : SM} (h : pq_Ex σ τ) {x : Int} (v : pq_vt σ x) : pq_wI τ x.toNat = pq_wI σ x.toNat := (h.2.2.2 _ (pq_tn_lt v.1 v.2)).2.2.1
set_option maxRecDepth 100000 in
theorem pq_Ex.h {σ τ : SM} (h : pq_Ex σ τ) {x : Int} (v : pq_vt σ x) : pq_hI τ x.toNat = pq_hI σ x.toNat := (h.2.2.2 _ (pq_tn_lt v.1 v.2)).2.2.2.1
set_option maxRecDepth 100000 in
theorem pq_Ex.d {σ τ : SM} (h : pq_Ex σ τ) {x : Int} (v : pq_vt σ x) : pq_dI τ x.toNat = pq_dI σ x.toNat := (h.2.2.2 _ (pq_tn_lt v.1 v.2)).2.2.2.2.1
set_option maxRecDepth 100000 in
theorem pq_Ex.q {σ τ : SM} (h : pq_Ex σ τ) {x : Int} (v : pq_vt σ x) : pq_qI τ x.toNat = pq_qI σ x.toNat := (h.2.2.2 _ (pq_tn_lt v.1 v.2)).2.2.2.2.2
set_option maxRecDepth 100000 in
theorem pq_Tb.ok {σ : SM} (h : pq_Tb σ) {x : Int} (v : pq_vt σ x) : pq_TyOk σ x.toNat := (h.2.2.2.2 _ (pq_tn_lt v.1 v.2)).1
set_option maxRecDepth 100000 in
theorem pq_Tb.pk {σ : SM} (h : pq_Tb σ) {x : Int} (v : pq_vt σ x) : pq_Fl (pq_qI σ x.toNat) (pq_Pk σ (pq_kI σ x.toNat) (pq_oI σ x.toNat) (pq_wI σ x.toNat) (pq_hI σ x.toNat)) := (h.2.2.2.2 _ (pq_tn_lt v.1 v.2)).2
set_option maxRecDepth 100000 in
theorem pq_Okk.ex {σ τ : SM} (h : pq_Ex σ τ) (hT : pq_Tb σ) {T T' k a b c : Int} (h1 : T ≤ pq_tI σ) (h2 : T ≤ T') (o : pq_Okk σ T k a b c) : pq_Okk τ T' k a b c := by
  obtain ⟨o0, o1, o2, o3, o4, o5, o7, o8⟩ := o
  refine ⟨fun e => ?_, fun e => ?_, fun e => ?_, fun e => ?_, fun e => ?_, o5, o7, fun e => ?_⟩
  · rw [h.1]; exact o0 e
  · obtain ⟨x1, x2, x3, x4, x5⟩ := o1 e
    rw [h.1, h.2.1]
    refine ⟨x1, x2, x3, by omega, ?_⟩
    rcases x5 with x5 | x5
    · exact Or.inl x5
    · exact Or.inr ⟨x5.1, by omega, x5.2.2⟩
  · obtain ⟨x1, x2, x3⟩ := o2 e
    exact ⟨x1, x2, fun z => ⟨(x3 z).1, by have := (x3 z).2; omega⟩⟩
  · rw [h.1, h.2.1]; exact o3 e
  · have := o4 e; exact ⟨this.1, by omega⟩
  · obtain ⟨x1, x2, x3, x4⟩ := o8 e
    have va : pq_vt σ a := ⟨x1, by omega⟩
    rw [h.k va, h.w va, h.h va]
    have ta := (hT.ok va).1.2.1 x3
    have vw : pq_vt σ (pq_wI σ a.toNat) := ⟨ta.2.2.1, by have := ta.2.2.2.1; have := pq_tn_lt va.1 va.2; omega⟩
    refine ⟨x1, by omega, x3, ?_⟩
    rw [h.k vw]
    rcases x4 with x4 | x4
    · exact Or.inl x4
    · refine Or.inr ⟨x4.1, x4.2.1, ?_⟩
      have vh : pq_vt σ (pq_hI σ a.toNat) := by
        refine ⟨x4.2.1, ?_⟩
        rcases ta.2.2.2.2 with y | y
        · have := y.1; omega
        · have := y.2.1; have := pq_tn_lt va.1 va.2; omega
      rw [h.k vh]; exact x4.2.2
set_option maxRecDepth 100000 in
theorem pq_Okk.dok {σ τ : SM} (h : pq_Ex σ τ) {T k a b c d : Int} (h1 : T ≤ pq_tI σ) (o : pq_Okk σ T k a b c) (e : pq_Dok σ k a b c d) : pq_Dok τ k a b c d := by
  obtain ⟨o0, o1, o2, o3, o4, o5, o7, o8⟩ := o
  obtain ⟨d1, d2, d3, d4, d5, d6⟩ := e
  refine ⟨d1, d2, fun e => ?_, fun e z => ?_, fun e => ?_, fun e => ?_⟩
  · obtain ⟨x1, x2, x3, x4, x5⟩ := o1 e
    rw [h.d (x := b) ⟨x3, by omega⟩]
    refine ⟨(d3 e).1, fun z => ?_⟩
    rw [h.d (x := c) ⟨z, by rcases x5 with y | y <;> omega⟩]
    exact (d3 e).2 z
  · obtain ⟨x1, x2, x3⟩ := o2 e
    rw [h.d (x := b) ⟨(x3 z).1, by have := (x3 z).2; omega⟩]; exact d4 e z
  · rw [h.d (x := a) ⟨(o4 e).1, by have := (o4 e).2; omega⟩]; exact d5 e
  · rw [h.d (x := a) ⟨(o8 e).1, by have := (o8 e).2.1; omega⟩]; exact d6 e
set_option maxRecDepth 100000 in
theorem pq_Okk.pk {σ τ : SM} (h : pq_Ex σ τ) {T k a b c : Int} (h1 : T ≤ pq_tI σ) (o : pq_Okk σ T k a b c) : pq_Pk σ k a b c ↔ pq_Pk τ k a b c := by
  obtain ⟨o0, o1, o2, o3, o4, o5, o7, o8⟩ := o
  have e1 : k = 1 → pq_qI τ b.toNat = pq_qI σ b.toNat ∧ (0 ≤ c → pq_qI τ c.toNat = pq_qI σ c.toNat) := fun e => by
    obtain ⟨x1, x2, x3, x4, x5⟩ := o1 e
    exact ⟨h.q (x := b) ⟨x3, by omega⟩, fun z => h.q (x := c) ⟨z, by rcases x5 with y | y <;> omega⟩⟩
  have e2 : k = 2 → 0 < a → pq_qI τ b.toNat = pq_qI σ b.toNat := fun e z => by
    obtain ⟨x1, x2, x3⟩ := o2 e
    exact h.q (x := b) ⟨(x3 z).1, by have := (x3 z).2; omega⟩
  have e4 : k = 4 → pq_qI τ a.toNat = pq_qI σ a.toNat := fun e => h.q (x := a) ⟨(o4 e).1, by have := (o4 e).2; omega⟩
  have e8 : k = 8 → pq_qI τ a.toNat = pq_qI σ a.toNat := fun e => h.q (x := a) ⟨(o8 e).1, by have := (o8 e).2.1; omega⟩
  constructor
  · rintro ⟨p0, p1, p2, p4, p8⟩
    exact ⟨p0, fun e => ⟨by rw [(e1 e).1]; exact (p1 e).1, fun z => by rw [(e1 e).2 z]; exact (p1 e).2 z⟩, fun e z => by rw [e2 e z]; exact p2 e z, fun e => by rw [e4 e]; exact p4 e, fun e => by rw [e8 e]; exact p8 e⟩
  · rintro ⟨p0, p1, p2, p4, p8⟩
    exact ⟨p0, fun e => ⟨by rw [← (e1 e).1]; exact (p1 e).1, fun z => by rw [← (e1 e).2 z]; exact (p1 e).2 z⟩, fun e z => by rw [← e2 e z]; exact p2 e z, fun e => by rw [← e4 e]; exact p4 e, fun e => by rw [← e8 e]; exact p8 e⟩
def pq_fr (L A : List Nat) (σ τ : SM) : Prop := (∀ i, i ∉ L → τ.1 i = σ.1 i) ∧ (∀ i, i ∉ A → τ.2.1 i = σ.2.1 i) ∧ τ.2.2 = σ.2.2
set_option maxRecDepth 100000 in
theorem pq_fr.rf {L A : List Nat} {σ : SM} : pq_fr L A σ σ := ⟨fun _ _ => rfl, fun _ _ => rfl, rfl⟩
set_option maxRecDepth 100000 in
theorem pq_fr.tr {L A : List Nat} {σ τ υ : SM} (h : pq_fr L A σ τ) (k : pq_fr L A τ υ) : pq_fr L A σ υ :=
  ⟨fun i hi => (k.1 i hi).trans (h.1 i hi), fun i hi => (k.2.1 i hi).trans (h.2.1 i hi), k.2.2.trans h.2.2⟩
set_option maxRecDepth 100000 in
theorem pq_fr.up {L A L' A' : List Nat} {σ τ : SM} (h : pq_fr L A σ τ) (hL : ∀ i ∈ L, i ∈ L') (hA : ∀ i ∈ A, i ∈ A') : pq_fr L' A' σ τ :=
  ⟨fun i hi => h.1 i (fun z => hi (hL i z)), fun i hi => h.2.1 i (fun z => hi (hA i z)), h.2.2⟩
set_option maxRecDepth 100000 in
theorem pq_fr.s {L A : List Nat} {σ τ : SM} (h : pq_fr L A σ τ) {i : Nat} (hi : i ∈ L) (v : Int32) : pq_fr L A σ (upd τ.1 i v, τ.2) :=
  ⟨fun j hj => (pq_upd_ne τ.1 v (fun (z : j = i) => hj (z ▸ hi))).trans (h.1 j hj), h.2.1, h.2.2⟩
set_option maxRecDepth 100000 in
theorem pq_fr.t {L A : List Nat} {σ τ : SM} (h : pq_fr L A σ τ) {i : Nat} (hi : i ∈ A) (f : Nat → Int32) : pq_fr L A σ (τ.1, va_up τ.2.1 i f, τ.2.2) :=
  ⟨h.1, fun j hj => (show va_up τ.2.1 i f j = τ.2.1 j from if_neg (fun (z : j = i) => hj (z ▸ hi))).trans (h.2.1 j hj), h.2.2⟩
set_option maxRecDepth 100000 in
theorem pq_Ex.same {σ τ : SM} (h1 : τ.1 0 = σ.1 0) (h2 : τ.1 1 = σ.1 1) (h0 : τ.2.1 0 = σ.2.1 0) (h3 : τ.2.1 3 = σ.2.1 3) (h4 : τ.2.1 4 = σ.2.1 4) (h5 : τ.2.1 5 = σ.2.1 5) (h6 : τ.2.1 6 = σ.2.1 6) (h7 : τ.2.1 7 = σ.2.1 7) (h8 : τ.2.1 8 = σ.2.1 8) : pq_Ex σ τ := by
  refine ⟨by simp [pq_cI, h1], fun c => by simp [pq_pI, h0], by simp [pq_tI, h2], fun t _ => ⟨by simp [pq_kI, h3], by simp [pq_oI, h4], by simp [pq_wI, h5], by simp [pq_hI, h6], by simp [pq_dI, h7], by simp [pq_qI, h8]⟩⟩
set_option maxRecDepth 100000 in
theorem pq_Tb.ex {σ τ : SM} (h : pq_Ex σ τ) (e : pq_tI τ = pq_tI σ) (hT : pq_Tb σ) : pq_Tb τ := by
  refine ⟨by rw [h.1]; exact hT.1, by rw [h.1]; exact hT.2.1, by rw [e]; exact hT.2.2.1, by rw [e]; exact hT.2.2.2.1, fun t ht => ?_⟩
  rw [e] at ht
  obtain ⟨o, op⟩ := hT.2.2.2.2 t ht
  have q := h.2.2.2 t ht
  refine ⟨⟨?_, ?_⟩, ?_⟩
  · rw [q.1, q.2.1, q.2.2.1, q.2.2.2.1]; exact o.1.ex h hT (by omega) (Int.le_refl _)
  · rw [q.1, q.2.1, q.2.2.1, q.2.2.2.1, q.2.2.2.2.1]; exact o.1.dok h (by omega) o.2
  · rw [q.1, q.2.1, q.2.2.1, q.2.2.2.1, q.2.2.2.2.2]; exact op.iff (o.1.pk h (by omega))
