def pq_tz (σ : SX) : Int := (gX_Types_size σ).toInt
def pq_kX (σ : SX) (t : Nat) : Int := (aX_Types_kind σ t).toInt
def pq_oX (σ : SX) (t : Nat) : Int := (aX_Types_first σ t).toInt
def pq_wX (σ : SX) (t : Nat) : Int := (aX_Types_second σ t).toInt
def pq_hX (σ : SX) (t : Nat) : Int := (aX_Types_third σ t).toInt
def pq_dX (σ : SX) (t : Nat) : Int := (aX_Types_depth σ t).toInt
def pq_Zx (σ : SX) : Int := if pq_tz σ ≤ 1 then 1 else pq_tz σ
set_option maxRecDepth 100000 in
theorem pq_tz_Zx (σ : SX) : pq_tz σ ≤ pq_Zx σ := by rw [pq_Zx]; split <;> omega
def pq_Rw (σ : SX) (t : Nat) : Prop :=
  (1 ≤ pq_dX σ t ∧ pq_dX σ t ≤ 20) ∧
  (pq_kX σ t = 4 ∨ pq_kX σ t = 8 → pq_oX σ t < t ∧ (0 ≤ pq_oX σ t → pq_dX σ (pq_oX σ t).toNat < pq_dX σ t)) ∧
  (pq_kX σ t = 1 ∨ pq_kX σ t = 2 → (0 ≤ pq_wX σ t → pq_dX σ (pq_wX σ t).toNat < pq_dX σ t) ∧ (0 ≤ pq_hX σ t → pq_kX σ t = 1 ∧ pq_dX σ (pq_hX σ t).toNat < pq_dX σ t)) ∧
  (pq_kX σ t ≠ 3 → pq_wX σ t < t) ∧ (pq_kX σ t = 3 → pq_wX σ t ≤ 1) ∧ pq_hX σ t < t
def pq_XT (σ : SX) : Prop := 0 ≤ pq_tz σ ∧ pq_tz σ ≤ 500 ∧ ∀ t : Nat, (t : Int) < pq_tz σ → pq_Rw σ t
abbrev pq_TA : List Nat := [2, 15, 17, 18, 19, 22, 23, 25, 27, 29, 30]
abbrev pq_TC : List Nat := [8, 15, 16]
def pq_LZ (σ : SX) : Prop := (∀ a ∈ pq_TA, ∀ i, (σ.2.1 a i).toInt < pq_Zx σ) ∧ (∀ c ∈ pq_TC, (σ.1 c).toInt < pq_Zx σ)
def pq_SZ (σ : SX) : Prop :=
  (9 ≤ (σ.1 3).toInt ∧ (σ.1 3).toInt ≤ 40) ∧ (0 ≤ (σ.1 5).toInt ∧ (σ.1 5).toInt ≤ 200) ∧ (0 ≤ (σ.1 18).toInt ∧ (σ.1 18).toInt ≤ 200) ∧ (0 ≤ (σ.1 19).toInt ∧ (σ.1 19).toInt ≤ 200) ∧
  (0 ≤ (σ.1 20).toInt ∧ (σ.1 20).toInt ≤ 60) ∧ (0 ≤ (σ.1 0).toInt ∧ (σ.1 0).toInt ≤ 12) ∧ (∀ i, 0 ≤ (σ.2.1 0 i).toInt ∧ (σ.2.1 0 i).toInt ≤ 2)
def pq_OwX (σ : SX) : Prop := 0 ≤ (gX_Exchange_owner σ).toInt → (gX_Exchange_owner σ).toInt < pq_tz σ ∧ pq_kX σ (gX_Exchange_owner σ).toInt.toNat = 1
def pq_XI (σ : SX) : Prop := pq_XT σ ∧ pq_LZ σ ∧ pq_SZ σ ∧ pq_OwX σ
def pq_XG (L : List Nat) (σ τ : SX) : Prop := pq_tz σ ≤ pq_tz τ ∧ (∀ t : Nat, (t : Int) < pq_tz σ → pq_kX τ t = pq_kX σ t ∧ pq_dX τ t = pq_dX σ t) ∧ ∀ i, i ∉ L → τ.1 i = σ.1 i
set_option maxRecDepth 100000 in
theorem pq_XG.rf {L : List Nat} {σ : SX} : pq_XG L σ σ := ⟨Int.le_refl _, fun _ _ => ⟨rfl, rfl⟩, fun _ _ => rfl⟩
set_option maxRecDepth 100000 in
theorem pq_XG.tr {L : List Nat} {σ τ υ : SX} (h : pq_XG L σ τ) (k : pq_XG L τ υ) : pq_XG L σ υ :=
  ⟨Int.le_trans h.1 k.1, fun t ht => ⟨(k.2.1 t (Int.lt_of_lt_of_le ht h.1)).1.trans (h.2.1 t ht).1, (k.2.1 t (Int.lt_of_lt_of_le ht h.1)).2.trans (h.2.1 t ht).2⟩, fun i hi => (k.2.2 i hi).trans (h.2.2 i hi)⟩
set_option maxRecDepth 100000 in
theorem pq_XG.up {L L' : List Nat} {σ τ : SX} (h : pq_XG L σ τ) (hL : ∀ i ∈ L, i ∈ L') : pq_XG L' σ τ := ⟨h.1, h.2.1, fun i hi => h.2.2 i (fun z => hi (hL i z))⟩
set_option maxRecDepth 100000 in
theorem pq_XG.z {L : List Nat} {σ τ : SX} (h : pq_XG L σ τ) : pq_Zx σ ≤ pq_Zx τ := by
  have := h.1
  rw [pq_Zx, pq_Zx]; split <;> split <;> omega
set_option maxRecDepth 100000 in
theorem pq_XG.lt {L : List Nat} {σ τ : SX} (h : pq_XG L σ τ) {x : Int} (k : x < pq_Zx σ) : x < pq_Zx τ := Int.lt_of_lt_of_le k h.z
def pq_xf (L A : List Nat) (σ τ : SX) : Prop := (∀ i, i ∉ L → τ.1 i = σ.1 i) ∧ (∀ i, i ∉ A → τ.2.1 i = σ.2.1 i)
set_option maxRecDepth 100000 in
theorem pq_xf.rf {L A : List Nat} {σ : SX} : pq_xf L A σ σ := ⟨fun _ _ => rfl, fun _ _ => rfl⟩
set_option maxRecDepth 100000 in
theorem pq_xf.s {L A : List Nat} {σ τ : SX} (h : pq_xf L A σ τ) {i : Nat} (hi : i ∈ L) (v : Int32) : pq_xf L A σ (upd τ.1 i v, τ.2) :=
  ⟨fun j hj => (pq_upd_ne τ.1 v (fun (z : j = i) => hj (z ▸ hi))).trans (h.1 j hj), h.2⟩
set_option maxRecDepth 100000 in
theorem pq_xf.t {L A : List Nat} {σ τ : SX} (h : pq_xf L A σ τ) {i : Nat} (hi : i ∈ A) (f : Nat → Int32) : pq_xf L A σ (τ.1, va_up τ.2.1 i f, τ.2.2) :=
  ⟨h.1, fun j hj => (show va_up τ.2.1 i f j = τ.2.1 j from if_neg (fun (z : j = i) => hj (z ▸ hi))).trans (h.2 j hj)⟩
set_option maxRecDepth 100000 in
theorem pq_xf.l {L A : List Nat} {σ τ : SX} (h : pq_xf L A σ τ) (g : Nat → Nat → Int64) : pq_xf L A σ (τ.1, τ.2.1, g) := h
set_option maxRecDepth 100000 in
theorem pq_xf.tr {L A : List Nat} {σ τ υ : SX} (h : pq_xf L A σ τ) (k : pq_xf L A τ υ) : pq_xf L A σ υ := ⟨fun i hi => (k.1 i hi).trans (h.1 i hi), fun i hi => (k.2 i hi).trans (h.2 i hi)⟩
set_option maxRecDepth 100000 in
theorem pq_xf.up {L A L' A' : List Nat} {σ τ : SX} (h : pq_xf L A σ τ) (hL : ∀ i ∈ L, i ∈ L') (hA : ∀ i ∈ A, i ∈ A') : pq_xf L' A' σ τ :=
  ⟨fun i hi => h.1 i (fun z => hi (hL i z)), fun i hi => h.2 i (fun z => hi (hA i z))⟩
set_option maxRecDepth 100000 in
theorem pq_xf.tab {L A : List Nat} {σ τ : SX} (h : pq_xf L A σ τ) (hL : 4 ∉ L) (hA : 4 ∉ A ∧ 5 ∉ A ∧ 6 ∉ A ∧ 7 ∉ A ∧ 8 ∉ A) : pq_tz τ = pq_tz σ ∧ (∀ t, pq_kX τ t = pq_kX σ t) ∧ (∀ t, pq_oX τ t = pq_oX σ t) ∧ (∀ t, pq_wX τ t = pq_wX σ t) ∧ (∀ t, pq_hX τ t = pq_hX σ t) ∧ (∀ t, pq_dX τ t = pq_dX σ t) :=
  ⟨by show (τ.1 4).toInt = _; rw [h.1 4 hL]; rfl, fun t => by show (τ.2.1 4 t).toInt = _; rw [h.2 4 hA.1]; rfl, fun t => by show (τ.2.1 5 t).toInt = _; rw [h.2 5 hA.2.1]; rfl, fun t => by show (τ.2.1 6 t).toInt = _; rw [h.2 6 hA.2.2.1]; rfl, fun t => by show (τ.2.1 7 t).toInt = _; rw [h.2 7 hA.2.2.2.1]; rfl, fun t => by show (τ.2.1 8 t).toInt = _; rw [h.2 8 hA.2.2.2.2]; rfl⟩
set_option maxRecDepth 100000 in
theorem pq_Rw.eq {σ τ : SX} {t : Nat} (h : pq_Rw σ t) (k : ∀ t, pq_kX τ t = pq_kX σ t) (o : ∀ t, pq_oX τ t = pq_oX σ t) (w : ∀ t, pq_wX τ t = pq_wX σ t) (hh : ∀ t, pq_hX τ t = pq_hX σ t) (d : ∀ t, pq_dX τ t = pq_dX σ t) : pq_Rw τ t := by
  rw [pq_Rw]; simp only [k, o, w, hh, d]; exact h
set_option maxRecDepth 100000 in
theorem pq_Zx.eq {σ τ : SX} (h : pq_tz τ = pq_tz σ) : pq_Zx τ = pq_Zx σ := by rw [pq_Zx, pq_Zx, h]
set_option maxRecDepth 100000 in
theorem pq_XI.wr {L A : List Nat} {σ τ : SX} (h : pq_XI σ) (f : pq_xf L A σ τ) (hL : 4 ∉ L) (hA : 4 ∉ A ∧ 5 ∉ A ∧ 6 ∉ A ∧ 7 ∉ A ∧ 8 ∉ A)
    (ha : ∀ a ∈ pq_TA, a ∈ A → ∀ i, (τ.2.1 a i).toInt < pq_Zx σ) (hc : ∀ c ∈ pq_TC, c ∈ L → (τ.1 c).toInt < pq_Zx σ) (hs : pq_SZ τ) (ho : pq_OwX τ) : pq_XI τ ∧ pq_XG L σ τ := by
  have t := f.tab hL hA
  refine ⟨⟨⟨by rw [t.1]; exact h.1.1, by rw [t.1]; exact h.1.2.1, fun x hx => ?_⟩, ⟨fun a ha' i => ?_, fun c hc' => ?_⟩, hs, ho⟩, by rw [t.1]; exact Int.le_refl _, fun x _ => ⟨t.2.1 x, t.2.2.2.2.2 x⟩, f.1⟩
  · rw [t.1] at hx
    exact (h.1.2.2 x hx).eq t.2.1 t.2.2.1 t.2.2.2.1 t.2.2.2.2.1 t.2.2.2.2.2
  · rw [pq_Zx.eq t.1]
    by_cases m : a ∈ A
    · exact ha a ha' m i
    · rw [f.2 a m]; exact h.2.1.1 a ha' i
  · rw [pq_Zx.eq t.1]
    by_cases m : c ∈ L
    · exact hc c hc' m
    · rw [f.1 c m]; exact h.2.1.2 c hc'
set_option maxRecDepth 100000 in
theorem pq_SZ.xf {L A : List Nat} {σ τ : SX} (h : pq_SZ σ) (f : pq_xf L A σ τ) (hL : 0 ∉ L ∧ 3 ∉ L ∧ 5 ∉ L ∧ 18 ∉ L ∧ 19 ∉ L ∧ 20 ∉ L) (hA : 0 ∉ A) : pq_SZ τ := by
  rw [pq_SZ, f.1 0 hL.1, f.1 3 hL.2.1, f.1 5 hL.2.2.1, f.1 18 hL.2.2.2.1, f.1 19 hL.2.2.2.2.1, f.1 20 hL.2.2.2.2.2, f.2 0 hA]; exact h
set_option maxRecDepth 100000 in
theorem pq_OwX.xf {L A : List Nat} {σ τ : SX} (h : pq_OwX σ) (f : pq_xf L A σ τ) (hL : 4 ∉ L ∧ 8 ∉ L) (hA : 4 ∉ A) : pq_OwX τ := by
  have e : gX_Exchange_owner τ = gX_Exchange_owner σ := f.1 8 hL.2
  have t : pq_tz τ = pq_tz σ := by show (τ.1 4).toInt = _; rw [f.1 4 hL.1]; rfl
  have k : ∀ t, pq_kX τ t = pq_kX σ t := fun t => by show (τ.2.1 4 t).toInt = _; rw [f.2 4 hA]; rfl
  rw [pq_OwX, e, t, k]; exact h
section GE
set_option maxRecDepth 100000 in
theorem pq_XI.ckx {σ : SX} (h : pq_XI σ) {x : Int32} (h0 : ¬ x < 0) (h1 : ¬ gX_Types_size σ ≤ x) : ck x 500 = true := by
  rw [pq_iv_lt, pq_iv_0] at h0
  rw [pq_iv_le] at h1
  have := h.1.2.1
  exact pq_ck_mk (by omega) (by simp only [pq_tz] at this; omega)
set_option maxRecDepth 100000 in
theorem pq_XI.ckx' {σ : SX} (h : pq_XI σ) {x : Int32} (h0 : ¬ x < 0) (h1 : x < gX_Types_size σ) : ck x 500 = true := by
  rw [pq_iv_lt, pq_iv_0] at h0
  rw [pq_iv_lt] at h1
  have := h.1.2.1
  exact pq_ck_mk (by omega) (by simp only [pq_tz] at this; omega)
end GE
