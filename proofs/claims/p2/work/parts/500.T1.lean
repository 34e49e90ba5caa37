def pq_Tot {St ρ : Type} (F : Option (ρ × St)) (Q : ρ → St → Prop) : Prop := ∃ r σ', F = some (r, σ') ∧ Q r σ'
section TT
variable {St ρ α : Type} {F F1 F2 : Option (ρ × St)} {Q Q' : ρ → St → Prop}
set_option maxRecDepth 100000 in
theorem pq_Tot.ret {r : ρ} {σ : St} (h : Q r σ) : pq_Tot (some (r, σ)) Q := ⟨r, σ, rfl, h⟩
set_option maxRecDepth 100000 in
theorem pq_Tot.ite {c : Prop} [Decidable c] (h1 : c → pq_Tot F1 Q) (h2 : ¬ c → pq_Tot F2 Q) : pq_Tot (if c then F1 else F2) Q := by
  by_cases h : c
  · rw [if_pos h]; exact h1 h
  · rw [if_neg h]; exact h2 h
set_option maxRecDepth 100000 in
theorem pq_Tot.ite1 {c : Prop} [Decidable c] (h : c) (h1 : pq_Tot F1 Q) : pq_Tot (if c then F1 else F2) Q := by
  rw [if_pos h]; exact h1
set_option maxRecDepth 100000 in
theorem pq_Tot.ite2 {c : Prop} [Decidable c] (h : ¬ c) (h1 : pq_Tot F2 Q) : pq_Tot (if c then F1 else F2) Q := by
  rw [if_neg h]; exact h1
set_option maxRecDepth 100000 in
theorem pq_Tot.nm {β : Type} {x : β} {f : β → Option (ρ × St)} (h : pq_Tot (f x) Q) : pq_Tot (nm x f) Q := h
set_option maxRecDepth 100000 in
theorem pq_Tot.bd {x : Option (α × St)} {f : α → St → Option (ρ × St)} {P : α → St → Prop} (h : pq_Tot x P) (k : ∀ r σ, P r σ → pq_Tot (f r σ) Q) : pq_Tot (bd x f) Q := by
  obtain ⟨r, σ', e, hp⟩ := h
  rw [e]; exact k r σ' hp
set_option maxRecDepth 100000 in
theorem pq_Tot.mono (h : pq_Tot F Q) (k : ∀ r σ, Q r σ → Q' r σ) : pq_Tot F Q' := by
  obtain ⟨r, σ', e, hp⟩ := h
  exact ⟨r, σ', e, k r σ' hp⟩
end TT
set_option maxRecDepth 100000 in
theorem pq_iv_lt {x y : Int32} : x < y ↔ x.toInt < y.toInt := Int32.lt_iff_toInt_lt
set_option maxRecDepth 100000 in
theorem pq_iv_le {x y : Int32} : x ≤ y ↔ x.toInt ≤ y.toInt := Int32.le_iff_toInt_le
set_option maxRecDepth 100000 in
theorem pq_iv_eq {x y : Int32} : x = y ↔ x.toInt = y.toInt := ⟨fun h => by rw [h], fun h => Int32.toInt_inj.1 h⟩
set_option maxRecDepth 100000 in
theorem pq_iv_rng (x : Int32) : -2147483648 ≤ x.toInt ∧ x.toInt < 2147483648 := ⟨Int32.le_toInt x, Int32.toInt_lt x⟩
set_option maxRecDepth 100000 in
theorem pq_iv_add {x y : Int32} (h1 : -2147483648 ≤ x.toInt + y.toInt) (h2 : x.toInt + y.toInt < 2147483648) : (x + y).toInt = x.toInt + y.toInt := by
  rw [Int32.toInt_add]; exact Int.bmod_eq_of_le (by omega) (by omega)
set_option maxRecDepth 100000 in
theorem pq_iv_sub {x y : Int32} (h1 : -2147483648 ≤ x.toInt - y.toInt) (h2 : x.toInt - y.toInt < 2147483648) : (x - y).toInt = x.toInt - y.toInt := by
  rw [Int32.toInt_sub]; exact Int.bmod_eq_of_le (by omega) (by omega)
set_option maxRecDepth 100000 in
theorem pq_iv_mul {x y : Int32} (h1 : -2147483648 ≤ x.toInt * y.toInt) (h2 : x.toInt * y.toInt < 2147483648) : (x * y).toInt = x.toInt * y.toInt := by
  rw [Int32.toInt_mul]; exact Int.bmod_eq_of_le (by omega) (by omega)
set_option maxRecDepth 100000 in
theorem pq_iv_nat {x : Int32} (h : 0 ≤ x.toInt) : (x.toNatClampNeg : Int) = x.toInt := by
  show ((x.toInt.toNat : Nat) : Int) = _
  omega
set_option maxRecDepth 100000 in
theorem pq_ck_mk {i : Int32} {n : Nat} (h1 : 0 ≤ i.toInt) (h2 : i.toInt < n) : ck i n = true := by
  refine decide_eq_true ?_
  have := pq_iv_nat h1
  rw [pq_iv_lt]
  simp only [Int32.toInt_zero]
  omega
set_option maxRecDepth 100000 in
theorem pq_iv_0 : (0 : Int32).toInt = 0 := rfl
set_option maxRecDepth 100000 in
theorem pq_iv_1 : (1 : Int32).toInt = 1 := rfl
set_option maxRecDepth 100000 in
theorem pq_iv_2 : (2 : Int32).toInt = 2 := rfl
set_option maxRecDepth 100000 in
theorem pq_iv_m1 : (-1 : Int32).toInt = -1 := rfl
set_option maxRecDepth 100000 in
theorem pq_upd_eq (f : Nat → Int32) (k : Nat) (x : Int32) : upd f k x k = x := by simp [upd]
set_option maxRecDepth 100000 in
theorem pq_upd_ne (f : Nat → Int32) {k j : Nat} (x : Int32) (h : j ≠ k) : upd f k x j = f j := by simp [upd, h]
