def pq_bt (x : Int64) (g : Nat) : Prop := x.toBitVec.getLsbD g = true
set_option maxRecDepth 100000 in
theorem pq_bt_or {x y : Int64} {g : Nat} : pq_bt (x ||| y) g ↔ pq_bt x g ∨ pq_bt y g := by
  simp [pq_bt]
set_option maxRecDepth 100000 in
theorem pq_bt_zero {g : Nat} : ¬ pq_bt 0 g := by
  simp [pq_bt]
set_option maxRecDepth 100000 in
theorem pq_i64_n : ∀ n : Fin 40, (Int32.ofNat n.1).toInt64 &&& 63 = Int64.ofNat n.1 := by decide
set_option maxRecDepth 100000 in
theorem pq_i64_of {y : Int32} (h0 : 0 ≤ y.toInt) (h1 : y.toInt < 40) : y.toInt64 &&& 63 = Int64.ofNat y.toInt.toNat := by
  have e : y = Int32.ofNat y.toInt.toNat := by
    rw [pq_iv_eq, Int32.toInt_ofNat_of_lt (by omega)]; omega
  have := pq_i64_n ⟨y.toInt.toNat, by omega⟩
  simp only at this
  rw [← e] at this; exact this
set_option maxRecDepth 100000 in
theorem pq_smod_n : ∀ n : Fin 40, ((Int64.ofNat n.1).toBitVec.smod 64).toNat = n.1 := by decide
set_option maxRecDepth 100000 in
theorem pq_bt_one {y : Int32} (h0 : 0 ≤ y.toInt) (h1 : y.toInt < 40) {g : Nat} : pq_bt ((1 : Int64) <<< (y.toInt64 &&& 63)) g ↔ g = y.toInt.toNat := by
  rw [pq_i64_of h0 h1, pq_bt, Int64.toBitVec_shiftLeft]
  have s := pq_smod_n ⟨y.toInt.toNat, by omega⟩
  simp only at s
  rw [BitVec.shiftLeft_eq', s, BitVec.getLsbD_shiftLeft]
  have : y.toNatClampNeg < 40 := by have := pq_iv_nat h0; omega
  simp
  omega
set_option maxRecDepth 100000 in
theorem pq_tst {x : Int64} {g : Int32} (h0 : 0 ≤ g.toInt) (h1 : g.toInt < 40) : lg_cmp ((x >>> (g.toInt64 &&& 63)) <<< ((63 : Int32).toInt64 &&& 63)) 0 = 0 ↔ ¬ pq_bt x g.toInt.toNat := by
  have z : ∀ w : Int64, lg_cmp w 0 = 0 ↔ w = 0 := fun w => by
    rw [lg_cmp]
    by_cases a : w > 0
    · rw [if_pos a]
      refine ⟨fun e => absurd e (by decide), fun e => ?_⟩
      rw [e] at a; exact absurd a (by decide)
    · rw [if_neg a]
      by_cases b : w = 0
      · rw [if_pos b]; exact ⟨fun _ => b, fun _ => rfl⟩
      · rw [if_neg b]; exact ⟨fun e => absurd e (by decide), fun e => absurd e b⟩
  rw [z, pq_i64_of h0 h1]
  have s := pq_smod_n ⟨g.toInt.toNat, by omega⟩
  simp only at s
  have e63 : ((63 : Int32).toInt64 &&& 63).toBitVec.smod 64 = 63#64 := by decide
  rw [← Int64.toBitVec_inj, Int64.toBitVec_shiftLeft, Int64.toBitVec_shiftRight, e63]
  have sh : x.toBitVec.sshiftRight' ((Int64.ofNat g.toInt.toNat).toBitVec.smod 64) = x.toBitVec.sshiftRight g.toInt.toNat := by
    rw [BitVec.sshiftRight', s]
  rw [sh]
  have n40 : g.toInt.toNat < 40 := by omega
  generalize g.toInt.toNat = n at n40
  rw [BitVec.shiftLeft_eq', show (63#64).toNat = 63 from rfl]
  have b0 : ∀ i, i < 64 → ((x.toBitVec.sshiftRight n) <<< 63).getLsbD i = (decide (i = 63) && x.toBitVec.getLsbD n) := fun i hi => by
    rw [BitVec.getLsbD_shiftLeft, BitVec.getLsbD_sshiftRight]
    by_cases e : i = 63
    · subst e; simp; omega
    · have : i < 63 := by omega
      simp [this, e]
  constructor
  · intro h b
    have := b0 63 (by omega)
    rw [h] at this
    rw [pq_bt] at b
    rw [b] at this
    simp at this
  · intro h
    apply BitVec.eq_of_getLsbD_eq
    intro i hi
    rw [b0 i hi]
    rw [pq_bt] at h
    simp [h]
