/-! ONE CALL ON FRESH OBJECTS: both answer alike -/
theorem opt_fst {S : Type} {x : Option (Int32 × S)} {r : Int32} (h : x.map Prod.fst = some r) : ∃ s, x = some (r, s) := by
  cases x with
  | none => cases h
  | some q => exact ⟨q.2, by rw [← Option.some.inj h]⟩
theorem i32_nlt {a b : Int32} (h : ¬ a < b) : b ≤ a := Int32.not_lt.mp h
theorem i32_nle {a b : Int32} (h : ¬ a ≤ b) : b < a := Int32.not_le.mp h
theorem fr_thas (a : Int32) : X_Types_has a zX = some (0, zX) := by
  unfold X_Types_has
  by_cases h : a < 0
  · rw [if_pos h]
  · rw [if_neg h, if_pos (show gX_Types_size zX ≤ a from i32_nlt h)]
theorem fr_kind (a : Int32) : X_Types_kindOf a zX = some (-1, zX) := by
  unfold X_Types_kindOf
  by_cases h : a < 0
  · rw [if_pos h]
  · rw [if_neg h, if_pos (show gX_Types_size zX ≤ a from i32_nlt h)]
theorem fr_bhas (a : Int32) : X_Bounds_has a zX = some (0, zX) := by
  unfold X_Bounds_has
  by_cases h : a < 0
  · rw [if_pos h]
  · rw [if_neg h, if_pos (show gX_Bounds_size zX ≤ a from i32_nlt h)]
theorem fr_ohas (a : Int32) : X_Told_has a zX = some (0, zX) := by
  unfold X_Told_has
  by_cases h : a < 0
  · rw [if_pos h]
  · rw [if_neg h, if_pos (show gX_Told_size zX ≤ a from i32_nlt h)]
theorem fr_mtype (a : Int32) : M_M_isType a zM = some (0, zM) := by
  unfold M_M_isType
  by_cases h : a < 0
  · rw [if_pos h]
  · rw [if_neg h, if_pos (show gM_M_types zM ≤ a from i32_nlt h)]
theorem fr_chas0 {a : Int32} (h : a < 0 ∨ 9 ≤ a) : X_Classes_has a zX = some (0, zX) ∧ M_M_isClass a zM = some (0, zM) := by
  unfold X_Classes_has M_M_isClass
  by_cases h0 : a < 0
  · rw [if_pos h0, if_pos h0]; exact ⟨rfl, rfl⟩
  · have h9 : (9 : Int32) ≤ a := h.resolve_left h0
    rw [if_neg h0, if_neg h0, if_pos (show gX_Classes_size zX ≤ a from h9), if_pos (show gM_M_classes zM ≤ a from h9)]; exact ⟨rfl, rfl⟩
theorem fr_cases {a : Int32} (n : Nat) (hn : n < 2 ^ 31) (h0 : ¬ a < 0) (h : ¬ nI n ≤ a) : ∃ j : Nat, j < n ∧ a = nI j := by
  rcases pk_ix a hn with h1 | h1 | h1
  · exact absurd h1 h0
  · exact absurd h1 h
  · exact h1
theorem fr_par (a : Int32) : X_Classes_parametersOf a zX = some (0, zX) := by
  by_cases h : a < 0 ∨ 9 ≤ a
  · unfold X_Classes_parametersOf
    rw [(fr_chas0 h).1]; rfl
  · obtain ⟨j, hj, rfl⟩ := fr_cases 9 (by decide) (fun q => h (Or.inl q)) (fun q => h (Or.inr q))
    have hx : X_Classes_has (nI j) zX = some (1, zX) := by
      unfold X_Classes_has
      rw [if_neg (fun q => h (Or.inl q)), if_neg (show ¬ gX_Classes_size zX ≤ nI j from fun q => h (Or.inr q))]
    simp only [X_Classes_parametersOf, hx, bd]
    rw [if_neg (by decide), if_pos (show ck (nI j) 40 = true from decide_eq_true (nI_in (by omega) (by decide)))]
    rfl
theorem fr_arg (a : Int32) : X_I_canBeArgument a zX = some (0, zX) := by
  simp only [X_I_canBeArgument, fr_kind, bd, fr_thas]
  rfl
theorem fr_marg (a : Int32) : M_M_isArgument a zM = some (0, zM) := by
  unfold M_M_isArgument
  rw [fr_mtype]; rfl
theorem fr_told (s a : Int32) : X_I_canBeTold s a zX = some (0, zX) := by
  unfold X_I_canBeTold
  rw [fr_thas]; rfl
theorem fr_there (a : Int32) : M_M_isThere 1000 a zM = some (0, zM) := by
  unfold M_M_isThere
  rw [fr_mtype]; rfl
def frR : SX → SM → Prop := fun σ τ => σ = zX ∧ τ = zM
def frT : SX → SM → Prop := fun _ _ => True
theorem fr_ev {x : Option (Int32 × SX)} {y : Option (Int32 × SM)} {r : Int32} (h1 : x.map Prod.fst = some r) (h2 : y.map Prod.fst = some r) : ∃ (r : Int32) (σ' : SX) (τ' : SM), x = some (r, σ') ∧ y = some (r, τ') ∧ frT σ' τ' := by
  obtain ⟨s, e1⟩ := opt_fst h1
  obtain ⟨t, e2⟩ := opt_fst h2
  exact ⟨r, s, t, e1, e2, trivial⟩
theorem fr_eq {x : Option (Int32 × SX)} {y : Option (Int32 × SM)} {r : Int32} {s : SX} {t : SM} (h1 : x = some (r, s)) (h2 : y = some (r, t)) : ∃ (r : Int32) (σ' : SX) (τ' : SM), x = some (r, σ') ∧ y = some (r, τ') ∧ frT σ' τ' := ⟨r, s, t, h1, h2, trivial⟩
set_option maxRecDepth 100000 in
theorem fr_declare (a : Int32) : ∃ (r : Int32) (σ' : SX) (τ' : SM), X_I_declare a zX = some (r, σ') ∧ M_M_declare a zM = some (r, τ') ∧ frT σ' τ' := by
  by_cases h0 : a < 0
  · exact fr_eq (r := -2) (by unfold X_I_declare; rw [if_pos h0]) (by unfold M_M_declare; rw [if_pos h0])
  by_cases h2 : a ≤ 2
  · obtain ⟨j, hj, rfl⟩ := fr_cases 3 (by decide) h0 (fun q => absurd (Int32.le_trans q h2) (by decide))
    match j, hj with
    | 0, _ => exact fr_ev (r := 9) (by decide +kernel) (by decide +kernel)
    | 1, _ => exact fr_ev (r := 9) (by decide +kernel) (by decide +kernel)
    | 2, _ => exact fr_ev (r := 9) (by decide +kernel) (by decide +kernel)
    | k + 3, h => exact absurd h (by omega)
  · exact fr_eq (r := -2) (by unfold X_I_declare; rw [if_neg h0, if_neg h2]) (by unfold M_M_declare; rw [if_neg h0, if_neg h2])
theorem fr_parent (a b : Int32) : ∃ (r : Int32) (σ' : SX) (τ' : SM), X_I_parent 1000 a b zX = some (r, σ') ∧ M_M_parent 1000 a b zM = some (r, τ') ∧ frT σ' τ' := by
  by_cases h9 : a < 9
  · exact fr_eq (r := -2) (by unfold X_I_parent; rw [if_pos h9]) (by unfold M_M_parent; rw [if_pos h9])
  · have hc := fr_chas0 (a := a) (Or.inr (i32_nlt h9))
    exact fr_eq (r := -2) (by unfold X_I_parent; rw [if_neg h9, hc.1]; rfl) (by unfold M_M_parent; rw [if_neg h9, hc.2]; rfl)
set_option maxRecDepth 100000 in
theorem fr_plain (a : Int32) : ∃ (r : Int32) (σ' : SX) (τ' : SM), X_I_plain 1000 a zX = some (r, σ') ∧ M_M_plain 1000 a zM = some (r, τ') ∧ frT σ' τ' := by
  by_cases h : a < 0 ∨ 9 ≤ a
  · have hc := fr_chas0 h
    exact fr_eq (r := -2) (by unfold X_I_plain; rw [hc.1]; rfl) (by unfold M_M_plain; rw [hc.2]; rfl)
  · obtain ⟨j, hj, rfl⟩ := fr_cases 9 (by decide) (fun q => h (Or.inl q)) (fun q => h (Or.inr q))
    match j, hj with
    | 0, _ => exact fr_ev (r := 0) (by decide +kernel) (by decide +kernel)
    | 1, _ => exact fr_ev (r := 0) (by decide +kernel) (by decide +kernel)
    | 2, _ => exact fr_ev (r := 0) (by decide +kernel) (by decide +kernel)
    | 3, _ => exact fr_ev (r := 0) (by decide +kernel) (by decide +kernel)
    | 4, _ => exact fr_ev (r := 0) (by decide +kernel) (by decide +kernel)
    | 5, _ => exact fr_ev (r := 0) (by decide +kernel) (by decide +kernel)
    | 6, _ => exact fr_ev (r := 0) (by decide +kernel) (by decide +kernel)
    | 7, _ => exact fr_ev (r := 0) (by decide +kernel) (by decide +kernel)
    | 8, _ => exact fr_ev (r := 0) (by decide +kernel) (by decide +kernel)
    | k + 9, h => exact absurd h (by omega)
theorem fr_of (a b c : Int32) : ∃ (r : Int32) (σ' : SX) (τ' : SM), X_I_of 1000 a b c zX = some (r, σ') ∧ M_M_of 1000 a b c zM = some (r, τ') ∧ frT σ' τ' := by
  have hx : X_I_of 1000 a b c zX = some (-2, zX) := by unfold X_I_of; rw [fr_par]; rfl
  by_cases h : a < 0 ∨ 9 ≤ a
  · exact fr_eq (r := -2) hx (by unfold M_M_of; rw [(fr_chas0 h).2]; rfl)
  · obtain ⟨j, hj, rfl⟩ := fr_cases 9 (by decide) (fun q => h (Or.inl q)) (fun q => h (Or.inr q))
    refine fr_eq (r := -2) (t := zM) hx ?_
    have hm : M_M_isClass (nI j) zM = some (1, zM) := by
      unfold M_M_isClass
      rw [if_neg (fun q => h (Or.inl q)), if_neg (show ¬ gM_M_classes zM ≤ nI j from fun q => h (Or.inr q))]
    simp only [M_M_of, hm, bd]
    rw [if_neg (by decide), if_pos (show ck (nI j) 40 = true from decide_eq_true (nI_in (by omega) (by decide))), if_pos (show aM_M_parameters zM (nI j).toNatClampNeg = 0 from rfl)]
set_option maxRecDepth 100000 in
theorem fr_wild (a b : Int32) : ∃ (r : Int32) (σ' : SX) (τ' : SM), X_I_wild 1000 a b zX = some (r, σ') ∧ M_M_wild 1000 a b zM = some (r, τ') ∧ frT σ' τ' := by
  by_cases h0 : a < 0
  · exact fr_eq (r := -2) (by unfold X_I_wild; rw [if_pos h0]) (by unfold M_M_wild; rw [if_pos h0])
  by_cases h2 : (2 : Int32) < a
  · exact fr_eq (r := -2) (by unfold X_I_wild; rw [if_neg h0, if_neg (Int32.not_le.mpr h2)]) (by unfold M_M_wild; rw [if_neg h0, if_pos h2])
  have h3 : a ≤ 2 := i32_nlt h2
  by_cases hz : a = 0
  · subst hz
    have e1 : X_I_wild 1000 0 b zX = X_I_wild 1000 0 0 zX := by
      unfold X_I_wild
      rw [if_neg (by decide), if_pos (by decide), if_pos rfl, if_neg (by decide), if_pos (by decide), if_pos rfl]
    have e2 : M_M_wild 1000 0 b zM = M_M_wild 1000 0 0 zM := by
      unfold M_M_wild
      rw [if_neg (by decide), if_neg (by decide), if_pos (by decide), if_neg (by decide), if_neg (by decide), if_pos (by decide)]
      unfold M_M_wild_b34
      rw [if_pos rfl, if_pos rfl]
    rw [e1, e2]
    exact fr_ev (r := 0) (by decide +kernel) (by decide +kernel)
  · have hp : ¬ a ≤ 0 := fun q => hz (Int32.le_antisymm q (i32_nlt h0))
    exact fr_eq (r := -2) (by unfold X_I_wild; rw [if_neg h0, if_pos h3, if_neg hz, fr_arg]; rfl) (by unfold M_M_wild; rw [if_neg h0, if_neg h2, if_neg hp, fr_marg]; rfl)
theorem fr_parameter (a b : Int32) : ∃ (r : Int32) (σ' : SX) (τ' : SM), X_I_parameter 1000 a b zX = some (r, σ') ∧ M_M_parameter 1000 a b zM = some (r, τ') ∧ frT σ' τ' := by
  have hx : X_I_parameter 1000 a b zX = some (-2, zX) := by
    unfold X_I_parameter
    by_cases hb : b < 0
    · rw [if_pos hb]
    · rw [if_neg hb, fr_par]
      show (if b < 0 then _ else some (-2, zX)) = _
      rw [if_neg hb]
  by_cases h : a < 0 ∨ 9 ≤ a
  · exact fr_eq (r := -2) hx (by unfold M_M_parameter; rw [(fr_chas0 h).2]; rfl)
  · obtain ⟨j, hj, rfl⟩ := fr_cases 9 (by decide) (fun q => h (Or.inl q)) (fun q => h (Or.inr q))
    refine fr_eq (r := -2) (t := zM) hx ?_
    have hm : M_M_isClass (nI j) zM = some (1, zM) := by
      unfold M_M_isClass
      rw [if_neg (fun q => h (Or.inl q)), if_neg (show ¬ gM_M_classes zM ≤ nI j from fun q => h (Or.inr q))]
    simp only [M_M_parameter, hm, bd]
    by_cases hb : b < 0
    · rw [if_neg (by decide), if_pos hb]
    · rw [if_neg (by decide), if_neg hb, if_pos (show ck (nI j) 40 = true from decide_eq_true (nI_in (by omega) (by decide))), if_pos (show aM_M_parameters zM _ ≤ b from i32_nlt hb)]
theorem fr_array (a : Int32) : ∃ (r : Int32) (σ' : SX) (τ' : SM), X_I_array 1000 a zX = some (r, σ') ∧ M_M_array 1000 a zM = some (r, τ') ∧ frT σ' τ' :=
  fr_eq (r := -2) (by unfold X_I_array; rw [fr_thas]; rfl) (by unfold M_M_array; rw [fr_mtype]; rfl)
set_option maxRecDepth 100000 in
theorem fr_primitive (a : Int32) : ∃ (r : Int32) (σ' : SX) (τ' : SM), X_I_primitive 1000 a zX = some (r, σ') ∧ M_M_primitive 1000 a zM = some (r, τ') ∧ frT σ' τ' := by
  by_cases h0 : a < 0
  · exact fr_eq (r := -2) (by unfold X_I_primitive; rw [if_pos h0]) (by unfold M_M_primitive; rw [if_pos h0])
  by_cases h8 : a < 8
  · obtain ⟨j, hj, rfl⟩ := fr_cases 8 (by decide) h0 (fun q => absurd h8 (Int32.not_lt.mpr q))
    match j, hj with
    | 0, _ => exact fr_ev (r := 0) (by decide +kernel) (by decide +kernel)
    | 1, _ => exact fr_ev (r := 0) (by decide +kernel) (by decide +kernel)
    | 2, _ => exact fr_ev (r := 0) (by decide +kernel) (by decide +kernel)
    | 3, _ => exact fr_ev (r := 0) (by decide +kernel) (by decide +kernel)
    | 4, _ => exact fr_ev (r := 0) (by decide +kernel) (by decide +kernel)
    | 5, _ => exact fr_ev (r := 0) (by decide +kernel) (by decide +kernel)
    | 6, _ => exact fr_ev (r := 0) (by decide +kernel) (by decide +kernel)
    | 7, _ => exact fr_ev (r := 0) (by decide +kernel) (by decide +kernel)
    | k + 8, h => exact absurd h (by omega)
  · have h7 : ¬ a ≤ 7 := fun q => h8 (by
      have h1 := Int32.le_iff_toInt_le.mp q
      exact Int32.lt_iff_toInt_lt.mpr (by have e1 : (7 : Int32).toInt = 7 := by decide
                                          have e2 : (8 : Int32).toInt = 8 := by decide
                                          omega))
    exact fr_eq (r := -2) (by unfold X_I_primitive; rw [if_neg h0, if_neg h8]) (by unfold M_M_primitive; rw [if_neg h0, if_neg h7])
theorem fr_formula (a b c : Int32) : ∃ (r : Int32) (σ' : SX) (τ' : SM), X_I_formula 1000 a b c zX = some (r, σ') ∧ M_M_formula 1000 a b c zM = some (r, τ') ∧ frT σ' τ' := by
  by_cases h0 : a < 0
  · exact fr_eq (r := -2) (by unfold X_I_formula; rw [if_pos h0]) (by unfold M_M_formula; rw [if_pos h0])
  by_cases h3 : (3 : Int32) < a
  · exact fr_eq (r := -2) (by unfold X_I_formula; rw [if_neg h0, if_neg (Int32.not_le.mpr h3)]) (by unfold M_M_formula; rw [if_neg h0, if_pos h3])
  · exact fr_eq (r := -2) (by unfold X_I_formula; rw [if_neg h0, if_pos (i32_nlt h3), fr_told]; rfl) (by unfold M_M_formula; rw [if_neg h0, if_neg h3, fr_there]; rfl)
theorem fr_count (a : Int32) : ∃ (r : Int32) (σ' : SX) (τ' : SM), X_I_count a zX = some (r, σ') ∧ M_M_count a zM = some (r, τ') ∧ frT σ' τ' := by
  unfold X_I_count M_M_count
  by_cases h0 : a = 0
  · rw [if_pos h0, if_pos h0]; exact fr_eq rfl rfl
  rw [if_neg h0, if_neg h0]
  by_cases h1 : a = 1
  · rw [if_pos h1, if_pos h1]; exact fr_eq rfl rfl
  rw [if_neg h1, if_neg h1]
  by_cases h2 : a = 2
  · rw [if_pos h2, if_pos h2]; exact fr_eq rfl rfl
  rw [if_neg h2, if_neg h2]
  by_cases h3 : a = 3
  · rw [if_pos h3, if_pos h3]; exact fr_eq rfl rfl
  rw [if_neg h3, if_neg h3]
  by_cases h4 : a = 4
  · rw [if_pos h4, if_pos h4]; exact fr_eq rfl rfl
  rw [if_neg h4, if_neg h4]
  by_cases h5 : a = 5
  · rw [if_pos h5, if_pos h5]; exact fr_eq rfl rfl
  rw [if_neg h5, if_neg h5]
  by_cases h6 : a = 6
  · rw [if_pos h6, if_pos h6]; exact fr_eq rfl rfl
  rw [if_neg h6, if_neg h6]
  by_cases h7 : a = 7
  · rw [if_pos h7, if_pos h7]; exact fr_eq rfl rfl
  rw [if_neg h7, if_neg h7]
  exact fr_eq rfl rfl
theorem fr_type (a b : Int32) : ∃ (r : Int32) (σ' : SX) (τ' : SM), X_I_type a b zX = some (r, σ') ∧ M_M_type a b zM = some (r, τ') ∧ frT σ' τ' :=
  fr_eq (r := -2) (by unfold X_I_type; rw [fr_thas]; rfl) (by unfold M_M_type; rw [fr_mtype]; rfl)
theorem fr_bound (a b : Int32) : ∃ (r : Int32) (σ' : SX) (τ' : SM), X_I_bound a b zX = some (r, σ') ∧ M_M_bound a b zM = some (r, τ') ∧ frT σ' τ' := by
  refine fr_eq (r := -2) (s := zX) (t := zM) (by unfold X_I_bound; rw [fr_bhas]; rfl) ?_
  unfold M_M_bound
  by_cases h : a < 0
  · rw [if_pos h]
  · rw [if_neg h, if_pos (show gM_M_bounds zM ≤ a from i32_nlt h)]
theorem fr_instance (a : Int32) : ∃ (r : Int32) (σ' : SX) (τ' : SM), X_I_instance 1000 a zX = some (r, σ') ∧ M_M_instance 1000 a zM = some (r, τ') ∧ frT σ' τ' := by
  by_cases h : a < 0
  · exact fr_eq (r := -2) (by unfold X_I_instance; rw [if_pos h]) (by unfold M_M_instance; rw [if_pos h])
  · exact fr_eq (r := -2) (by unfold X_I_instance; rw [if_neg h, if_neg (show ¬ a < gX_I_variables zX from h)]) (by unfold M_M_instance; rw [if_neg h, if_neg (show ¬ a < gM_M_variables zM from h)])
theorem fr_above (a b : Int32) : ∃ (r : Int32) (σ' : SX) (τ' : SM), X_I_above 1000 a b zX = some (r, σ') ∧ M_M_above 1000 a b zM = some (r, τ') ∧ frT σ' τ' :=
  fr_eq (r := -2) (by unfold X_I_above; rw [fr_thas]; rfl) (by unfold M_M_above; rw [fr_mtype]; rfl)
theorem fr_unchecked (a : Int32) : ∃ (r : Int32) (σ' : SX) (τ' : SM), X_I_unchecked a zX = some (r, σ') ∧ M_M_unchecked a zM = some (r, τ') ∧ frT σ' τ' := by
  refine fr_eq (r := -2) (s := zX) (t := zM) (by unfold X_I_unchecked; rw [fr_ohas]; rfl) ?_
  unfold M_M_unchecked
  by_cases h : a < 0
  · rw [if_pos h]
  · rw [if_neg h, if_neg (show ¬ a < gM_M_told zM from h)]
theorem fr_judge (a : Int32) : ∃ (r : Int32) (σ' : SX) (τ' : SM), X_I_judge 1000 a zX = some (r, σ') ∧ M_M_judge 1000 a zM = some (r, τ') ∧ frT σ' τ' := by
  refine fr_eq (r := -2) (s := zX) (t := zM) (by unfold X_I_judge; rw [fr_ohas]; rfl) ?_
  unfold M_M_judge
  by_cases h : a < 0
  · rw [if_pos h]
  · rw [if_neg h, if_neg (show ¬ a < gM_M_told zM from h)]
set_option maxRecDepth 100000 in
theorem fr_steps : StepsR 1000 frR frT := by
  refine ⟨?_, ?_, ?_, ?_, ?_, ?_, ?_, ?_, ?_, ?_, ?_, ?_, ?_, ?_, ?_, ?_, ?_, ?_, ?_, ?_, fun _ _ _ => trivial⟩
  · rintro a _ _ ⟨rfl, rfl⟩; exact fr_declare a
  · rintro a b _ _ ⟨rfl, rfl⟩; exact fr_parent a b
  · rintro a _ _ ⟨rfl, rfl⟩; exact fr_plain a
  · rintro a b c _ _ ⟨rfl, rfl⟩; exact fr_of a b c
  · rintro a b _ _ ⟨rfl, rfl⟩; exact fr_wild a b
  · rintro a b _ _ ⟨rfl, rfl⟩; exact fr_parameter a b
  · rintro a _ _ ⟨rfl, rfl⟩; exact fr_array a
  · rintro a _ _ ⟨rfl, rfl⟩; exact fr_primitive a
  · rintro _ _ ⟨rfl, rfl⟩; exact fr_ev (r := 0) (by decide +kernel) (by decide +kernel)
  · rintro _ _ ⟨rfl, rfl⟩; exact fr_ev (r := 0) (by decide +kernel) (by decide +kernel)
  · rintro a b c _ _ ⟨rfl, rfl⟩; exact fr_formula a b c
  · rintro _ _ ⟨rfl, rfl⟩; exact fr_ev (r := 0) (by decide +kernel) (by decide +kernel)
  · rintro _ _ ⟨rfl, rfl⟩; exact fr_ev (r := 0) (by decide +kernel) (by decide +kernel)
  · rintro a _ _ ⟨rfl, rfl⟩; exact fr_count a
  · rintro a b _ _ ⟨rfl, rfl⟩; exact fr_type a b
  · rintro a b _ _ ⟨rfl, rfl⟩; exact fr_bound a b
  · rintro a _ _ ⟨rfl, rfl⟩; exact fr_instance a
  · rintro a b _ _ ⟨rfl, rfl⟩; exact fr_above a b
  · rintro a _ _ ⟨rfl, rfl⟩; exact fr_unchecked a
  · rintro a _ _ ⟨rfl, rfl⟩; exact fr_judge a
/-- the law on scripts of at most four ints -/
theorem law_small {L : Nat} {xs : Nat → Int32} (hL : L ≤ 4) : ∃ (n : Nat) (z' : SL), L_L_law_L18 1000 xs L n 0 (zX, zM) = some ((), z') := by
  obtain ⟨z', h⟩ := law_run (N := 1000) (L := L) (xs := xs) (by omega) (fun j => if j = 0 then frR else frT) (fun j hj => by
    have hj0 : j = 0 := by omega
    subst hj0
    exact fr_steps) (L / 4) 0 zX zM (by omega) ⟨rfl, rfl⟩
  exact ⟨_, z', h⟩
