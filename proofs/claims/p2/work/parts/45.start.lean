theorem q_1_15 : Cond.instantiable "InferReduce" 11 ∈ tblG := tb_1 15 rfl rfl
theorem q_4_77 : Cond.instantiable "InferReduceModel" 65 ∈ tblG := tb_4 77 rfl rfl
theorem q_1_14 : Cond.classLink "InferReduceLaw" 7 "InferReduce" ∈ tblG := tb_1 14 rfl rfl
theorem q_4_76 : Cond.classLink "InferReduceLaw" 10 "InferReduceModel" ∈ tblG := tb_4 76 rfl rfl
theorem q_1_16 : Cond.methodLink "InferReduceLaw" 9 y_I_init ∈ tblG := tb_1 16 rfl rfl
theorem q_4_78 : Cond.methodLink "InferReduceLaw" 12 y_M_init ∈ tblG := tb_4 78 rfl rfl
theorem q_1_17 : Cond.instanceMethod y_I_init ∈ tblG := tb_1 17 rfl rfl
theorem q_4_79 : Cond.instanceMethod y_M_init ∈ tblG := tb_4 79 rfl rfl
theorem q_1_18 : Cond.code y_I_init b_I_init 2 none ∈ tblG := tb_1 18 rfl rfl
theorem q_4_80 : Cond.code y_M_init b_M_init 1 none ∈ tblG := tb_4 80 rfl rfl
theorem known_all {s : State} {args : Array Value} (hts : ∀ w ∈ lw_tbl, w.before args s = true) : ∃ D : va_G, va_K D clA [] s := by
  have H : ∀ k : Nat, ∃ x : ClassId × (Nat → Nat), ∀ q : vw_C, clA[k]? = some q → u_Kn s q.1 q.2.1 q.2.2 x.1 x.2 := by
    intro k
    match k with
    | 0 =>
      obtain ⟨cC, iS, hK⟩ := u_known (C := "InferReduce$Bounds") (T := T_Bounds) (N := 5) (n := 5) hts (fun w hw => tb_lw (in_Bounds w hw)) (hts _ (tb_lw q_1_100))
      exact ⟨(cC, iS), fun q hq => by cases hq; exact hK⟩
    | 1 =>
      obtain ⟨cC, iS, hK⟩ := u_known (C := "InferReduce$Classes") (T := T_Classes) (N := 6) (n := 6) hts (fun w hw => tb_lw (in_Classes w hw)) (hts _ (tb_lw q_1_23))
      exact ⟨(cC, iS), fun q hq => by cases hq; exact hK⟩
    | 2 =>
      obtain ⟨cC, iS, hK⟩ := u_known (C := "InferReduce$Exchange") (T := T_Exchange) (N := 7) (n := 7) hts (fun w hw => tb_lw (in_Exchange w hw)) (hts _ (tb_lw q_1_125))
      exact ⟨(cC, iS), fun q hq => by cases hq; exact hK⟩
    | 3 =>
      obtain ⟨cC, iS, hK⟩ := u_known (C := "InferReduce$Holder") (T := T_Holder) (N := 7) (n := 7) hts (fun w hw => tb_lw (in_Holder w hw)) (hts _ (tb_lw q_1_229))
      exact ⟨(cC, iS), fun q hq => by cases hq; exact hK⟩
    | 4 =>
      obtain ⟨cC, iS, hK⟩ := u_known (C := "InferReduce$Reducer") (T := T_Reducer) (N := 9) (n := 9) hts (fun w hw => tb_lw (in_Reducer w hw)) (hts _ (tb_lw q_1_153))
      exact ⟨(cC, iS), fun q hq => by cases hq; exact hK⟩
    | 5 =>
      obtain ⟨cC, iS, hK⟩ := u_known (C := "InferReduce$Resolver") (T := T_Resolver) (N := 8) (n := 8) hts (fun w hw => tb_lw (in_Resolver w hw)) (hts _ (tb_lw q_2_18))
      exact ⟨(cC, iS), fun q hq => by cases hq; exact hK⟩
    | 6 =>
      obtain ⟨cC, iS, hK⟩ := u_known (C := "InferReduce$Told") (T := T_Told) (N := 5) (n := 5) hts (fun w hw => tb_lw (in_Told w hw)) (hts _ (tb_lw q_2_49))
      exact ⟨(cC, iS), fun q hq => by cases hq; exact hK⟩
    | 7 =>
      obtain ⟨cC, iS, hK⟩ := u_known (C := "InferReduce$Types") (T := T_Types) (N := 12) (n := 12) hts (fun w hw => tb_lw (in_Types w hw)) (hts _ (tb_lw q_1_53))
      exact ⟨(cC, iS), fun q hq => by cases hq; exact hK⟩
    | 8 =>
      obtain ⟨cC, iS, hK⟩ := u_known (C := "InferReduce$Work") (T := T_Work) (N := 9) (n := 9) hts (fun w hw => tb_lw (in_Work w hw)) (hts _ (tb_lw q_1_159))
      exact ⟨(cC, iS), fun q hq => by cases hq; exact hK⟩
    | 9 =>
      obtain ⟨cC, iS, hK⟩ := u_known (C := "InferReduce") (T := T_I) (N := 11) (n := 11) hts (fun w hw => tb_lw (in_I w hw)) (hts _ (tb_lw q_1_15))
      exact ⟨(cC, iS), fun q hq => by cases hq; exact hK⟩
    | 10 =>
      obtain ⟨cC, iS, hK⟩ := u_known (C := "InferReduceModel") (T := T_M) (N := 65) (n := 65) hts (fun w hw => tb_lw (in_M w hw)) (hts _ (tb_lw q_4_77))
      exact ⟨(cC, iS), fun q hq => by cases hq; exact hK⟩
    | k + 11 => exact ⟨(default, default), fun q hq => by simp [clA] at hq⟩
  refine ⟨(fun k => (Classical.choose (H k)).1, fun k => (Classical.choose (H k)).2), fun k q hq => Classical.choose_spec (H k) q hq, fun k q h => by simp at h⟩
section JS
variable {ρ : Type} {K : jx_E} {D : va_G} {tys : List (ClassId × FieldType)} {A : Nat → Prop} {nL : Nat} {cs sl : Nat} {pc : Nat} {lv : List (Nat × Value)} {st : List Value} {ws : va_W}
theorem JU_to {St : Type} {Q : Unit → Unit → State → Prop} {w2 : St → va_W} {Q2 : ρ → St → State → Prop} {z z' : St} {r0 : ρ} {F2 : Option (ρ × St)} {cs2 sl2 : Nat} (hF : F2 = some (r0, z')) (hw : ws = w2 z) (hQ : Q2 r0 z' = Q () ()) (h1 : cs = cs2) (h2 : sl = sl2) (k : J K D clA A nL w2 Q2 cs2 sl2 pc lv st z F2) : J K D clA A nL (fun _ : Unit => ws) Q cs sl pc lv st () (some ((), ())) := by
  subst hw h1 h2
  intro r σ' e H locs ls hP hD hS hl
  show jW K H locs cs sl (Q () ()) _
  rw [← hQ]
  exact k r0 z' hF H locs ls hP hD hS hl
end JS
set_option maxRecDepth 100000 in
set_option maxHeartbeats 4000000 in
/-- the law's walk, out of its pure function's coming to an end with true -/
theorem start_of {p : Program} {e : Env} {s : State} {m : MethodId} {below : List Frame} {meth : Method} {c : Code} (l : Launch) {b L : Nat} {xs : Nat → Int32} (C0 : lw_At p s m meth c b L xs) (N n : Nat) (z' : SL) (hf : L_L_law_L18 N xs L n 0 (zX, zM) = some ((), z')) : W p l e room_1 s m #[Value.ref b] below meth c s.heap [] 0 0 (lw_Z below #[Value.ref b] s) (entryFrame m ([Value.ref b] : List Value).toArray 4) := by
  obtain ⟨hx, hb, hr, hml, hown, hts, hX, hbl, hlocks, hgv⟩ := C0
  obtain ⟨D, hK⟩ := known_all hts
  have hZ : nestZ s := ⟨va_Nw.of rfl (hts _ (List.mem_append_right _ (List.mem_append_left _ (List.mem_of_getElem? (i := 101) rfl)))), va_Nw.of rfl (hts _ (List.mem_append_right _ (List.mem_append_left _ (List.mem_of_getElem? (i := 160) rfl)))), va_Nw.of rfl (hts _ (List.mem_append_right _ (List.mem_append_right _ (List.mem_append_left _ (List.mem_of_getElem? (i := 50) rfl)))))⟩
  have h : jx_ok (p, l, e, room_1, s, m, #[Value.ref b], below, meth, c) D clA [] (fun q => s.heap.size ≤ q) 4 b_L_law "InferReduceLaw" lw_tbl room_1 ret := ⟨hx, hb, hml, hown, hts, hK, fun q h => h, hlocks, rfl, hr⟩
  have hbA : ¬ (fun q => s.heap.size ≤ q) b := Nat.not_le.mpr hbl
  rw [lg_entry_eq]
  suffices hJ : J (p, l, e, room_1, s, m, #[Value.ref b], below, meth, c) D clA (fun q => s.heap.size ≤ q) 4 (fun _ : Unit => []) (fun (_ : Unit) (_ : Unit) => lw_Z below #[Value.ref b] s) 0 0 0 [(0, .ref b)] [] () (some ((), ())) from hJ () () rfl s.heap [] _ (fun k q h => by simp at h) ⟨fun i j p q h => by simp at h, fun k q h => by simp at h⟩ va_S.rf (lv_entry ([.ref b]) (n := 4) (Nat.le_of_ble_eq_true rfl))
  refine JU_new (ci := 9) (fs := fz_I) h (fun w hw => tb_lw (in_I w hw)) ft_I ft_I_ok (tb_lw q_1_14) (tb_lw q_1_15) (tb_lw q_1_1) rfl fs0_I (Nat.le_of_ble_eq_true rfl) (Nat.le_of_ble_eq_true rfl) d_L_law_0 (fun q1 => ?_)
  refine J_dup h d_L_law_3 rfl ?_
  refine JU_ctor (As := []) (st := [.ref q1]) h hZ (i_I l D q1) (gl_all q_1_18) rfl ⟨rfl, rfl⟩ (tb_lw q_1_16) (tb_lw q_1_17) (tb_lw q_1_1) rfl dd_I_init.2 ⟨Nat.le_of_ble_eq_true rfl, Nat.le_of_ble_eq_true rfl⟩ rfl rfl (Nat.le_of_ble_eq_true rfl) ⟨Nat.le_of_ble_eq_true rfl, Nat.le_of_ble_eq_true rfl⟩ d_L_law_4 (fun u1 h => ?_)
  refine J_astore_n (lv' := [(1, .ref q1), (0, .ref b)]) h d_L_law_7 rfl (by decide) rfl ?_
  refine JU_new (ci := 10) (fs := fz_M) h (fun w hw => tb_lw (in_M w hw)) ft_M ft_M_ok (tb_lw q_4_76) (tb_lw q_4_77) (tb_lw q_1_12) rfl fs0_M (Nat.le_of_ble_eq_true rfl) (Nat.le_of_ble_eq_true rfl) d_L_law_8 (fun q2 => ?_)
  refine J_dup h d_L_law_11 rfl ?_
  refine JU_ctor (As := []) (st := [.ref q2]) h hZ (i_M l D q2) (gl_all q_4_80) rfl ⟨rfl, rfl⟩ (tb_lw q_4_78) (tb_lw q_4_79) (tb_lw q_1_12) rfl dd_M_init.2 ⟨Nat.le_of_ble_eq_true rfl, Nat.le_of_ble_eq_true rfl⟩ rfl rfl (Nat.le_of_ble_eq_true rfl) ⟨Nat.le_of_ble_eq_true rfl, Nat.le_of_ble_eq_true rfl⟩ d_L_law_12 (fun u2 h => ?_)
  refine J_astore_n (lv' := [(2, .ref q2), (1, .ref q1), (0, .ref b)]) h d_L_law_15 rfl (by decide) rfl ?_
  refine J_iconst (v := 0) h d_L_law_16 (by decide) ?_
  refine J_istore_n (lv' := [(3, .int 0), (2, .ref q2), (1, .ref q1), (0, .ref b)]) h d_L_law_17 rfl (by decide) rfl ?_
  refine J_sub (lv' := [(0, .ref b), (1, .ref q1), (2, .ref q2), (3, .int 0)]) [3, 2, 1, 0] rfl ?_
  exact JU_to (w2 := wL (upA u1.1 q1) u1.2 (upA u2.1 q2) u2.2) (z := (zX, zM)) (cs2 := 89) (sl2 := 27006) hf rfl rfl rfl rfl (J_L_L_law_L18 _ D (upA u1.1 q1) u1.2 (upA u2.1 q2) u2.2 b N xs L (JU_tys (tys2 := tysX u1.2 ++ tysM u2.2) rfl h) hX hbl hbA rfl n 0 (zX, zM))
