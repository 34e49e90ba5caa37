/-! rows that came later: branches of constants, booleans, static calls of any class, the words of all methods -/
def zb (v : Int32) : Bool := decide (v = 0 ∨ v = 1)
theorem zb_fit {v : Int32} (h : zb v = true) : fits .boolean (.int v) = true := by
  rcases (of_decide_eq_true h : v = 0 ∨ v = 1) with rfl | rfl <;> decide
theorem zb_nar {v : Int32} (h : zb v = true) : narrow .boolean (.int v) = .int v := by
  rcases (of_decide_eq_true h : v = 0 ∨ v = 1) with rfl | rfl <;> decide
section JM
variable {St ρ : Type} {K : jx_E} {D : va_G} {cl : List vw_C} {tys : List (ClassId × FieldType)} {A : Nat → Prop} {nL : Nat} {cc : ByteArray} {own : String} {Ts : List Cond} {rm : Room} {rt : Option FieldType} {w : St → va_W} {Q : ρ → St → State → Prop} {cs sl : Nat} {pc : Nat} {lv : List (Nat × Value)} {st : List Value} {σ : St} {F F1 F2 : Option (ρ × St)}
theorem J_br_t {c : Prop} [Decidable c] (hc : c) (k : J K D cl A nL w Q cs sl pc lv st σ (if c then F else none)) : J K D cl A nL w Q cs sl pc lv st σ F := by
  rw [if_pos hc] at k; exact k
theorem J_br_f {c : Prop} [Decidable c] (hc : ¬ c) (k : J K D cl A nL w Q cs sl pc lv st σ (if c then none else F)) : J K D cl A nL w Q cs sl pc lv st σ F := by
  rw [if_neg hc] at k; exact k
theorem J_putz (h : jx_ok K D cl tys A nL cc own Ts rm rt) {C : String} {T : u_T} {N ci index a : Nat} (q0 : Nat) {fs : List Value} (he : (w σ)[q0]? = some (a, .inr (ci, fs))) (hin : ∀ x ∈ u_ws C T N, x ∈ Ts) (hc : cl[ci]? = some (C, T, N)) (ty0 : Nat → FieldType) (hty : ∀ k, k < N → parseFieldDescriptor (T k).2.2.1 = some (ty0 k)) (hnm : ∀ a, a < N → ∀ b, b < N → a ≠ b → (T a).2.1 ≠ (T b).2.1) (j : Nat) (hj : j < N) (hw : Cond.fieldLink own index (T j).1 (T j).2.1 (T j).2.2.1 ∈ Ts) (hfin : (T j).2.2.2 = false) {v : Int32} (hb : ty0 j = .boolean) (hl0 : j < fs.length) {σ2 : St} (hset : (w σ).set q0 (a, .inr (ci, fs.set j (.int v))) = w σ2) {f : St → Option (ρ × St)} (hd : decode cc pc = .ok (.putfield index, 3)) (k : ∀ σ1 : St, J K D cl A nL w Q cs sl (pc + 3) lv st σ1 (f σ1)) : J K D cl A nL w Q cs sl pc lv (.int v :: .ref a :: st) σ (if zb v = true then nm σ2 f else none) := by
  by_cases hz : zb v = true
  · rw [if_pos hz]
    exact J_putf h q0 he hin hc ty0 hty hnm j hj hw hfin (by rw [hb]; exact zb_nar hz) (by rw [hb]; exact zb_fit hz) hl0 hset hd k
  · rw [if_neg hz]; exact J_none
end JM
section JMC
variable {St ρ : Type} {K : jx_E} {D : va_G} {cl : List vw_C} {tys : List (ClassId × FieldType)} {A : Nat → Prop} {nL : Nat} {cc : ByteArray} {own : String} {Ts : List Cond} {rm : Room} {rt : Option FieldType} {w : St → va_W} {Q : ρ → St → State → Prop} {cs sl : Nat} {pc : Nat} {lv : List (Nat × Value)} {st : List Value} {σ : St}
theorem J_zretc (h : jx_ok K D cl tys A nL cc own Ts rm rt) (hr : rt = some .boolean) {v : Int32} (hd : decode cc pc = .ok (.ireturn, 1)) : J K D cl A nL w (jx_Qi K D cl tys w A) 0 0 pc lv [.int v] σ (if zb v = true then some (v, σ) else none) := by
  by_cases hz : zb v = true
  · rw [if_pos hz]
    exact J_zret h hr (zb_nar hz) hd
  · rw [if_neg hz]; exact J_none
theorem J_callTi (h : jx_ok K D cl tys A nL cc own Ts rm rt) {y : MethodName} {ws ws' : List Cond} {bytes : ByteArray} {maxL index n : Nat} {ret : Option FieldType} {rmc : Room} {As st0 : List Value} {f : Option (Int32 × St)} {g : Int32 → St → Option (ρ × St)} (hM : ∀ r σ', f = some (r, σ') → MetI (jl K) y ws rmc D cl tys w As σ r σ')
    (hG : GoodIn Ts ws) (hw1 : Cond.methodLink own index y ∈ Ts) (hw2 : Cond.static y ∈ Ts) (hw3 : Cond.initialized y.cls ∈ Ts) (hw : ws = Cond.code y bytes maxL ret :: ws') (hrm : rmc.cells = 0 ∧ rmc.slots = 0) (hdd : y.cls ≠ "java/lang/invoke/MethodHandle" ∧ y.cls ≠ "java/lang/invoke/VarHandle" ∧ (parseMethodDescriptor y.desc).map (fun d => d.parameters.length) = some n) (hR : rmc.frames + 1 ≤ rm.frames ∧ 8 + (maxL + 11) + rmc.locals ≤ rm.locals)
    (hn : As.length = n) (hst : st0 = As.reverse ++ st) (hroom : (st.map fun v => v.category).sum ≤ 8) (hcs : cs ≤ rm.cells ∧ sl ≤ rm.slots) (hd : decode cc pc = .ok (.invokestatic index, 3))
    (k : ∀ (r : Int32) (σ1 : St), J K D cl A nL w Q cs sl (pc + 3) lv (.int r :: st) σ1 (g r σ1)) : J K D cl A nL w Q cs sl pc lv st0 σ (bd f g) := by
  intro r1 σ9 e1 H locs ls hP hD hS hl
  obtain ⟨r0, σ0, ef, eg⟩ := bd_some e1
  have hF := jx_free hD hS h.2.2.2.2.2.2.1
  have hRe := h.2.2.2.2.2.2.2.2.1
  refine va_calli (va_runS (As := As) (rest := st) (mc := 0) (ms := 0) ⟨h.1, h.2.1, h.2.2.1, h.2.2.2.1, h.2.2.2.2.1⟩ (hM r0 σ0 ef H.size) ⟨callB_of n h.2.2.2.2.1 hG hw hrm.1 hrm.2 (h.2.2.2.2.1 _ hw3) (h.2.2.2.2.1 _ hw1) hdd (by rw [hRe]; exact hR), h.2.2.2.2.1 _ hw2⟩ ⟨jx_blind, fun U hU hW => ⟨rfl, by rw [hU], by rw [hU]; exact hP, va_K.moved hW.alike h.2.2.2.2.2.1, hD.weaken (fun _ _ _ _ => trivial)⟩⟩ rfl hn hl.1 hst (lv_room hroom) hd (by rw [hRe]; exact hcs)) hS (fun q _ z => hF q z) hF (fun r u t H1 locs1 ht hvm hw hB hz1 hk1 hS => ?_)
  obtain ⟨rfl, rfl⟩ := hw
  obtain ⟨hP1, hK1, hD1⟩ := hB
  rw [ht] at hP1
  exact k _ _ _ _ eg H1 locs1 ls hP1 (hD1.weaken (fun _ q _ z => hF q.1 z)) hS hl
theorem J_callTl (h : jx_ok K D cl tys A nL cc own Ts rm rt) {y : MethodName} {ws ws' : List Cond} {bytes : ByteArray} {maxL index n : Nat} {ret : Option FieldType} {rmc : Room} {As st0 : List Value} {f : Option (Int64 × St)} {g : Int64 → St → Option (ρ × St)} (hM : ∀ r σ', f = some (r, σ') → MetL (jl K) y ws rmc D cl tys w As σ r σ')
    (hG : GoodIn Ts ws) (hw1 : Cond.methodLink own index y ∈ Ts) (hw2 : Cond.static y ∈ Ts) (hw3 : Cond.initialized y.cls ∈ Ts) (hw : ws = Cond.code y bytes maxL ret :: ws') (hrm : rmc.cells = 0 ∧ rmc.slots = 0) (hdd : y.cls ≠ "java/lang/invoke/MethodHandle" ∧ y.cls ≠ "java/lang/invoke/VarHandle" ∧ (parseMethodDescriptor y.desc).map (fun d => d.parameters.length) = some n) (hR : rmc.frames + 1 ≤ rm.frames ∧ 8 + (maxL + 11) + rmc.locals ≤ rm.locals)
    (hn : As.length = n) (hst : st0 = As.reverse ++ st) (hroom : (st.map fun v => v.category).sum ≤ 8) (hcs : cs ≤ rm.cells ∧ sl ≤ rm.slots) (hd : decode cc pc = .ok (.invokestatic index, 3))
    (k : ∀ (r : Int64) (σ1 : St), J K D cl A nL w Q cs sl (pc + 3) lv (.long r :: st) σ1 (g r σ1)) : J K D cl A nL w Q cs sl pc lv st0 σ (bd f g) := by
  intro r1 σ9 e1 H locs ls hP hD hS hl
  obtain ⟨r0, σ0, ef, eg⟩ := bd_some e1
  have hF := jx_free hD hS h.2.2.2.2.2.2.1
  have hRe := h.2.2.2.2.2.2.2.2.1
  refine va_calll (va_runS (As := As) (rest := st) (mc := 0) (ms := 0) ⟨h.1, h.2.1, h.2.2.1, h.2.2.2.1, h.2.2.2.2.1⟩ (hM r0 σ0 ef H.size) ⟨callB_of n h.2.2.2.2.1 hG hw hrm.1 hrm.2 (h.2.2.2.2.1 _ hw3) (h.2.2.2.2.1 _ hw1) hdd (by rw [hRe]; exact hR), h.2.2.2.2.1 _ hw2⟩ ⟨jx_blind, fun U hU hW => ⟨rfl, by rw [hU], by rw [hU]; exact hP, va_K.moved hW.alike h.2.2.2.2.2.1, hD.weaken (fun _ _ _ _ => trivial)⟩⟩ rfl hn hl.1 hst (lv_room hroom) hd (by rw [hRe]; exact hcs)) hS (fun q _ z => hF q z) hF (fun r u t H1 locs1 ht hvm hw hB hz1 hk1 hS => ?_)
  obtain ⟨rfl, rfl⟩ := hw
  obtain ⟨hP1, hK1, hD1⟩ := hB
  rw [ht] at hP1
  exact k _ _ _ _ eg H1 locs1 ls hP1 (hD1.weaken (fun _ q _ z => hF q.1 z)) hS hl
theorem J_callTv (h : jx_ok K D cl tys A nL cc own Ts rm rt) {y : MethodName} {ws ws' : List Cond} {bytes : ByteArray} {maxL index n : Nat} {ret : Option FieldType} {rmc : Room} {As st0 : List Value} {f : Option (Unit × St)} {g : Unit → St → Option (ρ × St)} (hM : ∀ r σ', f = some (r, σ') → MetV (jl K) y ws rmc D cl tys w As σ r σ')
    (hG : GoodIn Ts ws) (hw1 : Cond.methodLink own index y ∈ Ts) (hw2 : Cond.static y ∈ Ts) (hw3 : Cond.initialized y.cls ∈ Ts) (hw : ws = Cond.code y bytes maxL ret :: ws') (hrm : rmc.cells = 0 ∧ rmc.slots = 0) (hdd : y.cls ≠ "java/lang/invoke/MethodHandle" ∧ y.cls ≠ "java/lang/invoke/VarHandle" ∧ (parseMethodDescriptor y.desc).map (fun d => d.parameters.length) = some n) (hR : rmc.frames + 1 ≤ rm.frames ∧ 8 + (maxL + 11) + rmc.locals ≤ rm.locals)
    (hn : As.length = n) (hst : st0 = As.reverse ++ st) (hroom : (st.map fun v => v.category).sum ≤ 8) (hcs : cs ≤ rm.cells ∧ sl ≤ rm.slots) (hd : decode cc pc = .ok (.invokestatic index, 3))
    (k : ∀ (r : Unit) (σ1 : St), J K D cl A nL w Q cs sl (pc + 3) lv (st) σ1 (g r σ1)) : J K D cl A nL w Q cs sl pc lv st0 σ (bd f g) := by
  intro r1 σ9 e1 H locs ls hP hD hS hl
  obtain ⟨r0, σ0, ef, eg⟩ := bd_some e1
  have hF := jx_free hD hS h.2.2.2.2.2.2.1
  have hRe := h.2.2.2.2.2.2.2.2.1
  refine va_callv (va_runS (As := As) (rest := st) (mc := 0) (ms := 0) ⟨h.1, h.2.1, h.2.2.1, h.2.2.2.1, h.2.2.2.2.1⟩ (hM r0 σ0 ef H.size) ⟨callB_of n h.2.2.2.2.1 hG hw hrm.1 hrm.2 (h.2.2.2.2.1 _ hw3) (h.2.2.2.2.1 _ hw1) hdd (by rw [hRe]; exact hR), h.2.2.2.2.1 _ hw2⟩ ⟨jx_blind, fun U hU hW => ⟨rfl, by rw [hU], by rw [hU]; exact hP, va_K.moved hW.alike h.2.2.2.2.2.1, hD.weaken (fun _ _ _ _ => trivial)⟩⟩ rfl hn hl.1 hst (lv_room hroom) hd (by rw [hRe]; exact hcs)) hS (fun q _ z => hF q z) hF (fun u t H1 locs1 ht hvm hw hB hz1 hk1 hS => ?_)
  subst hw
  obtain ⟨hP1, hK1, hD1⟩ := hB
  rw [ht] at hP1
  exact k _ _ _ _ eg H1 locs1 ls hP1 (hD1.weaken (fun _ q _ z => hF q.1 z)) hS hl
end JMC
def tblG : List Cond := lw_tbl.filter goodWord
theorem tb_all : tblG.all goodWord = true := List.all_eq_true.mpr (fun _ h => (List.mem_filter.mp h).2)
theorem tb_lw {w : Cond} (h : w ∈ tblG) : w ∈ lw_tbl := (List.mem_filter.mp h).1
theorem tb_s {w : Cond} (i : Nat) (h : (k2_sels lw_privs)[i]? = some w) (g : goodWord w = true) : w ∈ tblG := List.mem_filter.mpr ⟨List.mem_append_left _ (List.mem_of_getElem? h), g⟩
theorem tb_1 {w : Cond} (i : Nat) (h : tables_1_1[i]? = some w) (g : goodWord w = true) : w ∈ tblG := List.mem_filter.mpr ⟨List.mem_append_right _ (List.mem_append_left _ (List.mem_of_getElem? h)), g⟩
theorem tb_2 {w : Cond} (i : Nat) (h : tables_1_2[i]? = some w) (g : goodWord w = true) : w ∈ tblG := List.mem_filter.mpr ⟨List.mem_append_right _ (List.mem_append_right _ (List.mem_append_left _ (List.mem_of_getElem? h))), g⟩
theorem tb_3 {w : Cond} (i : Nat) (h : tables_1_3[i]? = some w) (g : goodWord w = true) : w ∈ tblG := List.mem_filter.mpr ⟨List.mem_append_right _ (List.mem_append_right _ (List.mem_append_right _ (List.mem_append_left _ (List.mem_of_getElem? h)))), g⟩
theorem tb_4 {w : Cond} (i : Nat) (h : tables_1_4[i]? = some w) (g : goodWord w = true) : w ∈ tblG := List.mem_filter.mpr ⟨List.mem_append_right _ (List.mem_append_right _ (List.mem_append_right _ (List.mem_append_right _ (List.mem_append_left _ (List.mem_of_getElem? h))))), g⟩
theorem tb_5 {w : Cond} (i : Nat) (h : tables_1_5[i]? = some w) (g : goodWord w = true) : w ∈ tblG := List.mem_filter.mpr ⟨List.mem_append_right _ (List.mem_append_right _ (List.mem_append_right _ (List.mem_append_right _ (List.mem_append_right _ (List.mem_append_left _ (List.mem_of_getElem? h)))))), g⟩
theorem tb_6 {w : Cond} (i : Nat) (h : tables_1_6[i]? = some w) (g : goodWord w = true) : w ∈ tblG := List.mem_filter.mpr ⟨List.mem_append_right _ (List.mem_append_right _ (List.mem_append_right _ (List.mem_append_right _ (List.mem_append_right _ (List.mem_append_right _ (List.mem_of_getElem? h)))))), g⟩
theorem gd_all {cm c : Cond} (hc : c ∈ tblG) : GoodIn (cm :: tblG) (c :: tblG) := by
  intro w hw
  have hm : w ∈ tblG := by
    rcases List.mem_cons.mp hw with rfl | h
    · exact hc
    · exact h
  exact ⟨List.mem_cons_of_mem _ hm, good_of_word (List.all_eq_true.mp tb_all w hm)⟩
theorem gd_V {cm : Cond} {own C : String} {idx n : Nat} {y : MethodName} {b : ByteArray} {r : Option FieldType} (h1 : Cond.methodLink own idx y ∈ tblG) (h2 : Cond.instanceMethod y ∈ tblG) (h3 : Cond.selects C y y ∈ tblG) (h4 : Cond.initialized C ∈ tblG) (h5 : Cond.code y b n r ∈ tblG) : GoodIn (cm :: tblG) (wsV own idx C y (Cond.code y b n r :: tblG)) := by
  intro w hw
  have hm : w ∈ tblG := by
    rcases List.mem_append.mp hw with h | h
    · simp only [List.mem_cons, List.not_mem_nil, or_false] at h
      rcases h with rfl | rfl | rfl | rfl
      · exact h1
      · exact h2
      · exact h3
      · exact h4
    · rcases List.mem_cons.mp h with rfl | h
      · exact h5
      · exact h
  exact ⟨List.mem_cons_of_mem _ hm, good_of_word (List.all_eq_true.mp tb_all w hm)⟩
theorem tb_up {cm w : Cond} (h : w ∈ tblG) : w ∈ cm :: tblG := List.mem_cons_of_mem _ h
theorem tb_ups {cm : Cond} {us : List Cond} (h : ∀ x ∈ us, x ∈ tblG) : ∀ x ∈ us, x ∈ cm :: tblG := fun x hx => List.mem_cons_of_mem _ (h x hx)
