/-! THE CLAIM OUT OF ONE WALK OF THE LAW'S BODY. Your part is whole_start (and what it stands on); all else here is the same for every law, but numbers. -/
def R_law : String := "InferReduceLaw"
def lw_P (b : Addr) (xs : List Int32) (args : Array Value) (s : State) : Prop := args = #[.ref b] ∧ s.IntsAt b xs ∧ xs.length ≤ 2048 ∧ (Jvm.Cond.and given_1 narrow_1).before args s = true
def lw_Q (_ : Array Value) (s : State) (o : Outcome) (t : State) : Prop := o = .returned (some (.int 1)) ∧ Framed s o t [] 600000 7302250
def lw_Z (below : List Frame) (a : Array Value) (s : State) : State → Prop := fun t => ∃ o, t.status = .running ∧ Ended t below o ∧ lw_Q a s o t
/-- the law's own end, with 1 on the stack, nothing written that was there before, its room as the claim has it -/
theorem lw_ret {p : Program} {l : Launch} {e : Env} {s : State} {m : MethodId} {below : List Frame} {meth : Method} {c : Code} {b : Nat} (hx : p.tables.exec = Jvm.exec) (hb : c.code = code) (hr : meth.sig.returnType = ret) (hlocks : meth.locks = false) {pc : Nat} {H : Heap} {ls : Array Slot} (hdg : decode code pc = .ok (.ireturn, 1)) : W p l e room_1 s m #[Value.ref b] below meth c H [] 600000 7302250 (lw_Z below #[Value.ref b] s) (F0 m pc ls [.int 1]) := by
  intro T hT X
  obtain ⟨fs, hret, hrun, hended, hW, hframe⟩ := X.leave (v := some (.int 1)) (hlocks := hlocks) (fun h => by rw [hr] at h; cases h)
  have hmeth' : T.vm.method? m = some meth := X.method'
  refine ⟨T.setFrames fs, ?_, .returned (some (.int 1)), hrun, hended, rfl, ⟨_, rfl⟩, hW, hframe⟩
  jvm_step X.here [X.here.top, hx, hb, hdg, hmeth', hr, ret, narrow_b1]
  (try refine ⟨rfl, ?_⟩); (try refine ⟨rfl, ?_⟩)
  first | (intro acts; rw [hret _ acts rfl rfl rfl]) | rw [hret _ _ rfl rfl rfl]
  exact Steps.refl _
/-- what holds at the law's entry: the machine, the code, the tables' words (any of lw_tbl by 'hts w (by decide +kernel)'), the script of L ints xs at the cell b, what the Statement gives of the start (any of its parts by flat_of_before) -/
def lw_At (p : Program) (s : State) (m : MethodId) (meth : Method) (c : Code) (b L : Nat) (xs : Nat → Int32) : Prop :=
  p.tables.exec = Jvm.exec ∧ c.code = code ∧ meth.sig.returnType = ret ∧ c.maxLocals = 4 ∧ s.vm.findClass R_law = some m.cls ∧ (∀ w ∈ lw_tbl, w.before #[Value.ref b] s = true) ∧ va_X b L xs s s.heap ∧ b < s.heap.size ∧ meth.locks = false ∧ (Jvm.Cond.and given_1 narrow_1).before #[Value.ref b] s = true
/-! THE LAW: two worlds side by side -/
theorem vk_pre {D : va_G} {cl : List vw_C} {ta tb : List (ClassId × FieldType)} {U : State} (h : va_K D cl (ta ++ tb) U) : va_K D cl ta U := ⟨h.1, fun k q hk => h.2 k q (by rw [List.getElem?_append_left (List.getElem?_eq_some_iff.mp hk).1]; exact hk)⟩
theorem vk_suf {D : va_G} {cl : List vw_C} {ta tb : List (ClassId × FieldType)} {U : State} (h : va_K D cl (ta ++ tb) U) : va_K D cl tb U := ⟨h.1, fun k q hk => h.2 (ta.length + k) q (by rw [List.getElem?_append_right (Nat.le_add_right _ _), Nat.add_sub_cancel_left]; exact hk)⟩
theorem gl_V {own C : String} {idx n : Nat} {y : MethodName} {b : ByteArray} {r : Option FieldType} (h1 : Cond.methodLink own idx y ∈ tblG) (h2 : Cond.instanceMethod y ∈ tblG) (h3 : Cond.selects C y y ∈ tblG) (h4 : Cond.initialized C ∈ tblG) (h5 : Cond.code y b n r ∈ tblG) : GoodIn lw_tbl (wsV own idx C y (Cond.code y b n r :: tblG)) := by
  intro w hw
  obtain ⟨hm, hg⟩ := gd_V (cm := Cond.code y b n r) h1 h2 h3 h4 h5 w hw
  refine ⟨?_, hg⟩
  rcases List.mem_cons.mp hm with rfl | h
  · exact tb_lw h5
  · exact tb_lw h
theorem gl_all {c : Cond} (hc : c ∈ tblG) : GoodIn lw_tbl (c :: tblG) := by
  intro w hw
  obtain ⟨hm, hg⟩ := gd_all (cm := c) hc w hw
  refine ⟨?_, hg⟩
  rcases List.mem_cons.mp hm with rfl | h
  · exact tb_lw hc
  · exact tb_lw h
section JL
variable {SA SB ρ : Type} {K : jx_E} {D : va_G} {cl : List vw_C} {tys tyx tym : List (ClassId × FieldType)} {A : Nat → Prop} {nL : Nat} {cc : ByteArray} {own : String} {Ts : List Cond} {rm : Room} {rt : Option FieldType} {wx : SA → va_W} {wm : SB → va_W} {Q : ρ → SA × SB → State → Prop} {cs sl : Nat} {pc : Nat} {lv : List (Nat × Value)} {st : List Value} {z : SA × SB} {F : Option (ρ × (SA × SB))}
theorem J_sld {w : SA × SB → va_W} (h : jx_ok K D cl tys A nL cc own Ts rm rt) {b L : Nat} {xs : Nat → Int32} (hX : va_X b L xs (js K) (js K).heap) (hbl : b < (js K).heap.size) (hbA : ¬ A b) {i : Int32} (hd : decode cc pc = .ok (.iaload, 1)) (k : J K D cl A nL w Q cs sl (pc + 1) lv (.int (xs i.toNatClampNeg) :: st) z F) : J K D cl A nL w Q cs sl pc lv (.int i :: .ref b :: st) z (if ck i L = true then F else none) := by
  intro r σ' e H locs ls hP hD hS hl
  by_cases hk : ck i L = true
  · rw [if_pos hk] at e
    exact va_sld h.1 h.2.1 hX hbl hbA hS (ck_in hk) hd (k r σ' e H locs ls hP hD hS hl)
  · rw [if_neg hk] at e; cases e
theorem J_slen {w : SA × SB → va_W} (h : jx_ok K D cl tys A nL cc own Ts rm rt) {b L : Nat} {xs : Nat → Int32} (hX : va_X b L xs (js K) (js K).heap) (hbl : b < (js K).heap.size) (hbA : ¬ A b) (hd : decode cc pc = .ok (.arraylength, 1)) (k : J K D cl A nL w Q cs sl (pc + 1) lv (.int (Int32.ofNat L) :: st) z F) : J K D cl A nL w Q cs sl pc lv (.ref b :: st) z F :=
  fun r σ' e H locs ls hP hD hS hl => va_slen h.1 h.2.1 hX hbl hbA hS hd (k r σ' e H locs ls hP hD hS hl)
theorem J_callP (h : jx_ok K D cl (tyx ++ tym) A nL cc own Ts rm rt) {y : MethodName} {ws ws' : List Cond} {bytes : ByteArray} {maxL index n q0 ci b : Nat} {ret : Option FieldType} {rmc : Room} {C : String} {qc : vw_C} {fs As st0 : List Value} {f : Option (Int32 × SA)} {g : Int32 → SA → Option (ρ × (SA × SB))} (hM : ∀ r σ', f = some (r, σ') → MetI (jl K) y ws rmc D cl tyx wx (.ref b :: As) z.1 r σ')
    (hG : GoodIn Ts (wsV own index C y ws)) (hw : ws = Cond.code y bytes maxL ret :: ws') (hrm : rmc.cells = 0 ∧ rmc.slots = 0) (hdd : y.cls = C ∧ y.cls ≠ "java/lang/invoke/MethodHandle" ∧ y.cls ≠ "java/lang/invoke/VarHandle" ∧ (parseMethodDescriptor y.desc).map (fun d => d.parameters.length) = some n) (hR : rmc.frames + 1 ≤ rm.frames ∧ 8 + (maxL + 11) + rmc.locals ≤ rm.locals)
    (hc : cl[ci]? = some qc) (hC : qc.1 = C) (he : (wx z.1)[q0]? = some (b, .inr (ci, fs))) (hn : As.length = n) (hst : st0 = As.reverse ++ .ref b :: st) (hroom : (st.map fun v => v.category).sum ≤ 8) (hcs : cs ≤ rm.cells ∧ sl ≤ rm.slots) (hd : decode cc pc = .ok (.invokevirtual index, 3))
    (k : ∀ (r : Int32) (σ1 : SA), J K D cl A nL (fun q : SA × SB => wx q.1 ++ wm q.2) Q cs sl (pc + 3) lv (.int r :: st) (σ1, z.2) (g r σ1)) : J K D cl A nL (fun q : SA × SB => wx q.1 ++ wm q.2) Q cs sl pc lv st0 z (bd f g) := by
  intro r1 σ9 e1 H locs ls hP hD hS hl
  obtain ⟨r0, σ0, ef, eg⟩ := bd_some e1
  have hPx := wp_pre hP
  have hDx := wd_pre hD
  have hF : ∀ x, va_A (wx z.1) H.size x → A x := fun x hx => by
    rcases hx with ⟨j, e, hj⟩ | hx
    · exact hDx.2 j (x, e) hj
    · exact h.2.2.2.2.2.2.1 x (Nat.le_trans hS.1 hx)
  have hRe := h.2.2.2.2.2.2.2.2.1
  refine va_calli (va_runV (As := As) (rest := st) (mc := 0) (ms := 0) ⟨h.1, h.2.1, h.2.2.1, h.2.2.2.1, h.2.2.2.2.1⟩ (hM r0 σ0 ef H.size) (cwV n h.2.2.2.2.1 hG hw hrm.1 hrm.2 hdd (by rw [hRe]; exact hR)) ⟨jx_blind, by rw [← hC]; exact va_recv h.2.2.2.2.2.1 hPx hc he, fun U hU hW => ⟨rfl, by rw [hU], by rw [hU]; exact hPx, va_K.moved hW.alike (vk_pre h.2.2.2.2.2.1), hDx.weaken (fun _ _ _ _ => trivial)⟩⟩ rfl hn hl.1 hst (lv_room hroom) hd (by rw [hRe]; exact hcs)) hS (fun q _ z => hF q z) hF (fun r u t H1 locs1 ht hvm hw hB hz1 hk1 hS => ?_)
  obtain ⟨rfl, rfl⟩ := hw
  obtain ⟨hP1, hK1, hD1⟩ := hB
  rw [ht] at hP1
  obtain ⟨hP2, hD2⟩ := jn_pre hP hD hk1 hF hP1 hD1
  exact k _ _ _ _ eg H1 locs1 ls hP2 hD2 hS hl
theorem J_callQ (h : jx_ok K D cl (tyx ++ tym) A nL cc own Ts rm rt) {y : MethodName} {ws ws' : List Cond} {bytes : ByteArray} {maxL index n q0 ci b : Nat} {ret : Option FieldType} {rmc : Room} {C : String} {qc : vw_C} {fs As st0 : List Value} {f : Option (Int32 × SB)} {g : Int32 → SB → Option (ρ × (SA × SB))} (hM : ∀ r σ', f = some (r, σ') → MetI (jl K) y ws rmc D cl tym wm (.ref b :: As) z.2 r σ')
    (hG : GoodIn Ts (wsV own index C y ws)) (hw : ws = Cond.code y bytes maxL ret :: ws') (hrm : rmc.cells = 0 ∧ rmc.slots = 0) (hdd : y.cls = C ∧ y.cls ≠ "java/lang/invoke/MethodHandle" ∧ y.cls ≠ "java/lang/invoke/VarHandle" ∧ (parseMethodDescriptor y.desc).map (fun d => d.parameters.length) = some n) (hR : rmc.frames + 1 ≤ rm.frames ∧ 8 + (maxL + 11) + rmc.locals ≤ rm.locals)
    (hc : cl[ci]? = some qc) (hC : qc.1 = C) (he : (wm z.2)[q0]? = some (b, .inr (ci, fs))) (hn : As.length = n) (hst : st0 = As.reverse ++ .ref b :: st) (hroom : (st.map fun v => v.category).sum ≤ 8) (hcs : cs ≤ rm.cells ∧ sl ≤ rm.slots) (hd : decode cc pc = .ok (.invokevirtual index, 3))
    (k : ∀ (r : Int32) (σ1 : SB), J K D cl A nL (fun q : SA × SB => wx q.1 ++ wm q.2) Q cs sl (pc + 3) lv (.int r :: st) (z.1, σ1) (g r σ1)) : J K D cl A nL (fun q : SA × SB => wx q.1 ++ wm q.2) Q cs sl pc lv st0 z (bd f g) := by
  intro r1 σ9 e1 H locs ls hP hD hS hl
  obtain ⟨r0, σ0, ef, eg⟩ := bd_some e1
  have hPx := wp_suf hP
  have hDx := wd_suf hD
  have hF : ∀ x, va_A (wm z.2) H.size x → A x := fun x hx => by
    rcases hx with ⟨j, e, hj⟩ | hx
    · exact hDx.2 j (x, e) hj
    · exact h.2.2.2.2.2.2.1 x (Nat.le_trans hS.1 hx)
  have hRe := h.2.2.2.2.2.2.2.2.1
  refine va_calli (va_runV (As := As) (rest := st) (mc := 0) (ms := 0) ⟨h.1, h.2.1, h.2.2.1, h.2.2.2.1, h.2.2.2.2.1⟩ (hM r0 σ0 ef H.size) (cwV n h.2.2.2.2.1 hG hw hrm.1 hrm.2 hdd (by rw [hRe]; exact hR)) ⟨jx_blind, by rw [← hC]; exact va_recv h.2.2.2.2.2.1 hPx hc he, fun U hU hW => ⟨rfl, by rw [hU], by rw [hU]; exact hPx, va_K.moved hW.alike (vk_suf h.2.2.2.2.2.1), hDx.weaken (fun _ _ _ _ => trivial)⟩⟩ rfl hn hl.1 hst (lv_room hroom) hd (by rw [hRe]; exact hcs)) hS (fun q _ z => hF q z) hF (fun r u t H1 locs1 ht hvm hw hB hz1 hk1 hS => ?_)
  obtain ⟨rfl, rfl⟩ := hw
  obtain ⟨hP1, hK1, hD1⟩ := hB
  rw [ht] at hP1
  obtain ⟨hP2, hD2⟩ := jn_suf hP hD hk1 hF hP1 hD1
  exact k _ _ _ _ eg H1 locs1 ls hP2 hD2 hS hl
end JL
section JLR
variable {St : Type} {K : jx_E} {D : va_G} {cl : List vw_C} {tys : List (ClassId × FieldType)} {own : String} {Ts : List Cond} {w : St → va_W} {cs sl : Nat} {pc : Nat} {lv : List (Nat × Value)} {σ : St} {b : Nat}
/-- the law's end: 1 -/
theorem J_one {nL : Nat} (h : jx_ok K D cl tys (fun q => (js K).heap.size ≤ q) nL code own Ts room_1 ret) (ha : ja K = #[Value.ref b]) (hcs : cs ≤ 600000) (hsl : sl ≤ 7302250) (hd : decode code pc = .ok (.ireturn, 1)) : J K D cl (fun q => (js K).heap.size ≤ q) nL w (fun (_ : Unit) (_ : St) => lw_Z (jb K) #[Value.ref b] (js K)) cs sl pc lv [.int 1] σ (some ((), σ)) := by
  intro r σ' e H locs ls hP hD hS hl
  obtain ⟨p, l, en, R, s, m, args, below, meth, c⟩ := K
  have ha : args = #[Value.ref b] := ha
  have hR : R = room_1 := h.2.2.2.2.2.2.2.2.1
  subst ha hR
  exact va_forget hS.2.2 (W.widen (k := 600000) (n := 7302250) hcs hsl (lw_ret h.1 h.2.1 h.2.2.2.2.2.2.2.2.2 h.2.2.2.2.2.2.2.1 hd))
end JLR
