/-! CONSTRUCTORS: worlds that grow. The judgement is J over Unit with a constant world. -/
def nestZ (U : State) : Prop := va_Nw (.methodLinkNest "InferReduce" 25 y_Bounds_init "InferReduce") U ∧ va_Nw (.methodLinkNest "InferReduce$Reducer" 11 y_Work_init "InferReduce") U ∧ va_Nw (.methodLinkNest "InferReduce" 68 y_Told_init "InferReduce") U
theorem nestZ_warm {s U : State} (hW : s.WarmedH U.vm) (h : nestZ s) : nestZ U := ⟨va_Nw.warmM hW h.1, va_Nw.warmM hW h.2.1, va_Nw.warmM hW h.2.2⟩
theorem nestZ_same {u U : State} (hv : u.vm = U.vm) (h : nestZ u) : nestZ U := ⟨va_Nw.same rfl hv h.1, va_Nw.same rfl hv h.2.1, va_Nw.same rfl hv h.2.2⟩
theorem wp_pre {D : va_G} {cl : List vw_C} {wa wb : va_W} {H : Heap} (h : va_P D cl (wa ++ wb) H) : va_P D cl wa H := fun k q hk => h k q (by rw [List.getElem?_append_left (List.getElem?_eq_some_iff.mp hk).1]; exact hk)
theorem wp_suf {D : va_G} {cl : List vw_C} {wa wb : va_W} {H : Heap} (h : va_P D cl (wa ++ wb) H) : va_P D cl wb H := fun k q hk => h (wa.length + k) q (by rw [List.getElem?_append_right (Nat.le_add_right _ _), Nat.add_sub_cancel_left]; exact hk)
theorem wd_at1 {wa wb : va_W} {k : Nat} {q : Nat × va_E} (hk : wa[k]? = some q) : (wa ++ wb)[k]? = some q := by rw [List.getElem?_append_left (List.getElem?_eq_some_iff.mp hk).1]; exact hk
theorem wd_at2 {wa wb : va_W} {k : Nat} {q : Nat × va_E} (hk : wb[k]? = some q) : (wa ++ wb)[wa.length + k]? = some q := by rw [List.getElem?_append_right (Nat.le_add_right _ _), Nat.add_sub_cancel_left]; exact hk
theorem wd_pre {A : Nat → Prop} {wa wb : va_W} (h : va_D A (wa ++ wb)) : va_D A wa := ⟨fun i j p q hi hj e => h.1 i j p q (wd_at1 hi) (wd_at1 hj) e, fun k q hk => h.2 k q (wd_at1 hk)⟩
theorem wd_suf {A : Nat → Prop} {wa wb : va_W} (h : va_D A (wa ++ wb)) : va_D A wb := ⟨fun i j p q hi hj e => by have := h.1 _ _ p q (wd_at2 hi) (wd_at2 hj) e; omega, fun k q hk => h.2 _ q (wd_at2 hk)⟩
theorem wd_ne {A : Nat → Prop} {wa wb : va_W} (h : va_D A (wa ++ wb)) {i j : Nat} {p q : Nat × va_E} (hi : wa[i]? = some p) (hj : wb[j]? = some q) : p.1 ≠ q.1 := fun e => by
  have h1 := h.1 _ _ p q (wd_at1 hi) (wd_at2 hj) e
  have h2 := (List.getElem?_eq_some_iff.mp hi).1
  omega
theorem jn_suf {A : Nat → Prop} {D : va_G} {cl : List vw_C} {wa wb w1 : va_W} {H H1 : Heap} (hP : va_P D cl (wa ++ wb) H) (hD : va_D A (wa ++ wb)) (hk : ∀ q : Nat, q < H.size → ¬ va_A wb H.size q → H1[q]? = H[q]?) (hF : ∀ q, va_A wb H.size q → A q) (hP1 : va_P D cl w1 H1) (hD1 : va_D (va_A wb H.size) w1) : va_P D cl (wa ++ w1) H1 ∧ va_D A (wa ++ w1) := by
  have hlt : ∀ (k : Nat) (q : Nat × va_E), wa[k]? = some q → q.1 < H.size := fun k q hq => ((wp_pre hP) k q hq).lt
  have hno : ∀ (k : Nat) (q : Nat × va_E), wa[k]? = some q → ¬ va_A wb H.size q.1 := fun k q hq hA => by
    rcases hA with ⟨j, e, hj⟩ | hge
    · exact wd_ne hD hq hj rfl
    · have := hlt k q hq; omega
  refine ⟨((wp_pre hP).kept (fun k q hq => hk q.1 (hlt k q hq) (hno k q hq))).app hP1, (wd_pre hD).app (hD1.weaken (fun _ q _ z => hF q.1 z)) (fun i j p q hi hj e => ?_)⟩
  have hA := hD1.2 j q hj
  rw [← e] at hA
  exact hno i p hi hA
theorem jn_pre {A : Nat → Prop} {D : va_G} {cl : List vw_C} {wa wb w1 : va_W} {H H1 : Heap} (hP : va_P D cl (wa ++ wb) H) (hD : va_D A (wa ++ wb)) (hk : ∀ q : Nat, q < H.size → ¬ va_A wa H.size q → H1[q]? = H[q]?) (hF : ∀ q, va_A wa H.size q → A q) (hP1 : va_P D cl w1 H1) (hD1 : va_D (va_A wa H.size) w1) : va_P D cl (w1 ++ wb) H1 ∧ va_D A (w1 ++ wb) := by
  have hlt : ∀ (k : Nat) (q : Nat × va_E), wb[k]? = some q → q.1 < H.size := fun k q hq => ((wp_suf hP) k q hq).lt
  have hno : ∀ (k : Nat) (q : Nat × va_E), wb[k]? = some q → ¬ va_A wa H.size q.1 := fun k q hq hA => by
    rcases hA with ⟨j, e, hj⟩ | hge
    · exact wd_ne hD hj hq rfl
    · have := hlt k q hq; omega
  refine ⟨hP1.app ((wp_suf hP).kept (fun k q hq => hk q.1 (hlt k q hq) (hno k q hq))), (hD1.weaken (fun _ q _ z => hF q.1 z)).app (wd_suf hD) (fun i j p q hi hj e => ?_)⟩
  have hA := hD1.2 i p hi
  rw [e] at hA
  exact hno j q hj hA
abbrev AC : Type := (Nat → Nat) × (Nat → ClassId)
def jc_Pc (D : va_G) (vs : List Value) (w0 : va_W) (sz : Nat) : Array Value → State → Prop := va_Pc vs (fun U => U.heap.size = sz ∧ va_P D clA w0 U.heap ∧ va_K D clA [] U ∧ va_D (fun _ => True) w0 ∧ nestZ U)
def jc_B (D : va_G) (wc : AC → va_W) (tc : AC → List (ClassId × FieldType)) (A : Nat → Prop) : AC → State → Prop := fun u t => va_P D clA (wc u) t.heap ∧ va_K D clA (tc u) t ∧ va_D A (wc u)
def MetC (l : Launch) (y : MethodName) (ws : List Cond) (rm : Room) (D : va_G) (vs : List Value) (w0 : va_W) (wc : AC → va_W) (tc : AC → List (ClassId × FieldType)) (mc ms : Nat) : Prop := ∀ sz : Nat, Met l y ws rm (jc_Pc D vs w0 sz) (va_Qv (fun _ : AC => True) (jc_B D wc tc (va_A w0 sz)) (va_A w0 sz)) mc ms (va_A w0 sz)
def jc_Q (K : jx_E) (D : va_G) (wc : AC → va_W) (tc : AC → List (ClassId × FieldType)) (A : Nat → Prop) (mc ms : Nat) : Unit → Unit → State → Prop := fun _ _ => MQ (jb K) (va_Qv (fun _ : AC => True) (jc_B D wc tc A) A) (ja K) (js K) mc ms A
theorem jc_blind {D : va_G} {vs : List Value} {w0 : va_W} {sz : Nat} : FrameBlind (jc_Pc D vs w0 sz) := fun a U g mk q => by
  obtain ⟨q0, q1, qP, qK, qD, qZ⟩ := q
  exact ⟨q0, q1, qP, va_K.moved (u := U) (U := U.calling g mk a) (Vm.Alike.refl U.vm) qK, qD, nestZ_same (U := U.calling g mk a) rfl qZ⟩
section JU
variable {ρ : Type} {K : jx_E} {D : va_G} {tys : List (ClassId × FieldType)} {A : Nat → Prop} {nL : Nat} {cc : ByteArray} {own : String} {Ts : List Cond} {rm : Room} {rt : Option FieldType} {Q : ρ → Unit → State → Prop} {cs sl : Nat} {pc : Nat} {lv : List (Nat × Value)} {st : List Value} {F : Option (ρ × Unit)} {ws wa : va_W}
theorem jx_tys {cl : List vw_C} {tys2 : List (ClassId × FieldType)} (h : jx_ok K D cl tys A nL cc own Ts rm rt) (hK : va_K D cl tys2 (js K)) : jx_ok K D cl tys2 A nL cc own Ts rm rt := ⟨h.1, h.2.1, h.2.2.1, h.2.2.2.1, h.2.2.2.2.1, hK, h.2.2.2.2.2.2.1, h.2.2.2.2.2.2.2.1, h.2.2.2.2.2.2.2.2.1, h.2.2.2.2.2.2.2.2.2⟩
theorem jc_met {l : Launch} {y : MethodName} {ws0 ws' : List Cond} {vs : List Value} {w0 : va_W} {wc : AC → va_W} {tc : AC → List (ClassId × FieldType)} {mc ms : Nat} (hy : plainName y.cls = true) (hw : ws0 = Cond.code y cc nL none :: ws') (hnm : y.name = "<init>") (hlen : (lg_sl vs).length ≤ nL) (body : ∀ (K : jx_E) (A : Nat → Prop), jl K = l → jx_ok K D clA [] A nL cc y.cls ws0 rm none → (jh K).name = "<init>" → nestZ (js K) → J K D clA A nL (fun _ : Unit => w0) (jc_Q K D wc tc A mc ms) 0 0 0 (lv_args 0 vs) [] () (some ((), ()))) : MetC l y ws0 rm D vs w0 wc tc mc ms := by
  intro sz
  refine Met.ofW (cc := cc) (maxL := nL) (ret := none) hy hw ?_
  intro p e s m args below meth c s₁ B hml hv
  have hin : meth.name = "<init>" := (name_of_methodNamed B.named B.method).1.trans hnm
  obtain ⟨rfl, hsz, hP, hK, hD0, hZ⟩ := hv
  rw [lg_entry_eq]
  exact body (p, l, e, (headSpec ws0 rm).room, s, m, _, below, meth, c) (va_A w0 sz) rfl ⟨B.exec, B.bytes, hml, findClass_of_methodNamed B.named, atoms_spec (ws := ws0) B.pre, hK, fun q h => Or.inr (by rw [← hsz]; exact h), B.notSynchronized, rfl, B.returns⟩ hin hZ () () rfl s.heap [] _ hP hD0.self va_S.rf (lv_entry vs hlen)
theorem JU_vret (h : jx_ok K D clA tys A nL cc own Ts rm rt) (hr : rt = none) {wc : AC → va_W} {tc : AC → List (ClassId × FieldType)} (u : AC) (hw : ws = wc u) (ht : tys = tc u) (hd : decode cc pc = .ok (.return_, 1)) {mc ms : Nat} (hc : cs = mc) (hs : sl = ms) : J K D clA A nL (fun _ : Unit => ws) (jc_Q K D wc tc A mc ms) cs sl pc lv [] () (some ((), ())) := by
  intro r σ' e H locs ls hP hD hS hl
  subst hc hs hw ht
  exact W.vret h.1 h.2.1 (h.2.2.2.2.2.2.2.2.2.trans hr) (fun t ht hW => ⟨⟨u, rfl, trivial, by rw [ht]; exact hP, va_K.moved hW.alike h.2.2.2.2.2.1, hD⟩, hS.F ht⟩) hS.2.2 hd h.2.2.2.2.2.2.2.1
theorem J_oi {St : Type} {cl : List vw_C} {w : St → va_W} {Q : ρ → St → State → Prop} {σ : St} {F : Option (ρ × St)} (h : jx_ok K D cl tys A nL cc own Ts rm rt) {idx a : Nat} (h1 : Cond.methodLink own idx Lib.objectInit ∈ Ts) (h2 : Cond.instanceMethod Lib.objectInit ∈ Ts) (h3 : Cond.code Lib.objectInit ⟨#[0xb1]⟩ 1 none ∈ Ts) (hf : 1 ≤ rm.frames) (hlo : (st.map fun v => v.category).sum + 12 ≤ rm.locals) (hd : decode cc pc = .ok (.invokespecial idx, 3)) (k : J K D cl A nL w Q cs sl (pc + 3) lv st σ F) : J K D cl A nL w Q cs sl pc lv (.ref a :: st) σ F := by
  intro r σ' e H locs ls hP hD hS hl
  have hRe := h.2.2.2.2.2.2.2.2.1
  exact W.objInit h.1 h.2.1 h.2.2.2.1 (h.2.2.2.2.1 _ h1) (h.2.2.2.2.1 _ h2) (h.2.2.2.2.1 _ h3) rfl (by rw [h.2.2.1]; exact hl.1) rfl hd (by rw [hRe]; exact hf) (by rw [hRe]; show 2 * 0 + _ + 12 ≤ _; omega) (k r σ' e H locs ls hP hD hS hl)
theorem JU_new (h : jx_ok K D clA tys A nL cc own Ts rm rt) {C : String} {T : u_T} {N ci index : Nat} (hin : ∀ w ∈ u_ws C T N, w ∈ Ts) (ty : Nat → FieldType) (hty : ∀ k, k < N → parseFieldDescriptor (T k).2.2.1 = some (ty k)) (hcl : Cond.classLink own index C ∈ Ts) (hinst : Cond.instantiable C N ∈ Ts) (hini : Cond.initialized C ∈ Ts) (hc : clA[ci]? = some (C, T, N)) {fs : List Value} (hfs : ∀ j, j < N → defaultValue (ty j) = vp_V fs j) (hcells : cs + 1 ≤ rm.cells) (hslots : sl + N ≤ rm.slots) (hd : decode cc pc = .ok (.new index, 3))
    (k : ∀ q : Nat, J K D clA A nL (fun _ : Unit => ws ++ [(q, .inr (ci, fs))]) Q (cs + 1) (sl + N) (pc + 3) lv (.ref q :: st) () F) : J K D clA A nL (fun _ : Unit => ws) Q cs sl pc lv st () F := by
  intro r σ' e H locs ls hP hD hS hl
  have hRe := h.2.2.2.2.2.2.2.2.1
  exact va_new h.1 h.2.1 h.2.2.2.2.1 hin ty hty h.2.2.2.1 (h.2.2.2.2.1 _ hcl) (h.2.2.2.2.1 _ hinst) (h.2.2.2.2.1 _ hini) h.2.2.2.2.2.1 hP hD hS h.2.2.2.2.2.2.1 hc hfs (by rw [hRe]; exact hcells) (by rw [hRe]; exact hslots) hd (fun q H1 hP hD hS => k q r σ' e H1 locs ls hP hD hS hl)
theorem JU_newa (h : jx_ok K D clA tys A nL cc own Ts rm rt) {atype : ArrayType} {ty : FieldType} (hty : newarray.typeOf atype = ty) (harr : Cond.arrayClass (newarray.typeOf atype) ∈ Ts) {n : Int32} {N' : Nat} {a0 : vp_A} (ha : ∀ cA : ClassId, vp_cell cA a0 = arrV cA N' (fun _ => defaultValue ty)) (hn : ¬ n < 0) (hN : n.toNatClampNeg = N') (hbytes : N' * componentBytes ty ≤ 536870912) (hcells : cs + 1 ≤ rm.cells) (hslots : sl + N' ≤ rm.slots) (hd : decode cc pc = .ok (.newarray atype, 2))
    (k : ∀ (q : Nat) (c : ClassId), jx_ok K D clA (tys ++ [(c, ty)]) A nL cc own Ts rm rt → J K D clA A nL (fun _ : Unit => ws ++ [(q, .inl (c, a0))]) Q (cs + 1) (sl + N') (pc + 2) lv (.ref q :: st) () F) : J K D clA A nL (fun _ : Unit => ws) Q cs sl pc lv (.int n :: st) () F := by
  intro r σ' e H locs ls hP hD hS hl
  have hRe := h.2.2.2.2.2.2.2.2.1
  exact va_newa h.1 h.2.1 (h.2.2.2.2.1 _ harr) hty h.2.2.2.2.2.1 hP hD hS h.2.2.2.2.2.2.1 ha hn hN hbytes (by rw [hRe]; exact hcells) (by rw [hRe]; exact hslots) hd (fun q c H1 hK hP hD hS => k q c (jx_tys h hK) r σ' e H1 locs ls hP hD hS hl)
theorem JU_put (h : jx_ok K D clA tys A nL cc own Ts rm rt) {C : String} {T : u_T} {N ci index a : Nat} (q0 : Nat) {fs : List Value} (he : ws[q0]? = some (a, .inr (ci, fs))) (hin : ∀ x ∈ u_ws C T N, x ∈ Ts) (hc : clA[ci]? = some (C, T, N)) (ty0 : Nat → FieldType) (hty : ∀ k, k < N → parseFieldDescriptor (T k).2.2.1 = some (ty0 k)) (hnm : ∀ a, a < N → ∀ b, b < N → a ≠ b → (T a).2.1 ≠ (T b).2.1) (j : Nat) (hj : j < N) (hw : Cond.fieldLink own index (T j).1 (T j).2.1 (T j).2.2.1 ∈ Ts) (hfin : (T j).2.2.2 = false) {v : Value} (hn : narrow (ty0 j) v = v) (hfit : fits (ty0 j) v = true) (hl0 : j < fs.length) (hd : decode cc pc = .ok (.putfield index, 3)) (k : J K D clA A nL (fun _ : Unit => ws.set q0 (a, .inr (ci, fs.set j v))) Q cs sl (pc + 3) lv st () F) : J K D clA A nL (fun _ : Unit => ws) Q cs sl pc lv (v :: .ref a :: st) () F :=
  fun r σ' e H locs ls hP hD hS hl => va_put h.1 h.2.1 h.2.2.2.2.1 hin ty0 hty hnm h.2.2.2.1 h.2.2.2.2.2.1 hP hD hS q0 he hc j hj (h.2.2.2.2.1 _ hw) (fun _ z => z) hfin (hty j hj) hn hfit hl0 hd (fun H1 locs1 hP hD hS => k r σ' e H1 locs1 ls hP hD hS hl)
theorem JU_putF (h : jx_ok K D clA tys A nL cc own Ts rm rt) (hi : (jh K).name = "<init>") {C : String} {T : u_T} {N ci index a : Nat} (q0 : Nat) {fs : List Value} (he : ws[q0]? = some (a, .inr (ci, fs))) (hin : ∀ x ∈ u_ws C T N, x ∈ Ts) (hc : clA[ci]? = some (C, T, N)) (ty0 : Nat → FieldType) (hty : ∀ k, k < N → parseFieldDescriptor (T k).2.2.1 = some (ty0 k)) (hnm : ∀ a, a < N → ∀ b, b < N → a ≠ b → (T a).2.1 ≠ (T b).2.1) (j : Nat) (hj : j < N) (hw : Cond.fieldLink own index (T j).1 (T j).2.1 (T j).2.2.1 ∈ Ts) (hfin : (T j).2.2.2 = true) (hdecl : (T j).1 = own) {v : Value} (hn : narrow (ty0 j) v = v) (hfit : fits (ty0 j) v = true) (hl0 : j < fs.length) (hd : decode cc pc = .ok (.putfield index, 3)) (k : J K D clA A nL (fun _ : Unit => ws.set q0 (a, .inr (ci, fs.set j v))) Q cs sl (pc + 3) lv st () F) : J K D clA A nL (fun _ : Unit => ws) Q cs sl pc lv (v :: .ref a :: st) () F :=
  fun r σ' e H locs ls hP hD hS hl => va_putF h.1 h.2.1 h.2.2.2.2.1 hin ty0 hty hnm h.2.2.2.1 h.2.2.2.2.2.1 hP hD hS q0 he hc j hj (h.2.2.2.2.1 _ hw) (fun _ z => z) hfin hi hdecl (hty j hj) hn hfit hl0 hd (fun H1 locs1 hP hD hS => k r σ' e H1 locs1 ls hP hD hS hl)
theorem JU_last (h : jx_ok K D clA tys A nL cc own Ts rm rt) {a : Nat} (q0 t0 : Nat) {cA : ClassId} {n : Nat} {g : Nat → Int64} (he : ws[q0]? = some (a, .inl (cA, n, .inr (.inl g)))) (ht : tys[t0]? = some (cA, .long)) {i : Int32} {x : Int64} (hk : ck i n = true) (hd : decode cc pc = .ok (.lastore, 1)) (k : J K D clA A nL (fun _ : Unit => ws.set q0 (a, .inl (cA, n, .inr (.inl (vp_updL g i.toNatClampNeg x))))) Q cs sl (pc + 1) lv st () F) : J K D clA A nL (fun _ : Unit => ws) Q cs sl pc lv (.long x :: .int i :: .ref a :: st) () F :=
  fun r σ' e H locs ls hP hD hS hl => va_last h.1 h.2.1 h.2.2.2.2.2.1 hP hD hS q0 t0 he ht (ck_in hk) hd (fun H1 locs1 hP hD hS => k r σ' e H1 locs1 ls hP hD hS hl)
/-- the world under another name -/
theorem JU_ws {ws2 : va_W} (e : ws = ws2) (k : J K D clA A nL (fun _ : Unit => ws2) Q cs sl pc lv st () F) : J K D clA A nL (fun _ : Unit => ws) Q cs sl pc lv st () F := by rw [e]; exact k
theorem JU_tys {tys2 : List (ClassId × FieldType)} (e : tys = tys2) (h : jx_ok K D clA tys A nL cc own Ts rm rt) : jx_ok K D clA tys2 A nL cc own Ts rm rt := by rw [← e]; exact h
theorem JU_ctor (h : jx_ok K D clA tys A nL cc own Ts rm rt) (hZ : nestZ (js K)) {y : MethodName} {wc0 wc' : List Cond} {bytes : ByteArray} {maxL index n q mc ms : Nat} {rmc : Room} {e0 : va_E} {As st0 : List Value} {wc : AC → va_W} {tc : AC → List (ClassId × FieldType)} (hM : MetC (jl K) y wc0 rmc D (.ref q :: As) [(q, e0)] wc tc mc ms)
    (hG : GoodIn Ts wc0) (hw : wc0 = Cond.code y bytes maxL none :: wc') (hrm : rmc.cells = mc ∧ rmc.slots = ms) (hw1 : Cond.methodLink own index y ∈ Ts) (hw2 : Cond.instanceMethod y ∈ Ts) (hw3 : Cond.initialized y.cls ∈ Ts) (hy1 : y.name = "<init>") (hdd : y.cls ≠ "java/lang/invoke/MethodHandle" ∧ y.cls ≠ "java/lang/invoke/VarHandle" ∧ (parseMethodDescriptor y.desc).map (fun d => d.parameters.length) = some n) (hR : rmc.frames + 1 ≤ rm.frames ∧ 8 + (maxL + 11) + rmc.locals ≤ rm.locals)
    (hn : As.length = n) (hst : st0 = As.reverse ++ .ref q :: st) (hroom : (st.map fun v => v.category).sum ≤ 8) (hcs : cs + mc ≤ rm.cells ∧ sl + ms ≤ rm.slots) (hd : decode cc pc = .ok (.invokespecial index, 3))
    (k : ∀ u : AC, jx_ok K D clA (tys ++ tc u) A nL cc own Ts rm rt → J K D clA A nL (fun _ : Unit => wa ++ wc u) Q (cs + mc) (sl + ms) (pc + 3) lv st () F) : J K D clA A nL (fun _ : Unit => wa ++ [(q, e0)]) Q cs sl pc lv st0 () F := by
  intro r1 σ9 e1 H locs ls hP hD hS hl
  have hRe := h.2.2.2.2.2.2.2.2.1
  have hPc := wp_suf hP
  have hDc := wd_suf hD
  have hF : ∀ x, va_A [(q, e0)] H.size x → A x := fun x hx => by
    rcases hx with ⟨j, e, hj⟩ | hx
    · exact hDc.2 j (x, e) hj
    · exact h.2.2.2.2.2.2.1 x (Nat.le_trans hS.1 hx)
  refine va_callv (va_runI (As := As) (rest := st) ⟨h.1, h.2.1, h.2.2.1, h.2.2.2.1, h.2.2.2.2.1⟩ (hM H.size) (cwI n h.2.2.2.2.1 hG hw hrm.1 hrm.2 (h.2.2.2.2.1 _ hw3) (h.2.2.2.2.1 _ hw1) (h.2.2.2.2.1 _ hw2) hy1 hdd (by rw [hRe]; exact hR)) ⟨jc_blind, fun U hU hW => ⟨rfl, by rw [hU], by rw [hU]; exact hPc, va_K.moved hW.alike (h.2.2.2.2.2.1.sub (tys' := []) [] rfl), hDc.weaken (fun _ _ _ _ => trivial), nestZ_warm hW hZ⟩⟩ rfl hn hl.1 hst (lv_room hroom) hd (by rw [hRe]; exact hcs)) hS (fun x _ z => hF x z) hF (fun u t H1 locs1 ht hvm hw hB hz1 hk1 hS => ?_)
  obtain ⟨hP1, hK1, hD1⟩ := hB
  rw [ht] at hP1
  obtain ⟨hP2, hD2⟩ := jn_suf hP hD hk1 hF hP1 hD1
  exact k u (jx_tys h (h.2.2.2.2.2.1.app (va_K.moved hvm.symm hK1))) r1 σ9 e1 H1 locs1 ls hP2 hD2 hS hl
theorem JU_ctorN (h : jx_ok K D clA tys A nL cc own Ts rm rt) (hZ : nestZ (js K)) {y : MethodName} {host : String} {wc0 wc' : List Cond} {bytes : ByteArray} {maxL index n q mc ms : Nat} {rmc : Room} {e0 : va_E} {As st0 : List Value} {wc : AC → va_W} {tc : AC → List (ClassId × FieldType)} (hM : MetC (jl K) y wc0 rmc D (.ref q :: As) [(q, e0)] wc tc mc ms)
    (hG : GoodIn Ts wc0) (hw : wc0 = Cond.code y bytes maxL none :: wc') (hrm : rmc.cells = mc ∧ rmc.slots = ms) (hw1 : va_Nw (.methodLinkNest own index y host) (js K)) (hw2 : Cond.instanceMethod y ∈ Ts) (hw3 : Cond.initialized y.cls ∈ Ts) (hy1 : y.name = "<init>") (hdd : y.cls ≠ "java/lang/invoke/MethodHandle" ∧ y.cls ≠ "java/lang/invoke/VarHandle" ∧ (parseMethodDescriptor y.desc).map (fun d => d.parameters.length) = some n) (hR : rmc.frames + 1 ≤ rm.frames ∧ 8 + (maxL + 11) + rmc.locals ≤ rm.locals)
    (hn : As.length = n) (hst : st0 = As.reverse ++ .ref q :: st) (hroom : (st.map fun v => v.category).sum ≤ 8) (hcs : cs + mc ≤ rm.cells ∧ sl + ms ≤ rm.slots) (hd : decode cc pc = .ok (.invokespecial index, 3))
    (k : ∀ u : AC, jx_ok K D clA (tys ++ tc u) A nL cc own Ts rm rt → J K D clA A nL (fun _ : Unit => wa ++ wc u) Q (cs + mc) (sl + ms) (pc + 3) lv st () F) : J K D clA A nL (fun _ : Unit => wa ++ [(q, e0)]) Q cs sl pc lv st0 () F := by
  intro r1 σ9 e1 H locs ls hP hD hS hl
  have hRe := h.2.2.2.2.2.2.2.2.1
  have hPc := wp_suf hP
  have hDc := wd_suf hD
  have hF : ∀ x, va_A [(q, e0)] H.size x → A x := fun x hx => by
    rcases hx with ⟨j, e, hj⟩ | hx
    · exact hDc.2 j (x, e) hj
    · exact h.2.2.2.2.2.2.1 x (Nat.le_trans hS.1 hx)
  refine va_callv (va_runIN (As := As) (rest := st) ⟨h.1, h.2.1, h.2.2.1, h.2.2.2.1, h.2.2.2.2.1⟩ (hM H.size) ⟨va_cnB n h.2.2.2.2.1 hG hw hrm.1 hrm.2 hw1 (h.2.2.2.2.1 _ hw3) hdd (by rw [hRe]; exact hR), hy1, h.2.2.2.2.1 _ hw2⟩ ⟨jc_blind, fun U hU hW => ⟨rfl, by rw [hU], by rw [hU]; exact hPc, va_K.moved hW.alike (h.2.2.2.2.2.1.sub (tys' := []) [] rfl), hDc.weaken (fun _ _ _ _ => trivial), nestZ_warm hW hZ⟩⟩ rfl hn hl.1 hst (lv_room hroom) hd (by rw [hRe]; exact hcs)) hS (fun x _ z => hF x z) hF (fun u t H1 locs1 ht hvm hw hB hz1 hk1 hS => ?_)
  obtain ⟨hP1, hK1, hD1⟩ := hB
  rw [ht] at hP1
  obtain ⟨hP2, hD2⟩ := jn_suf hP hD hk1 hF hP1 hD1
  exact k u (jx_tys h (h.2.2.2.2.2.1.app (va_K.moved hvm.symm hK1))) r1 σ9 e1 H1 locs1 ls hP2 hD2 hS hl
/-- a static call of a method with a world of its own, which is the last cell here -/
theorem JU_callS {St : Type} {wS : St → va_W} {tyS : List (ClassId × FieldType)} {σ σ' : St} (h : jx_ok K D clA tys A nL cc own Ts rm rt) {y : MethodName} {wc0 wc' : List Cond} {bytes : ByteArray} {maxL index n : Nat} {ret : Option FieldType} {rmc : Room} {As st0 : List Value} {r0 : Unit} (hM : MetV (jl K) y wc0 rmc D clA tyS wS As σ r0 σ')
    (hG : GoodIn Ts wc0) (hw1 : Cond.methodLink own index y ∈ Ts) (hw2 : Cond.static y ∈ Ts) (hw3 : Cond.initialized y.cls ∈ Ts) (hw : wc0 = Cond.code y bytes maxL ret :: wc') (hrm : rmc.cells = 0 ∧ rmc.slots = 0) (hdd : y.cls ≠ "java/lang/invoke/MethodHandle" ∧ y.cls ≠ "java/lang/invoke/VarHandle" ∧ (parseMethodDescriptor y.desc).map (fun d => d.parameters.length) = some n) (hR : rmc.frames + 1 ≤ rm.frames ∧ 8 + (maxL + 11) + rmc.locals ≤ rm.locals)
    (hKS : va_K D clA tyS (js K)) (hwb : ws = wa ++ wS σ) (hn : As.length = n) (hst : st0 = As.reverse ++ st) (hroom : (st.map fun v => v.category).sum ≤ 8) (hcs : cs ≤ rm.cells ∧ sl ≤ rm.slots) (hd : decode cc pc = .ok (.invokestatic index, 3))
    (k : J K D clA A nL (fun _ : Unit => wa ++ wS σ') Q cs sl (pc + 3) lv st () F) : J K D clA A nL (fun _ : Unit => ws) Q cs sl pc lv st0 () F := by
  subst hwb
  intro r1 σ9 e1 H locs ls hP hD hS hl
  have hRe := h.2.2.2.2.2.2.2.2.1
  have hPc := wp_suf hP
  have hDc := wd_suf hD
  have hF : ∀ x, va_A (wS σ) H.size x → A x := fun x hx => by
    rcases hx with ⟨j, e, hj⟩ | hx
    · exact hDc.2 j (x, e) hj
    · exact h.2.2.2.2.2.2.1 x (Nat.le_trans hS.1 hx)
  refine va_callv (va_runS (As := As) (rest := st) (mc := 0) (ms := 0) ⟨h.1, h.2.1, h.2.2.1, h.2.2.2.1, h.2.2.2.2.1⟩ (hM H.size) ⟨callB_of n h.2.2.2.2.1 hG hw hrm.1 hrm.2 (h.2.2.2.2.1 _ hw3) (h.2.2.2.2.1 _ hw1) hdd (by rw [hRe]; exact hR), h.2.2.2.2.1 _ hw2⟩ ⟨jx_blind, fun U hU hW => ⟨rfl, by rw [hU], by rw [hU]; exact hPc, va_K.moved hW.alike hKS, hDc.weaken (fun _ _ _ _ => trivial)⟩⟩ rfl hn hl.1 hst (lv_room hroom) hd (by rw [hRe]; exact hcs)) hS (fun x _ z => hF x z) hF (fun u t H1 locs1 ht hvm hw hB hz1 hk1 hS => ?_)
  subst hw
  obtain ⟨hP1, hK1, hD1⟩ := hB
  rw [ht] at hP1
  obtain ⟨hP2, hD2⟩ := jn_suf hP hD hk1 hF hP1 hD1
  exact k r1 σ9 e1 H1 locs1 ls hP2 hD2 hS hl
end JU
