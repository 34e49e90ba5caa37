/-! THE JUDGEMENT J: a frame whose rest is worked out by a pure function F of the state: where F comes to some (r, σ'), the machine comes to Q r σ'. F holds every check (a place in range, a loop's count) as an Option: the walk itself needs no fact. -/
abbrev jx_E : Type := Program × Launch × Env × Room × State × MethodId × Array Value × List Frame × Method × Code
abbrev jp (K : jx_E) : Program := K.1
abbrev jl (K : jx_E) : Launch := K.2.1
abbrev je (K : jx_E) : Env := K.2.2.1
abbrev jR (K : jx_E) : Room := K.2.2.2.1
abbrev js (K : jx_E) : State := K.2.2.2.2.1
abbrev jm (K : jx_E) : MethodId := K.2.2.2.2.2.1
abbrev ja (K : jx_E) : Array Value := K.2.2.2.2.2.2.1
abbrev jb (K : jx_E) : List Frame := K.2.2.2.2.2.2.2.1
abbrev jh (K : jx_E) : Method := K.2.2.2.2.2.2.2.2.1
abbrev jc (K : jx_E) : Code := K.2.2.2.2.2.2.2.2.2
abbrev jW (K : jx_E) (H : Heap) (locs : List Loc) (cs sl : Nat) (Q : State → Prop) (g : JFrame) : Prop := W (jp K) (jl K) (je K) (jR K) (js K) (jm K) (ja K) (jb K) (jh K) (jc K) H locs cs sl Q g
/-- what stands fixed through a method's walk -/
def jx_ok (K : jx_E) (D : va_G) (cl : List vw_C) (tys : List (ClassId × FieldType)) (A : Nat → Prop) (nL : Nat) (cc : ByteArray) (own : String) (Ts : List Cond) (rm : Room) (rt : Option FieldType) : Prop :=
  (jp K).tables.exec = Jvm.exec ∧ (jc K).code = cc ∧ (jc K).maxLocals = nL ∧ (js K).vm.findClass own = some (jm K).cls ∧ (∀ w ∈ Ts, w.before (ja K) (js K) = true) ∧ va_K D cl tys (js K) ∧ (∀ q, (js K).heap.size ≤ q → A q) ∧ (jh K).locks = false ∧ jR K = rm ∧ (jh K).sig.returnType = rt
def J {St ρ : Type} (K : jx_E) (D : va_G) (cl : List vw_C) (A : Nat → Prop) (nL : Nat) (w : St → va_W) (Q : ρ → St → State → Prop) (cs sl : Nat) (pc : Nat) (lv : List (Nat × Value)) (st : List Value) (σ : St) (F : Option (ρ × St)) : Prop :=
  ∀ (r : ρ) (σ' : St), F = some (r, σ') → ∀ (H : Heap) (locs : List Loc) (ls : Array Slot), va_P D cl (w σ) H → va_D A (w σ) → va_S A (js K).heap H locs → lv_has ls nL lv → jW K H locs cs sl (Q r σ') (F0 (jm K) pc ls st)
def nm {α β : Type} (x : α) (f : α → β) : β := f x
def ck (i : Int32) (n : Nat) : Bool := decide (¬ (i < 0 ∨ n ≤ i.toNatClampNeg))
theorem ck_in {i : Int32} {n : Nat} (h : ck i n = true) : vp_in i n := (of_decide_eq_true h : ¬ (i < 0 ∨ n ≤ i.toNatClampNeg))
/-- a call's answer and state, and what goes on with them -/
def bd {α St β : Type} (x : Option (α × St)) (f : α → St → Option β) : Option β := match x with
  | none => none
  | some q => f q.1 q.2
theorem bd_some {α St β : Type} {x : Option (α × St)} {f : α → St → Option β} {z : β} (h : bd x f = some z) : ∃ a u, x = some (a, u) ∧ f a u = some z := by
  cases x with
  | none => cases h
  | some q => exact ⟨q.1, q.2, rfl, h⟩
section JR
variable {St ρ : Type} {K : jx_E} {D : va_G} {cl : List vw_C} {tys : List (ClassId × FieldType)} {A : Nat → Prop} {nL : Nat} {cc : ByteArray} {own : String} {Ts : List Cond} {rm : Room} {rt : Option FieldType} {w : St → va_W} {Q : ρ → St → State → Prop} {cs sl : Nat} {pc : Nat} {lv : List (Nat × Value)} {st : List Value} {σ : St} {F F1 F2 : Option (ρ × St)}
theorem J_none : J K D cl A nL w Q cs sl pc lv st σ none := fun _ _ h => by cases h
theorem J_sub {lv' : List (Nat × Value)} (ks : List Nat) (hk : lv_pick lv ks = lv') (k : J K D cl A nL w Q cs sl pc lv' st σ F) : J K D cl A nL w Q cs sl pc lv st σ F := fun r σ' e H locs ls hP hD hS hl => k r σ' e H locs ls hP hD hS (lv_sub hl ks hk)
theorem J_nmi {x : Int32} {f : Int32 → Option (ρ × St)} (k : ∀ y : Int32, J K D cl A nL w Q cs sl pc lv (.int y :: st) σ (f y)) : J K D cl A nL w Q cs sl pc lv (.int x :: st) σ (nm x f) := k x
theorem J_nml {x : Int64} {f : Int64 → Option (ρ × St)} (k : ∀ y : Int64, J K D cl A nL w Q cs sl pc lv (.long y :: st) σ (f y)) : J K D cl A nL w Q cs sl pc lv (.long x :: st) σ (nm x f) := k x
theorem J_if {c : Prop} [Decidable c] (k1 : c → J K D cl A nL w Q cs sl pc lv st σ F1) (k2 : ¬ c → J K D cl A nL w Q cs sl pc lv st σ F2) : J K D cl A nL w Q cs sl pc lv st σ (if c then F1 else F2) := by
  by_cases h : c
  · rw [if_pos h]; exact k1 h
  · rw [if_neg h]; exact k2 h
theorem J_iconst (h : jx_ok K D cl tys A nL cc own Ts rm rt) {n : Int} {v : Int32} (hd : decode cc pc = .ok (.iconst n, 1)) (hv : Int32.ofInt n = v) (k : J K D cl A nL w Q cs sl (pc + 1) lv (.int v :: st) σ F) : J K D cl A nL w Q cs sl pc lv st σ F :=
  fun r σ' e H locs ls hP hD hS hl => lv_iconst h.1 h.2.1 hd hv (k r σ' e H locs ls hP hD hS hl)
theorem J_bipush (h : jx_ok K D cl tys A nL cc own Ts rm rt) {n : Int} {v : Int32} (hd : decode cc pc = .ok (.bipush n, 2)) (hv : (Int8.ofInt n).toInt32 = v) (k : J K D cl A nL w Q cs sl (pc + 2) lv (.int v :: st) σ F) : J K D cl A nL w Q cs sl pc lv st σ F :=
  fun r σ' e H locs ls hP hD hS hl => lv_bipush h.1 h.2.1 hd hv (k r σ' e H locs ls hP hD hS hl)
theorem J_sipush (h : jx_ok K D cl tys A nL cc own Ts rm rt) {n : Int} {v : Int32} (hd : decode cc pc = .ok (.sipush n, 3)) (hv : (Int16.ofInt n).toInt32 = v) (k : J K D cl A nL w Q cs sl (pc + 3) lv (.int v :: st) σ F) : J K D cl A nL w Q cs sl pc lv st σ F :=
  fun r σ' e H locs ls hP hD hS hl => lv_sipush h.1 h.2.1 hd hv (k r σ' e H locs ls hP hD hS hl)
theorem J_lconst (h : jx_ok K D cl tys A nL cc own Ts rm rt) {n : Fin 2} {v : Int64} (hd : decode cc pc = .ok (.lconst n, 1)) (hv : Int64.ofNat (n : Nat) = v) (k : J K D cl A nL w Q cs sl (pc + 1) lv (.long v :: st) σ F) : J K D cl A nL w Q cs sl pc lv st σ F :=
  fun r σ' e H locs ls hP hD hS hl => lv_lconst h.1 h.2.1 hd hv (k r σ' e H locs ls hP hD hS hl)
theorem J_ldc2 (h : jx_ok K D cl tys A nL cc own Ts rm rt) {index : Nat} {v : Int64} (hd : decode cc pc = .ok (.ldc2_w index, 3)) (hw : Cond.constantLong own index v ∈ Ts) (k : J K D cl A nL w Q cs sl (pc + 3) lv (.long v :: st) σ F) : J K D cl A nL w Q cs sl pc lv st σ F :=
  fun r σ' e H locs ls hP hD hS hl => lv_ldc2 h.1 h.2.1 h.2.2.2.1 (h.2.2.2.2.1 _ hw) hd (k r σ' e H locs ls hP hD hS hl)
theorem J_ldc (h : jx_ok K D cl tys A nL cc own Ts rm rt) {index : Nat} {v : Int32} (hd : decode cc pc = .ok (.ldc index, 2)) (hw : Cond.constant own index v ∈ Ts) (k : J K D cl A nL w Q cs sl (pc + 2) lv (.int v :: st) σ F) : J K D cl A nL w Q cs sl pc lv st σ F :=
  fun r σ' e H locs ls hP hD hS hl => lv_ldc h.1 h.2.1 h.2.2.2.1 (h.2.2.2.2.1 _ hw) hd (k r σ' e H locs ls hP hD hS hl)
theorem J_iload_n (h : jx_ok K D cl tys A nL cc own Ts rm rt) {j : Fin 4} {i q : Nat} {x : Int32} (hd : decode cc pc = .ok (.iload_n j, 1)) (hi : (j : Nat) = i) (hl0 : lv[q]? = some (i, .int x)) (k : J K D cl A nL w Q cs sl (pc + 1) lv (.int x :: st) σ F) : J K D cl A nL w Q cs sl pc lv st σ F :=
  fun r σ' e H locs ls hP hD hS hl => lv_iload_n h.1 h.2.1 hd hi (lv_at hl q hl0) (k r σ' e H locs ls hP hD hS hl)
theorem J_iload (h : jx_ok K D cl tys A nL cc own Ts rm rt) {i q : Nat} {x : Int32} (hd : decode cc pc = .ok (.iload i, 2)) (hl0 : lv[q]? = some (i, .int x)) (k : J K D cl A nL w Q cs sl (pc + 2) lv (.int x :: st) σ F) : J K D cl A nL w Q cs sl pc lv st σ F :=
  fun r σ' e H locs ls hP hD hS hl => lv_iload h.1 h.2.1 hd (lv_at hl q hl0) (k r σ' e H locs ls hP hD hS hl)
theorem J_lload_n (h : jx_ok K D cl tys A nL cc own Ts rm rt) {j : Fin 4} {i q : Nat} {x : Int64} (hd : decode cc pc = .ok (.lload_n j, 1)) (hi : (j : Nat) = i) (hl0 : lv[q]? = some (i, .long x)) (k : J K D cl A nL w Q cs sl (pc + 1) lv (.long x :: st) σ F) : J K D cl A nL w Q cs sl pc lv st σ F :=
  fun r σ' e H locs ls hP hD hS hl => lv_lload_n h.1 h.2.1 hd hi (lv_at hl q hl0) (k r σ' e H locs ls hP hD hS hl)
theorem J_lload (h : jx_ok K D cl tys A nL cc own Ts rm rt) {i q : Nat} {x : Int64} (hd : decode cc pc = .ok (.lload i, 2)) (hl0 : lv[q]? = some (i, .long x)) (k : J K D cl A nL w Q cs sl (pc + 2) lv (.long x :: st) σ F) : J K D cl A nL w Q cs sl pc lv st σ F :=
  fun r σ' e H locs ls hP hD hS hl => lv_lload h.1 h.2.1 hd (lv_at hl q hl0) (k r σ' e H locs ls hP hD hS hl)
theorem J_aload_n (h : jx_ok K D cl tys A nL cc own Ts rm rt) {j : Fin 4} {i q x : Nat} (hd : decode cc pc = .ok (.aload_n j, 1)) (hi : (j : Nat) = i) (hl0 : lv[q]? = some (i, .ref x)) (k : J K D cl A nL w Q cs sl (pc + 1) lv (.ref x :: st) σ F) : J K D cl A nL w Q cs sl pc lv st σ F :=
  fun r σ' e H locs ls hP hD hS hl => lv_aload_n h.1 h.2.1 hd hi (lv_at hl q hl0) (k r σ' e H locs ls hP hD hS hl)
theorem J_aload (h : jx_ok K D cl tys A nL cc own Ts rm rt) {i q x : Nat} (hd : decode cc pc = .ok (.aload i, 2)) (hl0 : lv[q]? = some (i, .ref x)) (k : J K D cl A nL w Q cs sl (pc + 2) lv (.ref x :: st) σ F) : J K D cl A nL w Q cs sl pc lv st σ F :=
  fun r σ' e H locs ls hP hD hS hl => lv_aload h.1 h.2.1 hd (lv_at hl q hl0) (k r σ' e H locs ls hP hD hS hl)
theorem J_istore_n (h : jx_ok K D cl tys A nL cc own Ts rm rt) {j : Fin 4} {i : Nat} {x : Int32} {lv' : List (Nat × Value)} (hd : decode cc pc = .ok (.istore_n j, 1)) (hi : (j : Nat) = i) (hn : i < nL) (hl' : (i, Value.int x) :: lv.filter (fun q => !(q.1 == i) && !(q.1 + 1 == i && q.2.category == 2)) = lv') (k : J K D cl A nL w Q cs sl (pc + 1) lv' st σ F) : J K D cl A nL w Q cs sl pc lv (.int x :: st) σ F :=
  fun r σ' e H locs ls hP hD hS hl => lv_istore_n h.1 h.2.1 hd hi hl hn hl' (fun ls hl => k r σ' e H locs ls hP hD hS hl)
theorem J_istore (h : jx_ok K D cl tys A nL cc own Ts rm rt) {i : Nat} {x : Int32} {lv' : List (Nat × Value)} (hd : decode cc pc = .ok (.istore i, 2)) (hn : i < nL) (hl' : (i, Value.int x) :: lv.filter (fun q => !(q.1 == i) && !(q.1 + 1 == i && q.2.category == 2)) = lv') (k : J K D cl A nL w Q cs sl (pc + 2) lv' st σ F) : J K D cl A nL w Q cs sl pc lv (.int x :: st) σ F :=
  fun r σ' e H locs ls hP hD hS hl => lv_istore h.1 h.2.1 hd hl hn hl' (fun ls hl => k r σ' e H locs ls hP hD hS hl)
theorem J_lstore_n (h : jx_ok K D cl tys A nL cc own Ts rm rt) {j : Fin 4} {i : Nat} {x : Int64} {lv' : List (Nat × Value)} (hd : decode cc pc = .ok (.lstore_n j, 1)) (hi : (j : Nat) = i) (hn : i + 1 < nL) (hl' : (i, Value.long x) :: lv.filter (fun q => !(q.1 == i) && (!(q.1 == i + 1) && !(q.1 + 1 == i && q.2.category == 2))) = lv') (k : J K D cl A nL w Q cs sl (pc + 1) lv' st σ F) : J K D cl A nL w Q cs sl pc lv (.long x :: st) σ F :=
  fun r σ' e H locs ls hP hD hS hl => lv_lstore_n h.1 h.2.1 hd hi hl hn hl' (fun ls hl => k r σ' e H locs ls hP hD hS hl)
theorem J_lstore (h : jx_ok K D cl tys A nL cc own Ts rm rt) {i : Nat} {x : Int64} {lv' : List (Nat × Value)} (hd : decode cc pc = .ok (.lstore i, 2)) (hn : i + 1 < nL) (hl' : (i, Value.long x) :: lv.filter (fun q => !(q.1 == i) && (!(q.1 == i + 1) && !(q.1 + 1 == i && q.2.category == 2))) = lv') (k : J K D cl A nL w Q cs sl (pc + 2) lv' st σ F) : J K D cl A nL w Q cs sl pc lv (.long x :: st) σ F :=
  fun r σ' e H locs ls hP hD hS hl => lv_lstore h.1 h.2.1 hd hl hn hl' (fun ls hl => k r σ' e H locs ls hP hD hS hl)
theorem J_astore_n (h : jx_ok K D cl tys A nL cc own Ts rm rt) {j : Fin 4} {i : Nat} {x : Nat} {lv' : List (Nat × Value)} (hd : decode cc pc = .ok (.astore_n j, 1)) (hi : (j : Nat) = i) (hn : i < nL) (hl' : (i, Value.ref x) :: lv.filter (fun q => !(q.1 == i) && !(q.1 + 1 == i && q.2.category == 2)) = lv') (k : J K D cl A nL w Q cs sl (pc + 1) lv' st σ F) : J K D cl A nL w Q cs sl pc lv (.ref x :: st) σ F :=
  fun r σ' e H locs ls hP hD hS hl => lv_astore_n h.1 h.2.1 hd hi hl hn hl' (fun ls hl => k r σ' e H locs ls hP hD hS hl)
theorem J_astore (h : jx_ok K D cl tys A nL cc own Ts rm rt) {i : Nat} {x : Nat} {lv' : List (Nat × Value)} (hd : decode cc pc = .ok (.astore i, 2)) (hn : i < nL) (hl' : (i, Value.ref x) :: lv.filter (fun q => !(q.1 == i) && !(q.1 + 1 == i && q.2.category == 2)) = lv') (k : J K D cl A nL w Q cs sl (pc + 2) lv' st σ F) : J K D cl A nL w Q cs sl pc lv (.ref x :: st) σ F :=
  fun r σ' e H locs ls hP hD hS hl => lv_astore h.1 h.2.1 hd hl hn hl' (fun ls hl => k r σ' e H locs ls hP hD hS hl)
theorem J_iinc (h : jx_ok K D cl tys A nL cc own Ts rm rt) {i q : Nat} {n : Int} {x c : Int32} {f : Int32 → Option (ρ × St)} {lv' : Int32 → List (Nat × Value)} (hd : decode cc pc = .ok (.iinc i n, 3)) (hl0 : lv[q]? = some (i, .int x)) (hc : Int32.ofInt n = c) (hn : i < nL) (hl' : ∀ y, (i, Value.int y) :: lv.filter (fun q => !(q.1 == i) && !(q.1 + 1 == i && q.2.category == 2)) = lv' y) (k : ∀ y : Int32, J K D cl A nL w Q cs sl (pc + 3) (lv' y) st σ (f y)) : J K D cl A nL w Q cs sl pc lv st σ (nm (x + c) f) :=
  fun r σ' e H locs ls hP hD hS hl => lv_iinc h.1 h.2.1 hd hl hl0 (by rw [hc]) hn (hl' (x + c)) (fun ls hl => k (x + c) r σ' e H locs ls hP hD hS hl)
theorem J_iadd (h : jx_ok K D cl tys A nL cc own Ts rm rt) {x y : Int32} (hd : decode cc pc = .ok (.iadd, 1)) (k : J K D cl A nL w Q cs sl (pc + 1) lv (.int (x + y) :: st) σ F) : J K D cl A nL w Q cs sl pc lv (.int y :: .int x :: st) σ F :=
  fun r σ' e H locs ls hP hD hS hl => lv_iadd h.1 h.2.1 hd (k r σ' e H locs ls hP hD hS hl)
theorem J_isub (h : jx_ok K D cl tys A nL cc own Ts rm rt) {x y : Int32} (hd : decode cc pc = .ok (.isub, 1)) (k : J K D cl A nL w Q cs sl (pc + 1) lv (.int (x - y) :: st) σ F) : J K D cl A nL w Q cs sl pc lv (.int y :: .int x :: st) σ F :=
  fun r σ' e H locs ls hP hD hS hl => lv_isub h.1 h.2.1 hd (k r σ' e H locs ls hP hD hS hl)
theorem J_imul (h : jx_ok K D cl tys A nL cc own Ts rm rt) {x y : Int32} (hd : decode cc pc = .ok (.imul, 1)) (k : J K D cl A nL w Q cs sl (pc + 1) lv (.int (x * y) :: st) σ F) : J K D cl A nL w Q cs sl pc lv (.int y :: .int x :: st) σ F :=
  fun r σ' e H locs ls hP hD hS hl => lv_imul h.1 h.2.1 hd (k r σ' e H locs ls hP hD hS hl)
theorem J_iand (h : jx_ok K D cl tys A nL cc own Ts rm rt) {x y : Int32} (hd : decode cc pc = .ok (.iand, 1)) (k : J K D cl A nL w Q cs sl (pc + 1) lv (.int (x &&& y) :: st) σ F) : J K D cl A nL w Q cs sl pc lv (.int y :: .int x :: st) σ F :=
  fun r σ' e H locs ls hP hD hS hl => lv_iand h.1 h.2.1 hd (k r σ' e H locs ls hP hD hS hl)
theorem J_ior (h : jx_ok K D cl tys A nL cc own Ts rm rt) {x y : Int32} (hd : decode cc pc = .ok (.ior, 1)) (k : J K D cl A nL w Q cs sl (pc + 1) lv (.int (x ||| y) :: st) σ F) : J K D cl A nL w Q cs sl pc lv (.int y :: .int x :: st) σ F :=
  fun r σ' e H locs ls hP hD hS hl => lv_ior h.1 h.2.1 hd (k r σ' e H locs ls hP hD hS hl)
theorem J_ixor (h : jx_ok K D cl tys A nL cc own Ts rm rt) {x y : Int32} (hd : decode cc pc = .ok (.ixor, 1)) (k : J K D cl A nL w Q cs sl (pc + 1) lv (.int (x ^^^ y) :: st) σ F) : J K D cl A nL w Q cs sl pc lv (.int y :: .int x :: st) σ F :=
  fun r σ' e H locs ls hP hD hS hl => lv_ixor h.1 h.2.1 hd (k r σ' e H locs ls hP hD hS hl)
theorem J_ineg (h : jx_ok K D cl tys A nL cc own Ts rm rt) {x : Int32} (hd : decode cc pc = .ok (.ineg, 1)) (k : J K D cl A nL w Q cs sl (pc + 1) lv (.int (-x) :: st) σ F) : J K D cl A nL w Q cs sl pc lv (.int x :: st) σ F :=
  fun r σ' e H locs ls hP hD hS hl => lv_ineg h.1 h.2.1 hd (k r σ' e H locs ls hP hD hS hl)
theorem J_ishl (h : jx_ok K D cl tys A nL cc own Ts rm rt) {x y : Int32} (hd : decode cc pc = .ok (.ishl, 1)) (k : J K D cl A nL w Q cs sl (pc + 1) lv (.int (x <<< (y &&& 31)) :: st) σ F) : J K D cl A nL w Q cs sl pc lv (.int y :: .int x :: st) σ F :=
  fun r σ' e H locs ls hP hD hS hl => lv_ishl h.1 h.2.1 hd (k r σ' e H locs ls hP hD hS hl)
theorem J_ishr (h : jx_ok K D cl tys A nL cc own Ts rm rt) {x y : Int32} (hd : decode cc pc = .ok (.ishr, 1)) (k : J K D cl A nL w Q cs sl (pc + 1) lv (.int (x >>> (y &&& 31)) :: st) σ F) : J K D cl A nL w Q cs sl pc lv (.int y :: .int x :: st) σ F :=
  fun r σ' e H locs ls hP hD hS hl => lv_ishr h.1 h.2.1 hd (k r σ' e H locs ls hP hD hS hl)
theorem J_land (h : jx_ok K D cl tys A nL cc own Ts rm rt) {x y : Int64} (hd : decode cc pc = .ok (.land, 1)) (k : J K D cl A nL w Q cs sl (pc + 1) lv (.long (x &&& y) :: st) σ F) : J K D cl A nL w Q cs sl pc lv (.long y :: .long x :: st) σ F :=
  fun r σ' e H locs ls hP hD hS hl => lv_land h.1 h.2.1 hd (k r σ' e H locs ls hP hD hS hl)
theorem J_lor (h : jx_ok K D cl tys A nL cc own Ts rm rt) {x y : Int64} (hd : decode cc pc = .ok (.lor, 1)) (k : J K D cl A nL w Q cs sl (pc + 1) lv (.long (x ||| y) :: st) σ F) : J K D cl A nL w Q cs sl pc lv (.long y :: .long x :: st) σ F :=
  fun r σ' e H locs ls hP hD hS hl => lv_lor h.1 h.2.1 hd (k r σ' e H locs ls hP hD hS hl)
theorem J_lxor (h : jx_ok K D cl tys A nL cc own Ts rm rt) {x y : Int64} (hd : decode cc pc = .ok (.lxor, 1)) (k : J K D cl A nL w Q cs sl (pc + 1) lv (.long (x ^^^ y) :: st) σ F) : J K D cl A nL w Q cs sl pc lv (.long y :: .long x :: st) σ F :=
  fun r σ' e H locs ls hP hD hS hl => lv_lxor h.1 h.2.1 hd (k r σ' e H locs ls hP hD hS hl)
theorem J_lshl (h : jx_ok K D cl tys A nL cc own Ts rm rt) {x : Int64} {y : Int32} (hd : decode cc pc = .ok (.lshl, 1)) (k : J K D cl A nL w Q cs sl (pc + 1) lv (.long (x <<< (y.toInt64 &&& 63)) :: st) σ F) : J K D cl A nL w Q cs sl pc lv (.int y :: .long x :: st) σ F :=
  fun r σ' e H locs ls hP hD hS hl => lv_lshl h.1 h.2.1 hd rfl (k r σ' e H locs ls hP hD hS hl)
theorem J_lshr (h : jx_ok K D cl tys A nL cc own Ts rm rt) {x : Int64} {y : Int32} (hd : decode cc pc = .ok (.lshr, 1)) (k : J K D cl A nL w Q cs sl (pc + 1) lv (.long (x >>> (y.toInt64 &&& 63)) :: st) σ F) : J K D cl A nL w Q cs sl pc lv (.int y :: .long x :: st) σ F :=
  fun r σ' e H locs ls hP hD hS hl => lv_lshr h.1 h.2.1 hd rfl (k r σ' e H locs ls hP hD hS hl)
theorem J_i2l (h : jx_ok K D cl tys A nL cc own Ts rm rt) {x : Int32} (hd : decode cc pc = .ok (.i2l, 1)) (k : J K D cl A nL w Q cs sl (pc + 1) lv (.long x.toInt64 :: st) σ F) : J K D cl A nL w Q cs sl pc lv (.int x :: st) σ F :=
  fun r σ' e H locs ls hP hD hS hl => lv_i2l h.1 h.2.1 hd rfl (k r σ' e H locs ls hP hD hS hl)
theorem J_lcmp (h : jx_ok K D cl tys A nL cc own Ts rm rt) {x y : Int64} (hd : decode cc pc = .ok (.lcmp, 1)) (k : J K D cl A nL w Q cs sl (pc + 1) lv (.int (lg_cmp x y) :: st) σ F) : J K D cl A nL w Q cs sl pc lv (.long y :: .long x :: st) σ F :=
  fun r σ' e H locs ls hP hD hS hl => W.lcmp h.1 h.2.1 hd (k r σ' e H locs ls hP hD hS hl)
theorem J_dup (h : jx_ok K D cl tys A nL cc own Ts rm rt) {va : Value} (hd : decode cc pc = .ok (.dup, 1)) (hva : va.category = 1) (k : J K D cl A nL w Q cs sl (pc + 1) lv (va :: va :: st) σ F) : J K D cl A nL w Q cs sl pc lv (va :: st) σ F :=
  fun r σ' e H locs ls hP hD hS hl => lv_dup h.1 h.2.1 hd hva (k r σ' e H locs ls hP hD hS hl)
theorem J_dup2 (h : jx_ok K D cl tys A nL cc own Ts rm rt) {va vb : Value} (hd : decode cc pc = .ok (.dup2, 1)) (hva : va.category = 1) (hvb : vb.category = 1) (k : J K D cl A nL w Q cs sl (pc + 1) lv (va :: vb :: va :: vb :: st) σ F) : J K D cl A nL w Q cs sl pc lv (va :: vb :: st) σ F :=
  fun r σ' e H locs ls hP hD hS hl => lv_dup2_11 h.1 h.2.1 hd hva hvb (k r σ' e H locs ls hP hD hS hl)
theorem J_dup_x1 (h : jx_ok K D cl tys A nL cc own Ts rm rt) {va vb : Value} (hd : decode cc pc = .ok (.dup_x1, 1)) (hva : va.category = 1) (hvb : vb.category = 1) (k : J K D cl A nL w Q cs sl (pc + 1) lv (va :: vb :: va :: st) σ F) : J K D cl A nL w Q cs sl pc lv (va :: vb :: st) σ F :=
  fun r σ' e H locs ls hP hD hS hl => lv_dup_x1 h.1 h.2.1 hd hva hvb (k r σ' e H locs ls hP hD hS hl)
theorem J_dup_x2 (h : jx_ok K D cl tys A nL cc own Ts rm rt) {va vb vd : Value} (hd : decode cc pc = .ok (.dup_x2, 1)) (hva : va.category = 1) (hvb : vb.category = 1) (hvd : vd.category = 1) (k : J K D cl A nL w Q cs sl (pc + 1) lv (va :: vb :: vd :: va :: st) σ F) : J K D cl A nL w Q cs sl pc lv (va :: vb :: vd :: st) σ F :=
  fun r σ' e H locs ls hP hD hS hl => lv_dup_x2 h.1 h.2.1 hd hva hvb hvd (k r σ' e H locs ls hP hD hS hl)
theorem J_pop (h : jx_ok K D cl tys A nL cc own Ts rm rt) {va : Value} (hd : decode cc pc = .ok (.pop, 1)) (hva : va.category = 1) (k : J K D cl A nL w Q cs sl (pc + 1) lv st σ F) : J K D cl A nL w Q cs sl pc lv (va :: st) σ F :=
  fun r σ' e H locs ls hP hD hS hl => lv_pop h.1 h.2.1 hd hva (k r σ' e H locs ls hP hD hS hl)
theorem J_goto (h : jx_ok K D cl tys A nL cc own Ts rm rt) {off : Int} {tgt : Nat} (hd : decode cc pc = .ok (.goto off, 3)) (ht : (pc : Int) + off = (tgt : Int)) (k : J K D cl A nL w Q cs sl tgt lv st σ F) : J K D cl A nL w Q cs sl pc lv st σ F :=
  fun r σ' e H locs ls hP hD hS hl => lv_goto h.1 h.2.1 hd ht (k r σ' e H locs ls hP hD hS hl)
theorem J_if_eq (h : jx_ok K D cl tys A nL cc own Ts rm rt) {x : Int32} {off : Int} {tgt : Nat} (hd : decode cc pc = .ok (.ifCond .eq off, 3)) (ht : (pc : Int) + off = (tgt : Int)) (k1 : J K D cl A nL w Q cs sl tgt lv st σ F1) (k2 : J K D cl A nL w Q cs sl (pc + 3) lv st σ F2) : J K D cl A nL w Q cs sl pc lv (.int x :: st) σ (if x = 0 then F1 else F2) := by
  intro r σ' e H locs ls hP hD hS hl
  refine lv_if_eq h.1 h.2.1 hd ht (fun c => ?_) (fun c => ?_)
  · rw [if_pos c] at e; exact k1 r σ' e H locs ls hP hD hS hl
  · rw [if_neg c] at e; exact k2 r σ' e H locs ls hP hD hS hl
theorem J_icmp_eq (h : jx_ok K D cl tys A nL cc own Ts rm rt) {x y : Int32} {off : Int} {tgt : Nat} (hd : decode cc pc = .ok (.if_icmp .eq off, 3)) (ht : (pc : Int) + off = (tgt : Int)) (k1 : J K D cl A nL w Q cs sl tgt lv st σ F1) (k2 : J K D cl A nL w Q cs sl (pc + 3) lv st σ F2) : J K D cl A nL w Q cs sl pc lv (.int y :: .int x :: st) σ (if x = y then F1 else F2) := by
  intro r σ' e H locs ls hP hD hS hl
  refine lv_icmp_eq h.1 h.2.1 hd ht (fun c => ?_) (fun c => ?_)
  · rw [if_pos c] at e; exact k1 r σ' e H locs ls hP hD hS hl
  · rw [if_neg c] at e; exact k2 r σ' e H locs ls hP hD hS hl
theorem J_if_ne (h : jx_ok K D cl tys A nL cc own Ts rm rt) {x : Int32} {off : Int} {tgt : Nat} (hd : decode cc pc = .ok (.ifCond .ne off, 3)) (ht : (pc : Int) + off = (tgt : Int)) (k1 : J K D cl A nL w Q cs sl (pc + 3) lv st σ F1) (k2 : J K D cl A nL w Q cs sl tgt lv st σ F2) : J K D cl A nL w Q cs sl pc lv (.int x :: st) σ (if x = 0 then F1 else F2) := by
  intro r σ' e H locs ls hP hD hS hl
  refine lv_if_ne h.1 h.2.1 hd ht (fun c => ?_) (fun c => ?_)
  · rw [if_neg c] at e; exact k2 r σ' e H locs ls hP hD hS hl
  · rw [if_pos c] at e; exact k1 r σ' e H locs ls hP hD hS hl
theorem J_icmp_ne (h : jx_ok K D cl tys A nL cc own Ts rm rt) {x y : Int32} {off : Int} {tgt : Nat} (hd : decode cc pc = .ok (.if_icmp .ne off, 3)) (ht : (pc : Int) + off = (tgt : Int)) (k1 : J K D cl A nL w Q cs sl (pc + 3) lv st σ F1) (k2 : J K D cl A nL w Q cs sl tgt lv st σ F2) : J K D cl A nL w Q cs sl pc lv (.int y :: .int x :: st) σ (if x = y then F1 else F2) := by
  intro r σ' e H locs ls hP hD hS hl
  refine lv_icmp_ne h.1 h.2.1 hd ht (fun c => ?_) (fun c => ?_)
  · rw [if_neg c] at e; exact k2 r σ' e H locs ls hP hD hS hl
  · rw [if_pos c] at e; exact k1 r σ' e H locs ls hP hD hS hl
theorem J_if_lt (h : jx_ok K D cl tys A nL cc own Ts rm rt) {x : Int32} {off : Int} {tgt : Nat} (hd : decode cc pc = .ok (.ifCond .lt off, 3)) (ht : (pc : Int) + off = (tgt : Int)) (k1 : J K D cl A nL w Q cs sl tgt lv st σ F1) (k2 : J K D cl A nL w Q cs sl (pc + 3) lv st σ F2) : J K D cl A nL w Q cs sl pc lv (.int x :: st) σ (if x < 0 then F1 else F2) := by
  intro r σ' e H locs ls hP hD hS hl
  refine lv_if_lt h.1 h.2.1 hd ht (fun c => ?_) (fun c => ?_)
  · rw [if_pos c] at e; exact k1 r σ' e H locs ls hP hD hS hl
  · rw [if_neg c] at e; exact k2 r σ' e H locs ls hP hD hS hl
theorem J_icmp_lt (h : jx_ok K D cl tys A nL cc own Ts rm rt) {x y : Int32} {off : Int} {tgt : Nat} (hd : decode cc pc = .ok (.if_icmp .lt off, 3)) (ht : (pc : Int) + off = (tgt : Int)) (k1 : J K D cl A nL w Q cs sl tgt lv st σ F1) (k2 : J K D cl A nL w Q cs sl (pc + 3) lv st σ F2) : J K D cl A nL w Q cs sl pc lv (.int y :: .int x :: st) σ (if x < y then F1 else F2) := by
  intro r σ' e H locs ls hP hD hS hl
  refine lv_icmp_lt h.1 h.2.1 hd ht (fun c => ?_) (fun c => ?_)
  · rw [if_pos c] at e; exact k1 r σ' e H locs ls hP hD hS hl
  · rw [if_neg c] at e; exact k2 r σ' e H locs ls hP hD hS hl
theorem J_if_ge (h : jx_ok K D cl tys A nL cc own Ts rm rt) {x : Int32} {off : Int} {tgt : Nat} (hd : decode cc pc = .ok (.ifCond .ge off, 3)) (ht : (pc : Int) + off = (tgt : Int)) (k1 : J K D cl A nL w Q cs sl tgt lv st σ F1) (k2 : J K D cl A nL w Q cs sl (pc + 3) lv st σ F2) : J K D cl A nL w Q cs sl pc lv (.int x :: st) σ (if 0 ≤ x then F1 else F2) := by
  intro r σ' e H locs ls hP hD hS hl
  refine lv_if_ge h.1 h.2.1 hd ht (fun c => ?_) (fun c => ?_)
  · rw [if_pos c] at e; exact k1 r σ' e H locs ls hP hD hS hl
  · rw [if_neg c] at e; exact k2 r σ' e H locs ls hP hD hS hl
theorem J_icmp_ge (h : jx_ok K D cl tys A nL cc own Ts rm rt) {x y : Int32} {off : Int} {tgt : Nat} (hd : decode cc pc = .ok (.if_icmp .ge off, 3)) (ht : (pc : Int) + off = (tgt : Int)) (k1 : J K D cl A nL w Q cs sl tgt lv st σ F1) (k2 : J K D cl A nL w Q cs sl (pc + 3) lv st σ F2) : J K D cl A nL w Q cs sl pc lv (.int y :: .int x :: st) σ (if y ≤ x then F1 else F2) := by
  intro r σ' e H locs ls hP hD hS hl
  refine lv_icmp_ge h.1 h.2.1 hd ht (fun c => ?_) (fun c => ?_)
  · rw [if_pos c] at e; exact k1 r σ' e H locs ls hP hD hS hl
  · rw [if_neg c] at e; exact k2 r σ' e H locs ls hP hD hS hl
theorem J_if_gt (h : jx_ok K D cl tys A nL cc own Ts rm rt) {x : Int32} {off : Int} {tgt : Nat} (hd : decode cc pc = .ok (.ifCond .gt off, 3)) (ht : (pc : Int) + off = (tgt : Int)) (k1 : J K D cl A nL w Q cs sl tgt lv st σ F1) (k2 : J K D cl A nL w Q cs sl (pc + 3) lv st σ F2) : J K D cl A nL w Q cs sl pc lv (.int x :: st) σ (if 0 < x then F1 else F2) := by
  intro r σ' e H locs ls hP hD hS hl
  refine lv_if_gt h.1 h.2.1 hd ht (fun c => ?_) (fun c => ?_)
  · rw [if_pos c] at e; exact k1 r σ' e H locs ls hP hD hS hl
  · rw [if_neg c] at e; exact k2 r σ' e H locs ls hP hD hS hl
theorem J_icmp_gt (h : jx_ok K D cl tys A nL cc own Ts rm rt) {x y : Int32} {off : Int} {tgt : Nat} (hd : decode cc pc = .ok (.if_icmp .gt off, 3)) (ht : (pc : Int) + off = (tgt : Int)) (k1 : J K D cl A nL w Q cs sl tgt lv st σ F1) (k2 : J K D cl A nL w Q cs sl (pc + 3) lv st σ F2) : J K D cl A nL w Q cs sl pc lv (.int y :: .int x :: st) σ (if y < x then F1 else F2) := by
  intro r σ' e H locs ls hP hD hS hl
  refine lv_icmp_gt h.1 h.2.1 hd ht (fun c => ?_) (fun c => ?_)
  · rw [if_pos c] at e; exact k1 r σ' e H locs ls hP hD hS hl
  · rw [if_neg c] at e; exact k2 r σ' e H locs ls hP hD hS hl
theorem J_if_le (h : jx_ok K D cl tys A nL cc own Ts rm rt) {x : Int32} {off : Int} {tgt : Nat} (hd : decode cc pc = .ok (.ifCond .le off, 3)) (ht : (pc : Int) + off = (tgt : Int)) (k1 : J K D cl A nL w Q cs sl tgt lv st σ F1) (k2 : J K D cl A nL w Q cs sl (pc + 3) lv st σ F2) : J K D cl A nL w Q cs sl pc lv (.int x :: st) σ (if x ≤ 0 then F1 else F2) := by
  intro r σ' e H locs ls hP hD hS hl
  refine lv_if_le h.1 h.2.1 hd ht (fun c => ?_) (fun c => ?_)
  · rw [if_pos c] at e; exact k1 r σ' e H locs ls hP hD hS hl
  · rw [if_neg c] at e; exact k2 r σ' e H locs ls hP hD hS hl
theorem J_icmp_le (h : jx_ok K D cl tys A nL cc own Ts rm rt) {x y : Int32} {off : Int} {tgt : Nat} (hd : decode cc pc = .ok (.if_icmp .le off, 3)) (ht : (pc : Int) + off = (tgt : Int)) (k1 : J K D cl A nL w Q cs sl tgt lv st σ F1) (k2 : J K D cl A nL w Q cs sl (pc + 3) lv st σ F2) : J K D cl A nL w Q cs sl pc lv (.int y :: .int x :: st) σ (if x ≤ y then F1 else F2) := by
  intro r σ' e H locs ls hP hD hS hl
  refine lv_icmp_le h.1 h.2.1 hd ht (fun c => ?_) (fun c => ?_)
  · rw [if_pos c] at e; exact k1 r σ' e H locs ls hP hD hS hl
  · rw [if_neg c] at e; exact k2 r σ' e H locs ls hP hD hS hl
theorem J_getf (h : jx_ok K D cl tys A nL cc own Ts rm rt) {C : String} {T : u_T} {N ci index a : Nat} (q0 : Nat) {fs : List Value} (he : (w σ)[q0]? = some (a, .inr (ci, fs))) (hin : ∀ x ∈ u_ws C T N, x ∈ Ts) (hc : cl[ci]? = some (C, T, N)) (j : Nat) (hj : j < N) (hw : Cond.fieldLink own index (T j).1 (T j).2.1 (T j).2.2.1 ∈ Ts) {v : Value} (hv : fs[j]? = some v) (hd : decode cc pc = .ok (.getfield index, 3)) (k : J K D cl A nL w Q cs sl (pc + 3) lv (v :: st) σ F) : J K D cl A nL w Q cs sl pc lv (.ref a :: st) σ F :=
  fun r σ' e H locs ls hP hD hS hl => va_get h.1 h.2.1 h.2.2.2.2.1 hin h.2.2.2.1 h.2.2.2.2.2.1 hP q0 he hc j hj (h.2.2.2.2.1 _ hw) (fun _ z => z) hv hd (k r σ' e H locs ls hP hD hS hl)
theorem J_putf (h : jx_ok K D cl tys A nL cc own Ts rm rt) {C : String} {T : u_T} {N ci index a : Nat} (q0 : Nat) {fs : List Value} (he : (w σ)[q0]? = some (a, .inr (ci, fs))) (hin : ∀ x ∈ u_ws C T N, x ∈ Ts) (hc : cl[ci]? = some (C, T, N)) (ty0 : Nat → FieldType) (hty : ∀ k, k < N → parseFieldDescriptor (T k).2.2.1 = some (ty0 k)) (hnm : ∀ a, a < N → ∀ b, b < N → a ≠ b → (T a).2.1 ≠ (T b).2.1) (j : Nat) (hj : j < N) (hw : Cond.fieldLink own index (T j).1 (T j).2.1 (T j).2.2.1 ∈ Ts) (hfin : (T j).2.2.2 = false) {v : Value} (hn : narrow (ty0 j) v = v) (hfit : fits (ty0 j) v = true) (hl0 : j < fs.length) {σ2 : St} (hset : (w σ).set q0 (a, .inr (ci, fs.set j v)) = w σ2) {f : St → Option (ρ × St)} (hd : decode cc pc = .ok (.putfield index, 3)) (k : ∀ σ1 : St, J K D cl A nL w Q cs sl (pc + 3) lv st σ1 (f σ1)) : J K D cl A nL w Q cs sl pc lv (v :: .ref a :: st) σ (nm σ2 f) :=
  fun r σ' e H locs ls hP hD hS hl => va_put h.1 h.2.1 h.2.2.2.2.1 hin ty0 hty hnm h.2.2.2.1 h.2.2.2.2.2.1 hP hD hS q0 he hc j hj (h.2.2.2.2.1 _ hw) (fun _ z => z) hfin (hty j hj) hn hfit hl0 hd (fun H1 locs1 hP hD hS => by
    rw [hset] at hP hD
    exact k σ2 r σ' e H1 locs1 ls hP hD hS hl)
theorem J_iald (h : jx_ok K D cl tys A nL cc own Ts rm rt) {a : Nat} (q0 t0 : Nat) {cA : ClassId} {n : Nat} {g : Nat → Int32} (he : (w σ)[q0]? = some (a, .inl (cA, n, .inl g))) (ht : tys[t0]? = some (cA, .int)) {i : Int32} (hd : decode cc pc = .ok (.iaload, 1)) (k : J K D cl A nL w Q cs sl (pc + 1) lv (.int (g i.toNatClampNeg) :: st) σ F) : J K D cl A nL w Q cs sl pc lv (.int i :: .ref a :: st) σ (if ck i n = true then F else none) := by
  intro r σ' e H locs ls hP hD hS hl
  by_cases hk : ck i n = true
  · rw [if_pos hk] at e
    exact va_iald h.1 h.2.1 h.2.2.2.2.2.1 hP q0 t0 he ht (ck_in hk) hd (k r σ' e H locs ls hP hD hS hl)
  · rw [if_neg hk] at e; cases e
theorem J_zald (h : jx_ok K D cl tys A nL cc own Ts rm rt) {a : Nat} (q0 t0 : Nat) {cA : ClassId} {n : Nat} {g : Nat → Int32} (he : (w σ)[q0]? = some (a, .inl (cA, n, .inl g))) (ht : tys[t0]? = some (cA, .boolean)) {i : Int32} (hd : decode cc pc = .ok (.baload, 1)) (k : J K D cl A nL w Q cs sl (pc + 1) lv (.int (g i.toNatClampNeg) :: st) σ F) : J K D cl A nL w Q cs sl pc lv (.int i :: .ref a :: st) σ (if ck i n = true then F else none) := by
  intro r σ' e H locs ls hP hD hS hl
  by_cases hk : ck i n = true
  · rw [if_pos hk] at e
    exact va_zald h.1 h.2.1 h.2.2.2.2.2.1 hP q0 t0 he ht (ck_in hk) hd (k r σ' e H locs ls hP hD hS hl)
  · rw [if_neg hk] at e; cases e
theorem J_lald (h : jx_ok K D cl tys A nL cc own Ts rm rt) {a : Nat} (q0 t0 : Nat) {cA : ClassId} {n : Nat} {g : Nat → Int64} (he : (w σ)[q0]? = some (a, .inl (cA, n, .inr (.inl g)))) (ht : tys[t0]? = some (cA, .long)) {i : Int32} (hd : decode cc pc = .ok (.laload, 1)) (k : J K D cl A nL w Q cs sl (pc + 1) lv (.long (g i.toNatClampNeg) :: st) σ F) : J K D cl A nL w Q cs sl pc lv (.int i :: .ref a :: st) σ (if ck i n = true then F else none) := by
  intro r σ' e H locs ls hP hD hS hl
  by_cases hk : ck i n = true
  · rw [if_pos hk] at e
    exact va_lald h.1 h.2.1 h.2.2.2.2.2.1 hP q0 t0 he ht (ck_in hk) hd (k r σ' e H locs ls hP hD hS hl)
  · rw [if_neg hk] at e; cases e
theorem J_iast (h : jx_ok K D cl tys A nL cc own Ts rm rt) {a : Nat} (q0 t0 : Nat) {cA : ClassId} {n : Nat} {g : Nat → Int32} (he : (w σ)[q0]? = some (a, .inl (cA, n, .inl g))) (ht : tys[t0]? = some (cA, .int)) {i x : Int32} {σ2 : St} (hset : (w σ).set q0 (a, .inl (cA, n, .inl (upd g i.toNatClampNeg x))) = w σ2) {f : St → Option (ρ × St)} (hd : decode cc pc = .ok (.iastore, 1)) (k : ∀ σ1 : St, J K D cl A nL w Q cs sl (pc + 1) lv st σ1 (f σ1)) : J K D cl A nL w Q cs sl pc lv (.int x :: .int i :: .ref a :: st) σ (if ck i n = true then nm σ2 f else none) := by
  intro r σ' e H locs ls hP hD hS hl
  by_cases hk : ck i n = true
  · rw [if_pos hk] at e
    exact va_iast h.1 h.2.1 h.2.2.2.2.2.1 hP hD hS q0 t0 he ht (ck_in hk) hd (fun H1 locs1 hP hD hS => by
      rw [hset] at hP hD
      exact k σ2 r σ' e H1 locs1 ls hP hD hS hl)
  · rw [if_neg hk] at e; cases e
theorem J_zast (h : jx_ok K D cl tys A nL cc own Ts rm rt) {a : Nat} (q0 t0 : Nat) {cA : ClassId} {n : Nat} {g : Nat → Int32} (he : (w σ)[q0]? = some (a, .inl (cA, n, .inl g))) (ht : tys[t0]? = some (cA, .boolean)) {i x : Int32} {σ2 : St} (hset : (w σ).set q0 (a, .inl (cA, n, .inl (upd g i.toNatClampNeg (vp_nar .boolean x)))) = w σ2) {f : St → Option (ρ × St)} (hd : decode cc pc = .ok (.bastore, 1)) (k : ∀ σ1 : St, J K D cl A nL w Q cs sl (pc + 1) lv st σ1 (f σ1)) : J K D cl A nL w Q cs sl pc lv (.int x :: .int i :: .ref a :: st) σ (if ck i n = true then nm σ2 f else none) := by
  intro r σ' e H locs ls hP hD hS hl
  by_cases hk : ck i n = true
  · rw [if_pos hk] at e
    exact va_zast h.1 h.2.1 h.2.2.2.2.2.1 hP hD hS q0 t0 he ht (ck_in hk) hd (fun H1 locs1 hP hD hS => by
      rw [hset] at hP hD
      exact k σ2 r σ' e H1 locs1 ls hP hD hS hl)
  · rw [if_neg hk] at e; cases e
theorem J_last (h : jx_ok K D cl tys A nL cc own Ts rm rt) {a : Nat} (q0 t0 : Nat) {cA : ClassId} {n : Nat} {g : Nat → Int64} (he : (w σ)[q0]? = some (a, .inl (cA, n, .inr (.inl g)))) (ht : tys[t0]? = some (cA, .long)) {i : Int32} {x : Int64} {σ2 : St} (hset : (w σ).set q0 (a, .inl (cA, n, .inr (.inl (vp_updL g i.toNatClampNeg x)))) = w σ2) {f : St → Option (ρ × St)} (hd : decode cc pc = .ok (.lastore, 1)) (k : ∀ σ1 : St, J K D cl A nL w Q cs sl (pc + 1) lv st σ1 (f σ1)) : J K D cl A nL w Q cs sl pc lv (.long x :: .int i :: .ref a :: st) σ (if ck i n = true then nm σ2 f else none) := by
  intro r σ' e H locs ls hP hD hS hl
  by_cases hk : ck i n = true
  · rw [if_pos hk] at e
    exact va_last h.1 h.2.1 h.2.2.2.2.2.1 hP hD hS q0 t0 he ht (ck_in hk) hd (fun H1 locs1 hP hD hS => by
      rw [hset] at hP hD
      exact k σ2 r σ' e H1 locs1 ls hP hD hS hl)
  · rw [if_neg hk] at e; cases e
theorem J_alen (h : jx_ok K D cl tys A nL cc own Ts rm rt) {a : Nat} (q0 t0 : Nat) {cA : ClassId} {x : vp_A} (he : (w σ)[q0]? = some (a, .inl (cA, x))) {ty : FieldType} (ht : tys[t0]? = some (cA, ty)) {v : Int32} (hv : Int32.ofNat x.1 = v) (hd : decode cc pc = .ok (.arraylength, 1)) (k : J K D cl A nL w Q cs sl (pc + 1) lv (.int v :: st) σ F) : J K D cl A nL w Q cs sl pc lv (.ref a :: st) σ F :=
  fun r σ' e H locs ls hP hD hS hl => va_alen h.1 h.2.1 h.2.2.2.2.2.1 hP q0 t0 he ht hv hd (k r σ' e H locs ls hP hD hS hl)
theorem J_tblIn (h : jx_ok K D cl tys A nL cc own Ts rm rt) {dflt lo hi : Int} {offs : Array Int} {len : Nat} {x v : Int32} {off : Int} {tgt : Nat} (hx : x = v) (hd : decode cc pc = .ok (.tableswitch dflt lo hi offs, len)) (h1 : ¬ v.toInt < lo) (h2 : ¬ hi < v.toInt) (ho : offs[(v.toInt - lo).toNat]? = some off) (ht : (pc : Int) + off = (tgt : Int)) (k : J K D cl A nL w Q cs sl tgt lv st σ F) : J K D cl A nL w Q cs sl pc lv (.int x :: st) σ F := by
  subst hx
  exact fun r σ' e H locs ls hP hD hS hl => lv_tableIn h.1 h.2.1 hd h1 h2 ho ht (k r σ' e H locs ls hP hD hS hl)
theorem J_tblOut (h : jx_ok K D cl tys A nL cc own Ts rm rt) {dflt lo hi : Int} {offs : Array Int} {len : Nat} {x : Int32} {tgt : Nat} (hx : x.toInt < lo ∨ hi < x.toInt) (hd : decode cc pc = .ok (.tableswitch dflt lo hi offs, len)) (ht : (pc : Int) + dflt = (tgt : Int)) (k : J K D cl A nL w Q cs sl tgt lv st σ F) : J K D cl A nL w Q cs sl pc lv (.int x :: st) σ F :=
  fun r σ' e H locs ls hP hD hS hl => lv_tableOut h.1 h.2.1 hd hx ht (k r σ' e H locs ls hP hD hS hl)
theorem J_lkp (h : jx_ok K D cl tys A nL cc own Ts rm rt) {dflt : Int} {ps : Array (Int × Int)} {len : Nat} {x : Int32} {off : Int} {tgt : Nat} (ho : Op.lookupswitch.offset ps.toList dflt x.toInt = off) (hd : decode cc pc = .ok (.lookupswitch dflt ps, len)) (hp : (ps.toList.zip (ps.toList.drop 1)).all (fun (a, next) => a.1 < next.1) = true) (ht : (pc : Int) + off = (tgt : Int)) (k : J K D cl A nL w Q cs sl tgt lv st σ F) : J K D cl A nL w Q cs sl pc lv (.int x :: st) σ F :=
  fun r σ' e H locs ls hP hD hS hl => lv_lookup h.1 h.2.1 hd hp ho ht (k r σ' e H locs ls hP hD hS hl)
end JR
section JC
variable {St ρ : Type} {K : jx_E} {D : va_G} {cl : List vw_C} {tys : List (ClassId × FieldType)} {A : Nat → Prop} {nL : Nat} {cc : ByteArray} {own : String} {Ts : List Cond} {rm : Room} {rt : Option FieldType} {w : St → va_W} {Q : ρ → St → State → Prop} {cs sl : Nat} {pc : Nat} {lv : List (Nat × Value)} {st : List Value} {σ : St}
/-- the start and the end of a method over one world, which it keeps: no cell is made -/
def jx_Pc (D : va_G) (cl : List vw_C) (tys : List (ClassId × FieldType)) (w : St → va_W) (vs : List Value) (σ : St) (sz : Nat) : Array Value → State → Prop := va_Pc vs (fun U => U.heap.size = sz ∧ va_P D cl (w σ) U.heap ∧ va_K D cl tys U ∧ va_D (fun _ => True) (w σ))
def jx_B (D : va_G) (cl : List vw_C) (tys : List (ClassId × FieldType)) (w : St → va_W) (A : Nat → Prop) : St → State → Prop := fun u t => va_P D cl (w u) t.heap ∧ va_K D cl tys t ∧ va_D A (w u)
def MetI (l : Launch) (y : MethodName) (ws : List Cond) (rm : Room) (D : va_G) (cl : List vw_C) (tys : List (ClassId × FieldType)) (w : St → va_W) (vs : List Value) (σ : St) (r : Int32) (σ' : St) : Prop :=
  ∀ sz : Nat, Met l y ws rm (jx_Pc D cl tys w vs σ sz) (va_Qi (fun (r2 : Int32) (u : St) => r2 = r ∧ u = σ') (jx_B D cl tys w (va_A (w σ) sz)) (va_A (w σ) sz)) 0 0 (va_A (w σ) sz)
def MetL (l : Launch) (y : MethodName) (ws : List Cond) (rm : Room) (D : va_G) (cl : List vw_C) (tys : List (ClassId × FieldType)) (w : St → va_W) (vs : List Value) (σ : St) (r : Int64) (σ' : St) : Prop :=
  ∀ sz : Nat, Met l y ws rm (jx_Pc D cl tys w vs σ sz) (va_Ql (fun (r2 : Int64) (u : St) => r2 = r ∧ u = σ') (jx_B D cl tys w (va_A (w σ) sz)) (va_A (w σ) sz)) 0 0 (va_A (w σ) sz)
def MetV (l : Launch) (y : MethodName) (ws : List Cond) (rm : Room) (D : va_G) (cl : List vw_C) (tys : List (ClassId × FieldType)) (w : St → va_W) (vs : List Value) (σ : St) (_ : Unit) (σ' : St) : Prop :=
  ∀ sz : Nat, Met l y ws rm (jx_Pc D cl tys w vs σ sz) (va_Qv (fun (u : St) => u = σ') (jx_B D cl tys w (va_A (w σ) sz)) (va_A (w σ) sz)) 0 0 (va_A (w σ) sz)
def jx_Qi (K : jx_E) (D : va_G) (cl : List vw_C) (tys : List (ClassId × FieldType)) (w : St → va_W) (A : Nat → Prop) : Int32 → St → State → Prop := fun r σ' => MQ (jb K) (va_Qi (fun (r2 : Int32) (u : St) => r2 = r ∧ u = σ') (jx_B D cl tys w A) A) (ja K) (js K) 0 0 A
def jx_Ql (K : jx_E) (D : va_G) (cl : List vw_C) (tys : List (ClassId × FieldType)) (w : St → va_W) (A : Nat → Prop) : Int64 → St → State → Prop := fun r σ' => MQ (jb K) (va_Ql (fun (r2 : Int64) (u : St) => r2 = r ∧ u = σ') (jx_B D cl tys w A) A) (ja K) (js K) 0 0 A
def jx_Qv (K : jx_E) (D : va_G) (cl : List vw_C) (tys : List (ClassId × FieldType)) (w : St → va_W) (A : Nat → Prop) : Unit → St → State → Prop := fun _ σ' => MQ (jb K) (va_Qv (fun (u : St) => u = σ') (jx_B D cl tys w A) A) (ja K) (js K) 0 0 A
theorem J_iret (h : jx_ok K D cl tys A nL cc own Ts rm rt) (hr : rt = some .int) {v : Int32} (hd : decode cc pc = .ok (.ireturn, 1)) : J K D cl A nL w (jx_Qi K D cl tys w A) 0 0 pc lv [.int v] σ (some (v, σ)) := by
  intro r σ' e H locs ls hP hD hS hl
  cases e
  exact W.iret h.1 h.2.1 (h.2.2.2.2.2.2.2.2.2.trans hr) (fun t ht hW => ⟨⟨v, σ, rfl, ⟨rfl, rfl⟩, by rw [ht]; exact hP, va_K.moved hW.alike h.2.2.2.2.2.1, hD⟩, hS.F ht⟩) hS.2.2 hd h.2.2.2.2.2.2.2.1
theorem J_zret (h : jx_ok K D cl tys A nL cc own Ts rm rt) (hr : rt = some .boolean) {v : Int32} (hn : narrow .boolean (.int v) = .int v) (hd : decode cc pc = .ok (.ireturn, 1)) : J K D cl A nL w (jx_Qi K D cl tys w A) 0 0 pc lv [.int v] σ (some (v, σ)) := by
  intro r σ' e H locs ls hP hD hS hl
  cases e
  exact W.zret h.1 h.2.1 (h.2.2.2.2.2.2.2.2.2.trans hr) hn (fun t ht hW => ⟨⟨v, σ, rfl, ⟨rfl, rfl⟩, by rw [ht]; exact hP, va_K.moved hW.alike h.2.2.2.2.2.1, hD⟩, hS.F ht⟩) hS.2.2 hd h.2.2.2.2.2.2.2.1
theorem J_lret (h : jx_ok K D cl tys A nL cc own Ts rm rt) (hr : rt = some .long) {v : Int64} (hd : decode cc pc = .ok (.lreturn, 1)) : J K D cl A nL w (jx_Ql K D cl tys w A) 0 0 pc lv [.long v] σ (some (v, σ)) := by
  intro r σ' e H locs ls hP hD hS hl
  cases e
  exact W.lret h.1 h.2.1 (h.2.2.2.2.2.2.2.2.2.trans hr) (fun t ht hW => ⟨⟨v, σ, rfl, ⟨rfl, rfl⟩, by rw [ht]; exact hP, va_K.moved hW.alike h.2.2.2.2.2.1, hD⟩, hS.F ht⟩) hS.2.2 hd h.2.2.2.2.2.2.2.1
theorem J_vret (h : jx_ok K D cl tys A nL cc own Ts rm rt) (hr : rt = none) (hd : decode cc pc = .ok (.return_, 1)) : J K D cl A nL w (jx_Qv K D cl tys w A) 0 0 pc lv [] σ (some ((), σ)) := by
  intro r σ' e H locs ls hP hD hS hl
  cases e
  exact W.vret h.1 h.2.1 (h.2.2.2.2.2.2.2.2.2.trans hr) (fun t ht hW => ⟨⟨σ, rfl, rfl, by rw [ht]; exact hP, va_K.moved hW.alike h.2.2.2.2.2.1, hD⟩, hS.F ht⟩) hS.2.2 hd h.2.2.2.2.2.2.2.1
theorem jx_blind {vs : List Value} {sz : Nat} : FrameBlind (jx_Pc D cl tys w vs σ sz) := fun a U g mk q => by
  obtain ⟨q0, q1, qP, qK, qD⟩ := q
  exact ⟨q0, q1, qP, va_K.moved (u := U) (U := U.calling g mk a) (Vm.Alike.refl U.vm) qK, qD⟩
theorem jx_free {ws : va_W} {H0 H : Heap} {locs : List Loc} (hD : va_D A ws) (hS : va_S A H0 H locs) (hA : ∀ q, H0.size ≤ q → A q) : ∀ q, va_A ws H.size q → A q := by
  intro q hq
  rcases hq with ⟨k, e, hk⟩ | hq
  · exact hD.2 k (q, e) hk
  · exact hA q (Nat.le_trans hS.1 hq)
theorem jx_start {l : Launch} {y : MethodName} {ws ws' : List Cond} {p : Program} {e : Env} {s : State} {m : MethodId} {args : Array Value} {below : List Frame} {meth : Method} {c : Code} {s₁ : State} {vs : List Value} {sz : Nat} (B : BodyLoose p l y (headSpec ws rm) cc nL rt e s m args below meth c s₁) (hml : c.maxLocals = nL) (hv : jx_Pc D cl tys w vs σ sz args s) : jx_ok (p, l, e, (headSpec ws rm).room, s, m, args, below, meth, c) D cl tys (va_A (w σ) sz) nL cc y.cls ws rm rt := by
  obtain ⟨rfl, hsz, hP, hK, hD0⟩ := hv
  exact ⟨B.exec, B.bytes, hml, findClass_of_methodNamed B.named, atoms_spec (ws := ws) B.pre, hK, fun q h => Or.inr (by rw [← hsz]; exact h), B.notSynchronized, rfl, B.returns⟩
theorem jx_metI {l : Launch} {y : MethodName} {ws ws' : List Cond} {vs : List Value} {F : Option (Int32 × St)} {r : Int32} {σ' : St} (hy : plainName y.cls = true) (hw : ws = Cond.code y cc nL rt :: ws') (hlen : (lg_sl vs).length ≤ nL) (body : ∀ (K : jx_E) (A : Nat → Prop), jx_ok K D cl tys A nL cc y.cls ws rm rt → J K D cl A nL w (jx_Qi K D cl tys w A) 0 0 0 (lv_args 0 vs) [] σ F) (hF : F = some (r, σ')) : MetI l y ws rm D cl tys w vs σ r σ' := by
  intro sz
  refine Met.ofW (cc := cc) (maxL := nL) (ret := rt) hy hw ?_
  intro p e s m args below meth c s₁ B hml hv
  have hok := jx_start (ws' := ws') B hml hv
  obtain ⟨rfl, hsz, hP, hK, hD0⟩ := hv
  rw [lg_entry_eq]
  exact body _ _ hok r σ' hF s.heap [] _ hP hD0.self va_S.rf (lv_entry vs hlen)
theorem jx_metL {l : Launch} {y : MethodName} {ws ws' : List Cond} {vs : List Value} {F : Option (Int64 × St)} {r : Int64} {σ' : St} (hy : plainName y.cls = true) (hw : ws = Cond.code y cc nL rt :: ws') (hlen : (lg_sl vs).length ≤ nL) (body : ∀ (K : jx_E) (A : Nat → Prop), jx_ok K D cl tys A nL cc y.cls ws rm rt → J K D cl A nL w (jx_Ql K D cl tys w A) 0 0 0 (lv_args 0 vs) [] σ F) (hF : F = some (r, σ')) : MetL l y ws rm D cl tys w vs σ r σ' := by
  intro sz
  refine Met.ofW (cc := cc) (maxL := nL) (ret := rt) hy hw ?_
  intro p e s m args below meth c s₁ B hml hv
  have hok := jx_start (ws' := ws') B hml hv
  obtain ⟨rfl, hsz, hP, hK, hD0⟩ := hv
  rw [lg_entry_eq]
  exact body _ _ hok r σ' hF s.heap [] _ hP hD0.self va_S.rf (lv_entry vs hlen)
theorem jx_metV {l : Launch} {y : MethodName} {ws ws' : List Cond} {vs : List Value} {F : Option (Unit × St)} {r : Unit} {σ' : St} (hy : plainName y.cls = true) (hw : ws = Cond.code y cc nL rt :: ws') (hlen : (lg_sl vs).length ≤ nL) (body : ∀ (K : jx_E) (A : Nat → Prop), jx_ok K D cl tys A nL cc y.cls ws rm rt → J K D cl A nL w (jx_Qv K D cl tys w A) 0 0 0 (lv_args 0 vs) [] σ F) (hF : F = some (r, σ')) : MetV l y ws rm D cl tys w vs σ r σ' := by
  intro sz
  refine Met.ofW (cc := cc) (maxL := nL) (ret := rt) hy hw ?_
  intro p e s m args below meth c s₁ B hml hv
  have hok := jx_start (ws' := ws') B hml hv
  obtain ⟨rfl, hsz, hP, hK, hD0⟩ := hv
  rw [lg_entry_eq]
  exact body _ _ hok r σ' hF s.heap [] _ hP hD0.self va_S.rf (lv_entry vs hlen)
theorem J_callVi (h : jx_ok K D cl tys A nL cc own Ts rm rt) {y : MethodName} {ws ws' : List Cond} {bytes : ByteArray} {maxL index n q0 ci b : Nat} {ret : Option FieldType} {rmc : Room} {C : String} {qc : vw_C} {fs As st0 : List Value} {f : Option (Int32 × St)} {g : Int32 → St → Option (ρ × St)} (hM : ∀ r σ', f = some (r, σ') → MetI (jl K) y ws rmc D cl tys w (.ref b :: As) σ r σ')
    (hG : GoodIn Ts (wsV own index C y ws)) (hw : ws = Cond.code y bytes maxL ret :: ws') (hrm : rmc.cells = 0 ∧ rmc.slots = 0) (hdd : y.cls = C ∧ y.cls ≠ "java/lang/invoke/MethodHandle" ∧ y.cls ≠ "java/lang/invoke/VarHandle" ∧ (parseMethodDescriptor y.desc).map (fun d => d.parameters.length) = some n) (hR : rmc.frames + 1 ≤ rm.frames ∧ 8 + (maxL + 11) + rmc.locals ≤ rm.locals)
    (hc : cl[ci]? = some qc) (hC : qc.1 = C) (he : (w σ)[q0]? = some (b, .inr (ci, fs))) (hn : As.length = n) (hst : st0 = As.reverse ++ .ref b :: st) (hroom : (st.map fun v => v.category).sum ≤ 8) (hcs : cs ≤ rm.cells ∧ sl ≤ rm.slots) (hd : decode cc pc = .ok (.invokevirtual index, 3))
    (k : ∀ (r : Int32) (σ1 : St), J K D cl A nL w Q cs sl (pc + 3) lv (.int r :: st) σ1 (g r σ1)) : J K D cl A nL w Q cs sl pc lv st0 σ (bd f g) := by
  intro r1 σ9 e1 H locs ls hP hD hS hl
  obtain ⟨r0, σ0, ef, eg⟩ := bd_some e1
  have hF := jx_free hD hS h.2.2.2.2.2.2.1
  have hRe := h.2.2.2.2.2.2.2.2.1
  refine va_calli (va_runV (As := As) (rest := st) (mc := 0) (ms := 0) ⟨h.1, h.2.1, h.2.2.1, h.2.2.2.1, h.2.2.2.2.1⟩ (hM r0 σ0 ef H.size) (cwV n h.2.2.2.2.1 hG hw hrm.1 hrm.2 hdd (by rw [hRe]; exact hR)) ⟨jx_blind, by rw [← hC]; exact va_recv h.2.2.2.2.2.1 hP hc he, fun U hU hW => ⟨rfl, by rw [hU], by rw [hU]; exact hP, va_K.moved hW.alike h.2.2.2.2.2.1, hD.weaken (fun _ _ _ _ => trivial)⟩⟩ rfl hn hl.1 hst (lv_room hroom) hd (by rw [hRe]; exact hcs)) hS (fun q _ z => hF q z) hF (fun r u t H1 locs1 ht hvm hw hB hz1 hk1 hS => ?_)
  obtain ⟨rfl, rfl⟩ := hw
  obtain ⟨hP1, hK1, hD1⟩ := hB
  rw [ht] at hP1
  exact k _ _ _ _ eg H1 locs1 ls hP1 (hD1.weaken (fun _ q _ z => hF q.1 z)) hS hl
theorem J_callSi (h : jx_ok K D cl tys A nL cc own Ts rm rt) {y : MethodName} {ws ws' : List Cond} {bytes : ByteArray} {maxL index n : Nat} {ret : Option FieldType} {rmc : Room} {As st0 : List Value} {f : Option (Int32 × St)} {g : Int32 → St → Option (ρ × St)} (hM : ∀ r σ', f = some (r, σ') → MetI (jl K) y ws rmc D cl tys w As σ r σ')
    (hG : GoodIn Ts (wsS own index y ws)) (hw : ws = Cond.code y bytes maxL ret :: ws') (hrm : rmc.cells = 0 ∧ rmc.slots = 0) (hdd : y.cls = own ∧ y.cls ≠ "java/lang/invoke/MethodHandle" ∧ y.cls ≠ "java/lang/invoke/VarHandle" ∧ (parseMethodDescriptor y.desc).map (fun d => d.parameters.length) = some n) (hR : rmc.frames + 1 ≤ rm.frames ∧ 8 + (maxL + 11) + rmc.locals ≤ rm.locals)
    (hn : As.length = n) (hst : st0 = As.reverse ++ st) (hroom : (st.map fun v => v.category).sum ≤ 8) (hcs : cs ≤ rm.cells ∧ sl ≤ rm.slots) (hd : decode cc pc = .ok (.invokestatic index, 3))
    (k : ∀ (r : Int32) (σ1 : St), J K D cl A nL w Q cs sl (pc + 3) lv (.int r :: st) σ1 (g r σ1)) : J K D cl A nL w Q cs sl pc lv st0 σ (bd f g) := by
  intro r1 σ9 e1 H locs ls hP hD hS hl
  obtain ⟨r0, σ0, ef, eg⟩ := bd_some e1
  have hF := jx_free hD hS h.2.2.2.2.2.2.1
  have hRe := h.2.2.2.2.2.2.2.2.1
  refine va_calli (va_runS (As := As) (rest := st) (mc := 0) (ms := 0) ⟨h.1, h.2.1, h.2.2.1, h.2.2.2.1, h.2.2.2.2.1⟩ (hM r0 σ0 ef H.size) (cwS n h.2.2.2.2.1 hG hw hrm.1 hrm.2 hdd (by rw [hRe]; exact hR)) ⟨jx_blind, fun U hU hW => ⟨rfl, by rw [hU], by rw [hU]; exact hP, va_K.moved hW.alike h.2.2.2.2.2.1, hD.weaken (fun _ _ _ _ => trivial)⟩⟩ rfl hn hl.1 hst (lv_room hroom) hd (by rw [hRe]; exact hcs)) hS (fun q _ z => hF q z) hF (fun r u t H1 locs1 ht hvm hw hB hz1 hk1 hS => ?_)
  obtain ⟨rfl, rfl⟩ := hw
  obtain ⟨hP1, hK1, hD1⟩ := hB
  rw [ht] at hP1
  exact k _ _ _ _ eg H1 locs1 ls hP1 (hD1.weaken (fun _ q _ z => hF q.1 z)) hS hl
theorem J_callVl (h : jx_ok K D cl tys A nL cc own Ts rm rt) {y : MethodName} {ws ws' : List Cond} {bytes : ByteArray} {maxL index n q0 ci b : Nat} {ret : Option FieldType} {rmc : Room} {C : String} {qc : vw_C} {fs As st0 : List Value} {f : Option (Int64 × St)} {g : Int64 → St → Option (ρ × St)} (hM : ∀ r σ', f = some (r, σ') → MetL (jl K) y ws rmc D cl tys w (.ref b :: As) σ r σ')
    (hG : GoodIn Ts (wsV own index C y ws)) (hw : ws = Cond.code y bytes maxL ret :: ws') (hrm : rmc.cells = 0 ∧ rmc.slots = 0) (hdd : y.cls = C ∧ y.cls ≠ "java/lang/invoke/MethodHandle" ∧ y.cls ≠ "java/lang/invoke/VarHandle" ∧ (parseMethodDescriptor y.desc).map (fun d => d.parameters.length) = some n) (hR : rmc.frames + 1 ≤ rm.frames ∧ 8 + (maxL + 11) + rmc.locals ≤ rm.locals)
    (hc : cl[ci]? = some qc) (hC : qc.1 = C) (he : (w σ)[q0]? = some (b, .inr (ci, fs))) (hn : As.length = n) (hst : st0 = As.reverse ++ .ref b :: st) (hroom : (st.map fun v => v.category).sum ≤ 8) (hcs : cs ≤ rm.cells ∧ sl ≤ rm.slots) (hd : decode cc pc = .ok (.invokevirtual index, 3))
    (k : ∀ (r : Int64) (σ1 : St), J K D cl A nL w Q cs sl (pc + 3) lv (.long r :: st) σ1 (g r σ1)) : J K D cl A nL w Q cs sl pc lv st0 σ (bd f g) := by
  intro r1 σ9 e1 H locs ls hP hD hS hl
  obtain ⟨r0, σ0, ef, eg⟩ := bd_some e1
  have hF := jx_free hD hS h.2.2.2.2.2.2.1
  have hRe := h.2.2.2.2.2.2.2.2.1
  refine va_calll (va_runV (As := As) (rest := st) (mc := 0) (ms := 0) ⟨h.1, h.2.1, h.2.2.1, h.2.2.2.1, h.2.2.2.2.1⟩ (hM r0 σ0 ef H.size) (cwV n h.2.2.2.2.1 hG hw hrm.1 hrm.2 hdd (by rw [hRe]; exact hR)) ⟨jx_blind, by rw [← hC]; exact va_recv h.2.2.2.2.2.1 hP hc he, fun U hU hW => ⟨rfl, by rw [hU], by rw [hU]; exact hP, va_K.moved hW.alike h.2.2.2.2.2.1, hD.weaken (fun _ _ _ _ => trivial)⟩⟩ rfl hn hl.1 hst (lv_room hroom) hd (by rw [hRe]; exact hcs)) hS (fun q _ z => hF q z) hF (fun r u t H1 locs1 ht hvm hw hB hz1 hk1 hS => ?_)
  obtain ⟨rfl, rfl⟩ := hw
  obtain ⟨hP1, hK1, hD1⟩ := hB
  rw [ht] at hP1
  exact k _ _ _ _ eg H1 locs1 ls hP1 (hD1.weaken (fun _ q _ z => hF q.1 z)) hS hl
theorem J_callSl (h : jx_ok K D cl tys A nL cc own Ts rm rt) {y : MethodName} {ws ws' : List Cond} {bytes : ByteArray} {maxL index n : Nat} {ret : Option FieldType} {rmc : Room} {As st0 : List Value} {f : Option (Int64 × St)} {g : Int64 → St → Option (ρ × St)} (hM : ∀ r σ', f = some (r, σ') → MetL (jl K) y ws rmc D cl tys w As σ r σ')
    (hG : GoodIn Ts (wsS own index y ws)) (hw : ws = Cond.code y bytes maxL ret :: ws') (hrm : rmc.cells = 0 ∧ rmc.slots = 0) (hdd : y.cls = own ∧ y.cls ≠ "java/lang/invoke/MethodHandle" ∧ y.cls ≠ "java/lang/invoke/VarHandle" ∧ (parseMethodDescriptor y.desc).map (fun d => d.parameters.length) = some n) (hR : rmc.frames + 1 ≤ rm.frames ∧ 8 + (maxL + 11) + rmc.locals ≤ rm.locals)
    (hn : As.length = n) (hst : st0 = As.reverse ++ st) (hroom : (st.map fun v => v.category).sum ≤ 8) (hcs : cs ≤ rm.cells ∧ sl ≤ rm.slots) (hd : decode cc pc = .ok (.invokestatic index, 3))
    (k : ∀ (r : Int64) (σ1 : St), J K D cl A nL w Q cs sl (pc + 3) lv (.long r :: st) σ1 (g r σ1)) : J K D cl A nL w Q cs sl pc lv st0 σ (bd f g) := by
  intro r1 σ9 e1 H locs ls hP hD hS hl
  obtain ⟨r0, σ0, ef, eg⟩ := bd_some e1
  have hF := jx_free hD hS h.2.2.2.2.2.2.1
  have hRe := h.2.2.2.2.2.2.2.2.1
  refine va_calll (va_runS (As := As) (rest := st) (mc := 0) (ms := 0) ⟨h.1, h.2.1, h.2.2.1, h.2.2.2.1, h.2.2.2.2.1⟩ (hM r0 σ0 ef H.size) (cwS n h.2.2.2.2.1 hG hw hrm.1 hrm.2 hdd (by rw [hRe]; exact hR)) ⟨jx_blind, fun U hU hW => ⟨rfl, by rw [hU], by rw [hU]; exact hP, va_K.moved hW.alike h.2.2.2.2.2.1, hD.weaken (fun _ _ _ _ => trivial)⟩⟩ rfl hn hl.1 hst (lv_room hroom) hd (by rw [hRe]; exact hcs)) hS (fun q _ z => hF q z) hF (fun r u t H1 locs1 ht hvm hw hB hz1 hk1 hS => ?_)
  obtain ⟨rfl, rfl⟩ := hw
  obtain ⟨hP1, hK1, hD1⟩ := hB
  rw [ht] at hP1
  exact k _ _ _ _ eg H1 locs1 ls hP1 (hD1.weaken (fun _ q _ z => hF q.1 z)) hS hl
theorem J_callVv (h : jx_ok K D cl tys A nL cc own Ts rm rt) {y : MethodName} {ws ws' : List Cond} {bytes : ByteArray} {maxL index n q0 ci b : Nat} {ret : Option FieldType} {rmc : Room} {C : String} {qc : vw_C} {fs As st0 : List Value} {f : Option (Unit × St)} {g : Unit → St → Option (ρ × St)} (hM : ∀ r σ', f = some (r, σ') → MetV (jl K) y ws rmc D cl tys w (.ref b :: As) σ r σ')
    (hG : GoodIn Ts (wsV own index C y ws)) (hw : ws = Cond.code y bytes maxL ret :: ws') (hrm : rmc.cells = 0 ∧ rmc.slots = 0) (hdd : y.cls = C ∧ y.cls ≠ "java/lang/invoke/MethodHandle" ∧ y.cls ≠ "java/lang/invoke/VarHandle" ∧ (parseMethodDescriptor y.desc).map (fun d => d.parameters.length) = some n) (hR : rmc.frames + 1 ≤ rm.frames ∧ 8 + (maxL + 11) + rmc.locals ≤ rm.locals)
    (hc : cl[ci]? = some qc) (hC : qc.1 = C) (he : (w σ)[q0]? = some (b, .inr (ci, fs))) (hn : As.length = n) (hst : st0 = As.reverse ++ .ref b :: st) (hroom : (st.map fun v => v.category).sum ≤ 8) (hcs : cs ≤ rm.cells ∧ sl ≤ rm.slots) (hd : decode cc pc = .ok (.invokevirtual index, 3))
    (k : ∀ (r : Unit) (σ1 : St), J K D cl A nL w Q cs sl (pc + 3) lv (st) σ1 (g r σ1)) : J K D cl A nL w Q cs sl pc lv st0 σ (bd f g) := by
  intro r1 σ9 e1 H locs ls hP hD hS hl
  obtain ⟨r0, σ0, ef, eg⟩ := bd_some e1
  have hF := jx_free hD hS h.2.2.2.2.2.2.1
  have hRe := h.2.2.2.2.2.2.2.2.1
  refine va_callv (va_runV (As := As) (rest := st) (mc := 0) (ms := 0) ⟨h.1, h.2.1, h.2.2.1, h.2.2.2.1, h.2.2.2.2.1⟩ (hM r0 σ0 ef H.size) (cwV n h.2.2.2.2.1 hG hw hrm.1 hrm.2 hdd (by rw [hRe]; exact hR)) ⟨jx_blind, by rw [← hC]; exact va_recv h.2.2.2.2.2.1 hP hc he, fun U hU hW => ⟨rfl, by rw [hU], by rw [hU]; exact hP, va_K.moved hW.alike h.2.2.2.2.2.1, hD.weaken (fun _ _ _ _ => trivial)⟩⟩ rfl hn hl.1 hst (lv_room hroom) hd (by rw [hRe]; exact hcs)) hS (fun q _ z => hF q z) hF (fun u t H1 locs1 ht hvm hw hB hz1 hk1 hS => ?_)
  subst hw
  obtain ⟨hP1, hK1, hD1⟩ := hB
  rw [ht] at hP1
  exact k _ _ _ _ eg H1 locs1 ls hP1 (hD1.weaken (fun _ q _ z => hF q.1 z)) hS hl
theorem J_callSv (h : jx_ok K D cl tys A nL cc own Ts rm rt) {y : MethodName} {ws ws' : List Cond} {bytes : ByteArray} {maxL index n : Nat} {ret : Option FieldType} {rmc : Room} {As st0 : List Value} {f : Option (Unit × St)} {g : Unit → St → Option (ρ × St)} (hM : ∀ r σ', f = some (r, σ') → MetV (jl K) y ws rmc D cl tys w As σ r σ')
    (hG : GoodIn Ts (wsS own index y ws)) (hw : ws = Cond.code y bytes maxL ret :: ws') (hrm : rmc.cells = 0 ∧ rmc.slots = 0) (hdd : y.cls = own ∧ y.cls ≠ "java/lang/invoke/MethodHandle" ∧ y.cls ≠ "java/lang/invoke/VarHandle" ∧ (parseMethodDescriptor y.desc).map (fun d => d.parameters.length) = some n) (hR : rmc.frames + 1 ≤ rm.frames ∧ 8 + (maxL + 11) + rmc.locals ≤ rm.locals)
    (hn : As.length = n) (hst : st0 = As.reverse ++ st) (hroom : (st.map fun v => v.category).sum ≤ 8) (hcs : cs ≤ rm.cells ∧ sl ≤ rm.slots) (hd : decode cc pc = .ok (.invokestatic index, 3))
    (k : ∀ (r : Unit) (σ1 : St), J K D cl A nL w Q cs sl (pc + 3) lv (st) σ1 (g r σ1)) : J K D cl A nL w Q cs sl pc lv st0 σ (bd f g) := by
  intro r1 σ9 e1 H locs ls hP hD hS hl
  obtain ⟨r0, σ0, ef, eg⟩ := bd_some e1
  have hF := jx_free hD hS h.2.2.2.2.2.2.1
  have hRe := h.2.2.2.2.2.2.2.2.1
  refine va_callv (va_runS (As := As) (rest := st) (mc := 0) (ms := 0) ⟨h.1, h.2.1, h.2.2.1, h.2.2.2.1, h.2.2.2.2.1⟩ (hM r0 σ0 ef H.size) (cwS n h.2.2.2.2.1 hG hw hrm.1 hrm.2 hdd (by rw [hRe]; exact hR)) ⟨jx_blind, fun U hU hW => ⟨rfl, by rw [hU], by rw [hU]; exact hP, va_K.moved hW.alike h.2.2.2.2.2.1, hD.weaken (fun _ _ _ _ => trivial)⟩⟩ rfl hn hl.1 hst (lv_room hroom) hd (by rw [hRe]; exact hcs)) hS (fun q _ z => hF q z) hF (fun u t H1 locs1 ht hvm hw hB hz1 hk1 hS => ?_)
  subst hw
  obtain ⟨hP1, hK1, hD1⟩ := hB
  rw [ht] at hP1
  exact k _ _ _ _ eg H1 locs1 ls hP1 (hD1.weaken (fun _ q _ z => hF q.1 z)) hS hl
end JC
