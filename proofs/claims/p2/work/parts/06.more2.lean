section JN
variable {St ρ : Type} {K : jx_E} {D : va_G} {cl : List vw_C} {tys : List (ClassId × FieldType)} {A : Nat → Prop} {nL : Nat} {cc : ByteArray} {own : String} {Ts : List Cond} {rm : Room} {rt : Option FieldType} {w : St → va_W} {Q : ρ → St → State → Prop} {cs sl : Nat} {pc : Nat} {lv : List (Nat × Value)} {st : List Value} {σ : St} {F F1 F2 : Option (ρ × St)}
theorem J_iushr (h : jx_ok K D cl tys A nL cc own Ts rm rt) {x y : Int32} (hd : decode cc pc = .ok (.iushr, 1)) (k : J K D cl A nL w Q cs sl (pc + 1) lv (.int ((x.toUInt32 >>> (y.toUInt32 &&& Int32.toUInt32 31)).toInt32) :: st) σ F) : J K D cl A nL w Q cs sl pc lv (.int y :: .int x :: st) σ F :=
  fun r σ' e H locs ls hP hD hS hl => lv_iushr h.1 h.2.1 hd rfl (k r σ' e H locs ls hP hD hS hl)
theorem J_ldcw (h : jx_ok K D cl tys A nL cc own Ts rm rt) {index : Nat} {v : Int32} (hd : decode cc pc = .ok (.ldc_w index, 3)) (hw : Cond.constant own index v ∈ Ts) (k : J K D cl A nL w Q cs sl (pc + 3) lv (.int v :: st) σ F) : J K D cl A nL w Q cs sl pc lv st σ F :=
  fun r σ' e H locs ls hP hD hS hl => lv_ldcw h.1 h.2.1 h.2.2.2.1 (h.2.2.2.2.1 _ hw) hd (k r σ' e H locs ls hP hD hS hl)
end JN
section JO
variable {St ρ : Type} {K : jx_E} {D : va_G} {cl : List vw_C} {tys : List (ClassId × FieldType)} {A : Nat → Prop} {nL : Nat} {cc : ByteArray} {own : String} {Ts : List Cond} {rm : Room} {rt : Option FieldType} {w : St → va_W} {Q : ρ → St → State → Prop} {cs sl : Nat} {pc : Nat} {lv : List (Nat × Value)} {st : List Value} {σ : St}
theorem jx_metIL {l : Launch} {y : MethodName} {ws ws' : List Cond} {vs : List Value} {F : Option (Int32 × St)} {r : Int32} {σ' : St} (hy : plainName y.cls = true) (hw : ws = Cond.code y cc nL rt :: ws') (hlen : (lg_sl vs).length ≤ nL) (body : ∀ (K : jx_E) (A : Nat → Prop), jl K = l → jx_ok K D cl tys A nL cc y.cls ws rm rt → J K D cl A nL w (jx_Qi K D cl tys w A) 0 0 0 (lv_args 0 vs) [] σ F) (hF : F = some (r, σ')) : MetI l y ws rm D cl tys w vs σ r σ' := by
  intro sz
  refine Met.ofW (cc := cc) (maxL := nL) (ret := rt) hy hw ?_
  intro p e s m args below meth c s₁ B hml hv
  have hok := jx_start (ws' := ws') B hml hv
  obtain ⟨rfl, hsz, hP, hK, hD0⟩ := hv
  rw [lg_entry_eq]
  exact body _ _ rfl hok r σ' hF s.heap [] _ hP hD0.self va_S.rf (lv_entry vs hlen)
end JO
