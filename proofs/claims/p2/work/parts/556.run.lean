theorem pq_zM9 : pq_Wc 8300000 9 zM := by
  have c9 : pq_cI zM = 9 := rfl
  have t0 : pq_tI zM = 0 := rfl
  have pm : ∀ c, pq_pmI zM c = 0 := fun _ => rfl
  have b0 : pq_bI zM = 0 := rfl
  have v0 : pq_vaI zM = 0 := rfl
  have h0 : pq_heI zM = 0 := rfl
  have d0 : pq_tdI zM = 0 := rfl
  have i0 : pq_icI zM = 0 := rfl
  have p0 : ∀ c, pq_pI zM c = 0 := fun _ => rfl
  have u0 : ∀ c, aM_M_upward zM c = 0 := fun _ => rfl
  have s0 : gM_M_state zM = 0 := rfl
  refine ⟨⟨⟨by omega, by omega, by omega, by omega, fun t ht => absurd ht (by omega)⟩, ⟨fun c hc => ?_, fun c hc g => ?_, fun c hc k hk => ?_⟩, ⟨by omega, by omega, fun k hk => absurd hk (by omega)⟩, fun c _ => p0 c, fun h => h rfl, ⟨by omega, by omega⟩, ⟨by omega, by omega⟩, ⟨by omega, by omega⟩, ⟨by omega, by omega⟩, fun i hi => absurd hi (by omega), fun c _ => by rw [p0]; exact ⟨by decide, by decide⟩, fun _ => b0⟩, ⟨0, ⟨rfl, fun t => ⟨0, Nat.le_refl _, rfl⟩⟩, ?_⟩, c9⟩
  · have := pm c
    refine ⟨by omega, by omega, fun _ => this, fun k hk => absurd hk (by omega)⟩
  · rw [u0]
    refine ⟨fun h => absurd h pq_bt_zero, fun h => ?_⟩
    obtain ⟨k, hk, _⟩ := h
    have := pm c
    exact absurd hk (by omega)
  · have := pm c
    exact absurd hk (by omega)
  · rw [pq_Ph, v0, b0, h0, if_pos s0, pq_us0 v0]
    decide
theorem pq_zX0 : ∀ a : Nat, a ≠ 11 → ∀ i, zX.2.1 a i = 0 := by
  intro a ha i
  show (match a with | 11 => chain0 | _ => fun _ => (0 : Int32)) i = 0
  split
  · exact absurd rfl ha
  · rfl
theorem pq_zX9 : pq_XW 9 zX := by
  have t0 : pq_tz zX = 0 := rfl
  have z1 : pq_Zx zX = 1 := by rw [pq_Zx, t0]; rfl
  refine ⟨⟨⟨by omega, by omega, fun t ht => absurd ht (by omega)⟩, ⟨fun a ha i => ?_, fun c hc => ?_⟩, ⟨⟨by decide, by decide⟩, ⟨by decide, by decide⟩, ⟨by decide, by decide⟩, ⟨by decide, by decide⟩, ⟨by decide, by decide⟩, ⟨by decide, by decide⟩, fun i => ?_⟩, fun h => absurd h (by decide)⟩, rfl⟩
  · rw [pq_zX0 a (fun e => by subst e; exact absurd ha (by decide)) i, z1]; decide
  · rw [z1]
    revert c
    decide
  · rw [pq_zX0 0 (by decide) i]; decide
def pq_R (j : Nat) (σ : SX) (τ : SM) : Prop := ∃ c : Int, pq_XW c σ ∧ pq_Wc (8300000 + 8372000 * (j : Int)) c τ
theorem pq_stp (j : Nat) : (8300000 + 8372000 * (j : Int)) + pq_CC ≤ 8300000 + 8372000 * ((j + 1 : Nat) : Int) := by
  show (8300000 + 8372000 * (j : Int)) + 8372000 ≤ _
  omega
theorem pq_two {F : Option (Int32 × SX)} {G : Option (Int32 × SM)} {c : Int} {j : Nat} (hx : pq_Gx c F) (hm : pq_Go (8300000 + 8372000 * (j : Int) + pq_CC) c G) : ∃ (r s : Int32) (σ' : SX) (τ' : SM), F = some (r, σ') ∧ G = some (s, τ') ∧ pq_R (j + 1) σ' τ' := by
  obtain ⟨r, σ', e1, h1⟩ := hx
  obtain ⟨s, τ', e2, h2⟩ := hm
  exact ⟨r, s, σ', τ', e1, e2, c, h1, h2.le (pq_stp j)⟩
theorem pq_Go.u {G : Option (Int32 × SM)} {D c : Int} (h : pq_Go D c G) : pq_Go (D + pq_CC) c G :=
  pq_Tot.mono h (fun _ _ w => w.le (by show D ≤ D + 8372000; omega))
theorem pq_steps {j : Nat} (hj : j < 512) : StepsR 20003 (pq_R j) (pq_R (j + 1)) := by
  have n1 : 501 ≤ 20003 := by decide
  have n2 : 3000 ≤ 20003 := by decide
  have n3 : 20002 ≤ 20003 := by decide
  have n4 : 20003 ≤ 20003 := by decide
  have d1 : (8300000 + 8372000 * (j : Int)) + 100 < 4294967296 := by omega
  have d2 : (8300000 + 8372000 * (j : Int)) + pq_CC + 3000 < 4294967296 := by show (8300000 + 8372000 * (j : Int)) + 8372000 + 3000 < 4294967296; omega
  refine ⟨?_, ?_, ?_, ?_, ?_, ?_, ?_, ?_, ?_, ?_, ?_, ?_, ?_, ?_, ?_, ?_, ?_, ?_, ?_, ?_, ?_⟩
  · intro a σ τ h
    obtain ⟨c, hx, hm⟩ := h
    obtain ⟨r, σ', e1, h1, r1⟩ := pq_xdeclare hx a
    obtain ⟨s, τ', e2, h2, s1⟩ := pq_declare_go hm a
    obtain rfl : r = s := Int32.toInt_inj.1 (r1.trans s1.symm)
    exact ⟨r, σ', τ', e1, e2, _, h1, h2.le (by omega)⟩
  · intro a b σ τ h
    obtain ⟨c, hx, hm⟩ := h
    exact pq_two (pq_xparent n1 hx a b) (pq_parent_go n2 hm d1 a b)
  · intro a σ τ h
    obtain ⟨c, hx, hm⟩ := h
    exact pq_two (pq_xplain n1 hx a) (pq_Go.u (pq_plain_go n1 hm  a))
  · intro a b d σ τ h
    obtain ⟨c, hx, hm⟩ := h
    exact pq_two (pq_xof n1 hx a b d) (pq_Go.u (pq_of_go n1 hm  a b d))
  · intro a b σ τ h
    obtain ⟨c, hx, hm⟩ := h
    exact pq_two (pq_xwild n1 hx a b) (pq_Go.u (pq_wild_go n1 hm  a b))
  · intro a b σ τ h
    obtain ⟨c, hx, hm⟩ := h
    exact pq_two (pq_xparameter n1 hx a b) (pq_Go.u (pq_parameter_go n1 hm  a b))
  · intro a σ τ h
    obtain ⟨c, hx, hm⟩ := h
    exact pq_two (pq_xarray n1 hx a) (pq_Go.u (pq_array_go n1 hm  a))
  · intro a σ τ h
    obtain ⟨c, hx, hm⟩ := h
    exact pq_two (pq_xprimitive n1 hx a) (pq_Go.u (pq_primitive_go n1 hm  a))
  · intro  σ τ h
    obtain ⟨c, hx, hm⟩ := h
    exact pq_two (pq_xnothing n1 hx ) (pq_Go.u (pq_nothing_go n1 hm  ))
  · intro  σ τ h
    obtain ⟨c, hx, hm⟩ := h
    exact pq_two (pq_xvariable n1 hx ) (pq_variable_go n1 hm  )
  · intro a b d σ τ h
    obtain ⟨c, hx, hm⟩ := h
    exact pq_two (pq_xformula n4 hx a b d) (pq_formula_go n3 hm d2 a b d)
  · intro  σ τ h
    obtain ⟨c, hx, hm⟩ := h
    exact pq_two (pq_xresolve n4 hx ) (pq_resolve_go n3 hm d2 )
  · intro  σ τ h
    obtain ⟨c, hx, hm⟩ := h
    exact pq_two (pq_xclear  hx ) (pq_clear_go  hm  )
  · intro a σ τ h
    obtain ⟨c, hx, hm⟩ := h
    exact pq_two (pq_xcount  hx a) (pq_Go.u (pq_count_go  hm  a))
  · intro a b σ τ h
    obtain ⟨c, hx, hm⟩ := h
    exact pq_two (pq_xtype  hx a b) (pq_Go.u (pq_type_go  hm  a b))
  · intro a b σ τ h
    obtain ⟨c, hx, hm⟩ := h
    exact pq_two (pq_xbound  hx a b) (pq_Go.u (pq_bound_go  hm  a b))
  · intro a σ τ h
    obtain ⟨c, hx, hm⟩ := h
    exact pq_two (pq_xinstance n1 hx a) (pq_Go.u (pq_instance_go n1 hm  a))
  · intro a b σ τ h
    obtain ⟨c, hx, hm⟩ := h
    exact pq_two (pq_xabove n1 hx a b) (pq_above_go n2 hm d1 a b)
  · intro a σ τ h
    obtain ⟨c, hx, hm⟩ := h
    exact pq_two (pq_xunchecked  hx a) (pq_Go.u (pq_unchecked_go  hm  a))
  · intro a σ τ h
    obtain ⟨c, hx, hm⟩ := h
    exact pq_two (pq_xjudge n4 hx a) (pq_judge_go n3 hm d2 a)
  · intro σ τ h
    obtain ⟨c, hx, hm⟩ := h
    exact ⟨c, hx, hm.le (by omega)⟩
theorem pq_run {L : Nat} {xs : Nat → Int32} (hL : L ≤ 2048) : ∃ (n : Nat) (z' : SL), L_L_law_L18 20003 xs L n 0 (zX, zM) = some ((), z') := by
  obtain ⟨z', h⟩ := law_run (N := 20003) (L := L) (xs := xs) hL pq_R (fun j hj => pq_steps (by omega)) (L / 4) 0 zX zM (by omega) ⟨9, pq_zX9, pq_zM9.le (by omega)⟩
  exact ⟨_, z', h⟩
