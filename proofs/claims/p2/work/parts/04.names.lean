/-! names: the classes' fields, the methods -/
def T_Bounds : u_T := fun k => match k with
  | 0 => ("InferReduce$Bounds", "sort", "[I", true)
  | 1 => ("InferReduce$Bounds", "variable", "[I", true)
  | 2 => ("InferReduce$Bounds", "type", "[I", true)
  | 3 => ("InferReduce$Bounds", "origin", "[I", true)
  | _ => ("InferReduce$Bounds", "size", "I", false)
def ft_Bounds : Nat → FieldType := fun k => match k with
  | 0 => .array .int
  | 1 => .array .int
  | 2 => .array .int
  | 3 => .array .int
  | _ => .int
theorem nm_Bounds : ∀ a, a < 5 → ∀ b, b < 5 → a ≠ b → (T_Bounds a).2.1 ≠ (T_Bounds b).2.1 := by decide +kernel
theorem ft_Bounds_ok : ∀ k, k < 5 → parseFieldDescriptor (T_Bounds k).2.2.1 = some (ft_Bounds k) := by decide +kernel
theorem in_Bounds_0 : u_lay "InferReduce$Bounds" T_Bounds 0 ∈ tblG := tb_1 113 rfl rfl
theorem in_Bounds_1 : u_lay "InferReduce$Bounds" T_Bounds 1 ∈ tblG := tb_1 115 rfl rfl
theorem in_Bounds_2 : u_lay "InferReduce$Bounds" T_Bounds 2 ∈ tblG := tb_1 117 rfl rfl
theorem in_Bounds_3 : u_lay "InferReduce$Bounds" T_Bounds 3 ∈ tblG := tb_1 119 rfl rfl
theorem in_Bounds_4 : u_lay "InferReduce$Bounds" T_Bounds 4 ∈ tblG := tb_1 121 rfl rfl
theorem in_Bounds : ∀ x ∈ u_ws "InferReduce$Bounds" T_Bounds 5, x ∈ tblG := by
  intro x hx
  obtain ⟨k, hk, rfl⟩ := List.mem_map.mp hx
  have hk := List.mem_range.mp hk
  match k, hk with
  | 0, _ => exact in_Bounds_0
  | 1, _ => exact in_Bounds_1
  | 2, _ => exact in_Bounds_2
  | 3, _ => exact in_Bounds_3
  | 4, _ => exact in_Bounds_4
  | k + 5, h => exact absurd h (by omega)
def T_Classes : u_T := fun k => match k with
  | 0 => ("InferReduce$Classes", "parameters", "[I", true)
  | 1 => ("InferReduce$Classes", "parentCount", "[I", true)
  | 2 => ("InferReduce$Classes", "parentType", "[I", true)
  | 3 => ("InferReduce$Classes", "parentClass", "[I", true)
  | 4 => ("InferReduce$Classes", "reach", "[J", true)
  | _ => ("InferReduce$Classes", "size", "I", false)
def ft_Classes : Nat → FieldType := fun k => match k with
  | 0 => .array .int
  | 1 => .array .int
  | 2 => .array .int
  | 3 => .array .int
  | 4 => .array .long
  | _ => .int
theorem nm_Classes : ∀ a, a < 6 → ∀ b, b < 6 → a ≠ b → (T_Classes a).2.1 ≠ (T_Classes b).2.1 := by decide +kernel
theorem ft_Classes_ok : ∀ k, k < 6 → parseFieldDescriptor (T_Classes k).2.2.1 = some (ft_Classes k) := by decide +kernel
theorem in_Classes_0 : u_lay "InferReduce$Classes" T_Classes 0 ∈ tblG := tb_1 37 rfl rfl
theorem in_Classes_1 : u_lay "InferReduce$Classes" T_Classes 1 ∈ tblG := tb_1 39 rfl rfl
theorem in_Classes_2 : u_lay "InferReduce$Classes" T_Classes 2 ∈ tblG := tb_1 41 rfl rfl
theorem in_Classes_3 : u_lay "InferReduce$Classes" T_Classes 3 ∈ tblG := tb_1 43 rfl rfl
theorem in_Classes_4 : u_lay "InferReduce$Classes" T_Classes 4 ∈ tblG := tb_1 45 rfl rfl
theorem in_Classes_5 : u_lay "InferReduce$Classes" T_Classes 5 ∈ tblG := tb_1 47 rfl rfl
theorem in_Classes : ∀ x ∈ u_ws "InferReduce$Classes" T_Classes 6, x ∈ tblG := by
  intro x hx
  obtain ⟨k, hk, rfl⟩ := List.mem_map.mp hx
  have hk := List.mem_range.mp hk
  match k, hk with
  | 0, _ => exact in_Classes_0
  | 1, _ => exact in_Classes_1
  | 2, _ => exact in_Classes_2
  | 3, _ => exact in_Classes_3
  | 4, _ => exact in_Classes_4
  | 5, _ => exact in_Classes_5
  | k + 6, h => exact absurd h (by omega)
def T_Exchange : u_T := fun k => match k with
  | 0 => ("InferReduce$Exchange", "types", "LInferReduce$Types;", true)
  | 1 => ("InferReduce$Exchange", "instead", "[I", true)
  | 2 => ("InferReduce$Exchange", "done", "[I", true)
  | 3 => ("InferReduce$Exchange", "doneAt", "[I", true)
  | 4 => ("InferReduce$Exchange", "stamp", "I", false)
  | 5 => ("InferReduce$Exchange", "variables", "I", false)
  | _ => ("InferReduce$Exchange", "owner", "I", false)
def ft_Exchange : Nat → FieldType := fun k => match k with
  | 0 => .object "InferReduce$Types"
  | 1 => .array .int
  | 2 => .array .int
  | 3 => .array .int
  | 4 => .int
  | 5 => .int
  | _ => .int
theorem nm_Exchange : ∀ a, a < 7 → ∀ b, b < 7 → a ≠ b → (T_Exchange a).2.1 ≠ (T_Exchange b).2.1 := by decide +kernel
theorem ft_Exchange_ok : ∀ k, k < 7 → parseFieldDescriptor (T_Exchange k).2.2.1 = some (ft_Exchange k) := by decide +kernel
theorem in_Exchange_0 : u_lay "InferReduce$Exchange" T_Exchange 0 ∈ tblG := tb_1 137 rfl rfl
theorem in_Exchange_1 : u_lay "InferReduce$Exchange" T_Exchange 1 ∈ tblG := tb_1 139 rfl rfl
theorem in_Exchange_2 : u_lay "InferReduce$Exchange" T_Exchange 2 ∈ tblG := tb_1 141 rfl rfl
theorem in_Exchange_3 : u_lay "InferReduce$Exchange" T_Exchange 3 ∈ tblG := tb_1 143 rfl rfl
theorem in_Exchange_4 : u_lay "InferReduce$Exchange" T_Exchange 4 ∈ tblG := tb_1 145 rfl rfl
theorem in_Exchange_5 : u_lay "InferReduce$Exchange" T_Exchange 5 ∈ tblG := tb_1 147 rfl rfl
theorem in_Exchange_6 : u_lay "InferReduce$Exchange" T_Exchange 6 ∈ tblG := tb_1 149 rfl rfl
theorem in_Exchange : ∀ x ∈ u_ws "InferReduce$Exchange" T_Exchange 7, x ∈ tblG := by
  intro x hx
  obtain ⟨k, hk, rfl⟩ := List.mem_map.mp hx
  have hk := List.mem_range.mp hk
  match k, hk with
  | 0, _ => exact in_Exchange_0
  | 1, _ => exact in_Exchange_1
  | 2, _ => exact in_Exchange_2
  | 3, _ => exact in_Exchange_3
  | 4, _ => exact in_Exchange_4
  | 5, _ => exact in_Exchange_5
  | 6, _ => exact in_Exchange_6
  | k + 7, h => exact absurd h (by omega)
def T_Holder : u_T := fun k => match k with
  | 0 => ("InferReduce$Holder", "classes", "LInferReduce$Classes;", true)
  | 1 => ("InferReduce$Holder", "types", "LInferReduce$Types;", true)
  | 2 => ("InferReduce$Holder", "bounds", "LInferReduce$Bounds;", true)
  | 3 => ("InferReduce$Holder", "exchange", "LInferReduce$Exchange;", true)
  | 4 => ("InferReduce$Holder", "reducer", "LInferReduce$Reducer;", true)
  | 5 => ("InferReduce$Holder", "variableTypes", "[I", true)
  | _ => ("InferReduce$Holder", "held", "I", false)
def ft_Holder : Nat → FieldType := fun k => match k with
  | 0 => .object "InferReduce$Classes"
  | 1 => .object "InferReduce$Types"
  | 2 => .object "InferReduce$Bounds"
  | 3 => .object "InferReduce$Exchange"
  | 4 => .object "InferReduce$Reducer"
  | 5 => .array .int
  | _ => .int
theorem nm_Holder : ∀ a, a < 7 → ∀ b, b < 7 → a ≠ b → (T_Holder a).2.1 ≠ (T_Holder b).2.1 := by decide +kernel
theorem ft_Holder_ok : ∀ k, k < 7 → parseFieldDescriptor (T_Holder k).2.2.1 = some (ft_Holder k) := by decide +kernel
theorem in_Holder_0 : u_lay "InferReduce$Holder" T_Holder 0 ∈ tblG := tb_2 2 rfl rfl
theorem in_Holder_1 : u_lay "InferReduce$Holder" T_Holder 1 ∈ tblG := tb_2 4 rfl rfl
theorem in_Holder_2 : u_lay "InferReduce$Holder" T_Holder 2 ∈ tblG := tb_2 6 rfl rfl
theorem in_Holder_3 : u_lay "InferReduce$Holder" T_Holder 3 ∈ tblG := tb_2 8 rfl rfl
theorem in_Holder_4 : u_lay "InferReduce$Holder" T_Holder 4 ∈ tblG := tb_2 10 rfl rfl
theorem in_Holder_5 : u_lay "InferReduce$Holder" T_Holder 5 ∈ tblG := tb_2 12 rfl rfl
theorem in_Holder_6 : u_lay "InferReduce$Holder" T_Holder 6 ∈ tblG := tb_2 14 rfl rfl
theorem in_Holder : ∀ x ∈ u_ws "InferReduce$Holder" T_Holder 7, x ∈ tblG := by
  intro x hx
  obtain ⟨k, hk, rfl⟩ := List.mem_map.mp hx
  have hk := List.mem_range.mp hk
  match k, hk with
  | 0, _ => exact in_Holder_0
  | 1, _ => exact in_Holder_1
  | 2, _ => exact in_Holder_2
  | 3, _ => exact in_Holder_3
  | 4, _ => exact in_Holder_4
  | 5, _ => exact in_Holder_5
  | 6, _ => exact in_Holder_6
  | k + 7, h => exact absurd h (by omega)
def T_Reducer : u_T := fun k => match k with
  | 0 => ("InferReduce$Reducer", "classes", "LInferReduce$Classes;", true)
  | 1 => ("InferReduce$Reducer", "types", "LInferReduce$Types;", true)
  | 2 => ("InferReduce$Reducer", "bounds", "LInferReduce$Bounds;", true)
  | 3 => ("InferReduce$Reducer", "exchange", "LInferReduce$Exchange;", true)
  | 4 => ("InferReduce$Reducer", "work", "LInferReduce$Work;", true)
  | 5 => ("InferReduce$Reducer", "made", "I", false)
  | 6 => ("InferReduce$Reducer", "madeInCall", "I", false)
  | 7 => ("InferReduce$Reducer", "origin", "I", false)
  | _ => ("InferReduce$Reducer", "sawUnchecked", "Z", false)
def ft_Reducer : Nat → FieldType := fun k => match k with
  | 0 => .object "InferReduce$Classes"
  | 1 => .object "InferReduce$Types"
  | 2 => .object "InferReduce$Bounds"
  | 3 => .object "InferReduce$Exchange"
  | 4 => .object "InferReduce$Work"
  | 5 => .int
  | 6 => .int
  | 7 => .int
  | _ => .boolean
theorem nm_Reducer : ∀ a, a < 9 → ∀ b, b < 9 → a ≠ b → (T_Reducer a).2.1 ≠ (T_Reducer b).2.1 := by decide +kernel
theorem ft_Reducer_ok : ∀ k, k < 9 → parseFieldDescriptor (T_Reducer k).2.2.1 = some (ft_Reducer k) := by decide +kernel
theorem in_Reducer_0 : u_lay "InferReduce$Reducer" T_Reducer 0 ∈ tblG := tb_1 209 rfl rfl
theorem in_Reducer_1 : u_lay "InferReduce$Reducer" T_Reducer 1 ∈ tblG := tb_1 211 rfl rfl
theorem in_Reducer_2 : u_lay "InferReduce$Reducer" T_Reducer 2 ∈ tblG := tb_1 213 rfl rfl
theorem in_Reducer_3 : u_lay "InferReduce$Reducer" T_Reducer 3 ∈ tblG := tb_1 215 rfl rfl
theorem in_Reducer_4 : u_lay "InferReduce$Reducer" T_Reducer 4 ∈ tblG := tb_1 217 rfl rfl
theorem in_Reducer_5 : u_lay "InferReduce$Reducer" T_Reducer 5 ∈ tblG := tb_1 219 rfl rfl
theorem in_Reducer_6 : u_lay "InferReduce$Reducer" T_Reducer 6 ∈ tblG := tb_1 221 rfl rfl
theorem in_Reducer_7 : u_lay "InferReduce$Reducer" T_Reducer 7 ∈ tblG := tb_1 223 rfl rfl
theorem in_Reducer_8 : u_lay "InferReduce$Reducer" T_Reducer 8 ∈ tblG := tb_1 225 rfl rfl
theorem in_Reducer : ∀ x ∈ u_ws "InferReduce$Reducer" T_Reducer 9, x ∈ tblG := by
  intro x hx
  obtain ⟨k, hk, rfl⟩ := List.mem_map.mp hx
  have hk := List.mem_range.mp hk
  match k, hk with
  | 0, _ => exact in_Reducer_0
  | 1, _ => exact in_Reducer_1
  | 2, _ => exact in_Reducer_2
  | 3, _ => exact in_Reducer_3
  | 4, _ => exact in_Reducer_4
  | 5, _ => exact in_Reducer_5
  | 6, _ => exact in_Reducer_6
  | 7, _ => exact in_Reducer_7
  | 8, _ => exact in_Reducer_8
  | k + 9, h => exact absurd h (by omega)
def T_Resolver : u_T := fun k => match k with
  | 0 => ("InferReduce$Resolver", "classes", "LInferReduce$Classes;", true)
  | 1 => ("InferReduce$Resolver", "types", "LInferReduce$Types;", true)
  | 2 => ("InferReduce$Resolver", "bounds", "LInferReduce$Bounds;", true)
  | 3 => ("InferReduce$Resolver", "reducer", "LInferReduce$Reducer;", true)
  | 4 => ("InferReduce$Resolver", "near", "[I", true)
  | 5 => ("InferReduce$Resolver", "nearSize", "I", false)
  | 6 => ("InferReduce$Resolver", "links", "[I", true)
  | _ => ("InferReduce$Resolver", "choices", "[I", true)
def ft_Resolver : Nat → FieldType := fun k => match k with
  | 0 => .object "InferReduce$Classes"
  | 1 => .object "InferReduce$Types"
  | 2 => .object "InferReduce$Bounds"
  | 3 => .object "InferReduce$Reducer"
  | 4 => .array .int
  | 5 => .int
  | 6 => .array .int
  | _ => .array .int
theorem nm_Resolver : ∀ a, a < 8 → ∀ b, b < 8 → a ≠ b → (T_Resolver a).2.1 ≠ (T_Resolver b).2.1 := by decide +kernel
theorem ft_Resolver_ok : ∀ k, k < 8 → parseFieldDescriptor (T_Resolver k).2.2.1 = some (ft_Resolver k) := by decide +kernel
theorem in_Resolver_0 : u_lay "InferReduce$Resolver" T_Resolver 0 ∈ tblG := tb_2 31 rfl rfl
theorem in_Resolver_1 : u_lay "InferReduce$Resolver" T_Resolver 1 ∈ tblG := tb_2 33 rfl rfl
theorem in_Resolver_2 : u_lay "InferReduce$Resolver" T_Resolver 2 ∈ tblG := tb_2 35 rfl rfl
theorem in_Resolver_3 : u_lay "InferReduce$Resolver" T_Resolver 3 ∈ tblG := tb_2 37 rfl rfl
theorem in_Resolver_4 : u_lay "InferReduce$Resolver" T_Resolver 4 ∈ tblG := tb_2 39 rfl rfl
theorem in_Resolver_5 : u_lay "InferReduce$Resolver" T_Resolver 5 ∈ tblG := tb_2 41 rfl rfl
theorem in_Resolver_6 : u_lay "InferReduce$Resolver" T_Resolver 6 ∈ tblG := tb_2 43 rfl rfl
theorem in_Resolver_7 : u_lay "InferReduce$Resolver" T_Resolver 7 ∈ tblG := tb_2 45 rfl rfl
theorem in_Resolver : ∀ x ∈ u_ws "InferReduce$Resolver" T_Resolver 8, x ∈ tblG := by
  intro x hx
  obtain ⟨k, hk, rfl⟩ := List.mem_map.mp hx
  have hk := List.mem_range.mp hk
  match k, hk with
  | 0, _ => exact in_Resolver_0
  | 1, _ => exact in_Resolver_1
  | 2, _ => exact in_Resolver_2
  | 3, _ => exact in_Resolver_3
  | 4, _ => exact in_Resolver_4
  | 5, _ => exact in_Resolver_5
  | 6, _ => exact in_Resolver_6
  | 7, _ => exact in_Resolver_7
  | k + 8, h => exact absurd h (by omega)
def T_Told : u_T := fun k => match k with
  | 0 => ("InferReduce$Told", "sort", "[I", true)
  | 1 => ("InferReduce$Told", "left", "[I", true)
  | 2 => ("InferReduce$Told", "right", "[I", true)
  | 3 => ("InferReduce$Told", "loose", "[Z", true)
  | _ => ("InferReduce$Told", "size", "I", false)
def ft_Told : Nat → FieldType := fun k => match k with
  | 0 => .array .int
  | 1 => .array .int
  | 2 => .array .int
  | 3 => .array .boolean
  | _ => .int
theorem nm_Told : ∀ a, a < 5 → ∀ b, b < 5 → a ≠ b → (T_Told a).2.1 ≠ (T_Told b).2.1 := by decide +kernel
theorem ft_Told_ok : ∀ k, k < 5 → parseFieldDescriptor (T_Told k).2.2.1 = some (ft_Told k) := by decide +kernel
theorem in_Told_0 : u_lay "InferReduce$Told" T_Told 0 ∈ tblG := tb_2 60 rfl rfl
theorem in_Told_1 : u_lay "InferReduce$Told" T_Told 1 ∈ tblG := tb_2 62 rfl rfl
theorem in_Told_2 : u_lay "InferReduce$Told" T_Told 2 ∈ tblG := tb_2 64 rfl rfl
theorem in_Told_3 : u_lay "InferReduce$Told" T_Told 3 ∈ tblG := tb_2 66 rfl rfl
theorem in_Told_4 : u_lay "InferReduce$Told" T_Told 4 ∈ tblG := tb_2 68 rfl rfl
theorem in_Told : ∀ x ∈ u_ws "InferReduce$Told" T_Told 5, x ∈ tblG := by
  intro x hx
  obtain ⟨k, hk, rfl⟩ := List.mem_map.mp hx
  have hk := List.mem_range.mp hk
  match k, hk with
  | 0, _ => exact in_Told_0
  | 1, _ => exact in_Told_1
  | 2, _ => exact in_Told_2
  | 3, _ => exact in_Told_3
  | 4, _ => exact in_Told_4
  | k + 5, h => exact absurd h (by omega)
def T_Types : u_T := fun k => match k with
  | 0 => ("InferReduce$Types", "kind", "[I", true)
  | 1 => ("InferReduce$Types", "first", "[I", true)
  | 2 => ("InferReduce$Types", "second", "[I", true)
  | 3 => ("InferReduce$Types", "third", "[I", true)
  | 4 => ("InferReduce$Types", "depth", "[I", true)
  | 5 => ("InferReduce$Types", "kinds", "[I", true)
  | 6 => ("InferReduce$Types", "variables", "[I", true)
  | 7 => ("InferReduce$Types", "owners", "[J", true)
  | 8 => ("InferReduce$Types", "named", "[J", true)
  | 9 => ("InferReduce$Types", "chainFirst", "[I", true)
  | 10 => ("InferReduce$Types", "chainNext", "[I", true)
  | _ => ("InferReduce$Types", "size", "I", false)
def ft_Types : Nat → FieldType := fun k => match k with
  | 0 => .array .int
  | 1 => .array .int
  | 2 => .array .int
  | 3 => .array .int
  | 4 => .array .int
  | 5 => .array .int
  | 6 => .array .int
  | 7 => .array .long
  | 8 => .array .long
  | 9 => .array .int
  | 10 => .array .int
  | _ => .int
theorem nm_Types : ∀ a, a < 12 → ∀ b, b < 12 → a ≠ b → (T_Types a).2.1 ≠ (T_Types b).2.1 := by decide +kernel
theorem ft_Types_ok : ∀ k, k < 12 → parseFieldDescriptor (T_Types k).2.2.1 = some (ft_Types k) := by decide +kernel
theorem in_Types_0 : u_lay "InferReduce$Types" T_Types 0 ∈ tblG := tb_1 74 rfl rfl
theorem in_Types_1 : u_lay "InferReduce$Types" T_Types 1 ∈ tblG := tb_1 76 rfl rfl
theorem in_Types_2 : u_lay "InferReduce$Types" T_Types 2 ∈ tblG := tb_1 78 rfl rfl
theorem in_Types_3 : u_lay "InferReduce$Types" T_Types 3 ∈ tblG := tb_1 80 rfl rfl
theorem in_Types_4 : u_lay "InferReduce$Types" T_Types 4 ∈ tblG := tb_1 82 rfl rfl
theorem in_Types_5 : u_lay "InferReduce$Types" T_Types 5 ∈ tblG := tb_1 84 rfl rfl
theorem in_Types_6 : u_lay "InferReduce$Types" T_Types 6 ∈ tblG := tb_1 86 rfl rfl
theorem in_Types_7 : u_lay "InferReduce$Types" T_Types 7 ∈ tblG := tb_1 88 rfl rfl
theorem in_Types_8 : u_lay "InferReduce$Types" T_Types 8 ∈ tblG := tb_1 90 rfl rfl
theorem in_Types_9 : u_lay "InferReduce$Types" T_Types 9 ∈ tblG := tb_1 92 rfl rfl
theorem in_Types_10 : u_lay "InferReduce$Types" T_Types 10 ∈ tblG := tb_1 94 rfl rfl
theorem in_Types_11 : u_lay "InferReduce$Types" T_Types 11 ∈ tblG := tb_1 96 rfl rfl
theorem in_Types : ∀ x ∈ u_ws "InferReduce$Types" T_Types 12, x ∈ tblG := by
  intro x hx
  obtain ⟨k, hk, rfl⟩ := List.mem_map.mp hx
  have hk := List.mem_range.mp hk
  match k, hk with
  | 0, _ => exact in_Types_0
  | 1, _ => exact in_Types_1
  | 2, _ => exact in_Types_2
  | 3, _ => exact in_Types_3
  | 4, _ => exact in_Types_4
  | 5, _ => exact in_Types_5
  | 6, _ => exact in_Types_6
  | 7, _ => exact in_Types_7
  | 8, _ => exact in_Types_8
  | 9, _ => exact in_Types_9
  | 10, _ => exact in_Types_10
  | 11, _ => exact in_Types_11
  | k + 12, h => exact absurd h (by omega)
def T_Work : u_T := fun k => match k with
  | 0 => ("InferReduce$Work", "sorts", "[I", true)
  | 1 => ("InferReduce$Work", "lefts", "[I", true)
  | 2 => ("InferReduce$Work", "rights", "[I", true)
  | 3 => ("InferReduce$Work", "levels", "[I", true)
  | 4 => ("InferReduce$Work", "size", "I", false)
  | 5 => ("InferReduce$Work", "sort", "I", false)
  | 6 => ("InferReduce$Work", "left", "I", false)
  | 7 => ("InferReduce$Work", "right", "I", false)
  | _ => ("InferReduce$Work", "level", "I", false)
def ft_Work : Nat → FieldType := fun k => match k with
  | 0 => .array .int
  | 1 => .array .int
  | 2 => .array .int
  | 3 => .array .int
  | 4 => .int
  | 5 => .int
  | 6 => .int
  | 7 => .int
  | _ => .int
theorem nm_Work : ∀ a, a < 9 → ∀ b, b < 9 → a ≠ b → (T_Work a).2.1 ≠ (T_Work b).2.1 := by decide +kernel
theorem ft_Work_ok : ∀ k, k < 9 → parseFieldDescriptor (T_Work k).2.2.1 = some (ft_Work k) := by decide +kernel
theorem in_Work_0 : u_lay "InferReduce$Work" T_Work 0 ∈ tblG := tb_1 178 rfl rfl
theorem in_Work_1 : u_lay "InferReduce$Work" T_Work 1 ∈ tblG := tb_1 180 rfl rfl
theorem in_Work_2 : u_lay "InferReduce$Work" T_Work 2 ∈ tblG := tb_1 182 rfl rfl
theorem in_Work_3 : u_lay "InferReduce$Work" T_Work 3 ∈ tblG := tb_1 184 rfl rfl
theorem in_Work_4 : u_lay "InferReduce$Work" T_Work 4 ∈ tblG := tb_1 186 rfl rfl
theorem in_Work_5 : u_lay "InferReduce$Work" T_Work 5 ∈ tblG := tb_1 188 rfl rfl
theorem in_Work_6 : u_lay "InferReduce$Work" T_Work 6 ∈ tblG := tb_1 190 rfl rfl
theorem in_Work_7 : u_lay "InferReduce$Work" T_Work 7 ∈ tblG := tb_1 192 rfl rfl
theorem in_Work_8 : u_lay "InferReduce$Work" T_Work 8 ∈ tblG := tb_1 194 rfl rfl
theorem in_Work : ∀ x ∈ u_ws "InferReduce$Work" T_Work 9, x ∈ tblG := by
  intro x hx
  obtain ⟨k, hk, rfl⟩ := List.mem_map.mp hx
  have hk := List.mem_range.mp hk
  match k, hk with
  | 0, _ => exact in_Work_0
  | 1, _ => exact in_Work_1
  | 2, _ => exact in_Work_2
  | 3, _ => exact in_Work_3
  | 4, _ => exact in_Work_4
  | 5, _ => exact in_Work_5
  | 6, _ => exact in_Work_6
  | 7, _ => exact in_Work_7
  | 8, _ => exact in_Work_8
  | k + 9, h => exact absurd h (by omega)
def T_I : u_T := fun k => match k with
  | 0 => ("InferReduce", "classes", "LInferReduce$Classes;", true)
  | 1 => ("InferReduce", "types", "LInferReduce$Types;", true)
  | 2 => ("InferReduce", "bounds", "LInferReduce$Bounds;", true)
  | 3 => ("InferReduce", "reducer", "LInferReduce$Reducer;", true)
  | 4 => ("InferReduce", "holder", "LInferReduce$Holder;", true)
  | 5 => ("InferReduce", "resolver", "LInferReduce$Resolver;", true)
  | 6 => ("InferReduce", "told", "LInferReduce$Told;", true)
  | 7 => ("InferReduce", "variableTypes", "[I", true)
  | 8 => ("InferReduce", "variables", "I", false)
  | 9 => ("InferReduce", "state", "I", false)
  | _ => ("InferReduce", "stateAt", "I", false)
def ft_I : Nat → FieldType := fun k => match k with
  | 0 => .object "InferReduce$Classes"
  | 1 => .object "InferReduce$Types"
  | 2 => .object "InferReduce$Bounds"
  | 3 => .object "InferReduce$Reducer"
  | 4 => .object "InferReduce$Holder"
  | 5 => .object "InferReduce$Resolver"
  | 6 => .object "InferReduce$Told"
  | 7 => .array .int
  | 8 => .int
  | 9 => .int
  | _ => .int
theorem nm_I : ∀ a, a < 11 → ∀ b, b < 11 → a ≠ b → (T_I a).2.1 ≠ (T_I b).2.1 := by decide +kernel
theorem ft_I_ok : ∀ k, k < 11 → parseFieldDescriptor (T_I k).2.2.1 = some (ft_I k) := by decide +kernel
theorem in_I_0 : u_lay "InferReduce" T_I 0 ∈ tblG := tb_2 83 rfl rfl
theorem in_I_1 : u_lay "InferReduce" T_I 1 ∈ tblG := tb_2 85 rfl rfl
theorem in_I_2 : u_lay "InferReduce" T_I 2 ∈ tblG := tb_2 87 rfl rfl
theorem in_I_3 : u_lay "InferReduce" T_I 3 ∈ tblG := tb_2 89 rfl rfl
theorem in_I_4 : u_lay "InferReduce" T_I 4 ∈ tblG := tb_2 91 rfl rfl
theorem in_I_5 : u_lay "InferReduce" T_I 5 ∈ tblG := tb_2 93 rfl rfl
theorem in_I_6 : u_lay "InferReduce" T_I 6 ∈ tblG := tb_2 95 rfl rfl
theorem in_I_7 : u_lay "InferReduce" T_I 7 ∈ tblG := tb_2 97 rfl rfl
theorem in_I_8 : u_lay "InferReduce" T_I 8 ∈ tblG := tb_2 99 rfl rfl
theorem in_I_9 : u_lay "InferReduce" T_I 9 ∈ tblG := tb_2 101 rfl rfl
theorem in_I_10 : u_lay "InferReduce" T_I 10 ∈ tblG := tb_2 103 rfl rfl
theorem in_I : ∀ x ∈ u_ws "InferReduce" T_I 11, x ∈ tblG := by
  intro x hx
  obtain ⟨k, hk, rfl⟩ := List.mem_map.mp hx
  have hk := List.mem_range.mp hk
  match k, hk with
  | 0, _ => exact in_I_0
  | 1, _ => exact in_I_1
  | 2, _ => exact in_I_2
  | 3, _ => exact in_I_3
  | 4, _ => exact in_I_4
  | 5, _ => exact in_I_5
  | 6, _ => exact in_I_6
  | 7, _ => exact in_I_7
  | 8, _ => exact in_I_8
  | 9, _ => exact in_I_9
  | 10, _ => exact in_I_10
  | k + 11, h => exact absurd h (by omega)
def T_M : u_T := fun k => match k with
  | 0 => ("InferReduceModel", "parameters", "[I", true)
  | 1 => ("InferReduceModel", "parents", "[I", true)
  | 2 => ("InferReduceModel", "parentMany", "[I", true)
  | 3 => ("InferReduceModel", "upward", "[J", true)
  | 4 => ("InferReduceModel", "classes", "I", false)
  | 5 => ("InferReduceModel", "kind", "[I", true)
  | 6 => ("InferReduceModel", "one", "[I", true)
  | 7 => ("InferReduceModel", "two", "[I", true)
  | 8 => ("InferReduceModel", "three", "[I", true)
  | 9 => ("InferReduceModel", "deep", "[I", true)
  | 10 => ("InferReduceModel", "proper", "[Z", true)
  | 11 => ("InferReduceModel", "types", "I", false)
  | 12 => ("InferReduceModel", "full", "Z", false)
  | 13 => ("InferReduceModel", "todo", "[I", true)
  | 14 => ("InferReduceModel", "todoMore", "[I", true)
  | 15 => ("InferReduceModel", "todoFlag", "[I", true)
  | 16 => ("InferReduceModel", "todos", "I", false)
  | 17 => ("InferReduceModel", "variables", "I", false)
  | 18 => ("InferReduceModel", "workType", "[I", true)
  | 19 => ("InferReduceModel", "workStage", "[I", true)
  | 20 => ("InferReduceModel", "workFirst", "[I", true)
  | 21 => ("InferReduceModel", "inPlace", "[I", true)
  | 22 => ("InferReduceModel", "became", "[I", true)
  | 23 => ("InferReduceModel", "seen", "[I", true)
  | 24 => ("InferReduceModel", "looks", "I", false)
  | 25 => ("InferReduceModel", "aboveType", "[I", true)
  | 26 => ("InferReduceModel", "aboveMore", "[I", true)
  | 27 => ("InferReduceModel", "aboveFlag", "[I", true)
  | 28 => ("InferReduceModel", "aboves", "I", false)
  | 29 => ("InferReduceModel", "lessSort", "[I", true)
  | 30 => ("InferReduceModel", "lessLeft", "[I", true)
  | 31 => ("InferReduceModel", "lessRight", "[I", true)
  | 32 => ("InferReduceModel", "lessDeep", "[I", true)
  | 33 => ("InferReduceModel", "lesses", "I", false)
  | 34 => ("InferReduceModel", "deepNow", "I", false)
  | 35 => ("InferReduceModel", "inCall", "I", false)
  | 36 => ("InferReduceModel", "madeLess", "I", false)
  | 37 => ("InferReduceModel", "judging", "Z", false)
  | 38 => ("InferReduceModel", "metVariable", "Z", false)
  | 39 => ("InferReduceModel", "isUnchecked", "Z", false)
  | 40 => ("InferReduceModel", "origin", "I", false)
  | 41 => ("InferReduceModel", "nextSort", "[I", true)
  | 42 => ("InferReduceModel", "nextLeft", "[I", true)
  | 43 => ("InferReduceModel", "nextRight", "[I", true)
  | 44 => ("InferReduceModel", "nexts", "I", false)
  | 45 => ("InferReduceModel", "boundSort", "[I", true)
  | 46 => ("InferReduceModel", "boundOf", "[I", true)
  | 47 => ("InferReduceModel", "boundType", "[I", true)
  | 48 => ("InferReduceModel", "boundFrom", "[I", true)
  | 49 => ("InferReduceModel", "bounds", "I", false)
  | 50 => ("InferReduceModel", "held", "I", false)
  | 51 => ("InferReduceModel", "toldSort", "[I", true)
  | 52 => ("InferReduceModel", "toldLeft", "[I", true)
  | 53 => ("InferReduceModel", "toldRight", "[I", true)
  | 54 => ("InferReduceModel", "toldUnchecked", "[Z", true)
  | 55 => ("InferReduceModel", "told", "I", false)
  | 56 => ("InferReduceModel", "state", "I", false)
  | 57 => ("InferReduceModel", "stateAt", "I", false)
  | 58 => ("InferReduceModel", "settled", "[Z", true)
  | 59 => ("InferReduceModel", "with", "[Z", true)
  | 60 => ("InferReduceModel", "chosen", "[I", true)
  | 61 => ("InferReduceModel", "some", "[I", true)
  | 62 => ("InferReduceModel", "someMany", "I", false)
  | 63 => ("InferReduceModel", "common", "[Z", true)
  | _ => ("InferReduceModel", "outdone", "[Z", true)
def ft_M : Nat → FieldType := fun k => match k with
  | 0 => .array .int
  | 1 => .array .int
  | 2 => .array .int
  | 3 => .array .long
  | 4 => .int
  | 5 => .array .int
  | 6 => .array .int
  | 7 => .array .int
  | 8 => .array .int
  | 9 => .array .int
  | 10 => .array .boolean
  | 11 => .int
  | 12 => .boolean
  | 13 => .array .int
  | 14 => .array .int
  | 15 => .array .int
  | 16 => .int
  | 17 => .int
  | 18 => .array .int
  | 19 => .array .int
  | 20 => .array .int
  | 21 => .array .int
  | 22 => .array .int
  | 23 => .array .int
  | 24 => .int
  | 25 => .array .int
  | 26 => .array .int
  | 27 => .array .int
  | 28 => .int
  | 29 => .array .int
  | 30 => .array .int
  | 31 => .array .int
  | 32 => .array .int
  | 33 => .int
  | 34 => .int
  | 35 => .int
  | 36 => .int
  | 37 => .boolean
  | 38 => .boolean
  | 39 => .boolean
  | 40 => .int
  | 41 => .array .int
  | 42 => .array .int
  | 43 => .array .int
  | 44 => .int
  | 45 => .array .int
  | 46 => .array .int
  | 47 => .array .int
  | 48 => .array .int
  | 49 => .int
  | 50 => .int
  | 51 => .array .int
  | 52 => .array .int
  | 53 => .array .int
  | 54 => .array .boolean
  | 55 => .int
  | 56 => .int
  | 57 => .int
  | 58 => .array .boolean
  | 59 => .array .boolean
  | 60 => .array .int
  | 61 => .array .int
  | 62 => .int
  | 63 => .array .boolean
  | _ => .array .boolean
theorem nm_M : ∀ a, a < 65 → ∀ b, b < 65 → a ≠ b → (T_M a).2.1 ≠ (T_M b).2.1 := by decide +kernel
theorem ft_M_ok : ∀ k, k < 65 → parseFieldDescriptor (T_M k).2.2.1 = some (ft_M k) := by decide +kernel
theorem in_M_0 : u_lay "InferReduceModel" T_M 0 ∈ tblG := tb_4 147 rfl rfl
theorem in_M_1 : u_lay "InferReduceModel" T_M 1 ∈ tblG := tb_4 149 rfl rfl
theorem in_M_2 : u_lay "InferReduceModel" T_M 2 ∈ tblG := tb_4 151 rfl rfl
theorem in_M_3 : u_lay "InferReduceModel" T_M 3 ∈ tblG := tb_4 153 rfl rfl
theorem in_M_4 : u_lay "InferReduceModel" T_M 4 ∈ tblG := tb_4 155 rfl rfl
theorem in_M_5 : u_lay "InferReduceModel" T_M 5 ∈ tblG := tb_4 157 rfl rfl
theorem in_M_6 : u_lay "InferReduceModel" T_M 6 ∈ tblG := tb_4 159 rfl rfl
theorem in_M_7 : u_lay "InferReduceModel" T_M 7 ∈ tblG := tb_4 161 rfl rfl
theorem in_M_8 : u_lay "InferReduceModel" T_M 8 ∈ tblG := tb_4 163 rfl rfl
theorem in_M_9 : u_lay "InferReduceModel" T_M 9 ∈ tblG := tb_4 165 rfl rfl
theorem in_M_10 : u_lay "InferReduceModel" T_M 10 ∈ tblG := tb_4 167 rfl rfl
theorem in_M_11 : u_lay "InferReduceModel" T_M 11 ∈ tblG := tb_4 169 rfl rfl
theorem in_M_12 : u_lay "InferReduceModel" T_M 12 ∈ tblG := tb_4 171 rfl rfl
theorem in_M_13 : u_lay "InferReduceModel" T_M 13 ∈ tblG := tb_4 173 rfl rfl
theorem in_M_14 : u_lay "InferReduceModel" T_M 14 ∈ tblG := tb_4 175 rfl rfl
theorem in_M_15 : u_lay "InferReduceModel" T_M 15 ∈ tblG := tb_4 177 rfl rfl
theorem in_M_16 : u_lay "InferReduceModel" T_M 16 ∈ tblG := tb_4 179 rfl rfl
theorem in_M_17 : u_lay "InferReduceModel" T_M 17 ∈ tblG := tb_4 181 rfl rfl
theorem in_M_18 : u_lay "InferReduceModel" T_M 18 ∈ tblG := tb_4 183 rfl rfl
theorem in_M_19 : u_lay "InferReduceModel" T_M 19 ∈ tblG := tb_4 185 rfl rfl
theorem in_M_20 : u_lay "InferReduceModel" T_M 20 ∈ tblG := tb_4 187 rfl rfl
theorem in_M_21 : u_lay "InferReduceModel" T_M 21 ∈ tblG := tb_4 189 rfl rfl
theorem in_M_22 : u_lay "InferReduceModel" T_M 22 ∈ tblG := tb_4 191 rfl rfl
theorem in_M_23 : u_lay "InferReduceModel" T_M 23 ∈ tblG := tb_4 193 rfl rfl
theorem in_M_24 : u_lay "InferReduceModel" T_M 24 ∈ tblG := tb_4 195 rfl rfl
theorem in_M_25 : u_lay "InferReduceModel" T_M 25 ∈ tblG := tb_4 197 rfl rfl
theorem in_M_26 : u_lay "InferReduceModel" T_M 26 ∈ tblG := tb_4 199 rfl rfl
theorem in_M_27 : u_lay "InferReduceModel" T_M 27 ∈ tblG := tb_4 201 rfl rfl
theorem in_M_28 : u_lay "InferReduceModel" T_M 28 ∈ tblG := tb_4 203 rfl rfl
theorem in_M_29 : u_lay "InferReduceModel" T_M 29 ∈ tblG := tb_4 205 rfl rfl
theorem in_M_30 : u_lay "InferReduceModel" T_M 30 ∈ tblG := tb_4 207 rfl rfl
theorem in_M_31 : u_lay "InferReduceModel" T_M 31 ∈ tblG := tb_4 209 rfl rfl
theorem in_M_32 : u_lay "InferReduceModel" T_M 32 ∈ tblG := tb_4 211 rfl rfl
theorem in_M_33 : u_lay "InferReduceModel" T_M 33 ∈ tblG := tb_4 213 rfl rfl
theorem in_M_34 : u_lay "InferReduceModel" T_M 34 ∈ tblG := tb_4 215 rfl rfl
theorem in_M_35 : u_lay "InferReduceModel" T_M 35 ∈ tblG := tb_4 217 rfl rfl
theorem in_M_36 : u_lay "InferReduceModel" T_M 36 ∈ tblG := tb_4 219 rfl rfl
theorem in_M_37 : u_lay "InferReduceModel" T_M 37 ∈ tblG := tb_4 221 rfl rfl
theorem in_M_38 : u_lay "InferReduceModel" T_M 38 ∈ tblG := tb_4 223 rfl rfl
theorem in_M_39 : u_lay "InferReduceModel" T_M 39 ∈ tblG := tb_4 225 rfl rfl
theorem in_M_40 : u_lay "InferReduceModel" T_M 40 ∈ tblG := tb_4 227 rfl rfl
theorem in_M_41 : u_lay "InferReduceModel" T_M 41 ∈ tblG := tb_4 229 rfl rfl
theorem in_M_42 : u_lay "InferReduceModel" T_M 42 ∈ tblG := tb_4 231 rfl rfl
theorem in_M_43 : u_lay "InferReduceModel" T_M 43 ∈ tblG := tb_4 233 rfl rfl
theorem in_M_44 : u_lay "InferReduceModel" T_M 44 ∈ tblG := tb_4 235 rfl rfl
theorem in_M_45 : u_lay "InferReduceModel" T_M 45 ∈ tblG := tb_4 237 rfl rfl
theorem in_M_46 : u_lay "InferReduceModel" T_M 46 ∈ tblG := tb_4 239 rfl rfl
theorem in_M_47 : u_lay "InferReduceModel" T_M 47 ∈ tblG := tb_5 1 rfl rfl
theorem in_M_48 : u_lay "InferReduceModel" T_M 48 ∈ tblG := tb_5 3 rfl rfl
theorem in_M_49 : u_lay "InferReduceModel" T_M 49 ∈ tblG := tb_5 5 rfl rfl
theorem in_M_50 : u_lay "InferReduceModel" T_M 50 ∈ tblG := tb_5 7 rfl rfl
theorem in_M_51 : u_lay "InferReduceModel" T_M 51 ∈ tblG := tb_5 9 rfl rfl
theorem in_M_52 : u_lay "InferReduceModel" T_M 52 ∈ tblG := tb_5 11 rfl rfl
theorem in_M_53 : u_lay "InferReduceModel" T_M 53 ∈ tblG := tb_5 13 rfl rfl
theorem in_M_54 : u_lay "InferReduceModel" T_M 54 ∈ tblG := tb_5 15 rfl rfl
theorem in_M_55 : u_lay "InferReduceModel" T_M 55 ∈ tblG := tb_5 17 rfl rfl
theorem in_M_56 : u_lay "InferReduceModel" T_M 56 ∈ tblG := tb_5 19 rfl rfl
theorem in_M_57 : u_lay "InferReduceModel" T_M 57 ∈ tblG := tb_5 21 rfl rfl
theorem in_M_58 : u_lay "InferReduceModel" T_M 58 ∈ tblG := tb_5 23 rfl rfl
theorem in_M_59 : u_lay "InferReduceModel" T_M 59 ∈ tblG := tb_5 25 rfl rfl
theorem in_M_60 : u_lay "InferReduceModel" T_M 60 ∈ tblG := tb_5 27 rfl rfl
theorem in_M_61 : u_lay "InferReduceModel" T_M 61 ∈ tblG := tb_5 29 rfl rfl
theorem in_M_62 : u_lay "InferReduceModel" T_M 62 ∈ tblG := tb_5 31 rfl rfl
theorem in_M_63 : u_lay "InferReduceModel" T_M 63 ∈ tblG := tb_5 33 rfl rfl
theorem in_M_64 : u_lay "InferReduceModel" T_M 64 ∈ tblG := tb_5 35 rfl rfl
theorem in_M : ∀ x ∈ u_ws "InferReduceModel" T_M 65, x ∈ tblG := by
  intro x hx
  obtain ⟨k, hk, rfl⟩ := List.mem_map.mp hx
  have hk := List.mem_range.mp hk
  match k, hk with
  | 0, _ => exact in_M_0
  | 1, _ => exact in_M_1
  | 2, _ => exact in_M_2
  | 3, _ => exact in_M_3
  | 4, _ => exact in_M_4
  | 5, _ => exact in_M_5
  | 6, _ => exact in_M_6
  | 7, _ => exact in_M_7
  | 8, _ => exact in_M_8
  | 9, _ => exact in_M_9
  | 10, _ => exact in_M_10
  | 11, _ => exact in_M_11
  | 12, _ => exact in_M_12
  | 13, _ => exact in_M_13
  | 14, _ => exact in_M_14
  | 15, _ => exact in_M_15
  | 16, _ => exact in_M_16
  | 17, _ => exact in_M_17
  | 18, _ => exact in_M_18
  | 19, _ => exact in_M_19
  | 20, _ => exact in_M_20
  | 21, _ => exact in_M_21
  | 22, _ => exact in_M_22
  | 23, _ => exact in_M_23
  | 24, _ => exact in_M_24
  | 25, _ => exact in_M_25
  | 26, _ => exact in_M_26
  | 27, _ => exact in_M_27
  | 28, _ => exact in_M_28
  | 29, _ => exact in_M_29
  | 30, _ => exact in_M_30
  | 31, _ => exact in_M_31
  | 32, _ => exact in_M_32
  | 33, _ => exact in_M_33
  | 34, _ => exact in_M_34
  | 35, _ => exact in_M_35
  | 36, _ => exact in_M_36
  | 37, _ => exact in_M_37
  | 38, _ => exact in_M_38
  | 39, _ => exact in_M_39
  | 40, _ => exact in_M_40
  | 41, _ => exact in_M_41
  | 42, _ => exact in_M_42
  | 43, _ => exact in_M_43
  | 44, _ => exact in_M_44
  | 45, _ => exact in_M_45
  | 46, _ => exact in_M_46
  | 47, _ => exact in_M_47
  | 48, _ => exact in_M_48
  | 49, _ => exact in_M_49
  | 50, _ => exact in_M_50
  | 51, _ => exact in_M_51
  | 52, _ => exact in_M_52
  | 53, _ => exact in_M_53
  | 54, _ => exact in_M_54
  | 55, _ => exact in_M_55
  | 56, _ => exact in_M_56
  | 57, _ => exact in_M_57
  | 58, _ => exact in_M_58
  | 59, _ => exact in_M_59
  | 60, _ => exact in_M_60
  | 61, _ => exact in_M_61
  | 62, _ => exact in_M_62
  | 63, _ => exact in_M_63
  | 64, _ => exact in_M_64
  | k + 65, h => exact absurd h (by omega)
abbrev clA : List vw_C := [("InferReduce$Bounds", T_Bounds, 5), ("InferReduce$Classes", T_Classes, 6), ("InferReduce$Exchange", T_Exchange, 7), ("InferReduce$Holder", T_Holder, 7), ("InferReduce$Reducer", T_Reducer, 9), ("InferReduce$Resolver", T_Resolver, 8), ("InferReduce$Told", T_Told, 5), ("InferReduce$Types", T_Types, 12), ("InferReduce$Work", T_Work, 9), ("InferReduce", T_I, 11), ("InferReduceModel", T_M, 65)]
abbrev b_Bounds_init : ByteArray := prog_2_method_1_code
abbrev y_Bounds_init : MethodName := ⟨"InferReduce$Bounds", "<init>", "()V"⟩
theorem dd_Bounds_init : y_Bounds_init.cls = "InferReduce$Bounds" ∧ y_Bounds_init.cls ≠ "java/lang/invoke/MethodHandle" ∧ y_Bounds_init.cls ≠ "java/lang/invoke/VarHandle" ∧ (parseMethodDescriptor y_Bounds_init.desc).map (fun d => d.parameters.length) = some 0 := ⟨rfl, by decide, by decide, by decide +kernel⟩
abbrev b_Bounds_has : ByteArray := prog_2_method_2_code
abbrev y_Bounds_has : MethodName := ⟨"InferReduce$Bounds", "has", "(I)Z"⟩
theorem dd_Bounds_has : y_Bounds_has.cls = "InferReduce$Bounds" ∧ y_Bounds_has.cls ≠ "java/lang/invoke/MethodHandle" ∧ y_Bounds_has.cls ≠ "java/lang/invoke/VarHandle" ∧ (parseMethodDescriptor y_Bounds_has.desc).map (fun d => d.parameters.length) = some 1 := ⟨rfl, by decide, by decide, by decide +kernel⟩
abbrev b_Bounds_sortOf : ByteArray := prog_2_method_3_code
abbrev y_Bounds_sortOf : MethodName := ⟨"InferReduce$Bounds", "sortOf", "(I)I"⟩
theorem dd_Bounds_sortOf : y_Bounds_sortOf.cls = "InferReduce$Bounds" ∧ y_Bounds_sortOf.cls ≠ "java/lang/invoke/MethodHandle" ∧ y_Bounds_sortOf.cls ≠ "java/lang/invoke/VarHandle" ∧ (parseMethodDescriptor y_Bounds_sortOf.desc).map (fun d => d.parameters.length) = some 1 := ⟨rfl, by decide, by decide, by decide +kernel⟩
abbrev b_Bounds_variableOf : ByteArray := prog_2_method_4_code
abbrev y_Bounds_variableOf : MethodName := ⟨"InferReduce$Bounds", "variableOf", "(I)I"⟩
theorem dd_Bounds_variableOf : y_Bounds_variableOf.cls = "InferReduce$Bounds" ∧ y_Bounds_variableOf.cls ≠ "java/lang/invoke/MethodHandle" ∧ y_Bounds_variableOf.cls ≠ "java/lang/invoke/VarHandle" ∧ (parseMethodDescriptor y_Bounds_variableOf.desc).map (fun d => d.parameters.length) = some 1 := ⟨rfl, by decide, by decide, by decide +kernel⟩
abbrev b_Bounds_typeOf : ByteArray := prog_2_method_5_code
abbrev y_Bounds_typeOf : MethodName := ⟨"InferReduce$Bounds", "typeOf", "(I)I"⟩
theorem dd_Bounds_typeOf : y_Bounds_typeOf.cls = "InferReduce$Bounds" ∧ y_Bounds_typeOf.cls ≠ "java/lang/invoke/MethodHandle" ∧ y_Bounds_typeOf.cls ≠ "java/lang/invoke/VarHandle" ∧ (parseMethodDescriptor y_Bounds_typeOf.desc).map (fun d => d.parameters.length) = some 1 := ⟨rfl, by decide, by decide, by decide +kernel⟩
abbrev b_Bounds_originOf : ByteArray := prog_2_method_6_code
abbrev y_Bounds_originOf : MethodName := ⟨"InferReduce$Bounds", "originOf", "(I)I"⟩
theorem dd_Bounds_originOf : y_Bounds_originOf.cls = "InferReduce$Bounds" ∧ y_Bounds_originOf.cls ≠ "java/lang/invoke/MethodHandle" ∧ y_Bounds_originOf.cls ≠ "java/lang/invoke/VarHandle" ∧ (parseMethodDescriptor y_Bounds_originOf.desc).map (fun d => d.parameters.length) = some 1 := ⟨rfl, by decide, by decide, by decide +kernel⟩
abbrev b_Bounds_add : ByteArray := prog_2_method_7_code
abbrev y_Bounds_add : MethodName := ⟨"InferReduce$Bounds", "add", "(IIII)I"⟩
theorem dd_Bounds_add : y_Bounds_add.cls = "InferReduce$Bounds" ∧ y_Bounds_add.cls ≠ "java/lang/invoke/MethodHandle" ∧ y_Bounds_add.cls ≠ "java/lang/invoke/VarHandle" ∧ (parseMethodDescriptor y_Bounds_add.desc).map (fun d => d.parameters.length) = some 4 := ⟨rfl, by decide, by decide, by decide +kernel⟩
abbrev b_Bounds_settledAs : ByteArray := prog_2_method_8_code
abbrev y_Bounds_settledAs : MethodName := ⟨"InferReduce$Bounds", "settledAs", "(ILInferReduce$Types;)I"⟩
theorem dd_Bounds_settledAs : y_Bounds_settledAs.cls = "InferReduce$Bounds" ∧ y_Bounds_settledAs.cls ≠ "java/lang/invoke/MethodHandle" ∧ y_Bounds_settledAs.cls ≠ "java/lang/invoke/VarHandle" ∧ (parseMethodDescriptor y_Bounds_settledAs.desc).map (fun d => d.parameters.length) = some 2 := ⟨rfl, by decide, by decide, by decide +kernel⟩
abbrev b_Classes_init : ByteArray := prog_3_method_1_code
abbrev y_Classes_init : MethodName := ⟨"InferReduce$Classes", "<init>", "()V"⟩
theorem dd_Classes_init : y_Classes_init.cls = "InferReduce$Classes" ∧ y_Classes_init.cls ≠ "java/lang/invoke/MethodHandle" ∧ y_Classes_init.cls ≠ "java/lang/invoke/VarHandle" ∧ (parseMethodDescriptor y_Classes_init.desc).map (fun d => d.parameters.length) = some 0 := ⟨rfl, by decide, by decide, by decide +kernel⟩
abbrev b_Classes_has : ByteArray := prog_3_method_2_code
abbrev y_Classes_has : MethodName := ⟨"InferReduce$Classes", "has", "(I)Z"⟩
theorem dd_Classes_has : y_Classes_has.cls = "InferReduce$Classes" ∧ y_Classes_has.cls ≠ "java/lang/invoke/MethodHandle" ∧ y_Classes_has.cls ≠ "java/lang/invoke/VarHandle" ∧ (parseMethodDescriptor y_Classes_has.desc).map (fun d => d.parameters.length) = some 1 := ⟨rfl, by decide, by decide, by decide +kernel⟩
abbrev b_Classes_add : ByteArray := prog_3_method_3_code
abbrev y_Classes_add : MethodName := ⟨"InferReduce$Classes", "add", "(I)I"⟩
theorem dd_Classes_add : y_Classes_add.cls = "InferReduce$Classes" ∧ y_Classes_add.cls ≠ "java/lang/invoke/MethodHandle" ∧ y_Classes_add.cls ≠ "java/lang/invoke/VarHandle" ∧ (parseMethodDescriptor y_Classes_add.desc).map (fun d => d.parameters.length) = some 1 := ⟨rfl, by decide, by decide, by decide +kernel⟩
abbrev b_Classes_parametersOf : ByteArray := prog_3_method_4_code
abbrev y_Classes_parametersOf : MethodName := ⟨"InferReduce$Classes", "parametersOf", "(I)I"⟩
theorem dd_Classes_parametersOf : y_Classes_parametersOf.cls = "InferReduce$Classes" ∧ y_Classes_parametersOf.cls ≠ "java/lang/invoke/MethodHandle" ∧ y_Classes_parametersOf.cls ≠ "java/lang/invoke/VarHandle" ∧ (parseMethodDescriptor y_Classes_parametersOf.desc).map (fun d => d.parameters.length) = some 1 := ⟨rfl, by decide, by decide, by decide +kernel⟩
abbrev b_Classes_addParent : ByteArray := prog_3_method_5_code
abbrev y_Classes_addParent : MethodName := ⟨"InferReduce$Classes", "addParent", "(III)I"⟩
theorem dd_Classes_addParent : y_Classes_addParent.cls = "InferReduce$Classes" ∧ y_Classes_addParent.cls ≠ "java/lang/invoke/MethodHandle" ∧ y_Classes_addParent.cls ≠ "java/lang/invoke/VarHandle" ∧ (parseMethodDescriptor y_Classes_addParent.desc).map (fun d => d.parameters.length) = some 3 := ⟨rfl, by decide, by decide, by decide +kernel⟩
abbrev b_Classes_renewReach : ByteArray := prog_3_method_6_code
abbrev y_Classes_renewReach : MethodName := ⟨"InferReduce$Classes", "renewReach", "()V"⟩
theorem dd_Classes_renewReach : y_Classes_renewReach.cls = "InferReduce$Classes" ∧ y_Classes_renewReach.cls ≠ "java/lang/invoke/MethodHandle" ∧ y_Classes_renewReach.cls ≠ "java/lang/invoke/VarHandle" ∧ (parseMethodDescriptor y_Classes_renewReach.desc).map (fun d => d.parameters.length) = some 0 := ⟨rfl, by decide, by decide, by decide +kernel⟩
abbrev b_Classes_reaches : ByteArray := prog_3_method_7_code
abbrev y_Classes_reaches : MethodName := ⟨"InferReduce$Classes", "reaches", "(II)Z"⟩
theorem dd_Classes_reaches : y_Classes_reaches.cls = "InferReduce$Classes" ∧ y_Classes_reaches.cls ≠ "java/lang/invoke/MethodHandle" ∧ y_Classes_reaches.cls ≠ "java/lang/invoke/VarHandle" ∧ (parseMethodDescriptor y_Classes_reaches.desc).map (fun d => d.parameters.length) = some 2 := ⟨rfl, by decide, by decide, by decide +kernel⟩
abbrev b_Classes_parentTowards : ByteArray := prog_3_method_8_code
abbrev y_Classes_parentTowards : MethodName := ⟨"InferReduce$Classes", "parentTowards", "(II)I"⟩
theorem dd_Classes_parentTowards : y_Classes_parentTowards.cls = "InferReduce$Classes" ∧ y_Classes_parentTowards.cls ≠ "java/lang/invoke/MethodHandle" ∧ y_Classes_parentTowards.cls ≠ "java/lang/invoke/VarHandle" ∧ (parseMethodDescriptor y_Classes_parentTowards.desc).map (fun d => d.parameters.length) = some 2 := ⟨rfl, by decide, by decide, by decide +kernel⟩
abbrev b_Exchange_init : ByteArray := prog_4_method_1_code
abbrev y_Exchange_init : MethodName := ⟨"InferReduce$Exchange", "<init>", "(LInferReduce$Types;)V"⟩
theorem dd_Exchange_init : y_Exchange_init.cls = "InferReduce$Exchange" ∧ y_Exchange_init.cls ≠ "java/lang/invoke/MethodHandle" ∧ y_Exchange_init.cls ≠ "java/lang/invoke/VarHandle" ∧ (parseMethodDescriptor y_Exchange_init.desc).map (fun d => d.parameters.length) = some 1 := ⟨rfl, by decide, by decide, by decide +kernel⟩
abbrev b_Exchange_forVariables : ByteArray := prog_4_method_2_code
abbrev y_Exchange_forVariables : MethodName := ⟨"InferReduce$Exchange", "forVariables", "()V"⟩
theorem dd_Exchange_forVariables : y_Exchange_forVariables.cls = "InferReduce$Exchange" ∧ y_Exchange_forVariables.cls ≠ "java/lang/invoke/MethodHandle" ∧ y_Exchange_forVariables.cls ≠ "java/lang/invoke/VarHandle" ∧ (parseMethodDescriptor y_Exchange_forVariables.desc).map (fun d => d.parameters.length) = some 0 := ⟨rfl, by decide, by decide, by decide +kernel⟩
abbrev b_Exchange_setInstead : ByteArray := prog_4_method_3_code
abbrev y_Exchange_setInstead : MethodName := ⟨"InferReduce$Exchange", "setInstead", "(II)V"⟩
theorem dd_Exchange_setInstead : y_Exchange_setInstead.cls = "InferReduce$Exchange" ∧ y_Exchange_setInstead.cls ≠ "java/lang/invoke/MethodHandle" ∧ y_Exchange_setInstead.cls ≠ "java/lang/invoke/VarHandle" ∧ (parseMethodDescriptor y_Exchange_setInstead.desc).map (fun d => d.parameters.length) = some 2 := ⟨rfl, by decide, by decide, by decide +kernel⟩
abbrev b_Exchange_forArguments : ByteArray := prog_4_method_4_code
abbrev y_Exchange_forArguments : MethodName := ⟨"InferReduce$Exchange", "forArguments", "(I)V"⟩
theorem dd_Exchange_forArguments : y_Exchange_forArguments.cls = "InferReduce$Exchange" ∧ y_Exchange_forArguments.cls ≠ "java/lang/invoke/MethodHandle" ∧ y_Exchange_forArguments.cls ≠ "java/lang/invoke/VarHandle" ∧ (parseMethodDescriptor y_Exchange_forArguments.desc).map (fun d => d.parameters.length) = some 1 := ⟨rfl, by decide, by decide, by decide +kernel⟩
abbrev b_Exchange_put : ByteArray := prog_4_method_5_code
abbrev y_Exchange_put : MethodName := ⟨"InferReduce$Exchange", "put", "(II)I"⟩
theorem dd_Exchange_put : y_Exchange_put.cls = "InferReduce$Exchange" ∧ y_Exchange_put.cls ≠ "java/lang/invoke/MethodHandle" ∧ y_Exchange_put.cls ≠ "java/lang/invoke/VarHandle" ∧ (parseMethodDescriptor y_Exchange_put.desc).map (fun d => d.parameters.length) = some 2 := ⟨rfl, by decide, by decide, by decide +kernel⟩
abbrev b_Holder_init : ByteArray := prog_5_method_1_code
abbrev y_Holder_init : MethodName := ⟨"InferReduce$Holder", "<init>", "(LInferReduce$Classes;LInferReduce$Types;LInferReduce$Bounds;LInferReduce$Exchange;LInferReduce$Reducer;[I)V"⟩
theorem dd_Holder_init : y_Holder_init.cls = "InferReduce$Holder" ∧ y_Holder_init.cls ≠ "java/lang/invoke/MethodHandle" ∧ y_Holder_init.cls ≠ "java/lang/invoke/VarHandle" ∧ (parseMethodDescriptor y_Holder_init.desc).map (fun d => d.parameters.length) = some 6 := ⟨rfl, by decide, by decide, by decide +kernel⟩
abbrev b_Holder_holdAll : ByteArray := prog_5_method_2_code
abbrev y_Holder_holdAll : MethodName := ⟨"InferReduce$Holder", "holdAll", "()I"⟩
theorem dd_Holder_holdAll : y_Holder_holdAll.cls = "InferReduce$Holder" ∧ y_Holder_holdAll.cls ≠ "java/lang/invoke/MethodHandle" ∧ y_Holder_holdAll.cls ≠ "java/lang/invoke/VarHandle" ∧ (parseMethodDescriptor y_Holder_holdAll.desc).map (fun d => d.parameters.length) = some 0 := ⟨rfl, by decide, by decide, by decide +kernel⟩
abbrev b_Holder_comes : ByteArray := prog_5_method_3_code
abbrev y_Holder_comes : MethodName := ⟨"InferReduce$Holder", "comes", "(II)I"⟩
theorem dd_Holder_comes : y_Holder_comes.cls = "InferReduce$Holder" ∧ y_Holder_comes.cls ≠ "java/lang/invoke/MethodHandle" ∧ y_Holder_comes.cls ≠ "java/lang/invoke/VarHandle" ∧ (parseMethodDescriptor y_Holder_comes.desc).map (fun d => d.parameters.length) = some 2 := ⟨rfl, by decide, by decide, by decide +kernel⟩
abbrev b_Holder_putsInto : ByteArray := prog_5_method_4_code
abbrev y_Holder_putsInto : MethodName := ⟨"InferReduce$Holder", "putsInto", "(II)I"⟩
theorem dd_Holder_putsInto : y_Holder_putsInto.cls = "InferReduce$Holder" ∧ y_Holder_putsInto.cls ≠ "java/lang/invoke/MethodHandle" ∧ y_Holder_putsInto.cls ≠ "java/lang/invoke/VarHandle" ∧ (parseMethodDescriptor y_Holder_putsInto.desc).map (fun d => d.parameters.length) = some 2 := ⟨rfl, by decide, by decide, by decide +kernel⟩
abbrev b_Holder_shareArguments : ByteArray := prog_5_method_5_code
abbrev y_Holder_shareArguments : MethodName := ⟨"InferReduce$Holder", "shareArguments", "(II)I"⟩
theorem dd_Holder_shareArguments : y_Holder_shareArguments.cls = "InferReduce$Holder" ∧ y_Holder_shareArguments.cls ≠ "java/lang/invoke/MethodHandle" ∧ y_Holder_shareArguments.cls ≠ "java/lang/invoke/VarHandle" ∧ (parseMethodDescriptor y_Holder_shareArguments.desc).map (fun d => d.parameters.length) = some 2 := ⟨rfl, by decide, by decide, by decide +kernel⟩
abbrev b_Reducer_init : ByteArray := prog_6_method_1_code
abbrev y_Reducer_init : MethodName := ⟨"InferReduce$Reducer", "<init>", "(LInferReduce$Classes;LInferReduce$Types;LInferReduce$Bounds;LInferReduce$Exchange;)V"⟩
theorem dd_Reducer_init : y_Reducer_init.cls = "InferReduce$Reducer" ∧ y_Reducer_init.cls ≠ "java/lang/invoke/MethodHandle" ∧ y_Reducer_init.cls ≠ "java/lang/invoke/VarHandle" ∧ (parseMethodDescriptor y_Reducer_init.desc).map (fun d => d.parameters.length) = some 4 := ⟨rfl, by decide, by decide, by decide +kernel⟩
abbrev b_Reducer_begin : ByteArray := prog_6_method_2_code
abbrev y_Reducer_begin : MethodName := ⟨"InferReduce$Reducer", "begin", "(I)V"⟩
theorem dd_Reducer_begin : y_Reducer_begin.cls = "InferReduce$Reducer" ∧ y_Reducer_begin.cls ≠ "java/lang/invoke/MethodHandle" ∧ y_Reducer_begin.cls ≠ "java/lang/invoke/VarHandle" ∧ (parseMethodDescriptor y_Reducer_begin.desc).map (fun d => d.parameters.length) = some 1 := ⟨rfl, by decide, by decide, by decide +kernel⟩
abbrev b_Reducer_ask : ByteArray := prog_6_method_3_code
abbrev y_Reducer_ask : MethodName := ⟨"InferReduce$Reducer", "ask", "(III)I"⟩
theorem dd_Reducer_ask : y_Reducer_ask.cls = "InferReduce$Reducer" ∧ y_Reducer_ask.cls ≠ "java/lang/invoke/MethodHandle" ∧ y_Reducer_ask.cls ≠ "java/lang/invoke/VarHandle" ∧ (parseMethodDescriptor y_Reducer_ask.desc).map (fun d => d.parameters.length) = some 3 := ⟨rfl, by decide, by decide, by decide +kernel⟩
abbrev b_Reducer_less : ByteArray := prog_6_method_4_code
abbrev y_Reducer_less : MethodName := ⟨"InferReduce$Reducer", "less", "()I"⟩
theorem dd_Reducer_less : y_Reducer_less.cls = "InferReduce$Reducer" ∧ y_Reducer_less.cls ≠ "java/lang/invoke/MethodHandle" ∧ y_Reducer_less.cls ≠ "java/lang/invoke/VarHandle" ∧ (parseMethodDescriptor y_Reducer_less.desc).map (fun d => d.parameters.length) = some 0 := ⟨rfl, by decide, by decide, by decide +kernel⟩
abbrev b_Reducer_within : ByteArray := prog_6_method_5_code
abbrev y_Reducer_within : MethodName := ⟨"InferReduce$Reducer", "within", "(III)I"⟩
theorem dd_Reducer_within : y_Reducer_within.cls = "InferReduce$Reducer" ∧ y_Reducer_within.cls ≠ "java/lang/invoke/MethodHandle" ∧ y_Reducer_within.cls ≠ "java/lang/invoke/VarHandle" ∧ (parseMethodDescriptor y_Reducer_within.desc).map (fun d => d.parameters.length) = some 3 := ⟨rfl, by decide, by decide, by decide +kernel⟩
abbrev b_Reducer_withinArguments : ByteArray := prog_6_method_6_code
abbrev y_Reducer_withinArguments : MethodName := ⟨"InferReduce$Reducer", "withinArguments", "(III)I"⟩
theorem dd_Reducer_withinArguments : y_Reducer_withinArguments.cls = "InferReduce$Reducer" ∧ y_Reducer_withinArguments.cls ≠ "java/lang/invoke/MethodHandle" ∧ y_Reducer_withinArguments.cls ≠ "java/lang/invoke/VarHandle" ∧ (parseMethodDescriptor y_Reducer_withinArguments.desc).map (fun d => d.parameters.length) = some 3 := ⟨rfl, by decide, by decide, by decide +kernel⟩
abbrev b_Reducer_lessCompatible : ByteArray := prog_6_method_7_code
abbrev y_Reducer_lessCompatible : MethodName := ⟨"InferReduce$Reducer", "lessCompatible", "(II)I"⟩
theorem dd_Reducer_lessCompatible : y_Reducer_lessCompatible.cls = "InferReduce$Reducer" ∧ y_Reducer_lessCompatible.cls ≠ "java/lang/invoke/MethodHandle" ∧ y_Reducer_lessCompatible.cls ≠ "java/lang/invoke/VarHandle" ∧ (parseMethodDescriptor y_Reducer_lessCompatible.desc).map (fun d => d.parameters.length) = some 2 := ⟨rfl, by decide, by decide, by decide +kernel⟩
abbrev b_Reducer_lessSub : ByteArray := prog_6_method_8_code
abbrev y_Reducer_lessSub : MethodName := ⟨"InferReduce$Reducer", "lessSub", "(II)I"⟩
theorem dd_Reducer_lessSub : y_Reducer_lessSub.cls = "InferReduce$Reducer" ∧ y_Reducer_lessSub.cls ≠ "java/lang/invoke/MethodHandle" ∧ y_Reducer_lessSub.cls ≠ "java/lang/invoke/VarHandle" ∧ (parseMethodDescriptor y_Reducer_lessSub.desc).map (fun d => d.parameters.length) = some 2 := ⟨rfl, by decide, by decide, by decide +kernel⟩
abbrev b_Reducer_lessContained : ByteArray := prog_6_method_9_code
abbrev y_Reducer_lessContained : MethodName := ⟨"InferReduce$Reducer", "lessContained", "(II)I"⟩
theorem dd_Reducer_lessContained : y_Reducer_lessContained.cls = "InferReduce$Reducer" ∧ y_Reducer_lessContained.cls ≠ "java/lang/invoke/MethodHandle" ∧ y_Reducer_lessContained.cls ≠ "java/lang/invoke/VarHandle" ∧ (parseMethodDescriptor y_Reducer_lessContained.desc).map (fun d => d.parameters.length) = some 2 := ⟨rfl, by decide, by decide, by decide +kernel⟩
abbrev b_Reducer_lessEqual : ByteArray := prog_6_method_10_code
abbrev y_Reducer_lessEqual : MethodName := ⟨"InferReduce$Reducer", "lessEqual", "(II)I"⟩
theorem dd_Reducer_lessEqual : y_Reducer_lessEqual.cls = "InferReduce$Reducer" ∧ y_Reducer_lessEqual.cls ≠ "java/lang/invoke/MethodHandle" ∧ y_Reducer_lessEqual.cls ≠ "java/lang/invoke/VarHandle" ∧ (parseMethodDescriptor y_Reducer_lessEqual.desc).map (fun d => d.parameters.length) = some 2 := ⟨rfl, by decide, by decide, by decide +kernel⟩
abbrev b_Reducer_bind : ByteArray := prog_6_method_11_code
abbrev y_Reducer_bind : MethodName := ⟨"InferReduce$Reducer", "bind", "(IIII)I"⟩
theorem dd_Reducer_bind : y_Reducer_bind.cls = "InferReduce$Reducer" ∧ y_Reducer_bind.cls ≠ "java/lang/invoke/MethodHandle" ∧ y_Reducer_bind.cls ≠ "java/lang/invoke/VarHandle" ∧ (parseMethodDescriptor y_Reducer_bind.desc).map (fun d => d.parameters.length) = some 4 := ⟨rfl, by decide, by decide, by decide +kernel⟩
abbrev b_Reducer_truth : ByteArray := prog_6_method_12_code
abbrev y_Reducer_truth : MethodName := ⟨"InferReduce$Reducer", "truth", "(Z)I"⟩
theorem dd_Reducer_truth : y_Reducer_truth.cls ≠ "java/lang/invoke/MethodHandle" ∧ y_Reducer_truth.cls ≠ "java/lang/invoke/VarHandle" ∧ (parseMethodDescriptor y_Reducer_truth.desc).map (fun d => d.parameters.length) = some 1 := ⟨by decide, by decide, by decide +kernel⟩
abbrev b_Reducer_boxOf : ByteArray := prog_6_method_13_code
abbrev y_Reducer_boxOf : MethodName := ⟨"InferReduce$Reducer", "boxOf", "(I)I"⟩
theorem dd_Reducer_boxOf : y_Reducer_boxOf.cls = "InferReduce$Reducer" ∧ y_Reducer_boxOf.cls ≠ "java/lang/invoke/MethodHandle" ∧ y_Reducer_boxOf.cls ≠ "java/lang/invoke/VarHandle" ∧ (parseMethodDescriptor y_Reducer_boxOf.desc).map (fun d => d.parameters.length) = some 1 := ⟨rfl, by decide, by decide, by decide +kernel⟩
abbrev b_Reducer_widens : ByteArray := prog_6_method_14_code
abbrev y_Reducer_widens : MethodName := ⟨"InferReduce$Reducer", "widens", "(II)Z"⟩
theorem dd_Reducer_widens : y_Reducer_widens.cls ≠ "java/lang/invoke/MethodHandle" ∧ y_Reducer_widens.cls ≠ "java/lang/invoke/VarHandle" ∧ (parseMethodDescriptor y_Reducer_widens.desc).map (fun d => d.parameters.length) = some 2 := ⟨by decide, by decide, by decide +kernel⟩
abbrev b_Reducer_unboxes : ByteArray := prog_6_method_15_code
abbrev y_Reducer_unboxes : MethodName := ⟨"InferReduce$Reducer", "unboxes", "(II)Z"⟩
theorem dd_Reducer_unboxes : y_Reducer_unboxes.cls = "InferReduce$Reducer" ∧ y_Reducer_unboxes.cls ≠ "java/lang/invoke/MethodHandle" ∧ y_Reducer_unboxes.cls ≠ "java/lang/invoke/VarHandle" ∧ (parseMethodDescriptor y_Reducer_unboxes.desc).map (fun d => d.parameters.length) = some 2 := ⟨rfl, by decide, by decide, by decide +kernel⟩
abbrev b_Reducer_aboveOf : ByteArray := prog_6_method_16_code
abbrev y_Reducer_aboveOf : MethodName := ⟨"InferReduce$Reducer", "aboveOf", "(II)I"⟩
theorem dd_Reducer_aboveOf : y_Reducer_aboveOf.cls = "InferReduce$Reducer" ∧ y_Reducer_aboveOf.cls ≠ "java/lang/invoke/MethodHandle" ∧ y_Reducer_aboveOf.cls ≠ "java/lang/invoke/VarHandle" ∧ (parseMethodDescriptor y_Reducer_aboveOf.desc).map (fun d => d.parameters.length) = some 2 := ⟨rfl, by decide, by decide, by decide +kernel⟩
abbrev b_Resolver_init : ByteArray := prog_7_method_1_code
abbrev y_Resolver_init : MethodName := ⟨"InferReduce$Resolver", "<init>", "(LInferReduce$Classes;LInferReduce$Types;LInferReduce$Bounds;LInferReduce$Reducer;)V"⟩
theorem dd_Resolver_init : y_Resolver_init.cls = "InferReduce$Resolver" ∧ y_Resolver_init.cls ≠ "java/lang/invoke/MethodHandle" ∧ y_Resolver_init.cls ≠ "java/lang/invoke/VarHandle" ∧ (parseMethodDescriptor y_Resolver_init.desc).map (fun d => d.parameters.length) = some 4 := ⟨rfl, by decide, by decide, by decide +kernel⟩
abbrev b_Resolver_choiceOf : ByteArray := prog_7_method_2_code
abbrev y_Resolver_choiceOf : MethodName := ⟨"InferReduce$Resolver", "choiceOf", "(I)I"⟩
theorem dd_Resolver_choiceOf : y_Resolver_choiceOf.cls = "InferReduce$Resolver" ∧ y_Resolver_choiceOf.cls ≠ "java/lang/invoke/MethodHandle" ∧ y_Resolver_choiceOf.cls ≠ "java/lang/invoke/VarHandle" ∧ (parseMethodDescriptor y_Resolver_choiceOf.desc).map (fun d => d.parameters.length) = some 1 := ⟨rfl, by decide, by decide, by decide +kernel⟩
abbrev b_Resolver_nextGroup : ByteArray := prog_7_method_3_code
abbrev y_Resolver_nextGroup : MethodName := ⟨"InferReduce$Resolver", "nextGroup", "(I)I"⟩
theorem dd_Resolver_nextGroup : y_Resolver_nextGroup.cls = "InferReduce$Resolver" ∧ y_Resolver_nextGroup.cls ≠ "java/lang/invoke/MethodHandle" ∧ y_Resolver_nextGroup.cls ≠ "java/lang/invoke/VarHandle" ∧ (parseMethodDescriptor y_Resolver_nextGroup.desc).map (fun d => d.parameters.length) = some 1 := ⟨rfl, by decide, by decide, by decide +kernel⟩
abbrev b_Resolver_link : ByteArray := prog_7_method_4_code
abbrev y_Resolver_link : MethodName := ⟨"InferReduce$Resolver", "link", "(I)V"⟩
theorem dd_Resolver_link : y_Resolver_link.cls = "InferReduce$Resolver" ∧ y_Resolver_link.cls ≠ "java/lang/invoke/MethodHandle" ∧ y_Resolver_link.cls ≠ "java/lang/invoke/VarHandle" ∧ (parseMethodDescriptor y_Resolver_link.desc).map (fun d => d.parameters.length) = some 1 := ⟨rfl, by decide, by decide, by decide +kernel⟩
abbrev b_Resolver_groupOf : ByteArray := prog_7_method_5_code
abbrev y_Resolver_groupOf : MethodName := ⟨"InferReduce$Resolver", "groupOf", "(I)I"⟩
theorem dd_Resolver_groupOf : y_Resolver_groupOf.cls = "InferReduce$Resolver" ∧ y_Resolver_groupOf.cls ≠ "java/lang/invoke/MethodHandle" ∧ y_Resolver_groupOf.cls ≠ "java/lang/invoke/VarHandle" ∧ (parseMethodDescriptor y_Resolver_groupOf.desc).map (fun d => d.parameters.length) = some 1 := ⟨rfl, by decide, by decide, by decide +kernel⟩
abbrev b_Resolver_choose : ByteArray := prog_7_method_6_code
abbrev y_Resolver_choose : MethodName := ⟨"InferReduce$Resolver", "choose", "(I)I"⟩
theorem dd_Resolver_choose : y_Resolver_choose.cls = "InferReduce$Resolver" ∧ y_Resolver_choose.cls ≠ "java/lang/invoke/MethodHandle" ∧ y_Resolver_choose.cls ≠ "java/lang/invoke/VarHandle" ∧ (parseMethodDescriptor y_Resolver_choose.desc).map (fun d => d.parameters.length) = some 1 := ⟨rfl, by decide, by decide, by decide +kernel⟩
abbrev b_Resolver_gather : ByteArray := prog_7_method_7_code
abbrev y_Resolver_gather : MethodName := ⟨"InferReduce$Resolver", "gather", "(II)V"⟩
theorem dd_Resolver_gather : y_Resolver_gather.cls = "InferReduce$Resolver" ∧ y_Resolver_gather.cls ≠ "java/lang/invoke/MethodHandle" ∧ y_Resolver_gather.cls ≠ "java/lang/invoke/VarHandle" ∧ (parseMethodDescriptor y_Resolver_gather.desc).map (fun d => d.parameters.length) = some 2 := ⟨rfl, by decide, by decide, by decide +kernel⟩
abbrev b_Resolver_outermost : ByteArray := prog_7_method_8_code
abbrev y_Resolver_outermost : MethodName := ⟨"InferReduce$Resolver", "outermost", "(I)I"⟩
theorem dd_Resolver_outermost : y_Resolver_outermost.cls = "InferReduce$Resolver" ∧ y_Resolver_outermost.cls ≠ "java/lang/invoke/MethodHandle" ∧ y_Resolver_outermost.cls ≠ "java/lang/invoke/VarHandle" ∧ (parseMethodDescriptor y_Resolver_outermost.desc).map (fun d => d.parameters.length) = some 1 := ⟨rfl, by decide, by decide, by decide +kernel⟩
abbrev b_Resolver_joinOfClasses : ByteArray := prog_7_method_9_code
abbrev y_Resolver_joinOfClasses : MethodName := ⟨"InferReduce$Resolver", "joinOfClasses", "()I"⟩
theorem dd_Resolver_joinOfClasses : y_Resolver_joinOfClasses.cls = "InferReduce$Resolver" ∧ y_Resolver_joinOfClasses.cls ≠ "java/lang/invoke/MethodHandle" ∧ y_Resolver_joinOfClasses.cls ≠ "java/lang/invoke/VarHandle" ∧ (parseMethodDescriptor y_Resolver_joinOfClasses.desc).map (fun d => d.parameters.length) = some 0 := ⟨rfl, by decide, by decide, by decide +kernel⟩
abbrev b_Resolver_isAboveAll : ByteArray := prog_7_method_10_code
abbrev y_Resolver_isAboveAll : MethodName := ⟨"InferReduce$Resolver", "isAboveAll", "(I)I"⟩
theorem dd_Resolver_isAboveAll : y_Resolver_isAboveAll.cls = "InferReduce$Resolver" ∧ y_Resolver_isAboveAll.cls ≠ "java/lang/invoke/MethodHandle" ∧ y_Resolver_isAboveAll.cls ≠ "java/lang/invoke/VarHandle" ∧ (parseMethodDescriptor y_Resolver_isAboveAll.desc).map (fun d => d.parameters.length) = some 1 := ⟨rfl, by decide, by decide, by decide +kernel⟩
abbrev b_Resolver_isAboveAnother : ByteArray := prog_7_method_11_code
abbrev y_Resolver_isAboveAnother : MethodName := ⟨"InferReduce$Resolver", "isAboveAnother", "(IJ)I"⟩
theorem dd_Resolver_isAboveAnother : y_Resolver_isAboveAnother.cls = "InferReduce$Resolver" ∧ y_Resolver_isAboveAnother.cls ≠ "java/lang/invoke/MethodHandle" ∧ y_Resolver_isAboveAnother.cls ≠ "java/lang/invoke/VarHandle" ∧ (parseMethodDescriptor y_Resolver_isAboveAnother.desc).map (fun d => d.parameters.length) = some 2 := ⟨rfl, by decide, by decide, by decide +kernel⟩
abbrev b_Resolver_joinAs : ByteArray := prog_7_method_12_code
abbrev y_Resolver_joinAs : MethodName := ⟨"InferReduce$Resolver", "joinAs", "(I)I"⟩
theorem dd_Resolver_joinAs : y_Resolver_joinAs.cls = "InferReduce$Resolver" ∧ y_Resolver_joinAs.cls ≠ "java/lang/invoke/MethodHandle" ∧ y_Resolver_joinAs.cls ≠ "java/lang/invoke/VarHandle" ∧ (parseMethodDescriptor y_Resolver_joinAs.desc).map (fun d => d.parameters.length) = some 1 := ⟨rfl, by decide, by decide, by decide +kernel⟩
abbrev b_Resolver_sharedArgument : ByteArray := prog_7_method_13_code
abbrev y_Resolver_sharedArgument : MethodName := ⟨"InferReduce$Resolver", "sharedArgument", "(II)I"⟩
theorem dd_Resolver_sharedArgument : y_Resolver_sharedArgument.cls = "InferReduce$Resolver" ∧ y_Resolver_sharedArgument.cls ≠ "java/lang/invoke/MethodHandle" ∧ y_Resolver_sharedArgument.cls ≠ "java/lang/invoke/VarHandle" ∧ (parseMethodDescriptor y_Resolver_sharedArgument.desc).map (fun d => d.parameters.length) = some 2 := ⟨rfl, by decide, by decide, by decide +kernel⟩
abbrev b_Told_init : ByteArray := prog_8_method_1_code
abbrev y_Told_init : MethodName := ⟨"InferReduce$Told", "<init>", "()V"⟩
theorem dd_Told_init : y_Told_init.cls = "InferReduce$Told" ∧ y_Told_init.cls ≠ "java/lang/invoke/MethodHandle" ∧ y_Told_init.cls ≠ "java/lang/invoke/VarHandle" ∧ (parseMethodDescriptor y_Told_init.desc).map (fun d => d.parameters.length) = some 0 := ⟨rfl, by decide, by decide, by decide +kernel⟩
abbrev b_Told_has : ByteArray := prog_8_method_2_code
abbrev y_Told_has : MethodName := ⟨"InferReduce$Told", "has", "(I)Z"⟩
theorem dd_Told_has : y_Told_has.cls = "InferReduce$Told" ∧ y_Told_has.cls ≠ "java/lang/invoke/MethodHandle" ∧ y_Told_has.cls ≠ "java/lang/invoke/VarHandle" ∧ (parseMethodDescriptor y_Told_has.desc).map (fun d => d.parameters.length) = some 1 := ⟨rfl, by decide, by decide, by decide +kernel⟩
abbrev b_Told_hasRoom : ByteArray := prog_8_method_3_code
abbrev y_Told_hasRoom : MethodName := ⟨"InferReduce$Told", "hasRoom", "()Z"⟩
theorem dd_Told_hasRoom : y_Told_hasRoom.cls = "InferReduce$Told" ∧ y_Told_hasRoom.cls ≠ "java/lang/invoke/MethodHandle" ∧ y_Told_hasRoom.cls ≠ "java/lang/invoke/VarHandle" ∧ (parseMethodDescriptor y_Told_hasRoom.desc).map (fun d => d.parameters.length) = some 0 := ⟨rfl, by decide, by decide, by decide +kernel⟩
abbrev b_Told_add : ByteArray := prog_8_method_4_code
abbrev y_Told_add : MethodName := ⟨"InferReduce$Told", "add", "(III)I"⟩
theorem dd_Told_add : y_Told_add.cls = "InferReduce$Told" ∧ y_Told_add.cls ≠ "java/lang/invoke/MethodHandle" ∧ y_Told_add.cls ≠ "java/lang/invoke/VarHandle" ∧ (parseMethodDescriptor y_Told_add.desc).map (fun d => d.parameters.length) = some 3 := ⟨rfl, by decide, by decide, by decide +kernel⟩
abbrev b_Told_sortOf : ByteArray := prog_8_method_5_code
abbrev y_Told_sortOf : MethodName := ⟨"InferReduce$Told", "sortOf", "(I)I"⟩
theorem dd_Told_sortOf : y_Told_sortOf.cls = "InferReduce$Told" ∧ y_Told_sortOf.cls ≠ "java/lang/invoke/MethodHandle" ∧ y_Told_sortOf.cls ≠ "java/lang/invoke/VarHandle" ∧ (parseMethodDescriptor y_Told_sortOf.desc).map (fun d => d.parameters.length) = some 1 := ⟨rfl, by decide, by decide, by decide +kernel⟩
abbrev b_Told_leftOf : ByteArray := prog_8_method_6_code
abbrev y_Told_leftOf : MethodName := ⟨"InferReduce$Told", "leftOf", "(I)I"⟩
theorem dd_Told_leftOf : y_Told_leftOf.cls = "InferReduce$Told" ∧ y_Told_leftOf.cls ≠ "java/lang/invoke/MethodHandle" ∧ y_Told_leftOf.cls ≠ "java/lang/invoke/VarHandle" ∧ (parseMethodDescriptor y_Told_leftOf.desc).map (fun d => d.parameters.length) = some 1 := ⟨rfl, by decide, by decide, by decide +kernel⟩
abbrev b_Told_rightOf : ByteArray := prog_8_method_7_code
abbrev y_Told_rightOf : MethodName := ⟨"InferReduce$Told", "rightOf", "(I)I"⟩
theorem dd_Told_rightOf : y_Told_rightOf.cls = "InferReduce$Told" ∧ y_Told_rightOf.cls ≠ "java/lang/invoke/MethodHandle" ∧ y_Told_rightOf.cls ≠ "java/lang/invoke/VarHandle" ∧ (parseMethodDescriptor y_Told_rightOf.desc).map (fun d => d.parameters.length) = some 1 := ⟨rfl, by decide, by decide, by decide +kernel⟩
abbrev b_Told_markUnchecked : ByteArray := prog_8_method_8_code
abbrev y_Told_markUnchecked : MethodName := ⟨"InferReduce$Told", "markUnchecked", "(I)V"⟩
theorem dd_Told_markUnchecked : y_Told_markUnchecked.cls = "InferReduce$Told" ∧ y_Told_markUnchecked.cls ≠ "java/lang/invoke/MethodHandle" ∧ y_Told_markUnchecked.cls ≠ "java/lang/invoke/VarHandle" ∧ (parseMethodDescriptor y_Told_markUnchecked.desc).map (fun d => d.parameters.length) = some 1 := ⟨rfl, by decide, by decide, by decide +kernel⟩
abbrev b_Told_isUnchecked : ByteArray := prog_8_method_9_code
abbrev y_Told_isUnchecked : MethodName := ⟨"InferReduce$Told", "isUnchecked", "(I)Z"⟩
theorem dd_Told_isUnchecked : y_Told_isUnchecked.cls = "InferReduce$Told" ∧ y_Told_isUnchecked.cls ≠ "java/lang/invoke/MethodHandle" ∧ y_Told_isUnchecked.cls ≠ "java/lang/invoke/VarHandle" ∧ (parseMethodDescriptor y_Told_isUnchecked.desc).map (fun d => d.parameters.length) = some 1 := ⟨rfl, by decide, by decide, by decide +kernel⟩
abbrev b_Types_init : ByteArray := prog_9_method_1_code
abbrev y_Types_init : MethodName := ⟨"InferReduce$Types", "<init>", "()V"⟩
theorem dd_Types_init : y_Types_init.cls = "InferReduce$Types" ∧ y_Types_init.cls ≠ "java/lang/invoke/MethodHandle" ∧ y_Types_init.cls ≠ "java/lang/invoke/VarHandle" ∧ (parseMethodDescriptor y_Types_init.desc).map (fun d => d.parameters.length) = some 0 := ⟨rfl, by decide, by decide, by decide +kernel⟩
abbrev b_Types_has : ByteArray := prog_9_method_2_code
abbrev y_Types_has : MethodName := ⟨"InferReduce$Types", "has", "(I)Z"⟩
theorem dd_Types_has : y_Types_has.cls = "InferReduce$Types" ∧ y_Types_has.cls ≠ "java/lang/invoke/MethodHandle" ∧ y_Types_has.cls ≠ "java/lang/invoke/VarHandle" ∧ (parseMethodDescriptor y_Types_has.desc).map (fun d => d.parameters.length) = some 1 := ⟨rfl, by decide, by decide, by decide +kernel⟩
abbrev b_Types_kindOf : ByteArray := prog_9_method_3_code
abbrev y_Types_kindOf : MethodName := ⟨"InferReduce$Types", "kindOf", "(I)I"⟩
theorem dd_Types_kindOf : y_Types_kindOf.cls = "InferReduce$Types" ∧ y_Types_kindOf.cls ≠ "java/lang/invoke/MethodHandle" ∧ y_Types_kindOf.cls ≠ "java/lang/invoke/VarHandle" ∧ (parseMethodDescriptor y_Types_kindOf.desc).map (fun d => d.parameters.length) = some 1 := ⟨rfl, by decide, by decide, by decide +kernel⟩
abbrev b_Types_firstOf : ByteArray := prog_9_method_4_code
abbrev y_Types_firstOf : MethodName := ⟨"InferReduce$Types", "firstOf", "(I)I"⟩
theorem dd_Types_firstOf : y_Types_firstOf.cls = "InferReduce$Types" ∧ y_Types_firstOf.cls ≠ "java/lang/invoke/MethodHandle" ∧ y_Types_firstOf.cls ≠ "java/lang/invoke/VarHandle" ∧ (parseMethodDescriptor y_Types_firstOf.desc).map (fun d => d.parameters.length) = some 1 := ⟨rfl, by decide, by decide, by decide +kernel⟩
abbrev b_Types_secondOf : ByteArray := prog_9_method_5_code
abbrev y_Types_secondOf : MethodName := ⟨"InferReduce$Types", "secondOf", "(I)I"⟩
theorem dd_Types_secondOf : y_Types_secondOf.cls = "InferReduce$Types" ∧ y_Types_secondOf.cls ≠ "java/lang/invoke/MethodHandle" ∧ y_Types_secondOf.cls ≠ "java/lang/invoke/VarHandle" ∧ (parseMethodDescriptor y_Types_secondOf.desc).map (fun d => d.parameters.length) = some 1 := ⟨rfl, by decide, by decide, by decide +kernel⟩
abbrev b_Types_thirdOf : ByteArray := prog_9_method_6_code
abbrev y_Types_thirdOf : MethodName := ⟨"InferReduce$Types", "thirdOf", "(I)I"⟩
theorem dd_Types_thirdOf : y_Types_thirdOf.cls = "InferReduce$Types" ∧ y_Types_thirdOf.cls ≠ "java/lang/invoke/MethodHandle" ∧ y_Types_thirdOf.cls ≠ "java/lang/invoke/VarHandle" ∧ (parseMethodDescriptor y_Types_thirdOf.desc).map (fun d => d.parameters.length) = some 1 := ⟨rfl, by decide, by decide, by decide +kernel⟩
abbrev b_Types_depthOf : ByteArray := prog_9_method_7_code
abbrev y_Types_depthOf : MethodName := ⟨"InferReduce$Types", "depthOf", "(I)I"⟩
theorem dd_Types_depthOf : y_Types_depthOf.cls = "InferReduce$Types" ∧ y_Types_depthOf.cls ≠ "java/lang/invoke/MethodHandle" ∧ y_Types_depthOf.cls ≠ "java/lang/invoke/VarHandle" ∧ (parseMethodDescriptor y_Types_depthOf.desc).map (fun d => d.parameters.length) = some 1 := ⟨rfl, by decide, by decide, by decide +kernel⟩
abbrev b_Types_variablesIn : ByteArray := prog_9_method_8_code
abbrev y_Types_variablesIn : MethodName := ⟨"InferReduce$Types", "variablesIn", "(I)I"⟩
theorem dd_Types_variablesIn : y_Types_variablesIn.cls = "InferReduce$Types" ∧ y_Types_variablesIn.cls ≠ "java/lang/invoke/MethodHandle" ∧ y_Types_variablesIn.cls ≠ "java/lang/invoke/VarHandle" ∧ (parseMethodDescriptor y_Types_variablesIn.desc).map (fun d => d.parameters.length) = some 1 := ⟨rfl, by decide, by decide, by decide +kernel⟩
abbrev b_Types_isProper : ByteArray := prog_9_method_9_code
abbrev y_Types_isProper : MethodName := ⟨"InferReduce$Types", "isProper", "(I)Z"⟩
theorem dd_Types_isProper : y_Types_isProper.cls = "InferReduce$Types" ∧ y_Types_isProper.cls ≠ "java/lang/invoke/MethodHandle" ∧ y_Types_isProper.cls ≠ "java/lang/invoke/VarHandle" ∧ (parseMethodDescriptor y_Types_isProper.desc).map (fun d => d.parameters.length) = some 1 := ⟨rfl, by decide, by decide, by decide +kernel⟩
abbrev b_Types_hasInIt : ByteArray := prog_9_method_10_code
abbrev y_Types_hasInIt : MethodName := ⟨"InferReduce$Types", "hasInIt", "(II)Z"⟩
theorem dd_Types_hasInIt : y_Types_hasInIt.cls = "InferReduce$Types" ∧ y_Types_hasInIt.cls ≠ "java/lang/invoke/MethodHandle" ∧ y_Types_hasInIt.cls ≠ "java/lang/invoke/VarHandle" ∧ (parseMethodDescriptor y_Types_hasInIt.desc).map (fun d => d.parameters.length) = some 2 := ⟨rfl, by decide, by decide, by decide +kernel⟩
abbrev b_Types_ownersIn : ByteArray := prog_9_method_11_code
abbrev y_Types_ownersIn : MethodName := ⟨"InferReduce$Types", "ownersIn", "(II)J"⟩
theorem dd_Types_ownersIn : y_Types_ownersIn.cls = "InferReduce$Types" ∧ y_Types_ownersIn.cls ≠ "java/lang/invoke/MethodHandle" ∧ y_Types_ownersIn.cls ≠ "java/lang/invoke/VarHandle" ∧ (parseMethodDescriptor y_Types_ownersIn.desc).map (fun d => d.parameters.length) = some 2 := ⟨rfl, by decide, by decide, by decide +kernel⟩
abbrev b_Types_isOfClassesBefore : ByteArray := prog_9_method_12_code
abbrev y_Types_isOfClassesBefore : MethodName := ⟨"InferReduce$Types", "isOfClassesBefore", "(II)Z"⟩
theorem dd_Types_isOfClassesBefore : y_Types_isOfClassesBefore.cls = "InferReduce$Types" ∧ y_Types_isOfClassesBefore.cls ≠ "java/lang/invoke/MethodHandle" ∧ y_Types_isOfClassesBefore.cls ≠ "java/lang/invoke/VarHandle" ∧ (parseMethodDescriptor y_Types_isOfClassesBefore.desc).map (fun d => d.parameters.length) = some 2 := ⟨rfl, by decide, by decide, by decide +kernel⟩
abbrev b_Types_argumentOf : ByteArray := prog_9_method_13_code
abbrev y_Types_argumentOf : MethodName := ⟨"InferReduce$Types", "argumentOf", "(II)I"⟩
theorem dd_Types_argumentOf : y_Types_argumentOf.cls = "InferReduce$Types" ∧ y_Types_argumentOf.cls ≠ "java/lang/invoke/MethodHandle" ∧ y_Types_argumentOf.cls ≠ "java/lang/invoke/VarHandle" ∧ (parseMethodDescriptor y_Types_argumentOf.desc).map (fun d => d.parameters.length) = some 2 := ⟨rfl, by decide, by decide, by decide +kernel⟩
abbrev b_Types_classOf : ByteArray := prog_9_method_14_code
abbrev y_Types_classOf : MethodName := ⟨"InferReduce$Types", "classOf", "(I)I"⟩
theorem dd_Types_classOf : y_Types_classOf.cls = "InferReduce$Types" ∧ y_Types_classOf.cls ≠ "java/lang/invoke/MethodHandle" ∧ y_Types_classOf.cls ≠ "java/lang/invoke/VarHandle" ∧ (parseMethodDescriptor y_Types_classOf.desc).map (fun d => d.parameters.length) = some 1 := ⟨rfl, by decide, by decide, by decide +kernel⟩
abbrev b_Types_captureBound : ByteArray := prog_9_method_15_code
abbrev y_Types_captureBound : MethodName := ⟨"InferReduce$Types", "captureBound", "(II)I"⟩
theorem dd_Types_captureBound : y_Types_captureBound.cls = "InferReduce$Types" ∧ y_Types_captureBound.cls ≠ "java/lang/invoke/MethodHandle" ∧ y_Types_captureBound.cls ≠ "java/lang/invoke/VarHandle" ∧ (parseMethodDescriptor y_Types_captureBound.desc).map (fun d => d.parameters.length) = some 2 := ⟨rfl, by decide, by decide, by decide +kernel⟩
abbrev b_Types_make : ByteArray := prog_9_method_16_code
abbrev y_Types_make : MethodName := ⟨"InferReduce$Types", "make", "(IIII)I"⟩
theorem dd_Types_make : y_Types_make.cls = "InferReduce$Types" ∧ y_Types_make.cls ≠ "java/lang/invoke/MethodHandle" ∧ y_Types_make.cls ≠ "java/lang/invoke/VarHandle" ∧ (parseMethodDescriptor y_Types_make.desc).map (fun d => d.parameters.length) = some 4 := ⟨rfl, by decide, by decide, by decide +kernel⟩
abbrev b_Work_init : ByteArray := prog_10_method_1_code
abbrev y_Work_init : MethodName := ⟨"InferReduce$Work", "<init>", "()V"⟩
theorem dd_Work_init : y_Work_init.cls = "InferReduce$Work" ∧ y_Work_init.cls ≠ "java/lang/invoke/MethodHandle" ∧ y_Work_init.cls ≠ "java/lang/invoke/VarHandle" ∧ (parseMethodDescriptor y_Work_init.desc).map (fun d => d.parameters.length) = some 0 := ⟨rfl, by decide, by decide, by decide +kernel⟩
abbrev b_Work_add : ByteArray := prog_10_method_2_code
abbrev y_Work_add : MethodName := ⟨"InferReduce$Work", "add", "(IIII)Z"⟩
theorem dd_Work_add : y_Work_add.cls = "InferReduce$Work" ∧ y_Work_add.cls ≠ "java/lang/invoke/MethodHandle" ∧ y_Work_add.cls ≠ "java/lang/invoke/VarHandle" ∧ (parseMethodDescriptor y_Work_add.desc).map (fun d => d.parameters.length) = some 4 := ⟨rfl, by decide, by decide, by decide +kernel⟩
abbrev b_Work_take : ByteArray := prog_10_method_3_code
abbrev y_Work_take : MethodName := ⟨"InferReduce$Work", "take", "()Z"⟩
theorem dd_Work_take : y_Work_take.cls = "InferReduce$Work" ∧ y_Work_take.cls ≠ "java/lang/invoke/MethodHandle" ∧ y_Work_take.cls ≠ "java/lang/invoke/VarHandle" ∧ (parseMethodDescriptor y_Work_take.desc).map (fun d => d.parameters.length) = some 0 := ⟨rfl, by decide, by decide, by decide +kernel⟩
abbrev b_I_init : ByteArray := prog_1_method_1_code
abbrev y_I_init : MethodName := ⟨"InferReduce", "<init>", "()V"⟩
theorem dd_I_init : y_I_init.cls = "InferReduce" ∧ y_I_init.cls ≠ "java/lang/invoke/MethodHandle" ∧ y_I_init.cls ≠ "java/lang/invoke/VarHandle" ∧ (parseMethodDescriptor y_I_init.desc).map (fun d => d.parameters.length) = some 0 := ⟨rfl, by decide, by decide, by decide +kernel⟩
abbrev b_I_declare : ByteArray := prog_1_method_2_code
abbrev y_I_declare : MethodName := ⟨"InferReduce", "declare", "(I)I"⟩
theorem dd_I_declare : y_I_declare.cls = "InferReduce" ∧ y_I_declare.cls ≠ "java/lang/invoke/MethodHandle" ∧ y_I_declare.cls ≠ "java/lang/invoke/VarHandle" ∧ (parseMethodDescriptor y_I_declare.desc).map (fun d => d.parameters.length) = some 1 := ⟨rfl, by decide, by decide, by decide +kernel⟩
abbrev b_I_parent : ByteArray := prog_1_method_3_code
abbrev y_I_parent : MethodName := ⟨"InferReduce", "parent", "(II)I"⟩
theorem dd_I_parent : y_I_parent.cls = "InferReduce" ∧ y_I_parent.cls ≠ "java/lang/invoke/MethodHandle" ∧ y_I_parent.cls ≠ "java/lang/invoke/VarHandle" ∧ (parseMethodDescriptor y_I_parent.desc).map (fun d => d.parameters.length) = some 2 := ⟨rfl, by decide, by decide, by decide +kernel⟩
abbrev b_I_plain : ByteArray := prog_1_method_4_code
abbrev y_I_plain : MethodName := ⟨"InferReduce", "plain", "(I)I"⟩
theorem dd_I_plain : y_I_plain.cls = "InferReduce" ∧ y_I_plain.cls ≠ "java/lang/invoke/MethodHandle" ∧ y_I_plain.cls ≠ "java/lang/invoke/VarHandle" ∧ (parseMethodDescriptor y_I_plain.desc).map (fun d => d.parameters.length) = some 1 := ⟨rfl, by decide, by decide, by decide +kernel⟩
abbrev b_I_of : ByteArray := prog_1_method_5_code
abbrev y_I_of : MethodName := ⟨"InferReduce", "of", "(III)I"⟩
theorem dd_I_of : y_I_of.cls = "InferReduce" ∧ y_I_of.cls ≠ "java/lang/invoke/MethodHandle" ∧ y_I_of.cls ≠ "java/lang/invoke/VarHandle" ∧ (parseMethodDescriptor y_I_of.desc).map (fun d => d.parameters.length) = some 3 := ⟨rfl, by decide, by decide, by decide +kernel⟩
abbrev b_I_wild : ByteArray := prog_1_method_6_code
abbrev y_I_wild : MethodName := ⟨"InferReduce", "wild", "(II)I"⟩
theorem dd_I_wild : y_I_wild.cls = "InferReduce" ∧ y_I_wild.cls ≠ "java/lang/invoke/MethodHandle" ∧ y_I_wild.cls ≠ "java/lang/invoke/VarHandle" ∧ (parseMethodDescriptor y_I_wild.desc).map (fun d => d.parameters.length) = some 2 := ⟨rfl, by decide, by decide, by decide +kernel⟩
abbrev b_I_parameter : ByteArray := prog_1_method_7_code
abbrev y_I_parameter : MethodName := ⟨"InferReduce", "parameter", "(II)I"⟩
theorem dd_I_parameter : y_I_parameter.cls = "InferReduce" ∧ y_I_parameter.cls ≠ "java/lang/invoke/MethodHandle" ∧ y_I_parameter.cls ≠ "java/lang/invoke/VarHandle" ∧ (parseMethodDescriptor y_I_parameter.desc).map (fun d => d.parameters.length) = some 2 := ⟨rfl, by decide, by decide, by decide +kernel⟩
abbrev b_I_array : ByteArray := prog_1_method_8_code
abbrev y_I_array : MethodName := ⟨"InferReduce", "array", "(I)I"⟩
theorem dd_I_array : y_I_array.cls = "InferReduce" ∧ y_I_array.cls ≠ "java/lang/invoke/MethodHandle" ∧ y_I_array.cls ≠ "java/lang/invoke/VarHandle" ∧ (parseMethodDescriptor y_I_array.desc).map (fun d => d.parameters.length) = some 1 := ⟨rfl, by decide, by decide, by decide +kernel⟩
abbrev b_I_primitive : ByteArray := prog_1_method_9_code
abbrev y_I_primitive : MethodName := ⟨"InferReduce", "primitive", "(I)I"⟩
theorem dd_I_primitive : y_I_primitive.cls = "InferReduce" ∧ y_I_primitive.cls ≠ "java/lang/invoke/MethodHandle" ∧ y_I_primitive.cls ≠ "java/lang/invoke/VarHandle" ∧ (parseMethodDescriptor y_I_primitive.desc).map (fun d => d.parameters.length) = some 1 := ⟨rfl, by decide, by decide, by decide +kernel⟩
abbrev b_I_nothing : ByteArray := prog_1_method_10_code
abbrev y_I_nothing : MethodName := ⟨"InferReduce", "nothing", "()I"⟩
theorem dd_I_nothing : y_I_nothing.cls = "InferReduce" ∧ y_I_nothing.cls ≠ "java/lang/invoke/MethodHandle" ∧ y_I_nothing.cls ≠ "java/lang/invoke/VarHandle" ∧ (parseMethodDescriptor y_I_nothing.desc).map (fun d => d.parameters.length) = some 0 := ⟨rfl, by decide, by decide, by decide +kernel⟩
abbrev b_I_variable : ByteArray := prog_1_method_11_code
abbrev y_I_variable : MethodName := ⟨"InferReduce", "variable", "()I"⟩
theorem dd_I_variable : y_I_variable.cls = "InferReduce" ∧ y_I_variable.cls ≠ "java/lang/invoke/MethodHandle" ∧ y_I_variable.cls ≠ "java/lang/invoke/VarHandle" ∧ (parseMethodDescriptor y_I_variable.desc).map (fun d => d.parameters.length) = some 0 := ⟨rfl, by decide, by decide, by decide +kernel⟩
abbrev b_I_formula : ByteArray := prog_1_method_12_code
abbrev y_I_formula : MethodName := ⟨"InferReduce", "formula", "(III)I"⟩
theorem dd_I_formula : y_I_formula.cls = "InferReduce" ∧ y_I_formula.cls ≠ "java/lang/invoke/MethodHandle" ∧ y_I_formula.cls ≠ "java/lang/invoke/VarHandle" ∧ (parseMethodDescriptor y_I_formula.desc).map (fun d => d.parameters.length) = some 3 := ⟨rfl, by decide, by decide, by decide +kernel⟩
abbrev b_I_resolve : ByteArray := prog_1_method_13_code
abbrev y_I_resolve : MethodName := ⟨"InferReduce", "resolve", "()I"⟩
theorem dd_I_resolve : y_I_resolve.cls = "InferReduce" ∧ y_I_resolve.cls ≠ "java/lang/invoke/MethodHandle" ∧ y_I_resolve.cls ≠ "java/lang/invoke/VarHandle" ∧ (parseMethodDescriptor y_I_resolve.desc).map (fun d => d.parameters.length) = some 0 := ⟨rfl, by decide, by decide, by decide +kernel⟩
abbrev b_I_clear : ByteArray := prog_1_method_14_code
abbrev y_I_clear : MethodName := ⟨"InferReduce", "clear", "()I"⟩
theorem dd_I_clear : y_I_clear.cls = "InferReduce" ∧ y_I_clear.cls ≠ "java/lang/invoke/MethodHandle" ∧ y_I_clear.cls ≠ "java/lang/invoke/VarHandle" ∧ (parseMethodDescriptor y_I_clear.desc).map (fun d => d.parameters.length) = some 0 := ⟨rfl, by decide, by decide, by decide +kernel⟩
abbrev b_I_count : ByteArray := prog_1_method_15_code
abbrev y_I_count : MethodName := ⟨"InferReduce", "count", "(I)I"⟩
theorem dd_I_count : y_I_count.cls = "InferReduce" ∧ y_I_count.cls ≠ "java/lang/invoke/MethodHandle" ∧ y_I_count.cls ≠ "java/lang/invoke/VarHandle" ∧ (parseMethodDescriptor y_I_count.desc).map (fun d => d.parameters.length) = some 1 := ⟨rfl, by decide, by decide, by decide +kernel⟩
abbrev b_I_type : ByteArray := prog_1_method_16_code
abbrev y_I_type : MethodName := ⟨"InferReduce", "type", "(II)I"⟩
theorem dd_I_type : y_I_type.cls = "InferReduce" ∧ y_I_type.cls ≠ "java/lang/invoke/MethodHandle" ∧ y_I_type.cls ≠ "java/lang/invoke/VarHandle" ∧ (parseMethodDescriptor y_I_type.desc).map (fun d => d.parameters.length) = some 2 := ⟨rfl, by decide, by decide, by decide +kernel⟩
abbrev b_I_bound : ByteArray := prog_1_method_17_code
abbrev y_I_bound : MethodName := ⟨"InferReduce", "bound", "(II)I"⟩
theorem dd_I_bound : y_I_bound.cls = "InferReduce" ∧ y_I_bound.cls ≠ "java/lang/invoke/MethodHandle" ∧ y_I_bound.cls ≠ "java/lang/invoke/VarHandle" ∧ (parseMethodDescriptor y_I_bound.desc).map (fun d => d.parameters.length) = some 2 := ⟨rfl, by decide, by decide, by decide +kernel⟩
abbrev b_I_instance : ByteArray := prog_1_method_18_code
abbrev y_I_instance : MethodName := ⟨"InferReduce", "instance", "(I)I"⟩
theorem dd_I_instance : y_I_instance.cls = "InferReduce" ∧ y_I_instance.cls ≠ "java/lang/invoke/MethodHandle" ∧ y_I_instance.cls ≠ "java/lang/invoke/VarHandle" ∧ (parseMethodDescriptor y_I_instance.desc).map (fun d => d.parameters.length) = some 1 := ⟨rfl, by decide, by decide, by decide +kernel⟩
abbrev b_I_above : ByteArray := prog_1_method_19_code
abbrev y_I_above : MethodName := ⟨"InferReduce", "above", "(II)I"⟩
theorem dd_I_above : y_I_above.cls = "InferReduce" ∧ y_I_above.cls ≠ "java/lang/invoke/MethodHandle" ∧ y_I_above.cls ≠ "java/lang/invoke/VarHandle" ∧ (parseMethodDescriptor y_I_above.desc).map (fun d => d.parameters.length) = some 2 := ⟨rfl, by decide, by decide, by decide +kernel⟩
abbrev b_I_unchecked : ByteArray := prog_1_method_20_code
abbrev y_I_unchecked : MethodName := ⟨"InferReduce", "unchecked", "(I)I"⟩
theorem dd_I_unchecked : y_I_unchecked.cls = "InferReduce" ∧ y_I_unchecked.cls ≠ "java/lang/invoke/MethodHandle" ∧ y_I_unchecked.cls ≠ "java/lang/invoke/VarHandle" ∧ (parseMethodDescriptor y_I_unchecked.desc).map (fun d => d.parameters.length) = some 1 := ⟨rfl, by decide, by decide, by decide +kernel⟩
abbrev b_I_judge : ByteArray := prog_1_method_21_code
abbrev y_I_judge : MethodName := ⟨"InferReduce", "judge", "(I)I"⟩
theorem dd_I_judge : y_I_judge.cls = "InferReduce" ∧ y_I_judge.cls ≠ "java/lang/invoke/MethodHandle" ∧ y_I_judge.cls ≠ "java/lang/invoke/VarHandle" ∧ (parseMethodDescriptor y_I_judge.desc).map (fun d => d.parameters.length) = some 1 := ⟨rfl, by decide, by decide, by decide +kernel⟩
abbrev b_I_canBeArgument : ByteArray := prog_1_method_22_code
abbrev y_I_canBeArgument : MethodName := ⟨"InferReduce", "canBeArgument", "(I)Z"⟩
theorem dd_I_canBeArgument : y_I_canBeArgument.cls = "InferReduce" ∧ y_I_canBeArgument.cls ≠ "java/lang/invoke/MethodHandle" ∧ y_I_canBeArgument.cls ≠ "java/lang/invoke/VarHandle" ∧ (parseMethodDescriptor y_I_canBeArgument.desc).map (fun d => d.parameters.length) = some 1 := ⟨rfl, by decide, by decide, by decide +kernel⟩
abbrev b_I_canBeTold : ByteArray := prog_1_method_23_code
abbrev y_I_canBeTold : MethodName := ⟨"InferReduce", "canBeTold", "(II)Z"⟩
theorem dd_I_canBeTold : y_I_canBeTold.cls = "InferReduce" ∧ y_I_canBeTold.cls ≠ "java/lang/invoke/MethodHandle" ∧ y_I_canBeTold.cls ≠ "java/lang/invoke/VarHandle" ∧ (parseMethodDescriptor y_I_canBeTold.desc).map (fun d => d.parameters.length) = some 2 := ⟨rfl, by decide, by decide, by decide +kernel⟩
abbrev b_I_canBeParent : ByteArray := prog_1_method_24_code
abbrev y_I_canBeParent : MethodName := ⟨"InferReduce", "canBeParent", "(II)Z"⟩
theorem dd_I_canBeParent : y_I_canBeParent.cls = "InferReduce" ∧ y_I_canBeParent.cls ≠ "java/lang/invoke/MethodHandle" ∧ y_I_canBeParent.cls ≠ "java/lang/invoke/VarHandle" ∧ (parseMethodDescriptor y_I_canBeParent.desc).map (fun d => d.parameters.length) = some 2 := ⟨rfl, by decide, by decide, by decide +kernel⟩
abbrev b_I_takeState : ByteArray := prog_1_method_25_code
abbrev y_I_takeState : MethodName := ⟨"InferReduce", "takeState", "(II)V"⟩
theorem dd_I_takeState : y_I_takeState.cls = "InferReduce" ∧ y_I_takeState.cls ≠ "java/lang/invoke/MethodHandle" ∧ y_I_takeState.cls ≠ "java/lang/invoke/VarHandle" ∧ (parseMethodDescriptor y_I_takeState.desc).map (fun d => d.parameters.length) = some 2 := ⟨rfl, by decide, by decide, by decide +kernel⟩
abbrev b_M_init : ByteArray := prog_12_method_1_code
abbrev y_M_init : MethodName := ⟨"InferReduceModel", "<init>", "()V"⟩
theorem dd_M_init : y_M_init.cls = "InferReduceModel" ∧ y_M_init.cls ≠ "java/lang/invoke/MethodHandle" ∧ y_M_init.cls ≠ "java/lang/invoke/VarHandle" ∧ (parseMethodDescriptor y_M_init.desc).map (fun d => d.parameters.length) = some 0 := ⟨rfl, by decide, by decide, by decide +kernel⟩
abbrev b_M_make : ByteArray := prog_12_method_2_code
abbrev y_M_make : MethodName := ⟨"InferReduceModel", "make", "(IIII)I"⟩
theorem dd_M_make : y_M_make.cls = "InferReduceModel" ∧ y_M_make.cls ≠ "java/lang/invoke/MethodHandle" ∧ y_M_make.cls ≠ "java/lang/invoke/VarHandle" ∧ (parseMethodDescriptor y_M_make.desc).map (fun d => d.parameters.length) = some 4 := ⟨rfl, by decide, by decide, by decide +kernel⟩
abbrev b_M_made : ByteArray := prog_12_method_3_code
abbrev y_M_made : MethodName := ⟨"InferReduceModel", "made", "(I)I"⟩
theorem dd_M_made : y_M_made.cls = "InferReduceModel" ∧ y_M_made.cls ≠ "java/lang/invoke/MethodHandle" ∧ y_M_made.cls ≠ "java/lang/invoke/VarHandle" ∧ (parseMethodDescriptor y_M_made.desc).map (fun d => d.parameters.length) = some 1 := ⟨rfl, by decide, by decide, by decide +kernel⟩
abbrev b_M_plainOf : ByteArray := prog_12_method_4_code
abbrev y_M_plainOf : MethodName := ⟨"InferReduceModel", "plainOf", "(I)I"⟩
theorem dd_M_plainOf : y_M_plainOf.cls = "InferReduceModel" ∧ y_M_plainOf.cls ≠ "java/lang/invoke/MethodHandle" ∧ y_M_plainOf.cls ≠ "java/lang/invoke/VarHandle" ∧ (parseMethodDescriptor y_M_plainOf.desc).map (fun d => d.parameters.length) = some 1 := ⟨rfl, by decide, by decide, by decide +kernel⟩
abbrev b_M_isType : ByteArray := prog_12_method_5_code
abbrev y_M_isType : MethodName := ⟨"InferReduceModel", "isType", "(I)Z"⟩
theorem dd_M_isType : y_M_isType.cls = "InferReduceModel" ∧ y_M_isType.cls ≠ "java/lang/invoke/MethodHandle" ∧ y_M_isType.cls ≠ "java/lang/invoke/VarHandle" ∧ (parseMethodDescriptor y_M_isType.desc).map (fun d => d.parameters.length) = some 1 := ⟨rfl, by decide, by decide, by decide +kernel⟩
abbrev b_M_isClass : ByteArray := prog_12_method_6_code
abbrev y_M_isClass : MethodName := ⟨"InferReduceModel", "isClass", "(I)Z"⟩
theorem dd_M_isClass : y_M_isClass.cls = "InferReduceModel" ∧ y_M_isClass.cls ≠ "java/lang/invoke/MethodHandle" ∧ y_M_isClass.cls ≠ "java/lang/invoke/VarHandle" ∧ (parseMethodDescriptor y_M_isClass.desc).map (fun d => d.parameters.length) = some 1 := ⟨rfl, by decide, by decide, by decide +kernel⟩
abbrev b_M_declare : ByteArray := prog_12_method_7_code
abbrev y_M_declare : MethodName := ⟨"InferReduceModel", "declare", "(I)I"⟩
theorem dd_M_declare : y_M_declare.cls = "InferReduceModel" ∧ y_M_declare.cls ≠ "java/lang/invoke/MethodHandle" ∧ y_M_declare.cls ≠ "java/lang/invoke/VarHandle" ∧ (parseMethodDescriptor y_M_declare.desc).map (fun d => d.parameters.length) = some 1 := ⟨rfl, by decide, by decide, by decide +kernel⟩
abbrev b_M_isParent : ByteArray := prog_12_method_8_code
abbrev y_M_isParent : MethodName := ⟨"InferReduceModel", "isParent", "(II)Z"⟩
theorem dd_M_isParent : y_M_isParent.cls = "InferReduceModel" ∧ y_M_isParent.cls ≠ "java/lang/invoke/MethodHandle" ∧ y_M_isParent.cls ≠ "java/lang/invoke/VarHandle" ∧ (parseMethodDescriptor y_M_isParent.desc).map (fun d => d.parameters.length) = some 2 := ⟨rfl, by decide, by decide, by decide +kernel⟩
abbrev b_M_isOfBefore : ByteArray := prog_12_method_9_code
abbrev y_M_isOfBefore : MethodName := ⟨"InferReduceModel", "isOfBefore", "(II)Z"⟩
theorem dd_M_isOfBefore : y_M_isOfBefore.cls = "InferReduceModel" ∧ y_M_isOfBefore.cls ≠ "java/lang/invoke/MethodHandle" ∧ y_M_isOfBefore.cls ≠ "java/lang/invoke/VarHandle" ∧ (parseMethodDescriptor y_M_isOfBefore.desc).map (fun d => d.parameters.length) = some 2 := ⟨rfl, by decide, by decide, by decide +kernel⟩
abbrev b_M_parent : ByteArray := prog_12_method_10_code
abbrev y_M_parent : MethodName := ⟨"InferReduceModel", "parent", "(II)I"⟩
theorem dd_M_parent : y_M_parent.cls = "InferReduceModel" ∧ y_M_parent.cls ≠ "java/lang/invoke/MethodHandle" ∧ y_M_parent.cls ≠ "java/lang/invoke/VarHandle" ∧ (parseMethodDescriptor y_M_parent.desc).map (fun d => d.parameters.length) = some 2 := ⟨rfl, by decide, by decide, by decide +kernel⟩
abbrev b_M_plain : ByteArray := prog_12_method_11_code
abbrev y_M_plain : MethodName := ⟨"InferReduceModel", "plain", "(I)I"⟩
theorem dd_M_plain : y_M_plain.cls = "InferReduceModel" ∧ y_M_plain.cls ≠ "java/lang/invoke/MethodHandle" ∧ y_M_plain.cls ≠ "java/lang/invoke/VarHandle" ∧ (parseMethodDescriptor y_M_plain.desc).map (fun d => d.parameters.length) = some 1 := ⟨rfl, by decide, by decide, by decide +kernel⟩
abbrev b_M_isArgument : ByteArray := prog_12_method_12_code
abbrev y_M_isArgument : MethodName := ⟨"InferReduceModel", "isArgument", "(I)Z"⟩
theorem dd_M_isArgument : y_M_isArgument.cls = "InferReduceModel" ∧ y_M_isArgument.cls ≠ "java/lang/invoke/MethodHandle" ∧ y_M_isArgument.cls ≠ "java/lang/invoke/VarHandle" ∧ (parseMethodDescriptor y_M_isArgument.desc).map (fun d => d.parameters.length) = some 1 := ⟨rfl, by decide, by decide, by decide +kernel⟩
abbrev b_M_of : ByteArray := prog_12_method_13_code
abbrev y_M_of : MethodName := ⟨"InferReduceModel", "of", "(III)I"⟩
theorem dd_M_of : y_M_of.cls = "InferReduceModel" ∧ y_M_of.cls ≠ "java/lang/invoke/MethodHandle" ∧ y_M_of.cls ≠ "java/lang/invoke/VarHandle" ∧ (parseMethodDescriptor y_M_of.desc).map (fun d => d.parameters.length) = some 3 := ⟨rfl, by decide, by decide, by decide +kernel⟩
abbrev b_M_wild : ByteArray := prog_12_method_14_code
abbrev y_M_wild : MethodName := ⟨"InferReduceModel", "wild", "(II)I"⟩
theorem dd_M_wild : y_M_wild.cls = "InferReduceModel" ∧ y_M_wild.cls ≠ "java/lang/invoke/MethodHandle" ∧ y_M_wild.cls ≠ "java/lang/invoke/VarHandle" ∧ (parseMethodDescriptor y_M_wild.desc).map (fun d => d.parameters.length) = some 2 := ⟨rfl, by decide, by decide, by decide +kernel⟩
abbrev b_M_parameter : ByteArray := prog_12_method_15_code
abbrev y_M_parameter : MethodName := ⟨"InferReduceModel", "parameter", "(II)I"⟩
theorem dd_M_parameter : y_M_parameter.cls = "InferReduceModel" ∧ y_M_parameter.cls ≠ "java/lang/invoke/MethodHandle" ∧ y_M_parameter.cls ≠ "java/lang/invoke/VarHandle" ∧ (parseMethodDescriptor y_M_parameter.desc).map (fun d => d.parameters.length) = some 2 := ⟨rfl, by decide, by decide, by decide +kernel⟩
abbrev b_M_array : ByteArray := prog_12_method_16_code
abbrev y_M_array : MethodName := ⟨"InferReduceModel", "array", "(I)I"⟩
theorem dd_M_array : y_M_array.cls = "InferReduceModel" ∧ y_M_array.cls ≠ "java/lang/invoke/MethodHandle" ∧ y_M_array.cls ≠ "java/lang/invoke/VarHandle" ∧ (parseMethodDescriptor y_M_array.desc).map (fun d => d.parameters.length) = some 1 := ⟨rfl, by decide, by decide, by decide +kernel⟩
abbrev b_M_primitive : ByteArray := prog_12_method_17_code
abbrev y_M_primitive : MethodName := ⟨"InferReduceModel", "primitive", "(I)I"⟩
theorem dd_M_primitive : y_M_primitive.cls = "InferReduceModel" ∧ y_M_primitive.cls ≠ "java/lang/invoke/MethodHandle" ∧ y_M_primitive.cls ≠ "java/lang/invoke/VarHandle" ∧ (parseMethodDescriptor y_M_primitive.desc).map (fun d => d.parameters.length) = some 1 := ⟨rfl, by decide, by decide, by decide +kernel⟩
abbrev b_M_nothing : ByteArray := prog_12_method_18_code
abbrev y_M_nothing : MethodName := ⟨"InferReduceModel", "nothing", "()I"⟩
theorem dd_M_nothing : y_M_nothing.cls = "InferReduceModel" ∧ y_M_nothing.cls ≠ "java/lang/invoke/MethodHandle" ∧ y_M_nothing.cls ≠ "java/lang/invoke/VarHandle" ∧ (parseMethodDescriptor y_M_nothing.desc).map (fun d => d.parameters.length) = some 0 := ⟨rfl, by decide, by decide, by decide +kernel⟩
abbrev b_M_variable : ByteArray := prog_12_method_19_code
abbrev y_M_variable : MethodName := ⟨"InferReduceModel", "variable", "()I"⟩
theorem dd_M_variable : y_M_variable.cls = "InferReduceModel" ∧ y_M_variable.cls ≠ "java/lang/invoke/MethodHandle" ∧ y_M_variable.cls ≠ "java/lang/invoke/VarHandle" ∧ (parseMethodDescriptor y_M_variable.desc).map (fun d => d.parameters.length) = some 0 := ⟨rfl, by decide, by decide, by decide +kernel⟩
abbrev b_M_inPlaceOf : ByteArray := prog_12_method_20_code
abbrev y_M_inPlaceOf : MethodName := ⟨"InferReduceModel", "inPlaceOf", "(II)I"⟩
theorem dd_M_inPlaceOf : y_M_inPlaceOf.cls = "InferReduceModel" ∧ y_M_inPlaceOf.cls ≠ "java/lang/invoke/MethodHandle" ∧ y_M_inPlaceOf.cls ≠ "java/lang/invoke/VarHandle" ∧ (parseMethodDescriptor y_M_inPlaceOf.desc).map (fun d => d.parameters.length) = some 2 := ⟨rfl, by decide, by decide, by decide +kernel⟩
abbrev b_M_innerOf : ByteArray := prog_12_method_21_code
abbrev y_M_innerOf : MethodName := ⟨"InferReduceModel", "innerOf", "(II)I"⟩
theorem dd_M_innerOf : y_M_innerOf.cls = "InferReduceModel" ∧ y_M_innerOf.cls ≠ "java/lang/invoke/MethodHandle" ∧ y_M_innerOf.cls ≠ "java/lang/invoke/VarHandle" ∧ (parseMethodDescriptor y_M_innerOf.desc).map (fun d => d.parameters.length) = some 2 := ⟨rfl, by decide, by decide, by decide +kernel⟩
abbrev b_M_isSeen : ByteArray := prog_12_method_22_code
abbrev y_M_isSeen : MethodName := ⟨"InferReduceModel", "isSeen", "(I)Z"⟩
theorem dd_M_isSeen : y_M_isSeen.cls = "InferReduceModel" ∧ y_M_isSeen.cls ≠ "java/lang/invoke/MethodHandle" ∧ y_M_isSeen.cls ≠ "java/lang/invoke/VarHandle" ∧ (parseMethodDescriptor y_M_isSeen.desc).map (fun d => d.parameters.length) = some 1 := ⟨rfl, by decide, by decide, by decide +kernel⟩
abbrev b_M_replaced : ByteArray := prog_12_method_23_code
abbrev y_M_replaced : MethodName := ⟨"InferReduceModel", "replaced", "(II)I"⟩
theorem dd_M_replaced : y_M_replaced.cls = "InferReduceModel" ∧ y_M_replaced.cls ≠ "java/lang/invoke/MethodHandle" ∧ y_M_replaced.cls ≠ "java/lang/invoke/VarHandle" ∧ (parseMethodDescriptor y_M_replaced.desc).map (fun d => d.parameters.length) = some 2 := ⟨rfl, by decide, by decide, by decide +kernel⟩
abbrev b_M_aboveOf : ByteArray := prog_12_method_24_code
abbrev y_M_aboveOf : MethodName := ⟨"InferReduceModel", "aboveOf", "(II)I"⟩
theorem dd_M_aboveOf : y_M_aboveOf.cls = "InferReduceModel" ∧ y_M_aboveOf.cls ≠ "java/lang/invoke/MethodHandle" ∧ y_M_aboveOf.cls ≠ "java/lang/invoke/VarHandle" ∧ (parseMethodDescriptor y_M_aboveOf.desc).map (fun d => d.parameters.length) = some 2 := ⟨rfl, by decide, by decide, by decide +kernel⟩
abbrev b_M_push : ByteArray := prog_12_method_25_code
abbrev y_M_push : MethodName := ⟨"InferReduceModel", "push", "(III)V"⟩
theorem dd_M_push : y_M_push.cls = "InferReduceModel" ∧ y_M_push.cls ≠ "java/lang/invoke/MethodHandle" ∧ y_M_push.cls ≠ "java/lang/invoke/VarHandle" ∧ (parseMethodDescriptor y_M_push.desc).map (fun d => d.parameters.length) = some 3 := ⟨rfl, by decide, by decide, by decide +kernel⟩
abbrev b_M_above : ByteArray := prog_12_method_26_code
abbrev y_M_above : MethodName := ⟨"InferReduceModel", "above", "(II)I"⟩
theorem dd_M_above : y_M_above.cls = "InferReduceModel" ∧ y_M_above.cls ≠ "java/lang/invoke/MethodHandle" ∧ y_M_above.cls ≠ "java/lang/invoke/VarHandle" ∧ (parseMethodDescriptor y_M_above.desc).map (fun d => d.parameters.length) = some 2 := ⟨rfl, by decide, by decide, by decide +kernel⟩
abbrev b_M_then : ByteArray := prog_12_method_27_code
abbrev y_M_then : MethodName := ⟨"InferReduceModel", "then", "(III)Z"⟩
theorem dd_M_then : y_M_then.cls = "InferReduceModel" ∧ y_M_then.cls ≠ "java/lang/invoke/MethodHandle" ∧ y_M_then.cls ≠ "java/lang/invoke/VarHandle" ∧ (parseMethodDescriptor y_M_then.desc).map (fun d => d.parameters.length) = some 3 := ⟨rfl, by decide, by decide, by decide +kernel⟩
abbrev b_M_less : ByteArray := prog_12_method_28_code
abbrev y_M_less : MethodName := ⟨"InferReduceModel", "less", "(III)Z"⟩
theorem dd_M_less : y_M_less.cls = "InferReduceModel" ∧ y_M_less.cls ≠ "java/lang/invoke/MethodHandle" ∧ y_M_less.cls ≠ "java/lang/invoke/VarHandle" ∧ (parseMethodDescriptor y_M_less.desc).map (fun d => d.parameters.length) = some 3 := ⟨rfl, by decide, by decide, by decide +kernel⟩
abbrev b_M_step : ByteArray := prog_12_method_29_code
abbrev y_M_step : MethodName := ⟨"InferReduceModel", "step", "(III)Z"⟩
theorem dd_M_step : y_M_step.cls = "InferReduceModel" ∧ y_M_step.cls ≠ "java/lang/invoke/MethodHandle" ∧ y_M_step.cls ≠ "java/lang/invoke/VarHandle" ∧ (parseMethodDescriptor y_M_step.desc).map (fun d => d.parameters.length) = some 3 := ⟨rfl, by decide, by decide, by decide +kernel⟩
abbrev b_M_isWidened : ByteArray := prog_12_method_30_code
abbrev y_M_isWidened : MethodName := ⟨"InferReduceModel", "isWidened", "(II)Z"⟩
theorem dd_M_isWidened : y_M_isWidened.cls ≠ "java/lang/invoke/MethodHandle" ∧ y_M_isWidened.cls ≠ "java/lang/invoke/VarHandle" ∧ (parseMethodDescriptor y_M_isWidened.desc).map (fun d => d.parameters.length) = some 2 := ⟨by decide, by decide, by decide +kernel⟩
abbrev b_M_boxOf : ByteArray := prog_12_method_31_code
abbrev y_M_boxOf : MethodName := ⟨"InferReduceModel", "boxOf", "(I)I"⟩
theorem dd_M_boxOf : y_M_boxOf.cls = "InferReduceModel" ∧ y_M_boxOf.cls ≠ "java/lang/invoke/MethodHandle" ∧ y_M_boxOf.cls ≠ "java/lang/invoke/VarHandle" ∧ (parseMethodDescriptor y_M_boxOf.desc).map (fun d => d.parameters.length) = some 1 := ⟨rfl, by decide, by decide, by decide +kernel⟩
abbrev b_M_compatible : ByteArray := prog_12_method_32_code
abbrev y_M_compatible : MethodName := ⟨"InferReduceModel", "compatible", "(II)Z"⟩
theorem dd_M_compatible : y_M_compatible.cls = "InferReduceModel" ∧ y_M_compatible.cls ≠ "java/lang/invoke/MethodHandle" ∧ y_M_compatible.cls ≠ "java/lang/invoke/VarHandle" ∧ (parseMethodDescriptor y_M_compatible.desc).map (fun d => d.parameters.length) = some 2 := ⟨rfl, by decide, by decide, by decide +kernel⟩
abbrev b_M_sub : ByteArray := prog_12_method_33_code
abbrev y_M_sub : MethodName := ⟨"InferReduceModel", "sub", "(II)Z"⟩
theorem dd_M_sub : y_M_sub.cls = "InferReduceModel" ∧ y_M_sub.cls ≠ "java/lang/invoke/MethodHandle" ∧ y_M_sub.cls ≠ "java/lang/invoke/VarHandle" ∧ (parseMethodDescriptor y_M_sub.desc).map (fun d => d.parameters.length) = some 2 := ⟨rfl, by decide, by decide, by decide +kernel⟩
abbrev b_M_contained : ByteArray := prog_12_method_34_code
abbrev y_M_contained : MethodName := ⟨"InferReduceModel", "contained", "(II)Z"⟩
theorem dd_M_contained : y_M_contained.cls = "InferReduceModel" ∧ y_M_contained.cls ≠ "java/lang/invoke/MethodHandle" ∧ y_M_contained.cls ≠ "java/lang/invoke/VarHandle" ∧ (parseMethodDescriptor y_M_contained.desc).map (fun d => d.parameters.length) = some 2 := ⟨rfl, by decide, by decide, by decide +kernel⟩
abbrev b_M_equal : ByteArray := prog_12_method_35_code
abbrev y_M_equal : MethodName := ⟨"InferReduceModel", "equal", "(II)Z"⟩
theorem dd_M_equal : y_M_equal.cls = "InferReduceModel" ∧ y_M_equal.cls ≠ "java/lang/invoke/MethodHandle" ∧ y_M_equal.cls ≠ "java/lang/invoke/VarHandle" ∧ (parseMethodDescriptor y_M_equal.desc).map (fun d => d.parameters.length) = some 2 := ⟨rfl, by decide, by decide, by decide +kernel⟩
abbrev b_M_bind : ByteArray := prog_12_method_36_code
abbrev y_M_bind : MethodName := ⟨"InferReduceModel", "bind", "(III)V"⟩
theorem dd_M_bind : y_M_bind.cls = "InferReduceModel" ∧ y_M_bind.cls ≠ "java/lang/invoke/MethodHandle" ∧ y_M_bind.cls ≠ "java/lang/invoke/VarHandle" ∧ (parseMethodDescriptor y_M_bind.desc).map (fun d => d.parameters.length) = some 3 := ⟨rfl, by decide, by decide, by decide +kernel⟩
abbrev b_M_isBelow : ByteArray := prog_12_method_37_code
abbrev y_M_isBelow : MethodName := ⟨"InferReduceModel", "isBelow", "(II)Z"⟩
theorem dd_M_isBelow : y_M_isBelow.cls = "InferReduceModel" ∧ y_M_isBelow.cls ≠ "java/lang/invoke/MethodHandle" ∧ y_M_isBelow.cls ≠ "java/lang/invoke/VarHandle" ∧ (parseMethodDescriptor y_M_isBelow.desc).map (fun d => d.parameters.length) = some 2 := ⟨rfl, by decide, by decide, by decide +kernel⟩
abbrev b_M_isSame : ByteArray := prog_12_method_38_code
abbrev y_M_isSame : MethodName := ⟨"InferReduceModel", "isSame", "(II)Z"⟩
theorem dd_M_isSame : y_M_isSame.cls = "InferReduceModel" ∧ y_M_isSame.cls ≠ "java/lang/invoke/MethodHandle" ∧ y_M_isSame.cls ≠ "java/lang/invoke/VarHandle" ∧ (parseMethodDescriptor y_M_isSame.desc).map (fun d => d.parameters.length) = some 2 := ⟨rfl, by decide, by decide, by decide +kernel⟩
abbrev b_M_hold : ByteArray := prog_12_method_39_code
abbrev y_M_hold : MethodName := ⟨"InferReduceModel", "hold", "()Z"⟩
theorem dd_M_hold : y_M_hold.cls = "InferReduceModel" ∧ y_M_hold.cls ≠ "java/lang/invoke/MethodHandle" ∧ y_M_hold.cls ≠ "java/lang/invoke/VarHandle" ∧ (parseMethodDescriptor y_M_hold.desc).map (fun d => d.parameters.length) = some 0 := ⟨rfl, by decide, by decide, by decide +kernel⟩
abbrev b_M_holdBoth : ByteArray := prog_12_method_40_code
abbrev y_M_holdBoth : MethodName := ⟨"InferReduceModel", "holdBoth", "(IIZ)Z"⟩
theorem dd_M_holdBoth : y_M_holdBoth.cls = "InferReduceModel" ∧ y_M_holdBoth.cls ≠ "java/lang/invoke/MethodHandle" ∧ y_M_holdBoth.cls ≠ "java/lang/invoke/VarHandle" ∧ (parseMethodDescriptor y_M_holdBoth.desc).map (fun d => d.parameters.length) = some 3 := ⟨rfl, by decide, by decide, by decide +kernel⟩
abbrev b_M_isIn : ByteArray := prog_12_method_41_code
abbrev y_M_isIn : MethodName := ⟨"InferReduceModel", "isIn", "(II)Z"⟩
theorem dd_M_isIn : y_M_isIn.cls = "InferReduceModel" ∧ y_M_isIn.cls ≠ "java/lang/invoke/MethodHandle" ∧ y_M_isIn.cls ≠ "java/lang/invoke/VarHandle" ∧ (parseMethodDescriptor y_M_isIn.desc).map (fun d => d.parameters.length) = some 2 := ⟨rfl, by decide, by decide, by decide +kernel⟩
abbrev b_M_holdIn : ByteArray := prog_12_method_42_code
abbrev y_M_holdIn : MethodName := ⟨"InferReduceModel", "holdIn", "(II)Z"⟩
theorem dd_M_holdIn : y_M_holdIn.cls = "InferReduceModel" ∧ y_M_holdIn.cls ≠ "java/lang/invoke/MethodHandle" ∧ y_M_holdIn.cls ≠ "java/lang/invoke/VarHandle" ∧ (parseMethodDescriptor y_M_holdIn.desc).map (fun d => d.parameters.length) = some 2 := ⟨rfl, by decide, by decide, by decide +kernel⟩
abbrev b_M_holdArguments : ByteArray := prog_12_method_43_code
abbrev y_M_holdArguments : MethodName := ⟨"InferReduceModel", "holdArguments", "(II)Z"⟩
theorem dd_M_holdArguments : y_M_holdArguments.cls = "InferReduceModel" ∧ y_M_holdArguments.cls ≠ "java/lang/invoke/MethodHandle" ∧ y_M_holdArguments.cls ≠ "java/lang/invoke/VarHandle" ∧ (parseMethodDescriptor y_M_holdArguments.desc).map (fun d => d.parameters.length) = some 2 := ⟨rfl, by decide, by decide, by decide +kernel⟩
abbrev b_M_isThere : ByteArray := prog_12_method_44_code
abbrev y_M_isThere : MethodName := ⟨"InferReduceModel", "isThere", "(I)Z"⟩
theorem dd_M_isThere : y_M_isThere.cls = "InferReduceModel" ∧ y_M_isThere.cls ≠ "java/lang/invoke/MethodHandle" ∧ y_M_isThere.cls ≠ "java/lang/invoke/VarHandle" ∧ (parseMethodDescriptor y_M_isThere.desc).map (fun d => d.parameters.length) = some 1 := ⟨rfl, by decide, by decide, by decide +kernel⟩
abbrev b_M_formula : ByteArray := prog_12_method_45_code
abbrev y_M_formula : MethodName := ⟨"InferReduceModel", "formula", "(III)I"⟩
theorem dd_M_formula : y_M_formula.cls = "InferReduceModel" ∧ y_M_formula.cls ≠ "java/lang/invoke/MethodHandle" ∧ y_M_formula.cls ≠ "java/lang/invoke/VarHandle" ∧ (parseMethodDescriptor y_M_formula.desc).map (fun d => d.parameters.length) = some 3 := ⟨rfl, by decide, by decide, by decide +kernel⟩
abbrev b_M_begin : ByteArray := prog_12_method_46_code
abbrev y_M_begin : MethodName := ⟨"InferReduceModel", "begin", "(I)V"⟩
theorem dd_M_begin : y_M_begin.cls = "InferReduceModel" ∧ y_M_begin.cls ≠ "java/lang/invoke/MethodHandle" ∧ y_M_begin.cls ≠ "java/lang/invoke/VarHandle" ∧ (parseMethodDescriptor y_M_begin.desc).map (fun d => d.parameters.length) = some 1 := ⟨rfl, by decide, by decide, by decide +kernel⟩
abbrev b_M_settle : ByteArray := prog_12_method_47_code
abbrev y_M_settle : MethodName := ⟨"InferReduceModel", "settle", "(ZI)V"⟩
theorem dd_M_settle : y_M_settle.cls = "InferReduceModel" ∧ y_M_settle.cls ≠ "java/lang/invoke/MethodHandle" ∧ y_M_settle.cls ≠ "java/lang/invoke/VarHandle" ∧ (parseMethodDescriptor y_M_settle.desc).map (fun d => d.parameters.length) = some 2 := ⟨rfl, by decide, by decide, by decide +kernel⟩
abbrev b_M_clear : ByteArray := prog_12_method_48_code
abbrev y_M_clear : MethodName := ⟨"InferReduceModel", "clear", "()I"⟩
theorem dd_M_clear : y_M_clear.cls = "InferReduceModel" ∧ y_M_clear.cls ≠ "java/lang/invoke/MethodHandle" ∧ y_M_clear.cls ≠ "java/lang/invoke/VarHandle" ∧ (parseMethodDescriptor y_M_clear.desc).map (fun d => d.parameters.length) = some 0 := ⟨rfl, by decide, by decide, by decide +kernel⟩
abbrev b_M_instanceOf : ByteArray := prog_12_method_49_code
abbrev y_M_instanceOf : MethodName := ⟨"InferReduceModel", "instanceOf", "(I)I"⟩
theorem dd_M_instanceOf : y_M_instanceOf.cls = "InferReduceModel" ∧ y_M_instanceOf.cls ≠ "java/lang/invoke/MethodHandle" ∧ y_M_instanceOf.cls ≠ "java/lang/invoke/VarHandle" ∧ (parseMethodDescriptor y_M_instanceOf.desc).map (fun d => d.parameters.length) = some 1 := ⟨rfl, by decide, by decide, by decide +kernel⟩
abbrev b_M_isLinked : ByteArray := prog_12_method_50_code
abbrev y_M_isLinked : MethodName := ⟨"InferReduceModel", "isLinked", "(II)Z"⟩
theorem dd_M_isLinked : y_M_isLinked.cls = "InferReduceModel" ∧ y_M_isLinked.cls ≠ "java/lang/invoke/MethodHandle" ∧ y_M_isLinked.cls ≠ "java/lang/invoke/VarHandle" ∧ (parseMethodDescriptor y_M_isLinked.desc).map (fun d => d.parameters.length) = some 2 := ⟨rfl, by decide, by decide, by decide +kernel⟩
abbrev b_M_depends : ByteArray := prog_12_method_51_code
abbrev y_M_depends : MethodName := ⟨"InferReduceModel", "depends", "(I)I"⟩
theorem dd_M_depends : y_M_depends.cls = "InferReduceModel" ∧ y_M_depends.cls ≠ "java/lang/invoke/MethodHandle" ∧ y_M_depends.cls ≠ "java/lang/invoke/VarHandle" ∧ (parseMethodDescriptor y_M_depends.desc).map (fun d => d.parameters.length) = some 1 := ⟨rfl, by decide, by decide, by decide +kernel⟩
abbrev b_M_resolve : ByteArray := prog_12_method_52_code
abbrev y_M_resolve : MethodName := ⟨"InferReduceModel", "resolve", "()I"⟩
theorem dd_M_resolve : y_M_resolve.cls = "InferReduceModel" ∧ y_M_resolve.cls ≠ "java/lang/invoke/MethodHandle" ∧ y_M_resolve.cls ≠ "java/lang/invoke/VarHandle" ∧ (parseMethodDescriptor y_M_resolve.desc).map (fun d => d.parameters.length) = some 0 := ⟨rfl, by decide, by decide, by decide +kernel⟩
abbrev b_M_chooseAll : ByteArray := prog_12_method_53_code
abbrev y_M_chooseAll : MethodName := ⟨"InferReduceModel", "chooseAll", "()Z"⟩
theorem dd_M_chooseAll : y_M_chooseAll.cls = "InferReduceModel" ∧ y_M_chooseAll.cls ≠ "java/lang/invoke/MethodHandle" ∧ y_M_chooseAll.cls ≠ "java/lang/invoke/VarHandle" ∧ (parseMethodDescriptor y_M_chooseAll.desc).map (fun d => d.parameters.length) = some 0 := ⟨rfl, by decide, by decide, by decide +kernel⟩
abbrev b_M_collect : ByteArray := prog_12_method_54_code
abbrev y_M_collect : MethodName := ⟨"InferReduceModel", "collect", "(II)V"⟩
theorem dd_M_collect : y_M_collect.cls = "InferReduceModel" ∧ y_M_collect.cls ≠ "java/lang/invoke/MethodHandle" ∧ y_M_collect.cls ≠ "java/lang/invoke/VarHandle" ∧ (parseMethodDescriptor y_M_collect.desc).map (fun d => d.parameters.length) = some 2 := ⟨rfl, by decide, by decide, by decide +kernel⟩
abbrev b_M_choose : ByteArray := prog_12_method_55_code
abbrev y_M_choose : MethodName := ⟨"InferReduceModel", "choose", "(I)I"⟩
theorem dd_M_choose : y_M_choose.cls = "InferReduceModel" ∧ y_M_choose.cls ≠ "java/lang/invoke/MethodHandle" ∧ y_M_choose.cls ≠ "java/lang/invoke/VarHandle" ∧ (parseMethodDescriptor y_M_choose.desc).map (fun d => d.parameters.length) = some 1 := ⟨rfl, by decide, by decide, by decide +kernel⟩
abbrev b_M_extreme : ByteArray := prog_12_method_56_code
abbrev y_M_extreme : MethodName := ⟨"InferReduceModel", "extreme", "(Z)I"⟩
theorem dd_M_extreme : y_M_extreme.cls = "InferReduceModel" ∧ y_M_extreme.cls ≠ "java/lang/invoke/MethodHandle" ∧ y_M_extreme.cls ≠ "java/lang/invoke/VarHandle" ∧ (parseMethodDescriptor y_M_extreme.desc).map (fun d => d.parameters.length) = some 1 := ⟨rfl, by decide, by decide, by decide +kernel⟩
abbrev b_M_join : ByteArray := prog_12_method_57_code
abbrev y_M_join : MethodName := ⟨"InferReduceModel", "join", "()I"⟩
theorem dd_M_join : y_M_join.cls = "InferReduceModel" ∧ y_M_join.cls ≠ "java/lang/invoke/MethodHandle" ∧ y_M_join.cls ≠ "java/lang/invoke/VarHandle" ∧ (parseMethodDescriptor y_M_join.desc).map (fun d => d.parameters.length) = some 0 := ⟨rfl, by decide, by decide, by decide +kernel⟩
abbrev b_M_joined : ByteArray := prog_12_method_58_code
abbrev y_M_joined : MethodName := ⟨"InferReduceModel", "joined", "(I)I"⟩
theorem dd_M_joined : y_M_joined.cls = "InferReduceModel" ∧ y_M_joined.cls ≠ "java/lang/invoke/MethodHandle" ∧ y_M_joined.cls ≠ "java/lang/invoke/VarHandle" ∧ (parseMethodDescriptor y_M_joined.desc).map (fun d => d.parameters.length) = some 1 := ⟨rfl, by decide, by decide, by decide +kernel⟩
abbrev b_M_count : ByteArray := prog_12_method_59_code
abbrev y_M_count : MethodName := ⟨"InferReduceModel", "count", "(I)I"⟩
theorem dd_M_count : y_M_count.cls = "InferReduceModel" ∧ y_M_count.cls ≠ "java/lang/invoke/MethodHandle" ∧ y_M_count.cls ≠ "java/lang/invoke/VarHandle" ∧ (parseMethodDescriptor y_M_count.desc).map (fun d => d.parameters.length) = some 1 := ⟨rfl, by decide, by decide, by decide +kernel⟩
abbrev b_M_type : ByteArray := prog_12_method_60_code
abbrev y_M_type : MethodName := ⟨"InferReduceModel", "type", "(II)I"⟩
theorem dd_M_type : y_M_type.cls = "InferReduceModel" ∧ y_M_type.cls ≠ "java/lang/invoke/MethodHandle" ∧ y_M_type.cls ≠ "java/lang/invoke/VarHandle" ∧ (parseMethodDescriptor y_M_type.desc).map (fun d => d.parameters.length) = some 2 := ⟨rfl, by decide, by decide, by decide +kernel⟩
abbrev b_M_bound : ByteArray := prog_12_method_61_code
abbrev y_M_bound : MethodName := ⟨"InferReduceModel", "bound", "(II)I"⟩
theorem dd_M_bound : y_M_bound.cls = "InferReduceModel" ∧ y_M_bound.cls ≠ "java/lang/invoke/MethodHandle" ∧ y_M_bound.cls ≠ "java/lang/invoke/VarHandle" ∧ (parseMethodDescriptor y_M_bound.desc).map (fun d => d.parameters.length) = some 2 := ⟨rfl, by decide, by decide, by decide +kernel⟩
abbrev b_M_instance : ByteArray := prog_12_method_62_code
abbrev y_M_instance : MethodName := ⟨"InferReduceModel", "instance", "(I)I"⟩
theorem dd_M_instance : y_M_instance.cls = "InferReduceModel" ∧ y_M_instance.cls ≠ "java/lang/invoke/MethodHandle" ∧ y_M_instance.cls ≠ "java/lang/invoke/VarHandle" ∧ (parseMethodDescriptor y_M_instance.desc).map (fun d => d.parameters.length) = some 1 := ⟨rfl, by decide, by decide, by decide +kernel⟩
abbrev b_M_unchecked : ByteArray := prog_12_method_63_code
abbrev y_M_unchecked : MethodName := ⟨"InferReduceModel", "unchecked", "(I)I"⟩
theorem dd_M_unchecked : y_M_unchecked.cls = "InferReduceModel" ∧ y_M_unchecked.cls ≠ "java/lang/invoke/MethodHandle" ∧ y_M_unchecked.cls ≠ "java/lang/invoke/VarHandle" ∧ (parseMethodDescriptor y_M_unchecked.desc).map (fun d => d.parameters.length) = some 1 := ⟨rfl, by decide, by decide, by decide +kernel⟩
abbrev b_M_judge : ByteArray := prog_12_method_64_code
abbrev y_M_judge : MethodName := ⟨"InferReduceModel", "judge", "(I)I"⟩
theorem dd_M_judge : y_M_judge.cls = "InferReduceModel" ∧ y_M_judge.cls ≠ "java/lang/invoke/MethodHandle" ∧ y_M_judge.cls ≠ "java/lang/invoke/VarHandle" ∧ (parseMethodDescriptor y_M_judge.desc).map (fun d => d.parameters.length) = some 1 := ⟨rfl, by decide, by decide, by decide +kernel⟩
abbrev b_Integer_bitCount : ByteArray := prog_13_method_49_code
abbrev y_Integer_bitCount : MethodName := ⟨"java/lang/Integer", "bitCount", "(I)I"⟩
theorem dd_Integer_bitCount : y_Integer_bitCount.cls ≠ "java/lang/invoke/MethodHandle" ∧ y_Integer_bitCount.cls ≠ "java/lang/invoke/VarHandle" ∧ (parseMethodDescriptor y_Integer_bitCount.desc).map (fun d => d.parameters.length) = some 1 := ⟨by decide, by decide, by decide +kernel⟩
abbrev b_Arrays_fill : ByteArray := prog_14_method_103_code
abbrev y_Arrays_fill : MethodName := ⟨"java/util/Arrays", "fill", "([II)V"⟩
theorem dd_Arrays_fill : y_Arrays_fill.cls ≠ "java/lang/invoke/MethodHandle" ∧ y_Arrays_fill.cls ≠ "java/lang/invoke/VarHandle" ∧ (parseMethodDescriptor y_Arrays_fill.desc).map (fun d => d.parameters.length) = some 2 := ⟨by decide, by decide, by decide +kernel⟩
