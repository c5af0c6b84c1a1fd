/-! Names: classes, fields, methods; the words that all methods share (the tables' good words) -/
def wa_g : List Cond := lw_tbl.filter goodWord
theorem wa_in {w : Cond} (i : Nat) (h : tables_1[i]? = some w) (hg : goodWord w = true) : w ∈ wa_g := List.mem_filter.mpr ⟨List.mem_append_right _ (List.mem_of_getElem? h), hg⟩
theorem wa_inL {w : Cond} (i : Nat) (h : (k2_sels lw_privs)[i]? = some w) (hg : goodWord w = true) : w ∈ wa_g := List.mem_filter.mpr ⟨List.mem_append_left _ (List.mem_of_getElem? h), hg⟩
theorem wa_good {w : Cond} (h : w ∈ wa_g) : w ∈ wa_g ∧ ((w.onTables && w.keeps) = true ∨ ∃ ty, w = .arrayClass ty) := ⟨h, good_of_word (List.mem_filter.mp h).2⟩
theorem wa_V {own C : String} {idx : Nat} {y : MethodName} {cw : Cond} (h1 : Cond.methodLink own idx y ∈ wa_g) (h2 : Cond.instanceMethod y ∈ wa_g) (h3 : Cond.selects C y y ∈ wa_g) (h4 : Cond.initialized C ∈ wa_g) (h5 : cw ∈ wa_g) : GoodIn wa_g (wsV own idx C y (cw :: wa_g)) := by
  intro w hw
  unfold wsV at hw
  simp only [List.mem_append, List.mem_cons, List.not_mem_nil, or_false] at hw
  rcases hw with (rfl | rfl | rfl | rfl) | rfl | hw
  · exact wa_good h1
  · exact wa_good h2
  · exact wa_good h3
  · exact wa_good h4
  · exact wa_good h5
  · exact wa_good hw
theorem wa_S {own : String} {idx : Nat} {y : MethodName} {cw : Cond} (h1 : Cond.methodLink own idx y ∈ wa_g) (h2 : Cond.static y ∈ wa_g) (h4 : Cond.initialized own ∈ wa_g) (h5 : cw ∈ wa_g) : GoodIn wa_g (wsS own idx y (cw :: wa_g)) := by
  intro w hw
  unfold wsS at hw
  simp only [List.mem_append, List.mem_cons, List.not_mem_nil, or_false] at hw
  rcases hw with (rfl | rfl | rfl) | rfl | hw
  · exact wa_good h1
  · exact wa_good h2
  · exact wa_good h4
  · exact wa_good h5
  · exact wa_good hw
theorem wa_C {cw : Cond} (h5 : cw ∈ wa_g) : GoodIn wa_g (cw :: wa_g) := by
  intro w hw
  rcases List.mem_cons.mp hw with rfl | hw
  · exact wa_good h5
  · exact wa_good hw
def rc_Field : String := "PrimePolynomials$Field"
def tc_Field : u_T := fun k => match k with
  | 0 => ("PrimePolynomials$Field", "ring", "LPrimePolynomials$Ring;", true)
  | 1 => ("PrimePolynomials$Field", "frobenius", "LPrimePolynomials$Frobenius;", true)
  | 2 => ("PrimePolynomials$Field", "base", "LPrimePolynomials$Polynomial;", true)
  | 3 => ("PrimePolynomials$Field", "quotient", "LPrimePolynomials$Polynomial;", true)
  | 4 => ("PrimePolynomials$Field", "change", "LPrimePolynomials$Polynomial;", true)
  | 5 => ("PrimePolynomials$Field", "first", "LPrimePolynomials$Polynomial;", true)
  | 6 => ("PrimePolynomials$Field", "second", "LPrimePolynomials$Polynomial;", true)
  | 7 => ("PrimePolynomials$Field", "firstFactor", "LPrimePolynomials$Polynomial;", true)
  | _ => ("PrimePolynomials$Field", "secondFactor", "LPrimePolynomials$Polynomial;", true)
def ty_Field : Nat → FieldType := fun k => match k with
  | 0 => .object "PrimePolynomials$Ring"
  | 1 => .object "PrimePolynomials$Frobenius"
  | 2 => .object "PrimePolynomials$Polynomial"
  | 3 => .object "PrimePolynomials$Polynomial"
  | 4 => .object "PrimePolynomials$Polynomial"
  | 5 => .object "PrimePolynomials$Polynomial"
  | 6 => .object "PrimePolynomials$Polynomial"
  | 7 => .object "PrimePolynomials$Polynomial"
  | _ => .object "PrimePolynomials$Polynomial"
theorem nm_Field : ∀ a, a < 9 → ∀ b, b < 9 → a ≠ b → (tc_Field a).2.1 ≠ (tc_Field b).2.1 := by decide +kernel
theorem to_Field : ∀ k, k < 9 → parseFieldDescriptor (tc_Field k).2.2.1 = some (ty_Field k) := by decide +kernel
theorem wu_Field : ∀ w ∈ u_ws rc_Field tc_Field 9, w ∈ wa_g := by
  intro w hw
  obtain ⟨k, hk, rfl⟩ := List.mem_map.mp hw
  have hk := List.mem_range.mp hk
  match k, hk with
  | 0, _ => exact wa_in 224 (by decide +kernel) rfl
  | 1, _ => exact wa_in 226 (by decide +kernel) rfl
  | 2, _ => exact wa_in 228 (by decide +kernel) rfl
  | 3, _ => exact wa_in 230 (by decide +kernel) rfl
  | 4, _ => exact wa_in 232 (by decide +kernel) rfl
  | 5, _ => exact wa_in 234 (by decide +kernel) rfl
  | 6, _ => exact wa_in 236 (by decide +kernel) rfl
  | 7, _ => exact wa_in 238 (by decide +kernel) rfl
  | 8, _ => exact wa_in 240 (by decide +kernel) rfl
  | k + 9, hk => exact absurd hk (by omega)
def rc_Frob : String := "PrimePolynomials$Frobenius"
def tc_Frob : u_T := fun k => match k with
  | 0 => ("PrimePolynomials$Frobenius", "ring", "LPrimePolynomials$Ring;", true)
  | 1 => ("PrimePolynomials$Frobenius", "modulus", "LPrimePolynomials$Polynomial;", true)
  | 2 => ("PrimePolynomials$Frobenius", "variable", "LPrimePolynomials$Polynomial;", true)
  | 3 => ("PrimePolynomials$Frobenius", "images", "[LPrimePolynomials$Polynomial;", true)
  | 4 => ("PrimePolynomials$Frobenius", "total", "LPrimePolynomials$Polynomial;", true)
  | 5 => ("PrimePolynomials$Frobenius", "current", "LPrimePolynomials$Polynomial;", true)
  | 6 => ("PrimePolynomials$Frobenius", "climbing", "LPrimePolynomials$Polynomial;", true)
  | _ => ("PrimePolynomials$Frobenius", "difference", "LPrimePolynomials$Polynomial;", true)
def ty_Frob : Nat → FieldType := fun k => match k with
  | 0 => .object "PrimePolynomials$Ring"
  | 1 => .object "PrimePolynomials$Polynomial"
  | 2 => .object "PrimePolynomials$Polynomial"
  | 3 => .array (.object "PrimePolynomials$Polynomial")
  | 4 => .object "PrimePolynomials$Polynomial"
  | 5 => .object "PrimePolynomials$Polynomial"
  | 6 => .object "PrimePolynomials$Polynomial"
  | _ => .object "PrimePolynomials$Polynomial"
theorem nm_Frob : ∀ a, a < 8 → ∀ b, b < 8 → a ≠ b → (tc_Frob a).2.1 ≠ (tc_Frob b).2.1 := by decide +kernel
theorem to_Frob : ∀ k, k < 8 → parseFieldDescriptor (tc_Frob k).2.2.1 = some (ty_Frob k) := by decide +kernel
theorem wu_Frob : ∀ w ∈ u_ws rc_Frob tc_Frob 8, w ∈ wa_g := by
  intro w hw
  obtain ⟨k, hk, rfl⟩ := List.mem_map.mp hw
  have hk := List.mem_range.mp hk
  match k, hk with
  | 0, _ => exact wa_in 127 (by decide +kernel) rfl
  | 1, _ => exact wa_in 129 (by decide +kernel) rfl
  | 2, _ => exact wa_in 131 (by decide +kernel) rfl
  | 3, _ => exact wa_in 133 (by decide +kernel) rfl
  | 4, _ => exact wa_in 135 (by decide +kernel) rfl
  | 5, _ => exact wa_in 137 (by decide +kernel) rfl
  | 6, _ => exact wa_in 139 (by decide +kernel) rfl
  | 7, _ => exact wa_in 141 (by decide +kernel) rfl
  | k + 8, hk => exact absurd hk (by omega)
def rc_Part : String := "PrimePolynomials$Part"
def tc_Part : u_T := fun k => match k with
  | 0 => ("PrimePolynomials$Part", "polynomial", "LPrimePolynomials$Polynomial;", true)
  | 1 => ("PrimePolynomials$Part", "often", "I", false)
  | _ => ("PrimePolynomials$Part", "each", "I", false)
def ty_Part : Nat → FieldType := fun k => match k with
  | 0 => .object "PrimePolynomials$Polynomial"
  | 1 => .int
  | _ => .int
theorem nm_Part : ∀ a, a < 3 → ∀ b, b < 3 → a ≠ b → (tc_Part a).2.1 ≠ (tc_Part b).2.1 := by decide +kernel
theorem to_Part : ∀ k, k < 3 → parseFieldDescriptor (tc_Part k).2.2.1 = some (ty_Part k) := by decide +kernel
theorem wu_Part : ∀ w ∈ u_ws rc_Part tc_Part 3, w ∈ wa_g := by
  intro w hw
  obtain ⟨k, hk, rfl⟩ := List.mem_map.mp hw
  have hk := List.mem_range.mp hk
  match k, hk with
  | 0, _ => exact wa_in 169 (by decide +kernel) rfl
  | 1, _ => exact wa_in 171 (by decide +kernel) rfl
  | 2, _ => exact wa_in 173 (by decide +kernel) rfl
  | k + 3, hk => exact absurd hk (by omega)
def rc_Parts : String := "PrimePolynomials$Parts"
def tc_Parts : u_T := fun k => match k with
  | 0 => ("PrimePolynomials$Parts", "ring", "LPrimePolynomials$Ring;", true)
  | 1 => ("PrimePolynomials$Parts", "frobenius", "LPrimePolynomials$Frobenius;", true)
  | 2 => ("PrimePolynomials$Parts", "list", "[LPrimePolynomials$Part;", true)
  | 3 => ("PrimePolynomials$Parts", "count", "I", false)
  | 4 => ("PrimePolynomials$Parts", "lead", "I", false)
  | 5 => ("PrimePolynomials$Parts", "rest", "LPrimePolynomials$Polynomial;", true)
  | 6 => ("PrimePolynomials$Parts", "found", "LPrimePolynomials$Polynomial;", true)
  | 7 => ("PrimePolynomials$Parts", "again", "LPrimePolynomials$Polynomial;", true)
  | _ => ("PrimePolynomials$Parts", "exact", "LPrimePolynomials$Polynomial;", true)
def ty_Parts : Nat → FieldType := fun k => match k with
  | 0 => .object "PrimePolynomials$Ring"
  | 1 => .object "PrimePolynomials$Frobenius"
  | 2 => .array (.object "PrimePolynomials$Part")
  | 3 => .int
  | 4 => .int
  | 5 => .object "PrimePolynomials$Polynomial"
  | 6 => .object "PrimePolynomials$Polynomial"
  | 7 => .object "PrimePolynomials$Polynomial"
  | _ => .object "PrimePolynomials$Polynomial"
theorem nm_Parts : ∀ a, a < 9 → ∀ b, b < 9 → a ≠ b → (tc_Parts a).2.1 ≠ (tc_Parts b).2.1 := by decide +kernel
theorem to_Parts : ∀ k, k < 9 → parseFieldDescriptor (tc_Parts k).2.2.1 = some (ty_Parts k) := by decide +kernel
theorem wu_Parts : ∀ w ∈ u_ws rc_Parts tc_Parts 9, w ∈ wa_g := by
  intro w hw
  obtain ⟨k, hk, rfl⟩ := List.mem_map.mp hw
  have hk := List.mem_range.mp hk
  match k, hk with
  | 0, _ => exact wa_in 187 (by decide +kernel) rfl
  | 1, _ => exact wa_in 189 (by decide +kernel) rfl
  | 2, _ => exact wa_in 191 (by decide +kernel) rfl
  | 3, _ => exact wa_in 193 (by decide +kernel) rfl
  | 4, _ => exact wa_in 195 (by decide +kernel) rfl
  | 5, _ => exact wa_in 197 (by decide +kernel) rfl
  | 6, _ => exact wa_in 199 (by decide +kernel) rfl
  | 7, _ => exact wa_in 201 (by decide +kernel) rfl
  | 8, _ => exact wa_in 203 (by decide +kernel) rfl
  | k + 9, hk => exact absurd hk (by omega)
def rc_Poly : String := "PrimePolynomials$Polynomial"
def tc_Poly : u_T := fun k => match k with
  | 0 => ("PrimePolynomials$Polynomial", "c", "[I", true)
  | _ => ("PrimePolynomials$Polynomial", "degree", "I", false)
def ty_Poly : Nat → FieldType := fun k => match k with
  | 0 => .array .int
  | _ => .int
theorem nm_Poly : ∀ a, a < 2 → ∀ b, b < 2 → a ≠ b → (tc_Poly a).2.1 ≠ (tc_Poly b).2.1 := by decide +kernel
theorem to_Poly : ∀ k, k < 2 → parseFieldDescriptor (tc_Poly k).2.2.1 = some (ty_Poly k) := by decide +kernel
theorem wu_Poly : ∀ w ∈ u_ws rc_Poly tc_Poly 2, w ∈ wa_g := by
  intro w hw
  obtain ⟨k, hk, rfl⟩ := List.mem_map.mp hw
  have hk := List.mem_range.mp hk
  match k, hk with
  | 0, _ => exact wa_in 53 (by decide +kernel) rfl
  | 1, _ => exact wa_in 55 (by decide +kernel) rfl
  | k + 2, hk => exact absurd hk (by omega)
def rc_Ring : String := "PrimePolynomials$Ring"
def tc_Ring : u_T := fun k => match k with
  | 0 => ("PrimePolynomials$Ring", "p", "I", true)
  | 1 => ("PrimePolynomials$Ring", "wide", "LPrimePolynomials$Polynomial;", true)
  | 2 => ("PrimePolynomials$Ring", "left", "LPrimePolynomials$Polynomial;", true)
  | 3 => ("PrimePolynomials$Ring", "over", "LPrimePolynomials$Polynomial;", true)
  | 4 => ("PrimePolynomials$Ring", "first", "LPrimePolynomials$Polynomial;", true)
  | 5 => ("PrimePolynomials$Ring", "second", "LPrimePolynomials$Polynomial;", true)
  | 6 => ("PrimePolynomials$Ring", "modulus", "LPrimePolynomials$Polynomial;", true)
  | 7 => ("PrimePolynomials$Ring", "square", "LPrimePolynomials$Polynomial;", true)
  | _ => ("PrimePolynomials$Ring", "result", "LPrimePolynomials$Polynomial;", true)
def ty_Ring : Nat → FieldType := fun k => match k with
  | 0 => .int
  | 1 => .object "PrimePolynomials$Polynomial"
  | 2 => .object "PrimePolynomials$Polynomial"
  | 3 => .object "PrimePolynomials$Polynomial"
  | 4 => .object "PrimePolynomials$Polynomial"
  | 5 => .object "PrimePolynomials$Polynomial"
  | 6 => .object "PrimePolynomials$Polynomial"
  | 7 => .object "PrimePolynomials$Polynomial"
  | _ => .object "PrimePolynomials$Polynomial"
theorem nm_Ring : ∀ a, a < 9 → ∀ b, b < 9 → a ≠ b → (tc_Ring a).2.1 ≠ (tc_Ring b).2.1 := by decide +kernel
theorem to_Ring : ∀ k, k < 9 → parseFieldDescriptor (tc_Ring k).2.2.1 = some (ty_Ring k) := by decide +kernel
theorem wu_Ring : ∀ w ∈ u_ws rc_Ring tc_Ring 9, w ∈ wa_g := by
  intro w hw
  obtain ⟨k, hk, rfl⟩ := List.mem_map.mp hw
  have hk := List.mem_range.mp hk
  match k, hk with
  | 0, _ => exact wa_in 72 (by decide +kernel) rfl
  | 1, _ => exact wa_in 74 (by decide +kernel) rfl
  | 2, _ => exact wa_in 76 (by decide +kernel) rfl
  | 3, _ => exact wa_in 78 (by decide +kernel) rfl
  | 4, _ => exact wa_in 80 (by decide +kernel) rfl
  | 5, _ => exact wa_in 82 (by decide +kernel) rfl
  | 6, _ => exact wa_in 84 (by decide +kernel) rfl
  | 7, _ => exact wa_in 86 (by decide +kernel) rfl
  | 8, _ => exact wa_in 88 (by decide +kernel) rfl
  | k + 9, hk => exact absurd hk (by omega)
def rc_PP : String := "PrimePolynomials"
def tc_PP : u_T := fun k => match k with
  | 0 => ("PrimePolynomials", "ring", "LPrimePolynomials$Ring;", true)
  | 1 => ("PrimePolynomials", "frobenius", "LPrimePolynomials$Frobenius;", true)
  | 2 => ("PrimePolynomials", "parts", "LPrimePolynomials$Parts;", true)
  | 3 => ("PrimePolynomials", "field", "LPrimePolynomials$Field;", true)
  | _ => ("PrimePolynomials", "registers", "[LPrimePolynomials$Polynomial;", true)
def ty_PP : Nat → FieldType := fun k => match k with
  | 0 => .object "PrimePolynomials$Ring"
  | 1 => .object "PrimePolynomials$Frobenius"
  | 2 => .object "PrimePolynomials$Parts"
  | 3 => .object "PrimePolynomials$Field"
  | _ => .array (.object "PrimePolynomials$Polynomial")
theorem nm_PP : ∀ a, a < 5 → ∀ b, b < 5 → a ≠ b → (tc_PP a).2.1 ≠ (tc_PP b).2.1 := by decide +kernel
theorem to_PP : ∀ k, k < 5 → parseFieldDescriptor (tc_PP k).2.2.1 = some (ty_PP k) := by decide +kernel
theorem wu_PP : ∀ w ∈ u_ws rc_PP tc_PP 5, w ∈ wa_g := by
  intro w hw
  obtain ⟨k, hk, rfl⟩ := List.mem_map.mp hw
  have hk := List.mem_range.mp hk
  match k, hk with
  | 0, _ => exact wa_in 250 (by decide +kernel) rfl
  | 1, _ => exact wa_in 252 (by decide +kernel) rfl
  | 2, _ => exact wa_in 254 (by decide +kernel) rfl
  | 3, _ => exact wa_in 256 (by decide +kernel) rfl
  | 4, _ => exact wa_in 258 (by decide +kernel) rfl
  | k + 5, hk => exact absurd hk (by omega)
def rc_Model : String := "PrimePolynomialsModel"
def tc_Model : u_T := fun k => match k with
  | 0 => ("PrimePolynomialsModel", "p", "I", true)
  | 1 => ("PrimePolynomialsModel", "c", "[I", true)
  | 2 => ("PrimePolynomialsModel", "parts", "I", false)
  | 3 => ("PrimePolynomialsModel", "often", "[I", true)
  | 4 => ("PrimePolynomialsModel", "degrees", "[I", true)
  | 5 => ("PrimePolynomialsModel", "factored", "Z", false)
  | 6 => ("PrimePolynomialsModel", "lead", "I", false)
  | _ => ("PrimePolynomialsModel", "k", "I", false)
def ty_Model : Nat → FieldType := fun k => match k with
  | 0 => .int
  | 1 => .array .int
  | 2 => .int
  | 3 => .array .int
  | 4 => .array .int
  | 5 => .boolean
  | 6 => .int
  | _ => .int
theorem nm_Model : ∀ a, a < 8 → ∀ b, b < 8 → a ≠ b → (tc_Model a).2.1 ≠ (tc_Model b).2.1 := by decide +kernel
theorem to_Model : ∀ k, k < 8 → parseFieldDescriptor (tc_Model k).2.2.1 = some (ty_Model k) := by decide +kernel
theorem wu_Model : ∀ w ∈ u_ws rc_Model tc_Model 8, w ∈ wa_g := by
  intro w hw
  obtain ⟨k, hk, rfl⟩ := List.mem_map.mp hw
  have hk := List.mem_range.mp hk
  match k, hk with
  | 0, _ => exact wa_in 569 (by decide +kernel) rfl
  | 1, _ => exact wa_in 571 (by decide +kernel) rfl
  | 2, _ => exact wa_in 573 (by decide +kernel) rfl
  | 3, _ => exact wa_in 575 (by decide +kernel) rfl
  | 4, _ => exact wa_in 577 (by decide +kernel) rfl
  | 5, _ => exact wa_in 579 (by decide +kernel) rfl
  | 6, _ => exact wa_in 581 (by decide +kernel) rfl
  | 7, _ => exact wa_in 583 (by decide +kernel) rfl
  | k + 8, hk => exact absurd hk (by omega)
abbrev cl_s : List vw_C := [(rc_Field, tc_Field, 9), (rc_Frob, tc_Frob, 8), (rc_Part, tc_Part, 3), (rc_Parts, tc_Parts, 9), (rc_Poly, tc_Poly, 2), (rc_Ring, tc_Ring, 9), (rc_PP, tc_PP, 5), (rc_Model, tc_Model, 8)]
def rc_Law : String := "PrimePolynomialsLaw"
def rc_Arrays : String := "java/util/Arrays"
def rc_Math : String := "java/lang/Math"
abbrev bm_PP_init : ByteArray := prog_1_method_1_code
def ym_PP_init : MethodName := ⟨rc_PP, "<init>", "(I)V"⟩
abbrev cw_PP_init : Cond := .code ym_PP_init bm_PP_init 3 none
abbrev wm_PP_init : List Cond := cw_PP_init :: wa_g
theorem ci_PP_init : cw_PP_init ∈ wa_g := wa_in 16 (by decide +kernel) rfl
abbrev bm_PP_prime : ByteArray := prog_1_method_2_code
def ym_PP_prime : MethodName := ⟨rc_PP, "prime", "()I"⟩
abbrev cw_PP_prime : Cond := .code ym_PP_prime bm_PP_prime 1 (some .int)
abbrev wm_PP_prime : List Cond := cw_PP_prime :: wa_g
theorem ci_PP_prime : cw_PP_prime ∈ wa_g := wa_in 264 (by decide +kernel) rfl
abbrev bm_PP_set : ByteArray := prog_1_method_3_code
def ym_PP_set : MethodName := ⟨rc_PP, "set", "(III)I"⟩
abbrev cw_PP_set : Cond := .code ym_PP_set bm_PP_set 4 (some .int)
abbrev wm_PP_set : List Cond := cw_PP_set :: wa_g
theorem ci_PP_set : cw_PP_set ∈ wa_g := wa_in 268 (by decide +kernel) rfl
abbrev bm_PP_coefficient : ByteArray := prog_1_method_4_code
def ym_PP_coefficient : MethodName := ⟨rc_PP, "coefficient", "(II)I"⟩
abbrev cw_PP_coefficient : Cond := .code ym_PP_coefficient bm_PP_coefficient 3 (some .int)
abbrev wm_PP_coefficient : List Cond := cw_PP_coefficient :: wa_g
theorem ci_PP_coefficient : cw_PP_coefficient ∈ wa_g := wa_in 285 (by decide +kernel) rfl
abbrev bm_PP_size : ByteArray := prog_1_method_5_code
def ym_PP_size : MethodName := ⟨rc_PP, "size", "(I)I"⟩
abbrev cw_PP_size : Cond := .code ym_PP_size bm_PP_size 2 (some .int)
abbrev wm_PP_size : List Cond := cw_PP_size :: wa_g
theorem ci_PP_size : cw_PP_size ∈ wa_g := wa_in 289 (by decide +kernel) rfl
abbrev bm_PP_value : ByteArray := prog_1_method_6_code
def ym_PP_value : MethodName := ⟨rc_PP, "value", "(II)I"⟩
abbrev cw_PP_value : Cond := .code ym_PP_value bm_PP_value 3 (some .int)
abbrev wm_PP_value : List Cond := cw_PP_value :: wa_g
theorem ci_PP_value : cw_PP_value ∈ wa_g := wa_in 297 (by decide +kernel) rfl
abbrev bm_PP_add : ByteArray := prog_1_method_7_code
def ym_PP_add : MethodName := ⟨rc_PP, "add", "(IIII)I"⟩
abbrev cw_PP_add : Cond := .code ym_PP_add bm_PP_add 5 (some .int)
abbrev wm_PP_add : List Cond := cw_PP_add :: wa_g
theorem ci_PP_add : cw_PP_add ∈ wa_g := wa_in 305 (by decide +kernel) rfl
abbrev bm_PP_multiply : ByteArray := prog_1_method_8_code
def ym_PP_multiply : MethodName := ⟨rc_PP, "multiply", "(III)I"⟩
abbrev cw_PP_multiply : Cond := .code ym_PP_multiply bm_PP_multiply 4 (some .int)
abbrev wm_PP_multiply : List Cond := cw_PP_multiply :: wa_g
theorem ci_PP_multiply : cw_PP_multiply ∈ wa_g := wa_in 314 (by decide +kernel) rfl
abbrev bm_PP_divide : ByteArray := prog_1_method_9_code
def ym_PP_divide : MethodName := ⟨rc_PP, "divide", "(IIII)I"⟩
abbrev cw_PP_divide : Cond := .code ym_PP_divide bm_PP_divide 5 (some .int)
abbrev wm_PP_divide : List Cond := cw_PP_divide :: wa_g
theorem ci_PP_divide : cw_PP_divide ∈ wa_g := wa_in 334 (by decide +kernel) rfl
abbrev bm_PP_common : ByteArray := prog_1_method_10_code
def ym_PP_common : MethodName := ⟨rc_PP, "common", "(III)I"⟩
abbrev cw_PP_common : Cond := .code ym_PP_common bm_PP_common 4 (some .int)
abbrev wm_PP_common : List Cond := cw_PP_common :: wa_g
theorem ci_PP_common : cw_PP_common ∈ wa_g := wa_in 358 (by decide +kernel) rfl
abbrev bm_PP_power : ByteArray := prog_1_method_11_code
def ym_PP_power : MethodName := ⟨rc_PP, "power", "(IIJI)I"⟩
abbrev cw_PP_power : Cond := .code ym_PP_power bm_PP_power 6 (some .int)
abbrev wm_PP_power : List Cond := cw_PP_power :: wa_g
theorem ci_PP_power : cw_PP_power ∈ wa_g := wa_in 384 (by decide +kernel) rfl
abbrev bm_PP_derive : ByteArray := prog_1_method_12_code
def ym_PP_derive : MethodName := ⟨rc_PP, "derive", "(II)I"⟩
abbrev cw_PP_derive : Cond := .code ym_PP_derive bm_PP_derive 3 (some .int)
abbrev wm_PP_derive : List Cond := cw_PP_derive :: wa_g
theorem ci_PP_derive : cw_PP_derive ∈ wa_g := wa_in 397 (by decide +kernel) rfl
abbrev bm_PP_isPrime : ByteArray := prog_1_method_13_code
def ym_PP_isPrime : MethodName := ⟨rc_PP, "isPrime", "(I)I"⟩
abbrev cw_PP_isPrime : Cond := .code ym_PP_isPrime bm_PP_isPrime 2 (some .int)
abbrev wm_PP_isPrime : List Cond := cw_PP_isPrime :: wa_g
theorem ci_PP_isPrime : cw_PP_isPrime ∈ wa_g := wa_in 405 (by decide +kernel) rfl
abbrev bm_PP_factor : ByteArray := prog_1_method_14_code
def ym_PP_factor : MethodName := ⟨rc_PP, "factor", "(I)I"⟩
abbrev cw_PP_factor : Cond := .code ym_PP_factor bm_PP_factor 2 (some .int)
abbrev wm_PP_factor : List Cond := cw_PP_factor :: wa_g
theorem ci_PP_factor : cw_PP_factor ∈ wa_g := wa_in 433 (by decide +kernel) rfl
abbrev bm_PP_part : ByteArray := prog_1_method_15_code
def ym_PP_part : MethodName := ⟨rc_PP, "part", "(II)I"⟩
abbrev cw_PP_part : Cond := .code ym_PP_part bm_PP_part 4 (some .int)
abbrev wm_PP_part : List Cond := cw_PP_part :: wa_g
theorem ci_PP_part : cw_PP_part ∈ wa_g := wa_in 463 (by decide +kernel) rfl
abbrev bm_PP_split : ByteArray := prog_1_method_16_code
def ym_PP_split : MethodName := ⟨rc_PP, "split", "(II)I"⟩
abbrev cw_PP_split : Cond := .code ym_PP_split bm_PP_split 3 (some .int)
abbrev wm_PP_split : List Cond := cw_PP_split :: wa_g
theorem ci_PP_split : cw_PP_split ∈ wa_g := wa_in 471 (by decide +kernel) rfl
abbrev bm_PP_product : ByteArray := prog_1_method_17_code
def ym_PP_product : MethodName := ⟨rc_PP, "product", "(I)I"⟩
abbrev cw_PP_product : Cond := .code ym_PP_product bm_PP_product 2 (some .int)
abbrev wm_PP_product : List Cond := cw_PP_product :: wa_g
theorem ci_PP_product : cw_PP_product ∈ wa_g := wa_in 494 (by decide +kernel) rfl
abbrev bm_PP_field : ByteArray := prog_1_method_18_code
def ym_PP_field : MethodName := ⟨rc_PP, "field", "(I)I"⟩
abbrev cw_PP_field : Cond := .code ym_PP_field bm_PP_field 3 (some .int)
abbrev wm_PP_field : List Cond := cw_PP_field :: wa_g
theorem ci_PP_field : cw_PP_field ∈ wa_g := wa_in 508 (by decide +kernel) rfl
abbrev bm_PP_times : ByteArray := prog_1_method_19_code
def ym_PP_times : MethodName := ⟨rc_PP, "times", "(III)I"⟩
abbrev cw_PP_times : Cond := .code ym_PP_times bm_PP_times 4 (some .int)
abbrev wm_PP_times : List Cond := cw_PP_times :: wa_g
theorem ci_PP_times : cw_PP_times ∈ wa_g := wa_in 514 (by decide +kernel) rfl
abbrev bm_PP_inverse : ByteArray := prog_1_method_20_code
def ym_PP_inverse : MethodName := ⟨rc_PP, "inverse", "(II)I"⟩
abbrev cw_PP_inverse : Cond := .code ym_PP_inverse bm_PP_inverse 3 (some .int)
abbrev wm_PP_inverse : List Cond := cw_PP_inverse :: wa_g
theorem ci_PP_inverse : cw_PP_inverse ∈ wa_g := wa_in 524 (by decide +kernel) rfl
abbrev bm_PP_trace : ByteArray := prog_1_method_21_code
def ym_PP_trace : MethodName := ⟨rc_PP, "trace", "(IZ)I"⟩
abbrev cw_PP_trace : Cond := .code ym_PP_trace bm_PP_trace 3 (some .int)
abbrev wm_PP_trace : List Cond := cw_PP_trace :: wa_g
theorem ci_PP_trace : cw_PP_trace ∈ wa_g := wa_in 542 (by decide +kernel) rfl
abbrev bm_PP_isNoRegister : ByteArray := prog_1_method_22_code
def ym_PP_isNoRegister : MethodName := ⟨rc_PP, "isNoRegister", "(I)Z"⟩
abbrev cw_PP_isNoRegister : Cond := .code ym_PP_isNoRegister bm_PP_isNoRegister 1 (some .boolean)
abbrev wm_PP_isNoRegister : List Cond := cw_PP_isNoRegister :: wa_g
theorem ci_PP_isNoRegister : cw_PP_isNoRegister ∈ wa_g := wa_in 271 (by decide +kernel) rfl
abbrev bm_PP_isNoIndex : ByteArray := prog_1_method_23_code
def ym_PP_isNoIndex : MethodName := ⟨rc_PP, "isNoIndex", "(I)Z"⟩
abbrev cw_PP_isNoIndex : Cond := .code ym_PP_isNoIndex bm_PP_isNoIndex 1 (some .boolean)
abbrev wm_PP_isNoIndex : List Cond := cw_PP_isNoIndex :: wa_g
theorem ci_PP_isNoIndex : cw_PP_isNoIndex ∈ wa_g := wa_in 274 (by decide +kernel) rfl
abbrev bm_PP_isNoPart : ByteArray := prog_1_method_24_code
def ym_PP_isNoPart : MethodName := ⟨rc_PP, "isNoPart", "(I)Z"⟩
abbrev cw_PP_isNoPart : Cond := .code ym_PP_isNoPart bm_PP_isNoPart 2 (some .boolean)
abbrev wm_PP_isNoPart : List Cond := cw_PP_isNoPart :: wa_g
theorem ci_PP_isNoPart : cw_PP_isNoPart ∈ wa_g := wa_in 467 (by decide +kernel) rfl
abbrev bm_PP_sizeOf : ByteArray := prog_1_method_25_code
def ym_PP_sizeOf : MethodName := ⟨rc_PP, "sizeOf", "(I)I"⟩
abbrev cw_PP_sizeOf : Cond := .code ym_PP_sizeOf bm_PP_sizeOf 2 (some .int)
abbrev wm_PP_sizeOf : List Cond := cw_PP_sizeOf :: wa_g
theorem ci_PP_sizeOf : cw_PP_sizeOf ∈ wa_g := wa_in 293 (by decide +kernel) rfl
abbrev bm_PP_greatestPrimeUpTo : ByteArray := prog_1_method_26_code
def ym_PP_greatestPrimeUpTo : MethodName := ⟨rc_PP, "greatestPrimeUpTo", "(I)I"⟩
abbrev cw_PP_greatestPrimeUpTo : Cond := .code ym_PP_greatestPrimeUpTo bm_PP_greatestPrimeUpTo 2 (some .int)
abbrev wm_PP_greatestPrimeUpTo : List Cond := cw_PP_greatestPrimeUpTo :: wa_g
theorem ci_PP_greatestPrimeUpTo : cw_PP_greatestPrimeUpTo ∈ wa_g := wa_in 24 (by decide +kernel) rfl
abbrev bm_PP_isPrimeNumber : ByteArray := prog_1_method_27_code
def ym_PP_isPrimeNumber : MethodName := ⟨rc_PP, "isPrimeNumber", "(I)Z"⟩
abbrev cw_PP_isPrimeNumber : Cond := .code ym_PP_isPrimeNumber bm_PP_isPrimeNumber 3 (some .boolean)
abbrev wm_PP_isPrimeNumber : List Cond := cw_PP_isPrimeNumber :: wa_g
theorem ci_PP_isPrimeNumber : cw_PP_isPrimeNumber ∈ wa_g := wa_in 27 (by decide +kernel) rfl
abbrev bm_Model_init : ByteArray := prog_9_method_1_code
def ym_Model_init : MethodName := ⟨rc_Model, "<init>", "(I)V"⟩
abbrev cw_Model_init : Cond := .code ym_Model_init bm_Model_init 3 none
abbrev wm_Model_init : List Cond := cw_Model_init :: wa_g
theorem ci_Model_init : cw_Model_init ∈ wa_g := wa_in 556 (by decide +kernel) rfl
abbrev bm_Model_isPrimeNumber : ByteArray := prog_9_method_2_code
def ym_Model_isPrimeNumber : MethodName := ⟨rc_Model, "isPrimeNumber", "(I)Z"⟩
abbrev cw_Model_isPrimeNumber : Cond := .code ym_Model_isPrimeNumber bm_Model_isPrimeNumber 2 (some .boolean)
abbrev wm_Model_isPrimeNumber : List Cond := cw_Model_isPrimeNumber :: wa_g
theorem ci_Model_isPrimeNumber : cw_Model_isPrimeNumber ∈ wa_g := wa_in 560 (by decide +kernel) rfl
abbrev bm_Model_prime : ByteArray := prog_9_method_3_code
def ym_Model_prime : MethodName := ⟨rc_Model, "prime", "()I"⟩
abbrev cw_Model_prime : Cond := .code ym_Model_prime bm_Model_prime 1 (some .int)
abbrev wm_Model_prime : List Cond := cw_Model_prime :: wa_g
theorem ci_Model_prime : cw_Model_prime ∈ wa_g := wa_in 589 (by decide +kernel) rfl
abbrev bm_Model_reduce : ByteArray := prog_9_method_4_code
def ym_Model_reduce : MethodName := ⟨rc_Model, "reduce", "(I)I"⟩
abbrev cw_Model_reduce : Cond := .code ym_Model_reduce bm_Model_reduce 2 (some .int)
abbrev wm_Model_reduce : List Cond := cw_Model_reduce :: wa_g
theorem ci_Model_reduce : cw_Model_reduce ∈ wa_g := wa_in 600 (by decide +kernel) rfl
abbrev bm_Model_times2 : ByteArray := prog_9_method_5_code
def ym_Model_times2 : MethodName := ⟨rc_Model, "times2", "(II)I"⟩
abbrev cw_Model_times2 : Cond := .code ym_Model_times2 bm_Model_times2 3 (some .int)
abbrev wm_Model_times2 : List Cond := cw_Model_times2 :: wa_g
theorem ci_Model_times2 : cw_Model_times2 ∈ wa_g := wa_in 668 (by decide +kernel) rfl
abbrev bm_Model_raise : ByteArray := prog_9_method_6_code
def ym_Model_raise : MethodName := ⟨rc_Model, "raise", "(II)I"⟩
abbrev cw_Model_raise : Cond := .code ym_Model_raise bm_Model_raise 5 (some .int)
abbrev wm_Model_raise : List Cond := cw_Model_raise :: wa_g
theorem ci_Model_raise : cw_Model_raise ∈ wa_g := wa_in 664 (by decide +kernel) rfl
abbrev bm_Model_get : ByteArray := prog_9_method_7_code
def ym_Model_get : MethodName := ⟨rc_Model, "get", "(II)I"⟩
abbrev cw_Model_get : Cond := .code ym_Model_get bm_Model_get 3 (some .int)
abbrev wm_Model_get : List Cond := cw_Model_get :: wa_g
theorem ci_Model_get : cw_Model_get ∈ wa_g := wa_in 612 (by decide +kernel) rfl
abbrev bm_Model_put : ByteArray := prog_9_method_8_code
def ym_Model_put : MethodName := ⟨rc_Model, "put", "(III)V"⟩
abbrev cw_Model_put : Cond := .code ym_Model_put bm_Model_put 4 none
abbrev wm_Model_put : List Cond := cw_Model_put :: wa_g
theorem ci_Model_put : cw_Model_put ∈ wa_g := wa_in 604 (by decide +kernel) rfl
abbrev bm_Model_degree : ByteArray := prog_9_method_9_code
def ym_Model_degree : MethodName := ⟨rc_Model, "degree", "(I)I"⟩
abbrev cw_Model_degree : Cond := .code ym_Model_degree bm_Model_degree 3 (some .int)
abbrev wm_Model_degree : List Cond := cw_Model_degree :: wa_g
theorem ci_Model_degree : cw_Model_degree ∈ wa_g := wa_in 608 (by decide +kernel) rfl
abbrev bm_Model_copy : ByteArray := prog_9_method_10_code
def ym_Model_copy : MethodName := ⟨rc_Model, "copy", "(II)V"⟩
abbrev cw_Model_copy : Cond := .code ym_Model_copy bm_Model_copy 4 none
abbrev wm_Model_copy : List Cond := cw_Model_copy :: wa_g
theorem ci_Model_copy : cw_Model_copy ∈ wa_g := wa_in 636 (by decide +kernel) rfl
abbrev bm_Model_number : ByteArray := prog_9_method_11_code
def ym_Model_number : MethodName := ⟨rc_Model, "number", "(II)V"⟩
abbrev cw_Model_number : Cond := .code ym_Model_number bm_Model_number 4 none
abbrev wm_Model_number : List Cond := cw_Model_number :: wa_g
theorem ci_Model_number : cw_Model_number ∈ wa_g := wa_in 652 (by decide +kernel) rfl
abbrev bm_Model_plus : ByteArray := prog_9_method_12_code
def ym_Model_plus : MethodName := ⟨rc_Model, "plus", "(III)V"⟩
abbrev cw_Model_plus : Cond := .code ym_Model_plus bm_Model_plus 5 none
abbrev wm_Model_plus : List Cond := cw_Model_plus :: wa_g
theorem ci_Model_plus : cw_Model_plus ∈ wa_g := wa_in 640 (by decide +kernel) rfl
abbrev bm_Model_product2 : ByteArray := prog_9_method_13_code
def ym_Model_product2 : MethodName := ⟨rc_Model, "product2", "(II)V"⟩
abbrev cw_Model_product2 : Cond := .code ym_Model_product2 bm_Model_product2 5 none
abbrev wm_Model_product2 : List Cond := cw_Model_product2 :: wa_g
theorem ci_Model_product2 : cw_Model_product2 ∈ wa_g := wa_in 648 (by decide +kernel) rfl
abbrev bm_Model_rest : ByteArray := prog_9_method_14_code
def ym_Model_rest : MethodName := ⟨rc_Model, "rest", "(II)V"⟩
abbrev cw_Model_rest : Cond := .code ym_Model_rest bm_Model_rest 8 none
abbrev wm_Model_rest : List Cond := cw_Model_rest :: wa_g
theorem ci_Model_rest : cw_Model_rest ∈ wa_g := wa_in 660 (by decide +kernel) rfl
abbrev bm_Model_monic : ByteArray := prog_9_method_15_code
def ym_Model_monic : MethodName := ⟨rc_Model, "monic", "(I)V"⟩
abbrev cw_Model_monic : Cond := .code ym_Model_monic bm_Model_monic 5 none
abbrev wm_Model_monic : List Cond := cw_Model_monic :: wa_g
theorem ci_Model_monic : cw_Model_monic ∈ wa_g := wa_in 680 (by decide +kernel) rfl
abbrev bm_Model_timesBy : ByteArray := prog_9_method_16_code
def ym_Model_timesBy : MethodName := ⟨rc_Model, "timesBy", "(III)V"⟩
abbrev cw_Model_timesBy : Cond := .code ym_Model_timesBy bm_Model_timesBy 4 none
abbrev wm_Model_timesBy : List Cond := cw_Model_timesBy :: wa_g
theorem ci_Model_timesBy : cw_Model_timesBy ∈ wa_g := wa_in 692 (by decide +kernel) rfl
abbrev bm_Model_commonOf : ByteArray := prog_9_method_17_code
def ym_Model_commonOf : MethodName := ⟨rc_Model, "commonOf", "(II)V"⟩
abbrev cw_Model_commonOf : Cond := .code ym_Model_commonOf bm_Model_commonOf 3 none
abbrev wm_Model_commonOf : List Cond := cw_Model_commonOf :: wa_g
theorem ci_Model_commonOf : cw_Model_commonOf ∈ wa_g := wa_in 676 (by decide +kernel) rfl
abbrev bm_Model_power2 : ByteArray := prog_9_method_18_code
def ym_Model_power2 : MethodName := ⟨rc_Model, "power2", "(IJI)V"⟩
abbrev cw_Model_power2 : Cond := .code ym_Model_power2 bm_Model_power2 6 none
abbrev wm_Model_power2 : List Cond := cw_Model_power2 :: wa_g
theorem ci_Model_power2 : cw_Model_power2 ∈ wa_g := wa_in 688 (by decide +kernel) rfl
abbrev bm_Model_chain : ByteArray := prog_9_method_19_code
def ym_Model_chain : MethodName := ⟨rc_Model, "chain", "(III)V"⟩
abbrev cw_Model_chain : Cond := .code ym_Model_chain bm_Model_chain 5 none
abbrev wm_Model_chain : List Cond := cw_Model_chain :: wa_g
theorem ci_Model_chain : cw_Model_chain ∈ wa_g := wa_in 736 (by decide +kernel) rfl
abbrev bm_Model_isRegister : ByteArray := prog_9_method_20_code
def ym_Model_isRegister : MethodName := ⟨rc_Model, "isRegister", "(I)Z"⟩
abbrev cw_Model_isRegister : Cond := .code ym_Model_isRegister bm_Model_isRegister 1 (some .boolean)
abbrev wm_Model_isRegister : List Cond := cw_Model_isRegister :: wa_g
theorem ci_Model_isRegister : cw_Model_isRegister ∈ wa_g := wa_in 596 (by decide +kernel) rfl
abbrev bm_Model_size2 : ByteArray := prog_9_method_21_code
def ym_Model_size2 : MethodName := ⟨rc_Model, "size2", "(I)I"⟩
abbrev cw_Model_size2 : Cond := .code ym_Model_size2 bm_Model_size2 2 (some .int)
abbrev wm_Model_size2 : List Cond := cw_Model_size2 :: wa_g
theorem ci_Model_size2 : cw_Model_size2 ∈ wa_g := wa_in 624 (by decide +kernel) rfl
abbrev bm_Model_set : ByteArray := prog_9_method_22_code
def ym_Model_set : MethodName := ⟨rc_Model, "set", "(III)I"⟩
abbrev cw_Model_set : Cond := .code ym_Model_set bm_Model_set 5 (some .int)
abbrev wm_Model_set : List Cond := cw_Model_set :: wa_g
theorem ci_Model_set : cw_Model_set ∈ wa_g := wa_in 593 (by decide +kernel) rfl
abbrev bm_Model_coefficient : ByteArray := prog_9_method_23_code
def ym_Model_coefficient : MethodName := ⟨rc_Model, "coefficient", "(II)I"⟩
abbrev cw_Model_coefficient : Cond := .code ym_Model_coefficient bm_Model_coefficient 3 (some .int)
abbrev wm_Model_coefficient : List Cond := cw_Model_coefficient :: wa_g
theorem ci_Model_coefficient : cw_Model_coefficient ∈ wa_g := wa_in 616 (by decide +kernel) rfl
abbrev bm_Model_size : ByteArray := prog_9_method_24_code
def ym_Model_size : MethodName := ⟨rc_Model, "size", "(I)I"⟩
abbrev cw_Model_size : Cond := .code ym_Model_size bm_Model_size 2 (some .int)
abbrev wm_Model_size : List Cond := cw_Model_size :: wa_g
theorem ci_Model_size : cw_Model_size ∈ wa_g := wa_in 620 (by decide +kernel) rfl
abbrev bm_Model_value : ByteArray := prog_9_method_25_code
def ym_Model_value : MethodName := ⟨rc_Model, "value", "(II)I"⟩
abbrev cw_Model_value : Cond := .code ym_Model_value bm_Model_value 6 (some .int)
abbrev wm_Model_value : List Cond := cw_Model_value :: wa_g
theorem ci_Model_value : cw_Model_value ∈ wa_g := wa_in 628 (by decide +kernel) rfl
abbrev bm_Model_add : ByteArray := prog_9_method_26_code
def ym_Model_add : MethodName := ⟨rc_Model, "add", "(IIII)I"⟩
abbrev cw_Model_add : Cond := .code ym_Model_add bm_Model_add 5 (some .int)
abbrev wm_Model_add : List Cond := cw_Model_add :: wa_g
theorem ci_Model_add : cw_Model_add ∈ wa_g := wa_in 632 (by decide +kernel) rfl
abbrev bm_Model_multiply : ByteArray := prog_9_method_27_code
def ym_Model_multiply : MethodName := ⟨rc_Model, "multiply", "(III)I"⟩
abbrev cw_Model_multiply : Cond := .code ym_Model_multiply bm_Model_multiply 4 (some .int)
abbrev wm_Model_multiply : List Cond := cw_Model_multiply :: wa_g
theorem ci_Model_multiply : cw_Model_multiply ∈ wa_g := wa_in 644 (by decide +kernel) rfl
abbrev bm_Model_divide : ByteArray := prog_9_method_28_code
def ym_Model_divide : MethodName := ⟨rc_Model, "divide", "(IIII)I"⟩
abbrev cw_Model_divide : Cond := .code ym_Model_divide bm_Model_divide 5 (some .int)
abbrev wm_Model_divide : List Cond := cw_Model_divide :: wa_g
theorem ci_Model_divide : cw_Model_divide ∈ wa_g := wa_in 656 (by decide +kernel) rfl
abbrev bm_Model_common : ByteArray := prog_9_method_29_code
def ym_Model_common : MethodName := ⟨rc_Model, "common", "(III)I"⟩
abbrev cw_Model_common : Cond := .code ym_Model_common bm_Model_common 4 (some .int)
abbrev wm_Model_common : List Cond := cw_Model_common :: wa_g
theorem ci_Model_common : cw_Model_common ∈ wa_g := wa_in 672 (by decide +kernel) rfl
abbrev bm_Model_power : ByteArray := prog_9_method_30_code
def ym_Model_power : MethodName := ⟨rc_Model, "power", "(IIJI)I"⟩
abbrev cw_Model_power : Cond := .code ym_Model_power bm_Model_power 6 (some .int)
abbrev wm_Model_power : List Cond := cw_Model_power :: wa_g
theorem ci_Model_power : cw_Model_power ∈ wa_g := wa_in 684 (by decide +kernel) rfl
abbrev bm_Model_derive : ByteArray := prog_9_method_31_code
def ym_Model_derive : MethodName := ⟨rc_Model, "derive", "(II)I"⟩
abbrev cw_Model_derive : Cond := .code ym_Model_derive bm_Model_derive 4 (some .int)
abbrev wm_Model_derive : List Cond := cw_Model_derive :: wa_g
theorem ci_Model_derive : cw_Model_derive ∈ wa_g := wa_in 696 (by decide +kernel) rfl
abbrev bm_Model_isPrimeAt : ByteArray := prog_9_method_32_code
def ym_Model_isPrimeAt : MethodName := ⟨rc_Model, "isPrimeAt", "()Z"⟩
abbrev cw_Model_isPrimeAt : Cond := .code ym_Model_isPrimeAt bm_Model_isPrimeAt 3 (some .boolean)
abbrev wm_Model_isPrimeAt : List Cond := cw_Model_isPrimeAt :: wa_g
theorem ci_Model_isPrimeAt : cw_Model_isPrimeAt ∈ wa_g := wa_in 704 (by decide +kernel) rfl
abbrev bm_Model_isPrime : ByteArray := prog_9_method_33_code
def ym_Model_isPrime : MethodName := ⟨rc_Model, "isPrime", "(I)I"⟩
abbrev cw_Model_isPrime : Cond := .code ym_Model_isPrime bm_Model_isPrime 2 (some .int)
abbrev wm_Model_isPrime : List Cond := cw_Model_isPrime :: wa_g
theorem ci_Model_isPrime : cw_Model_isPrime ∈ wa_g := wa_in 700 (by decide +kernel) rfl
abbrev bm_Model_insert : ByteArray := prog_9_method_34_code
def ym_Model_insert : MethodName := ⟨rc_Model, "insert", "(II)V"⟩
abbrev cw_Model_insert : Cond := .code ym_Model_insert bm_Model_insert 4 none
abbrev wm_Model_insert : List Cond := cw_Model_insert :: wa_g
theorem ci_Model_insert : cw_Model_insert ∈ wa_g := wa_in 716 (by decide +kernel) rfl
abbrev bm_Model_shift : ByteArray := prog_9_method_35_code
def ym_Model_shift : MethodName := ⟨rc_Model, "shift", "(I)V"⟩
abbrev cw_Model_shift : Cond := .code ym_Model_shift bm_Model_shift 3 none
abbrev wm_Model_shift : List Cond := cw_Model_shift :: wa_g
theorem ci_Model_shift : cw_Model_shift ∈ wa_g := wa_in 720 (by decide +kernel) rfl
abbrev bm_Model_takeOut : ByteArray := prog_9_method_36_code
def ym_Model_takeOut : MethodName := ⟨rc_Model, "takeOut", "(I)V"⟩
abbrev cw_Model_takeOut : Cond := .code ym_Model_takeOut bm_Model_takeOut 3 none
abbrev wm_Model_takeOut : List Cond := cw_Model_takeOut :: wa_g
theorem ci_Model_takeOut : cw_Model_takeOut ∈ wa_g := wa_in 712 (by decide +kernel) rfl
abbrev bm_Model_factor : ByteArray := prog_9_method_37_code
def ym_Model_factor : MethodName := ⟨rc_Model, "factor", "(I)I"⟩
abbrev cw_Model_factor : Cond := .code ym_Model_factor bm_Model_factor 4 (some .int)
abbrev wm_Model_factor : List Cond := cw_Model_factor :: wa_g
theorem ci_Model_factor : cw_Model_factor ∈ wa_g := wa_in 708 (by decide +kernel) rfl
abbrev bm_Model_isPart : ByteArray := prog_9_method_38_code
def ym_Model_isPart : MethodName := ⟨rc_Model, "isPart", "(I)Z"⟩
abbrev cw_Model_isPart : Cond := .code ym_Model_isPart bm_Model_isPart 2 (some .boolean)
abbrev wm_Model_isPart : List Cond := cw_Model_isPart :: wa_g
theorem ci_Model_isPart : cw_Model_isPart ∈ wa_g := wa_in 728 (by decide +kernel) rfl
abbrev bm_Model_part : ByteArray := prog_9_method_39_code
def ym_Model_part : MethodName := ⟨rc_Model, "part", "(II)I"⟩
abbrev cw_Model_part : Cond := .code ym_Model_part bm_Model_part 3 (some .int)
abbrev wm_Model_part : List Cond := cw_Model_part :: wa_g
theorem ci_Model_part : cw_Model_part ∈ wa_g := wa_in 724 (by decide +kernel) rfl
abbrev bm_Model_split : ByteArray := prog_9_method_40_code
def ym_Model_split : MethodName := ⟨rc_Model, "split", "(II)I"⟩
abbrev cw_Model_split : Cond := .code ym_Model_split bm_Model_split 5 (some .int)
abbrev wm_Model_split : List Cond := cw_Model_split :: wa_g
theorem ci_Model_split : cw_Model_split ∈ wa_g := wa_in 732 (by decide +kernel) rfl
abbrev bm_Model_product : ByteArray := prog_9_method_41_code
def ym_Model_product : MethodName := ⟨rc_Model, "product", "(I)I"⟩
abbrev cw_Model_product : Cond := .code ym_Model_product bm_Model_product 4 (some .int)
abbrev wm_Model_product : List Cond := cw_Model_product :: wa_g
theorem ci_Model_product : cw_Model_product ∈ wa_g := wa_in 740 (by decide +kernel) rfl
abbrev bm_Model_field : ByteArray := prog_9_method_42_code
def ym_Model_field : MethodName := ⟨rc_Model, "field", "(I)I"⟩
abbrev cw_Model_field : Cond := .code ym_Model_field bm_Model_field 2 (some .int)
abbrev wm_Model_field : List Cond := cw_Model_field :: wa_g
theorem ci_Model_field : cw_Model_field ∈ wa_g := wa_in 744 (by decide +kernel) rfl
abbrev bm_Model_times : ByteArray := prog_9_method_43_code
def ym_Model_times : MethodName := ⟨rc_Model, "times", "(III)I"⟩
abbrev cw_Model_times : Cond := .code ym_Model_times bm_Model_times 4 (some .int)
abbrev wm_Model_times : List Cond := cw_Model_times :: wa_g
theorem ci_Model_times : cw_Model_times ∈ wa_g := wa_in 748 (by decide +kernel) rfl
abbrev bm_Model_inverse : ByteArray := prog_9_method_44_code
def ym_Model_inverse : MethodName := ⟨rc_Model, "inverse", "(II)I"⟩
abbrev cw_Model_inverse : Cond := .code ym_Model_inverse bm_Model_inverse 5 (some .int)
abbrev wm_Model_inverse : List Cond := cw_Model_inverse :: wa_g
theorem ci_Model_inverse : cw_Model_inverse ∈ wa_g := wa_in 752 (by decide +kernel) rfl
abbrev bm_Model_trace : ByteArray := prog_9_method_45_code
def ym_Model_trace : MethodName := ⟨rc_Model, "trace", "(IZ)I"⟩
abbrev cw_Model_trace : Cond := .code ym_Model_trace bm_Model_trace 4 (some .int)
abbrev wm_Model_trace : List Cond := cw_Model_trace :: wa_g
theorem ci_Model_trace : cw_Model_trace ∈ wa_g := wa_in 756 (by decide +kernel) rfl
abbrev bm_Field_init : ByteArray := prog_2_method_1_code
def ym_Field_init : MethodName := ⟨rc_Field, "<init>", "(LPrimePolynomials$Ring;LPrimePolynomials$Frobenius;)V"⟩
abbrev cw_Field_init : Cond := .code ym_Field_init bm_Field_init 3 none
abbrev wm_Field_init : List Cond := cw_Field_init :: wa_g
theorem ci_Field_init : cw_Field_init ∈ wa_g := wa_in 210 (by decide +kernel) rfl
abbrev bm_Field_isMade : ByteArray := prog_2_method_2_code
def ym_Field_isMade : MethodName := ⟨rc_Field, "isMade", "()Z"⟩
abbrev cw_Field_isMade : Cond := .code ym_Field_isMade bm_Field_isMade 1 (some .boolean)
abbrev wm_Field_isMade : List Cond := cw_Field_isMade :: wa_g
theorem ci_Field_isMade : cw_Field_isMade ∈ wa_g := wa_in 518 (by decide +kernel) rfl
abbrev bm_Field_inverseInto : ByteArray := prog_2_method_3_code
def ym_Field_inverseInto : MethodName := ⟨rc_Field, "inverseInto", "(LPrimePolynomials$Polynomial;LPrimePolynomials$Polynomial;)Z"⟩
abbrev cw_Field_inverseInto : Cond := .code ym_Field_inverseInto bm_Field_inverseInto 9 (some .boolean)
abbrev wm_Field_inverseInto : List Cond := cw_Field_inverseInto :: wa_g
theorem ci_Field_inverseInto : cw_Field_inverseInto ∈ wa_g := wa_in 528 (by decide +kernel) rfl
abbrev bm_Field_numberOf : ByteArray := prog_2_method_4_code
def ym_Field_numberOf : MethodName := ⟨rc_Field, "numberOf", "(LPrimePolynomials$Polynomial;Z)I"⟩
abbrev cw_Field_numberOf : Cond := .code ym_Field_numberOf bm_Field_numberOf 3 (some .int)
abbrev wm_Field_numberOf : List Cond := cw_Field_numberOf :: wa_g
theorem ci_Field_numberOf : cw_Field_numberOf ∈ wa_g := wa_in 546 (by decide +kernel) rfl
abbrev bm_Frob_init : ByteArray := prog_3_method_1_code
def ym_Frob_init : MethodName := ⟨rc_Frob, "<init>", "(LPrimePolynomials$Ring;)V"⟩
abbrev cw_Frob_init : Cond := .code ym_Frob_init bm_Frob_init 3 none
abbrev wm_Frob_init : List Cond := cw_Frob_init :: wa_g
theorem ci_Frob_init : cw_Frob_init ∈ wa_g := wa_in 95 (by decide +kernel) rfl
abbrev bm_Frob_prepareFor : ByteArray := prog_3_method_2_code
def ym_Frob_prepareFor : MethodName := ⟨rc_Frob, "prepareFor", "(LPrimePolynomials$Polynomial;)V"⟩
abbrev cw_Frob_prepareFor : Cond := .code ym_Frob_prepareFor bm_Frob_prepareFor 3 none
abbrev wm_Frob_prepareFor : List Cond := cw_Frob_prepareFor :: wa_g
theorem ci_Frob_prepareFor : cw_Frob_prepareFor ∈ wa_g := wa_in 413 (by decide +kernel) rfl
abbrev bm_Frob_nextDegreeInto : ByteArray := prog_3_method_3_code
def ym_Frob_nextDegreeInto : MethodName := ⟨rc_Frob, "nextDegreeInto", "(LPrimePolynomials$Polynomial;LPrimePolynomials$Polynomial;)V"⟩
abbrev cw_Frob_nextDegreeInto : Cond := .code ym_Frob_nextDegreeInto bm_Frob_nextDegreeInto 3 none
abbrev wm_Frob_nextDegreeInto : List Cond := cw_Frob_nextDegreeInto :: wa_g
theorem ci_Frob_nextDegreeInto : cw_Frob_nextDegreeInto ∈ wa_g := wa_in 422 (by decide +kernel) rfl
abbrev bm_Frob_findsPrime : ByteArray := prog_3_method_4_code
def ym_Frob_findsPrime : MethodName := ⟨rc_Frob, "findsPrime", "(LPrimePolynomials$Polynomial;)Z"⟩
abbrev cw_Frob_findsPrime : Cond := .code ym_Frob_findsPrime bm_Frob_findsPrime 3 (some .boolean)
abbrev wm_Frob_findsPrime : List Cond := cw_Frob_findsPrime :: wa_g
theorem ci_Frob_findsPrime : cw_Frob_findsPrime ∈ wa_g := wa_in 409 (by decide +kernel) rfl
abbrev bm_Frob_gatherInto : ByteArray := prog_3_method_5_code
def ym_Frob_gatherInto : MethodName := ⟨rc_Frob, "gatherInto", "(LPrimePolynomials$Polynomial;LPrimePolynomials$Polynomial;IZ)V"⟩
abbrev cw_Frob_gatherInto : Cond := .code ym_Frob_gatherInto bm_Frob_gatherInto 6 none
abbrev wm_Frob_gatherInto : List Cond := cw_Frob_gatherInto :: wa_g
theorem ci_Frob_gatherInto : cw_Frob_gatherInto ∈ wa_g := wa_in 487 (by decide +kernel) rfl
abbrev bm_Frob_raise : ByteArray := prog_3_method_6_code
def ym_Frob_raise : MethodName := ⟨rc_Frob, "raise", "(LPrimePolynomials$Polynomial;)V"⟩
abbrev cw_Frob_raise : Cond := .code ym_Frob_raise bm_Frob_raise 3 none
abbrev wm_Frob_raise : List Cond := cw_Frob_raise :: wa_g
theorem ci_Frob_raise : cw_Frob_raise ∈ wa_g := wa_in 426 (by decide +kernel) rfl
abbrev bm_Part_init : ByteArray := prog_4_method_1_code
def ym_Part_init : MethodName := ⟨rc_Part, "<init>", "()V"⟩
abbrev cw_Part_init : Cond := .code ym_Part_init bm_Part_init 1 none
abbrev wm_Part_init : List Cond := cw_Part_init :: wa_g
theorem ci_Part_init : cw_Part_init ∈ wa_g := wa_in 157 (by decide +kernel) rfl
abbrev bm_Part_isComplete : ByteArray := prog_4_method_2_code
def ym_Part_isComplete : MethodName := ⟨rc_Part, "isComplete", "()Z"⟩
abbrev cw_Part_isComplete : Cond := .code ym_Part_isComplete bm_Part_isComplete 1 (some .boolean)
abbrev wm_Part_isComplete : List Cond := cw_Part_isComplete :: wa_g
theorem ci_Part_isComplete : cw_Part_isComplete ∈ wa_g := wa_in 475 (by decide +kernel) rfl
abbrev bm_Parts_init : ByteArray := prog_5_method_1_code
def ym_Parts_init : MethodName := ⟨rc_Parts, "<init>", "(LPrimePolynomials$Ring;LPrimePolynomials$Frobenius;)V"⟩
abbrev cw_Parts_init : Cond := .code ym_Parts_init bm_Parts_init 4 none
abbrev wm_Parts_init : List Cond := cw_Parts_init :: wa_g
theorem ci_Parts_init : cw_Parts_init ∈ wa_g := wa_in 148 (by decide +kernel) rfl
abbrev bm_Parts_wereMade : ByteArray := prog_5_method_2_code
def ym_Parts_wereMade : MethodName := ⟨rc_Parts, "wereMade", "()Z"⟩
abbrev cw_Parts_wereMade : Cond := .code ym_Parts_wereMade bm_Parts_wereMade 1 (some .boolean)
abbrev wm_Parts_wereMade : List Cond := cw_Parts_wereMade :: wa_g
theorem ci_Parts_wereMade : cw_Parts_wereMade ∈ wa_g := wa_in 498 (by decide +kernel) rfl
abbrev bm_Parts_makeFrom : ByteArray := prog_5_method_3_code
def ym_Parts_makeFrom : MethodName := ⟨rc_Parts, "makeFrom", "(LPrimePolynomials$Polynomial;)V"⟩
abbrev cw_Parts_makeFrom : Cond := .code ym_Parts_makeFrom bm_Parts_makeFrom 3 none
abbrev wm_Parts_makeFrom : List Cond := cw_Parts_makeFrom :: wa_g
theorem ci_Parts_makeFrom : cw_Parts_makeFrom ∈ wa_g := wa_in 437 (by decide +kernel) rfl
abbrev bm_Parts_takeOutFound : ByteArray := prog_5_method_4_code
def ym_Parts_takeOutFound : MethodName := ⟨rc_Parts, "takeOutFound", "(I)V"⟩
abbrev cw_Parts_takeOutFound : Cond := .code ym_Parts_takeOutFound bm_Parts_takeOutFound 3 none
abbrev wm_Parts_takeOutFound : List Cond := cw_Parts_takeOutFound :: wa_g
theorem ci_Parts_takeOutFound : cw_Parts_takeOutFound ∈ wa_g := wa_in 446 (by decide +kernel) rfl
abbrev bm_Parts_insertInOrder : ByteArray := prog_5_method_5_code
def ym_Parts_insertInOrder : MethodName := ⟨rc_Parts, "insertInOrder", "(IILPrimePolynomials$Polynomial;)V"⟩
abbrev cw_Parts_insertInOrder : Cond := .code ym_Parts_insertInOrder bm_Parts_insertInOrder 5 none
abbrev wm_Parts_insertInOrder : List Cond := cw_Parts_insertInOrder :: wa_g
theorem ci_Parts_insertInOrder : cw_Parts_insertInOrder ∈ wa_g := wa_in 455 (by decide +kernel) rfl
abbrev bm_Parts_insert : ByteArray := prog_5_method_6_code
def ym_Parts_insert : MethodName := ⟨rc_Parts, "insert", "(IIILPrimePolynomials$Polynomial;)V"⟩
abbrev cw_Parts_insert : Cond := .code ym_Parts_insert bm_Parts_insert 7 none
abbrev wm_Parts_insert : List Cond := cw_Parts_insert :: wa_g
theorem ci_Parts_insert : cw_Parts_insert ∈ wa_g := wa_in 459 (by decide +kernel) rfl
abbrev bm_Parts_splitAt : ByteArray := prog_5_method_7_code
def ym_Parts_splitAt : MethodName := ⟨rc_Parts, "splitAt", "(ILPrimePolynomials$Polynomial;)Z"⟩
abbrev cw_Parts_splitAt : Cond := .code ym_Parts_splitAt bm_Parts_splitAt 5 (some .boolean)
abbrev wm_Parts_splitAt : List Cond := cw_Parts_splitAt :: wa_g
theorem ci_Parts_splitAt : cw_Parts_splitAt ∈ wa_g := wa_in 479 (by decide +kernel) rfl
abbrev bm_Parts_separatorInto : ByteArray := prog_5_method_8_code
def ym_Parts_separatorInto : MethodName := ⟨rc_Parts, "separatorInto", "(LPrimePolynomials$Polynomial;LPrimePolynomials$Polynomial;LPrimePolynomials$Part;)V"⟩
abbrev cw_Parts_separatorInto : Cond := .code ym_Parts_separatorInto bm_Parts_separatorInto 4 none
abbrev wm_Parts_separatorInto : List Cond := cw_Parts_separatorInto :: wa_g
theorem ci_Parts_separatorInto : cw_Parts_separatorInto ∈ wa_g := wa_in 483 (by decide +kernel) rfl
abbrev bm_Parts_wholeInto : ByteArray := prog_5_method_9_code
def ym_Parts_wholeInto : MethodName := ⟨rc_Parts, "wholeInto", "(LPrimePolynomials$Polynomial;)V"⟩
abbrev cw_Parts_wholeInto : Cond := .code ym_Parts_wholeInto bm_Parts_wholeInto 4 none
abbrev wm_Parts_wholeInto : List Cond := cw_Parts_wholeInto :: wa_g
theorem ci_Parts_wholeInto : cw_Parts_wholeInto ∈ wa_g := wa_in 502 (by decide +kernel) rfl
abbrev bm_Poly_init : ByteArray := prog_6_method_1_code
def ym_Poly_init : MethodName := ⟨rc_Poly, "<init>", "()V"⟩
abbrev cw_Poly_init : Cond := .code ym_Poly_init bm_Poly_init 1 none
abbrev wm_Poly_init : List Cond := cw_Poly_init :: wa_g
theorem ci_Poly_init : cw_Poly_init ∈ wa_g := wa_in 38 (by decide +kernel) rfl
abbrev bm_Poly_isZero : ByteArray := prog_6_method_2_code
def ym_Poly_isZero : MethodName := ⟨rc_Poly, "isZero", "()Z"⟩
abbrev cw_Poly_isZero : Cond := .code ym_Poly_isZero bm_Poly_isZero 1 (some .boolean)
abbrev wm_Poly_isZero : List Cond := cw_Poly_isZero :: wa_g
theorem ci_Poly_isZero : cw_Poly_isZero ∈ wa_g := wa_in 338 (by decide +kernel) rfl
abbrev bm_Poly_isMonic : ByteArray := prog_6_method_3_code
def ym_Poly_isMonic : MethodName := ⟨rc_Poly, "isMonic", "()Z"⟩
abbrev cw_Poly_isMonic : Cond := .code ym_Poly_isMonic bm_Poly_isMonic 1 (some .boolean)
abbrev wm_Poly_isMonic : List Cond := cw_Poly_isMonic :: wa_g
theorem ci_Poly_isMonic : cw_Poly_isMonic ∈ wa_g := wa_in 375 (by decide +kernel) rfl
abbrev bm_Poly_lead : ByteArray := prog_6_method_4_code
def ym_Poly_lead : MethodName := ⟨rc_Poly, "lead", "()I"⟩
abbrev cw_Poly_lead : Cond := .code ym_Poly_lead bm_Poly_lead 1 (some .int)
abbrev wm_Poly_lead : List Cond := cw_Poly_lead :: wa_g
theorem ci_Poly_lead : cw_Poly_lead ∈ wa_g := wa_in 350 (by decide +kernel) rfl
abbrev bm_Poly_clear : ByteArray := prog_6_method_5_code
def ym_Poly_clear : MethodName := ⟨rc_Poly, "clear", "()V"⟩
abbrev cw_Poly_clear : Cond := .code ym_Poly_clear bm_Poly_clear 1 none
abbrev wm_Poly_clear : List Cond := cw_Poly_clear :: wa_g
theorem ci_Poly_clear : cw_Poly_clear ∈ wa_g := wa_in 107 (by decide +kernel) rfl
abbrev bm_Poly_put : ByteArray := prog_6_method_6_code
def ym_Poly_put : MethodName := ⟨rc_Poly, "put", "(II)V"⟩
abbrev cw_Poly_put : Cond := .code ym_Poly_put bm_Poly_put 3 none
abbrev wm_Poly_put : List Cond := cw_Poly_put :: wa_g
theorem ci_Poly_put : cw_Poly_put ∈ wa_g := wa_in 114 (by decide +kernel) rfl
abbrev bm_Poly_becomeTerm : ByteArray := prog_6_method_7_code
def ym_Poly_becomeTerm : MethodName := ⟨rc_Poly, "becomeTerm", "(II)V"⟩
abbrev cw_Poly_becomeTerm : Cond := .code ym_Poly_becomeTerm bm_Poly_becomeTerm 3 none
abbrev wm_Poly_becomeTerm : List Cond := cw_Poly_becomeTerm :: wa_g
theorem ci_Poly_becomeTerm : cw_Poly_becomeTerm ∈ wa_g := wa_in 103 (by decide +kernel) rfl
abbrev bm_Poly_copyFrom : ByteArray := prog_6_method_8_code
def ym_Poly_copyFrom : MethodName := ⟨rc_Poly, "copyFrom", "(LPrimePolynomials$Polynomial;)V"⟩
abbrev cw_Poly_copyFrom : Cond := .code ym_Poly_copyFrom bm_Poly_copyFrom 2 none
abbrev wm_Poly_copyFrom : List Cond := cw_Poly_copyFrom :: wa_g
theorem ci_Poly_copyFrom : cw_Poly_copyFrom ∈ wa_g := wa_in 327 (by decide +kernel) rfl
abbrev bm_Poly_settle : ByteArray := prog_6_method_9_code
def ym_Poly_settle : MethodName := ⟨rc_Poly, "settle", "()V"⟩
abbrev cw_Poly_settle : Cond := .code ym_Poly_settle bm_Poly_settle 2 none
abbrev wm_Poly_settle : List Cond := cw_Poly_settle :: wa_g
theorem ci_Poly_settle : cw_Poly_settle ∈ wa_g := wa_in 118 (by decide +kernel) rfl
abbrev bm_Ring_init : ByteArray := prog_7_method_1_code
def ym_Ring_init : MethodName := ⟨rc_Ring, "<init>", "(I)V"⟩
abbrev cw_Ring_init : Cond := .code ym_Ring_init bm_Ring_init 2 none
abbrev wm_Ring_init : List Cond := cw_Ring_init :: wa_g
theorem ci_Ring_init : cw_Ring_init ∈ wa_g := wa_in 32 (by decide +kernel) rfl
abbrev bm_Ring_reciprocal : ByteArray := prog_7_method_2_code
def ym_Ring_reciprocal : MethodName := ⟨rc_Ring, "reciprocal", "(I)I"⟩
abbrev cw_Ring_reciprocal : Cond := .code ym_Ring_reciprocal bm_Ring_reciprocal 7 (some .int)
abbrev wm_Ring_reciprocal : List Cond := cw_Ring_reciprocal :: wa_g
theorem ci_Ring_reciprocal : cw_Ring_reciprocal ∈ wa_g := wa_in 354 (by decide +kernel) rfl
abbrev bm_Ring_valueAt : ByteArray := prog_7_method_3_code
def ym_Ring_valueAt : MethodName := ⟨rc_Ring, "valueAt", "(LPrimePolynomials$Polynomial;I)I"⟩
abbrev cw_Ring_valueAt : Cond := .code ym_Ring_valueAt bm_Ring_valueAt 6 (some .int)
abbrev wm_Ring_valueAt : List Cond := cw_Ring_valueAt :: wa_g
theorem ci_Ring_valueAt : cw_Ring_valueAt ∈ wa_g := wa_in 301 (by decide +kernel) rfl
abbrev bm_Ring_sumInto : ByteArray := prog_7_method_4_code
def ym_Ring_sumInto : MethodName := ⟨rc_Ring, "sumInto", "(LPrimePolynomials$Polynomial;LPrimePolynomials$Polynomial;LPrimePolynomials$Polynomial;I)V"⟩
abbrev cw_Ring_sumInto : Cond := .code ym_Ring_sumInto bm_Ring_sumInto 6 none
abbrev wm_Ring_sumInto : List Cond := cw_Ring_sumInto :: wa_g
theorem ci_Ring_sumInto : cw_Ring_sumInto ∈ wa_g := wa_in 309 (by decide +kernel) rfl
abbrev bm_Ring_scaleInto : ByteArray := prog_7_method_5_code
def ym_Ring_scaleInto : MethodName := ⟨rc_Ring, "scaleInto", "(LPrimePolynomials$Polynomial;LPrimePolynomials$Polynomial;I)V"⟩
abbrev cw_Ring_scaleInto : Cond := .code ym_Ring_scaleInto bm_Ring_scaleInto 5 none
abbrev wm_Ring_scaleInto : List Cond := cw_Ring_scaleInto :: wa_g
theorem ci_Ring_scaleInto : cw_Ring_scaleInto ∈ wa_g := wa_in 380 (by decide +kernel) rfl
abbrev bm_Ring_makeMonic : ByteArray := prog_7_method_6_code
def ym_Ring_makeMonic : MethodName := ⟨rc_Ring, "makeMonic", "(LPrimePolynomials$Polynomial;)V"⟩
abbrev cw_Ring_makeMonic : Cond := .code ym_Ring_makeMonic bm_Ring_makeMonic 2 none
abbrev wm_Ring_makeMonic : List Cond := cw_Ring_makeMonic :: wa_g
theorem ci_Ring_makeMonic : cw_Ring_makeMonic ∈ wa_g := wa_in 371 (by decide +kernel) rfl
abbrev bm_Ring_derivativeInto : ByteArray := prog_7_method_7_code
def ym_Ring_derivativeInto : MethodName := ⟨rc_Ring, "derivativeInto", "(LPrimePolynomials$Polynomial;LPrimePolynomials$Polynomial;)V"⟩
abbrev cw_Ring_derivativeInto : Cond := .code ym_Ring_derivativeInto bm_Ring_derivativeInto 4 none
abbrev wm_Ring_derivativeInto : List Cond := cw_Ring_derivativeInto :: wa_g
theorem ci_Ring_derivativeInto : cw_Ring_derivativeInto ∈ wa_g := wa_in 401 (by decide +kernel) rfl
abbrev bm_Ring_productInto : ByteArray := prog_7_method_8_code
def ym_Ring_productInto : MethodName := ⟨rc_Ring, "productInto", "(LPrimePolynomials$Polynomial;LPrimePolynomials$Polynomial;LPrimePolynomials$Polynomial;)V"⟩
abbrev cw_Ring_productInto : Cond := .code ym_Ring_productInto bm_Ring_productInto 4 none
abbrev wm_Ring_productInto : List Cond := cw_Ring_productInto :: wa_g
theorem ci_Ring_productInto : cw_Ring_productInto ∈ wa_g := wa_in 318 (by decide +kernel) rfl
abbrev bm_Ring_productRestInto : ByteArray := prog_7_method_9_code
def ym_Ring_productRestInto : MethodName := ⟨rc_Ring, "productRestInto", "(LPrimePolynomials$Polynomial;LPrimePolynomials$Polynomial;LPrimePolynomials$Polynomial;LPrimePolynomials$Polynomial;)V"⟩
abbrev cw_Ring_productRestInto : Cond := .code ym_Ring_productRestInto bm_Ring_productRestInto 5 none
abbrev wm_Ring_productRestInto : List Cond := cw_Ring_productRestInto :: wa_g
theorem ci_Ring_productRestInto : cw_Ring_productRestInto ∈ wa_g := wa_in 393 (by decide +kernel) rfl
abbrev bm_Ring_quotientAndRestInto : ByteArray := prog_7_method_10_code
def ym_Ring_quotientAndRestInto : MethodName := ⟨rc_Ring, "quotientAndRestInto", "(LPrimePolynomials$Polynomial;LPrimePolynomials$Polynomial;LPrimePolynomials$Polynomial;LPrimePolynomials$Polynomial;)V"⟩
abbrev cw_Ring_quotientAndRestInto : Cond := .code ym_Ring_quotientAndRestInto bm_Ring_quotientAndRestInto 5 none
abbrev wm_Ring_quotientAndRestInto : List Cond := cw_Ring_quotientAndRestInto :: wa_g
theorem ci_Ring_quotientAndRestInto : cw_Ring_quotientAndRestInto ∈ wa_g := wa_in 342 (by decide +kernel) rfl
abbrev bm_Ring_quotientInto : ByteArray := prog_7_method_11_code
def ym_Ring_quotientInto : MethodName := ⟨rc_Ring, "quotientInto", "(LPrimePolynomials$Polynomial;LPrimePolynomials$Polynomial;LPrimePolynomials$Polynomial;)V"⟩
abbrev cw_Ring_quotientInto : Cond := .code ym_Ring_quotientInto bm_Ring_quotientInto 4 none
abbrev wm_Ring_quotientInto : List Cond := cw_Ring_quotientInto :: wa_g
theorem ci_Ring_quotientInto : cw_Ring_quotientInto ∈ wa_g := wa_in 450 (by decide +kernel) rfl
abbrev bm_Ring_restInto : ByteArray := prog_7_method_12_code
def ym_Ring_restInto : MethodName := ⟨rc_Ring, "restInto", "(LPrimePolynomials$Polynomial;LPrimePolynomials$Polynomial;LPrimePolynomials$Polynomial;)V"⟩
abbrev cw_Ring_restInto : Cond := .code ym_Ring_restInto bm_Ring_restInto 4 none
abbrev wm_Ring_restInto : List Cond := cw_Ring_restInto :: wa_g
theorem ci_Ring_restInto : cw_Ring_restInto ∈ wa_g := wa_in 367 (by decide +kernel) rfl
abbrev bm_Ring_commonInto : ByteArray := prog_7_method_13_code
def ym_Ring_commonInto : MethodName := ⟨rc_Ring, "commonInto", "(LPrimePolynomials$Polynomial;LPrimePolynomials$Polynomial;LPrimePolynomials$Polynomial;)V"⟩
abbrev cw_Ring_commonInto : Cond := .code ym_Ring_commonInto bm_Ring_commonInto 8 none
abbrev wm_Ring_commonInto : List Cond := cw_Ring_commonInto :: wa_g
theorem ci_Ring_commonInto : cw_Ring_commonInto ∈ wa_g := wa_in 362 (by decide +kernel) rfl
abbrev bm_Ring_powerInto : ByteArray := prog_7_method_14_code
def ym_Ring_powerInto : MethodName := ⟨rc_Ring, "powerInto", "(LPrimePolynomials$Polynomial;LPrimePolynomials$Polynomial;JLPrimePolynomials$Polynomial;)V"⟩
abbrev cw_Ring_powerInto : Cond := .code ym_Ring_powerInto bm_Ring_powerInto 8 none
abbrev wm_Ring_powerInto : List Cond := cw_Ring_powerInto :: wa_g
theorem ci_Ring_powerInto : cw_Ring_powerInto ∈ wa_g := wa_in 388 (by decide +kernel) rfl
abbrev bm_Ring_multiplyWide : ByteArray := prog_7_method_15_code
def ym_Ring_multiplyWide : MethodName := ⟨rc_Ring, "multiplyWide", "(LPrimePolynomials$Polynomial;LPrimePolynomials$Polynomial;)V"⟩
abbrev cw_Ring_multiplyWide : Cond := .code ym_Ring_multiplyWide bm_Ring_multiplyWide 7 none
abbrev wm_Ring_multiplyWide : List Cond := cw_Ring_multiplyWide :: wa_g
theorem ci_Ring_multiplyWide : cw_Ring_multiplyWide ∈ wa_g := wa_in 322 (by decide +kernel) rfl
abbrev bm_Ring_divideLong : ByteArray := prog_7_method_16_code
def ym_Ring_divideLong : MethodName := ⟨rc_Ring, "divideLong", "(LPrimePolynomials$Polynomial;LPrimePolynomials$Polynomial;)V"⟩
abbrev cw_Ring_divideLong : Cond := .code ym_Ring_divideLong bm_Ring_divideLong 10 none
abbrev wm_Ring_divideLong : List Cond := cw_Ring_divideLong :: wa_g
theorem ci_Ring_divideLong : cw_Ring_divideLong ∈ wa_g := wa_in 346 (by decide +kernel) rfl
abbrev bm_Law_cell : ByteArray := method_2_code
def ym_Law_cell : MethodName := ⟨rc_Law, "cell", "([II)I"⟩
abbrev cw_Law_cell : Cond := .code ym_Law_cell bm_Law_cell 2 (some .int)
abbrev wm_Law_cell : List Cond := cw_Law_cell :: wa_g
theorem ci_Law_cell : cw_Law_cell ∈ wa_g := wa_in 551 (by decide +kernel) rfl
abbrev bm_Arrays_fill : ByteArray := prog_12_method_103_code
def ym_Arrays_fill : MethodName := ⟨rc_Arrays, "fill", "([II)V"⟩
abbrev cw_Arrays_fill : Cond := .code ym_Arrays_fill bm_Arrays_fill 4 none
abbrev wm_Arrays_fill : List Cond := cw_Arrays_fill :: wa_g
theorem ci_Arrays_fill : cw_Arrays_fill ∈ wa_g := wa_in 110 (by decide +kernel) rfl
abbrev bm_Math_floorMod : ByteArray := prog_10_method_50_code
def ym_Math_floorMod : MethodName := ⟨rc_Math, "floorMod", "(II)I"⟩
abbrev cw_Math_floorMod : Cond := .code ym_Math_floorMod bm_Math_floorMod 3 (some .int)
abbrev wm_Math_floorMod : List Cond := cw_Math_floorMod :: wa_g
theorem ci_Math_floorMod : cw_Math_floorMod ∈ wa_g := wa_in 277 (by decide +kernel) rfl
abbrev rm_PP_init : Room := { frames := 4, cells := 0, slots := 0, locals := 87 }
abbrev rm_PP_prime : Room := { frames := 0, cells := 0, slots := 0, locals := 0 }
abbrev rm_PP_set : Room := { frames := 2, cells := 0, slots := 0, locals := 43 }
abbrev rm_PP_coefficient : Room := { frames := 1, cells := 0, slots := 0, locals := 20 }
abbrev rm_PP_size : Room := { frames := 1, cells := 0, slots := 0, locals := 21 }
abbrev rm_PP_value : Room := { frames := 1, cells := 0, slots := 0, locals := 25 }
abbrev rm_PP_add : Room := { frames := 2, cells := 0, slots := 0, locals := 46 }
abbrev rm_PP_multiply : Room := { frames := 4, cells := 0, slots := 0, locals := 104 }
abbrev rm_PP_divide : Room := { frames := 4, cells := 0, slots := 0, locals := 134 }
abbrev rm_PP_common : Room := { frames := 5, cells := 0, slots := 0, locals := 160 }
abbrev rm_PP_power : Room := { frames := 5, cells := 0, slots := 0, locals := 161 }
abbrev rm_PP_derive : Room := { frames := 2, cells := 0, slots := 0, locals := 44 }
abbrev rm_PP_isPrime : Room := { frames := 7, cells := 0, slots := 0, locals := 205 }
abbrev rm_PP_factor : Room := { frames := 7, cells := 0, slots := 0, locals := 205 }
abbrev rm_PP_part : Room := { frames := 1, cells := 0, slots := 0, locals := 21 }
abbrev rm_PP_split : Room := { frames := 7, cells := 0, slots := 0, locals := 208 }
abbrev rm_PP_product : Room := { frames := 5, cells := 0, slots := 0, locals := 127 }
abbrev rm_PP_field : Room := { frames := 7, cells := 0, slots := 0, locals := 205 }
abbrev rm_PP_times : Room := { frames := 4, cells := 0, slots := 0, locals := 134 }
abbrev rm_PP_inverse : Room := { frames := 5, cells := 0, slots := 0, locals := 162 }
abbrev rm_PP_trace : Room := { frames := 7, cells := 0, slots := 0, locals := 205 }
abbrev rm_PP_isNoRegister : Room := { frames := 0, cells := 0, slots := 0, locals := 0 }
abbrev rm_PP_isNoIndex : Room := { frames := 0, cells := 0, slots := 0, locals := 0 }
abbrev rm_PP_isNoPart : Room := { frames := 0, cells := 0, slots := 0, locals := 0 }
abbrev rm_PP_sizeOf : Room := { frames := 0, cells := 0, slots := 0, locals := 0 }
abbrev rm_PP_greatestPrimeUpTo : Room := { frames := 1, cells := 0, slots := 0, locals := 22 }
abbrev rm_PP_isPrimeNumber : Room := { frames := 0, cells := 0, slots := 0, locals := 0 }
abbrev rm_Model_init : Room := { frames := 1, cells := 0, slots := 0, locals := 21 }
abbrev rm_Model_isPrimeNumber : Room := { frames := 0, cells := 0, slots := 0, locals := 0 }
abbrev rm_Model_prime : Room := { frames := 0, cells := 0, slots := 0, locals := 0 }
abbrev rm_Model_reduce : Room := { frames := 0, cells := 0, slots := 0, locals := 0 }
abbrev rm_Model_times2 : Room := { frames := 0, cells := 0, slots := 0, locals := 0 }
abbrev rm_Model_raise : Room := { frames := 1, cells := 0, slots := 0, locals := 22 }
abbrev rm_Model_get : Room := { frames := 0, cells := 0, slots := 0, locals := 0 }
abbrev rm_Model_put : Room := { frames := 0, cells := 0, slots := 0, locals := 0 }
abbrev rm_Model_degree : Room := { frames := 1, cells := 0, slots := 0, locals := 22 }
abbrev rm_Model_copy : Room := { frames := 1, cells := 0, slots := 0, locals := 23 }
abbrev rm_Model_number : Room := { frames := 1, cells := 0, slots := 0, locals := 23 }
abbrev rm_Model_plus : Room := { frames := 1, cells := 0, slots := 0, locals := 23 }
abbrev rm_Model_product2 : Room := { frames := 2, cells := 0, slots := 0, locals := 46 }
abbrev rm_Model_rest : Room := { frames := 2, cells := 0, slots := 0, locals := 46 }
abbrev rm_Model_monic : Room := { frames := 2, cells := 0, slots := 0, locals := 46 }
abbrev rm_Model_timesBy : Room := { frames := 3, cells := 0, slots := 0, locals := 73 }
abbrev rm_Model_commonOf : Room := { frames := 3, cells := 0, slots := 0, locals := 73 }
abbrev rm_Model_power2 : Room := { frames := 4, cells := 0, slots := 0, locals := 96 }
abbrev rm_Model_chain : Room := { frames := 5, cells := 0, slots := 0, locals := 121 }
abbrev rm_Model_isRegister : Room := { frames := 0, cells := 0, slots := 0, locals := 0 }
abbrev rm_Model_size2 : Room := { frames := 2, cells := 0, slots := 0, locals := 44 }
abbrev rm_Model_set : Room := { frames := 2, cells := 0, slots := 0, locals := 44 }
abbrev rm_Model_coefficient : Room := { frames := 1, cells := 0, slots := 0, locals := 22 }
abbrev rm_Model_size : Room := { frames := 3, cells := 0, slots := 0, locals := 65 }
abbrev rm_Model_value : Room := { frames := 1, cells := 0, slots := 0, locals := 22 }
abbrev rm_Model_add : Room := { frames := 3, cells := 0, slots := 0, locals := 65 }
abbrev rm_Model_multiply : Room := { frames := 3, cells := 0, slots := 0, locals := 70 }
abbrev rm_Model_divide : Room := { frames := 3, cells := 0, slots := 0, locals := 73 }
abbrev rm_Model_common : Room := { frames := 4, cells := 0, slots := 0, locals := 95 }
abbrev rm_Model_power : Room := { frames := 5, cells := 0, slots := 0, locals := 121 }
abbrev rm_Model_derive : Room := { frames := 3, cells := 0, slots := 0, locals := 65 }
abbrev rm_Model_isPrimeAt : Room := { frames := 5, cells := 0, slots := 0, locals := 121 }
abbrev rm_Model_isPrime : Room := { frames := 6, cells := 0, slots := 0, locals := 143 }
abbrev rm_Model_insert : Room := { frames := 3, cells := 0, slots := 0, locals := 68 }
abbrev rm_Model_shift : Room := { frames := 2, cells := 0, slots := 0, locals := 46 }
abbrev rm_Model_takeOut : Room := { frames := 4, cells := 0, slots := 0, locals := 95 }
abbrev rm_Model_factor : Room := { frames := 5, cells := 0, slots := 0, locals := 121 }
abbrev rm_Model_isPart : Room := { frames := 0, cells := 0, slots := 0, locals := 0 }
abbrev rm_Model_part : Room := { frames := 2, cells := 0, slots := 0, locals := 44 }
abbrev rm_Model_split : Room := { frames := 6, cells := 0, slots := 0, locals := 145 }
abbrev rm_Model_product : Room := { frames := 3, cells := 0, slots := 0, locals := 70 }
abbrev rm_Model_field : Room := { frames := 6, cells := 0, slots := 0, locals := 143 }
abbrev rm_Model_times : Room := { frames := 4, cells := 0, slots := 0, locals := 96 }
abbrev rm_Model_inverse : Room := { frames := 6, cells := 0, slots := 0, locals := 145 }
abbrev rm_Model_trace : Room := { frames := 6, cells := 0, slots := 0, locals := 145 }
abbrev rm_Field_init : Room := { frames := 2, cells := 0, slots := 0, locals := 40 }
abbrev rm_Field_isMade : Room := { frames := 1, cells := 0, slots := 0, locals := 20 }
abbrev rm_Field_inverseInto : Room := { frames := 4, cells := 0, slots := 0, locals := 134 }
abbrev rm_Field_numberOf : Room := { frames := 6, cells := 0, slots := 0, locals := 183 }
abbrev rm_Frob_init : Room := { frames := 3, cells := 0, slots := 0, locals := 65 }
abbrev rm_Frob_prepareFor : Room := { frames := 5, cells := 0, slots := 0, locals := 161 }
abbrev rm_Frob_nextDegreeInto : Room := { frames := 5, cells := 0, slots := 0, locals := 160 }
abbrev rm_Frob_findsPrime : Room := { frames := 6, cells := 0, slots := 0, locals := 183 }
abbrev rm_Frob_gatherInto : Room := { frames := 4, cells := 0, slots := 0, locals := 134 }
abbrev rm_Frob_raise : Room := { frames := 2, cells := 0, slots := 0, locals := 81 }
abbrev rm_Part_init : Room := { frames := 2, cells := 0, slots := 0, locals := 40 }
abbrev rm_Part_isComplete : Room := { frames := 0, cells := 0, slots := 0, locals := 0 }
abbrev rm_Parts_init : Room := { frames := 3, cells := 0, slots := 0, locals := 60 }
abbrev rm_Parts_wereMade : Room := { frames := 0, cells := 0, slots := 0, locals := 0 }
abbrev rm_Parts_makeFrom : Room := { frames := 6, cells := 0, slots := 0, locals := 183 }
abbrev rm_Parts_takeOutFound : Room := { frames := 5, cells := 0, slots := 0, locals := 160 }
abbrev rm_Parts_insertInOrder : Room := { frames := 3, cells := 0, slots := 0, locals := 107 }
abbrev rm_Parts_insert : Room := { frames := 2, cells := 0, slots := 0, locals := 81 }
abbrev rm_Parts_splitAt : Room := { frames := 6, cells := 0, slots := 0, locals := 184 }
abbrev rm_Parts_separatorInto : Room := { frames := 5, cells := 0, slots := 0, locals := 161 }
abbrev rm_Parts_wholeInto : Room := { frames := 4, cells := 0, slots := 0, locals := 104 }
abbrev rm_Poly_init : Room := { frames := 1, cells := 0, slots := 0, locals := 20 }
abbrev rm_Poly_isZero : Room := { frames := 0, cells := 0, slots := 0, locals := 0 }
abbrev rm_Poly_isMonic : Room := { frames := 1, cells := 0, slots := 0, locals := 20 }
abbrev rm_Poly_lead : Room := { frames := 0, cells := 0, slots := 0, locals := 0 }
abbrev rm_Poly_clear : Room := { frames := 1, cells := 0, slots := 0, locals := 23 }
abbrev rm_Poly_put : Room := { frames := 1, cells := 0, slots := 0, locals := 21 }
abbrev rm_Poly_becomeTerm : Room := { frames := 2, cells := 0, slots := 0, locals := 43 }
abbrev rm_Poly_copyFrom : Room := { frames := 1, cells := 0, slots := 0, locals := 60 }
abbrev rm_Poly_settle : Room := { frames := 0, cells := 0, slots := 0, locals := 0 }
abbrev rm_Ring_init : Room := { frames := 2, cells := 0, slots := 0, locals := 40 }
abbrev rm_Ring_reciprocal : Room := { frames := 0, cells := 0, slots := 0, locals := 0 }
abbrev rm_Ring_valueAt : Room := { frames := 0, cells := 0, slots := 0, locals := 0 }
abbrev rm_Ring_sumInto : Room := { frames := 1, cells := 0, slots := 0, locals := 21 }
abbrev rm_Ring_scaleInto : Room := { frames := 1, cells := 0, slots := 0, locals := 21 }
abbrev rm_Ring_makeMonic : Room := { frames := 2, cells := 0, slots := 0, locals := 45 }
abbrev rm_Ring_derivativeInto : Room := { frames := 1, cells := 0, slots := 0, locals := 21 }
abbrev rm_Ring_productInto : Room := { frames := 3, cells := 0, slots := 0, locals := 81 }
abbrev rm_Ring_productRestInto : Room := { frames := 3, cells := 0, slots := 0, locals := 110 }
abbrev rm_Ring_quotientAndRestInto : Room := { frames := 3, cells := 0, slots := 0, locals := 110 }
abbrev rm_Ring_quotientInto : Room := { frames := 3, cells := 0, slots := 0, locals := 110 }
abbrev rm_Ring_restInto : Room := { frames := 3, cells := 0, slots := 0, locals := 110 }
abbrev rm_Ring_commonInto : Room := { frames := 4, cells := 0, slots := 0, locals := 133 }
abbrev rm_Ring_powerInto : Room := { frames := 4, cells := 0, slots := 0, locals := 134 }
abbrev rm_Ring_multiplyWide : Room := { frames := 2, cells := 0, slots := 0, locals := 43 }
abbrev rm_Ring_divideLong : Room := { frames := 2, cells := 0, slots := 0, locals := 81 }
abbrev rm_Law_cell : Room := { frames := 0, cells := 0, slots := 0, locals := 0 }
abbrev rm_Arrays_fill : Room := { frames := 0, cells := 0, slots := 0, locals := 0 }
abbrev rm_Math_floorMod : Room := { frames := 0, cells := 0, slots := 0, locals := 0 }
theorem cv_PP_11 {args : Array Value} {s : State} {R : Room} (ht : ∀ w ∈ wa_g, w.before args s = true) (hR : rm_PP_greatestPrimeUpTo.frames + 1 ≤ R.frames ∧ 8 + (2 + 11) + rm_PP_greatestPrimeUpTo.locals ≤ R.locals) : CallB R s args rc_PP 11 ym_PP_greatestPrimeUpTo bm_PP_greatestPrimeUpTo 2 (some .int) wm_PP_greatestPrimeUpTo rm_PP_greatestPrimeUpTo 0 0 1 ∧ (Cond.static ym_PP_greatestPrimeUpTo).before args s = true := cwS 1 ht (wa_S (wa_in 22 (by decide +kernel) rfl) (wa_in 23 (by decide +kernel) rfl) (wa_in 1 (by decide +kernel) rfl) ci_PP_greatestPrimeUpTo) rfl rfl rfl (by decide +kernel) hR
theorem cv_PP_58 {args : Array Value} {s : State} {R : Room} (ht : ∀ w ∈ wa_g, w.before args s = true) (hR : rm_PP_isNoRegister.frames + 1 ≤ R.frames ∧ 8 + (1 + 11) + rm_PP_isNoRegister.locals ≤ R.locals) : CallB R s args rc_PP 58 ym_PP_isNoRegister bm_PP_isNoRegister 1 (some .boolean) wm_PP_isNoRegister rm_PP_isNoRegister 0 0 1 ∧ (Cond.static ym_PP_isNoRegister).before args s = true := cwS 1 ht (wa_S (wa_in 269 (by decide +kernel) rfl) (wa_in 270 (by decide +kernel) rfl) (wa_in 1 (by decide +kernel) rfl) ci_PP_isNoRegister) rfl rfl rfl (by decide +kernel) hR
theorem cv_PP_62 {args : Array Value} {s : State} {R : Room} (ht : ∀ w ∈ wa_g, w.before args s = true) (hR : rm_PP_isNoIndex.frames + 1 ≤ R.frames ∧ 8 + (1 + 11) + rm_PP_isNoIndex.locals ≤ R.locals) : CallB R s args rc_PP 62 ym_PP_isNoIndex bm_PP_isNoIndex 1 (some .boolean) wm_PP_isNoIndex rm_PP_isNoIndex 0 0 1 ∧ (Cond.static ym_PP_isNoIndex).before args s = true := cwS 1 ht (wa_S (wa_in 272 (by decide +kernel) rfl) (wa_in 273 (by decide +kernel) rfl) (wa_in 1 (by decide +kernel) rfl) ci_PP_isNoIndex) rfl rfl rfl (by decide +kernel) hR
theorem cv_PP_65 {args : Array Value} {s : State} {R : Room} (ht : ∀ w ∈ wa_g, w.before args s = true) (hR : rm_Math_floorMod.frames + 1 ≤ R.frames ∧ 8 + (3 + 11) + rm_Math_floorMod.locals ≤ R.locals) : CallB R s args rc_PP 65 ym_Math_floorMod bm_Math_floorMod 3 (some .int) wm_Math_floorMod rm_Math_floorMod 0 0 2 ∧ (Cond.static ym_Math_floorMod).before args s = true := ⟨callB_of 2 ht (wa_C ci_Math_floorMod) rfl rfl rfl (ht _ (wa_in 10 (by decide +kernel) rfl)) (ht _ (wa_in 275 (by decide +kernel) rfl)) (by decide +kernel) hR, ht _ (wa_in 276 (by decide +kernel) rfl)⟩
theorem cv_PP_71 {args : Array Value} {s : State} {R : Room} (ht : ∀ w ∈ wa_g, w.before args s = true) (hR : rm_Poly_put.frames + 1 ≤ R.frames ∧ 8 + (3 + 11) + rm_Poly_put.locals ≤ R.locals) : CallW R s args rc_PP rc_Poly 71 ym_Poly_put bm_Poly_put 3 none wm_Poly_put rm_Poly_put 0 0 2 := cwV 2 ht (wa_V (wa_in 278 (by decide +kernel) rfl) (wa_in 112 (by decide +kernel) rfl) (wa_in 113 (by decide +kernel) rfl) (wa_in 3 (by decide +kernel) rfl) ci_Poly_put) rfl rfl rfl (by decide +kernel) hR
theorem cv_PP_85 {args : Array Value} {s : State} {R : Room} (ht : ∀ w ∈ wa_g, w.before args s = true) (hR : rm_PP_sizeOf.frames + 1 ≤ R.frames ∧ 8 + (2 + 11) + rm_PP_sizeOf.locals ≤ R.locals) : CallW R s args rc_PP rc_PP 85 ym_PP_sizeOf bm_PP_sizeOf 2 (some .int) wm_PP_sizeOf rm_PP_sizeOf 0 0 1 := cwV 1 ht (wa_V (wa_in 290 (by decide +kernel) rfl) (wa_in 292 (by decide +kernel) rfl) (wa_inL 0 (by decide +kernel) rfl) (wa_in 1 (by decide +kernel) rfl) ci_PP_sizeOf) rfl rfl rfl (by decide +kernel) hR
theorem cv_PP_88 {args : Array Value} {s : State} {R : Room} (ht : ∀ w ∈ wa_g, w.before args s = true) (hR : rm_Ring_valueAt.frames + 1 ≤ R.frames ∧ 8 + (6 + 11) + rm_Ring_valueAt.locals ≤ R.locals) : CallW R s args rc_PP rc_Ring 88 ym_Ring_valueAt bm_Ring_valueAt 6 (some .int) wm_Ring_valueAt rm_Ring_valueAt 0 0 2 := cwV 2 ht (wa_V (wa_in 298 (by decide +kernel) rfl) (wa_in 299 (by decide +kernel) rfl) (wa_in 300 (by decide +kernel) rfl) (wa_in 2 (by decide +kernel) rfl) ci_Ring_valueAt) rfl rfl rfl (by decide +kernel) hR
theorem cv_PP_92 {args : Array Value} {s : State} {R : Room} (ht : ∀ w ∈ wa_g, w.before args s = true) (hR : rm_Ring_sumInto.frames + 1 ≤ R.frames ∧ 8 + (6 + 11) + rm_Ring_sumInto.locals ≤ R.locals) : CallW R s args rc_PP rc_Ring 92 ym_Ring_sumInto bm_Ring_sumInto 6 none wm_Ring_sumInto rm_Ring_sumInto 0 0 4 := cwV 4 ht (wa_V (wa_in 306 (by decide +kernel) rfl) (wa_in 307 (by decide +kernel) rfl) (wa_in 308 (by decide +kernel) rfl) (wa_in 2 (by decide +kernel) rfl) ci_Ring_sumInto) rfl rfl rfl (by decide +kernel) hR
theorem cv_PP_96 {args : Array Value} {s : State} {R : Room} (ht : ∀ w ∈ wa_g, w.before args s = true) (hR : rm_Ring_productInto.frames + 1 ≤ R.frames ∧ 8 + (4 + 11) + rm_Ring_productInto.locals ≤ R.locals) : CallW R s args rc_PP rc_Ring 96 ym_Ring_productInto bm_Ring_productInto 4 none wm_Ring_productInto rm_Ring_productInto 0 0 3 := cwV 3 ht (wa_V (wa_in 315 (by decide +kernel) rfl) (wa_in 316 (by decide +kernel) rfl) (wa_in 317 (by decide +kernel) rfl) (wa_in 2 (by decide +kernel) rfl) ci_Ring_productInto) rfl rfl rfl (by decide +kernel) hR
theorem cv_PP_100 {args : Array Value} {s : State} {R : Room} (ht : ∀ w ∈ wa_g, w.before args s = true) (hR : rm_Poly_isZero.frames + 1 ≤ R.frames ∧ 8 + (1 + 11) + rm_Poly_isZero.locals ≤ R.locals) : CallW R s args rc_PP rc_Poly 100 ym_Poly_isZero bm_Poly_isZero 1 (some .boolean) wm_Poly_isZero rm_Poly_isZero 0 0 0 := cwV 0 ht (wa_V (wa_in 335 (by decide +kernel) rfl) (wa_in 336 (by decide +kernel) rfl) (wa_in 337 (by decide +kernel) rfl) (wa_in 3 (by decide +kernel) rfl) ci_Poly_isZero) rfl rfl rfl (by decide +kernel) hR
theorem cv_PP_104 {args : Array Value} {s : State} {R : Room} (ht : ∀ w ∈ wa_g, w.before args s = true) (hR : rm_Ring_quotientAndRestInto.frames + 1 ≤ R.frames ∧ 8 + (5 + 11) + rm_Ring_quotientAndRestInto.locals ≤ R.locals) : CallW R s args rc_PP rc_Ring 104 ym_Ring_quotientAndRestInto bm_Ring_quotientAndRestInto 5 none wm_Ring_quotientAndRestInto rm_Ring_quotientAndRestInto 0 0 4 := cwV 4 ht (wa_V (wa_in 339 (by decide +kernel) rfl) (wa_in 340 (by decide +kernel) rfl) (wa_in 341 (by decide +kernel) rfl) (wa_in 2 (by decide +kernel) rfl) ci_Ring_quotientAndRestInto) rfl rfl rfl (by decide +kernel) hR
theorem cv_PP_108 {args : Array Value} {s : State} {R : Room} (ht : ∀ w ∈ wa_g, w.before args s = true) (hR : rm_Ring_commonInto.frames + 1 ≤ R.frames ∧ 8 + (8 + 11) + rm_Ring_commonInto.locals ≤ R.locals) : CallW R s args rc_PP rc_Ring 108 ym_Ring_commonInto bm_Ring_commonInto 8 none wm_Ring_commonInto rm_Ring_commonInto 0 0 3 := cwV 3 ht (wa_V (wa_in 359 (by decide +kernel) rfl) (wa_in 360 (by decide +kernel) rfl) (wa_in 361 (by decide +kernel) rfl) (wa_in 2 (by decide +kernel) rfl) ci_Ring_commonInto) rfl rfl rfl (by decide +kernel) hR
theorem cv_PP_111 {args : Array Value} {s : State} {R : Room} (ht : ∀ w ∈ wa_g, w.before args s = true) (hR : rm_Ring_powerInto.frames + 1 ≤ R.frames ∧ 8 + (8 + 11) + rm_Ring_powerInto.locals ≤ R.locals) : CallW R s args rc_PP rc_Ring 111 ym_Ring_powerInto bm_Ring_powerInto 8 none wm_Ring_powerInto rm_Ring_powerInto 0 0 4 := cwV 4 ht (wa_V (wa_in 385 (by decide +kernel) rfl) (wa_in 386 (by decide +kernel) rfl) (wa_in 387 (by decide +kernel) rfl) (wa_in 2 (by decide +kernel) rfl) ci_Ring_powerInto) rfl rfl rfl (by decide +kernel) hR
theorem cv_PP_115 {args : Array Value} {s : State} {R : Room} (ht : ∀ w ∈ wa_g, w.before args s = true) (hR : rm_Ring_derivativeInto.frames + 1 ≤ R.frames ∧ 8 + (4 + 11) + rm_Ring_derivativeInto.locals ≤ R.locals) : CallW R s args rc_PP rc_Ring 115 ym_Ring_derivativeInto bm_Ring_derivativeInto 4 none wm_Ring_derivativeInto rm_Ring_derivativeInto 0 0 2 := cwV 2 ht (wa_V (wa_in 398 (by decide +kernel) rfl) (wa_in 399 (by decide +kernel) rfl) (wa_in 400 (by decide +kernel) rfl) (wa_in 2 (by decide +kernel) rfl) ci_Ring_derivativeInto) rfl rfl rfl (by decide +kernel) hR
theorem cv_PP_119 {args : Array Value} {s : State} {R : Room} (ht : ∀ w ∈ wa_g, w.before args s = true) (hR : rm_Frob_findsPrime.frames + 1 ≤ R.frames ∧ 8 + (3 + 11) + rm_Frob_findsPrime.locals ≤ R.locals) : CallW R s args rc_PP rc_Frob 119 ym_Frob_findsPrime bm_Frob_findsPrime 3 (some .boolean) wm_Frob_findsPrime rm_Frob_findsPrime 0 0 1 := cwV 1 ht (wa_V (wa_in 406 (by decide +kernel) rfl) (wa_in 407 (by decide +kernel) rfl) (wa_in 408 (by decide +kernel) rfl) (wa_in 4 (by decide +kernel) rfl) ci_Frob_findsPrime) rfl rfl rfl (by decide +kernel) hR
theorem cv_PP_123 {args : Array Value} {s : State} {R : Room} (ht : ∀ w ∈ wa_g, w.before args s = true) (hR : rm_Parts_makeFrom.frames + 1 ≤ R.frames ∧ 8 + (3 + 11) + rm_Parts_makeFrom.locals ≤ R.locals) : CallW R s args rc_PP rc_Parts 123 ym_Parts_makeFrom bm_Parts_makeFrom 3 none wm_Parts_makeFrom rm_Parts_makeFrom 0 0 1 := cwV 1 ht (wa_V (wa_in 434 (by decide +kernel) rfl) (wa_in 435 (by decide +kernel) rfl) (wa_in 436 (by decide +kernel) rfl) (wa_in 6 (by decide +kernel) rfl) ci_Parts_makeFrom) rfl rfl rfl (by decide +kernel) hR
theorem cv_PP_130 {args : Array Value} {s : State} {R : Room} (ht : ∀ w ∈ wa_g, w.before args s = true) (hR : rm_PP_isNoPart.frames + 1 ≤ R.frames ∧ 8 + (2 + 11) + rm_PP_isNoPart.locals ≤ R.locals) : CallW R s args rc_PP rc_PP 130 ym_PP_isNoPart bm_PP_isNoPart 2 (some .boolean) wm_PP_isNoPart rm_PP_isNoPart 0 0 1 := cwV 1 ht (wa_V (wa_in 464 (by decide +kernel) rfl) (wa_in 466 (by decide +kernel) rfl) (wa_inL 7 (by decide +kernel) rfl) (wa_in 1 (by decide +kernel) rfl) ci_PP_isNoPart) rfl rfl rfl (by decide +kernel) hR
theorem cv_PP_149 {args : Array Value} {s : State} {R : Room} (ht : ∀ w ∈ wa_g, w.before args s = true) (hR : rm_Part_isComplete.frames + 1 ≤ R.frames ∧ 8 + (1 + 11) + rm_Part_isComplete.locals ≤ R.locals) : CallW R s args rc_PP rc_Part 149 ym_Part_isComplete bm_Part_isComplete 1 (some .boolean) wm_Part_isComplete rm_Part_isComplete 0 0 0 := cwV 0 ht (wa_V (wa_in 472 (by decide +kernel) rfl) (wa_in 473 (by decide +kernel) rfl) (wa_in 474 (by decide +kernel) rfl) (wa_in 7 (by decide +kernel) rfl) ci_Part_isComplete) rfl rfl rfl (by decide +kernel) hR
theorem cv_PP_152 {args : Array Value} {s : State} {R : Room} (ht : ∀ w ∈ wa_g, w.before args s = true) (hR : rm_Parts_splitAt.frames + 1 ≤ R.frames ∧ 8 + (5 + 11) + rm_Parts_splitAt.locals ≤ R.locals) : CallW R s args rc_PP rc_Parts 152 ym_Parts_splitAt bm_Parts_splitAt 5 (some .boolean) wm_Parts_splitAt rm_Parts_splitAt 0 0 2 := cwV 2 ht (wa_V (wa_in 476 (by decide +kernel) rfl) (wa_in 477 (by decide +kernel) rfl) (wa_in 478 (by decide +kernel) rfl) (wa_in 6 (by decide +kernel) rfl) ci_Parts_splitAt) rfl rfl rfl (by decide +kernel) hR
theorem cv_PP_156 {args : Array Value} {s : State} {R : Room} (ht : ∀ w ∈ wa_g, w.before args s = true) (hR : rm_Parts_wereMade.frames + 1 ≤ R.frames ∧ 8 + (1 + 11) + rm_Parts_wereMade.locals ≤ R.locals) : CallW R s args rc_PP rc_Parts 156 ym_Parts_wereMade bm_Parts_wereMade 1 (some .boolean) wm_Parts_wereMade rm_Parts_wereMade 0 0 0 := cwV 0 ht (wa_V (wa_in 495 (by decide +kernel) rfl) (wa_in 496 (by decide +kernel) rfl) (wa_in 497 (by decide +kernel) rfl) (wa_in 6 (by decide +kernel) rfl) ci_Parts_wereMade) rfl rfl rfl (by decide +kernel) hR
theorem cv_PP_159 {args : Array Value} {s : State} {R : Room} (ht : ∀ w ∈ wa_g, w.before args s = true) (hR : rm_Parts_wholeInto.frames + 1 ≤ R.frames ∧ 8 + (4 + 11) + rm_Parts_wholeInto.locals ≤ R.locals) : CallW R s args rc_PP rc_Parts 159 ym_Parts_wholeInto bm_Parts_wholeInto 4 none wm_Parts_wholeInto rm_Parts_wholeInto 0 0 1 := cwV 1 ht (wa_V (wa_in 499 (by decide +kernel) rfl) (wa_in 500 (by decide +kernel) rfl) (wa_in 501 (by decide +kernel) rfl) (wa_in 6 (by decide +kernel) rfl) ci_Parts_wholeInto) rfl rfl rfl (by decide +kernel) hR
theorem cv_PP_162 {args : Array Value} {s : State} {R : Room} (ht : ∀ w ∈ wa_g, w.before args s = true) (hR : rm_Poly_isMonic.frames + 1 ≤ R.frames ∧ 8 + (1 + 11) + rm_Poly_isMonic.locals ≤ R.locals) : CallW R s args rc_PP rc_Poly 162 ym_Poly_isMonic bm_Poly_isMonic 1 (some .boolean) wm_Poly_isMonic rm_Poly_isMonic 0 0 0 := cwV 0 ht (wa_V (wa_in 509 (by decide +kernel) rfl) (wa_in 373 (by decide +kernel) rfl) (wa_in 374 (by decide +kernel) rfl) (wa_in 3 (by decide +kernel) rfl) ci_Poly_isMonic) rfl rfl rfl (by decide +kernel) hR
theorem cv_PP_168 {args : Array Value} {s : State} {R : Room} (ht : ∀ w ∈ wa_g, w.before args s = true) (hR : rm_Poly_copyFrom.frames + 1 ≤ R.frames ∧ 8 + (2 + 11) + rm_Poly_copyFrom.locals ≤ R.locals) : CallW R s args rc_PP rc_Poly 168 ym_Poly_copyFrom bm_Poly_copyFrom 2 none wm_Poly_copyFrom rm_Poly_copyFrom 0 0 1 := cwV 1 ht (wa_V (wa_in 510 (by decide +kernel) rfl) (wa_in 325 (by decide +kernel) rfl) (wa_in 326 (by decide +kernel) rfl) (wa_in 3 (by decide +kernel) rfl) ci_Poly_copyFrom) rfl rfl rfl (by decide +kernel) hR
theorem cv_PP_171 {args : Array Value} {s : State} {R : Room} (ht : ∀ w ∈ wa_g, w.before args s = true) (hR : rm_Field_isMade.frames + 1 ≤ R.frames ∧ 8 + (1 + 11) + rm_Field_isMade.locals ≤ R.locals) : CallW R s args rc_PP rc_Field 171 ym_Field_isMade bm_Field_isMade 1 (some .boolean) wm_Field_isMade rm_Field_isMade 0 0 0 := cwV 0 ht (wa_V (wa_in 515 (by decide +kernel) rfl) (wa_in 516 (by decide +kernel) rfl) (wa_in 517 (by decide +kernel) rfl) (wa_in 8 (by decide +kernel) rfl) ci_Field_isMade) rfl rfl rfl (by decide +kernel) hR
theorem cv_PP_174 {args : Array Value} {s : State} {R : Room} (ht : ∀ w ∈ wa_g, w.before args s = true) (hR : rm_Ring_productRestInto.frames + 1 ≤ R.frames ∧ 8 + (5 + 11) + rm_Ring_productRestInto.locals ≤ R.locals) : CallW R s args rc_PP rc_Ring 174 ym_Ring_productRestInto bm_Ring_productRestInto 5 none wm_Ring_productRestInto rm_Ring_productRestInto 0 0 4 := cwV 4 ht (wa_V (wa_in 520 (by decide +kernel) rfl) (wa_in 391 (by decide +kernel) rfl) (wa_in 392 (by decide +kernel) rfl) (wa_in 2 (by decide +kernel) rfl) ci_Ring_productRestInto) rfl rfl rfl (by decide +kernel) hR
theorem cv_PP_177 {args : Array Value} {s : State} {R : Room} (ht : ∀ w ∈ wa_g, w.before args s = true) (hR : rm_Field_inverseInto.frames + 1 ≤ R.frames ∧ 8 + (9 + 11) + rm_Field_inverseInto.locals ≤ R.locals) : CallW R s args rc_PP rc_Field 177 ym_Field_inverseInto bm_Field_inverseInto 9 (some .boolean) wm_Field_inverseInto rm_Field_inverseInto 0 0 2 := cwV 2 ht (wa_V (wa_in 525 (by decide +kernel) rfl) (wa_in 526 (by decide +kernel) rfl) (wa_in 527 (by decide +kernel) rfl) (wa_in 8 (by decide +kernel) rfl) ci_Field_inverseInto) rfl rfl rfl (by decide +kernel) hR
theorem cv_PP_181 {args : Array Value} {s : State} {R : Room} (ht : ∀ w ∈ wa_g, w.before args s = true) (hR : rm_Field_numberOf.frames + 1 ≤ R.frames ∧ 8 + (3 + 11) + rm_Field_numberOf.locals ≤ R.locals) : CallW R s args rc_PP rc_Field 181 ym_Field_numberOf bm_Field_numberOf 3 (some .int) wm_Field_numberOf rm_Field_numberOf 0 0 2 := cwV 2 ht (wa_V (wa_in 543 (by decide +kernel) rfl) (wa_in 544 (by decide +kernel) rfl) (wa_in 545 (by decide +kernel) rfl) (wa_in 8 (by decide +kernel) rfl) ci_Field_numberOf) rfl rfl rfl (by decide +kernel) hR
theorem cv_PP_185 {args : Array Value} {s : State} {R : Room} (ht : ∀ w ∈ wa_g, w.before args s = true) (hR : rm_PP_isPrimeNumber.frames + 1 ≤ R.frames ∧ 8 + (3 + 11) + rm_PP_isPrimeNumber.locals ≤ R.locals) : CallB R s args rc_PP 185 ym_PP_isPrimeNumber bm_PP_isPrimeNumber 3 (some .boolean) wm_PP_isPrimeNumber rm_PP_isPrimeNumber 0 0 1 ∧ (Cond.static ym_PP_isPrimeNumber).before args s = true := cwS 1 ht (wa_S (wa_in 25 (by decide +kernel) rfl) (wa_in 26 (by decide +kernel) rfl) (wa_in 1 (by decide +kernel) rfl) ci_PP_isPrimeNumber) rfl rfl rfl (by decide +kernel) hR
theorem cv_Model_19 {args : Array Value} {s : State} {R : Room} (ht : ∀ w ∈ wa_g, w.before args s = true) (hR : rm_Model_isPrimeNumber.frames + 1 ≤ R.frames ∧ 8 + (2 + 11) + rm_Model_isPrimeNumber.locals ≤ R.locals) : CallB R s args rc_Model 19 ym_Model_isPrimeNumber bm_Model_isPrimeNumber 2 (some .boolean) wm_Model_isPrimeNumber rm_Model_isPrimeNumber 0 0 1 ∧ (Cond.static ym_Model_isPrimeNumber).before args s = true := cwS 1 ht (wa_S (wa_in 558 (by decide +kernel) rfl) (wa_in 559 (by decide +kernel) rfl) (wa_in 9 (by decide +kernel) rfl) ci_Model_isPrimeNumber) rfl rfl rfl (by decide +kernel) hR
theorem cv_Model_27 {args : Array Value} {s : State} {R : Room} (ht : ∀ w ∈ wa_g, w.before args s = true) (hR : rm_Model_times2.frames + 1 ≤ R.frames ∧ 8 + (3 + 11) + rm_Model_times2.locals ≤ R.locals) : CallW R s args rc_Model rc_Model 27 ym_Model_times2 bm_Model_times2 3 (some .int) wm_Model_times2 rm_Model_times2 0 0 2 := cwV 2 ht (wa_V (wa_in 665 (by decide +kernel) rfl) (wa_in 667 (by decide +kernel) rfl) (wa_inL 20 (by decide +kernel) rfl) (wa_in 9 (by decide +kernel) rfl) ci_Model_times2) rfl rfl rfl (by decide +kernel) hR
theorem cv_Model_31 {args : Array Value} {s : State} {R : Room} (ht : ∀ w ∈ wa_g, w.before args s = true) (hR : rm_Model_get.frames + 1 ≤ R.frames ∧ 8 + (3 + 11) + rm_Model_get.locals ≤ R.locals) : CallW R s args rc_Model rc_Model 31 ym_Model_get bm_Model_get 3 (some .int) wm_Model_get rm_Model_get 0 0 2 := cwV 2 ht (wa_V (wa_in 609 (by decide +kernel) rfl) (wa_in 611 (by decide +kernel) rfl) (wa_inL 12 (by decide +kernel) rfl) (wa_in 9 (by decide +kernel) rfl) ci_Model_get) rfl rfl rfl (by decide +kernel) hR
theorem cv_Model_34 {args : Array Value} {s : State} {R : Room} (ht : ∀ w ∈ wa_g, w.before args s = true) (hR : rm_Model_put.frames + 1 ≤ R.frames ∧ 8 + (4 + 11) + rm_Model_put.locals ≤ R.locals) : CallW R s args rc_Model rc_Model 34 ym_Model_put bm_Model_put 4 none wm_Model_put rm_Model_put 0 0 3 := cwV 3 ht (wa_V (wa_in 601 (by decide +kernel) rfl) (wa_in 603 (by decide +kernel) rfl) (wa_inL 10 (by decide +kernel) rfl) (wa_in 9 (by decide +kernel) rfl) ci_Model_put) rfl rfl rfl (by decide +kernel) hR
theorem cv_Model_38 {args : Array Value} {s : State} {R : Room} (ht : ∀ w ∈ wa_g, w.before args s = true) (hR : rm_Model_number.frames + 1 ≤ R.frames ∧ 8 + (4 + 11) + rm_Model_number.locals ≤ R.locals) : CallW R s args rc_Model rc_Model 38 ym_Model_number bm_Model_number 4 none wm_Model_number rm_Model_number 0 0 2 := cwV 2 ht (wa_V (wa_in 649 (by decide +kernel) rfl) (wa_in 651 (by decide +kernel) rfl) (wa_inL 17 (by decide +kernel) rfl) (wa_in 9 (by decide +kernel) rfl) ci_Model_number) rfl rfl rfl (by decide +kernel) hR
theorem cv_Model_42 {args : Array Value} {s : State} {R : Room} (ht : ∀ w ∈ wa_g, w.before args s = true) (hR : rm_Model_degree.frames + 1 ≤ R.frames ∧ 8 + (3 + 11) + rm_Model_degree.locals ≤ R.locals) : CallW R s args rc_Model rc_Model 42 ym_Model_degree bm_Model_degree 3 (some .int) wm_Model_degree rm_Model_degree 0 0 1 := cwV 1 ht (wa_V (wa_in 605 (by decide +kernel) rfl) (wa_in 607 (by decide +kernel) rfl) (wa_inL 11 (by decide +kernel) rfl) (wa_in 9 (by decide +kernel) rfl) ci_Model_degree) rfl rfl rfl (by decide +kernel) hR
theorem cv_Model_46 {args : Array Value} {s : State} {R : Room} (ht : ∀ w ∈ wa_g, w.before args s = true) (hR : rm_Model_raise.frames + 1 ≤ R.frames ∧ 8 + (5 + 11) + rm_Model_raise.locals ≤ R.locals) : CallW R s args rc_Model rc_Model 46 ym_Model_raise bm_Model_raise 5 (some .int) wm_Model_raise rm_Model_raise 0 0 2 := cwV 2 ht (wa_V (wa_in 661 (by decide +kernel) rfl) (wa_in 663 (by decide +kernel) rfl) (wa_inL 19 (by decide +kernel) rfl) (wa_in 9 (by decide +kernel) rfl) ci_Model_raise) rfl rfl rfl (by decide +kernel) hR
theorem cv_Model_49 {args : Array Value} {s : State} {R : Room} (ht : ∀ w ∈ wa_g, w.before args s = true) (hR : rm_Model_product2.frames + 1 ≤ R.frames ∧ 8 + (5 + 11) + rm_Model_product2.locals ≤ R.locals) : CallW R s args rc_Model rc_Model 49 ym_Model_product2 bm_Model_product2 5 none wm_Model_product2 rm_Model_product2 0 0 2 := cwV 2 ht (wa_V (wa_in 645 (by decide +kernel) rfl) (wa_in 647 (by decide +kernel) rfl) (wa_inL 16 (by decide +kernel) rfl) (wa_in 9 (by decide +kernel) rfl) ci_Model_product2) rfl rfl rfl (by decide +kernel) hR
theorem cv_Model_52 {args : Array Value} {s : State} {R : Room} (ht : ∀ w ∈ wa_g, w.before args s = true) (hR : rm_Model_rest.frames + 1 ≤ R.frames ∧ 8 + (8 + 11) + rm_Model_rest.locals ≤ R.locals) : CallW R s args rc_Model rc_Model 52 ym_Model_rest bm_Model_rest 8 none wm_Model_rest rm_Model_rest 0 0 2 := cwV 2 ht (wa_V (wa_in 657 (by decide +kernel) rfl) (wa_in 659 (by decide +kernel) rfl) (wa_inL 18 (by decide +kernel) rfl) (wa_in 9 (by decide +kernel) rfl) ci_Model_rest) rfl rfl rfl (by decide +kernel) hR
theorem cv_Model_55 {args : Array Value} {s : State} {R : Room} (ht : ∀ w ∈ wa_g, w.before args s = true) (hR : rm_Model_copy.frames + 1 ≤ R.frames ∧ 8 + (4 + 11) + rm_Model_copy.locals ≤ R.locals) : CallW R s args rc_Model rc_Model 55 ym_Model_copy bm_Model_copy 4 none wm_Model_copy rm_Model_copy 0 0 2 := cwV 2 ht (wa_V (wa_in 633 (by decide +kernel) rfl) (wa_in 635 (by decide +kernel) rfl) (wa_inL 14 (by decide +kernel) rfl) (wa_in 9 (by decide +kernel) rfl) ci_Model_copy) rfl rfl rfl (by decide +kernel) hR
theorem cv_Model_58 {args : Array Value} {s : State} {R : Room} (ht : ∀ w ∈ wa_g, w.before args s = true) (hR : rm_Model_monic.frames + 1 ≤ R.frames ∧ 8 + (5 + 11) + rm_Model_monic.locals ≤ R.locals) : CallW R s args rc_Model rc_Model 58 ym_Model_monic bm_Model_monic 5 none wm_Model_monic rm_Model_monic 0 0 1 := cwV 1 ht (wa_V (wa_in 677 (by decide +kernel) rfl) (wa_in 679 (by decide +kernel) rfl) (wa_inL 22 (by decide +kernel) rfl) (wa_in 9 (by decide +kernel) rfl) ci_Model_monic) rfl rfl rfl (by decide +kernel) hR
theorem cv_Model_62 {args : Array Value} {s : State} {R : Room} (ht : ∀ w ∈ wa_g, w.before args s = true) (hR : rm_Model_timesBy.frames + 1 ≤ R.frames ∧ 8 + (4 + 11) + rm_Model_timesBy.locals ≤ R.locals) : CallW R s args rc_Model rc_Model 62 ym_Model_timesBy bm_Model_timesBy 4 none wm_Model_timesBy rm_Model_timesBy 0 0 3 := cwV 3 ht (wa_V (wa_in 689 (by decide +kernel) rfl) (wa_in 691 (by decide +kernel) rfl) (wa_inL 24 (by decide +kernel) rfl) (wa_in 9 (by decide +kernel) rfl) ci_Model_timesBy) rfl rfl rfl (by decide +kernel) hR
theorem cv_Model_65 {args : Array Value} {s : State} {R : Room} (ht : ∀ w ∈ wa_g, w.before args s = true) (hR : rm_Model_power2.frames + 1 ≤ R.frames ∧ 8 + (6 + 11) + rm_Model_power2.locals ≤ R.locals) : CallW R s args rc_Model rc_Model 65 ym_Model_power2 bm_Model_power2 6 none wm_Model_power2 rm_Model_power2 0 0 3 := cwV 3 ht (wa_V (wa_in 685 (by decide +kernel) rfl) (wa_in 687 (by decide +kernel) rfl) (wa_inL 23 (by decide +kernel) rfl) (wa_in 9 (by decide +kernel) rfl) ci_Model_power2) rfl rfl rfl (by decide +kernel) hR
theorem cv_Model_69 {args : Array Value} {s : State} {R : Room} (ht : ∀ w ∈ wa_g, w.before args s = true) (hR : rm_Model_isRegister.frames + 1 ≤ R.frames ∧ 8 + (1 + 11) + rm_Model_isRegister.locals ≤ R.locals) : CallB R s args rc_Model 69 ym_Model_isRegister bm_Model_isRegister 1 (some .boolean) wm_Model_isRegister rm_Model_isRegister 0 0 1 ∧ (Cond.static ym_Model_isRegister).before args s = true := cwS 1 ht (wa_S (wa_in 594 (by decide +kernel) rfl) (wa_in 595 (by decide +kernel) rfl) (wa_in 9 (by decide +kernel) rfl) ci_Model_isRegister) rfl rfl rfl (by decide +kernel) hR
theorem cv_Model_72 {args : Array Value} {s : State} {R : Room} (ht : ∀ w ∈ wa_g, w.before args s = true) (hR : rm_Model_reduce.frames + 1 ≤ R.frames ∧ 8 + (2 + 11) + rm_Model_reduce.locals ≤ R.locals) : CallW R s args rc_Model rc_Model 72 ym_Model_reduce bm_Model_reduce 2 (some .int) wm_Model_reduce rm_Model_reduce 0 0 1 := cwV 1 ht (wa_V (wa_in 597 (by decide +kernel) rfl) (wa_in 599 (by decide +kernel) rfl) (wa_inL 9 (by decide +kernel) rfl) (wa_in 9 (by decide +kernel) rfl) ci_Model_reduce) rfl rfl rfl (by decide +kernel) hR
theorem cv_Model_75 {args : Array Value} {s : State} {R : Room} (ht : ∀ w ∈ wa_g, w.before args s = true) (hR : rm_Model_size2.frames + 1 ≤ R.frames ∧ 8 + (2 + 11) + rm_Model_size2.locals ≤ R.locals) : CallW R s args rc_Model rc_Model 75 ym_Model_size2 bm_Model_size2 2 (some .int) wm_Model_size2 rm_Model_size2 0 0 1 := cwV 1 ht (wa_V (wa_in 621 (by decide +kernel) rfl) (wa_in 623 (by decide +kernel) rfl) (wa_inL 13 (by decide +kernel) rfl) (wa_in 9 (by decide +kernel) rfl) ci_Model_size2) rfl rfl rfl (by decide +kernel) hR
theorem cv_Model_78 {args : Array Value} {s : State} {R : Room} (ht : ∀ w ∈ wa_g, w.before args s = true) (hR : rm_Model_plus.frames + 1 ≤ R.frames ∧ 8 + (5 + 11) + rm_Model_plus.locals ≤ R.locals) : CallW R s args rc_Model rc_Model 78 ym_Model_plus bm_Model_plus 5 none wm_Model_plus rm_Model_plus 0 0 3 := cwV 3 ht (wa_V (wa_in 637 (by decide +kernel) rfl) (wa_in 639 (by decide +kernel) rfl) (wa_inL 15 (by decide +kernel) rfl) (wa_in 9 (by decide +kernel) rfl) ci_Model_plus) rfl rfl rfl (by decide +kernel) hR
theorem cv_Model_81 {args : Array Value} {s : State} {R : Room} (ht : ∀ w ∈ wa_g, w.before args s = true) (hR : rm_Model_commonOf.frames + 1 ≤ R.frames ∧ 8 + (3 + 11) + rm_Model_commonOf.locals ≤ R.locals) : CallW R s args rc_Model rc_Model 81 ym_Model_commonOf bm_Model_commonOf 3 none wm_Model_commonOf rm_Model_commonOf 0 0 2 := cwV 2 ht (wa_V (wa_in 673 (by decide +kernel) rfl) (wa_in 675 (by decide +kernel) rfl) (wa_inL 21 (by decide +kernel) rfl) (wa_in 9 (by decide +kernel) rfl) ci_Model_commonOf) rfl rfl rfl (by decide +kernel) hR
theorem cv_Model_84 {args : Array Value} {s : State} {R : Room} (ht : ∀ w ∈ wa_g, w.before args s = true) (hR : rm_Model_isPrimeAt.frames + 1 ≤ R.frames ∧ 8 + (3 + 11) + rm_Model_isPrimeAt.locals ≤ R.locals) : CallW R s args rc_Model rc_Model 84 ym_Model_isPrimeAt bm_Model_isPrimeAt 3 (some .boolean) wm_Model_isPrimeAt rm_Model_isPrimeAt 0 0 0 := cwV 0 ht (wa_V (wa_in 701 (by decide +kernel) rfl) (wa_in 703 (by decide +kernel) rfl) (wa_inL 25 (by decide +kernel) rfl) (wa_in 9 (by decide +kernel) rfl) ci_Model_isPrimeAt) rfl rfl rfl (by decide +kernel) hR
theorem cv_Model_91 {args : Array Value} {s : State} {R : Room} (ht : ∀ w ∈ wa_g, w.before args s = true) (hR : rm_Model_shift.frames + 1 ≤ R.frames ∧ 8 + (3 + 11) + rm_Model_shift.locals ≤ R.locals) : CallW R s args rc_Model rc_Model 91 ym_Model_shift bm_Model_shift 3 none wm_Model_shift rm_Model_shift 0 0 1 := cwV 1 ht (wa_V (wa_in 717 (by decide +kernel) rfl) (wa_in 719 (by decide +kernel) rfl) (wa_inL 28 (by decide +kernel) rfl) (wa_in 9 (by decide +kernel) rfl) ci_Model_shift) rfl rfl rfl (by decide +kernel) hR
theorem cv_Model_94 {args : Array Value} {s : State} {R : Room} (ht : ∀ w ∈ wa_g, w.before args s = true) (hR : rm_Model_insert.frames + 1 ≤ R.frames ∧ 8 + (4 + 11) + rm_Model_insert.locals ≤ R.locals) : CallW R s args rc_Model rc_Model 94 ym_Model_insert bm_Model_insert 4 none wm_Model_insert rm_Model_insert 0 0 2 := cwV 2 ht (wa_V (wa_in 713 (by decide +kernel) rfl) (wa_in 715 (by decide +kernel) rfl) (wa_inL 27 (by decide +kernel) rfl) (wa_in 9 (by decide +kernel) rfl) ci_Model_insert) rfl rfl rfl (by decide +kernel) hR
theorem cv_Model_104 {args : Array Value} {s : State} {R : Room} (ht : ∀ w ∈ wa_g, w.before args s = true) (hR : rm_Model_takeOut.frames + 1 ≤ R.frames ∧ 8 + (3 + 11) + rm_Model_takeOut.locals ≤ R.locals) : CallW R s args rc_Model rc_Model 104 ym_Model_takeOut bm_Model_takeOut 3 none wm_Model_takeOut rm_Model_takeOut 0 0 1 := cwV 1 ht (wa_V (wa_in 709 (by decide +kernel) rfl) (wa_in 711 (by decide +kernel) rfl) (wa_inL 26 (by decide +kernel) rfl) (wa_in 9 (by decide +kernel) rfl) ci_Model_takeOut) rfl rfl rfl (by decide +kernel) hR
theorem cv_Model_107 {args : Array Value} {s : State} {R : Room} (ht : ∀ w ∈ wa_g, w.before args s = true) (hR : rm_Model_isPart.frames + 1 ≤ R.frames ∧ 8 + (2 + 11) + rm_Model_isPart.locals ≤ R.locals) : CallW R s args rc_Model rc_Model 107 ym_Model_isPart bm_Model_isPart 2 (some .boolean) wm_Model_isPart rm_Model_isPart 0 0 1 := cwV 1 ht (wa_V (wa_in 725 (by decide +kernel) rfl) (wa_in 727 (by decide +kernel) rfl) (wa_inL 29 (by decide +kernel) rfl) (wa_in 9 (by decide +kernel) rfl) ci_Model_isPart) rfl rfl rfl (by decide +kernel) hR
theorem cv_Model_110 {args : Array Value} {s : State} {R : Room} (ht : ∀ w ∈ wa_g, w.before args s = true) (hR : rm_Model_chain.frames + 1 ≤ R.frames ∧ 8 + (5 + 11) + rm_Model_chain.locals ≤ R.locals) : CallW R s args rc_Model rc_Model 110 ym_Model_chain bm_Model_chain 5 none wm_Model_chain rm_Model_chain 0 0 3 := cwV 3 ht (wa_V (wa_in 733 (by decide +kernel) rfl) (wa_in 735 (by decide +kernel) rfl) (wa_inL 30 (by decide +kernel) rfl) (wa_in 9 (by decide +kernel) rfl) ci_Model_chain) rfl rfl rfl (by decide +kernel) hR
theorem cv_Field_44 {args : Array Value} {s : State} {R : Room} (ht : ∀ w ∈ wa_g, w.before args s = true) (hR : rm_Poly_isZero.frames + 1 ≤ R.frames ∧ 8 + (1 + 11) + rm_Poly_isZero.locals ≤ R.locals) : CallW R s args rc_Field rc_Poly 44 ym_Poly_isZero bm_Poly_isZero 1 (some .boolean) wm_Poly_isZero rm_Poly_isZero 0 0 0 := cwV 0 ht (wa_V (wa_in 519 (by decide +kernel) rfl) (wa_in 336 (by decide +kernel) rfl) (wa_in 337 (by decide +kernel) rfl) (wa_in 3 (by decide +kernel) rfl) ci_Poly_isZero) rfl rfl rfl (by decide +kernel) hR
theorem cv_Field_48 {args : Array Value} {s : State} {R : Room} (ht : ∀ w ∈ wa_g, w.before args s = true) (hR : rm_Poly_copyFrom.frames + 1 ≤ R.frames ∧ 8 + (2 + 11) + rm_Poly_copyFrom.locals ≤ R.locals) : CallW R s args rc_Field rc_Poly 48 ym_Poly_copyFrom bm_Poly_copyFrom 2 none wm_Poly_copyFrom rm_Poly_copyFrom 0 0 1 := cwV 1 ht (wa_V (wa_in 529 (by decide +kernel) rfl) (wa_in 325 (by decide +kernel) rfl) (wa_in 326 (by decide +kernel) rfl) (wa_in 3 (by decide +kernel) rfl) ci_Poly_copyFrom) rfl rfl rfl (by decide +kernel) hR
theorem cv_Field_52 {args : Array Value} {s : State} {R : Room} (ht : ∀ w ∈ wa_g, w.before args s = true) (hR : rm_Ring_restInto.frames + 1 ≤ R.frames ∧ 8 + (4 + 11) + rm_Ring_restInto.locals ≤ R.locals) : CallW R s args rc_Field rc_Ring 52 ym_Ring_restInto bm_Ring_restInto 4 none wm_Ring_restInto rm_Ring_restInto 0 0 3 := cwV 3 ht (wa_V (wa_in 530 (by decide +kernel) rfl) (wa_in 365 (by decide +kernel) rfl) (wa_in 366 (by decide +kernel) rfl) (wa_in 2 (by decide +kernel) rfl) ci_Ring_restInto) rfl rfl rfl (by decide +kernel) hR
theorem cv_Field_58 {args : Array Value} {s : State} {R : Room} (ht : ∀ w ∈ wa_g, w.before args s = true) (hR : rm_Poly_clear.frames + 1 ≤ R.frames ∧ 8 + (1 + 11) + rm_Poly_clear.locals ≤ R.locals) : CallW R s args rc_Field rc_Poly 58 ym_Poly_clear bm_Poly_clear 1 none wm_Poly_clear rm_Poly_clear 0 0 0 := cwV 0 ht (wa_V (wa_in 531 (by decide +kernel) rfl) (wa_in 105 (by decide +kernel) rfl) (wa_in 106 (by decide +kernel) rfl) (wa_in 3 (by decide +kernel) rfl) ci_Poly_clear) rfl rfl rfl (by decide +kernel) hR
theorem cv_Field_61 {args : Array Value} {s : State} {R : Room} (ht : ∀ w ∈ wa_g, w.before args s = true) (hR : rm_Poly_becomeTerm.frames + 1 ≤ R.frames ∧ 8 + (3 + 11) + rm_Poly_becomeTerm.locals ≤ R.locals) : CallW R s args rc_Field rc_Poly 61 ym_Poly_becomeTerm bm_Poly_becomeTerm 3 none wm_Poly_becomeTerm rm_Poly_becomeTerm 0 0 2 := cwV 2 ht (wa_V (wa_in 532 (by decide +kernel) rfl) (wa_in 101 (by decide +kernel) rfl) (wa_in 102 (by decide +kernel) rfl) (wa_in 3 (by decide +kernel) rfl) ci_Poly_becomeTerm) rfl rfl rfl (by decide +kernel) hR
theorem cv_Field_69 {args : Array Value} {s : State} {R : Room} (ht : ∀ w ∈ wa_g, w.before args s = true) (hR : rm_Ring_quotientAndRestInto.frames + 1 ≤ R.frames ∧ 8 + (5 + 11) + rm_Ring_quotientAndRestInto.locals ≤ R.locals) : CallW R s args rc_Field rc_Ring 69 ym_Ring_quotientAndRestInto bm_Ring_quotientAndRestInto 5 none wm_Ring_quotientAndRestInto rm_Ring_quotientAndRestInto 0 0 4 := cwV 4 ht (wa_V (wa_in 533 (by decide +kernel) rfl) (wa_in 340 (by decide +kernel) rfl) (wa_in 341 (by decide +kernel) rfl) (wa_in 2 (by decide +kernel) rfl) ci_Ring_quotientAndRestInto) rfl rfl rfl (by decide +kernel) hR
theorem cv_Field_73 {args : Array Value} {s : State} {R : Room} (ht : ∀ w ∈ wa_g, w.before args s = true) (hR : rm_Ring_productInto.frames + 1 ≤ R.frames ∧ 8 + (4 + 11) + rm_Ring_productInto.locals ≤ R.locals) : CallW R s args rc_Field rc_Ring 73 ym_Ring_productInto bm_Ring_productInto 4 none wm_Ring_productInto rm_Ring_productInto 0 0 3 := cwV 3 ht (wa_V (wa_in 534 (by decide +kernel) rfl) (wa_in 316 (by decide +kernel) rfl) (wa_in 317 (by decide +kernel) rfl) (wa_in 2 (by decide +kernel) rfl) ci_Ring_productInto) rfl rfl rfl (by decide +kernel) hR
theorem cv_Field_79 {args : Array Value} {s : State} {R : Room} (ht : ∀ w ∈ wa_g, w.before args s = true) (hR : rm_Ring_sumInto.frames + 1 ≤ R.frames ∧ 8 + (6 + 11) + rm_Ring_sumInto.locals ≤ R.locals) : CallW R s args rc_Field rc_Ring 79 ym_Ring_sumInto bm_Ring_sumInto 6 none wm_Ring_sumInto rm_Ring_sumInto 0 0 4 := cwV 4 ht (wa_V (wa_in 535 (by decide +kernel) rfl) (wa_in 307 (by decide +kernel) rfl) (wa_in 308 (by decide +kernel) rfl) (wa_in 2 (by decide +kernel) rfl) ci_Ring_sumInto) rfl rfl rfl (by decide +kernel) hR
theorem cv_Field_83 {args : Array Value} {s : State} {R : Room} (ht : ∀ w ∈ wa_g, w.before args s = true) (hR : rm_Poly_lead.frames + 1 ≤ R.frames ∧ 8 + (1 + 11) + rm_Poly_lead.locals ≤ R.locals) : CallW R s args rc_Field rc_Poly 83 ym_Poly_lead bm_Poly_lead 1 (some .int) wm_Poly_lead rm_Poly_lead 0 0 0 := cwV 0 ht (wa_V (wa_in 536 (by decide +kernel) rfl) (wa_in 348 (by decide +kernel) rfl) (wa_in 349 (by decide +kernel) rfl) (wa_in 3 (by decide +kernel) rfl) ci_Poly_lead) rfl rfl rfl (by decide +kernel) hR
theorem cv_Field_87 {args : Array Value} {s : State} {R : Room} (ht : ∀ w ∈ wa_g, w.before args s = true) (hR : rm_Ring_reciprocal.frames + 1 ≤ R.frames ∧ 8 + (7 + 11) + rm_Ring_reciprocal.locals ≤ R.locals) : CallW R s args rc_Field rc_Ring 87 ym_Ring_reciprocal bm_Ring_reciprocal 7 (some .int) wm_Ring_reciprocal rm_Ring_reciprocal 0 0 1 := cwV 1 ht (wa_V (wa_in 537 (by decide +kernel) rfl) (wa_in 352 (by decide +kernel) rfl) (wa_in 353 (by decide +kernel) rfl) (wa_in 2 (by decide +kernel) rfl) ci_Ring_reciprocal) rfl rfl rfl (by decide +kernel) hR
theorem cv_Field_91 {args : Array Value} {s : State} {R : Room} (ht : ∀ w ∈ wa_g, w.before args s = true) (hR : rm_Ring_scaleInto.frames + 1 ≤ R.frames ∧ 8 + (5 + 11) + rm_Ring_scaleInto.locals ≤ R.locals) : CallW R s args rc_Field rc_Ring 91 ym_Ring_scaleInto bm_Ring_scaleInto 5 none wm_Ring_scaleInto rm_Ring_scaleInto 0 0 3 := cwV 3 ht (wa_V (wa_in 538 (by decide +kernel) rfl) (wa_in 378 (by decide +kernel) rfl) (wa_in 379 (by decide +kernel) rfl) (wa_in 2 (by decide +kernel) rfl) ci_Ring_scaleInto) rfl rfl rfl (by decide +kernel) hR
theorem cv_Field_95 {args : Array Value} {s : State} {R : Room} (ht : ∀ w ∈ wa_g, w.before args s = true) (hR : rm_Frob_prepareFor.frames + 1 ≤ R.frames ∧ 8 + (3 + 11) + rm_Frob_prepareFor.locals ≤ R.locals) : CallW R s args rc_Field rc_Frob 95 ym_Frob_prepareFor bm_Frob_prepareFor 3 none wm_Frob_prepareFor rm_Frob_prepareFor 0 0 1 := cwV 1 ht (wa_V (wa_in 547 (by decide +kernel) rfl) (wa_in 411 (by decide +kernel) rfl) (wa_in 412 (by decide +kernel) rfl) (wa_in 4 (by decide +kernel) rfl) ci_Frob_prepareFor) rfl rfl rfl (by decide +kernel) hR
theorem cv_Field_100 {args : Array Value} {s : State} {R : Room} (ht : ∀ w ∈ wa_g, w.before args s = true) (hR : rm_Frob_gatherInto.frames + 1 ≤ R.frames ∧ 8 + (6 + 11) + rm_Frob_gatherInto.locals ≤ R.locals) : CallW R s args rc_Field rc_Frob 100 ym_Frob_gatherInto bm_Frob_gatherInto 6 none wm_Frob_gatherInto rm_Frob_gatherInto 0 0 4 := cwV 4 ht (wa_V (wa_in 548 (by decide +kernel) rfl) (wa_in 485 (by decide +kernel) rfl) (wa_in 486 (by decide +kernel) rfl) (wa_in 4 (by decide +kernel) rfl) ci_Frob_gatherInto) rfl rfl rfl (by decide +kernel) hR
theorem cv_Frob_41 {args : Array Value} {s : State} {R : Room} (ht : ∀ w ∈ wa_g, w.before args s = true) (hR : rm_Poly_becomeTerm.frames + 1 ≤ R.frames ∧ 8 + (3 + 11) + rm_Poly_becomeTerm.locals ≤ R.locals) : CallW R s args rc_Frob rc_Poly 41 ym_Poly_becomeTerm bm_Poly_becomeTerm 3 none wm_Poly_becomeTerm rm_Poly_becomeTerm 0 0 2 := cwV 2 ht (wa_V (wa_in 100 (by decide +kernel) rfl) (wa_in 101 (by decide +kernel) rfl) (wa_in 102 (by decide +kernel) rfl) (wa_in 3 (by decide +kernel) rfl) ci_Poly_becomeTerm) rfl rfl rfl (by decide +kernel) hR
theorem cv_Frob_45 {args : Array Value} {s : State} {R : Room} (ht : ∀ w ∈ wa_g, w.before args s = true) (hR : rm_Poly_copyFrom.frames + 1 ≤ R.frames ∧ 8 + (2 + 11) + rm_Poly_copyFrom.locals ≤ R.locals) : CallW R s args rc_Frob rc_Poly 45 ym_Poly_copyFrom bm_Poly_copyFrom 2 none wm_Poly_copyFrom rm_Poly_copyFrom 0 0 1 := cwV 1 ht (wa_V (wa_in 414 (by decide +kernel) rfl) (wa_in 325 (by decide +kernel) rfl) (wa_in 326 (by decide +kernel) rfl) (wa_in 3 (by decide +kernel) rfl) ci_Poly_copyFrom) rfl rfl rfl (by decide +kernel) hR
theorem cv_Frob_49 {args : Array Value} {s : State} {R : Room} (ht : ∀ w ∈ wa_g, w.before args s = true) (hR : rm_Ring_makeMonic.frames + 1 ≤ R.frames ∧ 8 + (2 + 11) + rm_Ring_makeMonic.locals ≤ R.locals) : CallW R s args rc_Frob rc_Ring 49 ym_Ring_makeMonic bm_Ring_makeMonic 2 none wm_Ring_makeMonic rm_Ring_makeMonic 0 0 1 := cwV 1 ht (wa_V (wa_in 415 (by decide +kernel) rfl) (wa_in 369 (by decide +kernel) rfl) (wa_in 370 (by decide +kernel) rfl) (wa_in 2 (by decide +kernel) rfl) ci_Ring_makeMonic) rfl rfl rfl (by decide +kernel) hR
theorem cv_Frob_58 {args : Array Value} {s : State} {R : Room} (ht : ∀ w ∈ wa_g, w.before args s = true) (hR : rm_Ring_powerInto.frames + 1 ≤ R.frames ∧ 8 + (8 + 11) + rm_Ring_powerInto.locals ≤ R.locals) : CallW R s args rc_Frob rc_Ring 58 ym_Ring_powerInto bm_Ring_powerInto 8 none wm_Ring_powerInto rm_Ring_powerInto 0 0 4 := cwV 4 ht (wa_V (wa_in 416 (by decide +kernel) rfl) (wa_in 386 (by decide +kernel) rfl) (wa_in 387 (by decide +kernel) rfl) (wa_in 2 (by decide +kernel) rfl) ci_Ring_powerInto) rfl rfl rfl (by decide +kernel) hR
theorem cv_Frob_65 {args : Array Value} {s : State} {R : Room} (ht : ∀ w ∈ wa_g, w.before args s = true) (hR : rm_Ring_productRestInto.frames + 1 ≤ R.frames ∧ 8 + (5 + 11) + rm_Ring_productRestInto.locals ≤ R.locals) : CallW R s args rc_Frob rc_Ring 65 ym_Ring_productRestInto bm_Ring_productRestInto 5 none wm_Ring_productRestInto rm_Ring_productRestInto 0 0 4 := cwV 4 ht (wa_V (wa_in 417 (by decide +kernel) rfl) (wa_in 391 (by decide +kernel) rfl) (wa_in 392 (by decide +kernel) rfl) (wa_in 2 (by decide +kernel) rfl) ci_Ring_productRestInto) rfl rfl rfl (by decide +kernel) hR
theorem cv_Frob_69 {args : Array Value} {s : State} {R : Room} (ht : ∀ w ∈ wa_g, w.before args s = true) (hR : rm_Ring_restInto.frames + 1 ≤ R.frames ∧ 8 + (4 + 11) + rm_Ring_restInto.locals ≤ R.locals) : CallW R s args rc_Frob rc_Ring 69 ym_Ring_restInto bm_Ring_restInto 4 none wm_Ring_restInto rm_Ring_restInto 0 0 3 := cwV 3 ht (wa_V (wa_in 418 (by decide +kernel) rfl) (wa_in 365 (by decide +kernel) rfl) (wa_in 366 (by decide +kernel) rfl) (wa_in 2 (by decide +kernel) rfl) ci_Ring_restInto) rfl rfl rfl (by decide +kernel) hR
theorem cv_Frob_73 {args : Array Value} {s : State} {R : Room} (ht : ∀ w ∈ wa_g, w.before args s = true) (hR : rm_Frob_raise.frames + 1 ≤ R.frames ∧ 8 + (3 + 11) + rm_Frob_raise.locals ≤ R.locals) : CallW R s args rc_Frob rc_Frob 73 ym_Frob_raise bm_Frob_raise 3 none wm_Frob_raise rm_Frob_raise 0 0 1 := cwV 1 ht (wa_V (wa_in 423 (by decide +kernel) rfl) (wa_in 425 (by decide +kernel) rfl) (wa_inL 3 (by decide +kernel) rfl) (wa_in 4 (by decide +kernel) rfl) ci_Frob_raise) rfl rfl rfl (by decide +kernel) hR
theorem cv_Frob_76 {args : Array Value} {s : State} {R : Room} (ht : ∀ w ∈ wa_g, w.before args s = true) (hR : rm_Ring_sumInto.frames + 1 ≤ R.frames ∧ 8 + (6 + 11) + rm_Ring_sumInto.locals ≤ R.locals) : CallW R s args rc_Frob rc_Ring 76 ym_Ring_sumInto bm_Ring_sumInto 6 none wm_Ring_sumInto rm_Ring_sumInto 0 0 4 := cwV 4 ht (wa_V (wa_in 428 (by decide +kernel) rfl) (wa_in 307 (by decide +kernel) rfl) (wa_in 308 (by decide +kernel) rfl) (wa_in 2 (by decide +kernel) rfl) ci_Ring_sumInto) rfl rfl rfl (by decide +kernel) hR
theorem cv_Frob_80 {args : Array Value} {s : State} {R : Room} (ht : ∀ w ∈ wa_g, w.before args s = true) (hR : rm_Ring_commonInto.frames + 1 ≤ R.frames ∧ 8 + (8 + 11) + rm_Ring_commonInto.locals ≤ R.locals) : CallW R s args rc_Frob rc_Ring 80 ym_Ring_commonInto bm_Ring_commonInto 8 none wm_Ring_commonInto rm_Ring_commonInto 0 0 3 := cwV 3 ht (wa_V (wa_in 429 (by decide +kernel) rfl) (wa_in 360 (by decide +kernel) rfl) (wa_in 361 (by decide +kernel) rfl) (wa_in 2 (by decide +kernel) rfl) ci_Ring_commonInto) rfl rfl rfl (by decide +kernel) hR
theorem cv_Frob_83 {args : Array Value} {s : State} {R : Room} (ht : ∀ w ∈ wa_g, w.before args s = true) (hR : rm_Frob_prepareFor.frames + 1 ≤ R.frames ∧ 8 + (3 + 11) + rm_Frob_prepareFor.locals ≤ R.locals) : CallW R s args rc_Frob rc_Frob 83 ym_Frob_prepareFor bm_Frob_prepareFor 3 none wm_Frob_prepareFor rm_Frob_prepareFor 0 0 1 := cwV 1 ht (wa_V (wa_in 410 (by decide +kernel) rfl) (wa_in 411 (by decide +kernel) rfl) (wa_in 412 (by decide +kernel) rfl) (wa_in 4 (by decide +kernel) rfl) ci_Frob_prepareFor) rfl rfl rfl (by decide +kernel) hR
theorem cv_Frob_86 {args : Array Value} {s : State} {R : Room} (ht : ∀ w ∈ wa_g, w.before args s = true) (hR : rm_Frob_nextDegreeInto.frames + 1 ≤ R.frames ∧ 8 + (3 + 11) + rm_Frob_nextDegreeInto.locals ≤ R.locals) : CallW R s args rc_Frob rc_Frob 86 ym_Frob_nextDegreeInto bm_Frob_nextDegreeInto 3 none wm_Frob_nextDegreeInto rm_Frob_nextDegreeInto 0 0 2 := cwV 2 ht (wa_V (wa_in 419 (by decide +kernel) rfl) (wa_in 420 (by decide +kernel) rfl) (wa_in 421 (by decide +kernel) rfl) (wa_in 4 (by decide +kernel) rfl) ci_Frob_nextDegreeInto) rfl rfl rfl (by decide +kernel) hR
theorem cv_Frob_90 {args : Array Value} {s : State} {R : Room} (ht : ∀ w ∈ wa_g, w.before args s = true) (hR : rm_Poly_clear.frames + 1 ≤ R.frames ∧ 8 + (1 + 11) + rm_Poly_clear.locals ≤ R.locals) : CallW R s args rc_Frob rc_Poly 90 ym_Poly_clear bm_Poly_clear 1 none wm_Poly_clear rm_Poly_clear 0 0 0 := cwV 0 ht (wa_V (wa_in 427 (by decide +kernel) rfl) (wa_in 105 (by decide +kernel) rfl) (wa_in 106 (by decide +kernel) rfl) (wa_in 3 (by decide +kernel) rfl) ci_Poly_clear) rfl rfl rfl (by decide +kernel) hR
theorem cv_Parts_49 {args : Array Value} {s : State} {R : Room} (ht : ∀ w ∈ wa_g, w.before args s = true) (hR : rm_Poly_lead.frames + 1 ≤ R.frames ∧ 8 + (1 + 11) + rm_Poly_lead.locals ≤ R.locals) : CallW R s args rc_Parts rc_Poly 49 ym_Poly_lead bm_Poly_lead 1 (some .int) wm_Poly_lead rm_Poly_lead 0 0 0 := cwV 0 ht (wa_V (wa_in 438 (by decide +kernel) rfl) (wa_in 348 (by decide +kernel) rfl) (wa_in 349 (by decide +kernel) rfl) (wa_in 3 (by decide +kernel) rfl) ci_Poly_lead) rfl rfl rfl (by decide +kernel) hR
theorem cv_Parts_52 {args : Array Value} {s : State} {R : Room} (ht : ∀ w ∈ wa_g, w.before args s = true) (hR : rm_Poly_copyFrom.frames + 1 ≤ R.frames ∧ 8 + (2 + 11) + rm_Poly_copyFrom.locals ≤ R.locals) : CallW R s args rc_Parts rc_Poly 52 ym_Poly_copyFrom bm_Poly_copyFrom 2 none wm_Poly_copyFrom rm_Poly_copyFrom 0 0 1 := cwV 1 ht (wa_V (wa_in 439 (by decide +kernel) rfl) (wa_in 325 (by decide +kernel) rfl) (wa_in 326 (by decide +kernel) rfl) (wa_in 3 (by decide +kernel) rfl) ci_Poly_copyFrom) rfl rfl rfl (by decide +kernel) hR
theorem cv_Parts_56 {args : Array Value} {s : State} {R : Room} (ht : ∀ w ∈ wa_g, w.before args s = true) (hR : rm_Ring_makeMonic.frames + 1 ≤ R.frames ∧ 8 + (2 + 11) + rm_Ring_makeMonic.locals ≤ R.locals) : CallW R s args rc_Parts rc_Ring 56 ym_Ring_makeMonic bm_Ring_makeMonic 2 none wm_Ring_makeMonic rm_Ring_makeMonic 0 0 1 := cwV 1 ht (wa_V (wa_in 440 (by decide +kernel) rfl) (wa_in 369 (by decide +kernel) rfl) (wa_in 370 (by decide +kernel) rfl) (wa_in 2 (by decide +kernel) rfl) ci_Ring_makeMonic) rfl rfl rfl (by decide +kernel) hR
theorem cv_Parts_64 {args : Array Value} {s : State} {R : Room} (ht : ∀ w ∈ wa_g, w.before args s = true) (hR : rm_Frob_prepareFor.frames + 1 ≤ R.frames ∧ 8 + (3 + 11) + rm_Frob_prepareFor.locals ≤ R.locals) : CallW R s args rc_Parts rc_Frob 64 ym_Frob_prepareFor bm_Frob_prepareFor 3 none wm_Frob_prepareFor rm_Frob_prepareFor 0 0 1 := cwV 1 ht (wa_V (wa_in 441 (by decide +kernel) rfl) (wa_in 411 (by decide +kernel) rfl) (wa_in 412 (by decide +kernel) rfl) (wa_in 4 (by decide +kernel) rfl) ci_Frob_prepareFor) rfl rfl rfl (by decide +kernel) hR
theorem cv_Parts_69 {args : Array Value} {s : State} {R : Room} (ht : ∀ w ∈ wa_g, w.before args s = true) (hR : rm_Frob_nextDegreeInto.frames + 1 ≤ R.frames ∧ 8 + (3 + 11) + rm_Frob_nextDegreeInto.locals ≤ R.locals) : CallW R s args rc_Parts rc_Frob 69 ym_Frob_nextDegreeInto bm_Frob_nextDegreeInto 3 none wm_Frob_nextDegreeInto rm_Frob_nextDegreeInto 0 0 2 := cwV 2 ht (wa_V (wa_in 442 (by decide +kernel) rfl) (wa_in 420 (by decide +kernel) rfl) (wa_in 421 (by decide +kernel) rfl) (wa_in 4 (by decide +kernel) rfl) ci_Frob_nextDegreeInto) rfl rfl rfl (by decide +kernel) hR
theorem cv_Parts_73 {args : Array Value} {s : State} {R : Room} (ht : ∀ w ∈ wa_g, w.before args s = true) (hR : rm_Parts_takeOutFound.frames + 1 ≤ R.frames ∧ 8 + (3 + 11) + rm_Parts_takeOutFound.locals ≤ R.locals) : CallW R s args rc_Parts rc_Parts 73 ym_Parts_takeOutFound bm_Parts_takeOutFound 3 none wm_Parts_takeOutFound rm_Parts_takeOutFound 0 0 1 := cwV 1 ht (wa_V (wa_in 443 (by decide +kernel) rfl) (wa_in 445 (by decide +kernel) rfl) (wa_inL 4 (by decide +kernel) rfl) (wa_in 6 (by decide +kernel) rfl) ci_Parts_takeOutFound) rfl rfl rfl (by decide +kernel) hR
theorem cv_Parts_77 {args : Array Value} {s : State} {R : Room} (ht : ∀ w ∈ wa_g, w.before args s = true) (hR : rm_Parts_insertInOrder.frames + 1 ≤ R.frames ∧ 8 + (5 + 11) + rm_Parts_insertInOrder.locals ≤ R.locals) : CallW R s args rc_Parts rc_Parts 77 ym_Parts_insertInOrder bm_Parts_insertInOrder 5 none wm_Parts_insertInOrder rm_Parts_insertInOrder 0 0 3 := cwV 3 ht (wa_V (wa_in 452 (by decide +kernel) rfl) (wa_in 454 (by decide +kernel) rfl) (wa_inL 5 (by decide +kernel) rfl) (wa_in 6 (by decide +kernel) rfl) ci_Parts_insertInOrder) rfl rfl rfl (by decide +kernel) hR
theorem cv_Parts_81 {args : Array Value} {s : State} {R : Room} (ht : ∀ w ∈ wa_g, w.before args s = true) (hR : rm_Ring_quotientInto.frames + 1 ≤ R.frames ∧ 8 + (4 + 11) + rm_Ring_quotientInto.locals ≤ R.locals) : CallW R s args rc_Parts rc_Ring 81 ym_Ring_quotientInto bm_Ring_quotientInto 4 none wm_Ring_quotientInto rm_Ring_quotientInto 0 0 3 := cwV 3 ht (wa_V (wa_in 447 (by decide +kernel) rfl) (wa_in 448 (by decide +kernel) rfl) (wa_in 449 (by decide +kernel) rfl) (wa_in 2 (by decide +kernel) rfl) ci_Ring_quotientInto) rfl rfl rfl (by decide +kernel) hR
theorem cv_Parts_85 {args : Array Value} {s : State} {R : Room} (ht : ∀ w ∈ wa_g, w.before args s = true) (hR : rm_Ring_commonInto.frames + 1 ≤ R.frames ∧ 8 + (8 + 11) + rm_Ring_commonInto.locals ≤ R.locals) : CallW R s args rc_Parts rc_Ring 85 ym_Ring_commonInto bm_Ring_commonInto 8 none wm_Ring_commonInto rm_Ring_commonInto 0 0 3 := cwV 3 ht (wa_V (wa_in 451 (by decide +kernel) rfl) (wa_in 360 (by decide +kernel) rfl) (wa_in 361 (by decide +kernel) rfl) (wa_in 2 (by decide +kernel) rfl) ci_Ring_commonInto) rfl rfl rfl (by decide +kernel) hR
theorem cv_Parts_91 {args : Array Value} {s : State} {R : Room} (ht : ∀ w ∈ wa_g, w.before args s = true) (hR : rm_Parts_insert.frames + 1 ≤ R.frames ∧ 8 + (7 + 11) + rm_Parts_insert.locals ≤ R.locals) : CallW R s args rc_Parts rc_Parts 91 ym_Parts_insert bm_Parts_insert 7 none wm_Parts_insert rm_Parts_insert 0 0 4 := cwV 4 ht (wa_V (wa_in 456 (by decide +kernel) rfl) (wa_in 458 (by decide +kernel) rfl) (wa_inL 6 (by decide +kernel) rfl) (wa_in 6 (by decide +kernel) rfl) ci_Parts_insert) rfl rfl rfl (by decide +kernel) hR
theorem cv_Parts_101 {args : Array Value} {s : State} {R : Room} (ht : ∀ w ∈ wa_g, w.before args s = true) (hR : rm_Parts_separatorInto.frames + 1 ≤ R.frames ∧ 8 + (4 + 11) + rm_Parts_separatorInto.locals ≤ R.locals) : CallW R s args rc_Parts rc_Parts 101 ym_Parts_separatorInto bm_Parts_separatorInto 4 none wm_Parts_separatorInto rm_Parts_separatorInto 0 0 3 := cwV 3 ht (wa_V (wa_in 480 (by decide +kernel) rfl) (wa_in 482 (by decide +kernel) rfl) (wa_inL 8 (by decide +kernel) rfl) (wa_in 6 (by decide +kernel) rfl) ci_Parts_separatorInto) rfl rfl rfl (by decide +kernel) hR
theorem cv_Parts_108 {args : Array Value} {s : State} {R : Room} (ht : ∀ w ∈ wa_g, w.before args s = true) (hR : rm_Frob_gatherInto.frames + 1 ≤ R.frames ∧ 8 + (6 + 11) + rm_Frob_gatherInto.locals ≤ R.locals) : CallW R s args rc_Parts rc_Frob 108 ym_Frob_gatherInto bm_Frob_gatherInto 6 none wm_Frob_gatherInto rm_Frob_gatherInto 0 0 4 := cwV 4 ht (wa_V (wa_in 484 (by decide +kernel) rfl) (wa_in 485 (by decide +kernel) rfl) (wa_in 486 (by decide +kernel) rfl) (wa_in 4 (by decide +kernel) rfl) ci_Frob_gatherInto) rfl rfl rfl (by decide +kernel) hR
theorem cv_Parts_112 {args : Array Value} {s : State} {R : Room} (ht : ∀ w ∈ wa_g, w.before args s = true) (hR : rm_Ring_powerInto.frames + 1 ≤ R.frames ∧ 8 + (8 + 11) + rm_Ring_powerInto.locals ≤ R.locals) : CallW R s args rc_Parts rc_Ring 112 ym_Ring_powerInto bm_Ring_powerInto 8 none wm_Ring_powerInto rm_Ring_powerInto 0 0 4 := cwV 4 ht (wa_V (wa_in 488 (by decide +kernel) rfl) (wa_in 386 (by decide +kernel) rfl) (wa_in 387 (by decide +kernel) rfl) (wa_in 2 (by decide +kernel) rfl) ci_Ring_powerInto) rfl rfl rfl (by decide +kernel) hR
theorem cv_Parts_120 {args : Array Value} {s : State} {R : Room} (ht : ∀ w ∈ wa_g, w.before args s = true) (hR : rm_Math_floorMod.frames + 1 ≤ R.frames ∧ 8 + (3 + 11) + rm_Math_floorMod.locals ≤ R.locals) : CallB R s args rc_Parts 120 ym_Math_floorMod bm_Math_floorMod 3 (some .int) wm_Math_floorMod rm_Math_floorMod 0 0 2 ∧ (Cond.static ym_Math_floorMod).before args s = true := ⟨callB_of 2 ht (wa_C ci_Math_floorMod) rfl rfl rfl (ht _ (wa_in 10 (by decide +kernel) rfl)) (ht _ (wa_in 489 (by decide +kernel) rfl)) (by decide +kernel) hR, ht _ (wa_in 276 (by decide +kernel) rfl)⟩
theorem cv_Parts_126 {args : Array Value} {s : State} {R : Room} (ht : ∀ w ∈ wa_g, w.before args s = true) (hR : rm_Poly_put.frames + 1 ≤ R.frames ∧ 8 + (3 + 11) + rm_Poly_put.locals ≤ R.locals) : CallW R s args rc_Parts rc_Poly 126 ym_Poly_put bm_Poly_put 3 none wm_Poly_put rm_Poly_put 0 0 2 := cwV 2 ht (wa_V (wa_in 490 (by decide +kernel) rfl) (wa_in 112 (by decide +kernel) rfl) (wa_in 113 (by decide +kernel) rfl) (wa_in 3 (by decide +kernel) rfl) ci_Poly_put) rfl rfl rfl (by decide +kernel) hR
theorem cv_Parts_130 {args : Array Value} {s : State} {R : Room} (ht : ∀ w ∈ wa_g, w.before args s = true) (hR : rm_Poly_becomeTerm.frames + 1 ≤ R.frames ∧ 8 + (3 + 11) + rm_Poly_becomeTerm.locals ≤ R.locals) : CallW R s args rc_Parts rc_Poly 130 ym_Poly_becomeTerm bm_Poly_becomeTerm 3 none wm_Poly_becomeTerm rm_Poly_becomeTerm 0 0 2 := cwV 2 ht (wa_V (wa_in 503 (by decide +kernel) rfl) (wa_in 101 (by decide +kernel) rfl) (wa_in 102 (by decide +kernel) rfl) (wa_in 3 (by decide +kernel) rfl) ci_Poly_becomeTerm) rfl rfl rfl (by decide +kernel) hR
theorem cv_Parts_133 {args : Array Value} {s : State} {R : Room} (ht : ∀ w ∈ wa_g, w.before args s = true) (hR : rm_Ring_productInto.frames + 1 ≤ R.frames ∧ 8 + (4 + 11) + rm_Ring_productInto.locals ≤ R.locals) : CallW R s args rc_Parts rc_Ring 133 ym_Ring_productInto bm_Ring_productInto 4 none wm_Ring_productInto rm_Ring_productInto 0 0 3 := cwV 3 ht (wa_V (wa_in 504 (by decide +kernel) rfl) (wa_in 316 (by decide +kernel) rfl) (wa_in 317 (by decide +kernel) rfl) (wa_in 2 (by decide +kernel) rfl) ci_Ring_productInto) rfl rfl rfl (by decide +kernel) hR
theorem cv_Poly_19 {args : Array Value} {s : State} {R : Room} (ht : ∀ w ∈ wa_g, w.before args s = true) (hR : rm_Poly_lead.frames + 1 ≤ R.frames ∧ 8 + (1 + 11) + rm_Poly_lead.locals ≤ R.locals) : CallW R s args rc_Poly rc_Poly 19 ym_Poly_lead bm_Poly_lead 1 (some .int) wm_Poly_lead rm_Poly_lead 0 0 0 := cwV 0 ht (wa_V (wa_in 376 (by decide +kernel) rfl) (wa_in 348 (by decide +kernel) rfl) (wa_in 349 (by decide +kernel) rfl) (wa_in 3 (by decide +kernel) rfl) ci_Poly_lead) rfl rfl rfl (by decide +kernel) hR
theorem cv_Poly_23 {args : Array Value} {s : State} {R : Room} (ht : ∀ w ∈ wa_g, w.before args s = true) (hR : rm_Arrays_fill.frames + 1 ≤ R.frames ∧ 8 + (4 + 11) + rm_Arrays_fill.locals ≤ R.locals) : CallB R s args rc_Poly 23 ym_Arrays_fill bm_Arrays_fill 4 none wm_Arrays_fill rm_Arrays_fill 0 0 2 ∧ (Cond.static ym_Arrays_fill).before args s = true := ⟨callB_of 2 ht (wa_C ci_Arrays_fill) rfl rfl rfl (ht _ (wa_in 5 (by decide +kernel) rfl)) (ht _ (wa_in 108 (by decide +kernel) rfl)) (by decide +kernel) hR, ht _ (wa_in 109 (by decide +kernel) rfl)⟩
theorem cv_Poly_29 {args : Array Value} {s : State} {R : Room} (ht : ∀ w ∈ wa_g, w.before args s = true) (hR : rm_Poly_settle.frames + 1 ≤ R.frames ∧ 8 + (2 + 11) + rm_Poly_settle.locals ≤ R.locals) : CallW R s args rc_Poly rc_Poly 29 ym_Poly_settle bm_Poly_settle 2 none wm_Poly_settle rm_Poly_settle 0 0 0 := cwV 0 ht (wa_V (wa_in 115 (by decide +kernel) rfl) (wa_in 116 (by decide +kernel) rfl) (wa_in 117 (by decide +kernel) rfl) (wa_in 3 (by decide +kernel) rfl) ci_Poly_settle) rfl rfl rfl (by decide +kernel) hR
theorem cv_Poly_32 {args : Array Value} {s : State} {R : Room} (ht : ∀ w ∈ wa_g, w.before args s = true) (hR : rm_Poly_clear.frames + 1 ≤ R.frames ∧ 8 + (1 + 11) + rm_Poly_clear.locals ≤ R.locals) : CallW R s args rc_Poly rc_Poly 32 ym_Poly_clear bm_Poly_clear 1 none wm_Poly_clear rm_Poly_clear 0 0 0 := cwV 0 ht (wa_V (wa_in 104 (by decide +kernel) rfl) (wa_in 105 (by decide +kernel) rfl) (wa_in 106 (by decide +kernel) rfl) (wa_in 3 (by decide +kernel) rfl) ci_Poly_clear) rfl rfl rfl (by decide +kernel) hR
theorem cv_Poly_35 {args : Array Value} {s : State} {R : Room} (ht : ∀ w ∈ wa_g, w.before args s = true) (hR : rm_Poly_put.frames + 1 ≤ R.frames ∧ 8 + (3 + 11) + rm_Poly_put.locals ≤ R.locals) : CallW R s args rc_Poly rc_Poly 35 ym_Poly_put bm_Poly_put 3 none wm_Poly_put rm_Poly_put 0 0 2 := cwV 2 ht (wa_V (wa_in 111 (by decide +kernel) rfl) (wa_in 112 (by decide +kernel) rfl) (wa_in 113 (by decide +kernel) rfl) (wa_in 3 (by decide +kernel) rfl) ci_Poly_put) rfl rfl rfl (by decide +kernel) hR
theorem cv_Ring_50 {args : Array Value} {s : State} {R : Room} (ht : ∀ w ∈ wa_g, w.before args s = true) (hR : rm_Poly_settle.frames + 1 ≤ R.frames ∧ 8 + (2 + 11) + rm_Poly_settle.locals ≤ R.locals) : CallW R s args rc_Ring rc_Poly 50 ym_Poly_settle bm_Poly_settle 2 none wm_Poly_settle rm_Poly_settle 0 0 0 := cwV 0 ht (wa_V (wa_in 310 (by decide +kernel) rfl) (wa_in 116 (by decide +kernel) rfl) (wa_in 117 (by decide +kernel) rfl) (wa_in 3 (by decide +kernel) rfl) ci_Poly_settle) rfl rfl rfl (by decide +kernel) hR
theorem cv_Ring_53 {args : Array Value} {s : State} {R : Room} (ht : ∀ w ∈ wa_g, w.before args s = true) (hR : rm_Poly_isZero.frames + 1 ≤ R.frames ∧ 8 + (1 + 11) + rm_Poly_isZero.locals ≤ R.locals) : CallW R s args rc_Ring rc_Poly 53 ym_Poly_isZero bm_Poly_isZero 1 (some .boolean) wm_Poly_isZero rm_Poly_isZero 0 0 0 := cwV 0 ht (wa_V (wa_in 363 (by decide +kernel) rfl) (wa_in 336 (by decide +kernel) rfl) (wa_in 337 (by decide +kernel) rfl) (wa_in 3 (by decide +kernel) rfl) ci_Poly_isZero) rfl rfl rfl (by decide +kernel) hR
theorem cv_Ring_57 {args : Array Value} {s : State} {R : Room} (ht : ∀ w ∈ wa_g, w.before args s = true) (hR : rm_Poly_isMonic.frames + 1 ≤ R.frames ∧ 8 + (1 + 11) + rm_Poly_isMonic.locals ≤ R.locals) : CallW R s args rc_Ring rc_Poly 57 ym_Poly_isMonic bm_Poly_isMonic 1 (some .boolean) wm_Poly_isMonic rm_Poly_isMonic 0 0 0 := cwV 0 ht (wa_V (wa_in 372 (by decide +kernel) rfl) (wa_in 373 (by decide +kernel) rfl) (wa_in 374 (by decide +kernel) rfl) (wa_in 3 (by decide +kernel) rfl) ci_Poly_isMonic) rfl rfl rfl (by decide +kernel) hR
theorem cv_Ring_60 {args : Array Value} {s : State} {R : Room} (ht : ∀ w ∈ wa_g, w.before args s = true) (hR : rm_Poly_lead.frames + 1 ≤ R.frames ∧ 8 + (1 + 11) + rm_Poly_lead.locals ≤ R.locals) : CallW R s args rc_Ring rc_Poly 60 ym_Poly_lead bm_Poly_lead 1 (some .int) wm_Poly_lead rm_Poly_lead 0 0 0 := cwV 0 ht (wa_V (wa_in 347 (by decide +kernel) rfl) (wa_in 348 (by decide +kernel) rfl) (wa_in 349 (by decide +kernel) rfl) (wa_in 3 (by decide +kernel) rfl) ci_Poly_lead) rfl rfl rfl (by decide +kernel) hR
theorem cv_Ring_64 {args : Array Value} {s : State} {R : Room} (ht : ∀ w ∈ wa_g, w.before args s = true) (hR : rm_Ring_reciprocal.frames + 1 ≤ R.frames ∧ 8 + (7 + 11) + rm_Ring_reciprocal.locals ≤ R.locals) : CallW R s args rc_Ring rc_Ring 64 ym_Ring_reciprocal bm_Ring_reciprocal 7 (some .int) wm_Ring_reciprocal rm_Ring_reciprocal 0 0 1 := cwV 1 ht (wa_V (wa_in 351 (by decide +kernel) rfl) (wa_in 352 (by decide +kernel) rfl) (wa_in 353 (by decide +kernel) rfl) (wa_in 2 (by decide +kernel) rfl) ci_Ring_reciprocal) rfl rfl rfl (by decide +kernel) hR
theorem cv_Ring_68 {args : Array Value} {s : State} {R : Room} (ht : ∀ w ∈ wa_g, w.before args s = true) (hR : rm_Ring_scaleInto.frames + 1 ≤ R.frames ∧ 8 + (5 + 11) + rm_Ring_scaleInto.locals ≤ R.locals) : CallW R s args rc_Ring rc_Ring 68 ym_Ring_scaleInto bm_Ring_scaleInto 5 none wm_Ring_scaleInto rm_Ring_scaleInto 0 0 3 := cwV 3 ht (wa_V (wa_in 377 (by decide +kernel) rfl) (wa_in 378 (by decide +kernel) rfl) (wa_in 379 (by decide +kernel) rfl) (wa_in 2 (by decide +kernel) rfl) ci_Ring_scaleInto) rfl rfl rfl (by decide +kernel) hR
theorem cv_Ring_72 {args : Array Value} {s : State} {R : Room} (ht : ∀ w ∈ wa_g, w.before args s = true) (hR : rm_Ring_multiplyWide.frames + 1 ≤ R.frames ∧ 8 + (7 + 11) + rm_Ring_multiplyWide.locals ≤ R.locals) : CallW R s args rc_Ring rc_Ring 72 ym_Ring_multiplyWide bm_Ring_multiplyWide 7 none wm_Ring_multiplyWide rm_Ring_multiplyWide 0 0 2 := cwV 2 ht (wa_V (wa_in 319 (by decide +kernel) rfl) (wa_in 321 (by decide +kernel) rfl) (wa_inL 1 (by decide +kernel) rfl) (wa_in 2 (by decide +kernel) rfl) ci_Ring_multiplyWide) rfl rfl rfl (by decide +kernel) hR
theorem cv_Ring_76 {args : Array Value} {s : State} {R : Room} (ht : ∀ w ∈ wa_g, w.before args s = true) (hR : rm_Poly_copyFrom.frames + 1 ≤ R.frames ∧ 8 + (2 + 11) + rm_Poly_copyFrom.locals ≤ R.locals) : CallW R s args rc_Ring rc_Poly 76 ym_Poly_copyFrom bm_Poly_copyFrom 2 none wm_Poly_copyFrom rm_Poly_copyFrom 0 0 1 := cwV 1 ht (wa_V (wa_in 324 (by decide +kernel) rfl) (wa_in 325 (by decide +kernel) rfl) (wa_in 326 (by decide +kernel) rfl) (wa_in 3 (by decide +kernel) rfl) ci_Poly_copyFrom) rfl rfl rfl (by decide +kernel) hR
theorem cv_Ring_80 {args : Array Value} {s : State} {R : Room} (ht : ∀ w ∈ wa_g, w.before args s = true) (hR : rm_Ring_divideLong.frames + 1 ≤ R.frames ∧ 8 + (10 + 11) + rm_Ring_divideLong.locals ≤ R.locals) : CallW R s args rc_Ring rc_Ring 80 ym_Ring_divideLong bm_Ring_divideLong 10 none wm_Ring_divideLong rm_Ring_divideLong 0 0 2 := cwV 2 ht (wa_V (wa_in 343 (by decide +kernel) rfl) (wa_in 345 (by decide +kernel) rfl) (wa_inL 2 (by decide +kernel) rfl) (wa_in 2 (by decide +kernel) rfl) ci_Ring_divideLong) rfl rfl rfl (by decide +kernel) hR
theorem cv_Ring_83 {args : Array Value} {s : State} {R : Room} (ht : ∀ w ∈ wa_g, w.before args s = true) (hR : rm_Ring_restInto.frames + 1 ≤ R.frames ∧ 8 + (4 + 11) + rm_Ring_restInto.locals ≤ R.locals) : CallW R s args rc_Ring rc_Ring 83 ym_Ring_restInto bm_Ring_restInto 4 none wm_Ring_restInto rm_Ring_restInto 0 0 3 := cwV 3 ht (wa_V (wa_in 364 (by decide +kernel) rfl) (wa_in 365 (by decide +kernel) rfl) (wa_in 366 (by decide +kernel) rfl) (wa_in 2 (by decide +kernel) rfl) ci_Ring_restInto) rfl rfl rfl (by decide +kernel) hR
theorem cv_Ring_87 {args : Array Value} {s : State} {R : Room} (ht : ∀ w ∈ wa_g, w.before args s = true) (hR : rm_Ring_makeMonic.frames + 1 ≤ R.frames ∧ 8 + (2 + 11) + rm_Ring_makeMonic.locals ≤ R.locals) : CallW R s args rc_Ring rc_Ring 87 ym_Ring_makeMonic bm_Ring_makeMonic 2 none wm_Ring_makeMonic rm_Ring_makeMonic 0 0 1 := cwV 1 ht (wa_V (wa_in 368 (by decide +kernel) rfl) (wa_in 369 (by decide +kernel) rfl) (wa_in 370 (by decide +kernel) rfl) (wa_in 2 (by decide +kernel) rfl) ci_Ring_makeMonic) rfl rfl rfl (by decide +kernel) hR
theorem cv_Ring_90 {args : Array Value} {s : State} {R : Room} (ht : ∀ w ∈ wa_g, w.before args s = true) (hR : rm_Poly_becomeTerm.frames + 1 ≤ R.frames ∧ 8 + (3 + 11) + rm_Poly_becomeTerm.locals ≤ R.locals) : CallW R s args rc_Ring rc_Poly 90 ym_Poly_becomeTerm bm_Poly_becomeTerm 3 none wm_Poly_becomeTerm rm_Poly_becomeTerm 0 0 2 := cwV 2 ht (wa_V (wa_in 389 (by decide +kernel) rfl) (wa_in 101 (by decide +kernel) rfl) (wa_in 102 (by decide +kernel) rfl) (wa_in 3 (by decide +kernel) rfl) ci_Poly_becomeTerm) rfl rfl rfl (by decide +kernel) hR
theorem cv_Ring_94 {args : Array Value} {s : State} {R : Room} (ht : ∀ w ∈ wa_g, w.before args s = true) (hR : rm_Ring_productRestInto.frames + 1 ≤ R.frames ∧ 8 + (5 + 11) + rm_Ring_productRestInto.locals ≤ R.locals) : CallW R s args rc_Ring rc_Ring 94 ym_Ring_productRestInto bm_Ring_productRestInto 5 none wm_Ring_productRestInto rm_Ring_productRestInto 0 0 4 := cwV 4 ht (wa_V (wa_in 390 (by decide +kernel) rfl) (wa_in 391 (by decide +kernel) rfl) (wa_in 392 (by decide +kernel) rfl) (wa_in 2 (by decide +kernel) rfl) ci_Ring_productRestInto) rfl rfl rfl (by decide +kernel) hR
theorem cv_Ring_98 {args : Array Value} {s : State} {R : Room} (ht : ∀ w ∈ wa_g, w.before args s = true) (hR : rm_Poly_clear.frames + 1 ≤ R.frames ∧ 8 + (1 + 11) + rm_Poly_clear.locals ≤ R.locals) : CallW R s args rc_Ring rc_Poly 98 ym_Poly_clear bm_Poly_clear 1 none wm_Poly_clear rm_Poly_clear 0 0 0 := cwV 0 ht (wa_V (wa_in 323 (by decide +kernel) rfl) (wa_in 105 (by decide +kernel) rfl) (wa_in 106 (by decide +kernel) rfl) (wa_in 3 (by decide +kernel) rfl) ci_Poly_clear) rfl rfl rfl (by decide +kernel) hR
