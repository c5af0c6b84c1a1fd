/-! The list of parts as both programs see it; taking out, degree by degree, as functions -/
abbrev pv_T : Type := Nat × Nat × (Nat → Nat)
def pl_v (σ : st_T) : List pv_T := (List.range (σ 203 1)).map (pv_t σ)
theorem pl_v_len (σ : st_T) : (pl_v σ).length = σ 203 1 := by unfold pl_v; rw [List.length_map, List.length_range]
theorem pl_v_at (σ : st_T) {t : Nat} (h : t < σ 203 1) : (pl_v σ)[t]? = some (pv_t σ t) := by
  unfold pl_v
  rw [List.getElem?_map, List.getElem?_range h]
  rfl
/-- behind all that divide no oftener -/
def pi_in (x : pv_T) : List pv_T → List pv_T
  | [] => [x]
  | p :: L => if p.1 ≤ x.1 then p :: pi_in x L else x :: p :: L
theorem pi_in_at (x : pv_T) : ∀ (L : List pv_T) (i : Nat), i ≤ L.length → (∀ t p, t < i → L[t]? = some p → p.1 ≤ x.1) → (∀ p, L[i]? = some p → x.1 < p.1) → L.take i ++ x :: L.drop i = pi_in x L
  | [], i, hi, _, _ => by
    have : i = 0 := by simpa using hi
    subst this
    rfl
  | p :: L, 0, _, _, h2 => by
    have h3 := h2 p rfl
    unfold pi_in
    rw [if_neg (by omega)]
    rfl
  | p :: L, i + 1, hi, h1, h2 => by
    have h3 := h1 0 p (by omega) rfl
    unfold pi_in
    rw [if_pos h3]
    have h4 := pi_in_at x L i (by simpa using hi) (fun t q ht hq => h1 (t + 1) q (by omega) (by simpa using hq)) (fun q hq => h2 q (by simpa using hq))
    rw [← h4]
    rfl
theorem pi_in_len (x : pv_T) (L : List pv_T) : (pi_in x L).length = L.length + 1 := by
  induction L with
  | nil => rfl
  | cons p L ih =>
    unfold pi_in
    split
    · rw [List.length_cons, ih, List.length_cons]
    · rfl
theorem pi_in_mem {x p : pv_T} {L : List pv_T} (h : p ∈ pi_in x L) : p = x ∨ p ∈ L := by
  induction L with
  | nil => exact Or.inl (List.mem_singleton.mp h)
  | cons q L ih =>
    unfold pi_in at h
    split at h
    · rcases List.mem_cons.mp h with h | h
      · exact Or.inr (by rw [h]; exact List.mem_cons_self)
      · exact (ih h).imp id (fun z => List.mem_cons_of_mem _ z)
    · rcases List.mem_cons.mp h with h | h
      · exact Or.inl h
      · exact Or.inr h
/-- an insertion in the list -/
theorem pi_v {P : Nat} {σ τ : st_T} {at0 o0 e0 : Nat} {f : Nat → Nat} (h : pi_ok P σ at0 o0 e0 f τ) (ha : at0 ≤ σ 203 1) : pl_v τ = (pl_v σ).take at0 ++ (o0, e0, f) :: (pl_v σ).drop at0 := by
  obtain ⟨⟨-, -, hc, -, -⟩, h1, h2, h3⟩ := h
  have hl := pl_v_len σ
  apply List.ext_getElem?
  intro t
  by_cases ht : t < σ 203 1 + 1
  · rw [pl_v_at τ (by omega)]
    rcases Nat.lt_trichotomy t at0 with h4 | h4 | h4
    · rw [List.getElem?_append_left (by rw [List.length_take]; omega), List.getElem?_take, if_pos h4, pl_v_at σ (by omega), h1 t h4]
    · rw [List.getElem?_append_right (by rw [List.length_take]; omega), List.length_take, Nat.min_eq_left (by omega), h4, Nat.sub_self, List.getElem?_cons_zero, h2]
    · rw [List.getElem?_append_right (by rw [List.length_take]; omega), List.length_take, Nat.min_eq_left (by omega), show t - at0 = t - 1 - at0 + 1 by omega, List.getElem?_cons_succ, List.getElem?_drop, show at0 + (t - 1 - at0) = t - 1 by omega, pl_v_at σ (by omega), h3 t h4 (by omega)]
  · rw [List.getElem?_eq_none (by rw [pl_v_len]; omega), List.getElem?_eq_none (by rw [List.length_append, List.length_cons, List.length_take, List.length_drop]; omega)]
theorem pi_vo {P : Nat} {σ τ : st_T} {at0 o0 e0 : Nat} {f : Nat → Nat} (h : pi_ok P σ at0 o0 e0 f τ) (ha : at0 ≤ σ 203 1) (h1 : ∀ t, t < at0 → (pv_t σ t).1 ≤ o0) (h2 : at0 < σ 203 1 → o0 < (pv_t σ at0).1) : pl_v τ = pi_in (o0, e0, f) (pl_v σ) := by
  rw [pi_v h ha]
  refine pi_in_at _ _ _ (by rw [pl_v_len]; exact ha) (fun t p ht hp => ?_) (fun p hp => ?_)
  · rw [pl_v_at σ (by omega)] at hp
    rw [← Option.some.inj hp]
    exact h1 t ht
  · have h3 : at0 < σ 203 1 := by
      have := (List.getElem?_eq_some_iff.mp hp).1
      rwa [pl_v_len] at this
    rw [pl_v_at σ h3] at hp
    rw [← Option.some.inj hp]
    exact h2 h3
/-- one round of taking out -/
theorem tk_it {P : Nat} (hP : ag_pr P) {A C : Nat → Nat} (hA : sp_ok P A) (hC : sp_ok P C) (h0 : 0 < sp_sz C 31) (hA0 : 0 < sp_sz A 31) (hd : pz_I P (pe_f C) (pe_f A)) :
    (sp_ok P (sp_quo P A C) ∧ sp_sz (sp_quo P A C) 31 = sp_sz A 31 + 1 - sp_sz C 31 ∧ sp_sz C 31 ≤ sp_sz A 31 ∧ pz_I P (pe_f (sp_quo P A C)) (pe_f A)) ∧ (sp_ok P (sp_gcd P C (sp_quo P A C)) ∧ 0 < sp_sz (sp_gcd P C (sp_quo P A C)) 31 ∧ sp_sz (sp_gcd P C (sp_quo P A C)) 31 ≤ sp_sz C 31 ∧ pz_I P (pe_f (sp_gcd P C (sp_quo P A C))) (pe_f (sp_quo P A C)) ∧ pz_I P (pe_f (sp_gcd P C (sp_quo P A C))) (pe_f C)) ∧ sp_ok P (sp_quo P C (sp_gcd P C (sp_quo P A C))) ∧ sp_sz (sp_quo P C (sp_gcd P C (sp_quo P A C))) 31 = sp_sz C 31 + 1 - sp_sz (sp_gcd P C (sp_quo P A C)) 31 := by
  have h1 := sp_dvd_sz hP hC hA hA0 hd
  have h2 := (sp_dv_ok hP hA hC h0).2.1
  have h3 := sp_quo_sz hP hA hC h0 h1.2
  obtain ⟨g1, g2, g3, g4⟩ := sp_gcd_ok hP hC h2
  have h4 := sp_dvd_sz hP g1 hC h0 g2
  exact ⟨⟨h2, h3, h1.2, ⟨pe_f C, sp_quo_exact hP hA hC h0 hd⟩⟩, ⟨g1, h4.1, h4.2, g3, g2⟩, (sp_dv_ok hP hC g1 h4.1).2.1, sp_quo_sz hP hC g1 h4.1 h4.2⟩
def tk_f (P d : Nat) : Nat → Nat → (Nat → Nat) → (Nat → Nat) → List pv_T → (Nat → Nat) × List pv_T
  | 0, _, A, _, L => (A, L)
  | k + 1, e, A, C, L => if sp_sz C 31 ≤ 1 then (A, L) else tk_f P d k (e + 1) (sp_quo P A C) (sp_gcd P C (sp_quo P A C)) (if 1 < sp_sz (sp_quo P C (sp_gcd P C (sp_quo P A C))) 31 then pi_in (e, d, sp_quo P C (sp_gcd P C (sp_quo P A C))) L else L)
theorem tk_s (P d k e : Nat) (A C : Nat → Nat) (L : List pv_T) : tk_f P d (k + 1) e A C L = if sp_sz C 31 ≤ 1 then (A, L) else tk_f P d k (e + 1) (sp_quo P A C) (sp_gcd P C (sp_quo P A C)) (if 1 < sp_sz (sp_quo P C (sp_gcd P C (sp_quo P A C))) 31 then pi_in (e, d, sp_quo P C (sp_gcd P C (sp_quo P A C))) L else L) := rfl
theorem tk_ok {P : Nat} (hP : ag_pr P) {d : Nat} : ∀ (k e : Nat) (A C : Nat → Nat) (L : List pv_T), sp_ok P A → sp_ok P C → 0 < sp_sz C 31 → 0 < sp_sz A 31 → pz_I P (pe_f C) (pe_f A) →
    sp_ok P (tk_f P d k e A C L).1 ∧ 0 < sp_sz (tk_f P d k e A C L).1 31 ∧ sp_sz (tk_f P d k e A C L).1 31 ≤ sp_sz A 31 ∧ pz_I P (pe_f (tk_f P d k e A C L).1) (pe_f A) := by
  intro k
  induction k with
  | zero =>
    intro e A C L hA _ _ hA0 _
    exact ⟨hA, hA0, Nat.le_refl _, @ag_If_f pz_T pz_R (pz_E P) (pz_E_ok P) _⟩
  | succ k ih =>
    intro e A C L hA hC h0 hA0 hd
    rw [tk_s]
    by_cases h1 : sp_sz C 31 ≤ 1
    · rw [if_pos h1]
      exact ⟨hA, hA0, Nat.le_refl _, @ag_If_f pz_T pz_R (pz_E P) (pz_E_ok P) _⟩
    · rw [if_neg h1]
      obtain ⟨⟨a1, a2, a3, a4⟩, ⟨b1, b2, b3, b4, b5⟩, -⟩ := tk_it hP hA hC h0 hA0 hd
      obtain ⟨c1, c2, c3, c4⟩ := ih (e + 1) _ _ (if 1 < sp_sz (sp_quo P C (sp_gcd P C (sp_quo P A C))) 31 then pi_in (e, d, sp_quo P C (sp_gcd P C (sp_quo P A C))) L else L) a1 b1 b2 (by omega) b4
      exact ⟨c1, c2, by omega, @ag_If_tr pz_T pz_R (pz_E P) (pz_E_ok P) _ _ _ c4 a4⟩
theorem tk_free {P : Nat} (hP : ag_pr P) {d : Nat} : ∀ (k e : Nat) (A C : Nat → Nat) (L : List pv_T), sp_ok P A → sp_ok P C → 0 < sp_sz C 31 → 0 < sp_sz A 31 → pz_I P (pe_f C) (pe_f A) → sp_sz A 31 ≤ k + 1 → dd_J P d A C → dd_free P d (tk_f P d k e A C L).1 := by
  intro k
  induction k with
  | zero =>
    intro e A C L hA hC h0 hA0 hd hk hJ
    have h1 := sp_dvd_sz hP hC hA hA0 hd
    exact dd_end hP hC (by omega) hJ
  | succ k ih =>
    intro e A C L hA hC h0 hA0 hd hk hJ
    rw [tk_s]
    by_cases h1 : sp_sz C 31 ≤ 1
    · rw [if_pos h1]
      exact dd_end hP hC (by omega) hJ
    · rw [if_neg h1]
      obtain ⟨⟨a1, a2, a3, a4⟩, ⟨b1, b2, b3, b4, b5⟩, -⟩ := tk_it hP hA hC h0 hA0 hd
      exact ih (e + 1) _ _ _ a1 b1 b2 (by omega) b4 (by omega) (dd_step hP hA hC h0 hd hJ)
/-- the common divisor of A and x^(P^d) - x -/
noncomputable def dd_C (P d : Nat) (A : Nat → Nat) : Nat → Nat := sp_gcd P (Classical.epsilon (fun F : Nat → Nat => sp_ok P F ∧ @ag_q pz_T pz_R (pz_I P (pe_f A)) (pe_f F) (dd_z P d))) A
theorem dd_C_eq {P : Nat} (hP : ag_pr P) {d : Nat} {A F : Nat → Nat} (hA : sp_ok P A) (h0 : 0 < sp_sz A 31) (hF : sp_ok P F) (hz : @ag_q pz_T pz_R (pz_I P (pe_f A)) (pe_f F) (dd_z P d)) : sp_gcd P F A = dd_C P d A := by
  have h1 : sp_ok P (Classical.epsilon (fun F : Nat → Nat => sp_ok P F ∧ @ag_q pz_T pz_R (pz_I P (pe_f A)) (pe_f F) (dd_z P d))) ∧ @ag_q pz_T pz_R (pz_I P (pe_f A)) (pe_f (Classical.epsilon (fun F : Nat → Nat => sp_ok P F ∧ @ag_q pz_T pz_R (pz_I P (pe_f A)) (pe_f F) (dd_z P d)))) (dd_z P d) := Classical.epsilon_spec (p := fun F : Nat → Nat => sp_ok P F ∧ @ag_q pz_T pz_R (pz_I P (pe_f A)) (pe_f F) (dd_z P d)) ⟨F, hF, hz⟩
  exact sp_gcd_cg hP hF h1.1 hA h0 (@ag_tr pz_T pz_R _ (pz_I_ok P _) _ _ _ hz (@ag_sy pz_T pz_R _ (pz_I_ok P _) _ _ h1.2))
noncomputable def mk_f (P : Nat) : Nat → Nat → (Nat → Nat) → List pv_T → (Nat → Nat) × List pv_T
  | 0, _, A, L => (A, L)
  | k + 1, d, A, L => if 2 * d < sp_sz A 31 then mk_f P k (d + 1) (tk_f P d 15 1 A (dd_C P d A) L).1 (tk_f P d 15 1 A (dd_C P d A) L).2 else (A, L)
