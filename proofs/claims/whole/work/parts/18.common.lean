/-! Monic polynomials, products modulo a polynomial, common divisors -/
theorem sp_lead_ne {P : Nat} {f : Nat → Nat} (h : sp_ok P f) (hs : 0 < sp_sz f 31) : f (sp_sz f 31 - 1) ≠ 0 ∧ f (sp_sz f 31 - 1) < P := ⟨sp_sz_top hs, (h _).1⟩
def sp_mon (P : Nat) (f : Nat → Nat) : Nat → Nat := if sp_sz f 31 = 0 then f else sp_sc P f (sp_inv P (f (sp_sz f 31 - 1)))
theorem sp_mon_ok {P : Nat} (hP : ag_pr P) {f : Nat → Nat} (h : sp_ok P f) : sp_ok P (sp_mon P f) := by
  unfold sp_mon
  split
  · exact h
  · exact sp_sc_ok (by have := hP.1; omega) h _
theorem sp_mon_top {P : Nat} (hP : ag_pr P) {f : Nat → Nat} (h : sp_ok P f) (hs : 0 < sp_sz f 31) : sp_mon P f (sp_sz f 31 - 1) = 1 := by
  have h2 := hP.1
  unfold sp_mon
  rw [if_neg (by omega)]
  show f (sp_sz f 31 - 1) * sp_inv P (f (sp_sz f 31 - 1)) % P = 1
  rw [sp_inv_ok hP (sp_lead_ne h hs).1 (sp_lead_ne h hs).2, Nat.mod_eq_of_lt (by omega)]
theorem sp_mon_sz {P : Nat} (hP : ag_pr P) {f : Nat → Nat} (h : sp_ok P f) : sp_sz (sp_mon P f) 31 = sp_sz f 31 := by
  by_cases hs : sp_sz f 31 = 0
  · unfold sp_mon
    rw [if_pos hs]
  · refine sp_sz_of (sp_mon_ok hP h) (fun i hi => ?_) (Or.inr ?_)
    · unfold sp_mon
      rw [if_neg hs]
      show f i * _ % P = 0
      rw [sp_hi h hi, Nat.zero_mul, Nat.zero_mod]
    · rw [sp_mon_top hP h (by omega)]
      omega
/-- what is monic already stays -/
theorem sp_mon_id {P : Nat} (hP : ag_pr P) {f : Nat → Nat} (h : sp_ok P f) (h1 : f (sp_sz f 31 - 1) = 1) : sp_mon P f = f := by
  have h2 := hP.1
  unfold sp_mon
  split
  · rfl
  · refine funext (fun i => ?_)
    show f i * sp_inv P (f (sp_sz f 31 - 1)) % P = f i
    unfold sp_inv
    rw [h1, Nat.one_pow, Nat.mod_eq_of_lt (by omega : 1 < P), Nat.mul_one, Nat.mod_eq_of_lt (h i).1]
/-- the multiples of f and of its monic form are the same -/
theorem sp_mon_I {P : Nat} (hP : ag_pr P) {f : Nat → Nat} (h : sp_ok P f) (a : pz_T) : pz_I P (pe_f (sp_mon P f)) a ↔ pz_I P (pe_f f) a := by
  have hE := pz_E_ok P
  by_cases hs : sp_sz f 31 = 0
  · unfold sp_mon
    rw [if_pos hs]
  · have hp0 : 0 < P := by have := hP.1; omega
    have e : sp_mon P f = sp_sc P f (sp_inv P (f (sp_sz f 31 - 1))) := by
      unfold sp_mon
      rw [if_neg hs]
    have h1 := sp_sc_pe hp0 h (sp_inv P (f (sp_sz f 31 - 1)))
    rw [← e] at h1
    have hw : @ag_q pz_T pz_R (pz_E P) (pz_ml (pz_ct (f (sp_sz f 31 - 1) : Int)) (pz_ct (sp_inv P (f (sp_sz f 31 - 1)) : Int))) (pz_ct 1) := fun i => by
      show (P : Int) ∣ pz_mul (pz_mo 0 (f (sp_sz f 31 - 1) : Int)).1 (pz_mo 0 (sp_inv P (f (sp_sz f 31 - 1)) : Int)).1 i + -(if i = 0 then 1 else 0)
      rw [pz_mul_ct]
      show (P : Int) ∣ (f (sp_sz f 31 - 1) : Int) * (if i = 0 then (sp_inv P (f (sp_sz f 31 - 1)) : Int) else 0) + -(if i = 0 then 1 else 0)
      by_cases hi : i = 0
      · rw [if_pos hi, if_pos hi]
        have h3 := pz_modE P (f (sp_sz f 31 - 1) * sp_inv P (f (sp_sz f 31 - 1)))
        have h4 := pz_modE P 1
        rw [sp_inv_ok hP (sp_lead_ne h (by omega)).1 (sp_lead_ne h (by omega)).2] at h3
        have h5 := Int.dvd_sub h4 h3
        rw [Int.natCast_mul] at h5
        rwa [show ((1 % P : Nat) : Int) - ((1 : Nat) : Int) - (((1 % P : Nat) : Int) - (f (sp_sz f 31 - 1) : Int) * (sp_inv P (f (sp_sz f 31 - 1)) : Int)) = (f (sp_sz f 31 - 1) : Int) * (sp_inv P (f (sp_sz f 31 - 1)) : Int) + -1 by omega] at h5
      · rw [if_neg hi, if_neg hi, Int.mul_zero]
        exact Int.dvd_zero _
    constructor
    · intro ha
      exact @ag_If_tr pz_T pz_R (pz_E P) hE (pe_f (sp_mon P f)) (pe_f f) a ⟨pz_ct (sp_inv P (f (sp_sz f 31 - 1)) : Int), by
        have e2 : pz_ml (pe_f f) (pz_ct (sp_inv P (f (sp_sz f 31 - 1)) : Int)) = pz_ml (pz_ct (sp_inv P (f (sp_sz f 31 - 1)) : Int)) (pe_f f) := pz_R.mul_comm _ _
        show @ag_q pz_T pz_R (pz_E P) _ (pz_ml (pe_f f) (pz_ct (sp_inv P (f (sp_sz f 31 - 1)) : Int)))
        rw [e2]
        exact h1⟩ ha
    · intro ha
      refine @ag_If_tr pz_T pz_R (pz_E P) hE (pe_f f) (pe_f (sp_mon P f)) a ⟨pz_ct (f (sp_sz f 31 - 1) : Int), ?_⟩ ha
      have h3 := @ag_ml pz_T pz_R (pz_E P) hE _ _ _ _ h1 (@ag_rf pz_T pz_R (pz_E P) hE (pz_ct (f (sp_sz f 31 - 1) : Int)))
      have h4 := @ag_ml pz_T pz_R (pz_E P) hE _ _ _ _ hw (@ag_rf pz_T pz_R (pz_E P) hE (pe_f f))
      have e3 : pz_ml (pz_ml (pz_ct (f (sp_sz f 31 - 1) : Int)) (pz_ct (sp_inv P (f (sp_sz f 31 - 1)) : Int))) (pe_f f) = pz_ml (pz_ml (pz_ct (sp_inv P (f (sp_sz f 31 - 1)) : Int)) (pe_f f)) (pz_ct (f (sp_sz f 31 - 1) : Int)) := by
        rw [show pz_ml (pz_ml (pz_ct (f (sp_sz f 31 - 1) : Int)) (pz_ct (sp_inv P (f (sp_sz f 31 - 1)) : Int))) (pe_f f) = pz_ml (pz_ct (f (sp_sz f 31 - 1) : Int)) (pz_ml (pz_ct (sp_inv P (f (sp_sz f 31 - 1)) : Int)) (pe_f f)) from pz_R.mul_assoc _ _ _]
        exact pz_R.mul_comm _ _
      have e4 : pz_ml (pz_ct 1) (pe_f f) = pe_f f := pz_R.one_mul _
      have h5 : @ag_q pz_T pz_R (pz_E P) (pz_ml (pz_ml (pz_ct (f (sp_sz f 31 - 1) : Int)) (pz_ct (sp_inv P (f (sp_sz f 31 - 1)) : Int))) (pe_f f)) (pz_ml (pz_ct 1) (pe_f f)) := h4
      rw [e3, e4] at h5
      exact @ag_sy pz_T pz_R (pz_E P) hE _ _ (@ag_tr pz_T pz_R (pz_E P) hE _ _ _ h3 h5)
theorem sp_mon_is {P : Nat} (hP : ag_pr P) {m r : Nat → Nat} (hm : sp_ok P m) {z : pz_T} : sp_is P (sp_mon P m) r z ↔ sp_is P m r z := by
  unfold sp_is
  rw [sp_mon_sz hP hm]
  show _ ∧ _ ∧ pz_I P (pe_f (sp_mon P m)) _ ↔ _ ∧ _ ∧ pz_I P (pe_f m) _
  rw [sp_mon_I hP hm]
/-- the rest of a product -/
theorem sp_mr {P : Nat} (hP : ag_pr P) {a b m : Nat → Nat} (ha : sp_ok P a) (hb : sp_ok P b) (hm : sp_ok P m) (hs : sp_sz a 31 + sp_sz b 31 ≤ 32) (h0 : 0 < sp_sz m 31) {x y : pz_T} (hx : @ag_q pz_T pz_R (pz_I P (pe_f m)) (pe_f a) x) (hy : @ag_q pz_T pz_R (pz_I P (pe_f m)) (pe_f b) y) : sp_is P m (sp_rest P (sp_mul P a b) m) (pz_ml x y) := by
  have hp0 : 0 < P := by have := hP.1; omega
  have hI := pz_I_ok P (pe_f m)
  refine sp_is_q (sp_rest_is hP (sp_mul_ok hp0 ha hb hs) hm h0) ?_
  exact @ag_tr pz_T pz_R (pz_I P (pe_f m)) hI _ _ _ (@ag_If_q pz_T pz_R (pz_E P) (pe_f m) _ _ (sp_mul_pe hp0 ha hb hs)) (@ag_ml pz_T pz_R (pz_I P (pe_f m)) hI _ _ _ _ hx hy)
/-- common divisors -/
def sp_gl (P : Nat) : Nat → (Nat → Nat) → (Nat → Nat) → Nat → Nat
  | 0, F, _ => F
  | k + 1, F, E => if sp_sz E 31 = 0 then F else sp_gl P k E (sp_rest P F E)
theorem sp_gl_ok {P : Nat} (hP : ag_pr P) : ∀ (k : Nat) (F E : Nat → Nat), sp_ok P F → sp_ok P E → sp_sz E 31 ≤ k →
    sp_ok P (sp_gl P k F E) ∧ pz_I P (pe_f (sp_gl P k F E)) (pe_f F) ∧ pz_I P (pe_f (sp_gl P k F E)) (pe_f E) ∧ (∀ d : pz_T, pz_I P d (pe_f F) → pz_I P d (pe_f E) → pz_I P d (pe_f (sp_gl P k F E))) ∧ (0 < sp_sz F 31 ∨ 0 < sp_sz E 31 → 0 < sp_sz (sp_gl P k F E) 31) := by
  have hE := pz_E_ok P
  have hp0 : 0 < P := by have := hP.1; omega
  intro k
  have base : ∀ F E : Nat → Nat, sp_ok P F → sp_ok P E → sp_sz E 31 = 0 → sp_ok P F ∧ pz_I P (pe_f F) (pe_f F) ∧ pz_I P (pe_f F) (pe_f E) ∧ (∀ d : pz_T, pz_I P d (pe_f F) → pz_I P d (pe_f E) → pz_I P d (pe_f F)) ∧ (0 < sp_sz F 31 ∨ 0 < sp_sz E 31 → 0 < sp_sz F 31) := by
    intro F E hF hEo hz
    refine ⟨hF, @ag_If_f pz_T pz_R (pz_E P) hE _, @ag_If_E pz_T pz_R (pz_E P) _ _ (fun i => ?_), fun d h _ => h, fun h => by omega⟩
    rw [pe_at hEo, sp_sz_0 hEo hz]
    exact Int.dvd_zero _
  induction k with
  | zero =>
    intro F E hF hEo hk
    exact base F E hF hEo (by omega)
  | succ k ih =>
    intro F E hF hEo hk
    unfold sp_gl
    by_cases hz : sp_sz E 31 = 0
    · rw [if_pos hz]
      exact base F E hF hEo hz
    · rw [if_neg hz]
      obtain ⟨r1, r2, r3, -, r5⟩ := sp_dv_ok hP hF hEo (by omega)
      obtain ⟨g1, g2, g3, g4, g5⟩ := ih E (sp_rest P F E) hEo r1 (by omega)
      have hsplit : ∀ d : pz_T, pz_I P d (pe_f E) → (pz_I P d (pe_f F) ↔ pz_I P d (pe_f (sp_rest P F E))) := by
        intro d hd
        have hI := pz_I_ok P d
        have h1 : pz_I P d (pz_ml (pe_f (sp_quo P F E)) (pe_f E)) := hI.2.2 _ _ hd
        have h2 : @ag_q pz_T pz_R (pz_I P d) (pe_f F) (pz_ad (pz_ml (pe_f (sp_quo P F E)) (pe_f E)) (pe_f (sp_rest P F E))) := @ag_If_q pz_T pz_R (pz_E P) d _ _ r5
        constructor
        · intro hF'
          have h3 := @ag_cg pz_T pz_R (pz_I P d) hI _ _ (@ag_sy pz_T pz_R (pz_I P d) hI _ _ h2) hF'
          have h4 := @ag_sub pz_T pz_R (pz_I P d) hI _ _ h3 h1
          have e : pz_ad (pz_ad (pz_ml (pe_f (sp_quo P F E)) (pe_f E)) (pe_f (sp_rest P F E))) (pz_ng (pz_ml (pe_f (sp_quo P F E)) (pe_f E))) = pe_f (sp_rest P F E) := pz_ext (fun i => by
            show (pz_ml (pe_f (sp_quo P F E)) (pe_f E)).1 i + (pe_f (sp_rest P F E)).1 i + -(pz_ml (pe_f (sp_quo P F E)) (pe_f E)).1 i = (pe_f (sp_rest P F E)).1 i
            omega)
          have h5 : pz_I P d (pz_ad (pz_ad (pz_ml (pe_f (sp_quo P F E)) (pe_f E)) (pe_f (sp_rest P F E))) (pz_ng (pz_ml (pe_f (sp_quo P F E)) (pe_f E)))) := h4
          rwa [e] at h5
        · intro hr
          exact @ag_cg pz_T pz_R (pz_I P d) hI _ _ h2 (hI.2.1 _ _ h1 hr)
      refine ⟨g1, (hsplit _ g2).mpr g3, g2, fun d hF' hE' => g4 d hE' ((hsplit d hE').mp hF'), fun _ => g5 (Or.inl (by omega))⟩
def sp_gcd (P : Nat) (a b : Nat → Nat) : Nat → Nat := sp_mon P (sp_gl P 32 a b)
theorem sp_gcd_ok {P : Nat} (hP : ag_pr P) {a b : Nat → Nat} (ha : sp_ok P a) (hb : sp_ok P b) :
    sp_ok P (sp_gcd P a b) ∧ pz_I P (pe_f (sp_gcd P a b)) (pe_f a) ∧ pz_I P (pe_f (sp_gcd P a b)) (pe_f b) ∧ ∀ d : pz_T, pz_I P d (pe_f a) → pz_I P d (pe_f b) → pz_I P d (pe_f (sp_gcd P a b)) := by
  have hlb := sp_sz_le b 31
  obtain ⟨g1, g2, g3, g4, -⟩ := sp_gl_ok hP 32 a b ha hb (by omega)
  unfold sp_gcd
  refine ⟨sp_mon_ok hP g1, (sp_mon_I hP g1 _).mpr g2, (sp_mon_I hP g1 _).mpr g3, fun d h1 h2 => ?_⟩
  exact @ag_If_tr pz_T pz_R (pz_E P) (pz_E_ok P) (pe_f (sp_gl P 32 a b)) d _ (g4 d h1 h2) ((sp_mon_I hP g1 _).mp (@ag_If_f pz_T pz_R (pz_E P) (pz_E_ok P) _))
