/-! Taking out prime polynomials degree by degree -/
theorem sp_is_0 {P : Nat} (hP : ag_pr P) {m r : Nat → Nat} {z : pz_T} (hm : sp_ok P m) (h : sp_is P m r z) (hz : pz_I P (pe_f m) z) : r = fun _ => 0 := by
  have hp0 : 0 < P := by have := hP.1; omega
  have hI := pz_I_ok P (pe_f m)
  have hs := h.2.1
  refine sp_is_uni hP hm h ⟨sp_z_ok hp0, ?_, ?_⟩
  · have h1 : sp_sz (fun _ => 0) 31 ≤ 0 := sp_sz_lt (fun _ _ => rfl)
    omega
  · rw [pe_z]
    exact @ag_sy pz_T pz_R (pz_I P (pe_f m)) hI _ _ (@ag_to0 pz_T pz_R (pz_I P (pe_f m)) _ hz)
/-- common divisors with A see only the rest by A -/
theorem sp_gcd_cg {P : Nat} (hP : ag_pr P) {F F' A : Nat → Nat} (hF : sp_ok P F) (hF' : sp_ok P F') (hA : sp_ok P A) (h0 : 0 < sp_sz A 31) (h : @ag_q pz_T pz_R (pz_I P (pe_f A)) (pe_f F) (pe_f F')) : sp_gcd P F A = sp_gcd P F' A := by
  have e : sp_rest P F A = sp_rest P F' A := sp_is_uni hP hA (sp_is_q (sp_rest_is hP hF hA h0) h) (sp_rest_is hP hF' hA h0)
  have hu : ∀ G : Nat → Nat, sp_gl P 32 G A = sp_gl P 31 A (sp_rest P G A) := fun G => by
    show (if sp_sz A 31 = 0 then G else sp_gl P 31 A (sp_rest P G A)) = sp_gl P 31 A (sp_rest P G A)
    rw [if_neg (by omega)]
  unfold sp_gcd
  rw [hu, hu, e]
/-- exact division -/
theorem sp_quo_exact {P : Nat} (hP : ag_pr P) {a b : Nat → Nat} (ha : sp_ok P a) (hb : sp_ok P b) (hs : 0 < sp_sz b 31) (h : pz_I P (pe_f b) (pe_f a)) : @ag_q pz_T pz_R (pz_E P) (pe_f a) (pz_ml (pe_f (sp_quo P a b)) (pe_f b)) := by
  have hz := sp_is_0 hP hb (sp_rest_is hP ha hb hs) h
  have h5 := (sp_dv_ok hP ha hb hs).2.2.2.2
  rw [hz, pe_z] at h5
  have e : pz_ad (pz_ml (pe_f (sp_quo P a b)) (pe_f b)) (pz_ct 0) = pz_ml (pe_f (sp_quo P a b)) (pe_f b) := pz_R.add_zero _
  rwa [e] at h5
/-- a divisor's degree -/
theorem pz_dvd_dg {P : Nat} (hP : ag_pr P) {n : Nat} {g b : pz_T} (hb : pz_dg P n b) (h : pz_I P g b) : ∃ m, pz_dg P m g ∧ m ≤ n := by
  obtain ⟨q, hq⟩ := h
  have hq' : @ag_q pz_T pz_R (pz_E P) b (pz_ml g q) := hq
  have hbad : ¬ pz_E P (pz_ml g q) := fun hz => hb.2 (by
    have h1 : (P : Int) ∣ b.1 n + -(pz_ml g q).1 n := hq' n
    have h2 := Int.dvd_add h1 (hz n)
    rwa [show b.1 n + -(pz_ml g q).1 n + (pz_ml g q).1 n = b.1 n by omega] at h2)
  rcases pz_split P g with hg | ⟨m, hm⟩
  · exact absurd (fun i => pz_dvd_all q.1 i g.1 hg) hbad
  · rcases pz_split P q with hq2 | ⟨k, hk⟩
    · refine absurd (fun i => ?_) hbad
      show (P : Int) ∣ pz_mul g.1 q.1 i
      rw [pz_mul_comm]
      exact pz_dvd_all g.1 i q.1 hq2
    · have h3 := pz_dg_uni hb (pz_dg_q hq' (pz_dg_mul hP hm hk))
      exact ⟨m, hm, by omega⟩
theorem sp_dvd_sz {P : Nat} (hP : ag_pr P) {g b : Nat → Nat} (hg : sp_ok P g) (hb : sp_ok P b) (hs : 0 < sp_sz b 31) (h : pz_I P (pe_f g) (pe_f b)) : 0 < sp_sz g 31 ∧ sp_sz g 31 ≤ sp_sz b 31 := by
  obtain ⟨m, hm, hle⟩ := pz_dvd_dg hP (pe_dg hb hs) h
  have h0 : 0 < sp_sz g 31 := Nat.pos_of_ne_zero (fun hz => hm.2 (by
    rw [pe_at hg, sp_sz_0 hg hz]
    exact Int.dvd_zero _))
  have h1 := pz_dg_uni (pe_dg hg h0) hm
  omega
/-- x^(P^d) - x -/
def dd_z (P d : Nat) : pz_T := pz_ad (pz_pw pz_X (P ^ d)) (pz_ng pz_X)
theorem dd_in {P : Nat} (hP : ag_pr P) {F A : Nat → Nat} (hF : sp_ok P F) (hA : sp_ok P A) {z g : pz_T} (hz : @ag_q pz_T pz_R (pz_I P (pe_f A)) (pe_f F) z) (hgA : pz_I P g (pe_f A)) (hgz : pz_I P g z) : pz_I P g (pe_f (sp_gcd P F A)) := by
  have hI := pz_I_ok P g
  refine (sp_gcd_ok hP hF hA).2.2.2 g ?_ hgA
  have h1 : pz_I P g (pz_ad (pe_f F) (pz_ng z)) := @ag_If_tr pz_T pz_R (pz_E P) (pz_E_ok P) (pe_f A) g _ hgA hz
  exact @ag_cg pz_T pz_R (pz_I P g) hI (pe_f F) z h1 hgz
/-- one that can't be divided, of degree d, divides x^(P^d) - x -/
theorem dd_ir {P : Nat} (hP : ag_pr P) {d : Nat} {g : pz_T} (hg : pz_ir P d g) : pz_I P g (dd_z P d) := pz_frob hP hg pz_X
/-- those of degree at most d that divide A divide C -/
def dd_J (P d : Nat) (A C : Nat → Nat) : Prop := ∀ (n : Nat) (g : pz_T), pz_ir P n g → n ≤ d → pz_I P g (pe_f A) → pz_I P g (pe_f C)
/-- A has none of degree at most d -/
def dd_free (P d : Nat) (A : Nat → Nat) : Prop := ∀ (n : Nat) (g : pz_T), pz_ir P n g → n ≤ d → ¬ pz_I P g (pe_f A)
theorem dd_start {P : Nat} (hP : ag_pr P) {d : Nat} {F A : Nat → Nat} (hF : sp_ok P F) (hA : sp_ok P A) (hz : @ag_q pz_T pz_R (pz_I P (pe_f A)) (pe_f F) (dd_z P (d + 1))) (hfree : dd_free P d A) : dd_J P (d + 1) A (sp_gcd P F A) := by
  intro n g hg hn hgA
  by_cases h : n ≤ d
  · exact absurd hgA (hfree n g hg h)
  · have he : n = d + 1 := by omega
    subst he
    exact dd_in hP hF hA hz hgA (dd_ir hP hg)
theorem dd_step {P : Nat} (hP : ag_pr P) {d : Nat} {A C : Nat → Nat} (hA : sp_ok P A) (hC : sp_ok P C) (hs : 0 < sp_sz C 31) (hCA : pz_I P (pe_f C) (pe_f A)) (hJ : dd_J P d A C) : dd_J P d (sp_quo P A C) (sp_gcd P C (sp_quo P A C)) := by
  intro n g hg hn hgA
  have hq := (sp_dv_ok hP hA hC hs).2.1
  have h1 : pz_I P (pe_f (sp_quo P A C)) (pe_f A) := ⟨pe_f C, sp_quo_exact hP hA hC hs hCA⟩
  have h2 := hJ n g hg hn (@ag_If_tr pz_T pz_R (pz_E P) (pz_E_ok P) _ g _ hgA h1)
  exact (sp_gcd_ok hP hC hq).2.2.2 g h2 hgA
theorem dd_end {P : Nat} (hP : ag_pr P) {d : Nat} {A C : Nat → Nat} (hC : sp_ok P C) (hs : sp_sz C 31 = 1) (hJ : dd_J P d A C) : dd_free P d A := by
  intro n g hg hn hgA
  obtain ⟨m, hm, hle⟩ := pz_dvd_dg hP (pe_dg hC (by omega)) (hJ n g hg hn hgA)
  have h1 := pz_dg_uni hm hg.1
  have h2 := hg.2.1
  omega
/-- what is left, of less than twice the degree, can't be divided -/
theorem dd_last {P : Nat} (hP : ag_pr P) {d : Nat} {A : Nat → Nat} (hA : sp_ok P A) (h1 : 1 < sp_sz A 31) (hfree : dd_free P d A) (hd : sp_sz A 31 ≤ 2 * d + 2) : pz_ir P (sp_sz A 31 - 1) (pe_f A) := by
  obtain ⟨m, g, hg, hm, hgA, h | h⟩ := pz_ir_ex hP (sp_sz A 31 - 1) (by omega) (pe_f A) (pe_dg hA (by omega))
  · exact h
  · exact absurd hgA (hfree m g hg (by omega))
/-- and has no common divisor with the lower ones -/
theorem dd_none {P : Nat} (hP : ag_pr P) {d : Nat} {F A : Nat → Nat} (hF : sp_ok P F) (hA : sp_ok P A) (hz : @ag_q pz_T pz_R (pz_I P (pe_f A)) (pe_f F) (dd_z P d)) (hir : pz_ir P (sp_sz A 31 - 1) (pe_f A)) (hd1 : 1 ≤ d) (hd : d < sp_sz A 31 - 1) : sp_sz (sp_gcd P F A) 31 = 1 := by
  obtain ⟨g1, g2, g3, g4⟩ := sp_gcd_ok hP hF hA
  have hs : 0 < sp_sz A 31 := by omega
  have hsz := sp_dvd_sz hP g1 hA hs g3
  obtain ⟨q, hq⟩ := g3
  rcases hir.2.2 _ q hq with h | h
  · have h2 := pz_dg_uni h (pe_dg g1 hsz.1)
    omega
  · exfalso
    obtain ⟨w, hw⟩ := pz_un hP h
    have hdiv : pz_I P (pe_f A) (pe_f (sp_gcd P F A)) := by
      refine ⟨w, ?_⟩
      have hE := pz_E_ok P
      have e1 := @ag_ml pz_T pz_R (pz_E P) hE _ _ _ _ hq (@ag_rf pz_T pz_R (pz_E P) hE w)
      have e2 := @ag_ml pz_T pz_R (pz_E P) hE _ _ _ _ (@ag_rf pz_T pz_R (pz_E P) hE (pe_f (sp_gcd P F A))) hw
      have e3 : pz_ml (pz_ml (pe_f (sp_gcd P F A)) q) w = pz_ml (pe_f (sp_gcd P F A)) (pz_ml q w) := pz_R.mul_assoc _ _ _
      have e4 : pz_ml (pe_f (sp_gcd P F A)) (pz_ct 1) = pe_f (sp_gcd P F A) := pz_R.mul_one _
      have e1' : @ag_q pz_T pz_R (pz_E P) (pz_ml (pe_f A) w) (pz_ml (pz_ml (pe_f (sp_gcd P F A)) q) w) := e1
      have e2' : @ag_q pz_T pz_R (pz_E P) (pz_ml (pe_f (sp_gcd P F A)) (pz_ml q w)) (pz_ml (pe_f (sp_gcd P F A)) (pz_ct 1)) := e2
      rw [e3] at e1'
      rw [e4] at e2'
      exact @ag_sy pz_T pz_R (pz_E P) hE _ _ (@ag_tr pz_T pz_R (pz_E P) hE _ _ _ e1' e2')
    have hAF : pz_I P (pe_f A) (pe_f F) := @ag_If_tr pz_T pz_R (pz_E P) (pz_E_ok P) _ (pe_f A) _ hdiv g2
    have hAz : pz_I P (pe_f A) (dd_z P d) := @ag_cg pz_T pz_R (pz_I P (pe_f A)) (pz_I_ok P (pe_f A)) _ _ (@ag_sy pz_T pz_R (pz_I P (pe_f A)) (pz_I_ok P (pe_f A)) _ _ hz) hAF
    exact pz_no hP hir hd1 hd hAz
/-- the test: no common divisor up to half the degree -/
theorem dd_test {P : Nat} (hP : ag_pr P) {A : Nat → Nat} {F : Nat → Nat → Nat} (hA : sp_ok P A) (h1 : 1 < sp_sz A 31) (hF : ∀ d, sp_ok P (F d)) (hz : ∀ d, @ag_q pz_T pz_R (pz_I P (pe_f A)) (pe_f (F d)) (dd_z P d)) (h : ∀ d, 1 ≤ d → 2 * d < sp_sz A 31 → sp_sz (sp_gcd P (F d) A) 31 ≤ 1) : pz_ir P (sp_sz A 31 - 1) (pe_f A) := by
  obtain ⟨m, g, hg, hm, hgA, hor | hor⟩ := pz_ir_ex hP (sp_sz A 31 - 1) (by omega) (pe_f A) (pe_dg hA (by omega))
  · exact hor
  · exfalso
    have hm1 := hg.2.1
    have h2 := dd_in hP (hF m) hA (hz m) hgA (dd_ir hP hg)
    obtain ⟨g1, g2, g3, g4⟩ := sp_gcd_ok hP (hF m) hA
    have h3 := sp_dvd_sz hP g1 hA (by omega) g3
    obtain ⟨k, hk, hle⟩ := pz_dvd_dg hP (pe_dg g1 h3.1) h2
    have h4 := pz_dg_uni hk hg.1
    have h5 := h m hm1 (by omega)
    omega
