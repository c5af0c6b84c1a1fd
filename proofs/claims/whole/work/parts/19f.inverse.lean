/-! The inverse by Euclid's steps: what holds at each step -/
theorem ag_xe {β : Type} [Lean.Grind.CommRing β] {I : β → Prop} (hI : ag_I I) {h l q r hf lf hf2 cc a : β} (h1 : ag_q I h (hf * a)) (h2 : ag_q I l (lf * a)) (h3 : ag_q I h (q * l + r)) (h4 : ag_q I hf2 (hf + cc * (q * lf))) (hc : ag_q I (cc + 1) 0) : ag_q I r (hf2 * a) := by
  have e1 : ag_q I r (hf * a - q * (lf * a)) := by
    have e2 := ag_sb hI (ag_tr hI (ag_sy hI h3) h1) (ag_ml hI (ag_rf hI q) h2)
    rwa [show q * l + r - q * l = r by grind] at e2
  have e3 : ag_q I (hf2 * a) ((hf + cc * (q * lf)) * a) := ag_ml hI h4 (ag_rf hI a)
  have e4 : ag_q I ((hf + cc * (q * lf)) * a) (hf * a - q * (lf * a)) := by
    have e5 := ag_ml hI hc (ag_rf hI (q * lf * a))
    have e6 : I ((cc + 1) * (q * lf * a) - 0 * (q * lf * a)) := e5
    show I ((hf + cc * (q * lf)) * a - (hf * a - q * (lf * a)))
    rwa [show (hf + cc * (q * lf)) * a - (hf * a - q * (lf * a)) = (cc + 1) * (q * lf * a) - 0 * (q * lf * a) by grind]
  exact ag_tr hI e1 (ag_sy hI (ag_tr hI e3 e4))
def xe_ok (P : Nat) (f : Nat → Nat) (a : pz_T) (h l hf lf : Nat → Nat) : Prop :=
  (sp_ok P h ∧ sp_ok P l ∧ sp_ok P hf ∧ sp_ok P lf) ∧ (sp_sz l 31 < sp_sz h 31 ∧ sp_sz h 31 ≤ sp_sz f 31 ∧ sp_sz lf 31 + sp_sz h 31 ≤ sp_sz f 31 + 1 ∧ sp_sz hf 31 + sp_sz h 31 ≤ sp_sz f 31 + 1 ∧ 0 < sp_sz l 31) ∧
  @ag_q pz_T pz_R (pz_I P (pe_f f)) (pe_f h) (pz_ml (pe_f hf) a) ∧ @ag_q pz_T pz_R (pz_I P (pe_f f)) (pe_f l) (pz_ml (pe_f lf) a) ∧ ∀ d : pz_T, pz_I P d (pe_f h) → pz_I P d (pe_f l) → pz_I P d (pe_f f)
theorem xe_m1 {P : Nat} (hP : 2 ≤ P) (f : pz_T) : @ag_q pz_T pz_R (pz_I P f) (pz_ad (pz_ct ((P - 1 : Nat) : Int)) (pz_ct 1)) (pz_ct 0) := @ag_If_q pz_T pz_R (pz_E P) f _ _ (fun i => by
  show (P : Int) ∣ ((if i = 0 then ((P - 1 : Nat) : Int) else 0) + if i = 0 then 1 else 0) + -(if i = 0 then 0 else 0)
  by_cases hi : i = 0
  · rw [if_pos hi, if_pos hi, if_pos hi, Int.natCast_sub (by omega)]
    rw [show ((P : Int) - ((1 : Nat) : Int) + 1) + -0 = (P : Int) by omega]
    exact Int.dvd_refl _
  · rw [if_neg hi, if_neg hi, if_neg hi]
    exact Int.dvd_zero _)
theorem xe_step {P : Nat} (hP : ag_pr P) {f : Nat → Nat} {a : pz_T} {h l hf lf : Nat → Nat} (hfo : sp_ok P f) (hir : pz_ir P (sp_sz f 31 - 1) (pe_f f)) (hsf : sp_sz f 31 ≤ 16) (X : xe_ok P f a h l hf lf) (h1 : 1 < sp_sz l 31) (hlt : sp_sz l 31 < sp_sz f 31) :
    sp_sz (sp_quo P h l) 31 + sp_sz lf 31 ≤ 32 ∧ xe_ok P f a l (sp_rest P h l) lf (sp_add P hf (sp_mul P (sp_quo P h l) lf) (P - 1)) := by
  have hp0 : 0 < P := by have := hP.1; omega
  have hI := pz_I_ok P (pe_f f)
  obtain ⟨⟨oh, ol, ohf, olf⟩, ⟨s1, s2, s3, s4, s5⟩, e1, e2, hd⟩ := X
  obtain ⟨r1, r2, r3, -, r5⟩ := sp_dv_ok hP oh ol s5
  have hq := sp_quo_sz hP oh ol s5 (by omega)
  have hlf := sp_sz_le lf 31
  have hs : sp_sz (sp_quo P h l) 31 + sp_sz lf 31 ≤ 32 := by omega
  have om := sp_mul_ok hp0 r2 olf hs
  refine ⟨hs, ⟨ol, r1, olf, sp_add_ok hp0 ohf om _⟩, ⟨r3, by omega, ?_, by omega, ?_⟩, e2, ?_, ?_⟩
  · have h2 : sp_sz (sp_add P hf (sp_mul P (sp_quo P h l) lf) (P - 1)) 31 ≤ sp_sz f 31 + 1 - sp_sz l 31 := sp_sz_add (fun i hi => sp_hi ohf (by omega)) (fun i hi => by
      show sp_cv (sp_quo P h l) lf i % P = 0
      rw [sp_cv_hi r2 olf (by omega), Nat.zero_mod])
    omega
  · refine Nat.pos_of_ne_zero (fun hz => ?_)
    have hlh : pz_I P (pe_f l) (pe_f h) := by
      have hIl := pz_I_ok P (pe_f l)
      refine @ag_cg pz_T pz_R (pz_I P (pe_f l)) hIl _ _ (@ag_If_q pz_T pz_R (pz_E P) (pe_f l) _ _ r5) (hIl.2.1 _ _ (hIl.2.2 _ _ (@ag_If_f pz_T pz_R (pz_E P) (pz_E_ok P) _)) (@ag_If_E pz_T pz_R (pz_E P) (pe_f l) _ (fun i => ?_)))
      rw [pe_at r1, sp_sz_0 r1 hz]
      exact Int.dvd_zero _
    obtain ⟨k, hk⟩ := hd (pe_f l) hlh (@ag_If_f pz_T pz_R (pz_E P) (pz_E_ok P) _)
    rcases hir.2.2 _ k hk with hc | hc
    · have h3 := pz_dg_uni hc (pe_dg ol s5)
      omega
    · have h3 := pz_dg_uni (pe_dg hfo (by omega)) (pz_dg_q hk (pz_dg_mul hP (pe_dg ol s5) hc))
      omega
  · refine @ag_xe pz_T pz_R (pz_I P (pe_f f)) hI (pe_f h) (pe_f l) (pe_f (sp_quo P h l)) (pe_f (sp_rest P h l)) (pe_f hf) (pe_f lf) _ (pz_ct ((P - 1 : Nat) : Int)) a e1 e2 (@ag_If_q pz_T pz_R (pz_E P) (pe_f f) _ _ r5) ?_ (xe_m1 hP.1 (pe_f f))
    refine @ag_tr pz_T pz_R (pz_I P (pe_f f)) hI _ _ _ (@ag_If_q pz_T pz_R (pz_E P) (pe_f f) _ _ (sp_add_pe hp0 ohf om (P - 1))) ?_
    exact @ag_ad pz_T pz_R (pz_I P (pe_f f)) hI _ _ _ _ (@ag_rf pz_T pz_R (pz_I P (pe_f f)) hI _) (@ag_ml pz_T pz_R (pz_I P (pe_f f)) hI _ _ _ _ (@ag_rf pz_T pz_R (pz_I P (pe_f f)) hI _) (@ag_If_q pz_T pz_R (pz_E P) (pe_f f) _ _ (sp_mul_pe hp0 r2 olf hs)))
  · intro d hdl hdr
    have hId := pz_I_ok P d
    refine hd d ?_ hdl
    exact @ag_cg pz_T pz_R (pz_I P d) hId _ _ (@ag_If_q pz_T pz_R (pz_E P) d _ _ r5) (hId.2.1 _ _ (hId.2.2 _ _ hdl) hdr)
/-- the end: a number times the inverse -/
theorem xe_end {P : Nat} (hP : ag_pr P) {f : Nat → Nat} {a : pz_T} {h l hf lf : Nat → Nat} (X : xe_ok P f a h l hf lf) (h1 : sp_sz l 31 = 1) :
    sp_ok P (sp_sc P lf (sp_inv P (l 0))) ∧ sp_sz (sp_sc P lf (sp_inv P (l 0))) 31 < sp_sz f 31 ∧ @ag_q pz_T pz_R (pz_I P (pe_f f)) (pz_ml (pe_f (sp_sc P lf (sp_inv P (l 0)))) a) (pz_ct 1) := by
  have hp0 : 0 < P := by have := hP.1; omega
  have hI := pz_I_ok P (pe_f f)
  obtain ⟨⟨oh, ol, ohf, olf⟩, ⟨s1, s2, s3, s4, s5⟩, e1, e2, hd⟩ := X
  refine ⟨sp_sc_ok hp0 olf _, ?_, ?_⟩
  · have h2 : sp_sz (sp_sc P lf (sp_inv P (l 0))) 31 ≤ sp_sz lf 31 := sp_sz_lt (fun i hi => by
      show lf i * _ % P = 0
      rw [sp_hi olf hi, Nat.zero_mul, Nat.zero_mod])
    omega
  · have hl0 : l 0 ≠ 0 ∧ l 0 < P := by
      have h3 := sp_lead_ne ol s5
      rw [h1] at h3
      exact h3
    have e3 : @ag_q pz_T pz_R (pz_I P (pe_f f)) (pz_ml (pe_f (sp_sc P lf (sp_inv P (l 0)))) a) (pz_ml (pz_ct (sp_inv P (l 0) : Int)) (pz_ml (pe_f lf) a)) := by
      have e4 := @ag_ml pz_T pz_R (pz_I P (pe_f f)) hI _ _ _ _ (@ag_If_q pz_T pz_R (pz_E P) (pe_f f) _ _ (sp_sc_pe hp0 olf (sp_inv P (l 0)))) (@ag_rf pz_T pz_R (pz_I P (pe_f f)) hI a)
      have e5 : pz_ml (pz_ml (pz_ct (sp_inv P (l 0) : Int)) (pe_f lf)) a = pz_ml (pz_ct (sp_inv P (l 0) : Int)) (pz_ml (pe_f lf) a) := pz_R.mul_assoc _ _ _
      rw [← e5]
      exact e4
    refine @ag_tr pz_T pz_R (pz_I P (pe_f f)) hI _ _ _ e3 (@ag_tr pz_T pz_R (pz_I P (pe_f f)) hI _ _ _ (@ag_ml pz_T pz_R (pz_I P (pe_f f)) hI _ _ _ _ (@ag_rf pz_T pz_R (pz_I P (pe_f f)) hI _) (@ag_sy pz_T pz_R (pz_I P (pe_f f)) hI _ _ e2)) ?_)
    refine @ag_If_q pz_T pz_R (pz_E P) (pe_f f) _ _ (fun i => ?_)
    show (P : Int) ∣ pz_mul (pz_mo 0 (sp_inv P (l 0) : Int)).1 (pe_f l).1 i + -(if i = 0 then 1 else 0)
    rw [pz_mul_ct, pe_at ol]
    by_cases hi : i = 0
    · rw [if_pos hi, hi]
      have h3 := pz_modE P (l 0 * sp_inv P (l 0))
      have h4 := pz_modE P 1
      rw [sp_inv_ok hP hl0.1 hl0.2] at h3
      have h5 := Int.dvd_sub h4 h3
      rw [Int.natCast_mul, Int.mul_comm (l 0 : Int)] at h5
      rwa [show ((1 % P : Nat) : Int) - ((1 : Nat) : Int) - (((1 % P : Nat) : Int) - (sp_inv P (l 0) : Int) * (l 0 : Int)) = (sp_inv P (l 0) : Int) * (l 0 : Int) + -1 by omega] at h5
    · rw [if_neg hi, sp_hi ol (show sp_sz l 31 ≤ i by omega)]
      rw [show (sp_inv P (l 0) : Int) * ((0 : Nat) : Int) + -0 = 0 by simp]
      exact Int.dvd_zero _
