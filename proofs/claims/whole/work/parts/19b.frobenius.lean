/-! The table of x^(P i) and sums over it: P-th powers modulo m -/
theorem pz_IP (P : Nat) (f : pz_T) : pz_I P f (@ag_nc pz_T pz_R P) := @ag_If_E pz_T pz_R (pz_E P) f _ (fun i => by
  rw [pz_nc_ct, pz_ct_at]
  split
  · exact Int.dvd_refl _
  · exact Int.dvd_zero _)
theorem sp_sz_add {P : Nat} {a b : Nat → Nat} {k n : Nat} (ha : ∀ i, n ≤ i → a i = 0) (hb : ∀ i, n ≤ i → b i = 0) : sp_sz (sp_add P a b k) 31 ≤ n := sp_sz_lt (fun i hi => by
  show (a i + b i * k) % P = 0
  rw [ha i hi, hb i hi, Nat.zero_mul, Nat.add_zero, Nat.zero_mod])
/-- sums of rests are rests -/
theorem sp_is_add {P : Nat} (hP : 0 < P) {m a b : Nat → Nat} {x y : pz_T} (ha : sp_is P m a x) (hb : sp_is P m b y) (k : Nat) : sp_is P m (sp_add P a b k) (pz_ad x (pz_ml (pz_ct k) y)) := by
  have hI := pz_I_ok P (pe_f m)
  have h0 := ha.2.1
  refine ⟨sp_add_ok hP ha.1 hb.1 k, ?_, ?_⟩
  · have h1 : sp_sz (sp_add P a b k) 31 ≤ sp_sz m 31 - 1 := sp_sz_add (fun i hi => sp_hi ha.1 (by omega)) (fun i hi => sp_hi hb.1 (by have := hb.2.1; omega))
    omega
  · exact @ag_tr pz_T pz_R (pz_I P (pe_f m)) hI _ _ _ (@ag_If_q pz_T pz_R (pz_E P) (pe_f m) _ _ (sp_add_pe hP ha.1 hb.1 k)) (@ag_ad pz_T pz_R (pz_I P (pe_f m)) hI _ _ _ _ ha.2.2 (@ag_ml pz_T pz_R (pz_I P (pe_f m)) hI _ _ _ _ (@ag_rf pz_T pz_R (pz_I P (pe_f m)) hI _) hb.2.2))
/-- the first k terms of a at the power of x -/
def sp_ra (a : Nat → Nat) (P k : Nat) : pz_T := @ag_ev pz_T pz_R a k (pz_pw pz_X P)
theorem sp_ra_s {P : Nat} (hP : 0 < P) {m a t im : Nat → Nat} {k : Nat} (ht : sp_is P m t (sp_ra a P k)) (hi : sp_is P m im (pz_pw pz_X (P * k))) : sp_is P m (sp_add P t im (a k)) (sp_ra a P (k + 1)) := by
  have h := sp_is_add hP ht hi (a k)
  have e : pz_ad (sp_ra a P k) (pz_ml (pz_ct (a k)) (pz_pw pz_X (P * k))) = sp_ra a P (k + 1) := by
    have e2 : pz_pw pz_X (P * k) = pz_pw (pz_pw pz_X P) k := @ag_pow_mul pz_T pz_R pz_X P k
    rw [e2, ← pz_nc_ct]
    rfl
  rwa [e] at h
theorem sp_ra_z {P : Nat} {a : Nat → Nat} {k : Nat} (h : a k = 0) : sp_ra a P (k + 1) = sp_ra a P k := by
  show pz_ad (sp_ra a P k) (pz_ml (@ag_nc pz_T pz_R (a k)) (pz_pw (pz_pw pz_X P) k)) = sp_ra a P k
  rw [h]
  refine pz_ext (fun i => ?_)
  show (sp_ra a P k).1 i + pz_mul (pz_mo 0 0).1 (pz_pw (pz_pw pz_X P) k).1 i = (sp_ra a P k).1 i
  rw [pz_mul_ct]
  omega
theorem sp_ra_hi {P : Nat} {a : Nat → Nat} (ha : sp_ok P a) : ∀ (n : Nat), sp_sz a 31 ≤ n → sp_ra a P n = sp_ra a P (sp_sz a 31) := by
  intro n
  induction n with
  | zero =>
    intro h
    rw [show sp_sz a 31 = 0 by omega]
  | succ n ih =>
    intro h
    by_cases he : sp_sz a 31 = n + 1
    · rw [he]
    · rw [sp_ra_z (sp_hi ha (by omega)), ih (by omega)]
/-- all terms: the P-th power -/
theorem sp_ra_pow {P : Nat} (hP : ag_pr P) {m a : Nat → Nat} (ha : sp_ok P a) : @ag_q pz_T pz_R (pz_I P (pe_f m)) (sp_ra a P (sp_sz a 31)) (pz_pw (pe_f a) P) := by
  have hI := pz_I_ok P (pe_f m)
  rw [← sp_ra_hi ha 31 (sp_sz_le a 31)]
  have h := @ag_ev_fr pz_T pz_R (pz_I P (pe_f m)) hI P hP (pz_IP P (pe_f m)) a 31 pz_X 1
  rw [Nat.pow_one] at h
  exact @ag_sy pz_T pz_R (pz_I P (pe_f m)) hI _ _ h
