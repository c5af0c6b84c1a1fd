/-! The rests by a polynomial that can't be divided: P^n of them, all powers a^(P^n) = a; no smaller power of x -/
abbrev pz_X : pz_T := pz_mo 1 1
theorem pz_X_sh : pz_sh pz_X.1 = (pz_mo 0 1).1 := funext (fun i => by
  show (if i + 1 = 1 then (1 : Int) else 0) = if i = 0 then 1 else 0
  by_cases h : i = 0
  · rw [if_pos h, if_pos (by omega)]
  · rw [if_neg h, if_neg (by omega)])
theorem pz_X_mul (a : Nat → Int) (i : Nat) : pz_mul pz_X.1 a (i + 1) = a i := by
  rw [pz_mul_s, pz_X_sh, pz_mul_ct]
  show (if (0 : Nat) = 1 then (1 : Int) else 0) * a (i + 1) + 1 * a i = a i
  rw [if_neg (by omega)]
  omega
theorem pz_X_mul0 (a : Nat → Int) : pz_mul pz_X.1 a 0 = 0 := by
  rw [pz_mul_0]
  show (if (0 : Nat) = 1 then (1 : Int) else 0) * a 0 = 0
  rw [if_neg (by omega)]
  omega
theorem pz_X_pow (n : Nat) : ∀ i, (pz_pw pz_X n).1 i = if i = n then 1 else 0 := by
  induction n with
  | zero => exact fun i => rfl
  | succ n ih =>
    intro i
    show pz_mul (pz_pw pz_X n).1 pz_X.1 i = _
    rw [pz_mul_comm]
    cases i with
    | zero => rw [pz_X_mul0, if_neg (by omega)]
    | succ i =>
      rw [pz_X_mul, ih i]
      by_cases h : i = n
      · rw [if_pos h, if_pos (by omega)]
      · rw [if_neg h, if_neg (by omega)]
theorem pz_nc_ct (n : Nat) : @ag_nc pz_T pz_R n = pz_ct n := by
  induction n with
  | zero => rfl
  | succ n ih =>
    show pz_ad (@ag_nc pz_T pz_R n) (pz_ct ((1 : Nat) : Int)) = pz_ct ((n + 1 : Nat) : Int)
    rw [ih]
    refine pz_ext (fun i => ?_)
    show (if i = 0 then (n : Int) else 0) + (if i = 0 then ((1 : Nat) : Int) else 0) = if i = 0 then ((n + 1 : Nat) : Int) else 0
    split <;> simp
/-- the coefficients of a sum of powers of x -/
theorem pz_ev_at (c : Nat → Nat) (n : Nat) : ∀ i, (@ag_ev pz_T pz_R c n pz_X).1 i = if i < n then (c i : Int) else 0 := by
  induction n with
  | zero =>
    intro i
    show (if i = 0 then ((0 : Nat) : Int) else 0) = if i < 0 then (c i : Int) else 0
    rw [if_neg (by omega : ¬ i < 0)]
    split <;> rfl
  | succ n ih =>
    intro i
    show (@ag_ev pz_T pz_R c n pz_X).1 i + pz_mul (@ag_nc pz_T pz_R (c n)).1 (pz_pw pz_X n).1 i = _
    rw [ih i, pz_nc_ct, pz_mul_ct, pz_X_pow]
    by_cases h1 : i < n
    · rw [if_pos h1, if_neg (by omega), if_pos (by omega)]
      omega
    · by_cases h2 : i = n
      · rw [if_neg h1, if_pos h2, if_pos (by omega), h2]
        omega
      · rw [if_neg h1, if_neg h2, if_neg (by omega)]
        omega
theorem ag_ev_q {β : Type} [Lean.Grind.CommRing β] {I : β → Prop} (hI : ag_I I) (c : Nat → Nat) (n : Nat) {x y : β} (h : ag_q I x y) : ag_q I (ag_ev c n x) (ag_ev c n y) := ag_sm_q hI (fun k _ => ag_ml hI (ag_rf hI _) (ag_pw hI h k))
theorem ag_ev_c {β : Type} [Lean.Grind.CommRing β] {I : β → Prop} (hI : ag_I I) {c d : Nat → Nat} {n : Nat} (x : β) (h : ∀ k, k < n → ag_q I (ag_nc β (c k)) (ag_nc β (d k))) : ag_q I (ag_ev c n x) (ag_ev d n x) := ag_sm_q hI (fun k hk => ag_ml hI (h k hk) (ag_rf hI _))
/-- digits -/
theorem pz_digit (P : Nat) (hP : 2 ≤ P) (n : Nat) (r : Nat → Int) : ∃ k, k < P ^ n ∧ ∀ i, i < n → (P : Int) ∣ r i - ((k / P ^ i % P : Nat) : Int) := by
  induction n with
  | zero => exact ⟨0, by rw [Nat.pow_zero]; omega, fun i hi => by omega⟩
  | succ n ih =>
    obtain ⟨k, hk, hd⟩ := ih
    have h0 := Int.emod_nonneg (r n) (show (P : Int) ≠ 0 by omega)
    have h1 := Int.emod_lt_of_pos (r n) (show (0 : Int) < P by omega)
    obtain ⟨d, hdn⟩ := Int.eq_ofNat_of_zero_le h0
    have hdP : d < P := by omega
    have hpos : 0 < P ^ n := Nat.pow_pos (by omega)
    refine ⟨k + P ^ n * d, ?_, fun i hi => ?_⟩
    · rw [Nat.pow_succ]
      have h2 : P ^ n * d + P ^ n ≤ P ^ n * P := by
        rw [← Nat.mul_succ]
        exact Nat.mul_le_mul_left _ hdP
      omega
    · by_cases hin : i < n
      · have e : P ^ n = P ^ i * (P * P ^ (n - i - 1)) := by
          rw [← Nat.mul_assoc, ← Nat.pow_succ, ← Nat.pow_add]
          congr 1
          omega
        have hpi : 0 < P ^ i := Nat.pow_pos (by omega)
        rw [e, Nat.mul_assoc (P ^ i), Nat.add_mul_div_left _ _ hpi, Nat.mul_assoc P, Nat.add_mul_mod_self_left]
        exact hd i hin
      · have hie : i = n := by omega
        subst hie
        rw [Nat.add_mul_div_left _ _ hpos, Nat.div_eq_of_lt hk, Nat.zero_add, Nat.mod_eq_of_lt hdP, ← hdn]
        exact Int.dvd_self_sub_emod
theorem pz_digits_mod (P : Nat) {k l : Nat} (n : Nat) (h : ∀ i, i < n → k / P ^ i % P = l / P ^ i % P) : k % P ^ n = l % P ^ n := by
  induction n with
  | zero => rw [Nat.pow_zero, Nat.mod_one, Nat.mod_one]
  | succ n ih => rw [Nat.pow_succ, Nat.mod_mul, Nat.mod_mul, ih (fun i hi => h i (by omega)), h n (by omega)]
theorem pz_small {P a b : Nat} (ha : a < P) (hb : b < P) (h : (P : Int) ∣ (a : Int) - (b : Int)) : a = b := by
  have h1 := Int.emod_eq_zero_of_dvd h
  have h2 : (a : Int) % P = (b : Int) % P := Int.emod_eq_emod_iff_emod_sub_eq_zero.mpr h1
  rw [Int.emod_eq_of_lt (by omega) (by omega), Int.emod_eq_of_lt (by omega) (by omega)] at h2
  omega
/-- the k-th rest -/
def pz_el (P n k : Nat) : pz_T := @ag_ev pz_T pz_R (fun i => k / P ^ i % P) n pz_X
theorem pz_el_at (P n k i : Nat) : (pz_el P n k).1 i = if i < n then ((k / P ^ i % P : Nat) : Int) else 0 := pz_ev_at _ n i
theorem pz_el_lt (P n k : Nat) : pz_lt P n (pz_el P n k) := fun i hi => by
  rw [pz_el_at, if_neg (by omega)]
  exact Int.dvd_zero _
theorem pz_el_inj {P : Nat} (hP : ag_pr P) {n : Nat} {f : pz_T} (hf : pz_dg P n f) {k l : Nat} (hk : k < P ^ n) (hl : l < P ^ n) (h : @ag_q pz_T pz_R (pz_I P f) (pz_el P n k) (pz_el P n l)) : k = l := by
  have h2 := hP.1
  have h1 : pz_E P (pz_ad (pz_el P n k) (pz_ng (pz_el P n l))) := pz_low hP hf h (fun i hi => Int.dvd_add (pz_el_lt P n k i hi) (Int.dvd_neg.mpr (pz_el_lt P n l i hi)))
  have h3 := pz_digits_mod P (k := k) (l := l) n (fun i hi => by
    have h4 : (P : Int) ∣ (pz_el P n k).1 i + -(pz_el P n l).1 i := h1 i
    rw [pz_el_at, pz_el_at, if_pos hi, if_pos hi] at h4
    exact pz_small (Nat.mod_lt _ (by omega)) (Nat.mod_lt _ (by omega)) (by rw [Int.sub_eq_add_neg]; exact h4))
  rwa [Nat.mod_eq_of_lt hk, Nat.mod_eq_of_lt hl] at h3
theorem pz_el_ex {P : Nat} (hP : ag_pr P) {n : Nat} {f : pz_T} (hf : pz_dg P n f) (r : pz_T) : ∃ k, k < P ^ n ∧ @ag_q pz_T pz_R (pz_I P f) r (pz_el P n k) := by
  obtain ⟨N, hN⟩ := pz_lt_ex P r
  obtain ⟨q, r', hr, he⟩ := pz_div hP hf N r hN
  obtain ⟨k, hk, hd⟩ := pz_digit P hP.1 n r'.1
  refine ⟨k, hk, q, fun i => ?_⟩
  have h1 : (P : Int) ∣ r.1 i + -(pz_mul f.1 q.1 i + r'.1 i) := he i
  show (P : Int) ∣ (r.1 i + -(pz_el P n k).1 i) + -pz_mul f.1 q.1 i
  have h2 : (P : Int) ∣ r'.1 i - (pz_el P n k).1 i := by
    rw [pz_el_at]
    by_cases hi : i < n
    · rw [if_pos hi]
      exact hd i hi
    · rw [if_neg hi]
      exact Int.dvd_sub (hr i (by omega)) (Int.dvd_zero _)
  have h3 := Int.dvd_add h1 h2
  rwa [show r.1 i + -(pz_mul f.1 q.1 i + r'.1 i) + (r'.1 i - (pz_el P n k).1 i) = (r.1 i + -(pz_el P n k).1 i) + -pz_mul f.1 q.1 i by omega] at h3
theorem pz_el_0 (P n : Nat) (f : pz_T) : @ag_q pz_T pz_R (pz_I P f) (pz_el P n 0) (pz_ct 0) := @ag_If_q pz_T pz_R (pz_E P) f (pz_el P n 0) (pz_ct 0) (fun i => by
  show (P : Int) ∣ (pz_el P n 0).1 i + -(if i = 0 then 0 else 0)
  rw [pz_el_at, Nat.zero_div, Nat.zero_mod]
  split <;> split <;> exact Int.dvd_zero _)
noncomputable def pz_code {P : Nat} (hP : ag_pr P) {n : Nat} {f : pz_T} (hf : pz_dg P n f) (r : pz_T) : Nat := Classical.choose (pz_el_ex hP hf r)
theorem pz_code_ok {P : Nat} (hP : ag_pr P) {n : Nat} {f : pz_T} (hf : pz_dg P n f) (r : pz_T) : pz_code hP hf r < P ^ n ∧ @ag_q pz_T pz_R (pz_I P f) r (pz_el P n (pz_code hP hf r)) := Classical.choose_spec (pz_el_ex hP hf r)
theorem pz_code_uni {P : Nat} (hP : ag_pr P) {n : Nat} {f : pz_T} (hf : pz_dg P n f) {r : pz_T} {k : Nat} (hk : k < P ^ n) (h : @ag_q pz_T pz_R (pz_I P f) r (pz_el P n k)) : pz_code hP hf r = k := by
  have h1 := pz_code_ok hP hf r
  exact pz_el_inj hP hf h1.1 hk (@ag_tr pz_T pz_R (pz_I P f) (pz_I_ok P f) _ _ _ (@ag_sy pz_T pz_R (pz_I P f) (pz_I_ok P f) _ _ h1.2) h)
/-- Fermat in the field -/
theorem pz_unit {P : Nat} (hP : ag_pr P) {n : Nat} {f : pz_T} (hf : pz_ir P n f) {a : pz_T} (ha : ¬ pz_I P f a) : @ag_q pz_T pz_R (pz_I P f) (pz_pw a (P ^ n - 1)) (pz_ct 1) := by
  have h2 := hP.1
  have hI := pz_I_ok P f
  obtain ⟨b, hb⟩ := (pz_ir_inv hP hf a).resolve_left ha
  have hlen : ((List.range' 1 (P ^ n - 1)).map (pz_el P n)).length = P ^ n - 1 := by rw [List.length_map, List.length_range']
  have hmem : ∀ k, k ∈ List.range' 1 (P ^ n - 1) → 1 ≤ k ∧ k < P ^ n := fun k hk => by
    rw [List.mem_range'_1] at hk
    omega
  have c1 : ((List.range' 1 (P ^ n - 1)).map (pz_el P n)).Nodup := by
    show List.Pairwise _ _
    rw [List.pairwise_map]
    refine List.Pairwise.imp_of_mem (fun {k l} hk hl hkl e => ?_) (List.pairwise_lt_range' (s := 1) (n := P ^ n - 1))
    have h5 := pz_el_inj hP hf.1 (hmem k hk).2 (hmem l hl).2 (@ag_of_eq pz_T pz_R (pz_I P f) hI _ _ e)
    omega
  have c2 : ∀ r ∈ (List.range' 1 (P ^ n - 1)).map (pz_el P n), ¬ pz_I P f r ∧ pz_el P n (pz_code hP hf.1 r) = r := by
    intro r hr
    obtain ⟨k, hk, rfl⟩ := List.mem_map.mp hr
    have hk2 := hmem k hk
    refine ⟨fun hz => ?_, ?_⟩
    · have h5 := pz_el_inj hP hf.1 hk2.2 (show 0 < P ^ n by omega) (@ag_tr pz_T pz_R (pz_I P f) hI _ _ _ (@ag_to0 pz_T pz_R (pz_I P f) _ hz) (@ag_sy pz_T pz_R (pz_I P f) hI _ _ (pz_el_0 P n f)))
      omega
    · rw [pz_code_uni hP hf.1 hk2.2 (@ag_rf pz_T pz_R (pz_I P f) hI _)]
  have c3 : ∀ r, ¬ pz_I P f r → pz_el P n (pz_code hP hf.1 r) ∈ (List.range' 1 (P ^ n - 1)).map (pz_el P n) := by
    intro r hr
    have h5 := pz_code_ok hP hf.1 r
    refine List.mem_map.mpr ⟨pz_code hP hf.1 r, ?_, rfl⟩
    rw [List.mem_range'_1]
    have h6 : pz_code hP hf.1 r ≠ 0 := fun hz => hr (by
      rw [hz] at h5
      exact @ag_of0 pz_T pz_R (pz_I P f) _ (@ag_tr pz_T pz_R (pz_I P f) hI _ _ _ h5.2 (pz_el_0 P n f)))
    have h7 := h5.1
    omega
  have c4 : ∀ r, @ag_q pz_T pz_R (pz_I P f) (pz_el P n (pz_code hP hf.1 r)) r := fun r => @ag_sy pz_T pz_R (pz_I P f) hI _ _ (pz_code_ok hP hf.1 r).2
  have c5 : ∀ r s, @ag_q pz_T pz_R (pz_I P f) r s → pz_el P n (pz_code hP hf.1 r) = pz_el P n (pz_code hP hf.1 s) := by
    intro r s hrs
    rw [pz_code_uni hP hf.1 (pz_code_ok hP hf.1 s).1 (@ag_tr pz_T pz_R (pz_I P f) hI _ _ _ hrs (pz_code_ok hP hf.1 s).2)]
  have h := @ag_unit pz_T pz_R (pz_I P f) hI (pz_ir_dom hP hf) (pz_ir_1 hP hf) ((List.range' 1 (P ^ n - 1)).map (pz_el P n)) (fun r => pz_el P n (pz_code hP hf.1 r)) c1 c2 c3 c4 c5 a b hb
  rw [hlen] at h
  exact h
theorem pz_frob {P : Nat} (hP : ag_pr P) {n : Nat} {f : pz_T} (hf : pz_ir P n f) (a : pz_T) : @ag_q pz_T pz_R (pz_I P f) (pz_pw a (P ^ n)) a := by
  have h2 := hP.1
  have hI := pz_I_ok P f
  have hpos : 0 < P ^ n := Nat.pow_pos (by omega)
  have e : pz_pw a (P ^ n) = pz_ml (pz_pw a (P ^ n - 1)) a := by
    conv => lhs; rw [show P ^ n = P ^ n - 1 + 1 by omega]
    rfl
  rw [e]
  by_cases ha : pz_I P f a
  · exact @ag_tr pz_T pz_R (pz_I P f) hI _ _ _ (@ag_to0 pz_T pz_R (pz_I P f) _ (hI.2.2 a (pz_pw a (P ^ n - 1)) ha)) (@ag_sy pz_T pz_R (pz_I P f) hI _ _ (@ag_to0 pz_T pz_R (pz_I P f) _ ha))
  · have h3 := @ag_ml pz_T pz_R (pz_I P f) hI _ _ _ _ (pz_unit hP hf ha) (@ag_rf pz_T pz_R (pz_I P f) hI a)
    have e2 : pz_ml (pz_ct 1) a = a := pz_R.one_mul a
    have h4 : @ag_q pz_T pz_R (pz_I P f) (pz_ml (pz_pw a (P ^ n - 1)) a) (pz_ml (pz_ct 1) a) := h3
    rwa [e2] at h4
/-- no lower power of x is x -/
theorem pz_no {P : Nat} (hP : ag_pr P) {n : Nat} {f : pz_T} (hf : pz_ir P n f) {m : Nat} (h1 : 1 ≤ m) (hm : m < n) : ¬ @ag_q pz_T pz_R (pz_I P f) (pz_pw pz_X (P ^ m)) pz_X := by
  intro h
  have h2 := hP.1
  have hI := pz_I_ok P f
  have hIP : pz_I P f (@ag_nc pz_T pz_R P) := @ag_If_E pz_T pz_R (pz_E P) f _ (fun i => by
    rw [pz_nc_ct, pz_ct_at]
    split
    · exact Int.dvd_refl _
    · exact Int.dvd_zero _)
  have hN : 2 ≤ P ^ m := by
    have h3 : P ^ 1 ≤ P ^ m := Nat.pow_le_pow_right (by omega) h1
    rw [Nat.pow_one] at h3
    omega
  have c1 : ((List.range (P ^ n)).map (pz_el P n)).Pairwise (fun a b => ¬ @ag_q pz_T pz_R (pz_I P f) a b) := by
    rw [List.pairwise_map]
    refine List.Pairwise.imp_of_mem (fun {k l} hk hl hkl e => ?_) List.pairwise_lt_range
    have h5 := pz_el_inj hP hf.1 (List.mem_range.mp hk) (List.mem_range.mp hl) e
    omega
  have c2 : ∀ r ∈ (List.range (P ^ n)).map (pz_el P n), @ag_q pz_T pz_R (pz_I P f) (pz_pw r (P ^ m)) r := by
    intro r hr
    obtain ⟨k, -, rfl⟩ := List.mem_map.mp hr
    exact @ag_tr pz_T pz_R (pz_I P f) hI _ _ _ (@ag_ev_fr pz_T pz_R (pz_I P f) hI P hP hIP (fun i => k / P ^ i % P) n pz_X m) (@ag_ev_q pz_T pz_R (pz_I P f) hI (fun i => k / P ^ i % P) n _ _ h)
  have h4 := @ag_fix pz_T pz_R (pz_I P f) hI (pz_ir_dom hP hf) (pz_ir_1 hP hf) (P ^ m) hN ((List.range (P ^ n)).map (pz_el P n)) c1 c2
  rw [List.length_map, List.length_range] at h4
  have h5 : P ^ m < P ^ n := Nat.pow_lt_pow_right (by omega) hm
  omega
/-- what can be divided has a divisor of at most half its degree that can't -/
theorem pz_ir_ex {P : Nat} (hP : ag_pr P) : ∀ (n : Nat), 1 ≤ n → ∀ f : pz_T, pz_dg P n f → ∃ (m : Nat) (g : pz_T), pz_ir P m g ∧ m ≤ n ∧ pz_I P g f ∧ (pz_ir P n f ∨ 2 * m ≤ n) := by
  intro n
  induction n using Nat.strongRecOn with
  | ind n ih =>
    intro hn f hf
    by_cases hir : pz_ir P n f
    · exact ⟨n, f, hir, Nat.le_refl _, @ag_If_f pz_T pz_R (pz_E P) (pz_E_ok P) f, Or.inl hir⟩
    · have hex : ∃ g h : pz_T, @ag_q pz_T pz_R (pz_E P) f (pz_ml g h) ∧ ¬ pz_dg P 0 g ∧ ¬ pz_dg P 0 h := by
        refine Classical.byContradiction (fun hno => hir ⟨hf, hn, fun g h e => ?_⟩)
        by_cases h1 : pz_dg P 0 g
        · exact Or.inl h1
        · by_cases h2 : pz_dg P 0 h
          · exact Or.inr h2
          · exact absurd ⟨g, h, e, h1, h2⟩ hno
      obtain ⟨g, h, e, hg, hh⟩ := hex
      have hz : ∀ u v : pz_T, @ag_q pz_T pz_R (pz_E P) f (pz_ml u v) → ¬ pz_E P u := fun u v e1 hu => hf.2 (by
        have h3 : (P : Int) ∣ f.1 n + -pz_mul u.1 v.1 n := e1 n
        have h4 := Int.dvd_add h3 (pz_dvd_all v.1 n u.1 hu)
        rwa [show f.1 n + -pz_mul u.1 v.1 n + pz_mul u.1 v.1 n = f.1 n by omega] at h4)
      have ecomm : pz_ml g h = pz_ml h g := pz_R.mul_comm g h
      have e' := e
      rw [ecomm] at e'
      obtain ⟨a, ha⟩ := (pz_split P g).resolve_left (hz g h e)
      obtain ⟨b, hb⟩ := (pz_split P h).resolve_left (hz h g e')
      have hab : n = a + b := pz_dg_uni hf (pz_dg_q e (pz_dg_mul hP ha hb))
      have ha0 : a ≠ 0 := fun z => hg (z ▸ ha)
      have hb0 : b ≠ 0 := fun z => hh (z ▸ hb)
      by_cases hle : a ≤ b
      · obtain ⟨m, g', h1, h2, h3, -⟩ := ih a (by omega) (by omega) g ha
        exact ⟨m, g', h1, by omega, @ag_If_tr pz_T pz_R (pz_E P) (pz_E_ok P) g g' f h3 ⟨h, e⟩, Or.inr (by omega)⟩
      · obtain ⟨m, g', h1, h2, h3, -⟩ := ih b (by omega) (by omega) h hb
        exact ⟨m, g', h1, by omega, @ag_If_tr pz_T pz_R (pz_E P) (pz_E_ok P) h g' f h3 ⟨g, e'⟩, Or.inr (by omega)⟩
