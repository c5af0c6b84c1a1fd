/-! Degrees modulo a prime P; division; Fermat and inverses for numbers -/
theorem pz_dvd_l {p a : Int} (h : p ∣ a) (b : Int) : p ∣ a * b := Int.dvd_trans h (Int.dvd_mul_right a b)
theorem pz_dvd_r {p b : Int} (a : Int) (h : p ∣ b) : p ∣ a * b := Int.dvd_trans h (Int.dvd_mul_left a b)
theorem pz_dvd_all {p : Int} (b : Nat → Int) (n : Nat) : ∀ a : Nat → Int, (∀ i, p ∣ a i) → p ∣ pz_mul a b n := by
  induction n with
  | zero =>
    intro a h
    exact pz_dvd_l (h 0) _
  | succ n ih =>
    intro a h
    exact Int.dvd_add (pz_dvd_l (h 0) _) (ih (pz_sh a) (fun i => h (i + 1)))
theorem pz_top_hi {p : Int} {b : Nat → Int} {n : Nat} (hb : ∀ i, n < i → p ∣ b i) (k : Nat) : ∀ (a : Nat → Int) (m : Nat), (∀ i, m < i → p ∣ a i) → m + n < k → p ∣ pz_mul a b k := by
  induction k with
  | zero =>
    intro a m _ h
    omega
  | succ k ih =>
    intro a m ha h
    refine Int.dvd_add (pz_dvd_r _ (hb _ (by omega))) ?_
    cases m with
    | zero => exact pz_dvd_all b k (pz_sh a) (fun i => ha (i + 1) (by omega))
    | succ m => exact ih (pz_sh a) m (fun i hi => ha (i + 1) (by omega)) (by omega)
theorem pz_top {p : Int} {b : Nat → Int} {n : Nat} (hb : ∀ i, n < i → p ∣ b i) (m : Nat) : ∀ a : Nat → Int, (∀ i, m < i → p ∣ a i) → p ∣ pz_mul a b (m + n) - a m * b n := by
  induction m with
  | zero =>
    intro a ha
    rw [Nat.zero_add]
    cases n with
    | zero =>
      rw [pz_mul_0, Int.sub_self]
      exact Int.dvd_zero p
    | succ n =>
      rw [pz_mul_s, show a 0 * b (n + 1) + pz_mul (pz_sh a) b n - a 0 * b (n + 1) = pz_mul (pz_sh a) b n by omega]
      exact pz_dvd_all b n (pz_sh a) (fun i => ha (i + 1) (by omega))
  | succ m ih =>
    intro a ha
    have h := ih (pz_sh a) (fun i hi => ha (i + 1) (by omega))
    rw [show m + 1 + n = m + n + 1 by omega, pz_mul_s]
    have h2 : p ∣ a 0 * b (m + n + 1) := pz_dvd_r _ (hb _ (by omega))
    have h3 := Int.dvd_add h2 h
    have e : pz_sh a m = a (m + 1) := rfl
    rw [e] at h3
    rwa [show a 0 * b (m + n + 1) + pz_mul (pz_sh a) b (m + n) - a (m + 1) * b n = a 0 * b (m + n + 1) + (pz_mul (pz_sh a) b (m + n) - a (m + 1) * b n) by omega]
/-- all coefficients are 0 modulo P -/
def pz_E (P : Nat) (a : pz_T) : Prop := ∀ i, (P : Int) ∣ a.1 i
def pz_lt (P n : Nat) (a : pz_T) : Prop := ∀ i, n ≤ i → (P : Int) ∣ a.1 i
/-- of degree n -/
def pz_dg (P n : Nat) (a : pz_T) : Prop := pz_lt P (n + 1) a ∧ ¬ (P : Int) ∣ a.1 n
theorem pz_E_ok (P : Nat) : @ag_I pz_T pz_R (pz_E P) := by
  refine ⟨fun i => ?_, fun a b ha hb i => Int.dvd_add (ha i) (hb i), fun a b ha i => ?_⟩
  · show (P : Int) ∣ if i = 0 then ((0 : Nat) : Int) else 0
    split <;> exact Int.dvd_zero _
  · show (P : Int) ∣ pz_mul b.1 a.1 i
    rw [pz_mul_comm]
    exact pz_dvd_all b.1 i a.1 ha
theorem pz_split (P : Nat) (a : pz_T) : pz_E P a ∨ ∃ n, pz_dg P n a := by
  obtain ⟨d, hd⟩ := a.2
  have h : pz_lt P d a := fun i hi => by
    rw [hd i hi]
    exact Int.dvd_zero _
  clear hd
  induction d with
  | zero => exact Or.inl (fun i => h i (Nat.zero_le _))
  | succ d ih =>
    by_cases hz : (P : Int) ∣ a.1 d
    · refine ih (fun i hi => ?_)
      by_cases he : i = d
      · rw [he]; exact hz
      · exact h i (by omega)
    · exact Or.inr ⟨d, h, hz⟩
theorem pz_dg_uni {P m n : Nat} {a : pz_T} (h1 : pz_dg P m a) (h2 : pz_dg P n a) : m = n := by
  rcases Nat.lt_trichotomy m n with h | h | h
  · exact absurd (h1.1 n h) h2.2
  · exact h
  · exact absurd (h2.1 m h) h1.2
theorem pz_dg_q {P n : Nat} {a b : pz_T} (h : @ag_q pz_T pz_R (pz_E P) a b) (hb : pz_dg P n b) : pz_dg P n a := by
  refine ⟨fun i hi => ?_, fun hz => hb.2 ?_⟩
  · have h1 : (P : Int) ∣ (a.1 i + -b.1 i) + b.1 i := Int.dvd_add (h i) (hb.1 i hi)
    rwa [show (a.1 i + -b.1 i) + b.1 i = a.1 i by omega] at h1
  · have h1 : (P : Int) ∣ a.1 n - (a.1 n + -b.1 n) := Int.dvd_sub hz (h n)
    rwa [show a.1 n - (a.1 n + -b.1 n) = b.1 n by omega] at h1
theorem pz_pr {P : Nat} (hP : ag_pr P) {x y : Int} (h : (P : Int) ∣ x * y) : (P : Int) ∣ x ∨ (P : Int) ∣ y := by
  rw [Int.ofNat_dvd_left, Int.natAbs_mul] at h
  rcases ag_pr_mul hP h with h1 | h1
  · exact Or.inl (Int.ofNat_dvd_left.mpr h1)
  · exact Or.inr (Int.ofNat_dvd_left.mpr h1)
theorem pz_dg_mul {P : Nat} (hP : ag_pr P) {m n : Nat} {a b : pz_T} (ha : pz_dg P m a) (hb : pz_dg P n b) : pz_dg P (m + n) (pz_ml a b) := by
  refine ⟨fun i hi => pz_top_hi (fun j hj => hb.1 j hj) i a.1 m (fun j hj => ha.1 j hj) (by omega), fun hz => ?_⟩
  have h := pz_top (fun j hj => hb.1 j hj) m a.1 (fun j hj => ha.1 j hj)
  have hz' : (P : Int) ∣ pz_mul a.1 b.1 (m + n) := hz
  have h2 := Int.dvd_sub hz' h
  rw [show pz_mul a.1 b.1 (m + n) - (pz_mul a.1 b.1 (m + n) - a.1 m * b.1 n) = a.1 m * b.1 n by omega] at h2
  rcases pz_pr hP h2 with h3 | h3
  · exact ha.2 h3
  · exact hb.2 h3
/-- numbers: Fermat -/
theorem pz_nc (n : Nat) : ag_nc Int n = (n : Int) := by
  induction n with
  | zero => rfl
  | succ n ih =>
    show ag_nc Int n + 1 = ((n + 1 : Nat) : Int)
    rw [ih]
    rfl
theorem pz_dv_ok (P : Nat) : ag_I (fun x : Int => (P : Int) ∣ x) := ⟨Int.dvd_zero _, fun _ _ h1 h2 => Int.dvd_add h1 h2, fun _ b h => pz_dvd_r b h⟩
theorem pz_fermat {P : Nat} (hP : ag_pr P) (n : Nat) : (P : Int) ∣ (n : Int) ^ P - n := by
  have h := ag_fl (pz_dv_ok P) hP (by rw [pz_nc]; exact Int.dvd_refl _) n
  rw [pz_nc] at h
  exact h
theorem pz_fermat1 {P : Nat} (hP : ag_pr P) {n : Nat} (hn : ¬ P ∣ n) : (P : Int) ∣ (n : Int) ^ (P - 2) * n - 1 := by
  have h2 := hP.1
  have h := pz_fermat hP n
  have e : (n : Int) ^ P = (n : Int) ^ (P - 2) * n * n := by
    rw [← Int.pow_succ, ← Int.pow_succ, show (P - 2).succ.succ = P by omega]
  rw [e, show (n : Int) ^ (P - 2) * n * n - n = ((n : Int) ^ (P - 2) * n - 1) * n by rw [Int.sub_mul, Int.one_mul]] at h
  rcases pz_pr hP h with h3 | h3
  · exact h3
  · exact absurd (Int.ofNat_dvd.mp h3) hn
theorem pz_inv {P : Nat} (hP : ag_pr P) {c : Int} (hc : ¬ (P : Int) ∣ c) : ∃ w : Int, (P : Int) ∣ w * c - 1 := by
  have h2 := hP.1
  have hp : (0 : Int) < P := by omega
  have h0 := Int.emod_nonneg c (show (P : Int) ≠ 0 by omega)
  obtain ⟨n, hn⟩ := Int.eq_ofNat_of_zero_le h0
  have hd : (P : Int) ∣ c - n := by
    rw [← hn]
    exact Int.dvd_self_sub_emod
  have hnd : ¬ P ∣ n := fun h => hc (by
    have h3 := Int.dvd_add hd (Int.ofNat_dvd.mpr h)
    rwa [show c - (n : Int) + n = c by omega] at h3)
  refine ⟨(n : Int) ^ (P - 2), ?_⟩
  have h3 := Int.dvd_add (pz_fermat1 hP hnd) (pz_dvd_r ((n : Int) ^ (P - 2)) hd)
  rwa [show (n : Int) ^ (P - 2) * n - 1 + (n : Int) ^ (P - 2) * (c - n) = (n : Int) ^ (P - 2) * c - 1 by rw [Int.mul_sub]; omega] at h3
theorem pz_mo_lt (P n : Nat) (k : Int) : pz_lt P (n + 1) (pz_mo n k) := fun i hi => by
  show (P : Int) ∣ if i = n then k else 0
  rw [if_neg (by omega)]
  exact Int.dvd_zero _
theorem pz_mo_at (n : Nat) (k : Int) : (pz_mo n k).1 n = k := by
  show (if n = n then k else 0) = k
  rw [if_pos rfl]
/-- division with rest -/
theorem pz_div {P : Nat} (hP : ag_pr P) {n : Nat} {f : pz_T} (hf : pz_dg P n f) : ∀ (N : Nat) (a : pz_T), pz_lt P N a → ∃ q r : pz_T, pz_lt P n r ∧ @ag_q pz_T pz_R (pz_E P) a (pz_ad (pz_ml f q) r) := by
  intro N
  induction N with
  | zero =>
    intro a ha
    refine ⟨pz_ct 0, a, fun i _ => ha i (Nat.zero_le _), fun i => ?_⟩
    show (P : Int) ∣ a.1 i + -(pz_mul f.1 (pz_mo 0 0).1 i + a.1 i)
    rw [pz_mul_comm, pz_mul_ct]
    rw [show a.1 i + -(0 * f.1 i + a.1 i) = 0 by omega]
    exact Int.dvd_zero _
  | succ N ih =>
    intro a ha
    by_cases hN : N < n
    · refine ⟨pz_ct 0, a, fun i hi => ha i (by omega), fun i => ?_⟩
      show (P : Int) ∣ a.1 i + -(pz_mul f.1 (pz_mo 0 0).1 i + a.1 i)
      rw [pz_mul_comm, pz_mul_ct]
      rw [show a.1 i + -(0 * f.1 i + a.1 i) = 0 by omega]
      exact Int.dvd_zero _
    · obtain ⟨w, hw⟩ := pz_inv hP hf.2
      have hm := pz_mo_lt P (N - n) (a.1 N * w)
      have hat := pz_mo_at (N - n) (a.1 N * w)
      generalize pz_mo (N - n) (a.1 N * w) = mo at hm hat
      obtain ⟨q, r, hr, he⟩ := ih (pz_ad a (pz_ng (pz_ml f mo))) (fun i hi => by
        show (P : Int) ∣ a.1 i + -pz_mul f.1 mo.1 i
        by_cases hi2 : i = N
        · have h1 := pz_top (p := (P : Int)) (b := mo.1) (n := N - n) (fun j hj => hm j hj) n f.1 (fun j hj => hf.1 j hj)
          rw [show n + (N - n) = i by omega, hat] at h1
          rw [← hi2] at h1
          have h2 := Int.dvd_sub (Int.dvd_neg.mpr (pz_dvd_r (a.1 i) hw)) h1
          rwa [show -(a.1 i * (w * f.1 n - 1)) - (pz_mul f.1 mo.1 i - f.1 n * (a.1 i * w)) = a.1 i + -pz_mul f.1 mo.1 i by
            rw [Int.mul_sub, Int.mul_one, show f.1 n * (a.1 i * w) = a.1 i * (w * f.1 n) by rw [Int.mul_comm, Int.mul_assoc]]
            omega] at h2
        · exact Int.dvd_add (ha i (by omega)) (Int.dvd_neg.mpr (pz_top_hi (fun j hj => hm j hj) i f.1 n (fun j hj => hf.1 j hj) (by omega))))
      refine ⟨pz_ad mo q, r, hr, fun i => ?_⟩
      have h1 := he i
      have h2 : (P : Int) ∣ (a.1 i + -pz_mul f.1 mo.1 i) + -(pz_mul f.1 q.1 i + r.1 i) := h1
      show (P : Int) ∣ a.1 i + -(pz_mul f.1 (fun j => mo.1 j + q.1 j) i + r.1 i)
      rw [pz_mul_addr]
      rwa [show a.1 i + -(pz_mul f.1 mo.1 i + pz_mul f.1 q.1 i + r.1 i) = (a.1 i + -pz_mul f.1 mo.1 i) + -(pz_mul f.1 q.1 i + r.1 i) by omega]
theorem pz_lt_ex (P : Nat) (a : pz_T) : ∃ N, pz_lt P N a := by
  obtain ⟨d, hd⟩ := a.2
  exact ⟨d, fun i hi => by
    rw [hd i hi]
    exact Int.dvd_zero _⟩
/-- the multiples of f modulo P -/
def pz_I (P : Nat) (f : pz_T) : pz_T → Prop := @ag_If pz_T pz_R (pz_E P) f
theorem pz_I_ok (P : Nat) (f : pz_T) : @ag_I pz_T pz_R (pz_I P f) := @ag_If_ok pz_T pz_R (pz_E P) (pz_E_ok P) f
/-- a multiple of f of a lower degree is 0 -/
theorem pz_low {P : Nat} (hP : ag_pr P) {n : Nat} {f a : pz_T} (hf : pz_dg P n f) (ha : pz_I P f a) (hl : pz_lt P n a) : pz_E P a := by
  obtain ⟨q, hq⟩ := ha
  have hq' : ∀ i, (P : Int) ∣ a.1 i + -pz_mul f.1 q.1 i := hq
  rcases pz_split P q with h | ⟨d, hd⟩
  · intro i
    have h1 : (P : Int) ∣ pz_mul f.1 q.1 i := by
      rw [pz_mul_comm]
      exact pz_dvd_all f.1 i q.1 h
    have h2 := Int.dvd_add (hq' i) h1
    rwa [show a.1 i + -pz_mul f.1 q.1 i + pz_mul f.1 q.1 i = a.1 i by omega] at h2
  · exfalso
    have h1 := pz_dg_mul hP hf hd
    refine h1.2 ?_
    show (P : Int) ∣ pz_mul f.1 q.1 (n + d)
    have h2 := Int.dvd_sub (hl (n + d) (by omega)) (hq' (n + d))
    rwa [show a.1 (n + d) - (a.1 (n + d) + -pz_mul f.1 q.1 (n + d)) = pz_mul f.1 q.1 (n + d) by omega] at h2
theorem pz_bez {P : Nat} (hP : ag_pr P) (f a : pz_T) : ∃ g u v a' b' : pz_T, @ag_q pz_T pz_R (pz_E P) g (pz_ad (pz_ml u a) (pz_ml v f)) ∧ @ag_q pz_T pz_R (pz_E P) a (pz_ml g a') ∧ @ag_q pz_T pz_R (pz_E P) f (pz_ml g b') := by
  obtain ⟨N, hN⟩ := pz_lt_ex P f
  refine @ag_bez pz_T pz_R (pz_E P) (pz_E_ok P) (pz_lt P) (fun n b hb => ?_) N f hN a
  rcases pz_split P b with h | ⟨m, hm⟩
  · exact Or.inl h
  · refine Or.inr ⟨m, Nat.lt_of_not_le (fun hle => hm.2 (hb m hle)), fun a => ?_⟩
    obtain ⟨M, hM⟩ := pz_lt_ex P a
    exact pz_div hP hm M a hM
theorem pz_un {P : Nat} (hP : ag_pr P) {c : pz_T} (hc : pz_dg P 0 c) : @ag_un pz_T pz_R (pz_E P) c := by
  obtain ⟨w, hw⟩ := pz_inv hP hc.2
  refine ⟨pz_ct w, fun i => ?_⟩
  show (P : Int) ∣ pz_mul c.1 (pz_mo 0 w).1 i + -(if i = 0 then ((1 : Nat) : Int) else 0)
  rw [pz_mul_comm, pz_mul_ct]
  by_cases hi : i = 0
  · rw [if_pos hi, hi]
    exact hw
  · rw [if_neg hi]
    exact Int.dvd_add (pz_dvd_r w (hc.1 i (by omega))) (Int.dvd_zero _)
/-- f of degree n can't be divided -/
def pz_ir (P n : Nat) (f : pz_T) : Prop := pz_dg P n f ∧ 1 ≤ n ∧ ∀ g h : pz_T, @ag_q pz_T pz_R (pz_E P) f (pz_ml g h) → pz_dg P 0 g ∨ pz_dg P 0 h
theorem pz_ir_inv {P : Nat} (hP : ag_pr P) {n : Nat} {f : pz_T} (hf : pz_ir P n f) (a : pz_T) : pz_I P f a ∨ ∃ b : pz_T, @ag_q pz_T pz_R (pz_I P f) (pz_ml a b) (pz_ct 1) :=
  @ag_irr_inv pz_T pz_R (pz_E P) (pz_E_ok P) f (pz_bez hP f) (fun g h e => (hf.2.2 g h e).imp (pz_un hP) (pz_un hP)) a
theorem pz_ir_dom {P : Nat} (hP : ag_pr P) {n : Nat} {f : pz_T} (hf : pz_ir P n f) (a b : pz_T) (h : pz_I P f (pz_ml a b)) : pz_I P f a ∨ pz_I P f b :=
  @ag_irr_dom pz_T pz_R (pz_I P f) (pz_I_ok P f) (pz_ir_inv hP hf) a b h
theorem pz_ir_1 {P : Nat} (hP : ag_pr P) {n : Nat} {f : pz_T} (hf : pz_ir P n f) : ¬ pz_I P f (pz_ct 1) := by
  intro h
  have h1 := pz_low hP hf.1 h (fun i hi => by
    show (P : Int) ∣ if i = 0 then 1 else 0
    rw [if_neg (by have := hf.2.1; omega)]
    exact Int.dvd_zero _) 0
  have h2 : (P : Int) ∣ 1 := h1
  have h3 := Int.ofNat_dvd.mp (show (P : Int) ∣ ((1 : Nat) : Int) from h2)
  have h4 := Nat.le_of_dvd (by omega) h3
  have := hP.1
  omega
