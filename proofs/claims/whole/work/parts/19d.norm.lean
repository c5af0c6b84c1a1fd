/-! a a^P a^(P^2) ..: the norm is a number; inverses modulo a polynomial that can't be divided -/
def ag_nm {β : Type} [Lean.Grind.CommRing β] (a : β) (P : Nat) : Nat → β
  | 0 => 1
  | k + 1 => ag_nm a P k * a ^ P ^ k
theorem ag_nm_f {β : Type} [Lean.Grind.CommRing β] (a : β) (P k : Nat) : ag_nm a P k ^ P * a = ag_nm a P k * a ^ P ^ k := by
  induction k with
  | zero =>
    show (1 : β) ^ P * a = 1 * a ^ P ^ 0
    rw [Nat.pow_zero, Lean.Grind.Semiring.pow_one, Lean.Grind.Semiring.one_pow]
  | succ k ih =>
    show (ag_nm a P k * a ^ P ^ k) ^ P * a = ag_nm a P k * a ^ P ^ k * a ^ P ^ (k + 1)
    have e : a ^ P ^ (k + 1) = (a ^ P ^ k) ^ P := by rw [Nat.pow_succ, ag_pow_mul]
    rw [ag_mul_pow, e, ← ih]
    grind
theorem ag_nm_s {β : Type} [Lean.Grind.CommRing β] (a : β) (P k : Nat) : ag_nm a P (k + 1) = a * ag_nm (a ^ P) P k := by
  induction k with
  | zero =>
    show 1 * a ^ P ^ 0 = a * 1
    rw [Nat.pow_zero, Lean.Grind.Semiring.pow_one]
    grind
  | succ k ih =>
    show ag_nm a P (k + 1) * a ^ P ^ (k + 1) = a * (ag_nm (a ^ P) P k * (a ^ P) ^ P ^ k)
    have e : a ^ P ^ (k + 1) = (a ^ P) ^ P ^ k := by rw [← ag_pow_mul, Nat.pow_succ, Nat.mul_comm]
    rw [ih, e]
    grind
theorem ag_pow_I {β : Type} [Lean.Grind.CommRing β] {I : β → Prop} (hdom : ∀ a b, I (a * b) → I a ∨ I b) (h1 : ¬ I 1) {a : β} (ha : ¬ I a) (n : Nat) : ¬ I (a ^ n) := by
  induction n with
  | zero => rwa [Lean.Grind.Semiring.pow_zero]
  | succ n ih =>
    rw [Lean.Grind.Semiring.pow_succ]
    intro h
    rcases hdom _ _ h with h2 | h2
    · exact ih h2
    · exact ha h2
theorem ag_nm_I {β : Type} [Lean.Grind.CommRing β] {I : β → Prop} (hdom : ∀ a b, I (a * b) → I a ∨ I b) (h1 : ¬ I 1) {a : β} (ha : ¬ I a) (P k : Nat) : ¬ I (ag_nm a P k) := by
  induction k with
  | zero => exact h1
  | succ k ih =>
    intro h
    rcases hdom _ _ h with h2 | h2
    · exact ih h2
    · exact ag_pow_I hdom h1 ha (P ^ k) h2
theorem ag_nm_num {β : Type} [Lean.Grind.CommRing β] {I : β → Prop} (hI : ag_I I) (hdom : ∀ a b, I (a * b) → I a ∨ I b) (h1 : ¬ I 1) {P : Nat} (hP : ag_pr P) (hIP : I (ag_nc β P)) {a : β} {k : Nat} (hk : ag_q I (a ^ P ^ k) a) (ha : ¬ I a) : ∃ c, 0 < c ∧ c < P ∧ ag_q I (ag_nm a P k) (ag_nc β c) := by
  have h2 : ag_q I (ag_nm a P k ^ P) (ag_nm a P k) := by
    have h3 : ag_q I (ag_nm a P k ^ P * a) (ag_nm a P k * a) := by
      rw [ag_nm_f]
      exact ag_ml hI (ag_rf hI _) hk
    have h4 : I (ag_nm a P k ^ P * a - ag_nm a P k * a) := h3
    rw [show ag_nm a P k ^ P * a - ag_nm a P k * a = (ag_nm a P k ^ P - ag_nm a P k) * a by grind] at h4
    exact (hdom _ _ h4).resolve_right ha
  obtain ⟨c, hc, hq⟩ := ag_fixed hI hdom h1 hP hIP h2
  refine ⟨c, Nat.pos_of_ne_zero (fun hz => ?_), hc, hq⟩
  rw [hz] at hq
  exact ag_nm_I hdom h1 ha P k (ag_of0 hq)
/-- two inverses are the same -/
theorem ag_inv_uni {β : Type} [Lean.Grind.CommRing β] {I : β → Prop} (hI : ag_I I) {a u v : β} (hu : ag_q I (u * a) 1) (hv : ag_q I (v * a) 1) : ag_q I u v := by
  have h1 := ag_ml hI (ag_rf hI u) hv
  have h2 := ag_ml hI (ag_rf hI v) hu
  rw [show u * (v * a) = v * (u * a) by grind, show u * 1 = u by grind] at h1
  rw [show v * 1 = v by grind] at h2
  exact ag_tr hI (ag_sy hI h1) h2
theorem iv_uni {P : Nat} (hP : ag_pr P) {f u v : Nat → Nat} {a : pz_T} (hf : sp_ok P f) (hu : sp_ok P u) (hv : sp_ok P v) (su : sp_sz u 31 < sp_sz f 31) (sv : sp_sz v 31 < sp_sz f 31) (h1 : @ag_q pz_T pz_R (pz_I P (pe_f f)) (pz_ml (pe_f u) a) (pz_ct 1)) (h2 : @ag_q pz_T pz_R (pz_I P (pe_f f)) (pz_ml (pe_f v) a) (pz_ct 1)) : u = v := by
  have hI := pz_I_ok P (pe_f f)
  exact sp_is_uni hP hf ⟨hu, su, @ag_rf pz_T pz_R (pz_I P (pe_f f)) hI _⟩ ⟨hv, sv, @ag_sy pz_T pz_R (pz_I P (pe_f f)) hI _ _ (@ag_inv_uni pz_T pz_R (pz_I P (pe_f f)) hI a _ _ h1 h2)⟩
theorem iv_norm {P : Nat} (hP : ag_pr P) {k : Nat} {f a : pz_T} (hf : pz_ir P k f) (ha : ¬ pz_I P f a) : ∃ c, 0 < c ∧ c < P ∧ @ag_q pz_T pz_R (pz_I P f) (@ag_nm pz_T pz_R a P k) (pz_ct c) := by
  obtain ⟨c, h0, h1, h2⟩ := @ag_nm_num pz_T pz_R (pz_I P f) (pz_I_ok P f) (pz_ir_dom hP hf) (pz_ir_1 hP hf) P hP (pz_IP P f) a k (pz_frob hP hf a) ha
  refine ⟨c, h0, h1, ?_⟩
  rwa [pz_nc_ct] at h2
