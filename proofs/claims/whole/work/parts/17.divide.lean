/-! Division with rest as both programs do it, and what it says of polynomials; the rest is the only one -/
theorem ag_dvs {β : Type} [Lean.Grind.CommRing β] {E : β → Prop} (hE : ag_I E) {o o1 m b l l1 : β} (h1 : ag_q E o1 (o + m)) (h2 : ag_q E (l1 + m * b) l) : ag_q E (o * b + l) (o1 * b + l1) := by
  refine ag_sy hE (ag_tr hE (ag_ad hE (ag_ml hE h1 (ag_rf hE b)) (ag_rf hE l1)) ?_)
  have h3 := ag_ad hE (ag_rf hE (o * b)) h2
  rwa [show o * b + (l1 + m * b) = (o + m) * b + l1 by grind] at h3
theorem sp_div_ok {P : Nat} (hP : ag_pr P) {b : Nat → Nat} {n w : Nat} (hb : sp_ok P b) (hn : sp_sz b 31 = n + 1) (hw : b n * w % P = 1 % P) : ∀ (s : Nat) (l o : Nat → Nat), sp_ok P l → sp_ok P o → s + n ≤ 31 → (∀ i, s + n ≤ i → l i = 0) → (∀ i, i < s → o i = 0) →
    sp_ok P (sp_div P b n w s l o).1 ∧ sp_ok P (sp_div P b n w s l o).2 ∧ (∀ i, n ≤ i → (sp_div P b n w s l o).1 i = 0) ∧ (∀ i, s ≤ i → (sp_div P b n w s l o).2 i = o i) ∧ @ag_q pz_T pz_R (pz_E P) (pz_ad (pz_ml (pe_f o) (pe_f b)) (pe_f l)) (pz_ad (pz_ml (pe_f (sp_div P b n w s l o).2) (pe_f b)) (pe_f (sp_div P b n w s l o).1)) := by
  have hp0 : 0 < P := by have := hP.1; omega
  intro s
  induction s with
  | zero =>
    intro l o hl ho _ hz _
    exact ⟨hl, ho, fun i hi => hz i (by omega), fun i _ => rfl, @ag_rf pz_T pz_R (pz_E P) (pz_E_ok P) _⟩
  | succ s ih =>
    intro l o hl ho hs hz hoz
    have hq : l (s + n) * w % P < P := Nat.mod_lt _ hp0
    have ho1 : sp_ok P (va_up o s (l (s + n) * w % P)) := fun i => by
      unfold va_up
      split
      · exact ⟨hq, fun hi => by omega⟩
      · exact ho i
    have h := ih (sp_st1 P b n s (l (s + n) * w % P) l) (va_up o s (l (s + n) * w % P)) (sp_st1_ok hp0 hl (by omega)) ho1 (by omega) (sp_st1_top hp0 hw hz) (fun i hi => by
      rw [va_up_ne _ _ (by omega)]
      exact hoz i (by omega))
    obtain ⟨h1, h2, h3, h4, h5⟩ := h
    refine ⟨h1, h2, h3, fun i hi => ?_, ?_⟩
    · show (sp_div P b n w s _ _).2 i = o i
      rw [h4 i (by omega), va_up_ne _ _ (by omega)]
    · refine @ag_tr pz_T pz_R (pz_E P) (pz_E_ok P) _ _ _ ?_ h5
      refine @ag_dvs pz_T pz_R (pz_E P) (pz_E_ok P) (pe_f o) _ (pz_mo s ((l (s + n) * w % P : Nat) : Int)) (pe_f b) (pe_f l) _ ?_ (sp_st1_pe hp0 hl hb hn (Nat.le_of_lt hq) (by omega))
      intro i
      show (P : Int) ∣ (pe_f (va_up o s (l (s + n) * w % P))).1 i + -((pe_f o).1 i + if i = s then ((l (s + n) * w % P : Nat) : Int) else 0)
      rw [pe_at ho1, pe_at ho]
      by_cases hi : i = s
      · rw [hi, va_up_self, if_pos rfl, hoz s (by omega)]
        rw [show ((l (s + n) * w % P : Nat) : Int) + -(((0 : Nat) : Int) + ((l (s + n) * w % P : Nat) : Int)) = 0 by simp; omega]
        exact Int.dvd_zero _
      · rw [va_up_ne _ _ hi, if_neg hi, show (o i : Int) + -((o i : Int) + 0) = 0 by omega]
        exact Int.dvd_zero _
def sp_inv (P c : Nat) : Nat := c ^ (P - 2) % P
theorem sp_inv_ok {P : Nat} (hP : ag_pr P) {c : Nat} (h0 : c ≠ 0) (hc : c < P) : c * sp_inv P c % P = 1 % P := by
  have h1 := pz_fermat1 hP (n := c) (fun h => absurd (Nat.le_of_dvd (by omega) h) (by omega))
  unfold sp_inv
  rw [Nat.mul_mod_mod]
  have h2 : (P : Int) ∣ ((c * c ^ (P - 2) : Nat) : Int) - ((1 : Nat) : Int) := by
    rw [Int.natCast_mul, Int.natCast_pow, Int.mul_comm]
    exact h1
  have h3 : ((c * c ^ (P - 2) : Nat) : Int) % (P : Int) = ((1 : Nat) : Int) % (P : Int) := Int.emod_eq_emod_iff_emod_sub_eq_zero.mpr (Int.emod_eq_zero_of_dvd h2)
  rw [← Int.natCast_emod, ← Int.natCast_emod] at h3
  exact Int.ofNat.inj h3
def sp_dv (P : Nat) (a b : Nat → Nat) : (Nat → Nat) × (Nat → Nat) := sp_div P b (sp_sz b 31 - 1) (sp_inv P (b (sp_sz b 31 - 1))) (sp_sz a 31 + 1 - sp_sz b 31) a (fun _ => 0)
def sp_rest (P : Nat) (a b : Nat → Nat) : Nat → Nat := (sp_dv P a b).1
def sp_quo (P : Nat) (a b : Nat → Nat) : Nat → Nat := (sp_dv P a b).2
theorem sp_z_ok {P : Nat} (hP : 0 < P) : sp_ok P (fun _ => 0) := fun _ => ⟨hP, fun _ => rfl⟩
theorem pe_z : pe_f (fun _ => 0) = pz_ct 0 := pz_ext (fun i => by
  rw [pe_at (P := 1) (sp_z_ok (by omega))]
  show ((0 : Nat) : Int) = if i = 0 then 0 else 0
  split <;> rfl)
theorem sp_dv_ok {P : Nat} (hP : ag_pr P) {a b : Nat → Nat} (ha : sp_ok P a) (hb : sp_ok P b) (hs : 0 < sp_sz b 31) :
    sp_ok P (sp_rest P a b) ∧ sp_ok P (sp_quo P a b) ∧ sp_sz (sp_rest P a b) 31 < sp_sz b 31 ∧ (∀ i, sp_sz a 31 + 1 - sp_sz b 31 ≤ i → sp_quo P a b i = 0) ∧ @ag_q pz_T pz_R (pz_E P) (pe_f a) (pz_ad (pz_ml (pe_f (sp_quo P a b)) (pe_f b)) (pe_f (sp_rest P a b))) := by
  have hp0 : 0 < P := by have := hP.1; omega
  have hla := sp_sz_le a 31
  have hlb := sp_sz_le b 31
  have h := sp_div_ok hP hb (n := sp_sz b 31 - 1) (w := sp_inv P (b (sp_sz b 31 - 1))) (by omega) (sp_inv_ok hP (sp_sz_top hs) (hb _).1) (sp_sz a 31 + 1 - sp_sz b 31) a (fun _ => 0) ha (sp_z_ok hp0) (by omega) (fun i hi => sp_hi ha (by omega)) (fun _ _ => rfl)
  obtain ⟨h1, h2, h3, h4, h5⟩ := h
  refine ⟨h1, h2, ?_, h4, ?_⟩
  · have h6 : sp_sz (sp_rest P a b) 31 ≤ sp_sz b 31 - 1 := sp_sz_lt h3
    omega
  · have e : pz_ad (pz_ml (pe_f (fun _ => 0)) (pe_f b)) (pe_f a) = pe_f a := by
      rw [pe_z]
      refine pz_ext (fun i => ?_)
      show pz_mul (pz_mo 0 0).1 (pe_f b).1 i + (pe_f a).1 i = (pe_f a).1 i
      rw [pz_mul_ct]
      omega
    rw [e] at h5
    exact h5
theorem sp_rest_is {P : Nat} (hP : ag_pr P) {a b : Nat → Nat} (ha : sp_ok P a) (hb : sp_ok P b) (hs : 0 < sp_sz b 31) : sp_is P b (sp_rest P a b) (pe_f a) := by
  obtain ⟨h1, -, h3, -, h5⟩ := sp_dv_ok hP ha hb hs
  refine ⟨h1, h3, ?_⟩
  have hI := pz_I_ok P (pe_f b)
  refine @ag_sy pz_T pz_R (pz_I P (pe_f b)) hI _ _ ?_
  refine @ag_tr pz_T pz_R (pz_I P (pe_f b)) hI _ _ _ (@ag_If_q pz_T pz_R (pz_E P) (pe_f b) _ _ h5) ?_
  refine ⟨pe_f (sp_quo P a b), @ag_of_eq pz_T pz_R (pz_E P) (pz_E_ok P) _ _ ?_⟩
  refine pz_ext (fun i => ?_)
  show (pz_mul (pe_f (sp_quo P a b)).1 (pe_f b).1 i + (pe_f (sp_rest P a b)).1 i) + -(pe_f (sp_rest P a b)).1 i = pz_mul (pe_f b).1 (pe_f (sp_quo P a b)).1 i
  rw [pz_mul_comm]
  omega
/-- the quotient's size -/
theorem sp_quo_sz {P : Nat} (hP : ag_pr P) {a b : Nat → Nat} (ha : sp_ok P a) (hb : sp_ok P b) (hs : 0 < sp_sz b 31) (hab : sp_sz b 31 ≤ sp_sz a 31) : sp_sz (sp_quo P a b) 31 = sp_sz a 31 + 1 - sp_sz b 31 := by
  obtain ⟨h1, h2, h3, h4, h5⟩ := sp_dv_ok hP ha hb hs
  refine sp_sz_of h2 h4 (Or.inr (fun hz => ?_))
  have h6 : ∀ i, sp_sz a 31 + 1 - sp_sz b 31 - 1 ≤ i → sp_quo P a b i = 0 := fun i hi => by
    by_cases he : i = sp_sz a 31 + 1 - sp_sz b 31 - 1
    · rw [he]; exact hz
    · exact h4 i (by omega)
  have hl : sp_sz (sp_quo P a b) 31 ≤ sp_sz a 31 - sp_sz b 31 := by
    have := sp_sz_lt (n := 31) h6
    omega
  have hla := sp_sz_le a 31
  have hz2 : (P : Int) ∣ (pe_f a).1 (sp_sz a 31 - 1) := by
    have h7 : (P : Int) ∣ (pe_f a).1 (sp_sz a 31 - 1) + -(pz_mul (pe_f (sp_quo P a b)).1 (pe_f b).1 (sp_sz a 31 - 1) + (pe_f (sp_rest P a b)).1 (sp_sz a 31 - 1)) := h5 (sp_sz a 31 - 1)
    have ea : (pe_f (sp_quo P a b)).1 = fun i => (sp_quo P a b i : Int) := funext (pe_at h2)
    have eb : (pe_f b).1 = fun i => (b i : Int) := funext (pe_at hb)
    rw [ea, eb, sp_cv_pz, sp_cv_hi h2 hb (by omega), pe_at h1, sp_hi h1 (by omega)] at h7
    rwa [show (pe_f a).1 (sp_sz a 31 - 1) + -(((0 : Nat) : Int) + ((0 : Nat) : Int)) = (pe_f a).1 (sp_sz a 31 - 1) by simp] at h7
  exact (pe_dg ha (by omega)).2 hz2
