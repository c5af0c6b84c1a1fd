/-! The reference goes on degree by degree to the end: the same parts -/
def sp_mc (f : Nat → Nat) : Prop := 0 < sp_sz f 31 ∧ f (sp_sz f 31 - 1) = 1
abbrev sp_1 : Nat → Nat := va_up (fun _ => 0) 0 1
theorem sp_1_sz : sp_sz sp_1 31 = 1 := by decide +kernel
theorem mc_mon {P : Nat} (hP : ag_pr P) {f : Nat → Nat} (h : sp_ok P f) (hs : 0 < sp_sz f 31) : sp_mc (sp_mon P f) := by
  unfold sp_mc
  rw [sp_mon_sz hP h]
  exact ⟨hs, sp_mon_top hP h hs⟩
theorem mc_gcd {P : Nat} (hP : ag_pr P) {a b : Nat → Nat} (ha : sp_ok P a) (hb : sp_ok P b) (hs : 0 < sp_sz (sp_gcd P a b) 31) : sp_mc (sp_gcd P a b) := by
  have hlb := sp_sz_le b 31
  obtain ⟨g1, -⟩ := sp_gl_ok hP 32 a b ha hb (by omega)
  unfold sp_gcd at hs ⊢
  rw [sp_mon_sz hP g1] at hs
  exact mc_mon hP g1 hs
theorem mc_quo {P : Nat} (hP : ag_pr P) {A C : Nat → Nat} (hA : sp_ok P A) (hC : sp_ok P C) (mA : sp_mc A) (mC : sp_mc C) (hd : pz_I P (pe_f C) (pe_f A)) : sp_mc (sp_quo P A C) := by
  have hP2 := hP.1
  have h1 := sp_dvd_sz hP hC hA mA.1 hd
  have hQ := (sp_dv_ok hP hA hC mC.1).2.1
  have hz := sp_quo_sz hP hA hC mC.1 h1.2
  have he := sp_quo_exact hP hA hC mC.1 hd
  refine ⟨by omega, ?_⟩
  have h2 : (P : Int) ∣ (pe_f A).1 (sp_sz A 31 - 1) + -(pz_mul (pe_f (sp_quo P A C)).1 (pe_f C).1 (sp_sz A 31 - 1)) := he (sp_sz A 31 - 1)
  have h3 := pz_top (p := (P : Int)) (b := (pe_f C).1) (n := sp_sz C 31 - 1) (fun i hi => by rw [pe_at hC, sp_hi hC (by omega)]; exact Int.dvd_zero _) (sp_sz (sp_quo P A C) 31 - 1) (pe_f (sp_quo P A C)).1 (fun i hi => by rw [pe_at hQ, sp_hi hQ (by omega)]; exact Int.dvd_zero _)
  rw [show sp_sz (sp_quo P A C) 31 - 1 + (sp_sz C 31 - 1) = sp_sz A 31 - 1 by omega, pe_at hC, pe_at hQ, mC.2] at h3
  rw [pe_at hA, mA.2] at h2
  refine pz_small (hQ _).1 (by omega) ?_
  have h4 := Int.dvd_add h2 h3
  have h5 : ((1 : Nat) : Int) + -(pz_mul (pe_f (sp_quo P A C)).1 (pe_f C).1 (sp_sz A 31 - 1)) + (pz_mul (pe_f (sp_quo P A C)).1 (pe_f C).1 (sp_sz A 31 - 1) - ((sp_quo P A C (sp_sz (sp_quo P A C) 31 - 1) : Nat) : Int) * ((1 : Nat) : Int)) = -(((sp_quo P A C (sp_sz (sp_quo P A C) 31 - 1) : Nat) : Int) - ((1 : Nat) : Int)) := by omega
  rw [h5] at h4
  exact Int.dvd_neg.mp h4
theorem gcd_z {P : Nat} (hP : ag_pr P) {A F : Nat → Nat} (hA : sp_ok P A) (h0 : 0 < sp_sz A 31) (hF : sp_ok P F) (h : pz_I P (pe_f A) (pe_f F)) : sp_gcd P F A = sp_mon P A := by
  have hp0 : 0 < P := by have := hP.1; omega
  have hz : sp_sz (fun _ => 0) 31 = 0 := by decide +kernel
  have h1 : sp_gcd P F A = sp_gcd P (fun _ => 0) A := sp_gcd_cg hP hF (sp_z_ok hp0) hA h0 (by rw [pe_z]; exact @ag_to0 pz_T pz_R (pz_I P (pe_f A)) _ h)
  have h2 : sp_rest P (fun _ => 0) A = fun _ => 0 := by
    unfold sp_rest sp_dv
    rw [hz, show 0 + 1 - sp_sz A 31 = 0 by omega]
    rfl
  have h3 : sp_gl P 32 (fun _ => 0) A = A := by
    show (if sp_sz A 31 = 0 then (fun _ => 0) else (if sp_sz (sp_rest P (fun _ => 0) A) 31 = 0 then A else _)) = A
    rw [if_neg (by omega), h2, if_pos hz]
  rw [h1]
  unfold sp_gcd
  rw [h3]
theorem quo_self {P : Nat} (hP : ag_pr P) {A : Nat → Nat} (mA : sp_mc A) : sp_quo P A A = sp_1 := by
  have hP2 := hP.1
  have h1 := mA.1
  unfold sp_quo sp_dv
  rw [show sp_sz A 31 + 1 - sp_sz A 31 = 0 + 1 by omega]
  show va_up (fun _ => 0) 0 (A (0 + (sp_sz A 31 - 1)) * sp_inv P (A (sp_sz A 31 - 1)) % P) = sp_1
  rw [Nat.zero_add, mA.2]
  unfold sp_inv
  rw [Nat.one_pow, Nat.one_mul, Nat.mod_mod, Nat.mod_eq_of_lt (by omega)]
theorem rest_one {P : Nat} (hP : ag_pr P) {A : Nat → Nat} (hA : sp_ok P A) : sp_rest P A sp_1 = fun _ => 0 := by
  have h := sp_dv_ok hP hA (sp_one_ok hP.1) (by rw [sp_1_sz]; omega)
  rw [sp_1_sz] at h
  exact funext (fun i => sp_sz_0 h.1 (by omega) i)
theorem gcd_1 {P : Nat} (hP : ag_pr P) {A : Nat → Nat} (hA : sp_ok P A) : sp_gcd P A sp_1 = sp_1 := by
  have hz : sp_sz (fun _ => 0) 31 = 0 := by decide +kernel
  have h3 : sp_gl P 32 A sp_1 = sp_1 := by
    show (if sp_sz sp_1 31 = 0 then A else (if sp_sz (sp_rest P A sp_1) 31 = 0 then sp_1 else _)) = sp_1
    rw [if_neg (by rw [sp_1_sz]; omega), rest_one hP hA, if_pos hz]
  unfold sp_gcd
  rw [h3]
  refine sp_mon_id hP (sp_one_ok hP.1) ?_
  rw [sp_1_sz]
  rfl
theorem quo_1 {P : Nat} (hP : ag_pr P) {A : Nat → Nat} (hA : sp_ok P A) : sp_quo P A sp_1 = A := by
  have hE := pz_E_ok P
  have h := sp_dv_ok hP hA (sp_one_ok hP.1) (by rw [sp_1_sz]; omega)
  refine pe_inj h.2.1 hA (@ag_sy pz_T pz_R _ hE _ _ (@ag_tr pz_T pz_R _ hE _ _ _ h.2.2.2.2 (@ag_of_eq pz_T pz_R _ hE _ _ ?_)))
  rw [rest_one hP hA, pe_z, sp_one_pe]
  have e1 : ∀ z : pz_T, pz_ml z (pz_ct 1) = z := fun z => pz_R.mul_one z
  have e2 : ∀ z : pz_T, pz_ad z (pz_ct 0) = z := fun z => pz_R.add_zero z
  rw [e1, e2]
theorem tk_self {P : Nat} (hP : ag_pr P) {A : Nat → Nat} (hA : sp_ok P A) (mA : sp_mc A) (h1 : 1 < sp_sz A 31) (d : Nat) (L : List pv_T) : tk_f P d 15 1 A A L = (sp_1, pi_in (1, d, A) L) := by
  rw [tk_s, if_neg (by omega), quo_self hP mA, gcd_1 hP hA, quo_1 hP hA, if_pos h1, tk_s, if_pos (by rw [sp_1_sz]; omega)]
theorem dd_ex {P : Nat} (hP : ag_pr P) {A : Nat → Nat} (hA : sp_ok P A) (h0 : 0 < sp_sz A 31) (h16 : sp_sz A 31 ≤ 16) (d : Nat) : ∃ F, sp_ok P F ∧ @ag_q pz_T pz_R (pz_I P (pe_f A)) (pe_f F) (dd_z P d) := by
  have hP2 := hP.1
  have hx2 : sp_sz sp_x 31 = 2 := by decide +kernel
  have h : ∀ n, ∃ r, sp_is P A r (pz_pw pz_X n) := by
    intro n
    induction n with
    | zero =>
      have h1 := sp_rest_is hP (sp_one_ok hP2) hA h0
      rw [sp_one_pe] at h1
      exact ⟨_, h1⟩
    | succ n ih =>
      obtain ⟨r, hr⟩ := ih
      have h2 := hr.2.1
      exact ⟨_, sp_mr hP hr.1 (sp_x_ok hP2) hA (by omega) h0 hr.2.2 (by rw [sp_x_pe]; exact @ag_rf pz_T pz_R _ (pz_I_ok P _) _)⟩
  obtain ⟨r, hr⟩ := h (P ^ d)
  exact ⟨_, fz_q hP2 hr⟩
noncomputable def md_f (P : Nat) : Nat → Nat → (Nat → Nat) → List pv_T → (Nat → Nat) × List pv_T
  | 0, _, A, L => (A, L)
  | k + 1, d, A, L => if sp_sz A 31 ≤ 1 then (A, L) else md_f P k (d + 1) (tk_f P d 15 1 A (dd_C P d A) L).1 (tk_f P d 15 1 A (dd_C P d A) L).2
theorem md_f_s (P k d : Nat) (A : Nat → Nat) (L : List pv_T) : md_f P (k + 1) d A L = if sp_sz A 31 ≤ 1 then (A, L) else md_f P k (d + 1) (tk_f P d 15 1 A (dd_C P d A) L).1 (tk_f P d 15 1 A (dd_C P d A) L).2 := rfl
theorem md_f_1 (P : Nat) : ∀ (k d : Nat) (L : List pv_T), md_f P k d sp_1 L = (sp_1, L) := fun k d L => by
  cases k with
  | zero => rfl
  | succ k => rw [md_f_s, if_pos (by rw [sp_1_sz]; omega)]
theorem md_f_ir {P : Nat} (hP : ag_pr P) {A : Nat → Nat} (hA : sp_ok P A) (mA : sp_mc A) (h1 : 1 < sp_sz A 31) (h16 : sp_sz A 31 ≤ 16) (hir : pz_ir P (sp_sz A 31 - 1) (pe_f A)) (L : List pv_T) : ∀ (k d : Nat), 1 ≤ d → d ≤ sp_sz A 31 - 1 → sp_sz A 31 ≤ d + k → md_f P k d A L = (sp_1, pi_in (1, sp_sz A 31 - 1, A) L) := by
  intro k
  induction k with
  | zero => intro d _ _ _; omega
  | succ k ih =>
    intro d hd1 hd2 hk
    obtain ⟨F, hF, hz⟩ := dd_ex hP hA (by omega) h16 d
    rw [md_f_s, if_neg (by omega), ← dd_C_eq hP hA (by omega) hF hz]
    by_cases hd : d < sp_sz A 31 - 1
    · have h2 := dd_none hP hF hA hz hir hd1 hd
      have h3 : tk_f P d 15 1 A (sp_gcd P F A) L = (A, L) := by rw [tk_s, if_pos (by omega)]
      rw [h3]
      exact ih (d + 1) (by omega) (by omega) (by omega)
    · have hdd : d = sp_sz A 31 - 1 := by omega
      have h2 : pz_I P (pe_f A) (pe_f F) := @ag_cg pz_T pz_R (pz_I P (pe_f A)) (pz_I_ok P _) _ _ hz (by rw [hdd]; exact dd_ir hP hir)
      rw [gcd_z hP hA (by omega) hF h2, sp_mon_id hP hA mA.2, tk_self hP hA mA h1, hdd]
      exact md_f_1 P k _ _
theorem tk_mc {P : Nat} (hP : ag_pr P) {d : Nat} : ∀ (k e : Nat) (A C : Nat → Nat) (L : List pv_T), sp_ok P A → sp_ok P C → sp_mc A → sp_mc C → pz_I P (pe_f C) (pe_f A) → sp_mc (tk_f P d k e A C L).1 := by
  intro k
  induction k with
  | zero => intro e A C L _ _ mA _ _; exact mA
  | succ k ih =>
    intro e A C L hA hC mA mC hd
    rw [tk_s]
    by_cases h1 : sp_sz C 31 ≤ 1
    · rw [if_pos h1]
      exact mA
    · rw [if_neg h1]
      obtain ⟨⟨a1, a2, a3, a4⟩, ⟨b1, b2, b3, b4, b5⟩, -⟩ := tk_it hP hA hC mC.1 mA.1 hd
      exact ih (e + 1) _ _ _ a1 b1 (mc_quo hP hA hC mA mC hd) (mc_gcd hP hC a1 b2) b4
/-- the end of both roads -/
def mk_e (r : (Nat → Nat) × List pv_T) : List pv_T := if 1 < sp_sz r.1 31 then pi_in (1, sp_sz r.1 31 - 1, r.1) r.2 else r.2
theorem mk_e_n {A : Nat → Nat} {L : List pv_T} (h : sp_sz A 31 ≤ 1) : mk_e (A, L) = L := if_neg (by show ¬ 1 < sp_sz A 31; omega)
theorem mk_e_y {A : Nat → Nat} {L : List pv_T} (h : 1 < sp_sz A 31) : mk_e (A, L) = pi_in (1, sp_sz A 31 - 1, A) L := if_pos h
theorem mk_f_s (P k d : Nat) (A : Nat → Nat) (L : List pv_T) : mk_f P (k + 1) d A L = if 2 * d < sp_sz A 31 then mk_f P k (d + 1) (tk_f P d 15 1 A (dd_C P d A) L).1 (tk_f P d 15 1 A (dd_C P d A) L).2 else (A, L) := rfl
/-- a round of taking out, in general -/
theorem tk_rd {P : Nat} (hP : ag_pr P) {d0 : Nat} {A : Nat → Nat} {L : List pv_T} (hA : sp_ok P A) (mA : sp_mc A) (h16 : sp_sz A 31 ≤ 16) (hfree : dd_free P d0 A) : (sp_ok P (dd_C P (d0 + 1) A) ∧ sp_mc (dd_C P (d0 + 1) A) ∧ pz_I P (pe_f (dd_C P (d0 + 1) A)) (pe_f A)) ∧ sp_ok P (tk_f P (d0 + 1) 15 1 A (dd_C P (d0 + 1) A) L).1 ∧ sp_mc (tk_f P (d0 + 1) 15 1 A (dd_C P (d0 + 1) A) L).1 ∧ sp_sz (tk_f P (d0 + 1) 15 1 A (dd_C P (d0 + 1) A) L).1 31 ≤ sp_sz A 31 ∧ dd_free P (d0 + 1) (tk_f P (d0 + 1) 15 1 A (dd_C P (d0 + 1) A) L).1 := by
  obtain ⟨F, hF, hz⟩ := dd_ex hP hA mA.1 h16 (d0 + 1)
  rw [← dd_C_eq hP hA mA.1 hF hz]
  obtain ⟨g1, g2, g3, g4⟩ := sp_gcd_ok hP hF hA
  have gs := sp_dvd_sz hP g1 hA mA.1 g3
  have mC := mc_gcd hP hF hA gs.1
  have hk := tk_ok hP (d := d0 + 1) 15 1 A _ L hA g1 gs.1 mA.1 g3
  exact ⟨⟨g1, mC, g3⟩, hk.1, tk_mc hP 15 1 A _ L hA g1 mA mC g3, hk.2.2.1, tk_free hP 15 1 A _ L hA g1 gs.1 mA.1 g3 (by omega) (dd_start hP hF hA hz hfree)⟩
theorem md_end {P : Nat} (hP : ag_pr P) {d : Nat} {A : Nat → Nat} (hA : sp_ok P A) (h16 : sp_sz A 31 ≤ 16) (hfree : dd_free P d A) (hd : 16 ≤ d) : sp_sz A 31 ≤ 1 := by
  refine Nat.le_of_not_lt (fun h1 => ?_)
  have h2 := dd_last hP hA h1 hfree (by omega)
  exact hfree _ _ h2 (by omega) (@ag_If_f pz_T pz_R (pz_E P) (pz_E_ok P) _)
theorem md_mk {P : Nat} (hP : ag_pr P) : ∀ (k d0 : Nat) (A : Nat → Nat) (L : List pv_T), sp_ok P A → sp_mc A → sp_sz A 31 ≤ 16 → dd_free P d0 A → 16 ≤ d0 + k → (md_f P k (d0 + 1) A L).2 = mk_e (mk_f P k (d0 + 1) A L) := by
  intro k
  induction k with
  | zero =>
    intro d0 A L hA mA h16 hfree hk
    have h1 := md_end hP hA h16 hfree (by omega)
    exact (mk_e_n h1).symm
  | succ k ih =>
    intro d0 A L hA mA h16 hfree hk
    rw [mk_f_s]
    by_cases h1 : sp_sz A 31 ≤ 1
    · rw [md_f_s, if_pos h1, if_neg (by omega)]
      exact (mk_e_n h1).symm
    · by_cases h2 : 2 * (d0 + 1) < sp_sz A 31
      · rw [md_f_s, if_neg h1, if_pos h2]
        obtain ⟨-, r1, r2, r3, r4⟩ := tk_rd hP (L := L) hA mA h16 hfree
        exact ih (d0 + 1) _ _ r1 r2 (by omega) r4 (by omega)
      · have hir := dd_last hP hA (by omega) hfree (by omega)
        have hn : d0 < sp_sz A 31 - 1 := Nat.lt_of_not_le (fun h => hfree _ _ hir h (@ag_If_f pz_T pz_R (pz_E P) (pz_E_ok P) _))
        rw [if_neg h2, md_f_ir hP hA mA (by omega) h16 hir L (k + 1) (d0 + 1) (by omega) (by omega) (by omega)]
        exact (mk_e_y (by omega)).symm
theorem md_mkl {P : Nat} (hP : ag_pr P) {f : Nat → Nat} (hf : sp_ok P f) (h0 : 0 < sp_sz f 31) (h16 : sp_sz f 31 ≤ 16) : (md_f P 16 1 (sp_mon P f) []).2 = mk_l P f := by
  have h := md_mk hP 16 0 (sp_mon P f) [] (sp_mon_ok hP hf) (mc_mon hP hf h0) (by rw [sp_mon_sz hP hf]; exact h16) (fun n g hg hn _ => by have := hg.2.1; omega) (by omega)
  rw [show (1 : Nat) = 0 + 1 from rfl, h]
  rfl
/-! What is known of all parts -/
def pq_ok (P : Nat) (p : pv_T) : Prop := 1 ≤ p.1 ∧ 1 ≤ p.2.1 ∧ p.2.1 ≤ 31 ∧ sp_ok P p.2.2 ∧ 1 < sp_sz p.2.2 31 ∧ sp_sz p.2.2 31 ≤ 16
theorem wh_in (x : pv_T) (L : List pv_T) : wh_s (pi_in x L) = x.1 * (sp_sz x.2.2 31 - 1) + wh_s L := by
  induction L with
  | nil => rfl
  | cons p L ih =>
    unfold pi_in
    split
    · show p.1 * _ + wh_s (pi_in x L) = _
      rw [ih]
      show _ = _ + (p.1 * _ + wh_s L)
      omega
    · rfl
theorem tk_all {P : Nat} (hP : ag_pr P) {d : Nat} (hd1 : 1 ≤ d) (hd2 : d ≤ 31) : ∀ (k e : Nat) (A C : Nat → Nat) (L : List pv_T), 1 ≤ e → sp_ok P A → sp_ok P C → 0 < sp_sz C 31 → 0 < sp_sz A 31 → pz_I P (pe_f C) (pe_f A) → sp_sz A 31 ≤ 16 → sp_sz A 31 ≤ k + 1 → (∀ p ∈ L, pq_ok P p) →
    (∀ p ∈ (tk_f P d k e A C L).2, pq_ok P p) ∧ sp_sz (tk_f P d k e A C L).1 31 - 1 + wh_s (tk_f P d k e A C L).2 = sp_sz A 31 - 1 + wh_s L + (e - 1) * (sp_sz C 31 - 1) := by
  intro k
  induction k with
  | zero =>
    intro e A C L he hA hC h0 hA0 hd h16 hk hL
    have h1 := sp_dvd_sz hP hC hA hA0 hd
    refine ⟨hL, ?_⟩
    show sp_sz A 31 - 1 + wh_s L = _
    rw [show sp_sz C 31 - 1 = 0 by omega, Nat.mul_zero, Nat.add_zero]
  | succ k ih =>
    intro e A C L he hA hC h0 hA0 hd h16 hk hL
    rw [tk_s]
    by_cases h1 : sp_sz C 31 ≤ 1
    · rw [if_pos h1]
      refine ⟨hL, ?_⟩
      show sp_sz A 31 - 1 + wh_s L = _
      rw [show sp_sz C 31 - 1 = 0 by omega, Nat.mul_zero, Nat.add_zero]
    · rw [if_neg h1]
      obtain ⟨⟨a1, a2, a3, a4⟩, ⟨b1, b2, b3, b4, b5⟩, x1, x2⟩ := tk_it hP hA hC h0 hA0 hd
      generalize hG : sp_gcd P C (sp_quo P A C) = G at b1 b2 b3 b4 b5 x1 x2 ⊢
      generalize hD : sp_quo P C G = D at x1 x2 ⊢
      have hstep : ∀ L' : List pv_T, (∀ p ∈ L', pq_ok P p) → wh_s L' = e * (sp_sz D 31 - 1) + wh_s L → (∀ p ∈ (tk_f P d k (e + 1) (sp_quo P A C) G L').2, pq_ok P p) ∧ sp_sz (tk_f P d k (e + 1) (sp_quo P A C) G L').1 31 - 1 + wh_s (tk_f P d k (e + 1) (sp_quo P A C) G L').2 = sp_sz A 31 - 1 + wh_s L + (e - 1) * (sp_sz C 31 - 1) := by
        intro L' hL' hs
        have h2 := ih (e + 1) (sp_quo P A C) G L' (by omega) a1 b1 b2 (by omega) b4 (by omega) (by omega) hL'
        refine ⟨h2.1, ?_⟩
        rw [h2.2, hs, Nat.add_sub_cancel]
        obtain ⟨e', rfl⟩ : ∃ e', e = e' + 1 := ⟨e - 1, by omega⟩
        rw [Nat.add_sub_cancel]
        obtain ⟨c, hc⟩ : ∃ c, sp_sz C 31 = c + 1 := ⟨sp_sz C 31 - 1, by omega⟩
        obtain ⟨q, hq⟩ : ∃ q, sp_sz G 31 = q + 1 := ⟨sp_sz G 31 - 1, by omega⟩
        obtain ⟨r, hr⟩ : ∃ r, c = q + r := ⟨c - q, by omega⟩
        rw [show sp_sz D 31 - 1 = r by omega, show sp_sz G 31 - 1 = q by omega, show sp_sz C 31 - 1 = q + r by omega, show sp_sz (sp_quo P A C) 31 - 1 = sp_sz A 31 - 1 - (q + r) by omega, Nat.succ_mul, Nat.succ_mul, Nat.mul_add]
        omega
      by_cases h3 : 1 < sp_sz D 31
      · rw [if_pos h3]
        refine hstep _ (fun p hp => ?_) (wh_in _ _)
        rcases pi_in_mem hp with h4 | h4
        · rw [h4]
          exact ⟨he, hd1, hd2, x1, h3, by show sp_sz D 31 ≤ 16; omega⟩
        · exact hL p h4
      · rw [if_neg h3]
        refine hstep L hL ?_
        rw [show sp_sz D 31 - 1 = 0 by omega, Nat.mul_zero, Nat.zero_add]
theorem mk_all {P : Nat} (hP : ag_pr P) : ∀ (k d0 : Nat) (A : Nat → Nat) (L : List pv_T), sp_ok P A → sp_mc A → sp_sz A 31 ≤ 16 → dd_free P d0 A → (∀ p ∈ L, pq_ok P p) → d0 ≤ 30 →
    ((∀ p ∈ (mk_f P k (d0 + 1) A L).2, pq_ok P p) ∧ sp_ok P (mk_f P k (d0 + 1) A L).1 ∧ sp_sz (mk_f P k (d0 + 1) A L).1 31 ≤ 16) ∧ sp_sz (mk_f P k (d0 + 1) A L).1 31 - 1 + wh_s (mk_f P k (d0 + 1) A L).2 = sp_sz A 31 - 1 + wh_s L := by
  intro k
  induction k with
  | zero => intro d0 A L hA mA h16 _ hL _; exact ⟨⟨hL, hA, h16⟩, rfl⟩
  | succ k ih =>
    intro d0 A L hA mA h16 hfree hL hd
    rw [mk_f_s]
    by_cases h2 : 2 * (d0 + 1) < sp_sz A 31
    · rw [if_pos h2]
      obtain ⟨⟨c1, c2, c3⟩, r1, r2, r3, r4⟩ := tk_rd hP (L := L) hA mA h16 hfree
      have ha := tk_all hP (d := d0 + 1) (by omega) (by omega) 15 1 A _ L (by omega) hA c1 c2.1 mA.1 c3 h16 (by omega) hL
      have h3 := ih (d0 + 1) _ _ r1 r2 (by omega) r4 ha.1 (by omega)
      refine ⟨h3.1, ?_⟩
      rw [h3.2, ha.2, Nat.sub_self, Nat.zero_mul, Nat.add_zero]
    · rw [if_neg h2]
      exact ⟨⟨hL, hA, h16⟩, rfl⟩
theorem mkl_all {P : Nat} (hP : ag_pr P) {f : Nat → Nat} (hf : sp_ok P f) (h0 : 0 < sp_sz f 31) (h16 : sp_sz f 31 ≤ 16) : (∀ p ∈ mk_l P f, pq_ok P p) ∧ wh_s (mk_l P f) = sp_sz f 31 - 1 := by
  have h := mk_all hP 16 0 (sp_mon P f) [] (sp_mon_ok hP hf) (mc_mon hP hf h0) (by rw [sp_mon_sz hP hf]; exact h16) (fun n g hg hn _ => by have := hg.2.1; omega) (fun p hp => absurd hp List.not_mem_nil) (by omega)
  rw [show (0 : Nat) + 1 = 1 from rfl, sp_mon_sz hP hf] at h
  obtain ⟨⟨h1, h2, h3⟩, h4⟩ := h
  have h5 : wh_s [] = 0 := rfl
  rw [h5, Nat.add_zero] at h4
  have hE : mk_l P f = mk_e (mk_f P 16 1 (sp_mon P f) []) := rfl
  rw [hE]
  unfold mk_e
  by_cases h6 : 1 < sp_sz (mk_f P 16 1 (sp_mon P f) []).1 31
  · rw [if_pos h6, wh_in]
    refine ⟨fun p hp => ?_, by show 1 * (sp_sz (mk_f P 16 1 (sp_mon P f) []).1 31 - 1) + wh_s (mk_f P 16 1 (sp_mon P f) []).2 = _; omega⟩
    rcases pi_in_mem hp with h7 | h7
    · rw [h7]
      exact ⟨Nat.le_refl 1, by show 1 ≤ sp_sz _ 31 - 1; omega, by show sp_sz _ 31 - 1 ≤ 31; omega, h2, h6, h3⟩
    · exact h1 p h7
  · rw [if_neg h6]
    exact ⟨h1, by omega⟩
