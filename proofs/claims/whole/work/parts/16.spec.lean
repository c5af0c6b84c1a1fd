/-! What class and reference compute: polynomials as functions, coefficients 0 .. P - 1, lowest first, none from place 31 on -/
def sp_sz (f : Nat → Nat) : Nat → Nat
  | 0 => 0
  | n + 1 => if f n = 0 then sp_sz f n else n + 1
theorem sp_sz_s (f : Nat → Nat) (n : Nat) : sp_sz f (n + 1) = if f n = 0 then sp_sz f n else n + 1 := rfl
theorem sp_sz_z (f : Nat → Nat) : sp_sz f 0 = 0 := rfl
theorem sp_sz_le (f : Nat → Nat) (n : Nat) : sp_sz f n ≤ n := by
  induction n with
  | zero => exact Nat.le_refl _
  | succ n ih =>
    rw [sp_sz_s]
    split
    · omega
    · exact Nat.le_refl _
theorem sp_sz_hi {f : Nat → Nat} {n i : Nat} (h : sp_sz f n ≤ i) (hi : i < n) : f i = 0 := by
  induction n with
  | zero => omega
  | succ n ih =>
    rw [sp_sz_s] at h
    split at h
    · by_cases hin : i = n
      · subst hin
        assumption
      · exact ih h (by omega)
    · omega
theorem sp_sz_top {f : Nat → Nat} {n : Nat} (h : 0 < sp_sz f n) : f (sp_sz f n - 1) ≠ 0 := by
  induction n with
  | zero => exact absurd h (by rw [sp_sz_z]; omega)
  | succ n ih =>
    rw [sp_sz_s] at h ⊢
    by_cases hz : f n = 0
    · rw [if_pos hz] at h ⊢
      exact ih h
    · rw [if_neg hz, Nat.add_sub_cancel]
      exact hz
theorem sp_sz_uni {f : Nat → Nat} {n k : Nat} (hk : k ≤ n) (h0 : ∀ i, k ≤ i → i < n → f i = 0) (h1 : k = 0 ∨ f (k - 1) ≠ 0) : sp_sz f n = k := by
  induction n with
  | zero =>
    rw [sp_sz_z]
    omega
  | succ n ih =>
    rw [sp_sz_s]
    split
    · rename_i hz
      refine ih ?_ (fun i hi hn => h0 i hi (by omega))
      rcases h1 with h1 | h1
      · omega
      · by_cases he : k = n + 1
        · subst he
          rw [Nat.add_sub_cancel] at h1
          exact absurd hz h1
        · omega
    · rename_i hz
      by_cases he : k = n + 1
      · exact he.symm
      · exact absurd (h0 n (by omega) (by omega)) hz
theorem sp_sz_cg {f g : Nat → Nat} {n : Nat} (h : ∀ i, i < n → f i = g i) : sp_sz f n = sp_sz g n := by
  induction n with
  | zero => rfl
  | succ n ih =>
    rw [sp_sz_s, sp_sz_s, h n (by omega), ih (fun i hi => h i (by omega))]
def sp_ok (P : Nat) (f : Nat → Nat) : Prop := ∀ i, f i < P ∧ (31 ≤ i → f i = 0)
theorem sp_sz_32 {P : Nat} {f : Nat → Nat} (h : sp_ok P f) : sp_sz f 32 = sp_sz f 31 := by
  show (if f 31 = 0 then sp_sz f 31 else 32) = sp_sz f 31
  rw [if_pos ((h 31).2 (Nat.le_refl _))]
theorem sp_hi {P : Nat} {f : Nat → Nat} (h : sp_ok P f) {i : Nat} (hi : sp_sz f 31 ≤ i) : f i = 0 := by
  by_cases h1 : i < 31
  · exact sp_sz_hi hi h1
  · exact (h i).2 (by omega)
theorem sp_sz_0 {P : Nat} {f : Nat → Nat} (h : sp_ok P f) (hz : sp_sz f 31 = 0) (i : Nat) : f i = 0 := sp_hi h (by omega)
theorem sp_sz_of {P : Nat} {f : Nat → Nat} (h : sp_ok P f) {k : Nat} (h0 : ∀ i, k ≤ i → f i = 0) (h1 : k = 0 ∨ f (k - 1) ≠ 0) : sp_sz f 31 = k := by
  refine sp_sz_uni ?_ (fun i hi _ => h0 i hi) h1
  rcases h1 with h1 | h1
  · omega
  · refine Nat.le_of_not_lt (fun hlt => h1 ((h (k - 1)).2 (by omega)))
theorem sp_sz_lt {f : Nat → Nat} {n k : Nat} (h : ∀ i, k ≤ i → f i = 0) : sp_sz f n ≤ k := by
  refine Nat.le_of_not_lt (fun hlt => ?_)
  exact sp_sz_top (f := f) (n := n) (by omega) (h _ (by omega))
/-- as a polynomial -/
def pe_f (f : Nat → Nat) : pz_T := @ag_ev pz_T pz_R f 31 pz_X
theorem pe_at {P : Nat} {f : Nat → Nat} (h : sp_ok P f) (i : Nat) : (pe_f f).1 i = (f i : Int) := by
  unfold pe_f
  rw [pz_ev_at]
  by_cases hi : i < 31
  · rw [if_pos hi]
  · rw [if_neg hi, (h i).2 (by omega)]
    rfl
theorem pe_dg {P : Nat} {f : Nat → Nat} (h : sp_ok P f) (hs : 0 < sp_sz f 31) : pz_dg P (sp_sz f 31 - 1) (pe_f f) := by
  refine ⟨fun i hi => ?_, fun hd => ?_⟩
  · rw [pe_at h, sp_hi h (by omega)]
    exact Int.dvd_zero _
  · rw [pe_at h] at hd
    have h1 := Nat.le_of_dvd (Nat.pos_of_ne_zero (sp_sz_top hs)) (Int.ofNat_dvd.mp hd)
    have h2 := (h (sp_sz f 31 - 1)).1
    omega
theorem pe_lt {P : Nat} {f : Nat → Nat} (h : sp_ok P f) {n : Nat} (hs : sp_sz f 31 ≤ n) : pz_lt P n (pe_f f) := fun i hi => by
  rw [pe_at h, sp_hi h (by omega)]
  exact Int.dvd_zero _
theorem pe_inj {P : Nat} {f g : Nat → Nat} (hf : sp_ok P f) (hg : sp_ok P g) (h : @ag_q pz_T pz_R (pz_E P) (pe_f f) (pe_f g)) : f = g := funext (fun i => by
  have h1 : (P : Int) ∣ (pe_f f).1 i + -(pe_f g).1 i := h i
  rw [pe_at hf, pe_at hg] at h1
  exact pz_small (hf i).1 (hg i).1 (by rw [Int.sub_eq_add_neg]; exact h1))
/-- r is the rest of z by m -/
def sp_is (P : Nat) (m r : Nat → Nat) (z : pz_T) : Prop := sp_ok P r ∧ sp_sz r 31 < sp_sz m 31 ∧ @ag_q pz_T pz_R (pz_I P (pe_f m)) (pe_f r) z
theorem sp_is_uni {P : Nat} (hP : ag_pr P) {m r r' : Nat → Nat} {z : pz_T} (hm : sp_ok P m) (h : sp_is P m r z) (h' : sp_is P m r' z) : r = r' := by
  have hI := pz_I_ok P (pe_f m)
  refine pe_inj h.1 h'.1 ?_
  have h1 := @ag_tr pz_T pz_R (pz_I P (pe_f m)) hI _ _ _ h.2.2 (@ag_sy pz_T pz_R (pz_I P (pe_f m)) hI _ _ h'.2.2)
  have hs := h.2.1
  have hs' := h'.2.1
  exact pz_low hP (pe_dg hm (by omega)) h1 (fun i hi => Int.dvd_add (pe_lt h.1 (n := sp_sz m 31 - 1) (by omega) i hi) (Int.dvd_neg.mpr (pe_lt h'.1 (n := sp_sz m 31 - 1) (by omega) i hi)))
theorem sp_is_q {P : Nat} {m r : Nat → Nat} {z z' : pz_T} (h : sp_is P m r z) (hz : @ag_q pz_T pz_R (pz_I P (pe_f m)) z z') : sp_is P m r z' := ⟨h.1, h.2.1, @ag_tr pz_T pz_R (pz_I P (pe_f m)) (pz_I_ok P (pe_f m)) _ _ _ h.2.2 hz⟩
/-- a + b k -/
def sp_add (P : Nat) (a b : Nat → Nat) (k : Nat) : Nat → Nat := fun i => (a i + b i * k) % P
theorem sp_add_ok {P : Nat} (hP : 0 < P) {a b : Nat → Nat} (ha : sp_ok P a) (hb : sp_ok P b) (k : Nat) : sp_ok P (sp_add P a b k) := fun i => ⟨Nat.mod_lt _ hP, fun hi => by
  show (a i + b i * k) % P = 0
  rw [(ha i).2 hi, (hb i).2 hi, Nat.zero_mul, Nat.add_zero, Nat.zero_mod]⟩
theorem pz_modE (P n : Nat) : (P : Int) ∣ ((n % P : Nat) : Int) - (n : Int) := by
  have h : (P : Int) ∣ (n : Int) - (n : Int) % (P : Int) := Int.dvd_self_sub_emod
  have h2 := Int.dvd_neg.mpr h
  rw [Int.natCast_emod]
  rwa [show -((n : Int) - (n : Int) % (P : Int)) = (n : Int) % (P : Int) - (n : Int) by omega] at h2
theorem sp_add_pe {P : Nat} (hP : 0 < P) {a b : Nat → Nat} (ha : sp_ok P a) (hb : sp_ok P b) (k : Nat) : @ag_q pz_T pz_R (pz_E P) (pe_f (sp_add P a b k)) (pz_ad (pe_f a) (pz_ml (pz_ct k) (pe_f b))) := fun i => by
  show (P : Int) ∣ (pe_f (sp_add P a b k)).1 i + -((pe_f a).1 i + pz_mul (pz_mo 0 k).1 (pe_f b).1 i)
  rw [pz_mul_ct, pe_at (sp_add_ok hP ha hb k), pe_at ha, pe_at hb]
  have h := pz_modE P (a i + b i * k)
  have e : ((a i + b i * k : Nat) : Int) = (a i : Int) + (k : Int) * (b i : Int) := by
    rw [Int.natCast_add, Int.natCast_mul, Int.mul_comm (b i : Int)]
  rw [e] at h
  rw [← Int.sub_eq_add_neg]
  exact h
/-- a k -/
def sp_sc (P : Nat) (a : Nat → Nat) (k : Nat) : Nat → Nat := fun i => a i * k % P
theorem sp_sc_ok {P : Nat} (hP : 0 < P) {a : Nat → Nat} (ha : sp_ok P a) (k : Nat) : sp_ok P (sp_sc P a k) := fun i => ⟨Nat.mod_lt _ hP, fun hi => by
  show a i * k % P = 0
  rw [(ha i).2 hi, Nat.zero_mul, Nat.zero_mod]⟩
theorem sp_sc_pe {P : Nat} (hP : 0 < P) {a : Nat → Nat} (ha : sp_ok P a) (k : Nat) : @ag_q pz_T pz_R (pz_E P) (pe_f (sp_sc P a k)) (pz_ml (pz_ct k) (pe_f a)) := fun i => by
  show (P : Int) ∣ (pe_f (sp_sc P a k)).1 i + -pz_mul (pz_mo 0 k).1 (pe_f a).1 i
  rw [pz_mul_ct, pe_at (sp_sc_ok hP ha k), pe_at ha]
  have h := pz_modE P (a i * k)
  rw [Int.natCast_mul, Int.mul_comm (a i : Int)] at h
  rw [← Int.sub_eq_add_neg]
  exact h
/-- a b -/
def sp_sum (f : Nat → Nat) : Nat → Nat
  | 0 => 0
  | n + 1 => sp_sum f n + f n
theorem sp_sum_0 (f : Nat → Nat) (n : Nat) : sp_sum f (n + 1) = f 0 + sp_sum (fun k => f (k + 1)) n := by
  induction n with
  | zero =>
    show 0 + f 0 = f 0 + 0
    omega
  | succ n ih =>
    show sp_sum f (n + 1) + f (n + 1) = f 0 + (sp_sum (fun k => f (k + 1)) n + f (n + 1))
    rw [ih]
    omega
theorem sp_sum_cg {f g : Nat → Nat} {n : Nat} (h : ∀ k, k < n → f k = g k) : sp_sum f n = sp_sum g n := by
  induction n with
  | zero => rfl
  | succ n ih =>
    show sp_sum f n + f n = sp_sum g n + g n
    rw [ih (fun k hk => h k (by omega)), h n (by omega)]
theorem sp_sum_z {f : Nat → Nat} {n : Nat} (h : ∀ k, k < n → f k = 0) : sp_sum f n = 0 := by
  induction n with
  | zero => rfl
  | succ n ih =>
    show sp_sum f n + f n = 0
    rw [ih (fun k hk => h k (by omega)), h n (by omega)]
def sp_cv (a b : Nat → Nat) (k : Nat) : Nat := sp_sum (fun i => a i * b (k - i)) (k + 1)
theorem sp_cv_s (a b : Nat → Nat) (k : Nat) : sp_cv a b (k + 1) = a 0 * b (k + 1) + sp_cv (fun i => a (i + 1)) b k := by
  unfold sp_cv
  rw [sp_sum_0]
  congr 1
  refine sp_sum_cg (fun i hi => ?_)
  show a (i + 1) * b (k + 1 - (i + 1)) = a (i + 1) * b (k - i)
  rw [Nat.add_sub_add_right]
theorem sp_cv_pz (b : Nat → Nat) (k : Nat) : ∀ a : Nat → Nat, pz_mul (fun i => (a i : Int)) (fun i => (b i : Int)) k = (sp_cv a b k : Int) := by
  induction k with
  | zero =>
    intro a
    show (a 0 : Int) * (b 0 : Int) = ((0 + a 0 * b (0 - 0) : Nat) : Int)
    rw [Nat.zero_add, Int.natCast_mul]
  | succ k ih =>
    intro a
    have h := ih (fun i => a (i + 1))
    rw [sp_cv_s, pz_mul_s, Int.natCast_add, Int.natCast_mul, ← h]
    rfl
def sp_mul (P : Nat) (a b : Nat → Nat) : Nat → Nat := fun k => sp_cv a b k % P
theorem sp_cv_hi {P : Nat} {a b : Nat → Nat} (ha : sp_ok P a) (hb : sp_ok P b) {k : Nat} (hk : sp_sz a 31 + sp_sz b 31 ≤ k + 1) : sp_cv a b k = 0 := by
  refine sp_sum_z (fun i hi => ?_)
  show a i * b (k - i) = 0
  by_cases h : sp_sz a 31 ≤ i
  · rw [sp_hi ha h, Nat.zero_mul]
  · rw [sp_hi hb (show sp_sz b 31 ≤ k - i by omega), Nat.mul_zero]
theorem sp_mul_ok {P : Nat} (hP : 0 < P) {a b : Nat → Nat} (ha : sp_ok P a) (hb : sp_ok P b) (hs : sp_sz a 31 + sp_sz b 31 ≤ 32) : sp_ok P (sp_mul P a b) := fun i => ⟨Nat.mod_lt _ hP, fun hi => by
  show sp_cv a b i % P = 0
  rw [sp_cv_hi ha hb (by omega), Nat.zero_mod]⟩
theorem sp_mul_pe {P : Nat} (hP : 0 < P) {a b : Nat → Nat} (ha : sp_ok P a) (hb : sp_ok P b) (hs : sp_sz a 31 + sp_sz b 31 ≤ 32) : @ag_q pz_T pz_R (pz_E P) (pe_f (sp_mul P a b)) (pz_ml (pe_f a) (pe_f b)) := fun i => by
  show (P : Int) ∣ (pe_f (sp_mul P a b)).1 i + -pz_mul (pe_f a).1 (pe_f b).1 i
  have ea : (pe_f a).1 = fun i => (a i : Int) := funext (pe_at ha)
  have eb : (pe_f b).1 = fun i => (b i : Int) := funext (pe_at hb)
  rw [ea, eb, sp_cv_pz, pe_at (sp_mul_ok hP ha hb hs), ← Int.sub_eq_add_neg]
  exact pz_modE P _
/-- one step of a division, all steps -/
def sp_st1 (P : Nat) (b : Nat → Nat) (n s q : Nat) (u : Nat → Nat) : Nat → Nat := fun i => if s ≤ i ∧ i ≤ s + n then (u i + (P - q) * b (i - s)) % P else u i
def sp_div (P : Nat) (b : Nat → Nat) (n w : Nat) : Nat → (Nat → Nat) → (Nat → Nat) → (Nat → Nat) × (Nat → Nat)
  | 0, l, o => (l, o)
  | s + 1, l, o => sp_div P b n w s (sp_st1 P b n s (l (s + n) * w % P) l) (va_up o s (l (s + n) * w % P))
theorem pz_mo_mul (b : Nat → Int) (k : Int) (s : Nat) : ∀ i, pz_mul (pz_mo s k).1 b i = if s ≤ i then k * b (i - s) else 0 := by
  induction s with
  | zero =>
    intro i
    rw [pz_mul_ct, if_pos (Nat.zero_le _), Nat.sub_zero]
  | succ s ih =>
    intro i
    have h0 : (pz_mo (s + 1) k).1 0 = 0 := by
      show (if (0 : Nat) = s + 1 then k else 0) = 0
      rw [if_neg (by omega)]
    have hsh : pz_sh (pz_mo (s + 1) k).1 = (pz_mo s k).1 := funext (fun j => by
      show (if j + 1 = s + 1 then k else 0) = if j = s then k else 0
      by_cases hj : j = s
      · rw [if_pos hj, if_pos (by omega)]
      · rw [if_neg hj, if_neg (by omega)])
    cases i with
    | zero => rw [pz_mul_0, h0, Int.zero_mul, if_neg (by omega)]
    | succ i =>
      rw [pz_mul_s, h0, hsh, ih i, Int.zero_mul, Int.zero_add]
      by_cases hi : s ≤ i
      · rw [if_pos hi, if_pos (by omega), Nat.add_sub_add_right]
      · rw [if_neg hi, if_neg (by omega)]
theorem sp_st1_ok {P : Nat} (hP : 0 < P) {b u : Nat → Nat} (hu : sp_ok P u) {n s q : Nat} (hs : s + n < 31) : sp_ok P (sp_st1 P b n s q u) := fun i => by
  unfold sp_st1
  split
  · exact ⟨Nat.mod_lt _ hP, fun hi => by omega⟩
  · exact hu i
theorem sp_st1_pe {P : Nat} (hP : 0 < P) {b u : Nat → Nat} (hu : sp_ok P u) (hb : sp_ok P b) {n s q : Nat} (hn : sp_sz b 31 = n + 1) (hq : q ≤ P) (hs : s + n < 31) : @ag_q pz_T pz_R (pz_E P) (pz_ad (pe_f (sp_st1 P b n s q u)) (pz_ml (pz_mo s q) (pe_f b))) (pe_f u) := fun i => by
  show (P : Int) ∣ ((pe_f (sp_st1 P b n s q u)).1 i + pz_mul (pz_mo s q).1 (pe_f b).1 i) + -(pe_f u).1 i
  rw [pz_mo_mul, pe_at (sp_st1_ok hP hu hs), pe_at hu, pe_at hb]
  unfold sp_st1
  by_cases h : s ≤ i ∧ i ≤ s + n
  · rw [if_pos h, if_pos h.1]
    have h1 := pz_modE P (u i + (P - q) * b (i - s))
    have e : ((u i + (P - q) * b (i - s) : Nat) : Int) = (u i : Int) + ((P : Int) * (b (i - s) : Int) - (q : Int) * (b (i - s) : Int)) := by
      rw [Int.natCast_add, Int.natCast_mul, Int.natCast_sub hq, Int.sub_mul]
    rw [e] at h1
    have h2 := Int.dvd_add h1 (Int.dvd_mul_right (P : Int) (b (i - s) : Int))
    rwa [show ((u i + (P - q) * b (i - s)) % P : Nat) - ((u i : Int) + ((P : Int) * (b (i - s) : Int) - (q : Int) * (b (i - s) : Int))) + (P : Int) * (b (i - s) : Int) = (((u i + (P - q) * b (i - s)) % P : Nat) : Int) + (q : Int) * (b (i - s) : Int) + -(u i : Int) by omega] at h2
  · rw [if_neg h]
    by_cases h1 : s ≤ i
    · rw [if_pos h1, sp_hi hb (show sp_sz b 31 ≤ i - s by omega)]
      rw [show (u i : Int) + (q : Int) * ((0 : Nat) : Int) + -(u i : Int) = 0 by rw [Int.natCast_zero, Int.mul_zero]; omega]
      exact Int.dvd_zero _
    · rw [if_neg h1, show (u i : Int) + 0 + -(u i : Int) = 0 by omega]
      exact Int.dvd_zero _
theorem sp_st1_top {P : Nat} (hP : 0 < P) {b u : Nat → Nat} {n s w : Nat} (hw : b n * w % P = 1 % P) (hz : ∀ i, s + 1 + n ≤ i → u i = 0) : ∀ i, s + n ≤ i → sp_st1 P b n s (u (s + n) * w % P) u i = 0 := by
  intro i hi
  unfold sp_st1
  by_cases h : i = s + n
  · rw [if_pos (by omega), h, Nat.add_sub_cancel_left]
    generalize u (s + n) = x
    have hlt : x * w % P < P := Nat.mod_lt _ hP
    refine Nat.mod_eq_zero_of_dvd (Int.ofNat_dvd.mp ?_)
    rw [Int.natCast_add, Int.natCast_mul, Int.natCast_sub (Nat.le_of_lt hlt), Int.sub_mul]
    have h1 := pz_modE P (x * w)
    have h2 : (P : Int) ∣ ((b n * w : Nat) : Int) - 1 := by
      have h3 := pz_modE P (b n * w)
      have h4 := pz_modE P 1
      rw [hw] at h3
      have h5 := Int.dvd_sub h4 h3
      rwa [show ((1 % P : Nat) : Int) - ((1 : Nat) : Int) - (((1 % P : Nat) : Int) - ((b n * w : Nat) : Int)) = ((b n * w : Nat) : Int) - 1 by omega] at h5
    rw [Int.natCast_mul] at h1 h2
    have h6 := Int.dvd_add (pz_dvd_l h1 (b n : Int)) (pz_dvd_r (x : Int) h2)
    have h7 := Int.dvd_sub (Int.dvd_mul_right (P : Int) (b n : Int)) h6
    have e : (P : Int) * (b n : Int) - ((((x * w % P : Nat) : Int) - (x : Int) * (w : Int)) * (b n : Int) + (x : Int) * ((b n : Int) * (w : Int) - 1)) = (x : Int) + ((P : Int) * (b n : Int) - ((x * w % P : Nat) : Int) * (b n : Int)) := by
      rw [Int.sub_mul, Int.mul_sub, Int.mul_one, Int.mul_assoc (x : Int) (w : Int) (b n : Int), Int.mul_comm (w : Int) (b n : Int)]
      omega
    rwa [e] at h7
  · rw [if_neg (by omega)]
    exact hz i (by omega)
