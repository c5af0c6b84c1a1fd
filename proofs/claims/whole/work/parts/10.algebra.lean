/-! Commutative rings (the core's own class), ideals as predicates, sums, binomials, the P-th power of a sum -/
theorem ag_mul_pow {β : Type} [Lean.Grind.CommRing β] (a b : β) (n : Nat) : (a * b) ^ n = a ^ n * b ^ n := by
  induction n with
  | zero => rw [Lean.Grind.Semiring.pow_zero, Lean.Grind.Semiring.pow_zero, Lean.Grind.Semiring.pow_zero, Lean.Grind.Semiring.mul_one]
  | succ n ih => rw [Lean.Grind.Semiring.pow_succ, Lean.Grind.Semiring.pow_succ, Lean.Grind.Semiring.pow_succ, ih]; grind
theorem ag_pow_mul {β : Type} [Lean.Grind.CommRing β] (a : β) (m n : Nat) : a ^ (m * n) = (a ^ m) ^ n := by
  induction n with
  | zero => rw [Nat.mul_zero, Lean.Grind.Semiring.pow_zero, Lean.Grind.Semiring.pow_zero]
  | succ n ih => rw [Nat.mul_succ, Lean.Grind.Semiring.pow_add, Lean.Grind.Semiring.pow_succ, ih]
/-- an ideal -/
def ag_I {β : Type} [Lean.Grind.CommRing β] (I : β → Prop) : Prop := I 0 ∧ (∀ a b, I a → I b → I (a + b)) ∧ ∀ a b, I a → I (b * a)
def ag_q {β : Type} [Lean.Grind.CommRing β] (I : β → Prop) (a b : β) : Prop := I (a - b)
theorem ag_neg {β : Type} [Lean.Grind.CommRing β] {I : β → Prop} (h : ag_I I) {a : β} (ha : I a) : I (-a) := by
  have h1 := h.2.2 a (-1) ha
  rwa [show (-1 : β) * a = -a by grind] at h1
theorem ag_sub {β : Type} [Lean.Grind.CommRing β] {I : β → Prop} (h : ag_I I) {a b : β} (ha : I a) (hb : I b) : I (a - b) := by
  have h1 := h.2.1 a (-b) ha (ag_neg h hb)
  rwa [show a + -b = a - b by grind] at h1
theorem ag_rf {β : Type} [Lean.Grind.CommRing β] {I : β → Prop} (h : ag_I I) (a : β) : ag_q I a a := by
  show I (a - a)
  rw [show a - a = (0 : β) by grind]
  exact h.1
theorem ag_of_eq {β : Type} [Lean.Grind.CommRing β] {I : β → Prop} (h : ag_I I) {a b : β} (e : a = b) : ag_q I a b := by
  subst e
  exact ag_rf h a
theorem ag_sy {β : Type} [Lean.Grind.CommRing β] {I : β → Prop} (h : ag_I I) {a b : β} (ha : ag_q I a b) : ag_q I b a := by
  have h1 := ag_neg h ha
  show I (b - a)
  rwa [show -(a - b) = b - a by grind] at h1
theorem ag_tr {β : Type} [Lean.Grind.CommRing β] {I : β → Prop} (h : ag_I I) {a b c : β} (ha : ag_q I a b) (hb : ag_q I b c) : ag_q I a c := by
  have h1 := h.2.1 _ _ ha hb
  show I (a - c)
  rwa [show a - b + (b - c) = a - c by grind] at h1
theorem ag_ad {β : Type} [Lean.Grind.CommRing β] {I : β → Prop} (h : ag_I I) {a b c d : β} (ha : ag_q I a b) (hb : ag_q I c d) : ag_q I (a + c) (b + d) := by
  have h1 := h.2.1 _ _ ha hb
  show I (a + c - (b + d))
  rwa [show a - b + (c - d) = a + c - (b + d) by grind] at h1
theorem ag_sb {β : Type} [Lean.Grind.CommRing β] {I : β → Prop} (h : ag_I I) {a b c d : β} (ha : ag_q I a b) (hb : ag_q I c d) : ag_q I (a - c) (b - d) := by
  have h1 := ag_sub h ha hb
  show I (a - c - (b - d))
  rwa [show a - b - (c - d) = a - c - (b - d) by grind] at h1
theorem ag_ml {β : Type} [Lean.Grind.CommRing β] {I : β → Prop} (h : ag_I I) {a b c d : β} (ha : ag_q I a b) (hb : ag_q I c d) : ag_q I (a * c) (b * d) := by
  have h1 := h.2.1 _ _ (h.2.2 _ c ha) (h.2.2 _ b hb)
  show I (a * c - b * d)
  rwa [show c * (a - b) + b * (c - d) = a * c - b * d by grind] at h1
theorem ag_pw {β : Type} [Lean.Grind.CommRing β] {I : β → Prop} (h : ag_I I) {a b : β} (ha : ag_q I a b) (n : Nat) : ag_q I (a ^ n) (b ^ n) := by
  induction n with
  | zero => rw [Lean.Grind.Semiring.pow_zero, Lean.Grind.Semiring.pow_zero]; exact ag_rf h _
  | succ n ih => rw [Lean.Grind.Semiring.pow_succ, Lean.Grind.Semiring.pow_succ]; exact ag_ml h ih ha
theorem ag_to0 {β : Type} [Lean.Grind.CommRing β] {I : β → Prop} {a : β} (ha : I a) : ag_q I a 0 := by
  show I (a - 0)
  rwa [show a - 0 = a by grind]
theorem ag_of0 {β : Type} [Lean.Grind.CommRing β] {I : β → Prop} {a : β} (ha : ag_q I a 0) : I a := by
  have h1 : I (a - 0) := ha
  rwa [show a - 0 = a by grind] at h1
theorem ag_cg {β : Type} [Lean.Grind.CommRing β] {I : β → Prop} (h : ag_I I) {a b : β} (hab : ag_q I a b) (hb : I b) : I a := ag_of0 (ag_tr h hab (ag_to0 hb))
/-- natural numbers in a ring -/
def ag_nc (β : Type) [Lean.Grind.CommRing β] : Nat → β
  | 0 => 0
  | n + 1 => ag_nc β n + 1
theorem ag_nc_add {β : Type} [Lean.Grind.CommRing β] (m n : Nat) : ag_nc β (m + n) = ag_nc β m + ag_nc β n := by
  induction n with
  | zero =>
    show ag_nc β m = ag_nc β m + 0
    grind
  | succ n ih =>
    show ag_nc β (m + n) + 1 = ag_nc β m + (ag_nc β n + 1)
    rw [ih]
    grind
theorem ag_nc_mul {β : Type} [Lean.Grind.CommRing β] (m n : Nat) : ag_nc β (m * n) = ag_nc β m * ag_nc β n := by
  induction n with
  | zero =>
    show (0 : β) = ag_nc β m * 0
    grind
  | succ n ih =>
    rw [Nat.mul_succ, ag_nc_add, ih]
    show ag_nc β m * ag_nc β n + ag_nc β m = ag_nc β m * (ag_nc β n + 1)
    grind
theorem ag_nc_1 {β : Type} [Lean.Grind.CommRing β] : ag_nc β 1 = 1 := by
  show (0 : β) + 1 = 1
  grind
theorem ag_nc_pow {β : Type} [Lean.Grind.CommRing β] (m n : Nat) : ag_nc β (m ^ n) = ag_nc β m ^ n := by
  induction n with
  | zero => rw [Nat.pow_zero, Lean.Grind.Semiring.pow_zero, ag_nc_1]
  | succ n ih => rw [Nat.pow_succ, ag_nc_mul, ih, Lean.Grind.Semiring.pow_succ]
/-- sums -/
def ag_sm {β : Type} [Lean.Grind.CommRing β] (f : Nat → β) : Nat → β
  | 0 => 0
  | n + 1 => ag_sm f n + f n
theorem ag_sm_0 {β : Type} [Lean.Grind.CommRing β] (f : Nat → β) (n : Nat) : ag_sm f (n + 1) = f 0 + ag_sm (fun k => f (k + 1)) n := by
  induction n with
  | zero =>
    show (0 : β) + f 0 = f 0 + 0
    grind
  | succ n ih =>
    show ag_sm f (n + 1) + f (n + 1) = f 0 + (ag_sm (fun k => f (k + 1)) n + f (n + 1))
    rw [ih]
    grind
theorem ag_sm_lin {β : Type} [Lean.Grind.CommRing β] (a b : β) (f g : Nat → β) (n : Nat) : ag_sm (fun k => a * f k + b * g k) n = a * ag_sm f n + b * ag_sm g n := by
  induction n with
  | zero =>
    show (0 : β) = a * 0 + b * 0
    grind
  | succ n ih =>
    show ag_sm (fun k => a * f k + b * g k) n + (a * f n + b * g n) = a * (ag_sm f n + f n) + b * (ag_sm g n + g n)
    rw [ih]
    grind
theorem ag_sm_cg {β : Type} [Lean.Grind.CommRing β] {f g : Nat → β} {n : Nat} (h : ∀ k, k < n → f k = g k) : ag_sm f n = ag_sm g n := by
  induction n with
  | zero => rfl
  | succ n ih =>
    show ag_sm f n + f n = ag_sm g n + g n
    rw [ih (fun k hk => h k (by omega)), h n (by omega)]
theorem ag_sm_z {β : Type} [Lean.Grind.CommRing β] {f : Nat → β} {n : Nat} (h : ∀ k, k < n → f k = 0) : ag_sm f n = 0 := by
  induction n with
  | zero => rfl
  | succ n ih =>
    show ag_sm f n + f n = 0
    rw [ih (fun k hk => h k (by omega)), h n (by omega)]
    grind
theorem ag_sm_I {β : Type} [Lean.Grind.CommRing β] {I : β → Prop} (hI : ag_I I) {f : Nat → β} {n : Nat} (h : ∀ k, k < n → I (f k)) : I (ag_sm f n) := by
  induction n with
  | zero => exact hI.1
  | succ n ih => exact hI.2.1 _ _ (ih (fun k hk => h k (by omega))) (h n (by omega))
theorem ag_sm_q {β : Type} [Lean.Grind.CommRing β] {I : β → Prop} (hI : ag_I I) {f g : Nat → β} {n : Nat} (h : ∀ k, k < n → ag_q I (f k) (g k)) : ag_q I (ag_sm f n) (ag_sm g n) := by
  induction n with
  | zero => exact ag_rf hI _
  | succ n ih => exact ag_ad hI (ih (fun k hk => h k (by omega))) (h n (by omega))
/-- Pascal's numbers -/
def ag_ch : Nat → Nat → Nat
  | _, 0 => 1
  | 0, _ + 1 => 0
  | n + 1, k + 1 => ag_ch n k + ag_ch n (k + 1)
theorem ag_ch_0 (n : Nat) : ag_ch n 0 = 1 := by cases n <;> simp [ag_ch]
theorem ag_ch_s (n k : Nat) : ag_ch (n + 1) (k + 1) = ag_ch n k + ag_ch n (k + 1) := by simp [ag_ch]
theorem ag_ch_z (k : Nat) : ag_ch 0 (k + 1) = 0 := by simp [ag_ch]
theorem ag_ch_gt (n : Nat) : ∀ k, n < k → ag_ch n k = 0 := by
  induction n with
  | zero =>
    intro k hk
    obtain ⟨j, rfl⟩ : ∃ j, k = j + 1 := ⟨k - 1, by omega⟩
    exact ag_ch_z j
  | succ n ih =>
    intro k hk
    obtain ⟨j, rfl⟩ : ∃ j, k = j + 1 := ⟨k - 1, by omega⟩
    rw [ag_ch_s, ih j (by omega), ih (j + 1) (by omega)]
theorem ag_ch_self (n : Nat) : ag_ch n n = 1 := by
  induction n with
  | zero => exact ag_ch_0 0
  | succ n ih => rw [ag_ch_s, ih, ag_ch_gt n (n + 1) (by omega)]
theorem ag_ch_m (n : Nat) : ∀ k, (k + 1) * ag_ch (n + 1) (k + 1) = (n + 1) * ag_ch n k := by
  induction n with
  | zero =>
    intro k
    cases k with
    | zero => simp [ag_ch]
    | succ k => simp [ag_ch]
  | succ n ih =>
    intro k
    cases k with
    | zero =>
      have h := ih 0
      rw [ag_ch_0] at h
      rw [ag_ch_s, ag_ch_0]
      omega
    | succ k =>
      have h1 := ih k
      have h2 := ih (k + 1)
      rw [ag_ch_s (n + 1) (k + 1)]
      have h3 : (k + 1 + 1) * (ag_ch (n + 1) (k + 1) + ag_ch (n + 1) (k + 1 + 1)) = ag_ch (n + 1) (k + 1) + (k + 1) * ag_ch (n + 1) (k + 1) + (k + 1 + 1) * ag_ch (n + 1) (k + 1 + 1) := by
        rw [Nat.mul_add, Nat.succ_mul (k + 1)]
        omega
      rw [h3, h1, h2]
      have h4 : (n + 1 + 1) * ag_ch (n + 1) (k + 1) = (n + 1) * ag_ch (n + 1) (k + 1) + ag_ch (n + 1) (k + 1) := Nat.succ_mul _ _
      rw [h4]
      have h5 : (n + 1) * ag_ch (n + 1) (k + 1) = (n + 1) * ag_ch n k + (n + 1) * ag_ch n (k + 1) := by rw [ag_ch_s, Nat.mul_add]
      omega
/-- the k-th term of (a + b)^n -/
def ag_g {β : Type} [Lean.Grind.CommRing β] (a b : β) (n k : Nat) : β := ag_nc β (ag_ch n k) * (a ^ k * b ^ (n - k))
theorem ag_g_0 {β : Type} [Lean.Grind.CommRing β] (a b : β) (n : Nat) : ag_g a b (n + 1) 0 = b * ag_g a b n 0 := by
  unfold ag_g
  rw [ag_ch_0, ag_ch_0, Nat.sub_zero, Nat.sub_zero, Lean.Grind.Semiring.pow_succ b n]
  grind
theorem ag_g_s {β : Type} [Lean.Grind.CommRing β] (a b : β) (n k : Nat) : ag_g a b (n + 1) (k + 1) = a * ag_g a b n k + b * ag_g a b n (k + 1) := by
  unfold ag_g
  rw [ag_ch_s, ag_nc_add, Nat.add_sub_add_right, Lean.Grind.Semiring.pow_succ a k]
  by_cases hk : k + 1 ≤ n
  · rw [show n - k = n - (k + 1) + 1 by omega, Lean.Grind.Semiring.pow_succ b (n - (k + 1))]
    grind
  · rw [ag_ch_gt n (k + 1) (by omega)]
    show (ag_nc β (ag_ch n k) + 0) * (a ^ k * a * b ^ (n - k)) = a * (ag_nc β (ag_ch n k) * (a ^ k * b ^ (n - k))) + b * (0 * (a ^ k * a * b ^ (n - (k + 1))))
    grind
theorem ag_bin {β : Type} [Lean.Grind.CommRing β] (a b : β) (n : Nat) : ∀ m, n + 1 ≤ m → ag_sm (ag_g a b n) m = (a + b) ^ n := by
  induction n with
  | zero =>
    intro m hm
    obtain ⟨j, rfl⟩ : ∃ j, m = j + 1 := ⟨m - 1, by omega⟩
    rw [ag_sm_0, ag_sm_z (f := fun k => ag_g a b 0 (k + 1)) (fun k _ => by
      show ag_nc β (ag_ch 0 (k + 1)) * _ = 0
      rw [ag_ch_z]
      show (0 : β) * _ = 0
      grind)]
    show ag_nc β (ag_ch 0 0) * (a ^ 0 * b ^ 0) + 0 = (a + b) ^ 0
    rw [ag_ch_0, ag_nc_1, Lean.Grind.Semiring.pow_zero, Lean.Grind.Semiring.pow_zero, Lean.Grind.Semiring.pow_zero]
    grind
  | succ n ih =>
    intro m hm
    obtain ⟨j, rfl⟩ : ∃ j, m = j + 1 := ⟨m - 1, by omega⟩
    have e1 : (fun k => ag_g a b (n + 1) (k + 1)) = fun k => a * ag_g a b n k + b * ag_g a b n (k + 1) := funext (fun k => ag_g_s a b n k)
    rw [ag_sm_0, ag_g_0, e1, ag_sm_lin a b (ag_g a b n) (fun k => ag_g a b n (k + 1)), ih j (by omega)]
    have e2 := ih (j + 1) (by omega)
    rw [ag_sm_0] at e2
    rw [Lean.Grind.Semiring.pow_succ]
    rw [← e2]
    grind
/-- prime numbers -/
def ag_pr (P : Nat) : Prop := 2 ≤ P ∧ ∀ d, d ∣ P → d = 1 ∨ d = P
theorem ag_pr_mul {P : Nat} (hP : ag_pr P) {a b : Nat} (h : P ∣ a * b) : P ∣ a ∨ P ∣ b := by
  rcases hP.2 (Nat.gcd P a) (Nat.gcd_dvd_left P a) with h1 | h1
  · exact Or.inr (Nat.Coprime.dvd_of_dvd_mul_left (show Nat.Coprime P a from h1) h)
  · exact Or.inl (by
      have h2 := Nat.gcd_dvd_right P a
      rwa [h1] at h2)
theorem ag_pr_ch {P : Nat} (hP : ag_pr P) {k : Nat} (hk : k + 1 < P) : P ∣ ag_ch P (k + 1) := by
  obtain ⟨q, rfl⟩ : ∃ q, P = q + 1 := ⟨P - 1, by have := hP.1; omega⟩
  have h := ag_ch_m q k
  rcases ag_pr_mul hP (show q + 1 ∣ (k + 1) * ag_ch (q + 1) (k + 1) from ⟨ag_ch q k, h⟩) with h1 | h1
  · exact absurd (Nat.le_of_dvd (by omega) h1) (by omega)
  · exact h1
/-- the P-th power of a sum, where P is 0 -/
theorem ag_fr {β : Type} [Lean.Grind.CommRing β] {I : β → Prop} (hI : ag_I I) {P : Nat} (hP : ag_pr P) (hIP : I (ag_nc β P)) (a b : β) : ag_q I ((a + b) ^ P) (a ^ P + b ^ P) := by
  have h2 := hP.1
  obtain ⟨q, hq⟩ : ∃ q, P = q + 1 := ⟨P - 1, by omega⟩
  have e := ag_bin a b P (P + 1) (Nat.le_refl _)
  rw [ag_sm_0] at e
  have e3 : ag_sm (fun k => ag_g a b P (k + 1)) P = ag_sm (fun k => ag_g a b P (k + 1)) q + ag_g a b P P := by
    have h9 : ∀ f : Nat → β, ag_sm f P = ag_sm f q + f q := fun f => by rw [hq]; rfl
    rw [h9, ← hq]
  have hmid : I (ag_sm (fun k => ag_g a b P (k + 1)) q) := by
    refine ag_sm_I hI (fun k hk => ?_)
    obtain ⟨t, ht⟩ := ag_pr_ch hP (k := k) (by omega)
    show I (ag_nc β (ag_ch P (k + 1)) * (a ^ (k + 1) * b ^ (P - (k + 1))))
    rw [ht, ag_nc_mul]
    have h1 := hI.2.2 _ (ag_nc β t * (a ^ (k + 1) * b ^ (P - (k + 1)))) hIP
    rwa [show ag_nc β t * (a ^ (k + 1) * b ^ (P - (k + 1))) * ag_nc β P = ag_nc β P * ag_nc β t * (a ^ (k + 1) * b ^ (P - (k + 1))) by grind] at h1
  have g0 : ag_g a b P 0 = b ^ P := by
    unfold ag_g
    rw [ag_ch_0, ag_nc_1, Nat.sub_zero, Lean.Grind.Semiring.pow_zero]
    grind
  have gP : ag_g a b P P = a ^ P := by
    unfold ag_g
    rw [ag_ch_self, ag_nc_1, Nat.sub_self, Lean.Grind.Semiring.pow_zero]
    grind
  show I ((a + b) ^ P - (a ^ P + b ^ P))
  rw [← e, e3, g0, gP]
  rwa [show b ^ P + (ag_sm (fun k => ag_g a b P (k + 1)) q + a ^ P) - (a ^ P + b ^ P) = ag_sm (fun k => ag_g a b P (k + 1)) q by grind]
theorem ag_fri {β : Type} [Lean.Grind.CommRing β] {I : β → Prop} (hI : ag_I I) {P : Nat} (hP : ag_pr P) (hIP : I (ag_nc β P)) (a b : β) (m : Nat) : ag_q I ((a + b) ^ P ^ m) (a ^ P ^ m + b ^ P ^ m) := by
  induction m with
  | zero =>
    rw [Nat.pow_zero, Lean.Grind.Semiring.pow_one, Lean.Grind.Semiring.pow_one, Lean.Grind.Semiring.pow_one]
    exact ag_rf hI _
  | succ m ih =>
    rw [Nat.pow_succ, ag_pow_mul, ag_pow_mul, ag_pow_mul]
    exact ag_tr hI (ag_pw hI ih P) (ag_fr hI hP hIP _ _)
theorem ag_z_pow {β : Type} [Lean.Grind.CommRing β] {n : Nat} (h : 0 < n) : (0 : β) ^ n = 0 := by
  obtain ⟨q, rfl⟩ : ∃ q, n = q + 1 := ⟨n - 1, by omega⟩
  rw [Lean.Grind.Semiring.pow_succ]
  grind
/-- Fermat -/
theorem ag_fl {β : Type} [Lean.Grind.CommRing β] {I : β → Prop} (hI : ag_I I) {P : Nat} (hP : ag_pr P) (hIP : I (ag_nc β P)) (n : Nat) : ag_q I (ag_nc β n ^ P) (ag_nc β n) := by
  induction n with
  | zero =>
    have h2 := hP.1
    exact ag_of_eq hI (ag_z_pow (by omega))
  | succ n ih =>
    have h1 := ag_fr hI hP hIP (ag_nc β n) 1
    rw [Lean.Grind.Semiring.one_pow] at h1
    exact ag_tr hI h1 (ag_ad hI ih (ag_rf hI _))
theorem ag_fli {β : Type} [Lean.Grind.CommRing β] {I : β → Prop} (hI : ag_I I) {P : Nat} (hP : ag_pr P) (hIP : I (ag_nc β P)) (n m : Nat) : ag_q I (ag_nc β n ^ P ^ m) (ag_nc β n) := by
  induction m with
  | zero =>
    rw [Nat.pow_zero, Lean.Grind.Semiring.pow_one]
    exact ag_rf hI _
  | succ m ih =>
    rw [Nat.pow_succ, ag_pow_mul]
    exact ag_tr hI (ag_pw hI ih P) (ag_fl hI hP hIP n)
/-- a polynomial with natural numbers as coefficients, at x -/
def ag_ev {β : Type} [Lean.Grind.CommRing β] (f : Nat → Nat) (n : Nat) (x : β) : β := ag_sm (fun i => ag_nc β (f i) * x ^ i) n
theorem ag_ev_s {β : Type} [Lean.Grind.CommRing β] (f : Nat → Nat) (n : Nat) (x : β) : ag_ev f (n + 1) x = ag_ev f n x + ag_nc β (f n) * x ^ n := rfl
theorem ag_ev_cg {β : Type} [Lean.Grind.CommRing β] {f g : Nat → Nat} {n : Nat} (x : β) (h : ∀ k, k < n → f k = g k) : ag_ev f n x = ag_ev g n x := ag_sm_cg (fun k hk => by rw [h k hk])
/-- the powers P^m of a polynomial: at the power of x -/
theorem ag_ev_fr {β : Type} [Lean.Grind.CommRing β] {I : β → Prop} (hI : ag_I I) {P : Nat} (hP : ag_pr P) (hIP : I (ag_nc β P)) (f : Nat → Nat) (n : Nat) (x : β) (m : Nat) : ag_q I (ag_ev f n x ^ P ^ m) (ag_ev f n (x ^ P ^ m)) := by
  induction n with
  | zero =>
    have h2 := hP.1
    exact ag_of_eq hI (ag_z_pow (Nat.pow_pos (by omega)))
  | succ n ih =>
    rw [ag_ev_s, ag_ev_s]
    refine ag_tr hI (ag_fri hI hP hIP _ _ m) (ag_ad hI ih ?_)
    rw [ag_mul_pow, ← ag_pow_mul, ← ag_pow_mul, Nat.mul_comm n]
    exact ag_ml hI (ag_fli hI hP hIP _ m) (ag_rf hI _)
/-- numbers that are the same modulo P -/
theorem ag_nc_mod {β : Type} [Lean.Grind.CommRing β] {I : β → Prop} (hI : ag_I I) {P : Nat} (hIP : I (ag_nc β P)) (n : Nat) : ag_q I (ag_nc β (n % P)) (ag_nc β n) := by
  refine ag_sy hI ?_
  have e : ag_nc β n = ag_nc β (n % P) + ag_nc β (n / P) * ag_nc β P := by
    rw [← ag_nc_mul, ← ag_nc_add, Nat.mul_comm, Nat.mod_add_div]
  show I (ag_nc β n - ag_nc β (n % P))
  rw [e, show ag_nc β (n % P) + ag_nc β (n / P) * ag_nc β P - ag_nc β (n % P) = ag_nc β (n / P) * ag_nc β P by grind]
  exact hI.2.2 _ _ hIP
