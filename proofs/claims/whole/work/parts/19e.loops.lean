/-! The loops of both programs as functions: products, powers of numbers, values -/
def lp_row (P : Nat) (u b : Nat → Nat) (x i J : Nat) : Nat → Nat := fun k => if i ≤ k ∧ k < i + J then (u k + x * b (k - i)) % P else u k
theorem lp_row_0 (P : Nat) (u b : Nat → Nat) (x i : Nat) : lp_row P u b x i 0 = u := funext (fun k => by
  unfold lp_row
  rw [if_neg (by omega)])
theorem lp_row_s (P : Nat) (u b : Nat → Nat) (x i J : Nat) : lp_row P u b x i (J + 1) = va_up (lp_row P u b x i J) (i + J) ((lp_row P u b x i J (i + J) + x * b J) % P) := funext (fun k => by
  unfold va_up
  by_cases h : k = i + J
  · rw [if_pos h, h]
    unfold lp_row
    rw [if_pos (by omega), if_neg (by omega), Nat.add_sub_cancel_left]
  · rw [if_neg h]
    unfold lp_row
    by_cases h2 : i ≤ k ∧ k < i + J
    · rw [if_pos h2, if_pos (by omega)]
    · rw [if_neg h2, if_neg (by omega)])
def lp_pm (P : Nat) (a b : Nat → Nat) (n : Nat) : Nat → Nat → Nat
  | 0 => fun _ => 0
  | i + 1 => lp_row P (lp_pm P a b n i) b (a i) i n
theorem lp_pm_at {P : Nat} {a b : Nat → Nat} (hb : sp_ok P b) (i k : Nat) : lp_pm P a b (sp_sz b 31) i k = sp_sum (fun t => if t ≤ k then a t * b (k - t) else 0) i % P := by
  induction i with
  | zero =>
    show 0 = 0 % P
    rw [Nat.zero_mod]
  | succ i ih =>
    show lp_row P (lp_pm P a b (sp_sz b 31) i) b (a i) i (sp_sz b 31) k = (sp_sum (fun t => if t ≤ k then a t * b (k - t) else 0) i + if i ≤ k then a i * b (k - i) else 0) % P
    unfold lp_row
    by_cases h : i ≤ k ∧ k < i + sp_sz b 31
    · rw [if_pos h, if_pos h.1, ih, Nat.mod_add_mod]
    · rw [if_neg h, ih]
      by_cases h2 : i ≤ k
      · rw [if_pos h2, sp_hi hb (show sp_sz b 31 ≤ k - i by omega), Nat.mul_zero, Nat.add_zero]
      · rw [if_neg h2, Nat.add_zero]
theorem lp_sum_ge {f : Nat → Nat} {n : Nat} (h : ∀ t, n ≤ t → f t = 0) : ∀ m, n ≤ m → sp_sum f m = sp_sum f n := by
  intro m
  induction m with
  | zero =>
    intro hm
    rw [show n = 0 by omega]
  | succ m ih =>
    intro hm
    by_cases he : n = m + 1
    · rw [he]
    · show sp_sum f m + f m = sp_sum f n
      rw [h m (by omega), ih (by omega), Nat.add_zero]
/-- the product's loops give the product -/
theorem lp_pm_mul {P : Nat} {a b : Nat → Nat} (ha : sp_ok P a) (hb : sp_ok P b) : lp_pm P a b (sp_sz b 31) (sp_sz a 31) = sp_mul P a b := funext (fun k => by
  rw [lp_pm_at hb]
  show _ = sp_sum (fun i => a i * b (k - i)) (k + 1) % P
  congr 1
  have h1 : ∀ t, sp_sz a 31 ≤ t → (fun t => if t ≤ k then a t * b (k - t) else 0) t = 0 := fun t ht => by
    show (if t ≤ k then a t * b (k - t) else 0) = 0
    rw [sp_hi ha ht, Nat.zero_mul]
    split <;> rfl
  have h2 : ∀ t, k + 1 ≤ t → (fun t => if t ≤ k then a t * b (k - t) else 0) t = 0 := fun t ht => by
    show (if t ≤ k then a t * b (k - t) else 0) = 0
    rw [if_neg (by omega)]
  rw [← lp_sum_ge h1 (sp_sz a 31 + (k + 1)) (by omega), lp_sum_ge h2 (sp_sz a 31 + (k + 1)) (by omega)]
  refine sp_sum_cg (fun t ht => ?_)
  show (if t ≤ k then a t * b (k - t) else 0) = a t * b (k - t)
  rw [if_pos (by omega)])
/-- powers of numbers, the lowest bit first -/
theorem lp_rc {P t f e : Nat} : ((if e % 2 = 1 then t * f % P else t) * (f * f % P) ^ (e / 2)) % P = t * f ^ e % P := by
  have h0 : f ^ e = (f * f) ^ (e / 2) * f ^ (e % 2) := by
    have h1 : (f * f) ^ (e / 2) = f ^ (2 * (e / 2)) := by rw [Nat.pow_mul, Nat.pow_two]
    rw [h1, ← Nat.pow_add]
    congr 1
    omega
  have h2 : ∀ s : Nat, s * (f * f % P) ^ (e / 2) % P = s * (f * f) ^ (e / 2) % P := fun s => by
    rw [Nat.mul_mod, ← Nat.pow_mod, ← Nat.mul_mod]
  rw [h2, h0]
  by_cases he : e % 2 = 1
  · rw [if_pos he, he, Nat.pow_one, Nat.mod_mul_mod, Nat.mul_assoc, Nat.mul_comm f]
  · rw [if_neg he, show e % 2 = 0 by omega, Nat.pow_zero, Nat.mul_one]
/-- the highest bit first -/
theorem lp_rs {P a e i r : Nat} (hr : r = a ^ (e / 2 ^ (i + 1)) % P) : (if e / 2 ^ i % 2 = 1 then r * r % P * a % P else r * r % P) = a ^ (e / 2 ^ i) % P := by
  have h1 : e / 2 ^ i = e / 2 ^ (i + 1) + e / 2 ^ (i + 1) + e / 2 ^ i % 2 := by
    have h2 : e / 2 ^ (i + 1) = e / 2 ^ i / 2 := by rw [Nat.pow_succ, Nat.div_div_eq_div_mul]
    rw [h2]
    omega
  have h3 : a ^ (e / 2 ^ i) = a ^ (e / 2 ^ (i + 1)) * a ^ (e / 2 ^ (i + 1)) * a ^ (e / 2 ^ i % 2) := by
    rw [← Nat.pow_add, ← Nat.pow_add, ← h1]
  have h4 : r * r % P = a ^ (e / 2 ^ (i + 1)) * a ^ (e / 2 ^ (i + 1)) % P := by rw [hr, ← Nat.mul_mod]
  by_cases he : e / 2 ^ i % 2 = 1
  · rw [if_pos he, h3, he, Nat.pow_one, h4, Nat.mod_mul_mod]
  · rw [if_neg he, h3, show e / 2 ^ i % 2 = 0 by omega, Nat.pow_zero, Nat.mul_one, h4]
/-- the value at x, from the top -/
def lp_val (P : Nat) (a : Nat → Nat) (x : Nat) : Nat → Nat → Nat
  | 0, v => v
  | n + 1, v => lp_val P a x n ((v * x + a n) % P)
theorem lp_val_hi {P : Nat} {a : Nat → Nat} (x : Nat) (n : Nat) : ∀ k, (∀ i, n ≤ i → i < n + k → a i = 0) → lp_val P a x (n + k) 0 = lp_val P a x n 0 := by
  intro k
  induction k with
  | zero => exact fun _ => rfl
  | succ k ih =>
    intro h
    show lp_val P a x (n + k) ((0 * x + a (n + k)) % P) = lp_val P a x n 0
    rw [h (n + k) (by omega) (by omega), Nat.zero_mul, Nat.zero_mod]
    exact ih (fun i h1 h2 => h i h1 (by omega))
/-- the derivative -/
def lp_der (P : Nat) (a : Nat → Nat) : Nat → Nat := fun i => a (i + 1) * (i + 1) % P
theorem lp_der_ok {P : Nat} (hP : 0 < P) {a : Nat → Nat} (ha : sp_ok P a) : sp_ok P (lp_der P a) := fun i => ⟨Nat.mod_lt _ hP, fun hi => by
  show a (i + 1) * (i + 1) % P = 0
  rw [(ha (i + 1)).2 (by omega), Nat.zero_mul, Nat.zero_mod]⟩
