/-! Polynomials with whole numbers as coefficients: a commutative ring -/
def pz_sh (a : Nat → Int) : Nat → Int := fun i => a (i + 1)
def pz_mul : (Nat → Int) → (Nat → Int) → Nat → Int
  | a, b, 0 => a 0 * b 0
  | a, b, n + 1 => a 0 * b (n + 1) + pz_mul (pz_sh a) b n
theorem pz_mul_0 (a b : Nat → Int) : pz_mul a b 0 = a 0 * b 0 := rfl
theorem pz_mul_s (a b : Nat → Int) (n : Nat) : pz_mul a b (n + 1) = a 0 * b (n + 1) + pz_mul (pz_sh a) b n := rfl
theorem pz_mul_addr (b c : Nat → Int) (n : Nat) : ∀ a : Nat → Int, pz_mul a (fun i => b i + c i) n = pz_mul a b n + pz_mul a c n := by
  induction n with
  | zero =>
    intro a
    simp only [pz_mul_0]
    exact Int.mul_add _ _ _
  | succ n ih =>
    intro a
    simp only [pz_mul_s]
    rw [ih (pz_sh a), Int.mul_add]
    omega
theorem pz_mul_addl (c : Nat → Int) (n : Nat) : ∀ a b : Nat → Int, pz_mul (fun i => a i + b i) c n = pz_mul a c n + pz_mul b c n := by
  induction n with
  | zero =>
    intro a b
    simp only [pz_mul_0]
    exact Int.add_mul _ _ _
  | succ n ih =>
    intro a b
    simp only [pz_mul_s]
    have h : pz_sh (fun i => a i + b i) = fun i => pz_sh a i + pz_sh b i := rfl
    rw [h, ih, Int.add_mul]
    omega
theorem pz_mul_scl (k : Int) (c : Nat → Int) (n : Nat) : ∀ a : Nat → Int, pz_mul (fun i => k * a i) c n = k * pz_mul a c n := by
  induction n with
  | zero =>
    intro a
    simp only [pz_mul_0]
    exact Int.mul_assoc _ _ _
  | succ n ih =>
    intro a
    simp only [pz_mul_s]
    have h : pz_sh (fun i => k * a i) = fun i => k * pz_sh a i := rfl
    rw [h, ih, Int.mul_add, Int.mul_assoc]
theorem pz_mul_r (n : Nat) : ∀ a b : Nat → Int, pz_mul a b (n + 1) = pz_mul a (pz_sh b) n + a (n + 1) * b 0 := by
  induction n with
  | zero =>
    intro a b
    simp only [pz_mul_s, pz_mul_0]
    rfl
  | succ n ih =>
    intro a b
    rw [pz_mul_s, ih (pz_sh a) b, pz_mul_s]
    show a 0 * b (n + 1 + 1) + (pz_mul (pz_sh a) (pz_sh b) n + a (n + 1 + 1) * b 0) = a 0 * b (n + 1 + 1) + pz_mul (pz_sh a) (pz_sh b) n + a (n + 1 + 1) * b 0
    omega
theorem pz_mul_comm (n : Nat) : ∀ a b : Nat → Int, pz_mul a b n = pz_mul b a n := by
  induction n with
  | zero =>
    intro a b
    simp only [pz_mul_0]
    exact Int.mul_comm _ _
  | succ n ih =>
    intro a b
    rw [pz_mul_s, pz_mul_r n b a, ih (pz_sh a) b, Int.mul_comm (a 0)]
    omega
theorem pz_mul_assoc (b c : Nat → Int) (n : Nat) : ∀ a : Nat → Int, pz_mul (pz_mul a b) c n = pz_mul a (pz_mul b c) n := by
  induction n with
  | zero =>
    intro a
    simp only [pz_mul_0]
    exact Int.mul_assoc _ _ _
  | succ n ih =>
    intro a
    have h : pz_sh (pz_mul a b) = fun i => a 0 * pz_sh b i + pz_mul (pz_sh a) b i := funext (fun i => pz_mul_s a b i)
    rw [pz_mul_s, h, pz_mul_addl c n (fun i => a 0 * pz_sh b i) (pz_mul (pz_sh a) b), pz_mul_scl, ih (pz_sh a), pz_mul_0, pz_mul_s a, pz_mul_s b, Int.mul_add, Int.mul_assoc]
    omega
theorem pz_mul_z (b : Nat → Int) (n : Nat) : ∀ a : Nat → Int, (∀ i, a i = 0) → pz_mul a b n = 0 := by
  induction n with
  | zero =>
    intro a h
    rw [pz_mul_0, h 0, Int.zero_mul]
  | succ n ih =>
    intro a h
    rw [pz_mul_s, h 0, Int.zero_mul, ih (pz_sh a) (fun i => h (i + 1))]
    rfl
theorem pz_mul_fin {b : Nat → Int} {e : Nat} (hb : ∀ i, e ≤ i → b i = 0) (n : Nat) : ∀ (a : Nat → Int) (d : Nat), (∀ i, d ≤ i → a i = 0) → d + e ≤ n → pz_mul a b n = 0 := by
  induction n with
  | zero =>
    intro a d ha h
    rw [pz_mul_0, ha 0 (by omega), Int.zero_mul]
  | succ n ih =>
    intro a d ha h
    cases d with
    | zero => exact pz_mul_z b (n + 1) a (fun i => ha i (Nat.zero_le _))
    | succ d =>
      rw [pz_mul_s, hb (n + 1) (by omega), Int.mul_zero, ih (pz_sh a) d (fun i hi => ha (i + 1) (by omega)) (by omega)]
      rfl
abbrev pz_T : Type := { a : Nat → Int // ∃ d : Nat, ∀ i, d ≤ i → a i = 0 }
def pz_ad (a b : pz_T) : pz_T := ⟨fun i => a.1 i + b.1 i, by
  obtain ⟨d, hd⟩ := a.2
  obtain ⟨e, he⟩ := b.2
  exact ⟨d + e, fun i hi => by
    show a.1 i + b.1 i = 0
    rw [hd i (by omega), he i (by omega)]
    rfl⟩⟩
def pz_ng (a : pz_T) : pz_T := ⟨fun i => -a.1 i, by
  obtain ⟨d, hd⟩ := a.2
  exact ⟨d, fun i hi => by
    show -a.1 i = 0
    rw [hd i hi]
    rfl⟩⟩
def pz_ml (a b : pz_T) : pz_T := ⟨pz_mul a.1 b.1, by
  obtain ⟨d, hd⟩ := a.2
  obtain ⟨e, he⟩ := b.2
  exact ⟨d + e, fun i hi => pz_mul_fin he i a.1 d hd hi⟩⟩
/-- k x^n -/
def pz_mo (n : Nat) (k : Int) : pz_T := ⟨fun i => if i = n then k else 0, n + 1, fun i hi => by
  show (if i = n then k else 0) = 0
  rw [if_neg (by omega)]⟩
abbrev pz_ct (k : Int) : pz_T := pz_mo 0 k
def pz_pw (a : pz_T) : Nat → pz_T
  | 0 => pz_ct 1
  | n + 1 => pz_ml (pz_pw a n) a
theorem pz_ext {a b : pz_T} (h : ∀ i, a.1 i = b.1 i) : a = b := Subtype.ext (funext h)
theorem pz_mo_sh (k : Int) : ∀ i, pz_sh (pz_mo 0 k).1 i = 0 := fun i => by
  show (if i + 1 = 0 then k else 0) = 0
  rw [if_neg (by omega)]
theorem pz_mul_ct (k : Int) (b : Nat → Int) (n : Nat) : pz_mul (pz_mo 0 k).1 b n = k * b n := by
  cases n with
  | zero => rfl
  | succ n =>
    rw [pz_mul_s, pz_mul_z b n (pz_sh (pz_mo 0 k).1) (pz_mo_sh k)]
    show k * b (n + 1) + 0 = k * b (n + 1)
    omega
theorem pz_ct_at (k : Int) (i : Nat) : (pz_ct k).1 i = if i = 0 then k else 0 := rfl
def pz_R : Lean.Grind.CommRing pz_T where
  add := pz_ad
  mul := pz_ml
  natCast := ⟨fun n => pz_ct (n : Int)⟩
  ofNat := fun n => ⟨pz_ct (n : Int)⟩
  nsmul := ⟨fun n a => pz_ml (pz_ct (n : Int)) a⟩
  npow := ⟨fun a n => pz_pw a n⟩
  neg := pz_ng
  sub := fun a b => pz_ad a (pz_ng b)
  intCast := ⟨fun n => pz_ct n⟩
  zsmul := ⟨fun n a => pz_ml (pz_ct n) a⟩
  add_zero := fun a => pz_ext (fun i => by
    show a.1 i + (if i = 0 then ((0 : Nat) : Int) else 0) = a.1 i
    split <;> simp)
  add_comm := fun a b => pz_ext (fun i => Int.add_comm _ _)
  add_assoc := fun a b c => pz_ext (fun i => Int.add_assoc _ _ _)
  mul_assoc := fun a b c => pz_ext (fun i => pz_mul_assoc b.1 c.1 i a.1)
  mul_comm := fun a b => pz_ext (fun i => pz_mul_comm i a.1 b.1)
  mul_one := fun a => pz_ext (fun i => by
    show pz_mul a.1 (pz_mo 0 ((1 : Nat) : Int)).1 i = a.1 i
    rw [pz_mul_comm, pz_mul_ct]
    exact Int.one_mul _)
  one_mul := fun a => pz_ext (fun i => by
    show pz_mul (pz_mo 0 ((1 : Nat) : Int)).1 a.1 i = a.1 i
    rw [pz_mul_ct]
    exact Int.one_mul _)
  left_distrib := fun a b c => pz_ext (fun i => pz_mul_addr b.1 c.1 i a.1)
  right_distrib := fun a b c => pz_ext (fun i => pz_mul_addl c.1 i a.1 b.1)
  zero_mul := fun a => pz_ext (fun i => by
    show pz_mul (pz_mo 0 ((0 : Nat) : Int)).1 a.1 i = if i = 0 then ((0 : Nat) : Int) else 0
    rw [pz_mul_ct]
    split <;> simp)
  mul_zero := fun a => pz_ext (fun i => by
    show pz_mul a.1 (pz_mo 0 ((0 : Nat) : Int)).1 i = if i = 0 then ((0 : Nat) : Int) else 0
    rw [pz_mul_comm, pz_mul_ct]
    split <;> simp)
  pow_zero := fun a => rfl
  pow_succ := fun a n => rfl
  ofNat_succ := fun n => pz_ext (fun i => by
    show (if i = 0 then ((n + 1 : Nat) : Int) else 0) = (if i = 0 then (n : Int) else 0) + (if i = 0 then ((1 : Nat) : Int) else 0)
    split <;> simp)
  ofNat_eq_natCast := fun n => rfl
  nsmul_eq_natCast_mul := fun n a => rfl
  neg_add_cancel := fun a => pz_ext (fun i => by
    show -a.1 i + a.1 i = if i = 0 then ((0 : Nat) : Int) else 0
    rw [Int.add_left_neg]
    split <;> rfl)
  sub_eq_add_neg := fun a b => rfl
  neg_zsmul := fun n a => pz_ext (fun i => by
    show pz_mul (pz_mo 0 (-n)).1 a.1 i = -pz_mul (pz_mo 0 n).1 a.1 i
    rw [pz_mul_ct, pz_mul_ct, Int.neg_mul])
  zsmul_natCast_eq_nsmul := fun n a => rfl
  intCast_ofNat := fun n => rfl
  intCast_neg := fun n => pz_ext (fun i => by
    show (if i = 0 then -n else 0) = -(if i = 0 then n else 0)
    split <;> simp)
