/-! Prime numbers by trial division; the greatest up to a limit -/
theorem pn_td {n : Nat} (hn : 2 ≤ n) (h : ∀ i, 2 ≤ i → i * i ≤ n → ¬ i ∣ n) : ag_pr n := by
  refine ⟨hn, fun d hd => ?_⟩
  obtain ⟨k, hk⟩ := hd
  refine Classical.byContradiction (fun hno => ?_)
  have hd0 : d ≠ 0 := fun z => by rw [z, Nat.zero_mul] at hk; omega
  have hk0 : k ≠ 0 := fun z => by rw [z, Nat.mul_zero] at hk; omega
  have hd1 : d ≠ 1 := fun z => hno (Or.inl z)
  have hk1 : k ≠ 1 := fun z => hno (Or.inr (by rw [z, Nat.mul_one] at hk; exact hk.symm))
  by_cases hle : d ≤ k
  · exact h d (by omega) (by rw [hk]; exact Nat.mul_le_mul_left d hle) ⟨k, hk⟩
  · exact h k (by omega) (by rw [hk]; exact Nat.mul_le_mul_right k (by omega)) ⟨d, by rw [hk, Nat.mul_comm]⟩
theorem pn_no {n i : Nat} (h2 : 2 ≤ i) (hi : i < n) (hd : i ∣ n) : ¬ ag_pr n := fun h => by
  rcases h.2 i hd with h1 | h1
  · omega
  · omega
theorem pn_sq {n i : Nat} (h2 : 2 ≤ i) (h : i * i ≤ n) : i < n := by
  have h1 : 2 * i ≤ i * i := Nat.mul_le_mul_right i h2
  omega
/-- odd numbers: odd divisors are enough -/
theorem pn_odd {n : Nat} (hn : 3 ≤ n) (ho : n % 2 = 1) (h : ∀ t, 3 ≤ t → t % 2 = 1 → t * t ≤ n → ¬ t ∣ n) : ag_pr n := by
  refine pn_td (by omega) (fun i h2 hs hd => ?_)
  by_cases he : i % 2 = 1
  · exact h i (by omega) he hs hd
  · have h3 : 2 ∣ n := Nat.dvd_trans (Nat.dvd_of_mod_eq_zero (by omega)) hd
    have h4 := Nat.mod_eq_zero_of_dvd h3
    omega
theorem pn_even {n : Nat} (hn : 3 ≤ n) (he : n % 2 = 0) : ¬ ag_pr n := pn_no (i := 2) (by omega) (by omega) (Nat.dvd_of_mod_eq_zero he)
theorem pn_2 : ag_pr 2 := by
  refine pn_td (by omega) (fun i h2 hs _ => ?_)
  have := pn_sq h2 hs
  omega
/-- P is the greatest prime up to n; 2 where there is none -/
def pn_is (n P : Nat) : Prop := ag_pr P ∧ (P ≤ n ∨ P = 2) ∧ ∀ q, P < q → q ≤ n → ¬ ag_pr q
theorem pn_uni {n P Q : Nat} (h : pn_is n P) (h' : pn_is n Q) : P = Q := by
  obtain ⟨h1, h2, h3⟩ := h
  obtain ⟨g1, g2, g3⟩ := h'
  have a := h1.1
  have b := g1.1
  rcases Nat.lt_trichotomy P Q with hlt | he | hgt
  · rcases g2 with g2 | g2
    · exact absurd g1 (h3 Q hlt g2)
    · omega
  · exact he
  · rcases h2 with h2 | h2
    · exact absurd h1 (g3 P hgt h2)
    · omega
theorem pn_low {n : Nat} (h : n ≤ 2) : pn_is n 2 := ⟨pn_2, Or.inr rfl, fun q h1 h2 _ => by omega⟩
theorem pn_hit {n : Nat} (h : ag_pr n) : pn_is n n := ⟨h, Or.inl (Nat.le_refl _), fun q h1 h2 _ => by omega⟩
theorem pn_step {n P : Nat} (hn : ¬ ag_pr (n + 1)) (h : pn_is n P) : pn_is (n + 1) P := by
  obtain ⟨h1, h2, h3⟩ := h
  refine ⟨h1, by omega, fun q hq hle hp => ?_⟩
  by_cases he : q = n + 1
  · rw [he] at hp
    exact hn hp
  · exact h3 q hq (by omega) hp
