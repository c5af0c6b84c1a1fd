/-! Roots of a polynomial over a domain (a ring and a prime ideal), the power of a unit, numbers among the roots of Y^P - Y -/
def ag_hn {β : Type} [Lean.Grind.CommRing β] : List β → β → β
  | [], _ => 0
  | c :: t, y => c + y * ag_hn t y
theorem ag_hn_c {β : Type} [Lean.Grind.CommRing β] (c : β) (t : List β) (y : β) : ag_hn (c :: t) y = c + y * ag_hn t y := rfl
theorem ag_syn {β : Type} [Lean.Grind.CommRing β] (r : β) : ∀ (cs : List β), cs ≠ [] → ∃ qs : List β, qs.length + 1 = cs.length ∧ ∀ y, ag_hn (cs ++ [1]) y - ag_hn (cs ++ [1]) r = (y - r) * ag_hn (qs ++ [1]) y
  | [], h => absurd rfl h
  | [c], _ => ⟨[], rfl, fun y => by
      show c + y * (1 + y * 0) - (c + r * (1 + r * 0)) = (y - r) * (1 + y * 0)
      grind⟩
  | c :: d :: t, _ => by
    obtain ⟨qs, h1, h2⟩ := ag_syn r (d :: t) (by simp)
    refine ⟨ag_hn (d :: t ++ [1]) r :: qs, by simp only [List.length_cons] at h1 ⊢; omega, fun y => ?_⟩
    have h3 := h2 y
    show c + y * ag_hn (d :: t ++ [1]) y - (c + r * ag_hn (d :: t ++ [1]) r) = (y - r) * (ag_hn (d :: t ++ [1]) r + y * ag_hn (qs ++ [1]) y)
    generalize ag_hn (d :: t ++ [1]) y = u at h3 ⊢
    generalize ag_hn (d :: t ++ [1]) r = v at h3 ⊢
    generalize ag_hn (qs ++ [1]) y = w at h3 ⊢
    have h4 : u = v + (y - r) * w := by grind
    rw [h4]
    grind
theorem ag_roots {β : Type} [Lean.Grind.CommRing β] {I : β → Prop} (hI : ag_I I) (hdom : ∀ a b, I (a * b) → I a ∨ I b) (h1 : ¬ I 1) : ∀ (n : Nat) (cs rs : List β), cs.length = n → rs.Pairwise (fun a b => ¬ ag_q I a b) → (∀ r ∈ rs, I (ag_hn (cs ++ [1]) r)) → rs.length ≤ n := by
  intro n
  induction n with
  | zero =>
    intro cs rs hc _ hr
    have hc0 : cs = [] := List.length_eq_zero_iff.mp hc
    subst hc0
    cases rs with
    | nil => exact Nat.le_refl _
    | cons r rs =>
      have h2 : I (1 + r * 0) := hr r List.mem_cons_self
      rw [show 1 + r * 0 = (1 : β) by grind] at h2
      exact absurd h2 h1
  | succ n ih =>
    intro cs rs hc hp hr
    cases rs with
    | nil => exact Nat.zero_le _
    | cons r rs =>
      obtain ⟨qs, q1, q2⟩ := ag_syn r cs (fun z => by rw [z] at hc; simp at hc)
      rw [List.pairwise_cons] at hp
      have h3 := ih qs rs (by omega) hp.2 (fun y hy => by
        have h4 := ag_sub hI (hr y (List.mem_cons_of_mem _ hy)) (hr r List.mem_cons_self)
        rw [q2 y] at h4
        rcases hdom _ _ h4 with h5 | h5
        · exact absurd (ag_sy hI h5) (hp.1 y hy)
        · exact h5)
      simp only [List.length_cons]
      omega
theorem ag_hn_pow {β : Type} [Lean.Grind.CommRing β] (y : β) (k : Nat) : ag_hn (List.replicate k (0 : β) ++ [1]) y = y ^ k := by
  induction k with
  | zero =>
    show 1 + y * 0 = y ^ 0
    rw [Lean.Grind.Semiring.pow_zero]
    grind
  | succ k ih =>
    rw [List.replicate_succ, List.cons_append, ag_hn_c, ih, Lean.Grind.Semiring.pow_succ]
    grind
/-- Y^N = Y has at most N solutions -/
theorem ag_fix {β : Type} [Lean.Grind.CommRing β] {I : β → Prop} (hI : ag_I I) (hdom : ∀ a b, I (a * b) → I a ∨ I b) (h1 : ¬ I 1) {N : Nat} (hN : 2 ≤ N) (rs : List β) (hp : rs.Pairwise (fun a b => ¬ ag_q I a b)) (h : ∀ r ∈ rs, ag_q I (r ^ N) r) : rs.length ≤ N := by
  refine ag_roots hI hdom h1 N (0 :: (-1) :: List.replicate (N - 2) 0) rs (by simp; omega) hp (fun r hr => ?_)
  have h2 : I (r ^ N - r) := h r hr
  rw [List.cons_append, List.cons_append, ag_hn_c, ag_hn_c, ag_hn_pow]
  have e : r ^ N = r ^ (N - 2) * r * r := by
    rw [← Lean.Grind.Semiring.pow_succ, ← Lean.Grind.Semiring.pow_succ, show N - 2 + 1 + 1 = N by omega]
  rw [e] at h2
  rwa [show 0 + r * (-1 + r * r ^ (N - 2)) = r ^ (N - 2) * r * r - r by grind]
theorem ag_nc_gcd {β : Type} [Lean.Grind.CommRing β] {I : β → Prop} (hI : ag_I I) (m n : Nat) : I (ag_nc β m) → I (ag_nc β n) → I (ag_nc β (Nat.gcd m n)) := by
  induction m, n using Nat.gcd.induction with
  | H0 n =>
    intro _ h
    rwa [Nat.gcd_zero_left]
  | H1 m n _ ih =>
    intro hm hn
    rw [Nat.gcd_rec]
    exact ih (ag_cg hI (ag_nc_mod hI hm n) hn) hm
theorem ag_nc_ne {β : Type} [Lean.Grind.CommRing β] {I : β → Prop} (hI : ag_I I) (h1 : ¬ I 1) {P : Nat} (hP : ag_pr P) (hIP : I (ag_nc β P)) {k : Nat} (h0 : 0 < k) (hk : k < P) : ¬ I (ag_nc β k) := by
  intro h
  have h2 := ag_nc_gcd hI P k hIP h
  rcases hP.2 (Nat.gcd P k) (Nat.gcd_dvd_left P k) with h3 | h3
  · rw [h3, ag_nc_1] at h2
    exact h1 h2
  · have h4 := Nat.gcd_dvd_right P k
    rw [h3] at h4
    exact absurd (Nat.le_of_dvd h0 h4) (by omega)
theorem ag_nc_inj {β : Type} [Lean.Grind.CommRing β] {I : β → Prop} (hI : ag_I I) (h1 : ¬ I 1) {P : Nat} (hP : ag_pr P) (hIP : I (ag_nc β P)) {i j : Nat} (hij : i < j) (hj : j < P) : ¬ ag_q I (ag_nc β i) (ag_nc β j) := by
  intro h
  obtain ⟨k, rfl⟩ : ∃ k, j = i + k := ⟨j - i, by omega⟩
  have h2 : I (ag_nc β i - ag_nc β (i + k)) := h
  rw [ag_nc_add, show ag_nc β i - (ag_nc β i + ag_nc β k) = -ag_nc β k by grind] at h2
  have h3 := ag_neg hI h2
  rw [show - -ag_nc β k = ag_nc β k by grind] at h3
  exact ag_nc_ne hI h1 hP hIP (by omega) (by omega) h3
/-- what is its own P-th power is a number -/
theorem ag_fixed {β : Type} [Lean.Grind.CommRing β] {I : β → Prop} (hI : ag_I I) (hdom : ∀ a b, I (a * b) → I a ∨ I b) (h1 : ¬ I 1) {P : Nat} (hP : ag_pr P) (hIP : I (ag_nc β P)) {b : β} (hb : ag_q I (b ^ P) b) : ∃ c, c < P ∧ ag_q I b (ag_nc β c) := by
  refine Classical.byContradiction (fun hno => ?_)
  have hpw : (b :: (List.range P).map (ag_nc β)).Pairwise (fun a b => ¬ ag_q I a b) := by
    rw [List.pairwise_cons]
    refine ⟨fun y hy hq => ?_, ?_⟩
    · obtain ⟨c, hc, rfl⟩ := List.mem_map.mp hy
      exact hno ⟨c, List.mem_range.mp hc, hq⟩
    · rw [List.pairwise_map]
      refine List.Pairwise.imp_of_mem (fun {i j} hi hj hij => ?_) List.pairwise_lt_range
      exact ag_nc_inj hI h1 hP hIP hij (List.mem_range.mp hj)
  have hrt : ∀ r ∈ b :: (List.range P).map (ag_nc β), ag_q I (r ^ P) r := by
    intro y hy
    rcases List.mem_cons.mp hy with rfl | hy
    · exact hb
    · obtain ⟨c, -, rfl⟩ := List.mem_map.mp hy
      exact ag_fl hI hP hIP c
  have h2 := ag_fix hI hdom h1 hP.1 _ hpw hrt
  simp only [List.length_cons, List.length_map, List.length_range] at h2
  omega
/-- products -/
def ag_pd {β : Type} [Lean.Grind.CommRing β] : List β → β
  | [] => 1
  | a :: l => a * ag_pd l
theorem ag_pd_perm {β : Type} [Lean.Grind.CommRing β] {l l' : List β} (h : List.Perm l l') : ag_pd l = ag_pd l' := by
  induction h with
  | nil => rfl
  | cons x _ ih =>
    show x * ag_pd _ = x * ag_pd _
    rw [ih]
  | swap x y l =>
    show y * (x * ag_pd l) = x * (y * ag_pd l)
    grind
  | trans _ _ h1 h2 => exact h1.trans h2
theorem ag_pd_I {β : Type} [Lean.Grind.CommRing β] {I : β → Prop} (hdom : ∀ a b, I (a * b) → I a ∨ I b) (h1 : ¬ I 1) : ∀ l : List β, (∀ r ∈ l, ¬ I r) → ¬ I (ag_pd l)
  | [], _, h => h1 h
  | a :: l, hl, h => by
    rcases hdom a (ag_pd l) h with h2 | h2
    · exact hl a List.mem_cons_self h2
    · exact ag_pd_I hdom h1 l (fun r hr => hl r (List.mem_cons_of_mem _ hr)) h2
theorem ag_pd_map {β : Type} [Lean.Grind.CommRing β] {I : β → Prop} (hI : ag_I I) (nf : β → β) (hq : ∀ r, ag_q I (nf r) r) (a : β) : ∀ l : List β, ag_q I (ag_pd (l.map (fun r => nf (a * r)))) (a ^ l.length * ag_pd l)
  | [] => ag_of_eq hI (by
      show (1 : β) = a ^ 0 * 1
      rw [Lean.Grind.Semiring.pow_zero]
      grind)
  | b :: l => by
    have h := ag_ml hI (hq (a * b)) (ag_pd_map hI nf hq a l)
    refine ag_tr hI h (ag_of_eq hI ?_)
    show a * b * (a ^ l.length * ag_pd l) = a ^ (l.length + 1) * (b * ag_pd l)
    rw [Lean.Grind.Semiring.pow_succ]
    grind
/-- a unit to the power of the number of all that are not 0 -/
theorem ag_unit {β : Type} [Lean.Grind.CommRing β] {I : β → Prop} (hI : ag_I I) (hdom : ∀ a b, I (a * b) → I a ∨ I b) (h1 : ¬ I 1) (L : List β) (nf : β → β) (hnd : L.Nodup) (hL : ∀ r ∈ L, ¬ I r ∧ nf r = r) (hin : ∀ r, ¬ I r → nf r ∈ L) (hq : ∀ r, ag_q I (nf r) r) (hnf : ∀ r s, ag_q I r s → nf r = nf s) {a b : β} (hab : ag_q I (a * b) 1) : ag_q I (a ^ L.length) 1 := by
  have ha : ¬ I a := fun h => h1 (ag_cg hI (ag_sy hI hab) (by
    have h2 := hI.2.2 a b h
    rwa [show b * a = a * b by grind] at h2))
  have hb : ¬ I b := fun h => h1 (ag_cg hI (ag_sy hI hab) (hI.2.2 b a h))
  have hnd2 : (L.map (fun r => nf (a * r))).Nodup := by
    show List.Pairwise _ _
    rw [List.pairwise_map]
    refine List.Pairwise.imp_of_mem (fun {r s} hr hs hne e => hne ?_) hnd
    have h2 : ag_q I (a * r) (a * s) := ag_tr hI (ag_sy hI (hq (a * r))) (by
      have e2 : nf (a * r) = nf (a * s) := e
      rw [e2]
      exact hq (a * s))
    have h3 : ag_q I (b * (a * r)) (b * (a * s)) := ag_ml hI (ag_rf hI b) h2
    have h4 : ∀ z : β, ag_q I (b * (a * z)) z := fun z => by
      have h5 := ag_ml hI hab (ag_rf hI z)
      rwa [show a * b * z = b * (a * z) by grind, show 1 * z = z by grind] at h5
    have h6 := ag_tr hI (ag_tr hI (ag_sy hI (h4 r)) h3) (h4 s)
    have h7 := hnf r s h6
    rwa [(hL r hr).2, (hL s hs).2] at h7
  have hperm : List.Perm (L.map (fun r => nf (a * r))) L := by
    rw [List.perm_ext_iff_of_nodup hnd2 hnd]
    intro s
    constructor
    · intro hs
      obtain ⟨r, hr, rfl⟩ := List.mem_map.mp hs
      refine hin _ (fun h => ?_)
      rcases hdom _ _ h with h2 | h2
      · exact ha h2
      · exact (hL r hr).1 h2
    · intro hs
      refine List.mem_map.mpr ⟨nf (b * s), hin _ (fun h => ?_), ?_⟩
      · rcases hdom _ _ h with h2 | h2
        · exact hb h2
        · exact (hL s hs).1 h2
      · have h2 : ag_q I (a * nf (b * s)) s := by
          refine ag_tr hI (ag_ml hI (ag_rf hI a) (hq (b * s))) ?_
          have h5 := ag_ml hI hab (ag_rf hI s)
          rwa [show a * b * s = a * (b * s) by grind, show 1 * s = s by grind] at h5
        rw [hnf _ _ h2]
        exact (hL s hs).2
  have h2 := ag_pd_map hI nf hq a L
  rw [ag_pd_perm hperm] at h2
  have h3 : I (ag_pd L - a ^ L.length * ag_pd L) := h2
  have h4 : I ((1 - a ^ L.length) * ag_pd L) := by
    rwa [show (1 - a ^ L.length) * ag_pd L = ag_pd L - a ^ L.length * ag_pd L by grind]
  rcases hdom _ _ h4 with h5 | h5
  · exact ag_sy hI h5
  · exact absurd h5 (ag_pd_I hdom h1 L (fun r hr => (hL r hr).1))
