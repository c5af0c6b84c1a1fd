/-! Division with rest, common divisors, what can't be divided: over any ring, modulo an ideal E -/
theorem ag_bez {β : Type} [Lean.Grind.CommRing β] {E : β → Prop} (hE : ag_I E) (lt : Nat → β → Prop) (hdiv : ∀ (n : Nat) (b : β), lt n b → E b ∨ ∃ m, m < n ∧ ∀ a, ∃ q r, lt m r ∧ ag_q E a (b * q + r)) : ∀ (n : Nat) (b : β), lt n b → ∀ a, ∃ g u v a' b', ag_q E g (u * a + v * b) ∧ ag_q E a (g * a') ∧ ag_q E b (g * b') := by
  intro n
  induction n using Nat.strongRecOn with
  | ind n ih =>
    intro b hb a
    rcases hdiv n b hb with h | ⟨m, hm, hd⟩
    · refine ⟨a, 1, 0, 1, 0, ag_of_eq hE (by grind), ag_of_eq hE (by grind), ?_⟩
      rw [show a * 0 = (0 : β) by grind]
      exact ag_to0 h
    · obtain ⟨q, r, hr, e⟩ := hd a
      obtain ⟨g, u, v, b', r', h1, h2, h3⟩ := ih m hm r hr b
      refine ⟨g, v, u - v * q, b' * q + r', b', ?_, ?_, h2⟩
      · have e2 : ag_q E r (a - b * q) := by
          have e3 := ag_sb hE e (ag_rf hE (b * q))
          rw [show b * q + r - b * q = r by grind] at e3
          exact ag_sy hE e3
        refine ag_tr hE h1 (ag_tr hE (ag_ad hE (ag_rf hE (u * b)) (ag_ml hE (ag_rf hE v) e2)) (ag_of_eq hE ?_))
        grind
      · refine ag_tr hE e (ag_tr hE (ag_ad hE (ag_ml hE h2 (ag_rf hE q)) h3) (ag_of_eq hE ?_))
        grind
/-- the multiples of f -/
def ag_If {β : Type} [Lean.Grind.CommRing β] (E : β → Prop) (f a : β) : Prop := ∃ q, ag_q E a (f * q)
theorem ag_If_ok {β : Type} [Lean.Grind.CommRing β] {E : β → Prop} (hE : ag_I E) (f : β) : ag_I (ag_If E f) := by
  refine ⟨⟨0, ag_of_eq hE (by grind)⟩, fun a b ha hb => ?_, fun a b ha => ?_⟩
  · obtain ⟨q, hq⟩ := ha
    obtain ⟨r, hr⟩ := hb
    refine ⟨q + r, ?_⟩
    rw [show f * (q + r) = f * q + f * r by grind]
    exact ag_ad hE hq hr
  · obtain ⟨q, hq⟩ := ha
    refine ⟨b * q, ?_⟩
    rw [show f * (b * q) = b * (f * q) by grind]
    exact ag_ml hE (ag_rf hE b) hq
theorem ag_If_E {β : Type} [Lean.Grind.CommRing β] {E : β → Prop} (f : β) {a : β} (h : E a) : ag_If E f a := ⟨0, by
  rw [show f * 0 = (0 : β) by grind]
  exact ag_to0 h⟩
theorem ag_If_q {β : Type} [Lean.Grind.CommRing β] {E : β → Prop} (f : β) {a b : β} (h : ag_q E a b) : ag_q (ag_If E f) a b := ag_If_E f h
theorem ag_If_m {β : Type} [Lean.Grind.CommRing β] {E : β → Prop} (hE : ag_I E) (f a : β) : ag_If E f (f * a) := ⟨a, ag_rf hE _⟩
theorem ag_If_f {β : Type} [Lean.Grind.CommRing β] {E : β → Prop} (hE : ag_I E) (f : β) : ag_If E f f := ⟨1, ag_of_eq hE (by grind)⟩
theorem ag_If_tr {β : Type} [Lean.Grind.CommRing β] {E : β → Prop} (hE : ag_I E) {f g a : β} (h1 : ag_If E g f) (h2 : ag_If E f a) : ag_If E g a := by
  obtain ⟨q, hq⟩ := h1
  obtain ⟨r, hr⟩ := h2
  refine ⟨q * r, ?_⟩
  rw [show g * (q * r) = g * q * r by grind]
  exact ag_tr hE hr (ag_ml hE hq (ag_rf hE r))
/-- a divisor of 1 -/
def ag_un {β : Type} [Lean.Grind.CommRing β] (E : β → Prop) (c : β) : Prop := ∃ w, ag_q E (c * w) 1
theorem ag_irr_inv {β : Type} [Lean.Grind.CommRing β] {E : β → Prop} (hE : ag_I E) {f : β} (hbez : ∀ a, ∃ g u v a' b', ag_q E g (u * a + v * f) ∧ ag_q E a (g * a') ∧ ag_q E f (g * b')) (hir : ∀ g h, ag_q E f (g * h) → ag_un E g ∨ ag_un E h) (a : β) : ag_If E f a ∨ ∃ b, ag_q (ag_If E f) (a * b) 1 := by
  obtain ⟨g, u, v, a', b', h1, h2, h3⟩ := hbez a
  rcases hir g b' h3 with ⟨w, hw⟩ | ⟨w, hw⟩
  · refine Or.inr ⟨u * w, ?_⟩
    have hI := ag_If_ok hE f
    have e1 : ag_q (ag_If E f) (g * w) 1 := ag_If_q f hw
    have e2 : ag_q (ag_If E f) g (u * a + v * f) := ag_If_q f h1
    have e3 : ag_q (ag_If E f) (u * a + v * f) (u * a) := by
      have e4 : ag_If E f (f * v) := ag_If_m hE f v
      show ag_If E f (u * a + v * f - u * a)
      rwa [show u * a + v * f - u * a = f * v by grind]
    have e5 := ag_ml hI (ag_tr hI e2 e3) (ag_rf hI w)
    rw [show u * a * w = a * (u * w) by grind] at e5
    exact ag_tr hI (ag_sy hI e5) e1
  · refine Or.inl ⟨w * a', ?_⟩
    refine ag_tr hE h2 ?_
    have e1 : ag_q E (f * w) g := by
      refine ag_tr hE (ag_ml hE h3 (ag_rf hE w)) ?_
      have e2 := ag_ml hE (ag_rf hE g) hw
      rwa [show g * (b' * w) = g * b' * w by grind, show g * 1 = g by grind] at e2
    have e3 := ag_ml hE (ag_sy hE e1) (ag_rf hE a')
    rwa [show f * w * a' = f * (w * a') by grind] at e3
theorem ag_irr_dom {β : Type} [Lean.Grind.CommRing β] {I : β → Prop} (hI : ag_I I) (hinv : ∀ a, I a ∨ ∃ b, ag_q I (a * b) 1) (a c : β) (h : I (a * c)) : I a ∨ I c := by
  rcases hinv a with h1 | ⟨b, hb⟩
  · exact Or.inl h1
  · refine Or.inr ?_
    have h2 := hI.2.2 _ b h
    have h3 := ag_ml hI hb (ag_rf hI c)
    rw [show a * b * c = b * (a * c) by grind, show 1 * c = c by grind] at h3
    exact ag_cg hI (ag_sy hI h3) h2
