/-! For each call of the law: what class and reference answer; that they answer alike and keep the relation (printed by gen/law1.py) -/
/-- a list with one part split in two -/
theorem sl_split {L : List pv_T} {a : Nat} {v : pv_T} (ha : a < L.length) (hv : L[a] = v) (x y : pv_T) : (∀ p ∈ (L.set a x).take (a + 1) ++ y :: (L.set a x).drop (a + 1), p ∈ L ∨ p = x ∨ p = y) ∧ wh_s ((L.set a x).take (a + 1) ++ y :: (L.set a x).drop (a + 1)) + v.1 * (sp_sz v.2.2 31 - 1) = wh_s L + x.1 * (sp_sz x.2.2 31 - 1) + y.1 * (sp_sz y.2.2 31 - 1) := by
  have hL : L = L.take a ++ v :: L.drop (a + 1) := by
    rw [← hv, List.getElem_cons_drop, List.take_append_drop]
  have ht : (L.set a x).take (a + 1) = L.take a ++ [x] := by
    rw [List.take_succ, List.take_set_of_le (Nat.le_refl _), List.getElem?_set_self ha]
    rfl
  have hd : (L.set a x).drop (a + 1) = L.drop (a + 1) := List.drop_set_of_lt (by omega)
  rw [ht, hd]
  constructor
  · intro p hp
    rcases List.mem_append.mp hp with h | h
    · rcases List.mem_append.mp h with h | h
      · exact Or.inl (List.mem_of_mem_take h)
      · exact Or.inr (Or.inl (List.mem_singleton.mp h))
    · rcases List.mem_cons.mp h with h | h
      · exact Or.inr (Or.inr h)
      · exact Or.inl (List.mem_of_mem_drop h)
  · have h1 : wh_s L = wh_s (L.take a) + (v.1 * (sp_sz v.2.2 31 - 1) + wh_s (L.drop (a + 1))) := by
      conv => lhs; rw [hL, wh_app]
      rfl
    rw [wh_app, wh_app, h1]
    show wh_s (L.take a) + (x.1 * (sp_sz x.2.2 31 - 1) + 0) + (y.1 * (sp_sz y.2.2 31 - 1) + wh_s (L.drop (a + 1))) + v.1 * (sp_sz v.2.2 31 - 1) = _
    omega
def qC_prime (P : Nat) (σ : st_T) (r : Int32) (σ1 : st_T) : Prop := r = nI (σ 203 0) ∧ σ1 = σ
def qM_prime (P : Nat) (σ : st_T) (r : Int32) (σ1 : st_T) : Prop := r = nI (σ 205 0) ∧ σ1 = σ
theorem kC_prime {P ld : Nat} {σ σ1 : st_T} {R : Nat → Nat → Nat} {F : Nat → Nat} {L : List pv_T} {r : Int32} (hA : ab_ok P R F L ld) (hm : hm_ok P σ R F L ld) (h : qC_prime P σ  r σ1) : hm_ok P σ1 R F L ld := by
  obtain ⟨-, rfl⟩ := h
  exact hm
theorem jn_prime {P ld : Nat} {σ σ1 σ2 : st_T} {R : Nat → Nat → Nat} {F : Nat → Nat} {L : List pv_T} {r r2 : Int32} (hP : ag_pr P) (hP31 : P < 2147483648) (hA : ab_ok P R F L ld) (hc : hc_ok P σ R F L ld) (hm : hm_ok P σ R F L ld) (hC : qC_prime P σ  r σ1) (hM : qM_prime P σ1  r2 σ2) : r = r2 ∧ lr P σ2 := by
  have hm1 := kC_prime hA hm hC
  obtain ⟨hr, hσ⟩ := hC
  subst hσ
  obtain ⟨hr2, hσ⟩ := hM
  subst hσ
  exact ⟨by rw [hr, hr2, hc.1.1, hm.1.1], R, F, L, ld, hA, hc, hm⟩
def qC_set (P : Nat) (σ : st_T) (a : Int32) (b : Int32) (c0 : Int32) (r : Int32) (σ1 : st_T) : Prop := (¬ (rk_r a ∧ rk_i b) ∧ r = -1 ∧ σ1 = σ) ∨ ∃ a0 b0, (a0 < 8 ∧ a = nI a0) ∧ (b0 < 16 ∧ b = nI b0) ∧ r = nI (sp_sz (va_up (σ (133 + 2 * a0)) b0 (fm_n c0 P)) 31 - 1) ∧ σ1 = st_po σ (133 + 2 * a0) (va_up (σ (133 + 2 * a0)) b0 (fm_n c0 P))
def qM_set (P : Nat) (σ : st_T) (a : Int32) (b : Int32) (c0 : Int32) (r : Int32) (σ1 : st_T) : Prop := (¬ (rk_r a ∧ rk_i b) ∧ r = -1 ∧ σ1 = σ) ∨ ∃ a0 b0, (a0 < 8 ∧ a = nI a0) ∧ (b0 < 16 ∧ b = nI b0) ∧ r = nI (sp_sz (va_up (σ (300 + a0)) b0 (fm_n c0 P)) 31 - 1) ∧ md_wf P σ1 ∧ σ1 (300 + a0) = va_up (σ (300 + a0)) b0 (fm_n c0 P) ∧ md_sm [300 + a0] σ σ1
theorem kC_set {P ld : Nat} {σ σ1 : st_T} {R : Nat → Nat → Nat} {F : Nat → Nat} {L : List pv_T} {r : Int32} {a : Int32} {b : Int32} {c0 : Int32} (hA : ab_ok P R F L ld) (hm : hm_ok P σ R F L ld) (h : qC_set P σ a b c0 r σ1) : hm_ok P σ1 R F L ld := by
  rcases h with ⟨-, -, rfl⟩ | ⟨a_, b_, ⟨ha, _⟩, ⟨hb, _⟩, h⟩
  · exact hm
  · obtain ⟨-, rfl⟩ := h
    exact hm_mo (fun a ha => st_po_row (by omega) (by omega)) hm
theorem jn_set {P ld : Nat} {σ σ1 σ2 : st_T} {R : Nat → Nat → Nat} {F : Nat → Nat} {L : List pv_T} {r r2 : Int32} {a : Int32} {b : Int32} {c0 : Int32} (hP : ag_pr P) (hP31 : P < 2147483648) (hA : ab_ok P R F L ld) (hc : hc_ok P σ R F L ld) (hm : hm_ok P σ R F L ld) (hC : qC_set P σ a b c0 r σ1) (hM : qM_set P σ1 a b c0 r2 σ2) : r = r2 ∧ lr P σ2 := by
  have hm1 := kC_set hA hm hC
  rcases hC with ⟨hn, hr, hσ⟩ | ⟨a_, b_, ⟨ha, rfl⟩, ⟨hb, rfl⟩, hC⟩
  · subst hσ
    rcases hM with ⟨hn2, hr2, hσ⟩ | ⟨a1, b1, ⟨ga, ea⟩, ⟨gb, eb⟩, hM⟩
    · subst hσ
      exact ⟨by rw [hr, hr2], R, F, L, ld, hA, hc, hm⟩
    · exact absurd ⟨⟨a1, ga, ea⟩, ⟨b1, gb, eb⟩⟩ hn
  · rcases hM with ⟨hn2, hr2, hσ⟩ | ⟨a1, b1, ⟨ga, ea⟩, ⟨gb, eb⟩, hM⟩
    · exact absurd ⟨⟨a_, ha, rfl⟩, ⟨b_, hb, rfl⟩⟩ hn2
    · obtain rfl := rk_inj (by omega) (by omega) ea
      obtain rfl := rk_inj (by omega) (by omega) eb
      obtain ⟨hr, hσ⟩ := hC
      obtain ⟨hr2, hw2, e2, hs2⟩ := hM
      have hP0 : 0 < P := by have := hP.1; omega
      rw [hc.2.2.2.1 a_ ha] at hr hσ
      rw [hm1.2.1 a_ ha] at hr2 e2
      subst hσ
      have hok : sp_ok P (va_up (R a_) b_ (fm_n c0 P)) := set_ok (hA.1 a_ ha).1 hb (fm_lt hP0)
      exact ⟨by rw [hr, hr2], lr_wr (X := []) (Y := []) hA hc hm ha (st_wf_po hc.1 (kd_rg ha) hok) (st_sm_po σ _ _) (fun a h => absurd h List.not_mem_nil) st_po_at hw2 hs2 (fun a h => absurd h List.not_mem_nil) e2 (set_sz (hA.1 a_ ha).1 (hA.1 a_ ha).2 hb)⟩
def qC_coefficient (P : Nat) (σ : st_T) (a : Int32) (b : Int32) (r : Int32) (σ1 : st_T) : Prop := (¬ (rk_r a ∧ rk_i b) ∧ r = -1 ∧ σ1 = σ) ∨ ∃ a0 b0, (a0 < 8 ∧ a = nI a0) ∧ (b0 < 16 ∧ b = nI b0) ∧ r = nI (σ (133 + 2 * a0) b0) ∧ σ1 = σ
def qM_coefficient (P : Nat) (σ : st_T) (a : Int32) (b : Int32) (r : Int32) (σ1 : st_T) : Prop := (¬ (rk_r a ∧ rk_i b) ∧ r = -1 ∧ σ1 = σ) ∨ ∃ a0 b0, (a0 < 8 ∧ a = nI a0) ∧ (b0 < 16 ∧ b = nI b0) ∧ r = nI (σ (300 + a0) b0) ∧ σ1 = σ
theorem kC_coefficient {P ld : Nat} {σ σ1 : st_T} {R : Nat → Nat → Nat} {F : Nat → Nat} {L : List pv_T} {r : Int32} {a : Int32} {b : Int32} (hA : ab_ok P R F L ld) (hm : hm_ok P σ R F L ld) (h : qC_coefficient P σ a b r σ1) : hm_ok P σ1 R F L ld := by
  rcases h with ⟨-, -, rfl⟩ | ⟨a_, b_, ⟨ha, _⟩, ⟨hb, _⟩, h⟩
  · exact hm
  · obtain ⟨-, rfl⟩ := h
    exact hm
theorem jn_coefficient {P ld : Nat} {σ σ1 σ2 : st_T} {R : Nat → Nat → Nat} {F : Nat → Nat} {L : List pv_T} {r r2 : Int32} {a : Int32} {b : Int32} (hP : ag_pr P) (hP31 : P < 2147483648) (hA : ab_ok P R F L ld) (hc : hc_ok P σ R F L ld) (hm : hm_ok P σ R F L ld) (hC : qC_coefficient P σ a b r σ1) (hM : qM_coefficient P σ1 a b r2 σ2) : r = r2 ∧ lr P σ2 := by
  have hm1 := kC_coefficient hA hm hC
  rcases hC with ⟨hn, hr, hσ⟩ | ⟨a_, b_, ⟨ha, rfl⟩, ⟨hb, rfl⟩, hC⟩
  · subst hσ
    rcases hM with ⟨hn2, hr2, hσ⟩ | ⟨a1, b1, ⟨ga, ea⟩, ⟨gb, eb⟩, hM⟩
    · subst hσ
      exact ⟨by rw [hr, hr2], R, F, L, ld, hA, hc, hm⟩
    · exact absurd ⟨⟨a1, ga, ea⟩, ⟨b1, gb, eb⟩⟩ hn
  · rcases hM with ⟨hn2, hr2, hσ⟩ | ⟨a1, b1, ⟨ga, ea⟩, ⟨gb, eb⟩, hM⟩
    · exact absurd ⟨⟨a_, ha, rfl⟩, ⟨b_, hb, rfl⟩⟩ hn2
    · obtain rfl := rk_inj (by omega) (by omega) ea
      obtain rfl := rk_inj (by omega) (by omega) eb
      obtain ⟨hr, hσ⟩ := hC
      subst hσ
      obtain ⟨hr2, hσ⟩ := hM
      subst hσ
      exact ⟨by rw [hr, hr2, hc.2.2.2.1 a_ ha, hm.2.1 a_ ha], R, F, L, ld, hA, hc, hm⟩
def qC_size (P : Nat) (σ : st_T) (a : Int32) (r : Int32) (σ1 : st_T) : Prop := (¬ (rk_r a) ∧ r = -1 ∧ σ1 = σ) ∨ ∃ a0, (a0 < 8 ∧ a = nI a0) ∧ r = nI (σ 200 (133 + 2 * a0)) ∧ σ1 = σ
def qM_size (P : Nat) (σ : st_T) (a : Int32) (r : Int32) (σ1 : st_T) : Prop := (¬ (rk_r a) ∧ r = -1 ∧ σ1 = σ) ∨ ∃ a0, (a0 < 8 ∧ a = nI a0) ∧ r = nI (sp_sz (σ (300 + a0)) 31) ∧ σ1 = σ
theorem kC_size {P ld : Nat} {σ σ1 : st_T} {R : Nat → Nat → Nat} {F : Nat → Nat} {L : List pv_T} {r : Int32} {a : Int32} (hA : ab_ok P R F L ld) (hm : hm_ok P σ R F L ld) (h : qC_size P σ a r σ1) : hm_ok P σ1 R F L ld := by
  rcases h with ⟨-, -, rfl⟩ | ⟨a_, ⟨ha, _⟩, h⟩
  · exact hm
  · obtain ⟨-, rfl⟩ := h
    exact hm
theorem jn_size {P ld : Nat} {σ σ1 σ2 : st_T} {R : Nat → Nat → Nat} {F : Nat → Nat} {L : List pv_T} {r r2 : Int32} {a : Int32} (hP : ag_pr P) (hP31 : P < 2147483648) (hA : ab_ok P R F L ld) (hc : hc_ok P σ R F L ld) (hm : hm_ok P σ R F L ld) (hC : qC_size P σ a r σ1) (hM : qM_size P σ1 a r2 σ2) : r = r2 ∧ lr P σ2 := by
  have hm1 := kC_size hA hm hC
  rcases hC with ⟨hn, hr, hσ⟩ | ⟨a_, ⟨ha, rfl⟩, hC⟩
  · subst hσ
    rcases hM with ⟨hn2, hr2, hσ⟩ | ⟨a1, ⟨ga, ea⟩, hM⟩
    · subst hσ
      exact ⟨by rw [hr, hr2], R, F, L, ld, hA, hc, hm⟩
    · exact absurd ⟨a1, ga, ea⟩ hn
  · rcases hM with ⟨hn2, hr2, hσ⟩ | ⟨a1, ⟨ga, ea⟩, hM⟩
    · exact absurd ⟨a_, ha, rfl⟩ hn2
    · obtain rfl := rk_inj (by omega) (by omega) ea
      obtain ⟨hr, hσ⟩ := hC
      subst hσ
      obtain ⟨hr2, hσ⟩ := hM
      subst hσ
      exact ⟨by rw [hr, hr2, (hc.1.2 _ (kd_rg ha)).2, hc.2.2.2.1 a_ ha, hm.2.1 a_ ha], R, F, L, ld, hA, hc, hm⟩
def qC_value (P : Nat) (σ : st_T) (a : Int32) (c0 : Int32) (r : Int32) (σ1 : st_T) : Prop := (¬ (rk_r a) ∧ r = -1 ∧ σ1 = σ) ∨ ∃ a0, (a0 < 8 ∧ a = nI a0) ∧ r = nI (lp_val P (σ (133 + 2 * a0)) (fm_n c0 P) (σ 200 (133 + 2 * a0)) 0) ∧ σ1 = σ
def qM_value (P : Nat) (σ : st_T) (a : Int32) (c0 : Int32) (r : Int32) (σ1 : st_T) : Prop := (¬ (rk_r a) ∧ r = -1 ∧ σ1 = σ) ∨ ∃ a0, (a0 < 8 ∧ a = nI a0) ∧ r = nI (lp_val P (σ (300 + a0)) (fm_n c0 P) (sp_sz (σ (300 + a0)) 31) 0) ∧ σ1 = σ
theorem kC_value {P ld : Nat} {σ σ1 : st_T} {R : Nat → Nat → Nat} {F : Nat → Nat} {L : List pv_T} {r : Int32} {a : Int32} {c0 : Int32} (hA : ab_ok P R F L ld) (hm : hm_ok P σ R F L ld) (h : qC_value P σ a c0 r σ1) : hm_ok P σ1 R F L ld := by
  rcases h with ⟨-, -, rfl⟩ | ⟨a_, ⟨ha, _⟩, h⟩
  · exact hm
  · obtain ⟨-, rfl⟩ := h
    exact hm
theorem jn_value {P ld : Nat} {σ σ1 σ2 : st_T} {R : Nat → Nat → Nat} {F : Nat → Nat} {L : List pv_T} {r r2 : Int32} {a : Int32} {c0 : Int32} (hP : ag_pr P) (hP31 : P < 2147483648) (hA : ab_ok P R F L ld) (hc : hc_ok P σ R F L ld) (hm : hm_ok P σ R F L ld) (hC : qC_value P σ a c0 r σ1) (hM : qM_value P σ1 a c0 r2 σ2) : r = r2 ∧ lr P σ2 := by
  have hm1 := kC_value hA hm hC
  rcases hC with ⟨hn, hr, hσ⟩ | ⟨a_, ⟨ha, rfl⟩, hC⟩
  · subst hσ
    rcases hM with ⟨hn2, hr2, hσ⟩ | ⟨a1, ⟨ga, ea⟩, hM⟩
    · subst hσ
      exact ⟨by rw [hr, hr2], R, F, L, ld, hA, hc, hm⟩
    · exact absurd ⟨a1, ga, ea⟩ hn
  · rcases hM with ⟨hn2, hr2, hσ⟩ | ⟨a1, ⟨ga, ea⟩, hM⟩
    · exact absurd ⟨a_, ha, rfl⟩ hn2
    · obtain rfl := rk_inj (by omega) (by omega) ea
      obtain ⟨hr, hσ⟩ := hC
      subst hσ
      obtain ⟨hr2, hσ⟩ := hM
      subst hσ
      exact ⟨by rw [hr, hr2, (hc.1.2 _ (kd_rg ha)).2, hc.2.2.2.1 a_ ha, hm.2.1 a_ ha], R, F, L, ld, hA, hc, hm⟩
def qC_add (P : Nat) (σ : st_T) (d : Int32) (x : Int32) (y : Int32) (c0 : Int32) (r : Int32) (σ1 : st_T) : Prop := (¬ (rk_r d ∧ rk_r x ∧ rk_r y) ∧ r = -1 ∧ σ1 = σ) ∨ ∃ d0 x0 y0, (d0 < 8 ∧ d = nI d0) ∧ (x0 < 8 ∧ x = nI x0) ∧ (y0 < 8 ∧ y = nI y0) ∧ r = nI (sp_sz (σ1 (133 + 2 * d0)) 31) ∧ st_wf P σ1 ∧ σ1 (133 + 2 * d0) = sp_add P (σ (133 + 2 * x0)) (σ (133 + 2 * y0)) (fm_n c0 P) ∧ st_sm [(133 + 2 * d0)] σ σ1
def qM_add (P : Nat) (σ : st_T) (d : Int32) (x : Int32) (y : Int32) (c0 : Int32) (r : Int32) (σ1 : st_T) : Prop := (¬ (rk_r d ∧ rk_r x ∧ rk_r y) ∧ r = -1 ∧ σ1 = σ) ∨ ∃ d0 x0 y0, (d0 < 8 ∧ d = nI d0) ∧ (x0 < 8 ∧ x = nI x0) ∧ (y0 < 8 ∧ y = nI y0) ∧ r = nI (sp_sz (σ1 (300 + d0)) 31) ∧ md_wf P σ1 ∧ σ1 (300 + d0) = sp_add P (σ (300 + x0)) (σ (300 + y0)) (fm_n c0 P) ∧ md_sm [(300 + d0), 300 + 25] σ σ1
theorem kC_add {P ld : Nat} {σ σ1 : st_T} {R : Nat → Nat → Nat} {F : Nat → Nat} {L : List pv_T} {r : Int32} {d : Int32} {x : Int32} {y : Int32} {c0 : Int32} (hA : ab_ok P R F L ld) (hm : hm_ok P σ R F L ld) (h : qC_add P σ d x y c0 r σ1) : hm_ok P σ1 R F L ld := by
  rcases h with ⟨-, -, rfl⟩ | ⟨d_, x_, y_, ⟨hd, _⟩, ⟨hx, _⟩, ⟨hy, _⟩, h⟩
  · exact hm
  · obtain ⟨-, -, -, hs⟩ := h
    exact hm_mo (st_hi hs (fun z hz => by
      rcases List.mem_cons.mp hz with rfl | h
      · exact Or.inl ⟨d_, hd, rfl⟩
      · exact Or.inr ((by decide +kernel : ∀ a ∈ ([] : List Nat), a ∈ sc_X) z h))) hm
theorem jn_add {P ld : Nat} {σ σ1 σ2 : st_T} {R : Nat → Nat → Nat} {F : Nat → Nat} {L : List pv_T} {r r2 : Int32} {d : Int32} {x : Int32} {y : Int32} {c0 : Int32} (hP : ag_pr P) (hP31 : P < 2147483648) (hA : ab_ok P R F L ld) (hc : hc_ok P σ R F L ld) (hm : hm_ok P σ R F L ld) (hC : qC_add P σ d x y c0 r σ1) (hM : qM_add P σ1 d x y c0 r2 σ2) : r = r2 ∧ lr P σ2 := by
  have hm1 := kC_add hA hm hC
  rcases hC with ⟨hn, hr, hσ⟩ | ⟨d_, x_, y_, ⟨hd, rfl⟩, ⟨hx, rfl⟩, ⟨hy, rfl⟩, hC⟩
  · subst hσ
    rcases hM with ⟨hn2, hr2, hσ⟩ | ⟨d1, x1, y1, ⟨gd, ed⟩, ⟨gx, ex⟩, ⟨gy, ey⟩, hM⟩
    · subst hσ
      exact ⟨by rw [hr, hr2], R, F, L, ld, hA, hc, hm⟩
    · exact absurd ⟨⟨d1, gd, ed⟩, ⟨x1, gx, ex⟩, ⟨y1, gy, ey⟩⟩ hn
  · rcases hM with ⟨hn2, hr2, hσ⟩ | ⟨d1, x1, y1, ⟨gd, ed⟩, ⟨gx, ex⟩, ⟨gy, ey⟩, hM⟩
    · exact absurd ⟨⟨d_, hd, rfl⟩, ⟨x_, hx, rfl⟩, ⟨y_, hy, rfl⟩⟩ hn2
    · obtain rfl := rk_inj (by omega) (by omega) ed
      obtain rfl := rk_inj (by omega) (by omega) ex
      obtain rfl := rk_inj (by omega) (by omega) ey
      obtain ⟨hr, hw1, e1, hs1⟩ := hC
      obtain ⟨hr2, hw2, e2, hs2⟩ := hM
      simp only [hc.2.2.2.1 x_ hx, hc.2.2.2.1 y_ hy] at e1
      simp only [hm1.2.1 x_ hx, hm1.2.1 y_ hy] at e2
      exact ⟨by rw [hr, hr2, e1, e2], lr_wr hA hc hm hd hw1 hs1 (by decide +kernel : ∀ a ∈ ([] : List Nat), a ∈ sc_X) e1 hw2 hs2 (by decide +kernel : ∀ a ∈ ([300 + 25] : List Nat), a ∈ mk_W) e2 (sp_sz_add (fun i hi => sp_hi (hA.1 x_ hx).1 (by have := (hA.1 x_ hx).2; omega)) (fun i hi => sp_hi (hA.1 y_ hy).1 (by have := (hA.1 y_ hy).2; omega)))⟩
def qC_common (P : Nat) (σ : st_T) (d : Int32) (x : Int32) (y : Int32) (r : Int32) (σ1 : st_T) : Prop := (¬ (rk_r d ∧ rk_r x ∧ rk_r y) ∧ r = -1 ∧ σ1 = σ) ∨ ∃ d0 x0 y0, (d0 < 8 ∧ d = nI d0) ∧ (x0 < 8 ∧ x = nI x0) ∧ (y0 < 8 ∧ y = nI y0) ∧ r = nI (sp_sz (σ1 (133 + 2 * d0)) 31) ∧ st_wf P σ1 ∧ σ1 (133 + 2 * d0) = sp_gcd P (σ (133 + 2 * x0)) (σ (133 + 2 * y0)) ∧ st_sm [(133 + 2 * d0), 4, 6, 8, 10] σ σ1
def qM_common (P : Nat) (σ : st_T) (d : Int32) (x : Int32) (y : Int32) (r : Int32) (σ1 : st_T) : Prop := (¬ (rk_r d ∧ rk_r x ∧ rk_r y) ∧ r = -1 ∧ σ1 = σ) ∨ ∃ d0 x0 y0, (d0 < 8 ∧ d = nI d0) ∧ (x0 < 8 ∧ x = nI x0) ∧ (y0 < 8 ∧ y = nI y0) ∧ r = nI (sp_sz (σ1 (300 + d0)) 31) ∧ md_wf P σ1 ∧ σ1 (300 + d0) = sp_gcd P (σ (300 + x0)) (σ (300 + y0)) ∧ md_sm [(300 + d0), 300 + 29, 300 + 30, 300 + 31, 300 + 32] σ σ1
theorem kC_common {P ld : Nat} {σ σ1 : st_T} {R : Nat → Nat → Nat} {F : Nat → Nat} {L : List pv_T} {r : Int32} {d : Int32} {x : Int32} {y : Int32} (hA : ab_ok P R F L ld) (hm : hm_ok P σ R F L ld) (h : qC_common P σ d x y r σ1) : hm_ok P σ1 R F L ld := by
  rcases h with ⟨-, -, rfl⟩ | ⟨d_, x_, y_, ⟨hd, _⟩, ⟨hx, _⟩, ⟨hy, _⟩, h⟩
  · exact hm
  · obtain ⟨-, -, -, hs⟩ := h
    exact hm_mo (st_hi hs (fun z hz => by
      rcases List.mem_cons.mp hz with rfl | h
      · exact Or.inl ⟨d_, hd, rfl⟩
      · exact Or.inr ((by decide +kernel : ∀ a ∈ ([4, 6, 8, 10] : List Nat), a ∈ sc_X) z h))) hm
theorem jn_common {P ld : Nat} {σ σ1 σ2 : st_T} {R : Nat → Nat → Nat} {F : Nat → Nat} {L : List pv_T} {r r2 : Int32} {d : Int32} {x : Int32} {y : Int32} (hP : ag_pr P) (hP31 : P < 2147483648) (hA : ab_ok P R F L ld) (hc : hc_ok P σ R F L ld) (hm : hm_ok P σ R F L ld) (hC : qC_common P σ d x y r σ1) (hM : qM_common P σ1 d x y r2 σ2) : r = r2 ∧ lr P σ2 := by
  have hm1 := kC_common hA hm hC
  rcases hC with ⟨hn, hr, hσ⟩ | ⟨d_, x_, y_, ⟨hd, rfl⟩, ⟨hx, rfl⟩, ⟨hy, rfl⟩, hC⟩
  · subst hσ
    rcases hM with ⟨hn2, hr2, hσ⟩ | ⟨d1, x1, y1, ⟨gd, ed⟩, ⟨gx, ex⟩, ⟨gy, ey⟩, hM⟩
    · subst hσ
      exact ⟨by rw [hr, hr2], R, F, L, ld, hA, hc, hm⟩
    · exact absurd ⟨⟨d1, gd, ed⟩, ⟨x1, gx, ex⟩, ⟨y1, gy, ey⟩⟩ hn
  · rcases hM with ⟨hn2, hr2, hσ⟩ | ⟨d1, x1, y1, ⟨gd, ed⟩, ⟨gx, ex⟩, ⟨gy, ey⟩, hM⟩
    · exact absurd ⟨⟨d_, hd, rfl⟩, ⟨x_, hx, rfl⟩, ⟨y_, hy, rfl⟩⟩ hn2
    · obtain rfl := rk_inj (by omega) (by omega) ed
      obtain rfl := rk_inj (by omega) (by omega) ex
      obtain rfl := rk_inj (by omega) (by omega) ey
      obtain ⟨hr, hw1, e1, hs1⟩ := hC
      obtain ⟨hr2, hw2, e2, hs2⟩ := hM
      simp only [hc.2.2.2.1 x_ hx, hc.2.2.2.1 y_ hy] at e1
      simp only [hm1.2.1 x_ hx, hm1.2.1 y_ hy] at e2
      exact ⟨by rw [hr, hr2, e1, e2], lr_wr hA hc hm hd hw1 hs1 (by decide +kernel : ∀ a ∈ ([4, 6, 8, 10] : List Nat), a ∈ sc_X) e1 hw2 hs2 (by decide +kernel : ∀ a ∈ ([300 + 29, 300 + 30, 300 + 31, 300 + 32] : List Nat), a ∈ mk_W) e2 (gcd_sz hP (hA.1 x_ hx).1 (hA.1 y_ hy).1 (hA.1 x_ hx).2 (hA.1 y_ hy).2)⟩
def qC_derive (P : Nat) (σ : st_T) (d : Int32) (x : Int32) (r : Int32) (σ1 : st_T) : Prop := (¬ (rk_r d ∧ rk_r x) ∧ r = -1 ∧ σ1 = σ) ∨ ∃ d0 x0, (d0 < 8 ∧ d = nI d0) ∧ (x0 < 8 ∧ x = nI x0) ∧ r = nI (sp_sz (σ1 (133 + 2 * d0)) 31) ∧ st_wf P σ1 ∧ σ1 (133 + 2 * d0) = lp_der P (σ (133 + 2 * x0)) ∧ st_sm [(133 + 2 * d0)] σ σ1
def qM_derive (P : Nat) (σ : st_T) (d : Int32) (x : Int32) (r : Int32) (σ1 : st_T) : Prop := (¬ (rk_r d ∧ rk_r x) ∧ r = -1 ∧ σ1 = σ) ∨ ∃ d0 x0, (d0 < 8 ∧ d = nI d0) ∧ (x0 < 8 ∧ x = nI x0) ∧ r = nI (sp_sz (σ1 (300 + d0)) 31) ∧ md_wf P σ1 ∧ σ1 (300 + d0) = lp_der P (σ (300 + x0)) ∧ md_sm [(300 + d0), 300 + 25] σ σ1
theorem kC_derive {P ld : Nat} {σ σ1 : st_T} {R : Nat → Nat → Nat} {F : Nat → Nat} {L : List pv_T} {r : Int32} {d : Int32} {x : Int32} (hA : ab_ok P R F L ld) (hm : hm_ok P σ R F L ld) (h : qC_derive P σ d x r σ1) : hm_ok P σ1 R F L ld := by
  rcases h with ⟨-, -, rfl⟩ | ⟨d_, x_, ⟨hd, _⟩, ⟨hx, _⟩, h⟩
  · exact hm
  · obtain ⟨-, -, -, hs⟩ := h
    exact hm_mo (st_hi hs (fun z hz => by
      rcases List.mem_cons.mp hz with rfl | h
      · exact Or.inl ⟨d_, hd, rfl⟩
      · exact Or.inr ((by decide +kernel : ∀ a ∈ ([] : List Nat), a ∈ sc_X) z h))) hm
theorem jn_derive {P ld : Nat} {σ σ1 σ2 : st_T} {R : Nat → Nat → Nat} {F : Nat → Nat} {L : List pv_T} {r r2 : Int32} {d : Int32} {x : Int32} (hP : ag_pr P) (hP31 : P < 2147483648) (hA : ab_ok P R F L ld) (hc : hc_ok P σ R F L ld) (hm : hm_ok P σ R F L ld) (hC : qC_derive P σ d x r σ1) (hM : qM_derive P σ1 d x r2 σ2) : r = r2 ∧ lr P σ2 := by
  have hm1 := kC_derive hA hm hC
  rcases hC with ⟨hn, hr, hσ⟩ | ⟨d_, x_, ⟨hd, rfl⟩, ⟨hx, rfl⟩, hC⟩
  · subst hσ
    rcases hM with ⟨hn2, hr2, hσ⟩ | ⟨d1, x1, ⟨gd, ed⟩, ⟨gx, ex⟩, hM⟩
    · subst hσ
      exact ⟨by rw [hr, hr2], R, F, L, ld, hA, hc, hm⟩
    · exact absurd ⟨⟨d1, gd, ed⟩, ⟨x1, gx, ex⟩⟩ hn
  · rcases hM with ⟨hn2, hr2, hσ⟩ | ⟨d1, x1, ⟨gd, ed⟩, ⟨gx, ex⟩, hM⟩
    · exact absurd ⟨⟨d_, hd, rfl⟩, ⟨x_, hx, rfl⟩⟩ hn2
    · obtain rfl := rk_inj (by omega) (by omega) ed
      obtain rfl := rk_inj (by omega) (by omega) ex
      obtain ⟨hr, hw1, e1, hs1⟩ := hC
      obtain ⟨hr2, hw2, e2, hs2⟩ := hM
      simp only [hc.2.2.2.1 x_ hx] at e1
      simp only [hm1.2.1 x_ hx] at e2
      exact ⟨by rw [hr, hr2, e1, e2], lr_wr hA hc hm hd hw1 hs1 (by decide +kernel : ∀ a ∈ ([] : List Nat), a ∈ sc_X) e1 hw2 hs2 (by decide +kernel : ∀ a ∈ ([300 + 25] : List Nat), a ∈ mk_W) e2 (der_sz (hA.1 x_ hx).1 (hA.1 x_ hx).2)⟩
def qC_multiply (P : Nat) (σ : st_T) (d : Int32) (x : Int32) (y : Int32) (r : Int32) (σ1 : st_T) : Prop := (¬ (rk_r d ∧ rk_r x ∧ rk_r y) ∧ r = -1 ∧ σ1 = σ) ∨ ∃ d0 x0 y0, (d0 < 8 ∧ d = nI d0) ∧ (x0 < 8 ∧ x = nI x0) ∧ (y0 < 8 ∧ y = nI y0) ∧ ((17 < σ 200 (133 + 2 * x0) + σ 200 (133 + 2 * y0) ∧ r = -2 ∧ σ1 = σ) ∨ (σ 200 (133 + 2 * x0) + σ 200 (133 + 2 * y0) ≤ 17 ∧ r = nI (sp_sz (σ1 (133 + 2 * d0)) 31) ∧ st_wf P σ1 ∧ σ1 (133 + 2 * d0) = sp_mul P (σ (133 + 2 * x0)) (σ (133 + 2 * y0)) ∧ st_sm [(133 + 2 * d0), 2] σ σ1))
def qM_multiply (P : Nat) (σ : st_T) (d : Int32) (x : Int32) (y : Int32) (r : Int32) (σ1 : st_T) : Prop := (¬ (rk_r d ∧ rk_r x ∧ rk_r y) ∧ r = -1 ∧ σ1 = σ) ∨ ∃ d0 x0 y0, (d0 < 8 ∧ d = nI d0) ∧ (x0 < 8 ∧ x = nI x0) ∧ (y0 < 8 ∧ y = nI y0) ∧ ((17 < sp_sz (σ (300 + x0)) 31 + sp_sz (σ (300 + y0)) 31 ∧ r = -2 ∧ σ1 = σ) ∨ (sp_sz (σ (300 + x0)) 31 + sp_sz (σ (300 + y0)) 31 ≤ 17 ∧ r = nI (sp_sz (σ1 (300 + d0)) 31) ∧ md_wf P σ1 ∧ σ1 (300 + d0) = sp_mul P (σ (300 + x0)) (σ (300 + y0)) ∧ md_sm [(300 + d0), 300 + 31] σ σ1))
theorem kC_multiply {P ld : Nat} {σ σ1 : st_T} {R : Nat → Nat → Nat} {F : Nat → Nat} {L : List pv_T} {r : Int32} {d : Int32} {x : Int32} {y : Int32} (hA : ab_ok P R F L ld) (hm : hm_ok P σ R F L ld) (h : qC_multiply P σ d x y r σ1) : hm_ok P σ1 R F L ld := by
  rcases h with ⟨-, -, rfl⟩ | ⟨d_, x_, y_, ⟨hd, _⟩, ⟨hx, _⟩, ⟨hy, _⟩, h⟩
  · exact hm
  · rcases h with ⟨-, -, rfl⟩ | ⟨-, -, -, -, hs⟩
    · exact hm
    · exact hm_mo (st_hi hs (fun z hz => by
      rcases List.mem_cons.mp hz with rfl | h
      · exact Or.inl ⟨d_, hd, rfl⟩
      · exact Or.inr ((by decide +kernel : ∀ a ∈ ([2] : List Nat), a ∈ sc_X) z h))) hm
theorem jn_multiply {P ld : Nat} {σ σ1 σ2 : st_T} {R : Nat → Nat → Nat} {F : Nat → Nat} {L : List pv_T} {r r2 : Int32} {d : Int32} {x : Int32} {y : Int32} (hP : ag_pr P) (hP31 : P < 2147483648) (hA : ab_ok P R F L ld) (hc : hc_ok P σ R F L ld) (hm : hm_ok P σ R F L ld) (hC : qC_multiply P σ d x y r σ1) (hM : qM_multiply P σ1 d x y r2 σ2) : r = r2 ∧ lr P σ2 := by
  have hm1 := kC_multiply hA hm hC
  rcases hC with ⟨hn, hr, hσ⟩ | ⟨d_, x_, y_, ⟨hd, rfl⟩, ⟨hx, rfl⟩, ⟨hy, rfl⟩, hC⟩
  · subst hσ
    rcases hM with ⟨hn2, hr2, hσ⟩ | ⟨d1, x1, y1, ⟨gd, ed⟩, ⟨gx, ex⟩, ⟨gy, ey⟩, hM⟩
    · subst hσ
      exact ⟨by rw [hr, hr2], R, F, L, ld, hA, hc, hm⟩
    · exact absurd ⟨⟨d1, gd, ed⟩, ⟨x1, gx, ex⟩, ⟨y1, gy, ey⟩⟩ hn
  · rcases hM with ⟨hn2, hr2, hσ⟩ | ⟨d1, x1, y1, ⟨gd, ed⟩, ⟨gx, ex⟩, ⟨gy, ey⟩, hM⟩
    · exact absurd ⟨⟨d_, hd, rfl⟩, ⟨x_, hx, rfl⟩, ⟨y_, hy, rfl⟩⟩ hn2
    · obtain rfl := rk_inj (by omega) (by omega) ed
      obtain rfl := rk_inj (by omega) (by omega) ex
      obtain rfl := rk_inj (by omega) (by omega) ey
      rw [(hc.1.2 _ (kd_rg hx)).2, (hc.1.2 _ (kd_rg hy)).2] at hC
      simp only [hc.2.2.2.1 x_ hx, hc.2.2.2.1 y_ hy] at hC
      simp only [hm1.2.1 x_ hx, hm1.2.1 y_ hy] at hM
      rcases hC with ⟨hg, hr, hσ⟩ | ⟨hg, hr, hw1, e1, hs1⟩
      · subst hσ
        rcases hM with ⟨hg2, hr2, hσ⟩ | ⟨hg2, -⟩
        · subst hσ
          exact ⟨by rw [hr, hr2], R, F, L, ld, hA, hc, hm⟩
        · omega
      · rcases hM with ⟨hg2, -⟩ | ⟨hg2, hr2, hw2, e2, hs2⟩
        · omega
        · have hz := sp_mul_sz (P := P) (hA.1 x_ hx).1 (hA.1 y_ hy).1
          exact ⟨by rw [hr, hr2, e1, e2], lr_wr hA hc hm hd hw1 hs1 (by decide +kernel : ∀ a ∈ ([2] : List Nat), a ∈ sc_X) e1 hw2 hs2 (by decide +kernel : ∀ a ∈ ([300 + 31] : List Nat), a ∈ mk_W) e2 (by omega)⟩
def qC_divide (P : Nat) (σ : st_T) (q : Int32) (d : Int32) (x : Int32) (y : Int32) (r : Int32) (σ1 : st_T) : Prop := (¬ (rk_r q ∧ rk_r d ∧ rk_r x ∧ rk_r y) ∧ r = -1 ∧ σ1 = σ) ∨ ∃ q0 d0 x0 y0, (q0 < 8 ∧ q = nI q0) ∧ (d0 < 8 ∧ d = nI d0) ∧ (x0 < 8 ∧ x = nI x0) ∧ (y0 < 8 ∧ y = nI y0) ∧ ((sp_sz (σ (133 + 2 * y0)) 31 = 0 ∧ r = -1 ∧ σ1 = σ) ∨ (0 < sp_sz (σ (133 + 2 * y0)) 31 ∧ r = nI (sp_sz (σ1 (133 + 2 * d0)) 31) ∧ st_wf P σ1 ∧ (σ1 (133 + 2 * d0) = sp_rest P (σ (133 + 2 * x0)) (σ (133 + 2 * y0)) ∧ (q0 ≠ d0 → σ1 (133 + 2 * q0) = sp_quo P (σ (133 + 2 * x0)) (σ (133 + 2 * y0)))) ∧ st_sm [(133 + 2 * q0), (133 + 2 * d0), 4, 6] σ σ1))
def qM_divide (P : Nat) (σ : st_T) (q : Int32) (d : Int32) (x : Int32) (y : Int32) (r : Int32) (σ1 : st_T) : Prop := (¬ (rk_r q ∧ rk_r d ∧ rk_r x ∧ rk_r y) ∧ r = -1 ∧ σ1 = σ) ∨ ∃ q0 d0 x0 y0, (q0 < 8 ∧ q = nI q0) ∧ (d0 < 8 ∧ d = nI d0) ∧ (x0 < 8 ∧ x = nI x0) ∧ (y0 < 8 ∧ y = nI y0) ∧ ((sp_sz (σ (300 + y0)) 31 = 0 ∧ r = -1 ∧ σ1 = σ) ∨ (0 < sp_sz (σ (300 + y0)) 31 ∧ r = nI (sp_sz (σ1 (300 + d0)) 31) ∧ md_wf P σ1 ∧ (σ1 (300 + d0) = sp_rest P (σ (300 + x0)) (σ (300 + y0)) ∧ (q0 ≠ d0 → σ1 (300 + q0) = sp_quo P (σ (300 + x0)) (σ (300 + y0)))) ∧ md_sm [(300 + q0), (300 + d0), 300 + 25, 300 + 32] σ σ1))
theorem kC_divide {P ld : Nat} {σ σ1 : st_T} {R : Nat → Nat → Nat} {F : Nat → Nat} {L : List pv_T} {r : Int32} {q : Int32} {d : Int32} {x : Int32} {y : Int32} (hA : ab_ok P R F L ld) (hm : hm_ok P σ R F L ld) (h : qC_divide P σ q d x y r σ1) : hm_ok P σ1 R F L ld := by
  rcases h with ⟨-, -, rfl⟩ | ⟨q_, d_, x_, y_, ⟨hq, _⟩, ⟨hd, _⟩, ⟨hx, _⟩, ⟨hy, _⟩, h⟩
  · exact hm
  · rcases h with ⟨-, -, rfl⟩ | ⟨-, -, -, -, hs⟩
    · exact hm
    · exact hm_mo (st_hi hs (fun a ha => by
        rcases List.mem_cons.mp ha with rfl | h
        · exact Or.inl ⟨q_, hq, rfl⟩
        · rcases List.mem_cons.mp h with rfl | h
          · exact Or.inl ⟨d_, hd, rfl⟩
          · exact Or.inr ((by decide +kernel : ∀ a ∈ ([4, 6] : List Nat), a ∈ sc_X) a h))) hm
theorem jn_divide {P ld : Nat} {σ σ1 σ2 : st_T} {R : Nat → Nat → Nat} {F : Nat → Nat} {L : List pv_T} {r r2 : Int32} {q : Int32} {d : Int32} {x : Int32} {y : Int32} (hP : ag_pr P) (hP31 : P < 2147483648) (hA : ab_ok P R F L ld) (hc : hc_ok P σ R F L ld) (hm : hm_ok P σ R F L ld) (hC : qC_divide P σ q d x y r σ1) (hM : qM_divide P σ1 q d x y r2 σ2) : r = r2 ∧ lr P σ2 := by
  have hm1 := kC_divide hA hm hC
  rcases hC with ⟨hn, hr, hσ⟩ | ⟨q_, d_, x_, y_, ⟨hq, rfl⟩, ⟨hd, rfl⟩, ⟨hx, rfl⟩, ⟨hy, rfl⟩, hC⟩
  · subst hσ
    rcases hM with ⟨hn2, hr2, hσ⟩ | ⟨q1, d1, x1, y1, ⟨gq, eq⟩, ⟨gd, ed⟩, ⟨gx, ex⟩, ⟨gy, ey⟩, hM⟩
    · subst hσ
      exact ⟨by rw [hr, hr2], R, F, L, ld, hA, hc, hm⟩
    · exact absurd ⟨⟨q1, gq, eq⟩, ⟨d1, gd, ed⟩, ⟨x1, gx, ex⟩, ⟨y1, gy, ey⟩⟩ hn
  · rcases hM with ⟨hn2, hr2, hσ⟩ | ⟨q1, d1, x1, y1, ⟨gq, eq⟩, ⟨gd, ed⟩, ⟨gx, ex⟩, ⟨gy, ey⟩, hM⟩
    · exact absurd ⟨⟨q_, hq, rfl⟩, ⟨d_, hd, rfl⟩, ⟨x_, hx, rfl⟩, ⟨y_, hy, rfl⟩⟩ hn2
    · obtain rfl := rk_inj (by omega) (by omega) eq
      obtain rfl := rk_inj (by omega) (by omega) ed
      obtain rfl := rk_inj (by omega) (by omega) ex
      obtain rfl := rk_inj (by omega) (by omega) ey
      simp only [hc.2.2.2.1 x_ hx, hc.2.2.2.1 y_ hy] at hC
      simp only [hm1.2.1 x_ hx, hm1.2.1 y_ hy] at hM
      rcases hC with ⟨hg, hr, hσ⟩ | ⟨hg, hr, hw1, ⟨e1, f1⟩, hs1⟩
      · subst hσ
        rcases hM with ⟨hg2, hr2, hσ⟩ | ⟨hg2, -⟩
        · subst hσ
          exact ⟨by rw [hr, hr2], R, F, L, ld, hA, hc, hm⟩
        · omega
      · rcases hM with ⟨hg2, -⟩ | ⟨hg2, hr2, hw2, ⟨e2, f2⟩, hs2⟩
        · omega
        · have hz := sp_dv_ok hP (hA.1 x_ hx).1 (hA.1 y_ hy).1 hg
          have hzq := quo_sz hP (hA.1 x_ hx).1 (hA.1 y_ hy).1 hg (hA.1 x_ hx).2
          have hzy := (hA.1 y_ hy).2
          refine ⟨by rw [hr, hr2, e1, e2], lr_gen (R' := va_up (va_up R q_ (sp_quo P (R x_) (R y_))) d_ (sp_rest P (R x_) (R y_))) hA hc hm hw1 hs1 (fun a ha => by
              rcases List.mem_cons.mp ha with rfl | h
              · exact Or.inl ⟨q_, hq, rfl⟩
              · rcases List.mem_cons.mp h with rfl | h
                · exact Or.inl ⟨d_, hd, rfl⟩
                · exact Or.inr ((by decide +kernel : ∀ a ∈ ([4, 6] : List Nat), a ∈ sc_X) a h)) (fun n hn => ?_) hw2 hs2 (fun a ha => by
              rcases List.mem_cons.mp ha with rfl | h
              · exact Or.inl ⟨q_, hq, rfl⟩
              · rcases List.mem_cons.mp h with rfl | h
                · exact Or.inl ⟨d_, hd, rfl⟩
                · exact Or.inr ((by decide +kernel : ∀ a ∈ ([300 + 25, 300 + 32] : List Nat), a ∈ mk_W) a h)) (fun n hn => ?_) (fun n hn => ?_)⟩
          · by_cases hnd : n = d_
            · rw [hnd, va_up_self]
              exact e1
            · rw [va_up_ne _ _ hnd]
              by_cases hnq : n = q_
              · rw [hnq, va_up_self]
                exact f1 (by omega)
              · rw [va_up_ne _ _ hnq, hs1 _ (fun hx => ?_) (by omega)]
                · exact hc.2.2.2.1 n hn
                · rcases List.mem_cons.mp hx with hx | hx
                  · omega
                  · rcases List.mem_cons.mp hx with hx | hx
                    · omega
                    · exact (sc_rg n hn).2 ((by decide +kernel : ∀ a ∈ ([4, 6] : List Nat), a ∈ sc_X) _ hx)
          · by_cases hnd : n = d_
            · rw [hnd, va_up_self]
              exact e2
            · rw [va_up_ne _ _ hnd]
              by_cases hnq : n = q_
              · rw [hnq, va_up_self]
                exact f2 (by omega)
              · rw [va_up_ne _ _ hnq, hs2 _ (fun hx => ?_)]
                · exact hm1.2.1 n hn
                · rcases List.mem_cons.mp hx with hx | hx
                  · omega
                  · rcases List.mem_cons.mp hx with hx | hx
                    · omega
                    · exact (by decide +kernel : ∀ n, n < 8 → 300 + n ∉ mk_W) n hn ((by decide +kernel : ∀ a ∈ ([300 + 25, 300 + 32] : List Nat), a ∈ mk_W) _ hx)
          · by_cases hnd : n = d_
            · rw [hnd, va_up_self]
              have := hz.2.2.1
              omega
            · rw [va_up_ne _ _ hnd]
              by_cases hnq : n = q_
              · rw [hnq, va_up_self]
                exact hzq
              · rw [va_up_ne _ _ hnq]
                exact (hA.1 n hn).2
def qC_power (P : Nat) (σ : st_T) (d : Int32) (x : Int32) (y : Int32) (z0 : Int64) (r : Int32) (σ1 : st_T) : Prop := (¬ (rk_r d ∧ rk_r x ∧ rk_r y) ∧ r = -1 ∧ σ1 = σ) ∨ ∃ d0 x0 y0, (d0 < 8 ∧ d = nI d0) ∧ (x0 < 8 ∧ x = nI x0) ∧ (y0 < 8 ∧ y = nI y0) ∧ (((sp_sz (σ (133 + 2 * y0)) 31 = 0 ∨ ¬ lN 0 ≤ z0) ∧ r = -1 ∧ σ1 = σ) ∨ (0 < sp_sz (σ (133 + 2 * y0)) 31 ∧ lN 0 ≤ z0 ∧ r = nI (sp_sz (σ1 (133 + 2 * d0)) 31) ∧ st_wf P σ1 ∧ sp_is P (σ (133 + 2 * y0)) (σ1 (133 + 2 * d0)) (pz_pw (pe_f (σ (133 + 2 * x0))) z0.toInt.toNat) ∧ st_sm [(133 + 2 * d0), 2, 4, 6, 12, 14, 16] σ σ1))
def qM_power (P : Nat) (σ : st_T) (d : Int32) (x : Int32) (y : Int32) (z0 : Int64) (r : Int32) (σ1 : st_T) : Prop := (¬ (rk_r d ∧ rk_r x ∧ rk_r y) ∧ r = -1 ∧ σ1 = σ) ∨ ∃ d0 x0 y0, (d0 < 8 ∧ d = nI d0) ∧ (x0 < 8 ∧ x = nI x0) ∧ (y0 < 8 ∧ y = nI y0) ∧ (((sp_sz (σ (300 + y0)) 31 = 0 ∨ ¬ lN 0 ≤ z0) ∧ r = -1 ∧ σ1 = σ) ∨ (0 < sp_sz (σ (300 + y0)) 31 ∧ lN 0 ≤ z0 ∧ r = nI (sp_sz (σ1 (300 + d0)) 31) ∧ md_wf P σ1 ∧ sp_is P (σ (300 + y0)) (σ1 (300 + d0)) (pz_pw (pe_f (σ (300 + x0))) z0.toInt.toNat) ∧ md_sm [(300 + d0), 300 + 28, 300 + 31, 300 + 32] σ σ1))
theorem kC_power {P ld : Nat} {σ σ1 : st_T} {R : Nat → Nat → Nat} {F : Nat → Nat} {L : List pv_T} {r : Int32} {d : Int32} {x : Int32} {y : Int32} {z0 : Int64} (hA : ab_ok P R F L ld) (hm : hm_ok P σ R F L ld) (h : qC_power P σ d x y z0 r σ1) : hm_ok P σ1 R F L ld := by
  rcases h with ⟨-, -, rfl⟩ | ⟨d_, x_, y_, ⟨hd, _⟩, ⟨hx, _⟩, ⟨hy, _⟩, h⟩
  · exact hm
  · rcases h with ⟨-, -, rfl⟩ | ⟨-, -, -, -, -, hs⟩
    · exact hm
    · exact hm_mo (st_hi hs (fun z hz => by
      rcases List.mem_cons.mp hz with rfl | h
      · exact Or.inl ⟨d_, hd, rfl⟩
      · exact Or.inr ((by decide +kernel : ∀ a ∈ ([2, 4, 6, 12, 14, 16] : List Nat), a ∈ sc_X) z h))) hm
theorem jn_power {P ld : Nat} {σ σ1 σ2 : st_T} {R : Nat → Nat → Nat} {F : Nat → Nat} {L : List pv_T} {r r2 : Int32} {d : Int32} {x : Int32} {y : Int32} {z0 : Int64} (hP : ag_pr P) (hP31 : P < 2147483648) (hA : ab_ok P R F L ld) (hc : hc_ok P σ R F L ld) (hm : hm_ok P σ R F L ld) (hC : qC_power P σ d x y z0 r σ1) (hM : qM_power P σ1 d x y z0 r2 σ2) : r = r2 ∧ lr P σ2 := by
  have hm1 := kC_power hA hm hC
  rcases hC with ⟨hn, hr, hσ⟩ | ⟨d_, x_, y_, ⟨hd, rfl⟩, ⟨hx, rfl⟩, ⟨hy, rfl⟩, hC⟩
  · subst hσ
    rcases hM with ⟨hn2, hr2, hσ⟩ | ⟨d1, x1, y1, ⟨gd, ed⟩, ⟨gx, ex⟩, ⟨gy, ey⟩, hM⟩
    · subst hσ
      exact ⟨by rw [hr, hr2], R, F, L, ld, hA, hc, hm⟩
    · exact absurd ⟨⟨d1, gd, ed⟩, ⟨x1, gx, ex⟩, ⟨y1, gy, ey⟩⟩ hn
  · rcases hM with ⟨hn2, hr2, hσ⟩ | ⟨d1, x1, y1, ⟨gd, ed⟩, ⟨gx, ex⟩, ⟨gy, ey⟩, hM⟩
    · exact absurd ⟨⟨d_, hd, rfl⟩, ⟨x_, hx, rfl⟩, ⟨y_, hy, rfl⟩⟩ hn2
    · obtain rfl := rk_inj (by omega) (by omega) ed
      obtain rfl := rk_inj (by omega) (by omega) ex
      obtain rfl := rk_inj (by omega) (by omega) ey
      simp only [hc.2.2.2.1 x_ hx, hc.2.2.2.1 y_ hy] at hC
      simp only [hm1.2.1 x_ hx, hm1.2.1 y_ hy] at hM
      rcases hC with ⟨hg, hr, hσ⟩ | ⟨hg, hg1, hr, hw1, e1, hs1⟩
      · subst hσ
        rcases hM with ⟨hg2, hr2, hσ⟩ | ⟨hg2, hg3, -⟩
        · subst hσ
          exact ⟨by rw [hr, hr2], R, F, L, ld, hA, hc, hm⟩
        · rcases hg with hg | hg
          · omega
          · exact absurd hg3 hg
      · rcases hM with ⟨hg2, -⟩ | ⟨hg2, hg3, hr2, hw2, e2, hs2⟩
        · rcases hg2 with hg2 | hg2
          · omega
          · exact absurd hg1 hg2
        · have he := sp_is_uni hP (hA.1 y_ hy).1 e1 e2
          have hz := e1.2.1
          have hzy := (hA.1 y_ hy).2
          exact ⟨by rw [hr, hr2, he], lr_wr hA hc hm hd hw1 hs1 (by decide +kernel : ∀ a ∈ ([2, 4, 6, 12, 14, 16] : List Nat), a ∈ sc_X) rfl hw2 hs2 (by decide +kernel : ∀ a ∈ ([300 + 28, 300 + 31, 300 + 32] : List Nat), a ∈ mk_W) he.symm (by omega)⟩
def qC_isPrime (P : Nat) (σ : st_T) (a : Int32) (r : Int32) (σ1 : st_T) : Prop := (¬ (rk_r a) ∧ r = -1 ∧ σ1 = σ) ∨ ∃ a0, (a0 < 8 ∧ a = nI a0) ∧ ((r = nI 1 ∧ fp_T P (σ (133 + 2 * a0))) ∨ (r = nI 0 ∧ ¬ fp_T P (σ (133 + 2 * a0)))) ∧ st_wf P σ1 ∧ st_sm fb_Y σ σ1
def qM_isPrime (P : Nat) (σ : st_T) (a : Int32) (r : Int32) (σ1 : st_T) : Prop := (¬ (rk_r a) ∧ r = -1 ∧ σ1 = σ) ∨ ∃ a0, (a0 < 8 ∧ a = nI a0) ∧ ((r = nI 1 ∧ fp_T P (σ (300 + a0))) ∨ (r = nI 0 ∧ ¬ fp_T P (σ (300 + a0)))) ∧ md_wf P σ1 ∧ md_sm mk_W σ σ1
theorem kC_isPrime {P ld : Nat} {σ σ1 : st_T} {R : Nat → Nat → Nat} {F : Nat → Nat} {L : List pv_T} {r : Int32} {a : Int32} (hA : ab_ok P R F L ld) (hm : hm_ok P σ R F L ld) (h : qC_isPrime P σ a r σ1) : hm_ok P σ1 R F L ld := by
  rcases h with ⟨-, -, rfl⟩ | ⟨a_, ⟨ha, _⟩, h⟩
  · exact hm
  · obtain ⟨-, -, hs⟩ := h
    exact hm_mo (st_hi hs (fun a ha => Or.inr ((by decide +kernel : ∀ a ∈ fb_Y, a ∈ sc_X) a ha))) hm
theorem jn_isPrime {P ld : Nat} {σ σ1 σ2 : st_T} {R : Nat → Nat → Nat} {F : Nat → Nat} {L : List pv_T} {r r2 : Int32} {a : Int32} (hP : ag_pr P) (hP31 : P < 2147483648) (hA : ab_ok P R F L ld) (hc : hc_ok P σ R F L ld) (hm : hm_ok P σ R F L ld) (hC : qC_isPrime P σ a r σ1) (hM : qM_isPrime P σ1 a r2 σ2) : r = r2 ∧ lr P σ2 := by
  have hm1 := kC_isPrime hA hm hC
  rcases hC with ⟨hn, hr, hσ⟩ | ⟨a_, ⟨ha, rfl⟩, hC⟩
  · subst hσ
    rcases hM with ⟨hn2, hr2, hσ⟩ | ⟨a1, ⟨ga, ea⟩, hM⟩
    · subst hσ
      exact ⟨by rw [hr, hr2], R, F, L, ld, hA, hc, hm⟩
    · exact absurd ⟨a1, ga, ea⟩ hn
  · rcases hM with ⟨hn2, hr2, hσ⟩ | ⟨a1, ⟨ga, ea⟩, hM⟩
    · exact absurd ⟨a_, ha, rfl⟩ hn2
    · obtain rfl := rk_inj (by omega) (by omega) ea
      rw [hc.2.2.2.1 a_ ha] at hC
      rw [hm1.2.1 a_ ha] at hM
      obtain ⟨hr, hw1, hs1⟩ := hC
      obtain ⟨hr2, hw2, hs2⟩ := hM
      refine ⟨?_, lr_sc hA hc hm hw1 hs1 (by decide +kernel : ∀ a ∈ fb_Y, a ∈ sc_X) hw2 hs2 (fun a h => h)⟩
      rcases hr with ⟨hr, ht⟩ | ⟨hr, ht⟩
      · rcases hr2 with ⟨hr2, ht2⟩ | ⟨hr2, ht2⟩
        · rw [hr, hr2]
        · exact absurd ht ht2
      · rcases hr2 with ⟨hr2, ht2⟩ | ⟨hr2, ht2⟩
        · exact absurd ht2 ht
        · rw [hr, hr2]
def qC_factor (P : Nat) (σ : st_T) (a : Int32) (r : Int32) (σ1 : st_T) : Prop := (¬ (rk_r a) ∧ r = -1 ∧ σ1 = σ) ∨ ∃ a0, (a0 < 8 ∧ a = nI a0) ∧ ((sp_sz (σ (133 + 2 * a0)) 31 = 0 ∧ r = -1 ∧ σ1 = σ) ∨ (0 < sp_sz (σ (133 + 2 * a0)) 31 ∧ r = nI (σ1 203 1) ∧ (st_wf P σ1 ∧ pl_ok σ1) ∧ pl_v σ1 = mk_l P (σ (133 + 2 * a0)) ∧ σ1 203 1 ≤ 15 ∧ (∀ t, t < σ1 203 1 → (pv_t σ1 t).1 ≤ 15) ∧ σ1 203 2 = st_ld σ (133 + 2 * a0) ∧ st_sm mk_X σ σ1))
def qM_factor (P : Nat) (σ : st_T) (a : Int32) (r : Int32) (σ1 : st_T) : Prop := (¬ (rk_r a) ∧ r = -1 ∧ σ1 = σ) ∨ ∃ a0, (a0 < 8 ∧ a = nI a0) ∧ ((sp_sz (σ (300 + a0)) 31 = 0 ∧ r = -1 ∧ σ1 = σ) ∨ (0 < sp_sz (σ (300 + a0)) 31 ∧ r = nI (σ1 205 1) ∧ md_wf P σ1 ∧ ml_v σ1 = mk_l P (σ (300 + a0)) ∧ σ1 205 1 ≤ 15 ∧ (σ1 205 2 = 1 ∧ σ1 205 3 = σ (300 + a0) (sp_sz (σ (300 + a0)) 31 - 1) ∧ σ1 205 4 = σ 205 4) ∧ md_sm mt_X σ σ1))
theorem kC_factor {P ld : Nat} {σ σ1 : st_T} {R : Nat → Nat → Nat} {F : Nat → Nat} {L : List pv_T} {r : Int32} {a : Int32} (hA : ab_ok P R F L ld) (hm : hm_ok P σ R F L ld) (h : qC_factor P σ a r σ1) : hm_ok P σ1 R F L ld := by
  rcases h with ⟨-, -, rfl⟩ | ⟨a_, ⟨ha, _⟩, h⟩
  · exact hm
  · rcases h with ⟨-, -, rfl⟩ | ⟨-, -, -, -, -, -, -, hs⟩
    · exact hm
    · exact hm_mo (fun a ha => hs a (fun h => by
        have := (by decide +kernel : ∀ a ∈ mk_X, a < 205) a h
        omega) (by omega)) hm
theorem jn_factor {P ld : Nat} {σ σ1 σ2 : st_T} {R : Nat → Nat → Nat} {F : Nat → Nat} {L : List pv_T} {r r2 : Int32} {a : Int32} (hP : ag_pr P) (hP31 : P < 2147483648) (hA : ab_ok P R F L ld) (hc : hc_ok P σ R F L ld) (hm : hm_ok P σ R F L ld) (hC : qC_factor P σ a r σ1) (hM : qM_factor P σ1 a r2 σ2) : r = r2 ∧ lr P σ2 := by
  have hm1 := kC_factor hA hm hC
  rcases hC with ⟨hn, hr, hσ⟩ | ⟨a_, ⟨ha, rfl⟩, hC⟩
  · subst hσ
    rcases hM with ⟨hn2, hr2, hσ⟩ | ⟨a1, ⟨ga, ea⟩, hM⟩
    · subst hσ
      exact ⟨by rw [hr, hr2], R, F, L, ld, hA, hc, hm⟩
    · exact absurd ⟨a1, ga, ea⟩ hn
  · rcases hM with ⟨hn2, hr2, hσ⟩ | ⟨a1, ⟨ga, ea⟩, hM⟩
    · exact absurd ⟨a_, ha, rfl⟩ hn2
    · obtain rfl := rk_inj (by omega) (by omega) ea
      rw [hc.2.2.2.1 a_ ha] at hC
      rw [hm1.2.1 a_ ha] at hM
      rcases hC with ⟨hg, hr, hσ⟩ | ⟨hg, hr, ⟨hw1, hp1⟩, hv1, hcnt, -, hl1, hs1⟩
      · subst hσ
        rcases hM with ⟨hg2, hr2, hσ⟩ | ⟨hg2, -⟩
        · subst hσ
          exact ⟨by rw [hr, hr2], R, F, L, ld, hA, hc, hm⟩
        · omega
      · rcases hM with ⟨hg2, -⟩ | ⟨hg2, hr2, hw2, hv2, hcnt2, ⟨q1, q2, q3⟩, hs2⟩
        · omega
        · have hmk := mkl_all hP (hA.1 a_ ha).1 hg (hA.1 a_ ha).2
          have ht := sp_lead_ne (hA.1 a_ ha).1 hg
          have hld : st_ld σ (133 + 2 * a_) = R a_ (sp_sz (R a_) 31 - 1) := by
            unfold st_ld
            rw [(hc.1.2 _ (kd_rg ha)).2, hc.2.2.2.1 a_ ha, if_neg (by omega)]
          have hz16 := (hA.1 a_ ha).2
          have hlo : ∀ a, a < 205 → σ2 a = σ1 a := fun a ha => hs2 a (fun h => by
            have := (by decide +kernel : ∀ a ∈ mt_X, 205 ≤ a) a h
            omega)
          have hsA : ab_ok P R F (mk_l P (R a_)) (R a_ (sp_sz (R a_) 31 - 1)) := ⟨hA.1, hA.2.1, hA.2.2.1, hmk.1, by rw [hmk.2]; omega, ht.2⟩
          refine ⟨by rw [hr, hr2, ← pl_v_len σ1, ← ml_v_len σ2, hv1, hv2], R, F, mk_l P (R a_), R a_ (sp_sz (R a_) 31 - 1), hsA, hc_mo hlo (ab_len5 hsA) ⟨hw1, hp1, ?_, fun n hn => ?_, ?_, hv1, by rw [hl1, hld]⟩, ⟨hw2, fun n hn => ?_, ?_, by rw [q3]; exact hm1.2.2.2.1, hv2, q2, by rw [q1, if_neg ht.1]⟩⟩
          · rw [hs1 21 (by decide +kernel) (by decide)]
            exact hc.2.2.1
          · rw [hs1 _ ((by decide +kernel : ∀ n, n < 8 → 133 + 2 * n ∉ mk_X) n hn) (by omega)]
            exact hc.2.2.2.1 n hn
          · rw [hs1 118 (by decide +kernel) (by decide)]
            exact hc.2.2.2.2.1
          · rw [hs2 _ ((by decide +kernel : ∀ n, n < 8 → 300 + n ∉ mt_X) n hn)]
            exact hm1.2.1 n hn
          · rw [hs2 _ (by decide +kernel)]
            exact hm1.2.2.1
def qC_part (P : Nat) (σ : st_T) (a : Int32) (b0 : Int32) (r : Int32) (σ1 : st_T) : Prop := (¬ (∃ n, n < σ 203 1 ∧ a = nI n) ∧ r = -1 ∧ σ1 = σ) ∨ ∃ a0, (a0 < σ 203 1 ∧ a = nI a0) ∧ r = pv_r (pv_t σ a0) b0 ∧ σ1 = σ
def qM_part (P : Nat) (σ : st_T) (a : Int32) (b0 : Int32) (r : Int32) (σ1 : st_T) : Prop := (¬ (∃ n, n < σ 205 1 ∧ a = nI n) ∧ r = -1 ∧ σ1 = σ) ∨ ∃ a0, (a0 < σ 205 1 ∧ a = nI a0) ∧ r = pv_r (mv_t σ a0) b0 ∧ σ1 = σ
theorem kC_part {P ld : Nat} {σ σ1 : st_T} {R : Nat → Nat → Nat} {F : Nat → Nat} {L : List pv_T} {r : Int32} {a : Int32} {b0 : Int32} (hA : ab_ok P R F L ld) (hm : hm_ok P σ R F L ld) (h : qC_part P σ a b0 r σ1) : hm_ok P σ1 R F L ld := by
  rcases h with ⟨-, -, rfl⟩ | ⟨a_, ⟨ha, _⟩, h⟩
  · exact hm
  · obtain ⟨-, rfl⟩ := h
    exact hm
theorem jn_part {P ld : Nat} {σ σ1 σ2 : st_T} {R : Nat → Nat → Nat} {F : Nat → Nat} {L : List pv_T} {r r2 : Int32} {a : Int32} {b0 : Int32} (hP : ag_pr P) (hP31 : P < 2147483648) (hA : ab_ok P R F L ld) (hc : hc_ok P σ R F L ld) (hm : hm_ok P σ R F L ld) (hC : qC_part P σ a b0 r σ1) (hM : qM_part P σ1 a b0 r2 σ2) : r = r2 ∧ lr P σ2 := by
  have hm1 := kC_part hA hm hC
  have hcl : σ 203 1 = L.length := by rw [← pl_v_len σ, hc.2.2.2.2.2.1]
  have hml : σ1 205 1 = L.length := by rw [← ml_v_len σ1, hm1.2.2.2.2.1]
  have hl15 := ab_len5 hA
  rcases hC with ⟨hn, hr, hσ⟩ | ⟨a_, ⟨ha, rfl⟩, hC⟩
  · subst hσ
    rcases hM with ⟨hn2, hr2, hσ⟩ | ⟨a1, ⟨ga, ea⟩, hM⟩
    · subst hσ
      exact ⟨by rw [hr, hr2], R, F, L, ld, hA, hc, hm⟩
    · exact absurd ⟨a1, by omega, ea⟩ hn
  · rcases hM with ⟨hn2, hr2, hσ⟩ | ⟨a1, ⟨ga, ea⟩, hM⟩
    · exact absurd ⟨a_, by omega, rfl⟩ hn2
    · obtain rfl := rk_inj (by omega) (by omega) ea
      have hpv : some (pv_t σ a_) = some (mv_t σ1 a_) := by rw [← pl_v_at σ ha, ← ml_v_at σ1 (by omega), hc.2.2.2.2.2.1, hm1.2.2.2.2.1]
      have hpv := Option.some.inj hpv
      obtain ⟨hr, hσ⟩ := hC
      subst hσ
      obtain ⟨hr2, hσ⟩ := hM
      subst hσ
      exact ⟨by rw [hr, hr2, hpv], R, F, L, ld, hA, hc, hm⟩
def qC_split (P : Nat) (σ : st_T) (a : Int32) (b : Int32) (r : Int32) (σ1 : st_T) : Prop := (¬ ((∃ n, n < σ 203 1 ∧ a = nI n) ∧ rk_r b) ∧ r = -1 ∧ σ1 = σ) ∨ ∃ a0 b0, (a0 < σ 203 1 ∧ a = nI a0) ∧ (b0 < 8 ∧ b = nI b0) ∧ ((sp_sz (σ ((σ 204 a0) + 1)) 31 = σ 202 (σ 204 a0) + 1 ∧ r = -1 ∧ σ1 = σ) ∨ (sp_sz (σ ((σ 204 a0) + 1)) 31 ≠ σ 202 (σ 204 a0) + 1 ∧ (st_wf P σ1 ∧ pl_ok σ1 ∧ σ1 203 2 = σ 203 2 ∧ st_sm sl_X σ σ1) ∧ ∃ U, sp_is P (σ ((σ 204 a0) + 1)) U (sep_z P (pe_f (σ (133 + 2 * b0))) (σ 202 (σ 204 a0))) ∧ ((r = nI 0 ∧ (sp_sz (sp_gcd P U (σ ((σ 204 a0) + 1))) 31 ≤ 1 ∨ sp_sz (σ ((σ 204 a0) + 1)) 31 ≤ sp_sz (sp_gcd P U (σ ((σ 204 a0) + 1))) 31) ∧ pl_v σ1 = pl_v σ) ∨ (r = nI 1 ∧ 1 < sp_sz (sp_gcd P U (σ ((σ 204 a0) + 1))) 31 ∧ sp_sz (sp_gcd P U (σ ((σ 204 a0) + 1))) 31 < sp_sz (σ ((σ 204 a0) + 1)) 31 ∧ pl_v σ1 = ((pl_v σ).set a0 (σ 201 (σ 204 a0), σ 202 (σ 204 a0), sp_gcd P U (σ ((σ 204 a0) + 1)))).take (a0 + 1) ++ (σ 201 (σ 204 a0), σ 202 (σ 204 a0), sp_quo P (σ ((σ 204 a0) + 1)) (sp_gcd P U (σ ((σ 204 a0) + 1)))) :: ((pl_v σ).set a0 (σ 201 (σ 204 a0), σ 202 (σ 204 a0), sp_gcd P U (σ ((σ 204 a0) + 1)))).drop (a0 + 1)))))
def qM_split (P : Nat) (σ : st_T) (a : Int32) (b : Int32) (r : Int32) (σ1 : st_T) : Prop := (¬ ((∃ n, n < σ 205 1 ∧ a = nI n) ∧ rk_r b) ∧ r = -1 ∧ σ1 = σ) ∨ ∃ a0 b0, (a0 < σ 205 1 ∧ a = nI a0) ∧ (b0 < 8 ∧ b = nI b0) ∧ ((sp_sz (σ (300 + (8 + a0))) 31 = σ 207 a0 + 1 ∧ r = -1 ∧ σ1 = σ) ∨ (sp_sz (σ (300 + (8 + a0))) 31 ≠ σ 207 a0 + 1 ∧ (md_wf P σ1 ∧ (∀ j, j ≠ 1 → σ1 205 j = σ 205 j) ∧ md_sm mt_X σ σ1) ∧ ∃ U, sp_is P (σ (300 + (8 + a0))) U (sep_z P (pe_f (σ (300 + b0))) (σ 207 a0)) ∧ ((r = nI 0 ∧ (sp_sz (sp_gcd P U (σ (300 + (8 + a0)))) 31 ≤ 1 ∨ sp_sz (σ (300 + (8 + a0))) 31 ≤ sp_sz (sp_gcd P U (σ (300 + (8 + a0)))) 31) ∧ ml_v σ1 = ml_v σ) ∨ (r = nI 1 ∧ 1 < sp_sz (sp_gcd P U (σ (300 + (8 + a0)))) 31 ∧ sp_sz (sp_gcd P U (σ (300 + (8 + a0)))) 31 < sp_sz (σ (300 + (8 + a0))) 31 ∧ ml_v σ1 = ((ml_v σ).set a0 (σ 206 a0, σ 207 a0, sp_gcd P U (σ (300 + (8 + a0))))).take (a0 + 1) ++ (σ 206 a0, σ 207 a0, sp_quo P (σ (300 + (8 + a0))) (sp_gcd P U (σ (300 + (8 + a0))))) :: ((ml_v σ).set a0 (σ 206 a0, σ 207 a0, sp_gcd P U (σ (300 + (8 + a0))))).drop (a0 + 1)))))
theorem kC_split {P ld : Nat} {σ σ1 : st_T} {R : Nat → Nat → Nat} {F : Nat → Nat} {L : List pv_T} {r : Int32} {a : Int32} {b : Int32} (hA : ab_ok P R F L ld) (hm : hm_ok P σ R F L ld) (h : qC_split P σ a b r σ1) : hm_ok P σ1 R F L ld := by
  rcases h with ⟨-, -, rfl⟩ | ⟨a_, b_, ⟨ha, _⟩, ⟨hb, _⟩, h⟩
  · exact hm
  · rcases h with ⟨-, -, rfl⟩ | ⟨-, ⟨-, -, -, hs⟩, -⟩
    · exact hm
    · exact hm_mo (fun a ha => hs a (fun h => by
        have := (by decide +kernel : ∀ a ∈ sl_X, a < 205) a h
        omega) (by omega)) hm
theorem jn_split {P ld : Nat} {σ σ1 σ2 : st_T} {R : Nat → Nat → Nat} {F : Nat → Nat} {L : List pv_T} {r r2 : Int32} {a : Int32} {b : Int32} (hP : ag_pr P) (hP31 : P < 2147483648) (hA : ab_ok P R F L ld) (hc : hc_ok P σ R F L ld) (hm : hm_ok P σ R F L ld) (hC : qC_split P σ a b r σ1) (hM : qM_split P σ1 a b r2 σ2) : r = r2 ∧ lr P σ2 := by
  have hm1 := kC_split hA hm hC
  have hcl : σ 203 1 = L.length := by rw [← pl_v_len σ, hc.2.2.2.2.2.1]
  have hml : σ1 205 1 = L.length := by rw [← ml_v_len σ1, hm1.2.2.2.2.1]
  have hl15 := ab_len5 hA
  rcases hC with ⟨hn, hr, hσ⟩ | ⟨a_, b_, ⟨ha, rfl⟩, ⟨hb, rfl⟩, hC⟩
  · subst hσ
    rcases hM with ⟨hn2, hr2, hσ⟩ | ⟨a1, b1, ⟨ga, ea⟩, ⟨gb, eb⟩, hM⟩
    · subst hσ
      exact ⟨by rw [hr, hr2], R, F, L, ld, hA, hc, hm⟩
    · exact absurd ⟨⟨a1, by omega, ea⟩, ⟨b1, gb, eb⟩⟩ hn
  · rcases hM with ⟨hn2, hr2, hσ⟩ | ⟨a1, b1, ⟨ga, ea⟩, ⟨gb, eb⟩, hM⟩
    · exact absurd ⟨⟨a_, by omega, rfl⟩, ⟨b_, hb, rfl⟩⟩ hn2
    · obtain rfl := rk_inj (by omega) (by omega) ea
      obtain rfl := rk_inj (by omega) (by omega) eb
      have hpv : some (pv_t σ a_) = some (mv_t σ1 a_) := by rw [← pl_v_at σ ha, ← ml_v_at σ1 (by omega), hc.2.2.2.2.2.1, hm1.2.2.2.2.1]
      have hpv := Option.some.inj hpv
      have hmem : pv_t σ a_ ∈ L := by rw [← hc.2.2.2.2.2.1]; exact List.mem_of_getElem? (pl_v_at σ ha)
      have hq := hA.2.2.2.1 _ hmem
      have v1 : σ 201 (σ 204 a_) = (pv_t σ a_).1 := rfl
      have v2 : σ 202 (σ 204 a_) = (pv_t σ a_).2.1 := rfl
      have v3 : σ (σ 204 a_ + 1) = (pv_t σ a_).2.2 := rfl
      have u1 : σ1 206 a_ = (pv_t σ a_).1 := by rw [hpv]; rfl
      have u2 : σ1 207 a_ = (pv_t σ a_).2.1 := by rw [hpv]; rfl
      have u3 : σ1 (300 + (8 + a_)) = (pv_t σ a_).2.2 := by rw [hpv]; rfl
      rw [v1, v2, v3, hc.2.2.2.1 b_ hb, hc.2.2.2.2.2.1] at hC
      rw [u1, u2, u3, hm1.2.1 b_ hb, hm1.2.2.2.2.1] at hM
      generalize hv : pv_t σ a_ = v at hC hM hq hmem
      rcases hC with ⟨hg, hr, hσ⟩ | ⟨hg, ⟨hw1, hp1, hl1, hs1⟩, U, hU, hC⟩
      · subst hσ
        rcases hM with ⟨hg2, hr2, hσ⟩ | ⟨hg2, -⟩
        · subst hσ
          exact ⟨by rw [hr, hr2], R, F, L, ld, hA, hc, hm⟩
        · exact absurd hg hg2
      · rcases hM with ⟨hg2, -⟩ | ⟨hg2, ⟨hw2, hk2, hs2⟩, U2, hU2, hM⟩
        · exact absurd hg2 hg
        · have he := sp_is_uni hP hq.2.2.2.1 hU hU2
          subst he
          have hlo : ∀ a, a < 205 → σ2 a = σ1 a := fun a ha => hs2 a (fun h => by
            have := (by decide +kernel : ∀ a ∈ mt_X, 205 ≤ a) a h
            omega)
          have hcA : ∀ L', pl_v σ1 = L' → L'.length ≤ 15 → hc_ok P σ2 R F L' ld := fun L' hL' hl' => hc_mo hlo hl' ⟨hw1, hp1, by
            rw [hs1 21 (by decide +kernel) (by decide)]
            exact hc.2.2.1, fun n hn => by
            rw [hs1 _ ((by decide +kernel : ∀ n, n < 8 → 133 + 2 * n ∉ sl_X) n hn) (by omega)]
            exact hc.2.2.2.1 n hn, by
            rw [hs1 118 (by decide +kernel) (by decide)]
            exact hc.2.2.2.2.1, hL', by rw [hl1]; exact hc.2.2.2.2.2.2⟩
          have hmA : ∀ L', ml_v σ2 = L' → hm_ok P σ2 R F L' ld := fun L' hL' => ⟨hw2, fun n hn => by
            rw [hs2 _ ((by decide +kernel : ∀ n, n < 8 → 300 + n ∉ mt_X) n hn)]
            exact hm1.2.1 n hn, by
            rw [hs2 _ (by decide +kernel)]
            exact hm1.2.2.1, by rw [hk2 4 (by decide)]; exact hm1.2.2.2.1, hL', by rw [hk2 3 (by decide)]; exact hm1.2.2.2.2.2.1, by rw [hk2 2 (by decide)]; exact hm1.2.2.2.2.2.2⟩
          rcases hC with ⟨hr, hg3, hv1⟩ | ⟨hr, hg3, hg4, hv1⟩
          · rcases hM with ⟨hr2, hg5, hv2⟩ | ⟨hr2, hg5, hg6, hv2⟩
            · exact ⟨by rw [hr, hr2], R, F, L, ld, hA, hcA L hv1 hl15, hmA L hv2⟩
            · omega
          · rcases hM with ⟨hr2, hg5, hv2⟩ | ⟨hr2, hg5, hg6, hv2⟩
            · omega
            · obtain ⟨g1, -, g3, -⟩ := sp_gcd_ok hP hU.1 hq.2.2.2.1
              have hqz := sp_quo_sz hP hq.2.2.2.1 g1 (by omega) (by omega)
              have hqo := (sp_dv_ok hP hq.2.2.2.1 g1 (by omega)).2.1
              obtain ⟨o1, o2, o3, o4, o5, o6⟩ := hq
              have p1 : pq_ok P (v.1, v.2.1, sp_gcd P U v.2.2) := ⟨o1, o2, o3, g1, hg3, by show sp_sz (sp_gcd P U v.2.2) 31 ≤ 16; omega⟩
              have p2 : pq_ok P (v.1, v.2.1, sp_quo P v.2.2 (sp_gcd P U v.2.2)) := ⟨o1, o2, o3, hqo, by show 1 < sp_sz (sp_quo P v.2.2 (sp_gcd P U v.2.2)) 31; omega, by show sp_sz (sp_quo P v.2.2 (sp_gcd P U v.2.2)) 31 ≤ 16; omega⟩
              have haL : a_ < L.length := by omega
              have hva : L[a_] = v := by
                have h1 : L[a_]? = some v := by rw [← hc.2.2.2.2.2.1, pl_v_at σ ha, hv]
                rw [List.getElem?_eq_getElem haL] at h1
                exact Option.some.inj h1
              have hsp := sl_split haL hva (v.1, v.2.1, sp_gcd P U v.2.2) (v.1, v.2.1, sp_quo P v.2.2 (sp_gcd P U v.2.2))
              have hA' : ab_ok P R F ((L.set a_ (v.1, v.2.1, sp_gcd P U v.2.2)).take (a_ + 1) ++ (v.1, v.2.1, sp_quo P v.2.2 (sp_gcd P U v.2.2)) :: (L.set a_ (v.1, v.2.1, sp_gcd P U v.2.2)).drop (a_ + 1)) ld := by
                refine ⟨hA.1, hA.2.1, hA.2.2.1, fun p hp => ?_, ?_, hA.2.2.2.2.2⟩
                · rcases hsp.1 p hp with h | h | h
                  · exact hA.2.2.2.1 p h
                  · rw [h]
                    exact p1
                  · rw [h]
                    exact p2
                · have h1 := hsp.2
                  have h2 : v.1 * (sp_sz (sp_gcd P U v.2.2) 31 - 1) + v.1 * (sp_sz (sp_quo P v.2.2 (sp_gcd P U v.2.2)) 31 - 1) = v.1 * (sp_sz v.2.2 31 - 1) := by
                    rw [← Nat.mul_add]
                    congr 1
                    omega
                  have h3 := hA.2.2.2.2.1
                  simp only [] at h1
                  omega
              exact ⟨by rw [hr, hr2], R, F, _, ld, hA', hcA _ hv1 (ab_len5 hA'), hmA _ hv2⟩
def qC_product (P : Nat) (σ : st_T) (a : Int32) (r : Int32) (σ1 : st_T) : Prop := (¬ (rk_r a) ∧ r = -1 ∧ σ1 = σ) ∨ ∃ a0, (a0 < 8 ∧ a = nI a0) ∧ ((σ 203 2 = 0 ∧ r = -1 ∧ σ1 = σ) ∨ (σ 203 2 ≠ 0 ∧ r = nI (sp_sz (σ1 (133 + 2 * a0)) 31) ∧ st_wf P σ1 ∧ σ1 (133 + 2 * a0) = wh_l P (pl_v σ) (va_up (fun _ => 0) 0 (σ 203 2)) ∧ st_sm [(133 + 2 * a0), 2] σ σ1))
def qM_product (P : Nat) (σ : st_T) (a : Int32) (r : Int32) (σ1 : st_T) : Prop := (¬ (rk_r a) ∧ r = -1 ∧ σ1 = σ) ∨ ∃ a0, (a0 < 8 ∧ a = nI a0) ∧ ((σ 205 2 = 0 ∧ r = -1 ∧ σ1 = σ) ∨ (σ 205 2 ≠ 0 ∧ r = nI (sp_sz (σ1 (300 + a0)) 31) ∧ md_wf P σ1 ∧ σ1 (300 + a0) = wh_l P (ml_v σ) (va_up (fun _ => 0) 0 (σ 205 3)) ∧ md_sm [(300 + a0), 300 + 25, 300 + 31] σ σ1))
theorem kC_product {P ld : Nat} {σ σ1 : st_T} {R : Nat → Nat → Nat} {F : Nat → Nat} {L : List pv_T} {r : Int32} {a : Int32} (hA : ab_ok P R F L ld) (hm : hm_ok P σ R F L ld) (h : qC_product P σ a r σ1) : hm_ok P σ1 R F L ld := by
  rcases h with ⟨-, -, rfl⟩ | ⟨a_, ⟨ha, _⟩, h⟩
  · exact hm
  · rcases h with ⟨-, -, rfl⟩ | ⟨-, -, -, -, hs⟩
    · exact hm
    · exact hm_mo (st_hi hs (fun z hz => by
      rcases List.mem_cons.mp hz with rfl | h
      · exact Or.inl ⟨a_, ha, rfl⟩
      · exact Or.inr ((by decide +kernel : ∀ a ∈ ([2] : List Nat), a ∈ sc_X) z h))) hm
theorem jn_product {P ld : Nat} {σ σ1 σ2 : st_T} {R : Nat → Nat → Nat} {F : Nat → Nat} {L : List pv_T} {r r2 : Int32} {a : Int32} (hP : ag_pr P) (hP31 : P < 2147483648) (hA : ab_ok P R F L ld) (hc : hc_ok P σ R F L ld) (hm : hm_ok P σ R F L ld) (hC : qC_product P σ a r σ1) (hM : qM_product P σ1 a r2 σ2) : r = r2 ∧ lr P σ2 := by
  have hm1 := kC_product hA hm hC
  rcases hC with ⟨hn, hr, hσ⟩ | ⟨a_, ⟨ha, rfl⟩, hC⟩
  · subst hσ
    rcases hM with ⟨hn2, hr2, hσ⟩ | ⟨a1, ⟨ga, ea⟩, hM⟩
    · subst hσ
      exact ⟨by rw [hr, hr2], R, F, L, ld, hA, hc, hm⟩
    · exact absurd ⟨a1, ga, ea⟩ hn
  · rcases hM with ⟨hn2, hr2, hσ⟩ | ⟨a1, ⟨ga, ea⟩, hM⟩
    · exact absurd ⟨a_, ha, rfl⟩ hn2
    · obtain rfl := rk_inj (by omega) (by omega) ea
      rw [hc.2.2.2.2.2.2, hc.2.2.2.2.2.1] at hC
      rw [hm1.2.2.2.2.2.2, hm1.2.2.2.2.2.1, hm1.2.2.2.2.1] at hM
      rcases hC with ⟨hg, hr, hσ⟩ | ⟨hg, hr, hw1, e1, hs1⟩
      · subst hσ
        rcases hM with ⟨hg2, hr2, hσ⟩ | ⟨hg2, -⟩
        · subst hσ
          exact ⟨by rw [hr, hr2], R, F, L, ld, hA, hc, hm⟩
        · rw [if_pos hg] at hg2
          exact absurd rfl hg2
      · rcases hM with ⟨hg2, -⟩ | ⟨hg2, hr2, hw2, e2, hs2⟩
        · rw [if_neg hg] at hg2
          exact absurd hg2 (by decide)
        · have hP0 : 0 < P := by have := hP.1; omega
          have hok : sp_ok P (va_up (fun _ => 0) 0 ld) := set_ok (sp_z_ok hP0) (by decide) hA.2.2.2.2.2
          have hz1 : sp_sz (va_up (fun _ => 0) 0 ld) 31 ≤ 1 := sp_sz_lt (fun i hi => va_up_ne _ _ (by omega))
          have hws := hA.2.2.2.2.1
          have hz := whl_sz hP0 L (va_up (fun _ => 0) 0 ld) hA.2.2.2.1 hok (by omega)
          exact ⟨by rw [hr, hr2, e1, e2], lr_wr hA hc hm ha hw1 hs1 (by decide +kernel : ∀ a ∈ ([2] : List Nat), a ∈ sc_X) e1 hw2 hs2 (by decide +kernel : ∀ a ∈ ([300 + 25, 300 + 31] : List Nat), a ∈ mk_W) e2 (by omega)⟩
def qC_field (P : Nat) (σ : st_T) (a : Int32) (r : Int32) (σ1 : st_T) : Prop := (¬ (rk_r a) ∧ r = -1 ∧ σ1 = σ) ∨ ∃ a0, (a0 < 8 ∧ a = nI a0) ∧ ((¬ (st_ld σ (133 + 2 * a0) = 1 ∧ fp_T P (σ (133 + 2 * a0))) ∧ r = -1 ∧ st_wf P σ1 ∧ st_sm fb_Y σ σ1) ∨ ((st_ld σ (133 + 2 * a0) = 1 ∧ fp_T P (σ (133 + 2 * a0))) ∧ r = sd_i (sp_sz (σ (133 + 2 * a0)) 31) ∧ st_wf P σ1 ∧ σ1 118 = σ (133 + 2 * a0) ∧ st_sm (118 :: fb_Y) σ σ1))
def qM_field (P : Nat) (σ : st_T) (a : Int32) (r : Int32) (σ1 : st_T) : Prop := (¬ (rk_r a) ∧ r = -1 ∧ σ1 = σ) ∨ ∃ a0, (a0 < 8 ∧ a = nI a0) ∧ ((¬ (σ (300 + a0) (sp_sz (σ (300 + a0)) 31 - 1) = 1 ∧ fp_T P (σ (300 + a0))) ∧ r = -1 ∧ md_wf P σ1 ∧ md_sm mk_W σ σ1) ∨ ((σ (300 + a0) (sp_sz (σ (300 + a0)) 31 - 1) = 1 ∧ fp_T P (σ (300 + a0))) ∧ r = nI (sp_sz (σ (300 + a0)) 31 - 1) ∧ md_wf P σ1 ∧ σ1 (300 + 24) = σ (300 + a0) ∧ (σ1 205 4 = sp_sz (σ (300 + a0)) 31 - 1 ∧ ∀ j, j ≠ 4 → σ1 205 j = σ 205 j) ∧ md_sm (205 :: (300 + 24) :: mk_W) σ σ1))
theorem kC_field {P ld : Nat} {σ σ1 : st_T} {R : Nat → Nat → Nat} {F : Nat → Nat} {L : List pv_T} {r : Int32} {a : Int32} (hA : ab_ok P R F L ld) (hm : hm_ok P σ R F L ld) (h : qC_field P σ a r σ1) : hm_ok P σ1 R F L ld := by
  rcases h with ⟨-, -, rfl⟩ | ⟨a_, ⟨ha, _⟩, h⟩
  · exact hm
  · rcases h with ⟨-, -, -, hs⟩ | ⟨-, -, -, -, hs⟩
    · exact hm_mo (st_hi hs (fun a ha => Or.inr ((by decide +kernel : ∀ a ∈ fb_Y, a ∈ sc_X) a ha))) hm
    · exact hm_mo (fun a ha => hs a (fun h => by
        have := (by decide +kernel : ∀ a ∈ (118 :: fb_Y), a < 205) a h
        omega) (by omega)) hm
theorem jn_field {P ld : Nat} {σ σ1 σ2 : st_T} {R : Nat → Nat → Nat} {F : Nat → Nat} {L : List pv_T} {r r2 : Int32} {a : Int32} (hP : ag_pr P) (hP31 : P < 2147483648) (hA : ab_ok P R F L ld) (hc : hc_ok P σ R F L ld) (hm : hm_ok P σ R F L ld) (hC : qC_field P σ a r σ1) (hM : qM_field P σ1 a r2 σ2) : r = r2 ∧ lr P σ2 := by
  have hm1 := kC_field hA hm hC
  rcases hC with ⟨hn, hr, hσ⟩ | ⟨a_, ⟨ha, rfl⟩, hC⟩
  · subst hσ
    rcases hM with ⟨hn2, hr2, hσ⟩ | ⟨a1, ⟨ga, ea⟩, hM⟩
    · subst hσ
      exact ⟨by rw [hr, hr2], R, F, L, ld, hA, hc, hm⟩
    · exact absurd ⟨a1, ga, ea⟩ hn
  · rcases hM with ⟨hn2, hr2, hσ⟩ | ⟨a1, ⟨ga, ea⟩, hM⟩
    · exact absurd ⟨a_, ha, rfl⟩ hn2
    · obtain rfl := rk_inj (by omega) (by omega) ea
      have hld : st_ld σ (133 + 2 * a_) = if sp_sz (R a_) 31 = 0 then 0 else R a_ (sp_sz (R a_) 31 - 1) := by
        unfold st_ld
        rw [(hc.1.2 _ (kd_rg ha)).2, hc.2.2.2.1 a_ ha]
      rw [hld, hc.2.2.2.1 a_ ha] at hC
      rw [hm1.2.1 a_ ha] at hM
      have hz16 := (hA.1 a_ ha).2
      rcases hC with ⟨hg, hr, hw1, hs1⟩ | ⟨hg, hr, hw1, e1, hs1⟩
      · rcases hM with ⟨hg2, hr2, hw2, hs2⟩ | ⟨hg2, -⟩
        · exact ⟨by rw [hr, hr2], lr_sc hA hc hm hw1 hs1 (by decide +kernel : ∀ a ∈ fb_Y, a ∈ sc_X) hw2 hs2 (fun a h => h)⟩
        · refine absurd ⟨?_, hg2.2⟩ hg
          have := hg2.2.1
          rw [if_neg (by omega)]
          exact hg2.1
      · rcases hM with ⟨hg2, -⟩ | ⟨hg2, hr2, hw2, e2, ⟨q1, q2⟩, hs2⟩
        · refine absurd ⟨?_, hg.2⟩ hg2
          have := hg.2.1
          have h1 := hg.1
          rw [if_neg (by omega)] at h1
          exact h1
        · have h1 := hg2.2.1
          have hlo : ∀ a, a < 205 → σ2 a = σ1 a := fun a ha => hs2 a (fun h => by
            have := (by decide +kernel : ∀ a ∈ (205 :: (300 + 24) :: mk_W), 205 ≤ a) a h
            omega)
          have hir := fp_ir hP (hA.1 a_ ha).1 hz16 hg2.2
          have hl := ab_len5 hA
          have hA' : ab_ok P R (R a_) L ld := ⟨hA.1, (hA.1 a_ ha).1, fun _ => ⟨h1, hz16, hir⟩, hA.2.2.2⟩
          obtain ⟨⟨p1, p2⟩, p3, p4, -⟩ := pl_v_sm hc.2.1 hs1 (by decide +kernel) (by rw [← pl_v_len σ, hc.2.2.2.2.2.1]; exact hl)
          refine ⟨by rw [hr, hr2, sd_n (by omega)], R, R a_, L, ld, hA', hc_mo hlo hl ⟨hw1, p1, ?_, fun n hn => ?_, e1, by rw [p2]; exact hc.2.2.2.2.2.1, by rw [p4]; exact hc.2.2.2.2.2.2⟩, ⟨hw2, fun n hn => ?_, e2, q1, ?_, by rw [q2 3 (by decide)]; exact hm1.2.2.2.2.2.1, by rw [q2 2 (by decide)]; exact hm1.2.2.2.2.2.2⟩⟩
          · rw [hs1 21 (by decide +kernel) (by decide)]
            exact hc.2.2.1
          · rw [hs1 _ ((by decide +kernel : ∀ n, n < 8 → 133 + 2 * n ∉ (118 :: fb_Y)) n hn) (by omega)]
            exact hc.2.2.2.1 n hn
          · rw [hs2 _ ((by decide +kernel : ∀ n, n < 8 → 300 + n ∉ (205 :: (300 + 24) :: mk_W)) n hn)]
            exact hm1.2.1 n hn
          · rw [← hm1.2.2.2.2.1]
            unfold ml_v
            rw [q2 1 (by decide)]
            refine List.map_congr_left (fun t ht => ?_)
            have ht := List.mem_range.mp ht
            have htl : σ1 205 1 ≤ 15 := by rw [← ml_v_len σ1, hm1.2.2.2.2.1]; exact hl
            unfold mv_t
            rw [hs2 206 (by decide +kernel), hs2 207 (by decide +kernel), hs2 _ ((by decide +kernel : ∀ t, t < 15 → 300 + (8 + t) ∉ (205 :: (300 + 24) :: mk_W)) t (by omega))]
def qC_times (P : Nat) (σ : st_T) (d : Int32) (x : Int32) (y : Int32) (r : Int32) (σ1 : st_T) : Prop := (¬ (rk_r d ∧ rk_r x ∧ rk_r y) ∧ r = -1 ∧ σ1 = σ) ∨ ∃ d0 x0 y0, (d0 < 8 ∧ d = nI d0) ∧ (x0 < 8 ∧ x = nI x0) ∧ (y0 < 8 ∧ y = nI y0) ∧ ((sp_sz (σ 118) 31 = 0 ∧ r = -1 ∧ σ1 = σ) ∨ (0 < sp_sz (σ 118) 31 ∧ r = nI (sp_sz (σ1 (133 + 2 * d0)) 31) ∧ st_wf P σ1 ∧ σ1 (133 + 2 * d0) = sp_rest P (sp_mul P (σ (133 + 2 * x0)) (σ (133 + 2 * y0))) (σ 118) ∧ st_sm [(133 + 2 * d0), 2, 4, 6] σ σ1))
def qM_times (P : Nat) (σ : st_T) (d : Int32) (x : Int32) (y : Int32) (r : Int32) (σ1 : st_T) : Prop := (¬ (rk_r d ∧ rk_r x ∧ rk_r y) ∧ r = -1 ∧ σ1 = σ) ∨ ∃ d0 x0 y0, (d0 < 8 ∧ d = nI d0) ∧ (x0 < 8 ∧ x = nI x0) ∧ (y0 < 8 ∧ y = nI y0) ∧ ((σ 205 4 = 0 ∧ r = -1 ∧ σ1 = σ) ∨ (σ 205 4 ≠ 0 ∧ r = nI (sp_sz (σ1 (300 + d0)) 31) ∧ md_wf P σ1 ∧ σ1 (300 + d0) = sp_rest P (sp_mul P (σ (300 + x0)) (σ (300 + y0))) (σ (300 + 24)) ∧ md_sm ((300 + d0) :: mk_W) σ σ1))
theorem kC_times {P ld : Nat} {σ σ1 : st_T} {R : Nat → Nat → Nat} {F : Nat → Nat} {L : List pv_T} {r : Int32} {d : Int32} {x : Int32} {y : Int32} (hA : ab_ok P R F L ld) (hm : hm_ok P σ R F L ld) (h : qC_times P σ d x y r σ1) : hm_ok P σ1 R F L ld := by
  rcases h with ⟨-, -, rfl⟩ | ⟨d_, x_, y_, ⟨hd, _⟩, ⟨hx, _⟩, ⟨hy, _⟩, h⟩
  · exact hm
  · rcases h with ⟨-, -, rfl⟩ | ⟨-, -, -, -, hs⟩
    · exact hm
    · exact hm_mo (st_hi hs (fun z hz => by
      rcases List.mem_cons.mp hz with rfl | h
      · exact Or.inl ⟨d_, hd, rfl⟩
      · exact Or.inr ((by decide +kernel : ∀ a ∈ ([2, 4, 6] : List Nat), a ∈ sc_X) z h))) hm
theorem jn_times {P ld : Nat} {σ σ1 σ2 : st_T} {R : Nat → Nat → Nat} {F : Nat → Nat} {L : List pv_T} {r r2 : Int32} {d : Int32} {x : Int32} {y : Int32} (hP : ag_pr P) (hP31 : P < 2147483648) (hA : ab_ok P R F L ld) (hc : hc_ok P σ R F L ld) (hm : hm_ok P σ R F L ld) (hC : qC_times P σ d x y r σ1) (hM : qM_times P σ1 d x y r2 σ2) : r = r2 ∧ lr P σ2 := by
  have hm1 := kC_times hA hm hC
  rcases hC with ⟨hn, hr, hσ⟩ | ⟨d_, x_, y_, ⟨hd, rfl⟩, ⟨hx, rfl⟩, ⟨hy, rfl⟩, hC⟩
  · subst hσ
    rcases hM with ⟨hn2, hr2, hσ⟩ | ⟨d1, x1, y1, ⟨gd, ed⟩, ⟨gx, ex⟩, ⟨gy, ey⟩, hM⟩
    · subst hσ
      exact ⟨by rw [hr, hr2], R, F, L, ld, hA, hc, hm⟩
    · exact absurd ⟨⟨d1, gd, ed⟩, ⟨x1, gx, ex⟩, ⟨y1, gy, ey⟩⟩ hn
  · rcases hM with ⟨hn2, hr2, hσ⟩ | ⟨d1, x1, y1, ⟨gd, ed⟩, ⟨gx, ex⟩, ⟨gy, ey⟩, hM⟩
    · exact absurd ⟨⟨d_, hd, rfl⟩, ⟨x_, hx, rfl⟩, ⟨y_, hy, rfl⟩⟩ hn2
    · obtain rfl := rk_inj (by omega) (by omega) ed
      obtain rfl := rk_inj (by omega) (by omega) ex
      obtain rfl := rk_inj (by omega) (by omega) ey
      simp only [hc.2.2.2.1 x_ hx, hc.2.2.2.1 y_ hy, hc.2.2.2.2.1] at hC
      simp only [hm1.2.1 x_ hx, hm1.2.1 y_ hy, hm1.2.2.1, hm1.2.2.2.1] at hM
      have hF := hA.2.2.1
      rcases hC with ⟨hg, hr, hσ⟩ | ⟨hg, hr, hw1, e1, hs1⟩
      · subst hσ
        rcases hM with ⟨hg2, hr2, hσ⟩ | ⟨hg2, -⟩
        · subst hσ
          exact ⟨by rw [hr, hr2], R, F, L, ld, hA, hc, hm⟩
        · omega
      · have hF := hF hg
        rcases hM with ⟨hg2, -⟩ | ⟨hg2, hr2, hw2, e2, hs2⟩
        · omega
        · have hP0 : 0 < P := by have := hP.1; omega
          have z1 := (hA.1 x_ hx).2
          have z2 := (hA.1 y_ hy).2
          have hok := sp_mul_ok hP0 (hA.1 x_ hx).1 (hA.1 y_ hy).1 (by omega)
          have hz := (sp_dv_ok hP hok hA.2.1 hg).2.2.1
          exact ⟨by rw [hr, hr2, e1, e2], lr_wr hA hc hm hd hw1 hs1 (by decide +kernel : ∀ a ∈ ([2, 4, 6] : List Nat), a ∈ sc_X) e1 hw2 hs2 (fun a h => h) e2 (by omega)⟩
def qC_inverse (P : Nat) (σ : st_T) (d : Int32) (x : Int32) (r : Int32) (σ1 : st_T) : Prop := (¬ (rk_r d ∧ rk_r x) ∧ r = -1 ∧ σ1 = σ) ∨ ∃ d0 x0, (d0 < 8 ∧ d = nI d0) ∧ (x0 < 8 ∧ x = nI x0) ∧ ((sp_sz (σ 118) 31 = 0 ∧ r = -1 ∧ σ1 = σ) ∨ (0 < sp_sz (σ 118) 31 ∧ (st_wf P σ1 ∧ st_sm [(133 + 2 * d0), 2, 4, 6, 120, 122, 124, 126, 128, 130] σ σ1) ∧ ((sp_sz (sp_rest P (σ (133 + 2 * x0)) (σ 118)) 31 = 0 ∧ r = -1 ∧ σ1 (133 + 2 * d0) = σ (133 + 2 * d0)) ∨ (0 < sp_sz (sp_rest P (σ (133 + 2 * x0)) (σ 118)) 31 ∧ r = nI (sp_sz (σ1 (133 + 2 * d0)) 31) ∧ sp_sz (σ1 (133 + 2 * d0)) 31 < sp_sz (σ 118) 31 ∧ @ag_q pz_T pz_R (pz_I P (pe_f (σ 118))) (pz_ml (pe_f (σ1 (133 + 2 * d0))) (pe_f (sp_rest P (σ (133 + 2 * x0)) (σ 118)))) (pz_ct 1)))))
def qM_inverse (P : Nat) (σ : st_T) (d : Int32) (x : Int32) (r : Int32) (σ1 : st_T) : Prop := (¬ (rk_r d ∧ rk_r x) ∧ r = -1 ∧ σ1 = σ) ∨ ∃ d0 x0, (d0 < 8 ∧ d = nI d0) ∧ (x0 < 8 ∧ x = nI x0) ∧ ((σ 205 4 = 0 ∧ r = -1 ∧ σ1 = σ) ∨ (σ 205 4 ≠ 0 ∧ (md_wf P σ1 ∧ md_sm ((300 + d0) :: mk_W) σ σ1) ∧ ((sp_sz (sp_rest P (σ (300 + x0)) (σ (300 + 24))) 31 = 0 ∧ r = -1 ∧ σ1 (300 + d0) = σ (300 + d0)) ∨ (0 < sp_sz (sp_rest P (σ (300 + x0)) (σ (300 + 24))) 31 ∧ r = nI (sp_sz (σ1 (300 + d0)) 31) ∧ sp_sz (σ1 (300 + d0)) 31 < sp_sz (σ (300 + 24)) 31 ∧ @ag_q pz_T pz_R (pz_I P (pe_f (σ (300 + 24)))) (pz_ml (pe_f (σ1 (300 + d0))) (pe_f (sp_rest P (σ (300 + x0)) (σ (300 + 24))))) (pz_ct 1)))))
theorem kC_inverse {P ld : Nat} {σ σ1 : st_T} {R : Nat → Nat → Nat} {F : Nat → Nat} {L : List pv_T} {r : Int32} {d : Int32} {x : Int32} (hA : ab_ok P R F L ld) (hm : hm_ok P σ R F L ld) (h : qC_inverse P σ d x r σ1) : hm_ok P σ1 R F L ld := by
  rcases h with ⟨-, -, rfl⟩ | ⟨d_, x_, ⟨hd, _⟩, ⟨hx, _⟩, h⟩
  · exact hm
  · rcases h with ⟨-, -, rfl⟩ | ⟨-, ⟨-, hs⟩, -⟩
    · exact hm
    · exact hm_mo (st_hi hs (fun z hz => by
      rcases List.mem_cons.mp hz with rfl | h
      · exact Or.inl ⟨d_, hd, rfl⟩
      · exact Or.inr ((by decide +kernel : ∀ a ∈ ([2, 4, 6, 120, 122, 124, 126, 128, 130] : List Nat), a ∈ sc_X) z h))) hm
theorem jn_inverse {P ld : Nat} {σ σ1 σ2 : st_T} {R : Nat → Nat → Nat} {F : Nat → Nat} {L : List pv_T} {r r2 : Int32} {d : Int32} {x : Int32} (hP : ag_pr P) (hP31 : P < 2147483648) (hA : ab_ok P R F L ld) (hc : hc_ok P σ R F L ld) (hm : hm_ok P σ R F L ld) (hC : qC_inverse P σ d x r σ1) (hM : qM_inverse P σ1 d x r2 σ2) : r = r2 ∧ lr P σ2 := by
  have hm1 := kC_inverse hA hm hC
  rcases hC with ⟨hn, hr, hσ⟩ | ⟨d_, x_, ⟨hd, rfl⟩, ⟨hx, rfl⟩, hC⟩
  · subst hσ
    rcases hM with ⟨hn2, hr2, hσ⟩ | ⟨d1, x1, ⟨gd, ed⟩, ⟨gx, ex⟩, hM⟩
    · subst hσ
      exact ⟨by rw [hr, hr2], R, F, L, ld, hA, hc, hm⟩
    · exact absurd ⟨⟨d1, gd, ed⟩, ⟨x1, gx, ex⟩⟩ hn
  · rcases hM with ⟨hn2, hr2, hσ⟩ | ⟨d1, x1, ⟨gd, ed⟩, ⟨gx, ex⟩, hM⟩
    · exact absurd ⟨⟨d_, hd, rfl⟩, ⟨x_, hx, rfl⟩⟩ hn2
    · obtain rfl := rk_inj (by omega) (by omega) ed
      obtain rfl := rk_inj (by omega) (by omega) ex
      simp only [hc.2.2.2.1 x_ hx, hc.2.2.2.1 d_ hd, hc.2.2.2.2.1] at hC
      simp only [hm1.2.1 x_ hx, hm1.2.1 d_ hd, hm1.2.2.1, hm1.2.2.2.1] at hM
      have hF := hA.2.2.1
      rcases hC with ⟨hg, hr, hσ⟩ | ⟨hg, ⟨hw1, hs1⟩, hC⟩
      · subst hσ
        rcases hM with ⟨hg2, hr2, hσ⟩ | ⟨hg2, -⟩
        · subst hσ
          exact ⟨by rw [hr, hr2], R, F, L, ld, hA, hc, hm⟩
        · omega
      · have hF := hF hg
        rcases hM with ⟨hg2, -⟩ | ⟨hg2, ⟨hw2, hs2⟩, hM⟩
        · omega
        · rcases hC with ⟨h1, hr, e1⟩ | ⟨h1, hr, z1, e1⟩
          · rcases hM with ⟨h2, hr2, e2⟩ | ⟨h2, hr2, z2, e2⟩
            · exact ⟨by rw [hr, hr2], lr_wr hA hc hm hd hw1 hs1 (by decide +kernel : ∀ a ∈ ([2, 4, 6, 120, 122, 124, 126, 128, 130] : List Nat), a ∈ sc_X) e1 hw2 hs2 (fun a h => h) e2 (hA.1 d_ hd).2⟩
            · omega
          · rcases hM with ⟨h2, hr2, e2⟩ | ⟨h2, hr2, z2, e2⟩
            · omega
            · have he := iv_uni hP hA.2.1 (hw1.2 _ (kd_rg hd)).1 (hw2.2 d_ (by omega)) z1 z2 e1 e2
              exact ⟨by rw [hr, hr2, he], lr_wr hA hc hm hd hw1 hs1 (by decide +kernel : ∀ a ∈ ([2, 4, 6, 120, 122, 124, 126, 128, 130] : List Nat), a ∈ sc_X) rfl hw2 hs2 (fun a h => h) he.symm (by omega)⟩
def qC_trace (P : Nat) (σ : st_T) (a : Int32) (b0 : Nat) (r : Int32) (σ1 : st_T) : Prop := (¬ (rk_r a) ∧ r = -1 ∧ σ1 = σ) ∨ ∃ a0, (a0 < 8 ∧ a = nI a0) ∧ ((sp_sz (σ 118) 31 = 0 ∧ r = -1 ∧ σ1 = σ) ∨ (0 < sp_sz (σ 118) 31 ∧ r = nI (σ1 122 0) ∧ sp_is P (σ 118) (σ1 122) (fb_acc P b0 (pe_f (σ (133 + 2 * a0))) (sp_sz (σ 118) 31 - 1)) ∧ st_wf P σ1 ∧ st_sm (122 :: fb_Y) σ σ1))
def qM_trace (P : Nat) (σ : st_T) (a : Int32) (b0 : Nat) (r : Int32) (σ1 : st_T) : Prop := (¬ (rk_r a) ∧ r = -1 ∧ σ1 = σ) ∨ ∃ a0, (a0 < 8 ∧ a = nI a0) ∧ ((σ 205 4 = 0 ∧ r = -1 ∧ σ1 = σ) ∨ (σ 205 4 ≠ 0 ∧ (md_wf P σ1 ∧ md_sm mk_W σ σ1) ∧ ∃ U, sp_is P (σ (300 + 24)) U (fb_acc P b0 (pe_f (σ (300 + a0))) (sp_sz (σ (300 + 24)) 31 - 1)) ∧ r = nI (U 0)))
theorem kC_trace {P ld : Nat} {σ σ1 : st_T} {R : Nat → Nat → Nat} {F : Nat → Nat} {L : List pv_T} {r : Int32} {a : Int32} {b0 : Nat} (hA : ab_ok P R F L ld) (hm : hm_ok P σ R F L ld) (h : qC_trace P σ a b0 r σ1) : hm_ok P σ1 R F L ld := by
  rcases h with ⟨-, -, rfl⟩ | ⟨a_, ⟨ha, _⟩, h⟩
  · exact hm
  · rcases h with ⟨-, -, rfl⟩ | ⟨-, -, -, -, hs⟩
    · exact hm
    · exact hm_mo (st_hi hs (fun a ha => Or.inr ((by decide +kernel : ∀ a ∈ (122 :: fb_Y), a ∈ sc_X) a ha))) hm
theorem jn_trace {P ld : Nat} {σ σ1 σ2 : st_T} {R : Nat → Nat → Nat} {F : Nat → Nat} {L : List pv_T} {r r2 : Int32} {a : Int32} {b0 : Nat} (hP : ag_pr P) (hP31 : P < 2147483648) (hA : ab_ok P R F L ld) (hc : hc_ok P σ R F L ld) (hm : hm_ok P σ R F L ld) (hC : qC_trace P σ a b0 r σ1) (hM : qM_trace P σ1 a b0 r2 σ2) : r = r2 ∧ lr P σ2 := by
  have hm1 := kC_trace hA hm hC
  rcases hC with ⟨hn, hr, hσ⟩ | ⟨a_, ⟨ha, rfl⟩, hC⟩
  · subst hσ
    rcases hM with ⟨hn2, hr2, hσ⟩ | ⟨a1, ⟨ga, ea⟩, hM⟩
    · subst hσ
      exact ⟨by rw [hr, hr2], R, F, L, ld, hA, hc, hm⟩
    · exact absurd ⟨a1, ga, ea⟩ hn
  · rcases hM with ⟨hn2, hr2, hσ⟩ | ⟨a1, ⟨ga, ea⟩, hM⟩
    · exact absurd ⟨a_, ha, rfl⟩ hn2
    · obtain rfl := rk_inj (by omega) (by omega) ea
      simp only [hc.2.2.2.1 a_ ha, hc.2.2.2.2.1] at hC
      simp only [hm1.2.1 a_ ha, hm1.2.2.1, hm1.2.2.2.1] at hM
      have hF := hA.2.2.1
      rcases hC with ⟨hg, hr, hσ⟩ | ⟨hg, hr, e1, hw1, hs1⟩
      · subst hσ
        rcases hM with ⟨hg2, hr2, hσ⟩ | ⟨hg2, -⟩
        · subst hσ
          exact ⟨by rw [hr, hr2], R, F, L, ld, hA, hc, hm⟩
        · omega
      · have hF := hF hg
        rcases hM with ⟨hg2, -⟩ | ⟨hg2, ⟨hw2, hs2⟩, U, e2, hr2⟩
        · omega
        · have he := sp_is_uni hP hA.2.1 e1 e2
          exact ⟨by rw [hr, hr2, he], lr_sc hA hc hm hw1 hs1 (by decide +kernel : ∀ a ∈ (122 :: fb_Y), a ∈ sc_X) hw2 hs2 (fun a h => h)⟩
