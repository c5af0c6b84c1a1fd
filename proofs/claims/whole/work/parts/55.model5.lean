/-! The reference: its list of parts; shift, insert, takeOut -/
def mv_t (σ : st_T) (t : Nat) : pv_T := (σ 206 t, σ 207 t, σ (300 + (8 + t)))
def ml_v (σ : st_T) : List pv_T := (List.range (σ 205 1)).map (mv_t σ)
theorem ml_v_len (σ : st_T) : (ml_v σ).length = σ 205 1 := by unfold ml_v; rw [List.length_map, List.length_range]
theorem ml_v_at (σ : st_T) {t : Nat} (h : t < σ 205 1) : (ml_v σ)[t]? = some (mv_t σ t) := by
  unfold ml_v
  rw [List.getElem?_map, List.getElem?_range h]
  rfl
theorem ml_v_mem {σ : st_T} {p : pv_T} (h : p ∈ ml_v σ) : ∃ t, t < σ 205 1 ∧ mv_t σ t = p := by
  obtain ⟨t, ht, e⟩ := List.mem_map.mp h
  exact ⟨t, List.mem_range.mp ht, e⟩
theorem ml_v_in {σ : st_T} {t : Nat} (h : t < σ 205 1) : mv_t σ t ∈ ml_v σ := List.mem_map.mpr ⟨t, List.mem_range.mpr h, rfl⟩
abbrev mp_R : List Nat := [308, 309, 310, 311, 312, 313, 314, 315, 316, 317, 318, 319, 320, 321, 322, 323]
abbrev mp_X : List Nat := [205, 206, 207] ++ mp_R
theorem mp_in {t : Nat} (h : t < 16) : 300 + (8 + t) ∈ mp_R := (by decide +kernel : ∀ t, t < 16 → 300 + (8 + t) ∈ mp_R) t h
theorem mp_lo {a : Nat} (h : a ∈ mp_R) : 308 ≤ a ∧ a ≤ 323 := (by decide +kernel : ∀ a ∈ mp_R, 308 ≤ a ∧ a ≤ 323) a h
theorem mp_lx {a : Nat} (h : a ∈ mp_X) : (205 ≤ a ∧ a ≤ 207) ∨ (308 ≤ a ∧ a ≤ 323) := (by decide +kernel : ∀ a ∈ mp_X, (205 ≤ a ∧ a ≤ 207) ∨ (308 ≤ a ∧ a ≤ 323)) a h
/-- behind a shift, and what is put into the gap -/
theorem ml_ins {σ τ : st_T} {at0 : Nat} {x : pv_T} (ha : at0 ≤ σ 205 1) (hc : τ 205 1 = σ 205 1 + 1) (h1 : ∀ t, t < at0 → mv_t τ t = mv_t σ t) (h2 : mv_t τ at0 = x) (h3 : ∀ t, at0 < t → t ≤ σ 205 1 → mv_t τ t = mv_t σ (t - 1)) : ml_v τ = (ml_v σ).take at0 ++ x :: (ml_v σ).drop at0 := by
  have hl := ml_v_len σ
  apply List.ext_getElem?
  intro t
  by_cases ht : t < σ 205 1 + 1
  · rw [ml_v_at τ (by omega)]
    rcases Nat.lt_trichotomy t at0 with h4 | h4 | h4
    · rw [List.getElem?_append_left (by rw [List.length_take]; omega), List.getElem?_take, if_pos h4, ml_v_at σ (by omega), h1 t h4]
    · rw [List.getElem?_append_right (by rw [List.length_take]; omega), List.length_take, Nat.min_eq_left (by omega), h4, Nat.sub_self, List.getElem?_cons_zero, h2]
    · rw [List.getElem?_append_right (by rw [List.length_take]; omega), List.length_take, Nat.min_eq_left (by omega), show t - at0 = t - 1 - at0 + 1 by omega, List.getElem?_cons_succ, List.getElem?_drop, show at0 + (t - 1 - at0) = t - 1 by omega, ml_v_at σ (by omega), h3 t h4 (by omega)]
  · rw [List.getElem?_eq_none (by rw [ml_v_len]; omega), List.getElem?_eq_none (by rw [List.length_append, List.length_cons, List.length_take, List.length_drop]; omega)]
/-- what a shift leaves -/
def ms_ok (P : Nat) (σ : st_T) (at0 : Nat) (τ : st_T) : Prop :=
  md_wf P τ ∧ (τ 205 1 = σ 205 1 + 1 ∧ ∀ j, j ≠ 1 → τ 205 j = σ 205 j) ∧ (∀ t, t ≤ at0 → mv_t τ t = mv_t σ t) ∧ (∀ t, at0 < t → t ≤ σ 205 1 → mv_t τ t = mv_t σ (t - 1)) ∧ md_sm mp_X σ τ
theorem dm_Model_shift_0 : decode bm_Model_shift 0 = .ok (.aload_n 0, 1) := by decide +kernel
theorem dm_Model_shift_1 : decode bm_Model_shift 1 = .ok (.getfield 88, 3) := by decide +kernel
theorem dm_Model_shift_4 : decode bm_Model_shift 4 = .ok (.istore_n 2, 1) := by decide +kernel
theorem dm_Model_shift_5 : decode bm_Model_shift 5 = .ok (.iload_n 2, 1) := by decide +kernel
theorem dm_Model_shift_6 : decode bm_Model_shift 6 = .ok (.iload_n 1, 1) := by decide +kernel
theorem dm_Model_shift_7 : decode bm_Model_shift 7 = .ok (.if_icmp .le 51, 3) := by decide +kernel
theorem dm_Model_shift_10 : decode bm_Model_shift 10 = .ok (.aload_n 0, 1) := by decide +kernel
theorem dm_Model_shift_11 : decode bm_Model_shift 11 = .ok (.getfield 13, 3) := by decide +kernel
theorem dm_Model_shift_14 : decode bm_Model_shift 14 = .ok (.iload_n 2, 1) := by decide +kernel
theorem dm_Model_shift_15 : decode bm_Model_shift 15 = .ok (.aload_n 0, 1) := by decide +kernel
theorem dm_Model_shift_16 : decode bm_Model_shift 16 = .ok (.getfield 13, 3) := by decide +kernel
theorem dm_Model_shift_19 : decode bm_Model_shift 19 = .ok (.iload_n 2, 1) := by decide +kernel
theorem dm_Model_shift_20 : decode bm_Model_shift 20 = .ok (.iconst 1, 1) := by decide +kernel
theorem dm_Model_shift_21 : decode bm_Model_shift 21 = .ok (.isub, 1) := by decide +kernel
theorem dm_Model_shift_22 : decode bm_Model_shift 22 = .ok (.iaload, 1) := by decide +kernel
theorem dm_Model_shift_23 : decode bm_Model_shift 23 = .ok (.iastore, 1) := by decide +kernel
theorem dm_Model_shift_24 : decode bm_Model_shift 24 = .ok (.aload_n 0, 1) := by decide +kernel
theorem dm_Model_shift_25 : decode bm_Model_shift 25 = .ok (.getfield 16, 3) := by decide +kernel
theorem dm_Model_shift_28 : decode bm_Model_shift 28 = .ok (.iload_n 2, 1) := by decide +kernel
theorem dm_Model_shift_29 : decode bm_Model_shift 29 = .ok (.aload_n 0, 1) := by decide +kernel
theorem dm_Model_shift_30 : decode bm_Model_shift 30 = .ok (.getfield 16, 3) := by decide +kernel
theorem dm_Model_shift_33 : decode bm_Model_shift 33 = .ok (.iload_n 2, 1) := by decide +kernel
theorem dm_Model_shift_34 : decode bm_Model_shift 34 = .ok (.iconst 1, 1) := by decide +kernel
theorem dm_Model_shift_35 : decode bm_Model_shift 35 = .ok (.isub, 1) := by decide +kernel
theorem dm_Model_shift_36 : decode bm_Model_shift 36 = .ok (.iaload, 1) := by decide +kernel
theorem dm_Model_shift_37 : decode bm_Model_shift 37 = .ok (.iastore, 1) := by decide +kernel
theorem dm_Model_shift_38 : decode bm_Model_shift 38 = .ok (.aload_n 0, 1) := by decide +kernel
theorem dm_Model_shift_39 : decode bm_Model_shift 39 = .ok (.bipush 8, 2) := by decide +kernel
theorem dm_Model_shift_41 : decode bm_Model_shift 41 = .ok (.iload_n 2, 1) := by decide +kernel
theorem dm_Model_shift_42 : decode bm_Model_shift 42 = .ok (.iadd, 1) := by decide +kernel
theorem dm_Model_shift_43 : decode bm_Model_shift 43 = .ok (.iconst 1, 1) := by decide +kernel
theorem dm_Model_shift_44 : decode bm_Model_shift 44 = .ok (.isub, 1) := by decide +kernel
theorem dm_Model_shift_45 : decode bm_Model_shift 45 = .ok (.bipush 8, 2) := by decide +kernel
theorem dm_Model_shift_47 : decode bm_Model_shift 47 = .ok (.iload_n 2, 1) := by decide +kernel
theorem dm_Model_shift_48 : decode bm_Model_shift 48 = .ok (.iadd, 1) := by decide +kernel
theorem dm_Model_shift_49 : decode bm_Model_shift 49 = .ok (.invokevirtual 55, 3) := by decide +kernel
theorem dm_Model_shift_52 : decode bm_Model_shift 52 = .ok (.iinc 2 (-1), 3) := by decide +kernel
theorem dm_Model_shift_55 : decode bm_Model_shift 55 = .ok (.goto (-50), 3) := by decide +kernel
theorem dm_Model_shift_58 : decode bm_Model_shift 58 = .ok (.aload_n 0, 1) := by decide +kernel
theorem dm_Model_shift_59 : decode bm_Model_shift 59 = .ok (.dup, 1) := by decide +kernel
theorem dm_Model_shift_60 : decode bm_Model_shift 60 = .ok (.getfield 88, 3) := by decide +kernel
theorem dm_Model_shift_63 : decode bm_Model_shift 63 = .ok (.iconst 1, 1) := by decide +kernel
theorem dm_Model_shift_64 : decode bm_Model_shift 64 = .ok (.iadd, 1) := by decide +kernel
theorem dm_Model_shift_65 : decode bm_Model_shift 65 = .ok (.putfield 88, 3) := by decide +kernel
theorem dm_Model_shift_68 : decode bm_Model_shift 68 = .ok (.return_, 1) := by decide +kernel
set_option maxHeartbeats 4000000 in
set_option maxRecDepth 100000 in
theorem mm_Model_shift (l : Launch) (D : va_G) (k : ClassId × ClassId × ClassId) (g : Nat → Nat) (σ : st_T) {P at0 : Nat} (hw : md_wf P σ) (hcc : σ 205 1 < 16) (hat : at0 ≤ σ 205 1) : mt_V l D k g ym_Model_shift wm_Model_shift rm_Model_shift [.ref (g 149), .int (nI at0)] σ (fun σ1 => ms_ok P σ at0 σ1) := by
  refine ct_V_in (cc := bm_Model_shift) (maxL := 3) (by decide) rfl (Nat.le_of_ble_eq_true rfl) ?_
  intro p e s m args below meth c A ls Q S hl hW hret
  have S : pw_S p m c bm_Model_shift 3 s args wa_g rc_Model D cl_s (ty_s k) := S
  have hx := S.1.1
  have hb := S.1.2.1
  have hl : lv_has ls 3 [(0, .ref (g (149))), (1, .int (nI (at0)))] := hl
  refine lv_aload_n hx hb dm_Model_shift_0 rfl (lv_at hl 0 rfl) ?_
  refine md_parts S hW (wa_in 563 (by decide +kernel) rfl) dm_Model_shift_1 ?_
  refine lv_istore_n hx hb dm_Model_shift_4 rfl hl (by decide) rfl (fun ls hl => ?_)
  have hl : lv_has ls 3 [(2, .int (nI (σ 205 1))), (0, .ref (g (149))), (1, .int (nI (at0)))] := hl
  have loop : ∀ (d i : Nat) (τ : st_T), at0 + d = i → i ≤ σ 205 1 → md_wf P τ → (∀ t, t ≤ i → mv_t τ t = mv_t σ t) → (∀ t, i < t → t ≤ σ 205 1 → mv_t τ t = mv_t σ (t - 1)) → md_sm ([206, 207] ++ mp_R) σ τ → ∀ (ls : Array Slot) (H : Heap) (locs : List Loc), lv_has ls 3 [(2, .int (nI (i))), (0, .ref (g (149))), (1, .int (nI (at0)))] → pw_H D cl_s A s.heap g 153 (en_s k g (τ)) H locs → W p l e rm_Model_shift s m args below meth c H locs 0 0 Q (F0 m 5 ls []) := by
    intro d
    induction d with
    | zero =>
      intro i τ hd hi wτ h1 h2 sτ ls H locs hl hW
      have q205 : τ 205 = σ 205 := sτ 205 (by decide +kernel)
      refine lv_iload_n hx hb dm_Model_shift_5 rfl (lv_at hl 0 rfl) ?_
      refine lv_iload_n hx hb dm_Model_shift_6 rfl (lv_at hl 2 rfl) ?_
      refine wi_icmp_le (tgt := 58) S (nn_T (by omega)) (nn_T (by omega)) dm_Model_shift_7 (by decide) (fun hc => ?_) (fun hc => ?_)
      · refine lv_aload_n hx hb dm_Model_shift_58 rfl (lv_at hl 1 rfl) ?_
        refine lv_dup hx hb dm_Model_shift_59 rfl ?_
        refine md_parts S hW (wa_in 563 (by decide +kernel) rfl) dm_Model_shift_60 ?_
        rw [q205]
        refine lv_iconst (v := nI (1)) hx hb dm_Model_shift_63 (by decide) ?_
        refine wn_iadd S dm_Model_shift_64 ?_
        refine md_put_parts S hW (wa_in 563 (by decide +kernel) rfl) dm_Model_shift_65 (fun H locs hW => ?_)
        have e1 : (st_up τ 205 1 (σ 205 1 + 1)) 205 = va_up (σ 205) 1 (σ 205 1 + 1) := by rw [st_up_at, q205]
        have ev : ∀ t, mv_t (st_up τ 205 1 (σ 205 1 + 1)) t = mv_t τ t := fun t => by unfold mv_t; rw [st_up_row (by omega), st_up_row (by omega), st_up_row (by omega)]
        have hia : i = at0 := by omega
        refine hret _ _ _ _ _ dm_Model_shift_68 ⟨⟨by rw [e1, va_up_ne _ _ (by omega)]; exact hw.1, fun s hs => by rw [st_up_row (by omega)]; exact wτ.2 s hs⟩, ⟨by rw [e1, va_up_self], fun j hj => by rw [e1, va_up_ne _ _ hj]⟩, fun t ht => by rw [ev]; exact h1 t (by omega), fun t h3 h4 => by rw [ev]; exact h2 t (by omega) h4, fun a ha => ?_⟩ hW
        have h205 : a ≠ 205 := fun z => ha (by rw [z]; decide +kernel)
        rw [st_up_row h205]
        exact sτ a (fun z => ha (List.mem_cons_of_mem _ z))
      · exfalso
        omega
    | succ d ih =>
      intro i τ hd hi wτ h1 h2 sτ ls H locs hl hW
      have q205 : τ 205 = σ 205 := sτ 205 (by decide +kernel)
      refine lv_iload_n hx hb dm_Model_shift_5 rfl (lv_at hl 0 rfl) ?_
      refine lv_iload_n hx hb dm_Model_shift_6 rfl (lv_at hl 2 rfl) ?_
      refine wi_icmp_le (tgt := 58) S (nn_T (by omega)) (nn_T (by omega)) dm_Model_shift_7 (by decide) (fun hc => ?_) (fun hc => ?_)
      · exfalso
        omega
      · refine lv_aload_n hx hb dm_Model_shift_10 rfl (lv_at hl 1 rfl) ?_
        refine md_often S hW (wa_in 564 (by decide +kernel) rfl) dm_Model_shift_11 ?_
        refine lv_iload_n hx hb dm_Model_shift_14 rfl (lv_at hl 0 rfl) ?_
        refine lv_aload_n hx hb dm_Model_shift_15 rfl (lv_at hl 1 rfl) ?_
        refine md_often S hW (wa_in 564 (by decide +kernel) rfl) dm_Model_shift_16 ?_
        refine lv_iload_n hx hb dm_Model_shift_19 rfl (lv_at hl 0 rfl) ?_
        refine lv_iconst (v := nI (1)) hx hb dm_Model_shift_20 (by decide) ?_
        refine wn_isub S (by omega) dm_Model_shift_21 ?_
        refine mo_ald S hW (by omega) dm_Model_shift_22 ?_
        refine mo_ast S hW (by omega) dm_Model_shift_23 (fun H locs hW => ?_)
        refine lv_aload_n hx hb dm_Model_shift_24 rfl (lv_at hl 1 rfl) ?_
        refine md_degrees S hW (wa_in 565 (by decide +kernel) rfl) dm_Model_shift_25 ?_
        refine lv_iload_n hx hb dm_Model_shift_28 rfl (lv_at hl 0 rfl) ?_
        refine lv_aload_n hx hb dm_Model_shift_29 rfl (lv_at hl 1 rfl) ?_
        refine md_degrees S hW (wa_in 565 (by decide +kernel) rfl) dm_Model_shift_30 ?_
        refine lv_iload_n hx hb dm_Model_shift_33 rfl (lv_at hl 0 rfl) ?_
        refine lv_iconst (v := nI (1)) hx hb dm_Model_shift_34 (by decide) ?_
        refine wn_isub S (by omega) dm_Model_shift_35 ?_
        refine md_ald S hW (by omega) dm_Model_shift_36 ?_
        rw [show (st_up τ 206 i (τ 206 (i - 1))) 207 = τ 207 from st_up_row (by omega)]
        refine md_ast S hW (by omega) dm_Model_shift_37 (fun H locs hW => ?_)
        have w2 : md_wf P (st_up (st_up τ 206 i (τ 206 (i - 1))) 207 i (τ 207 (i - 1))) := ⟨by rw [st_up_row (by omega), st_up_row (by omega)]; exact wτ.1, fun s hs => by rw [st_up_row (by omega), st_up_row (by omega)]; exact wτ.2 s hs⟩
        refine lv_aload_n hx hb dm_Model_shift_38 rfl (lv_at hl 1 rfl) ?_
        refine lv_bipush (v := nI (8)) hx hb dm_Model_shift_39 (by decide) ?_
        refine lv_iload_n hx hb dm_Model_shift_41 rfl (lv_at hl 0 rfl) ?_
        refine wn_iadd S dm_Model_shift_42 ?_
        refine lv_iconst (v := nI (1)) hx hb dm_Model_shift_43 (by decide) ?_
        refine wn_isub S (by omega) dm_Model_shift_44 ?_
        rw [show 8 + i - 1 = 8 + (i - 1) by omega]
        refine lv_bipush (v := nI (8)) hx hb dm_Model_shift_45 (by decide) ?_
        refine lv_iload_n hx hb dm_Model_shift_47 rfl (lv_at hl 0 rfl) ?_
        refine wn_iadd S dm_Model_shift_48 ?_
        refine pw_callV (rest := []) S hW (mm_Model_copy l D k g (st_up (st_up τ 206 i (τ 206 (i - 1))) 207 i (τ 207 (i - 1))) w2 (a := 8 + (i - 1)) (b := 8 + i) (by omega) (by omega)) (cv_Model_55 S.1.2.2.2.2 ⟨by decide, by decide⟩) (by decide) en_Model rfl rfl hl.1 rfl (lv_room (Nat.le_of_ble_eq_true rfl)) ⟨Nat.zero_le _, Nat.zero_le _⟩ dm_Model_shift_49 (fun σ3 H locs hp3 hW => ?_)
        obtain ⟨w3, e3, s3⟩ := hp3
        rw [st_up_row (by omega), st_up_row (by omega)] at e3
        have t206 : ∀ t, σ3 206 t = if t = i then τ 206 (i - 1) else τ 206 t := fun t => by
          rw [s3 206 (by simp only [List.mem_cons, List.not_mem_nil, or_false]; omega), st_up_row (by omega), st_up_at]
          rfl
        have t207 : ∀ t, σ3 207 t = if t = i then τ 207 (i - 1) else τ 207 t := fun t => by
          rw [s3 207 (by simp only [List.mem_cons, List.not_mem_nil, or_false]; omega), st_up_at]
          unfold va_up
          split
          · rfl
          · rw [st_up_row (by omega)]
        have trow : ∀ t, t ≠ i → σ3 (300 + (8 + t)) = τ (300 + (8 + t)) := fun t ht => by rw [s3 _ (by simp only [List.mem_cons, List.not_mem_nil, or_false]; omega), st_up_row (by omega), st_up_row (by omega)]
        have hv1 : ∀ t, t ≠ i → mv_t σ3 t = mv_t τ t := fun t ht => by
          unfold mv_t
          rw [t206, t207, if_neg ht, if_neg ht, trow t ht]
        have hv2 : mv_t σ3 i = mv_t τ (i - 1) := by
          unfold mv_t
          rw [t206, t207, if_pos rfl, if_pos rfl, e3]
        have sm3 : md_sm ([206, 207] ++ mp_R) σ σ3 := fun a ha => by
          have n206 : a ≠ 206 := fun z => ha (by rw [z]; decide +kernel)
          have n207 : a ≠ 207 := fun z => ha (by rw [z]; decide +kernel)
          have nrow : a ≠ 300 + (8 + i) := fun z => ha (by rw [z]; exact List.mem_append_right _ (mp_in (by omega)))
          rw [s3 a (by simp only [List.mem_singleton]; exact nrow), st_up_row n207, st_up_row n206]
          exact sτ a ha
        obtain ⟨i2, hi2⟩ : ∃ i2, i = i2 + 1 := ⟨i - 1, by omega⟩
        refine lv_iinc (k := 0) (v := nI i2) hx hb dm_Model_shift_52 hl rfl (by rw [hi2]; exact ni_m1 i2) (by decide) rfl (fun ls hl => ?_)
        have hl : lv_has ls 3 [(2, .int (nI (i2))), (0, .ref (g (149))), (1, .int (nI (at0)))] := hl
        refine lv_goto (tgt := 5) hx hb dm_Model_shift_55 (by decide) ?_
        refine ih i2 σ3 (by omega) (by omega) w3 (fun t ht => ?_) (fun t h3 h4 => ?_) sm3 ls _ _ hl hW
        · rw [hv1 t (by omega)]
          exact h1 t (by omega)
        · by_cases h5 : t = i
          · rw [h5, hv2]
            exact h1 _ (by omega)
          · rw [hv1 t h5]
            exact h2 t (by omega) h4
  exact loop (σ 205 1 - at0) (σ 205 1) σ (by omega) (by omega) hw (fun t _ => rfl) (fun t h1 h2 => by omega) (md_sm_rf _ _) ls _ _ hl hW
theorem dm_Model_insert_0 : decode bm_Model_insert 0 = .ok (.iconst 0, 1) := by decide +kernel
theorem dm_Model_insert_1 : decode bm_Model_insert 1 = .ok (.istore_n 3, 1) := by decide +kernel
theorem dm_Model_insert_2 : decode bm_Model_insert 2 = .ok (.iload_n 3, 1) := by decide +kernel
theorem dm_Model_insert_3 : decode bm_Model_insert 3 = .ok (.aload_n 0, 1) := by decide +kernel
theorem dm_Model_insert_4 : decode bm_Model_insert 4 = .ok (.getfield 88, 3) := by decide +kernel
theorem dm_Model_insert_7 : decode bm_Model_insert 7 = .ok (.if_icmp .ge 39, 3) := by decide +kernel
theorem dm_Model_insert_10 : decode bm_Model_insert 10 = .ok (.aload_n 0, 1) := by decide +kernel
theorem dm_Model_insert_11 : decode bm_Model_insert 11 = .ok (.getfield 13, 3) := by decide +kernel
theorem dm_Model_insert_14 : decode bm_Model_insert 14 = .ok (.iload_n 3, 1) := by decide +kernel
theorem dm_Model_insert_15 : decode bm_Model_insert 15 = .ok (.iaload, 1) := by decide +kernel
theorem dm_Model_insert_16 : decode bm_Model_insert 16 = .ok (.iload_n 1, 1) := by decide +kernel
theorem dm_Model_insert_17 : decode bm_Model_insert 17 = .ok (.if_icmp .lt 23, 3) := by decide +kernel
theorem dm_Model_insert_20 : decode bm_Model_insert 20 = .ok (.aload_n 0, 1) := by decide +kernel
theorem dm_Model_insert_21 : decode bm_Model_insert 21 = .ok (.getfield 13, 3) := by decide +kernel
theorem dm_Model_insert_24 : decode bm_Model_insert 24 = .ok (.iload_n 3, 1) := by decide +kernel
theorem dm_Model_insert_25 : decode bm_Model_insert 25 = .ok (.iaload, 1) := by decide +kernel
theorem dm_Model_insert_26 : decode bm_Model_insert 26 = .ok (.iload_n 1, 1) := by decide +kernel
theorem dm_Model_insert_27 : decode bm_Model_insert 27 = .ok (.if_icmp .ne 19, 3) := by decide +kernel
theorem dm_Model_insert_30 : decode bm_Model_insert 30 = .ok (.aload_n 0, 1) := by decide +kernel
theorem dm_Model_insert_31 : decode bm_Model_insert 31 = .ok (.getfield 16, 3) := by decide +kernel
theorem dm_Model_insert_34 : decode bm_Model_insert 34 = .ok (.iload_n 3, 1) := by decide +kernel
theorem dm_Model_insert_35 : decode bm_Model_insert 35 = .ok (.iaload, 1) := by decide +kernel
theorem dm_Model_insert_36 : decode bm_Model_insert 36 = .ok (.iload_n 2, 1) := by decide +kernel
theorem dm_Model_insert_37 : decode bm_Model_insert 37 = .ok (.if_icmp .ge 9, 3) := by decide +kernel
theorem dm_Model_insert_40 : decode bm_Model_insert 40 = .ok (.iinc 3 1, 3) := by decide +kernel
theorem dm_Model_insert_43 : decode bm_Model_insert 43 = .ok (.goto (-41), 3) := by decide +kernel
theorem dm_Model_insert_46 : decode bm_Model_insert 46 = .ok (.aload_n 0, 1) := by decide +kernel
theorem dm_Model_insert_47 : decode bm_Model_insert 47 = .ok (.iload_n 3, 1) := by decide +kernel
theorem dm_Model_insert_48 : decode bm_Model_insert 48 = .ok (.invokevirtual 91, 3) := by decide +kernel
theorem dm_Model_insert_51 : decode bm_Model_insert 51 = .ok (.aload_n 0, 1) := by decide +kernel
theorem dm_Model_insert_52 : decode bm_Model_insert 52 = .ok (.getfield 13, 3) := by decide +kernel
theorem dm_Model_insert_55 : decode bm_Model_insert 55 = .ok (.iload_n 3, 1) := by decide +kernel
theorem dm_Model_insert_56 : decode bm_Model_insert 56 = .ok (.iload_n 1, 1) := by decide +kernel
theorem dm_Model_insert_57 : decode bm_Model_insert 57 = .ok (.iastore, 1) := by decide +kernel
theorem dm_Model_insert_58 : decode bm_Model_insert 58 = .ok (.aload_n 0, 1) := by decide +kernel
theorem dm_Model_insert_59 : decode bm_Model_insert 59 = .ok (.getfield 16, 3) := by decide +kernel
theorem dm_Model_insert_62 : decode bm_Model_insert 62 = .ok (.iload_n 3, 1) := by decide +kernel
theorem dm_Model_insert_63 : decode bm_Model_insert 63 = .ok (.iload_n 2, 1) := by decide +kernel
theorem dm_Model_insert_64 : decode bm_Model_insert 64 = .ok (.iastore, 1) := by decide +kernel
theorem dm_Model_insert_65 : decode bm_Model_insert 65 = .ok (.aload_n 0, 1) := by decide +kernel
theorem dm_Model_insert_66 : decode bm_Model_insert 66 = .ok (.bipush 27, 2) := by decide +kernel
theorem dm_Model_insert_68 : decode bm_Model_insert 68 = .ok (.bipush 8, 2) := by decide +kernel
theorem dm_Model_insert_70 : decode bm_Model_insert 70 = .ok (.iload_n 3, 1) := by decide +kernel
theorem dm_Model_insert_71 : decode bm_Model_insert 71 = .ok (.iadd, 1) := by decide +kernel
theorem dm_Model_insert_72 : decode bm_Model_insert 72 = .ok (.invokevirtual 55, 3) := by decide +kernel
theorem dm_Model_insert_75 : decode bm_Model_insert 75 = .ok (.return_, 1) := by decide +kernel
set_option maxHeartbeats 4000000 in
set_option maxRecDepth 100000 in
theorem mm_Model_insert (l : Launch) (D : va_G) (k : ClassId × ClassId × ClassId) (g : Nat → Nat) (σ : st_T) {P e0 d0 : Nat} (hw : md_wf P σ) (hcc : σ 205 1 < 15) (he : e0 < 2147483648) (hd : d0 < 2147483648) (hof : ∀ t, t < σ 205 1 → σ 206 t < 2147483648 ∧ σ 207 t < 2147483648) (hJ : ∀ t, t < σ 205 1 → σ 206 t = e0 → σ 207 t < d0) : mt_V l D k g ym_Model_insert wm_Model_insert rm_Model_insert [.ref (g 149), .int (nI e0), .int (nI d0)] σ (fun σ1 => md_wf P σ1 ∧ ml_v σ1 = pi_in (e0, d0, σ (300 + 27)) (ml_v σ) ∧ (σ1 205 1 = σ 205 1 + 1 ∧ ∀ j, j ≠ 1 → σ1 205 j = σ 205 j) ∧ md_sm mp_X σ σ1) := by
  refine ct_V_in (cc := bm_Model_insert) (maxL := 4) (by decide) rfl (Nat.le_of_ble_eq_true rfl) ?_
  intro p e s m args below meth c A ls Q S hl hW hret
  have S : pw_S p m c bm_Model_insert 4 s args wa_g rc_Model D cl_s (ty_s k) := S
  have hx := S.1.1
  have hb := S.1.2.1
  have hl : lv_has ls 4 [(0, .ref (g (149))), (1, .int (nI (e0))), (2, .int (nI (d0)))] := hl
  refine lv_iconst (v := nI (0)) hx hb dm_Model_insert_0 (by decide) ?_
  refine lv_istore_n hx hb dm_Model_insert_1 rfl hl (by decide) rfl (fun ls hl => ?_)
  have hl : lv_has ls 4 [(3, .int (nI (0))), (0, .ref (g (149))), (1, .int (nI (e0))), (2, .int (nI (d0)))] := hl
  have fin : ∀ at0, at0 ≤ σ 205 1 → (∀ t, t < at0 → σ 206 t ≤ e0) → (at0 < σ 205 1 → e0 < σ 206 at0) → ∀ (ls : Array Slot) (H : Heap) (locs : List Loc), lv_has ls 4 [(3, .int (nI (at0))), (0, .ref (g (149))), (1, .int (nI (e0))), (2, .int (nI (d0)))] → pw_H D cl_s A s.heap g 153 (en_s k g (σ)) H locs → W p l e rm_Model_insert s m args below meth c H locs 0 0 Q (F0 m 46 ls []) := by
    intro at0 ha h1 h2 ls H locs hl hW
    refine lv_aload_n hx hb dm_Model_insert_46 rfl (lv_at hl 1 rfl) ?_
    refine lv_iload_n hx hb dm_Model_insert_47 rfl (lv_at hl 0 rfl) ?_
    refine pw_callV (rest := []) S hW (mm_Model_shift l D k g σ (at0 := at0) hw (by omega) ha) (cv_Model_91 S.1.2.2.2.2 ⟨by decide, by decide⟩) (by decide) en_Model rfl rfl hl.1 rfl (lv_room (Nat.le_of_ble_eq_true rfl)) ⟨Nat.zero_le _, Nat.zero_le _⟩ dm_Model_insert_48 (fun σ2 H locs hp2 hW => ?_)
    obtain ⟨w2, ⟨c2, j2⟩, h3, h4, s2⟩ := hp2
    refine lv_aload_n hx hb dm_Model_insert_51 rfl (lv_at hl 1 rfl) ?_
    refine md_often S hW (wa_in 564 (by decide +kernel) rfl) dm_Model_insert_52 ?_
    refine lv_iload_n hx hb dm_Model_insert_55 rfl (lv_at hl 0 rfl) ?_
    refine lv_iload_n hx hb dm_Model_insert_56 rfl (lv_at hl 2 rfl) ?_
    refine mo_ast S hW (by omega) dm_Model_insert_57 (fun H locs hW => ?_)
    refine lv_aload_n hx hb dm_Model_insert_58 rfl (lv_at hl 1 rfl) ?_
    refine md_degrees S hW (wa_in 565 (by decide +kernel) rfl) dm_Model_insert_59 ?_
    refine lv_iload_n hx hb dm_Model_insert_62 rfl (lv_at hl 0 rfl) ?_
    refine lv_iload_n hx hb dm_Model_insert_63 rfl (lv_at hl 3 rfl) ?_
    refine md_ast S hW (by omega) dm_Model_insert_64 (fun H locs hW => ?_)
    have w3 : md_wf P (st_up (st_up σ2 206 at0 e0) 207 at0 d0) := ⟨by rw [st_up_row (by omega), st_up_row (by omega)]; exact w2.1, fun s hs => by rw [st_up_row (by omega), st_up_row (by omega)]; exact w2.2 s hs⟩
    refine lv_aload_n hx hb dm_Model_insert_65 rfl (lv_at hl 1 rfl) ?_
    refine lv_bipush (v := nI (27)) hx hb dm_Model_insert_66 (by decide) ?_
    refine lv_bipush (v := nI (8)) hx hb dm_Model_insert_68 (by decide) ?_
    refine lv_iload_n hx hb dm_Model_insert_70 rfl (lv_at hl 0 rfl) ?_
    refine wn_iadd S dm_Model_insert_71 ?_
    refine pw_callV (rest := []) S hW (mm_Model_copy l D k g (st_up (st_up σ2 206 at0 e0) 207 at0 d0) w3 (a := 27) (b := 8 + at0) (by omega) (by omega)) (cv_Model_55 S.1.2.2.2.2 ⟨by decide, by decide⟩) (by decide) en_Model rfl rfl hl.1 rfl (lv_room (Nat.le_of_ble_eq_true rfl)) ⟨Nat.zero_le _, Nat.zero_le _⟩ dm_Model_insert_72 (fun σ4 H locs hp4 hW => ?_)
    obtain ⟨w4, e4, s4⟩ := hp4
    have n27 : 300 + 27 ∉ mp_X := by decide +kernel
    rw [st_up_row (by omega), st_up_row (by omega), s2 _ n27] at e4
    have t206 : ∀ t, σ4 206 t = if t = at0 then e0 else σ2 206 t := fun t => by
      rw [s4 206 (by simp only [List.mem_cons, List.not_mem_nil, or_false]; omega), st_up_row (by omega), st_up_at]
      rfl
    have t207 : ∀ t, σ4 207 t = if t = at0 then d0 else σ2 207 t := fun t => by
      rw [s4 207 (by simp only [List.mem_cons, List.not_mem_nil, or_false]; omega), st_up_at]
      unfold va_up
      split
      · rfl
      · rw [st_up_row (by omega)]
    have q205 : σ4 205 = σ2 205 := by rw [s4 205 (by simp only [List.mem_cons, List.not_mem_nil, or_false]; omega), st_up_row (by omega), st_up_row (by omega)]
    have hv1 : ∀ t, t ≠ at0 → mv_t σ4 t = mv_t σ2 t := fun t ht => by
      unfold mv_t
      rw [t206, t207, if_neg ht, if_neg ht, s4 _ (by simp only [List.mem_cons, List.not_mem_nil, or_false]; omega), st_up_row (by omega), st_up_row (by omega)]
    have hv2 : mv_t σ4 at0 = (e0, d0, σ (300 + 27)) := by
      unfold mv_t
      rw [t206, t207, if_pos rfl, if_pos rfl, e4]
    have hins := ml_ins (σ := σ) (τ := σ4) ha (by rw [q205, c2]) (fun t ht => by rw [hv1 t (by omega)]; exact h3 t (by omega)) hv2 (fun t h5 h6 => by rw [hv1 t (by omega)]; exact h4 t h5 h6)
    refine hret _ _ _ _ _ dm_Model_insert_75 ⟨w4, ?_, ⟨by rw [q205, c2], fun j hj => by rw [q205]; exact j2 j hj⟩, fun a ha9 => ?_⟩ hW
    · rw [hins]
      refine pi_in_at _ _ _ (by rw [ml_v_len]; exact ha) (fun t p ht hp => ?_) (fun p hp => ?_)
      · rw [ml_v_at σ (by omega)] at hp
        rw [← Option.some.inj hp]
        exact h1 t ht
      · have h7 : at0 < σ 205 1 := by
          have := (List.getElem?_eq_some_iff.mp hp).1
          rwa [ml_v_len] at this
        rw [ml_v_at σ h7] at hp
        rw [← Option.some.inj hp]
        exact h2 h7
    · have n206 : a ≠ 206 := fun z => ha9 (by rw [z]; decide +kernel)
      have n207 : a ≠ 207 := fun z => ha9 (by rw [z]; decide +kernel)
      have nrow : a ≠ 300 + (8 + at0) := fun z => ha9 (by rw [z]; exact List.mem_append_right _ (mp_in (by omega)))
      rw [s4 a (by simp only [List.mem_singleton]; exact nrow), st_up_row n207, st_up_row n206]
      exact s2 a ha9
  have loop : ∀ n i, i + n = σ 205 1 → (∀ t, t < i → σ 206 t ≤ e0) → ∀ (ls : Array Slot) (H : Heap) (locs : List Loc), lv_has ls 4 [(3, .int (nI (i))), (0, .ref (g (149))), (1, .int (nI (e0))), (2, .int (nI (d0)))] → pw_H D cl_s A s.heap g 153 (en_s k g (σ)) H locs → W p l e rm_Model_insert s m args below meth c H locs 0 0 Q (F0 m 2 ls []) := by
    intro n
    induction n with
    | zero =>
      intro i hi h1 ls H locs hl hW
      refine lv_iload_n hx hb dm_Model_insert_2 rfl (lv_at hl 0 rfl) ?_
      refine lv_aload_n hx hb dm_Model_insert_3 rfl (lv_at hl 1 rfl) ?_
      refine md_parts S hW (wa_in 563 (by decide +kernel) rfl) dm_Model_insert_4 ?_
      refine wi_icmp_ge (tgt := 46) S (nn_T (by omega)) (nn_T (by omega)) dm_Model_insert_7 (by decide) (fun hc => ?_) (fun hc => ?_)
      · exact fin i (by omega) h1 (fun h => by omega) ls H locs hl hW
      · exfalso
        omega
    | succ n ih =>
      intro i hi h1 ls H locs hl hW
      refine lv_iload_n hx hb dm_Model_insert_2 rfl (lv_at hl 0 rfl) ?_
      refine lv_aload_n hx hb dm_Model_insert_3 rfl (lv_at hl 1 rfl) ?_
      refine md_parts S hW (wa_in 563 (by decide +kernel) rfl) dm_Model_insert_4 ?_
      refine wi_icmp_ge (tgt := 46) S (nn_T (by omega)) (nn_T (by omega)) dm_Model_insert_7 (by decide) (fun hc => ?_) (fun hc => ?_)
      · exfalso
        omega
      · obtain ⟨o1, o2⟩ := hof i (by omega)
        have hJi := hJ i (by omega)
        refine lv_aload_n hx hb dm_Model_insert_10 rfl (lv_at hl 1 rfl) ?_
        refine md_often S hW (wa_in 564 (by decide +kernel) rfl) dm_Model_insert_11 ?_
        refine lv_iload_n hx hb dm_Model_insert_14 rfl (lv_at hl 0 rfl) ?_
        refine mo_ald S hW (by omega) dm_Model_insert_15 ?_
        refine lv_iload_n hx hb dm_Model_insert_16 rfl (lv_at hl 2 rfl) ?_
        refine wi_icmp_lt (tgt := 40) S (nn_T (by omega)) (nn_T (by omega)) dm_Model_insert_17 (by decide) (fun hc => ?_) (fun hc => ?_)
        · refine lv_iinc (k := 0) (v := nI (i + 1)) hx hb dm_Model_insert_40 hl rfl (by rw [show Int32.ofInt 1 = nI 1 from rfl, nI_add]) (by decide) rfl (fun ls hl => ?_)
          have hl : lv_has ls 4 [(3, .int (nI (i + 1))), (0, .ref (g (149))), (1, .int (nI (e0))), (2, .int (nI (d0)))] := hl
          refine lv_goto (tgt := 2) hx hb dm_Model_insert_43 (by decide) ?_
          exact ih (i + 1) (by omega) (fun t ht => by by_cases h9 : t = i; rw [h9]; omega; exact h1 t (by omega)) ls H locs hl hW
        · refine lv_aload_n hx hb dm_Model_insert_20 rfl (lv_at hl 1 rfl) ?_
          refine md_often S hW (wa_in 564 (by decide +kernel) rfl) dm_Model_insert_21 ?_
          refine lv_iload_n hx hb dm_Model_insert_24 rfl (lv_at hl 0 rfl) ?_
          refine mo_ald S hW (by omega) dm_Model_insert_25 ?_
          refine lv_iload_n hx hb dm_Model_insert_26 rfl (lv_at hl 2 rfl) ?_
          refine wi_icmp_ne (tgt := 46) S (nn_T (by omega)) (nn_T (by omega)) dm_Model_insert_27 (by decide) (fun hc => ?_) (fun hc => ?_)
          · exact fin i (by omega) h1 (fun _ => by omega) ls H locs hl hW
          · refine lv_aload_n hx hb dm_Model_insert_30 rfl (lv_at hl 1 rfl) ?_
            refine md_degrees S hW (wa_in 565 (by decide +kernel) rfl) dm_Model_insert_31 ?_
            refine lv_iload_n hx hb dm_Model_insert_34 rfl (lv_at hl 0 rfl) ?_
            refine md_ald S hW (by omega) dm_Model_insert_35 ?_
            refine lv_iload_n hx hb dm_Model_insert_36 rfl (lv_at hl 3 rfl) ?_
            refine wi_icmp_ge (tgt := 46) S (nn_T (by omega)) (nn_T (by omega)) dm_Model_insert_37 (by decide) (fun hc => ?_) (fun hc => ?_)
            · exfalso
              omega
            · refine lv_iinc (k := 0) (v := nI (i + 1)) hx hb dm_Model_insert_40 hl rfl (by rw [show Int32.ofInt 1 = nI 1 from rfl, nI_add]) (by decide) rfl (fun ls hl => ?_)
              have hl : lv_has ls 4 [(3, .int (nI (i + 1))), (0, .ref (g (149))), (1, .int (nI (e0))), (2, .int (nI (d0)))] := hl
              refine lv_goto (tgt := 2) hx hb dm_Model_insert_43 (by decide) ?_
              exact ih (i + 1) (by omega) (fun t ht => by by_cases h9 : t = i; rw [h9]; omega; exact h1 t (by omega)) ls H locs hl hW
  exact loop (σ 205 1) 0 (by omega) (fun t ht => by omega) ls _ _ hl hW
