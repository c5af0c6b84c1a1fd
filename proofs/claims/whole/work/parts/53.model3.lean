/-! The reference: products modulo, common, powers, chains -/
theorem sh_l {i : Nat} (h : i < 63) : (((nI i).toInt64 &&& 63).toBitVec.smod 64).toNat = i := (by decide +kernel : ∀ i, i < 63 → (((nI i).toInt64 &&& 63).toBitVec.smod 64).toNat = i) i h
theorem ag_pwd {β : Type} [Lean.Grind.CommRing β] (z : β) (e n : Nat) : (z ^ (e / 2 ^ (n + 1)) * z ^ (e / 2 ^ (n + 1))) * z ^ (e / 2 ^ n % 2) = z ^ (e / 2 ^ n) := by
  rw [← Lean.Grind.Semiring.pow_add, ← Lean.Grind.Semiring.pow_add, Nat.pow_succ, ← Nat.div_div_eq_div_mul]
  congr 1
  omega
theorem pz_pwd (z : pz_T) (e n : Nat) : pz_ml (pz_ml (pz_pw z (e / 2 ^ (n + 1))) (pz_pw z (e / 2 ^ (n + 1)))) (pz_pw z (e / 2 ^ n % 2)) = pz_pw z (e / 2 ^ n) := @ag_pwd pz_T pz_R z e n
theorem dm_Model_timesBy_0 : decode bm_Model_timesBy 0 = .ok (.aload_n 0, 1) := by decide +kernel
theorem dm_Model_timesBy_1 : decode bm_Model_timesBy 1 = .ok (.iload_n 1, 1) := by decide +kernel
theorem dm_Model_timesBy_2 : decode bm_Model_timesBy 2 = .ok (.iload_n 2, 1) := by decide +kernel
theorem dm_Model_timesBy_3 : decode bm_Model_timesBy 3 = .ok (.invokevirtual 49, 3) := by decide +kernel
theorem dm_Model_timesBy_6 : decode bm_Model_timesBy 6 = .ok (.aload_n 0, 1) := by decide +kernel
theorem dm_Model_timesBy_7 : decode bm_Model_timesBy 7 = .ok (.bipush 31, 2) := by decide +kernel
theorem dm_Model_timesBy_9 : decode bm_Model_timesBy 9 = .ok (.iload_n 3, 1) := by decide +kernel
theorem dm_Model_timesBy_10 : decode bm_Model_timesBy 10 = .ok (.invokevirtual 52, 3) := by decide +kernel
theorem dm_Model_timesBy_13 : decode bm_Model_timesBy 13 = .ok (.aload_n 0, 1) := by decide +kernel
theorem dm_Model_timesBy_14 : decode bm_Model_timesBy 14 = .ok (.bipush 31, 2) := by decide +kernel
theorem dm_Model_timesBy_16 : decode bm_Model_timesBy 16 = .ok (.iload_n 1, 1) := by decide +kernel
theorem dm_Model_timesBy_17 : decode bm_Model_timesBy 17 = .ok (.invokevirtual 55, 3) := by decide +kernel
theorem dm_Model_timesBy_20 : decode bm_Model_timesBy 20 = .ok (.return_, 1) := by decide +kernel
set_option maxHeartbeats 4000000 in
set_option maxRecDepth 100000 in
theorem mm_Model_timesBy (l : Launch) (D : va_G) (k : ClassId × ClassId × ClassId) (g : Nat → Nat) (σ : st_T) {P a b m0 : Nat} (hw : md_wf P σ) (hP : ag_pr P) (hP31 : P < 2147483648) (ha : a < 33) (hb0 : b < 33) (hm : m0 < 33) (ha31 : a ≠ 31) (hb31 : b ≠ 31) (hm31 : m0 ≠ 31) (hm32 : m0 ≠ 32) (hsz : sp_sz (σ (300 + a)) 31 + sp_sz (σ (300 + b)) 31 ≤ 32) (hms : 0 < sp_sz (σ (300 + m0)) 31) : mt_V l D k g ym_Model_timesBy wm_Model_timesBy rm_Model_timesBy [.ref (g 149), .int (nI a), .int (nI b), .int (nI m0)] σ (fun σ1 => md_wf P σ1 ∧ σ1 (300 + a) = sp_rest P (sp_mul P (σ (300 + a)) (σ (300 + b))) (σ (300 + m0)) ∧ md_sm [300 + a, 300 + 31, 300 + 32] σ σ1) := by
  refine ct_V_in (cc := bm_Model_timesBy) (maxL := 4) (by decide) rfl (Nat.le_of_ble_eq_true rfl) ?_
  intro p e s m args below meth c A ls Q S hl hW hret
  have S : pw_S p m c bm_Model_timesBy 4 s args wa_g rc_Model D cl_s (ty_s k) := S
  have hx := S.1.1
  have hb := S.1.2.1
  have hl : lv_has ls 4 [(0, .ref (g (149))), (1, .int (nI (a))), (2, .int (nI (b))), (3, .int (nI (m0)))] := hl
  have hP2 := hP.1
  refine lv_aload_n hx hb dm_Model_timesBy_0 rfl (lv_at hl 0 rfl) ?_
  refine lv_iload_n hx hb dm_Model_timesBy_1 rfl (lv_at hl 1 rfl) ?_
  refine lv_iload_n hx hb dm_Model_timesBy_2 rfl (lv_at hl 2 rfl) ?_
  refine pw_callV (rest := []) S hW (mm_Model_product2 l D k g σ hw (by omega) hP31 (a := a) (b := b) (by omega) (by omega) (by omega) (by omega) (by omega)) (cv_Model_49 S.1.2.2.2.2 ⟨by decide, by decide⟩) (by decide) en_Model rfl rfl hl.1 rfl (lv_room (Nat.le_of_ble_eq_true rfl)) ⟨Nat.zero_le _, Nat.zero_le _⟩ dm_Model_timesBy_3 (fun σ2 H locs hp2 hW => ?_)
  obtain ⟨w2, e2, s2⟩ := hp2
  have k2_a : σ2 (300 + (a)) = σ (300 + (a)) := by rw [s2 _ (by simp only [List.mem_cons, List.not_mem_nil, or_false]; omega)]
  have k2_b : σ2 (300 + (b)) = σ (300 + (b)) := by rw [s2 _ (by simp only [List.mem_cons, List.not_mem_nil, or_false]; omega)]
  have k2_m0 : σ2 (300 + (m0)) = σ (300 + (m0)) := by rw [s2 _ (by simp only [List.mem_cons, List.not_mem_nil, or_false]; omega)]
  have k2_31 : σ2 (300 + (31)) = sp_mul P (σ (300 + (a))) (σ (300 + (b))) := by rw [e2]
  refine lv_aload_n hx hb dm_Model_timesBy_6 rfl (lv_at hl 0 rfl) ?_
  refine lv_bipush (v := nI (31)) hx hb dm_Model_timesBy_7 (by decide) ?_
  refine lv_iload_n hx hb dm_Model_timesBy_9 rfl (lv_at hl 3 rfl) ?_
  refine pw_callV (rest := []) S hW (mm_Model_rest l D k g σ2 w2 hP hP31 (a := 31) (b := m0) (by omega) (by omega) (by omega) (by omega) (by omega) (by rw [k2_m0]; omega)) (cv_Model_52 S.1.2.2.2.2 ⟨by decide, by decide⟩) (by decide) en_Model rfl rfl hl.1 rfl (lv_room (Nat.le_of_ble_eq_true rfl)) ⟨Nat.zero_le _, Nat.zero_le _⟩ dm_Model_timesBy_10 (fun σ3 H locs hp3 hW => ?_)
  obtain ⟨w3, e3, s3⟩ := hp3
  have k3_m0 : σ3 (300 + (m0)) = σ (300 + (m0)) := by rw [s3 _ (by simp only [List.mem_cons, List.not_mem_nil, or_false]; omega)]; exact k2_m0
  have k3_31 : σ3 (300 + (31)) = sp_rest P (sp_mul P (σ (300 + (a))) (σ (300 + (b)))) (σ (300 + (m0))) := by rw [e3.1, k2_31, k2_m0]
  have k3_32 : σ3 (300 + (32)) = sp_quo P (sp_mul P (σ (300 + (a))) (σ (300 + (b)))) (σ (300 + (m0))) := by rw [e3.2, k2_31, k2_m0]
  have m3 : md_sm [300 + (31), 300 + (32)] σ σ3 := md_sm_tr s2 s3 (by intro x9 hx9; simp only [List.mem_cons, List.not_mem_nil, or_false] at hx9 ⊢; omega) (by intro x9 hx9; simp only [List.mem_cons, List.not_mem_nil, or_false] at hx9 ⊢; omega)
  refine lv_aload_n hx hb dm_Model_timesBy_13 rfl (lv_at hl 0 rfl) ?_
  refine lv_bipush (v := nI (31)) hx hb dm_Model_timesBy_14 (by decide) ?_
  refine lv_iload_n hx hb dm_Model_timesBy_16 rfl (lv_at hl 1 rfl) ?_
  refine pw_callV (rest := []) S hW (mm_Model_copy l D k g σ3 w3 (a := 31) (b := a) (by omega) (by omega)) (cv_Model_55 S.1.2.2.2.2 ⟨by decide, by decide⟩) (by decide) en_Model rfl rfl hl.1 rfl (lv_room (Nat.le_of_ble_eq_true rfl)) ⟨Nat.zero_le _, Nat.zero_le _⟩ dm_Model_timesBy_17 (fun σ4 H locs hp4 hW => ?_)
  obtain ⟨w4, e4, s4⟩ := hp4
  have k4_31 : σ4 (300 + (31)) = sp_rest P (sp_mul P (σ (300 + (a))) (σ (300 + (b)))) (σ (300 + (m0))) := by rw [s4 _ (by simp only [List.mem_cons, List.not_mem_nil, or_false]; omega)]; exact k3_31
  have k4_a : σ4 (300 + (a)) = sp_rest P (sp_mul P (σ (300 + (a))) (σ (300 + (b)))) (σ (300 + (m0))) := by rw [e4, k3_31]
  have m4 : md_sm [300 + (31), 300 + (32), 300 + (a)] σ σ4 := md_sm_tr m3 s4 (by intro x9 hx9; simp only [List.mem_cons, List.not_mem_nil, or_false] at hx9 ⊢; omega) (by intro x9 hx9; simp only [List.mem_cons, List.not_mem_nil, or_false] at hx9 ⊢; omega)
  exact hret _ _ _ _ _ dm_Model_timesBy_20 ⟨w4, k4_a, md_sm_mo m4 (by intro x9 hx9; simp only [List.mem_cons, List.not_mem_nil, or_false] at hx9 ⊢; omega)⟩ hW
theorem dm_Model_commonOf_0 : decode bm_Model_commonOf 0 = .ok (.aload_n 0, 1) := by decide +kernel
theorem dm_Model_commonOf_1 : decode bm_Model_commonOf 1 = .ok (.iload_n 1, 1) := by decide +kernel
theorem dm_Model_commonOf_2 : decode bm_Model_commonOf 2 = .ok (.bipush 30, 2) := by decide +kernel
theorem dm_Model_commonOf_4 : decode bm_Model_commonOf 4 = .ok (.invokevirtual 55, 3) := by decide +kernel
theorem dm_Model_commonOf_7 : decode bm_Model_commonOf 7 = .ok (.aload_n 0, 1) := by decide +kernel
theorem dm_Model_commonOf_8 : decode bm_Model_commonOf 8 = .ok (.iload_n 2, 1) := by decide +kernel
theorem dm_Model_commonOf_9 : decode bm_Model_commonOf 9 = .ok (.bipush 29, 2) := by decide +kernel
theorem dm_Model_commonOf_11 : decode bm_Model_commonOf 11 = .ok (.invokevirtual 55, 3) := by decide +kernel
theorem dm_Model_commonOf_14 : decode bm_Model_commonOf 14 = .ok (.aload_n 0, 1) := by decide +kernel
theorem dm_Model_commonOf_15 : decode bm_Model_commonOf 15 = .ok (.bipush 29, 2) := by decide +kernel
theorem dm_Model_commonOf_17 : decode bm_Model_commonOf 17 = .ok (.invokevirtual 42, 3) := by decide +kernel
theorem dm_Model_commonOf_20 : decode bm_Model_commonOf 20 = .ok (.ifCond .lt 38, 3) := by decide +kernel
theorem dm_Model_commonOf_23 : decode bm_Model_commonOf 23 = .ok (.aload_n 0, 1) := by decide +kernel
theorem dm_Model_commonOf_24 : decode bm_Model_commonOf 24 = .ok (.bipush 30, 2) := by decide +kernel
theorem dm_Model_commonOf_26 : decode bm_Model_commonOf 26 = .ok (.bipush 29, 2) := by decide +kernel
theorem dm_Model_commonOf_28 : decode bm_Model_commonOf 28 = .ok (.invokevirtual 52, 3) := by decide +kernel
theorem dm_Model_commonOf_31 : decode bm_Model_commonOf 31 = .ok (.aload_n 0, 1) := by decide +kernel
theorem dm_Model_commonOf_32 : decode bm_Model_commonOf 32 = .ok (.bipush 30, 2) := by decide +kernel
theorem dm_Model_commonOf_34 : decode bm_Model_commonOf 34 = .ok (.bipush 31, 2) := by decide +kernel
theorem dm_Model_commonOf_36 : decode bm_Model_commonOf 36 = .ok (.invokevirtual 55, 3) := by decide +kernel
theorem dm_Model_commonOf_39 : decode bm_Model_commonOf 39 = .ok (.aload_n 0, 1) := by decide +kernel
theorem dm_Model_commonOf_40 : decode bm_Model_commonOf 40 = .ok (.bipush 29, 2) := by decide +kernel
theorem dm_Model_commonOf_42 : decode bm_Model_commonOf 42 = .ok (.bipush 30, 2) := by decide +kernel
theorem dm_Model_commonOf_44 : decode bm_Model_commonOf 44 = .ok (.invokevirtual 55, 3) := by decide +kernel
theorem dm_Model_commonOf_47 : decode bm_Model_commonOf 47 = .ok (.aload_n 0, 1) := by decide +kernel
theorem dm_Model_commonOf_48 : decode bm_Model_commonOf 48 = .ok (.bipush 31, 2) := by decide +kernel
theorem dm_Model_commonOf_50 : decode bm_Model_commonOf 50 = .ok (.bipush 29, 2) := by decide +kernel
theorem dm_Model_commonOf_52 : decode bm_Model_commonOf 52 = .ok (.invokevirtual 55, 3) := by decide +kernel
theorem dm_Model_commonOf_55 : decode bm_Model_commonOf 55 = .ok (.goto (-41), 3) := by decide +kernel
theorem dm_Model_commonOf_58 : decode bm_Model_commonOf 58 = .ok (.aload_n 0, 1) := by decide +kernel
theorem dm_Model_commonOf_59 : decode bm_Model_commonOf 59 = .ok (.bipush 30, 2) := by decide +kernel
theorem dm_Model_commonOf_61 : decode bm_Model_commonOf 61 = .ok (.invokevirtual 58, 3) := by decide +kernel
theorem dm_Model_commonOf_64 : decode bm_Model_commonOf 64 = .ok (.return_, 1) := by decide +kernel
set_option maxHeartbeats 4000000 in
set_option maxRecDepth 100000 in
theorem mm_Model_commonOf (l : Launch) (D : va_G) (k : ClassId × ClassId × ClassId) (g : Nat → Nat) (σ : st_T) {P a b : Nat} (hw : md_wf P σ) (hP : ag_pr P) (hP31 : P < 2147483648) (ha : a < 33) (hb0 : b < 33) (hb30 : b ≠ 30) : mt_V l D k g ym_Model_commonOf wm_Model_commonOf rm_Model_commonOf [.ref (g 149), .int (nI a), .int (nI b)] σ (fun σ1 => md_wf P σ1 ∧ σ1 (300 + 30) = sp_gcd P (σ (300 + a)) (σ (300 + b)) ∧ md_sm [300 + 29, 300 + 30, 300 + 31, 300 + 32] σ σ1) := by
  refine ct_V_in (cc := bm_Model_commonOf) (maxL := 3) (by decide) rfl (Nat.le_of_ble_eq_true rfl) ?_
  intro p e s m args below meth c A ls Q S hl hW hret
  have S : pw_S p m c bm_Model_commonOf 3 s args wa_g rc_Model D cl_s (ty_s k) := S
  have hx := S.1.1
  have hb := S.1.2.1
  have hl : lv_has ls 3 [(0, .ref (g (149))), (1, .int (nI (a))), (2, .int (nI (b)))] := hl
  have hP2 := hP.1
  refine lv_aload_n hx hb dm_Model_commonOf_0 rfl (lv_at hl 0 rfl) ?_
  refine lv_iload_n hx hb dm_Model_commonOf_1 rfl (lv_at hl 1 rfl) ?_
  refine lv_bipush (v := nI (30)) hx hb dm_Model_commonOf_2 (by decide) ?_
  refine pw_callV (rest := []) S hW (mm_Model_copy l D k g σ hw (a := a) (b := 30) (by omega) (by omega)) (cv_Model_55 S.1.2.2.2.2 ⟨by decide, by decide⟩) (by decide) en_Model rfl rfl hl.1 rfl (lv_room (Nat.le_of_ble_eq_true rfl)) ⟨Nat.zero_le _, Nat.zero_le _⟩ dm_Model_commonOf_4 (fun σ2 H locs hp2 hW => ?_)
  obtain ⟨w2, e2, s2⟩ := hp2
  have k2_b : σ2 (300 + (b)) = σ (300 + (b)) := by rw [s2 _ (by simp only [List.mem_cons, List.not_mem_nil, or_false]; omega)]
  have k2_30 : σ2 (300 + (30)) = σ (300 + (a)) := by rw [e2]
  refine lv_aload_n hx hb dm_Model_commonOf_7 rfl (lv_at hl 0 rfl) ?_
  refine lv_iload_n hx hb dm_Model_commonOf_8 rfl (lv_at hl 2 rfl) ?_
  refine lv_bipush (v := nI (29)) hx hb dm_Model_commonOf_9 (by decide) ?_
  refine pw_callV (rest := []) S hW (mm_Model_copy l D k g σ2 w2 (a := b) (b := 29) (by omega) (by omega)) (cv_Model_55 S.1.2.2.2.2 ⟨by decide, by decide⟩) (by decide) en_Model rfl rfl hl.1 rfl (lv_room (Nat.le_of_ble_eq_true rfl)) ⟨Nat.zero_le _, Nat.zero_le _⟩ dm_Model_commonOf_11 (fun σ3 H locs hp3 hW => ?_)
  obtain ⟨w3, e3, s3⟩ := hp3
  have k3_30 : σ3 (300 + (30)) = σ (300 + (a)) := by rw [s3 _ (by simp only [List.mem_cons, List.not_mem_nil, or_false]; omega)]; exact k2_30
  have k3_29 : σ3 (300 + (29)) = σ (300 + (b)) := by rw [e3, k2_b]
  have m3 : md_sm [300 + (30), 300 + (29)] σ σ3 := md_sm_tr s2 s3 (by intro x9 hx9; simp only [List.mem_cons, List.not_mem_nil, or_false] at hx9 ⊢; omega) (by intro x9 hx9; simp only [List.mem_cons, List.not_mem_nil, or_false] at hx9 ⊢; omega)
  have loop : ∀ (q9 i : Nat) (τ : st_T), i + q9 ≤ 31 → sp_sz (τ (300 + 29)) 31 ≤ q9 → md_wf P τ → md_sm [300 + 29, 300 + 30, 300 + 31, 300 + 32] σ τ → sp_gl P (32 - i) (τ (300 + 30)) (τ (300 + 29)) = sp_gl P 32 (σ (300 + a)) (σ (300 + b)) → ∀ (ls : Array Slot) (H : Heap) (locs : List Loc), lv_has ls 3 [(0, .ref (g (149)))] → pw_H D cl_s A s.heap g 153 (en_s k g (τ)) H locs → W p l e rm_Model_commonOf s m args below meth c H locs 0 0 Q (F0 m 14 ls []) := by
    intro q9
    induction q9 with
    | zero =>
      intro i τ hi hsz wτ sτ hgl ls H locs hl hW
      have hgs : ∀ F E : Nat → Nat, sp_gl P (32 - i) F E = if sp_sz E 31 = 0 then F else sp_gl P (32 - (i + 1)) E (sp_rest P F E) := fun F E => by
        rw [show 32 - i = 32 - (i + 1) + 1 by omega]
        rfl
      refine lv_aload_n hx hb dm_Model_commonOf_14 rfl (lv_at hl 0 rfl) ?_
      refine lv_bipush (v := nI (29)) hx hb dm_Model_commonOf_15 (by decide) ?_
      refine pw_callVI (rest := []) S hW (mm_Model_degree l D k g τ (s0 := 29) (P := P) (by omega) (wτ.2 (29) (by omega)) hP31) (cv_Model_42 S.1.2.2.2.2 ⟨by decide, by decide⟩) (by decide) en_Model rfl rfl hl.1 rfl (lv_room (Nat.le_of_ble_eq_true rfl)) ⟨Nat.zero_le _, Nat.zero_le _⟩ dm_Model_commonOf_17 (fun r σ1 H locs hp hW => ?_)
      obtain ⟨hr, hp⟩ := hp
      rw [hp] at hW
      subst hr
      refine wi_if_lt (tgt := 58) S (sd_T (by omega)) dm_Model_commonOf_20 (by decide) (fun hc => ?_) (fun hc => ?_)
      · rw [hgs, if_pos (by omega)] at hgl
        refine lv_aload_n hx hb dm_Model_commonOf_58 rfl (lv_at hl 0 rfl) ?_
        refine lv_bipush (v := nI (30)) hx hb dm_Model_commonOf_59 (by decide) ?_
        refine pw_callV (rest := []) S hW (mm_Model_monic l D k g τ wτ hP hP31 (s0 := 30) (by omega)) (cv_Model_58 S.1.2.2.2.2 ⟨by decide, by decide⟩) (by decide) en_Model rfl rfl hl.1 rfl (lv_room (Nat.le_of_ble_eq_true rfl)) ⟨Nat.zero_le _, Nat.zero_le _⟩ dm_Model_commonOf_61 (fun σ4 H locs hp4 hW => ?_)
        obtain ⟨w4, e4, s4⟩ := hp4
        have k4_29 : σ4 (300 + (29)) = τ (300 + 29) := by rw [s4 _ (by simp only [List.mem_cons, List.not_mem_nil, or_false]; omega)]
        have k4_30 : σ4 (300 + (30)) = sp_mon P (τ (300 + 30)) := by rw [e4]
        exact hret _ _ _ _ _ dm_Model_commonOf_64 ⟨w4, by rw [k4_30, hgl]; rfl, md_sm_tr sτ s4 (fun _ h => h) (by intro x9 hx9; simp only [List.mem_cons, List.not_mem_nil, or_false] at hx9 ⊢; omega)⟩ hW
      · exfalso
        omega
    | succ q9 ih =>
      intro i τ hi hsz wτ sτ hgl ls H locs hl hW
      have hgs : ∀ F E : Nat → Nat, sp_gl P (32 - i) F E = if sp_sz E 31 = 0 then F else sp_gl P (32 - (i + 1)) E (sp_rest P F E) := fun F E => by
        rw [show 32 - i = 32 - (i + 1) + 1 by omega]
        rfl
      refine lv_aload_n hx hb dm_Model_commonOf_14 rfl (lv_at hl 0 rfl) ?_
      refine lv_bipush (v := nI (29)) hx hb dm_Model_commonOf_15 (by decide) ?_
      refine pw_callVI (rest := []) S hW (mm_Model_degree l D k g τ (s0 := 29) (P := P) (by omega) (wτ.2 (29) (by omega)) hP31) (cv_Model_42 S.1.2.2.2.2 ⟨by decide, by decide⟩) (by decide) en_Model rfl rfl hl.1 rfl (lv_room (Nat.le_of_ble_eq_true rfl)) ⟨Nat.zero_le _, Nat.zero_le _⟩ dm_Model_commonOf_17 (fun r σ1 H locs hp hW => ?_)
      obtain ⟨hr, hp⟩ := hp
      rw [hp] at hW
      subst hr
      refine wi_if_lt (tgt := 58) S (sd_T (by omega)) dm_Model_commonOf_20 (by decide) (fun hc => ?_) (fun hc => ?_)
      · rw [hgs, if_pos (by omega)] at hgl
        refine lv_aload_n hx hb dm_Model_commonOf_58 rfl (lv_at hl 0 rfl) ?_
        refine lv_bipush (v := nI (30)) hx hb dm_Model_commonOf_59 (by decide) ?_
        refine pw_callV (rest := []) S hW (mm_Model_monic l D k g τ wτ hP hP31 (s0 := 30) (by omega)) (cv_Model_58 S.1.2.2.2.2 ⟨by decide, by decide⟩) (by decide) en_Model rfl rfl hl.1 rfl (lv_room (Nat.le_of_ble_eq_true rfl)) ⟨Nat.zero_le _, Nat.zero_le _⟩ dm_Model_commonOf_61 (fun σ4 H locs hp4 hW => ?_)
        obtain ⟨w4, e4, s4⟩ := hp4
        have k4_29 : σ4 (300 + (29)) = τ (300 + 29) := by rw [s4 _ (by simp only [List.mem_cons, List.not_mem_nil, or_false]; omega)]
        have k4_30 : σ4 (300 + (30)) = sp_mon P (τ (300 + 30)) := by rw [e4]
        exact hret _ _ _ _ _ dm_Model_commonOf_64 ⟨w4, by rw [k4_30, hgl]; rfl, md_sm_tr sτ s4 (fun _ h => h) (by intro x9 hx9; simp only [List.mem_cons, List.not_mem_nil, or_false] at hx9 ⊢; omega)⟩ hW
      · rw [hgs, if_neg (by omega)] at hgl
        have hdv := sp_dv_ok hP (wτ.2 30 (by omega)) (wτ.2 29 (by omega)) (by omega)
        refine lv_aload_n hx hb dm_Model_commonOf_23 rfl (lv_at hl 0 rfl) ?_
        refine lv_bipush (v := nI (30)) hx hb dm_Model_commonOf_24 (by decide) ?_
        refine lv_bipush (v := nI (29)) hx hb dm_Model_commonOf_26 (by decide) ?_
        refine pw_callV (rest := []) S hW (mm_Model_rest l D k g τ wτ hP hP31 (a := 30) (b := 29) (by omega) (by omega) (by omega) (by omega) (by omega) (by omega)) (cv_Model_52 S.1.2.2.2.2 ⟨by decide, by decide⟩) (by decide) en_Model rfl rfl hl.1 rfl (lv_room (Nat.le_of_ble_eq_true rfl)) ⟨Nat.zero_le _, Nat.zero_le _⟩ dm_Model_commonOf_28 (fun σ4 H locs hp4 hW => ?_)
        obtain ⟨w4, e4, s4⟩ := hp4
        have k4_29 : σ4 (300 + (29)) = τ (300 + 29) := by rw [s4 _ (by simp only [List.mem_cons, List.not_mem_nil, or_false]; omega)]
        have k4_30 : σ4 (300 + (30)) = sp_rest P (τ (300 + 30)) (τ (300 + 29)) := by rw [e4.1]
        have k4_32 : σ4 (300 + (32)) = sp_quo P (τ (300 + 30)) (τ (300 + 29)) := by rw [e4.2]
        refine lv_aload_n hx hb dm_Model_commonOf_31 rfl (lv_at hl 0 rfl) ?_
        refine lv_bipush (v := nI (30)) hx hb dm_Model_commonOf_32 (by decide) ?_
        refine lv_bipush (v := nI (31)) hx hb dm_Model_commonOf_34 (by decide) ?_
        refine pw_callV (rest := []) S hW (mm_Model_copy l D k g σ4 w4 (a := 30) (b := 31) (by omega) (by omega)) (cv_Model_55 S.1.2.2.2.2 ⟨by decide, by decide⟩) (by decide) en_Model rfl rfl hl.1 rfl (lv_room (Nat.le_of_ble_eq_true rfl)) ⟨Nat.zero_le _, Nat.zero_le _⟩ dm_Model_commonOf_36 (fun σ5 H locs hp5 hW => ?_)
        obtain ⟨w5, e5, s5⟩ := hp5
        have k5_29 : σ5 (300 + (29)) = τ (300 + 29) := by rw [s5 _ (by simp only [List.mem_cons, List.not_mem_nil, or_false]; omega)]; exact k4_29
        have k5_30 : σ5 (300 + (30)) = sp_rest P (τ (300 + 30)) (τ (300 + 29)) := by rw [s5 _ (by simp only [List.mem_cons, List.not_mem_nil, or_false]; omega)]; exact k4_30
        have k5_32 : σ5 (300 + (32)) = sp_quo P (τ (300 + 30)) (τ (300 + 29)) := by rw [s5 _ (by simp only [List.mem_cons, List.not_mem_nil, or_false]; omega)]; exact k4_32
        have k5_31 : σ5 (300 + (31)) = sp_rest P (τ (300 + 30)) (τ (300 + 29)) := by rw [e5, k4_30]
        have m5 : md_sm [300 + (30), 300 + (32), 300 + (31)] τ σ5 := md_sm_tr s4 s5 (by intro x9 hx9; simp only [List.mem_cons, List.not_mem_nil, or_false] at hx9 ⊢; omega) (by intro x9 hx9; simp only [List.mem_cons, List.not_mem_nil, or_false] at hx9 ⊢; omega)
        refine lv_aload_n hx hb dm_Model_commonOf_39 rfl (lv_at hl 0 rfl) ?_
        refine lv_bipush (v := nI (29)) hx hb dm_Model_commonOf_40 (by decide) ?_
        refine lv_bipush (v := nI (30)) hx hb dm_Model_commonOf_42 (by decide) ?_
        refine pw_callV (rest := []) S hW (mm_Model_copy l D k g σ5 w5 (a := 29) (b := 30) (by omega) (by omega)) (cv_Model_55 S.1.2.2.2.2 ⟨by decide, by decide⟩) (by decide) en_Model rfl rfl hl.1 rfl (lv_room (Nat.le_of_ble_eq_true rfl)) ⟨Nat.zero_le _, Nat.zero_le _⟩ dm_Model_commonOf_44 (fun σ6 H locs hp6 hW => ?_)
        obtain ⟨w6, e6, s6⟩ := hp6
        have k6_29 : σ6 (300 + (29)) = τ (300 + 29) := by rw [s6 _ (by simp only [List.mem_cons, List.not_mem_nil, or_false]; omega)]; exact k5_29
        have k6_32 : σ6 (300 + (32)) = sp_quo P (τ (300 + 30)) (τ (300 + 29)) := by rw [s6 _ (by simp only [List.mem_cons, List.not_mem_nil, or_false]; omega)]; exact k5_32
        have k6_31 : σ6 (300 + (31)) = sp_rest P (τ (300 + 30)) (τ (300 + 29)) := by rw [s6 _ (by simp only [List.mem_cons, List.not_mem_nil, or_false]; omega)]; exact k5_31
        have k6_30 : σ6 (300 + (30)) = τ (300 + 29) := by rw [e6, k5_29]
        have m6 : md_sm [300 + (30), 300 + (32), 300 + (31)] τ σ6 := md_sm_tr m5 s6 (by intro x9 hx9; simp only [List.mem_cons, List.not_mem_nil, or_false] at hx9 ⊢; omega) (by intro x9 hx9; simp only [List.mem_cons, List.not_mem_nil, or_false] at hx9 ⊢; omega)
        refine lv_aload_n hx hb dm_Model_commonOf_47 rfl (lv_at hl 0 rfl) ?_
        refine lv_bipush (v := nI (31)) hx hb dm_Model_commonOf_48 (by decide) ?_
        refine lv_bipush (v := nI (29)) hx hb dm_Model_commonOf_50 (by decide) ?_
        refine pw_callV (rest := []) S hW (mm_Model_copy l D k g σ6 w6 (a := 31) (b := 29) (by omega) (by omega)) (cv_Model_55 S.1.2.2.2.2 ⟨by decide, by decide⟩) (by decide) en_Model rfl rfl hl.1 rfl (lv_room (Nat.le_of_ble_eq_true rfl)) ⟨Nat.zero_le _, Nat.zero_le _⟩ dm_Model_commonOf_52 (fun σ7 H locs hp7 hW => ?_)
        obtain ⟨w7, e7, s7⟩ := hp7
        have k7_32 : σ7 (300 + (32)) = sp_quo P (τ (300 + 30)) (τ (300 + 29)) := by rw [s7 _ (by simp only [List.mem_cons, List.not_mem_nil, or_false]; omega)]; exact k6_32
        have k7_31 : σ7 (300 + (31)) = sp_rest P (τ (300 + 30)) (τ (300 + 29)) := by rw [s7 _ (by simp only [List.mem_cons, List.not_mem_nil, or_false]; omega)]; exact k6_31
        have k7_30 : σ7 (300 + (30)) = τ (300 + 29) := by rw [s7 _ (by simp only [List.mem_cons, List.not_mem_nil, or_false]; omega)]; exact k6_30
        have k7_29 : σ7 (300 + (29)) = sp_rest P (τ (300 + 30)) (τ (300 + 29)) := by rw [e7, k6_31]
        have m7 : md_sm [300 + (30), 300 + (32), 300 + (31), 300 + (29)] τ σ7 := md_sm_tr m6 s7 (by intro x9 hx9; simp only [List.mem_cons, List.not_mem_nil, or_false] at hx9 ⊢; omega) (by intro x9 hx9; simp only [List.mem_cons, List.not_mem_nil, or_false] at hx9 ⊢; omega)
        refine lv_goto (tgt := 14) hx hb dm_Model_commonOf_55 (by decide) ?_
        refine ih (i + 1) σ7 (by omega) ?_ w7 (md_sm_tr sτ m7 (fun _ h => h) (by intro x9 hx9; simp only [List.mem_cons, List.not_mem_nil, or_false] at hx9 ⊢; omega)) ?_ ls _ _ (lv_sub hl [0] rfl) hW
        · rw [k7_29]
          have := hdv.2.2.1
          omega
        · rw [k7_29, k7_30]
          exact hgl
  refine loop 31 0 σ3 (by omega) ?_ w3 (md_sm_mo m3 (by intro x9 hx9; simp only [List.mem_cons, List.not_mem_nil, or_false] at hx9 ⊢; omega)) ?_ ls _ _ (lv_sub hl [0] rfl) hW
  · exact sp_sz_le _ _
  · rw [k3_29, k3_30]
theorem dm_Model_power2_0 : decode bm_Model_power2 0 = .ok (.aload_n 0, 1) := by decide +kernel
theorem dm_Model_power2_1 : decode bm_Model_power2 1 = .ok (.bipush 28, 2) := by decide +kernel
theorem dm_Model_power2_3 : decode bm_Model_power2 3 = .ok (.iconst 1, 1) := by decide +kernel
theorem dm_Model_power2_4 : decode bm_Model_power2 4 = .ok (.invokevirtual 38, 3) := by decide +kernel
theorem dm_Model_power2_7 : decode bm_Model_power2 7 = .ok (.aload_n 0, 1) := by decide +kernel
theorem dm_Model_power2_8 : decode bm_Model_power2 8 = .ok (.bipush 28, 2) := by decide +kernel
theorem dm_Model_power2_10 : decode bm_Model_power2 10 = .ok (.iload 4, 2) := by decide +kernel
theorem dm_Model_power2_12 : decode bm_Model_power2 12 = .ok (.invokevirtual 52, 3) := by decide +kernel
theorem dm_Model_power2_15 : decode bm_Model_power2 15 = .ok (.bipush 62, 2) := by decide +kernel
theorem dm_Model_power2_17 : decode bm_Model_power2 17 = .ok (.istore 5, 2) := by decide +kernel
theorem dm_Model_power2_19 : decode bm_Model_power2 19 = .ok (.iload 5, 2) := by decide +kernel
theorem dm_Model_power2_21 : decode bm_Model_power2 21 = .ok (.ifCond .lt 39, 3) := by decide +kernel
theorem dm_Model_power2_24 : decode bm_Model_power2 24 = .ok (.aload_n 0, 1) := by decide +kernel
theorem dm_Model_power2_25 : decode bm_Model_power2 25 = .ok (.bipush 28, 2) := by decide +kernel
theorem dm_Model_power2_27 : decode bm_Model_power2 27 = .ok (.bipush 28, 2) := by decide +kernel
theorem dm_Model_power2_29 : decode bm_Model_power2 29 = .ok (.iload 4, 2) := by decide +kernel
theorem dm_Model_power2_31 : decode bm_Model_power2 31 = .ok (.invokevirtual 62, 3) := by decide +kernel
theorem dm_Model_power2_34 : decode bm_Model_power2 34 = .ok (.lload_n 2, 1) := by decide +kernel
theorem dm_Model_power2_35 : decode bm_Model_power2 35 = .ok (.iload 5, 2) := by decide +kernel
theorem dm_Model_power2_37 : decode bm_Model_power2 37 = .ok (.lshr, 1) := by decide +kernel
theorem dm_Model_power2_38 : decode bm_Model_power2 38 = .ok (.lconst 1, 1) := by decide +kernel
theorem dm_Model_power2_39 : decode bm_Model_power2 39 = .ok (.land, 1) := by decide +kernel
theorem dm_Model_power2_40 : decode bm_Model_power2 40 = .ok (.lconst 1, 1) := by decide +kernel
theorem dm_Model_power2_41 : decode bm_Model_power2 41 = .ok (.lcmp, 1) := by decide +kernel
theorem dm_Model_power2_42 : decode bm_Model_power2 42 = .ok (.ifCond .ne 12, 3) := by decide +kernel
theorem dm_Model_power2_45 : decode bm_Model_power2 45 = .ok (.aload_n 0, 1) := by decide +kernel
theorem dm_Model_power2_46 : decode bm_Model_power2 46 = .ok (.bipush 28, 2) := by decide +kernel
theorem dm_Model_power2_48 : decode bm_Model_power2 48 = .ok (.iload_n 1, 1) := by decide +kernel
theorem dm_Model_power2_49 : decode bm_Model_power2 49 = .ok (.iload 4, 2) := by decide +kernel
theorem dm_Model_power2_51 : decode bm_Model_power2 51 = .ok (.invokevirtual 62, 3) := by decide +kernel
theorem dm_Model_power2_54 : decode bm_Model_power2 54 = .ok (.iinc 5 (-1), 3) := by decide +kernel
theorem dm_Model_power2_57 : decode bm_Model_power2 57 = .ok (.goto (-38), 3) := by decide +kernel
theorem dm_Model_power2_60 : decode bm_Model_power2 60 = .ok (.return_, 1) := by decide +kernel
set_option maxHeartbeats 4000000 in
set_option maxRecDepth 100000 in
theorem mm_Model_power2 (l : Launch) (D : va_G) (k : ClassId × ClassId × ClassId) (g : Nat → Nat) (σ : st_T) {P a m0 n0 : Nat} (hw : md_wf P σ) (hP : ag_pr P) (hP31 : P < 2147483648) (ha : a < 33) (hm : m0 < 33) (ha28 : a ≠ 28) (ha31 : a ≠ 31) (ha32 : a ≠ 32) (hm28 : m0 ≠ 28) (hm31 : m0 ≠ 31) (hm32 : m0 ≠ 32) (hms : 0 < sp_sz (σ (300 + m0)) 31) (hm17 : sp_sz (σ (300 + m0)) 31 ≤ 17) (hsa : sp_sz (σ (300 + a)) 31 + sp_sz (σ (300 + m0)) 31 ≤ 33) (hn0 : n0 < 2 ^ 63) : mt_V l D k g ym_Model_power2 wm_Model_power2 rm_Model_power2 [.ref (g 149), .int (nI a), .long (lN n0), .int (nI m0)] σ (fun σ1 => md_wf P σ1 ∧ sp_is P (σ (300 + m0)) (σ1 (300 + 28)) (pz_pw (pe_f (σ (300 + a))) n0) ∧ md_sm [300 + 28, 300 + 31, 300 + 32] σ σ1) := by
  refine ct_V_in (cc := bm_Model_power2) (maxL := 6) (by decide) rfl (Nat.le_of_ble_eq_true rfl) ?_
  intro p e s m args below meth c A ls Q S hl hW hret
  have S : pw_S p m c bm_Model_power2 6 s args wa_g rc_Model D cl_s (ty_s k) := S
  have hx := S.1.1
  have hb := S.1.2.1
  have hl : lv_has ls 6 [(0, .ref (g (149))), (1, .int (nI (a))), (2, .long (lN (n0))), (4, .int (nI (m0)))] := hl
  have hP2 := hP.1
  have hmo := hw.2 m0 hm
  have hI := pz_I_ok P (pe_f (σ (300 + m0)))
  refine lv_aload_n hx hb dm_Model_power2_0 rfl (lv_at hl 0 rfl) ?_
  refine lv_bipush (v := nI (28)) hx hb dm_Model_power2_1 (by decide) ?_
  refine lv_iconst (v := nI (1)) hx hb dm_Model_power2_3 (by decide) ?_
  refine pw_callV (rest := []) S hW (mm_Model_number l D k g σ hw (s0 := 28) (v := 1) (by omega) (by omega)) (cv_Model_38 S.1.2.2.2.2 ⟨by decide, by decide⟩) (by decide) en_Model rfl rfl hl.1 rfl (lv_room (Nat.le_of_ble_eq_true rfl)) ⟨Nat.zero_le _, Nat.zero_le _⟩ dm_Model_power2_4 (fun σ2 H locs hp2 hW => ?_)
  obtain ⟨w2, e2, s2⟩ := hp2
  have k2_a : σ2 (300 + (a)) = σ (300 + (a)) := by rw [s2 _ (by simp only [List.mem_cons, List.not_mem_nil, or_false]; omega)]
  have k2_m0 : σ2 (300 + (m0)) = σ (300 + (m0)) := by rw [s2 _ (by simp only [List.mem_cons, List.not_mem_nil, or_false]; omega)]
  have k2_28 : σ2 (300 + (28)) = va_up (fun _ => 0) 0 (1) := by rw [e2]
  refine lv_aload_n hx hb dm_Model_power2_7 rfl (lv_at hl 0 rfl) ?_
  refine lv_bipush (v := nI (28)) hx hb dm_Model_power2_8 (by decide) ?_
  refine lv_iload hx hb dm_Model_power2_10 (lv_at hl 3 rfl) ?_
  refine pw_callV (rest := []) S hW (mm_Model_rest l D k g σ2 w2 hP hP31 (a := 28) (b := m0) (by omega) (by omega) (by omega) (by omega) (by omega) (by rw [k2_m0]; omega)) (cv_Model_52 S.1.2.2.2.2 ⟨by decide, by decide⟩) (by decide) en_Model rfl rfl hl.1 rfl (lv_room (Nat.le_of_ble_eq_true rfl)) ⟨Nat.zero_le _, Nat.zero_le _⟩ dm_Model_power2_12 (fun σ3 H locs hp3 hW => ?_)
  obtain ⟨w3, e3, s3⟩ := hp3
  have k3_a : σ3 (300 + (a)) = σ (300 + (a)) := by rw [s3 _ (by simp only [List.mem_cons, List.not_mem_nil, or_false]; omega)]; exact k2_a
  have k3_m0 : σ3 (300 + (m0)) = σ (300 + (m0)) := by rw [s3 _ (by simp only [List.mem_cons, List.not_mem_nil, or_false]; omega)]; exact k2_m0
  have k3_28 : σ3 (300 + (28)) = sp_rest P (va_up (fun _ => 0) 0 (1)) (σ (300 + (m0))) := by rw [e3.1, k2_28, k2_m0]
  have k3_32 : σ3 (300 + (32)) = sp_quo P (va_up (fun _ => 0) 0 (1)) (σ (300 + (m0))) := by rw [e3.2, k2_28, k2_m0]
  have m3 : md_sm [300 + (28), 300 + (32)] σ σ3 := md_sm_tr s2 s3 (by intro x9 hx9; simp only [List.mem_cons, List.not_mem_nil, or_false] at hx9 ⊢; omega) (by intro x9 hx9; simp only [List.mem_cons, List.not_mem_nil, or_false] at hx9 ⊢; omega)
  refine lv_bipush (v := nI (62)) hx hb dm_Model_power2_15 (by decide) ?_
  refine lv_istore hx hb dm_Model_power2_17 hl (by decide) rfl (fun ls hl => ?_)
  have hl : lv_has ls 6 [(5, .int (nI (62))), (0, .ref (g (149))), (1, .int (nI (a))), (2, .long (lN (n0))), (4, .int (nI (m0)))] := hl
  have hl : lv_has ls 6 [(5, .int (nI (62))), (0, .ref (g (149))), (1, .int (nI (a))), (2, .long (lN (n0))), (4, .int (nI (m0)))] := lv_sub hl [0, 1, 2, 3, 4] rfl
  have hl : lv_has ls 6 [(5, .int (sd_i 63)), (0, .ref (g 149)), (1, .int (nI a)), (2, .long (lN n0)), (4, .int (nI m0))] := by
    rw [sd_s]
    exact hl
  have loop : ∀ n, n ≤ 63 → ∀ (τ : st_T), md_wf P τ → md_sm [300 + 28, 300 + 31, 300 + 32] σ τ → sp_is P (σ (300 + m0)) (τ (300 + 28)) (pz_pw (pe_f (σ (300 + a))) (n0 / 2 ^ n)) → ∀ (ls : Array Slot) (H : Heap) (locs : List Loc), lv_has ls 6 [(5, .int (sd_i (n))), (0, .ref (g (149))), (1, .int (nI (a))), (2, .long (lN (n0))), (4, .int (nI (m0)))] → pw_H D cl_s A s.heap g 153 (en_s k g (τ)) H locs → W p l e rm_Model_power2 s m args below meth c H locs 0 0 Q (F0 m 19 ls []) := by
    intro n
    induction n with
    | zero =>
      intro hn τ wτ sτ hinv ls H locs hl hW
      have ta : τ (300 + a) = σ (300 + a) := sτ _ (by simp only [List.mem_cons, List.not_mem_nil, or_false]; omega)
      have tm : τ (300 + m0) = σ (300 + m0) := sτ _ (by simp only [List.mem_cons, List.not_mem_nil, or_false]; omega)
      refine lv_iload hx hb dm_Model_power2_19 (lv_at hl 0 rfl) ?_
      refine wi_if_lt (tgt := 60) S (sd_T (by omega)) dm_Model_power2_21 (by decide) (fun hc => ?_) (fun hc => ?_)
      · rw [Nat.pow_zero, Nat.div_one] at hinv
        exact hret _ _ _ _ _ dm_Model_power2_60 ⟨wτ, hinv, sτ⟩ hW
      · exfalso
        omega
    | succ n ih =>
      intro hn τ wτ sτ hinv ls H locs hl hW
      have ta : τ (300 + a) = σ (300 + a) := sτ _ (by simp only [List.mem_cons, List.not_mem_nil, or_false]; omega)
      have tm : τ (300 + m0) = σ (300 + m0) := sτ _ (by simp only [List.mem_cons, List.not_mem_nil, or_false]; omega)
      refine lv_iload hx hb dm_Model_power2_19 (lv_at hl 0 rfl) ?_
      refine wi_if_lt (tgt := 60) S (sd_T (by omega)) dm_Model_power2_21 (by decide) (fun hc => ?_) (fun hc => ?_)
      · exfalso
        omega
      · rw [sd_s] at hl
        have hzi := hinv.2.1
        refine lv_aload_n hx hb dm_Model_power2_24 rfl (lv_at hl 1 rfl) ?_
        refine lv_bipush (v := nI (28)) hx hb dm_Model_power2_25 (by decide) ?_
        refine lv_bipush (v := nI (28)) hx hb dm_Model_power2_27 (by decide) ?_
        refine lv_iload hx hb dm_Model_power2_29 (lv_at hl 4 rfl) ?_
        refine pw_callV (rest := []) S hW (mm_Model_timesBy l D k g τ wτ hP hP31 (a := 28) (b := 28) (m0 := m0) (by omega) (by omega) (by omega) (by omega) (by omega) (by omega) (by omega) (by omega) (by rw [tm]; omega)) (cv_Model_62 S.1.2.2.2.2 ⟨by decide, by decide⟩) (by decide) en_Model rfl rfl hl.1 rfl (lv_room (Nat.le_of_ble_eq_true rfl)) ⟨Nat.zero_le _, Nat.zero_le _⟩ dm_Model_power2_31 (fun σ4 H locs hp4 hW => ?_)
        obtain ⟨w4, e4, s4⟩ := hp4
        have k4_a : σ4 (300 + (a)) = σ (300 + a) := by rw [s4 _ (by simp only [List.mem_cons, List.not_mem_nil, or_false]; omega)]; exact ta
        have k4_m0 : σ4 (300 + (m0)) = σ (300 + m0) := by rw [s4 _ (by simp only [List.mem_cons, List.not_mem_nil, or_false]; omega)]; exact tm
        have k4_28 : σ4 (300 + (28)) = sp_rest P (sp_mul P (τ (300 + 28)) (τ (300 + 28))) (σ (300 + m0)) := by rw [e4, tm]
        have hsq := sp_mr hP (wτ.2 28 (by omega)) (wτ.2 28 (by omega)) hmo (by omega) (by omega) hinv.2.2 hinv.2.2
        rw [← k4_28] at hsq
        refine lv_lload_n hx hb dm_Model_power2_34 rfl (lv_at hl 3 rfl) ?_
        refine lv_iload hx hb dm_Model_power2_35 (lv_at hl 0 rfl) ?_
        refine lv_lshr hx hb dm_Model_power2_37 (ls_d (d := n) (sh_l (by omega)) hn0) ?_
        refine lv_lconst (v := lN (1)) hx hb dm_Model_power2_38 (by decide) ?_
        have hdl : n0 / 2 ^ n ≤ n0 := Nat.div_le_self _ _
        refine lv_land hx hb dm_Model_power2_39 ?_
        rw [la_1 (by omega)]
        refine lv_lconst (v := lN (1)) hx hb dm_Model_power2_40 (by decide) ?_
        refine W.lcmp hx hb dm_Model_power2_41 ?_
        have tail : ∀ (υ : st_T), md_wf P υ → md_sm [300 + 28, 300 + 31, 300 + 32] σ υ → sp_is P (σ (300 + m0)) (υ (300 + 28)) (pz_pw (pe_f (σ (300 + a))) (n0 / 2 ^ n)) → ∀ (H : Heap) (locs : List Loc), pw_H D cl_s A s.heap g 153 (en_s k g (υ)) H locs → W p l e rm_Model_power2 s m args below meth c H locs 0 0 Q (F0 m 54 ls []) := by
          intro υ wυ sυ hυ H locs hW
          refine lv_iinc (k := 0) (v := sd_i n) hx hb dm_Model_power2_54 hl rfl (by rw [← sd_s]; exact sd_m1 n) (by decide) rfl (fun ls hl => ?_)
          have hl : lv_has ls 6 [(5, .int (sd_i (n))), (0, .ref (g (149))), (1, .int (nI (a))), (2, .long (lN (n0))), (4, .int (nI (m0)))] := hl
          refine lv_goto (tgt := 19) hx hb dm_Model_power2_57 (by decide) ?_
          exact ih (by omega) υ wυ sυ hυ ls _ _ hl hW
        have hpd := pz_pwd (pe_f (σ (300 + a))) n0 n
        by_cases hodd : n0 / 2 ^ n % 2 = 1
        · rw [show lg_cmp (lN (n0 / 2 ^ n % 2)) (lN 1) = nI 0 by rw [hodd]; exact lc_eq 1]
          refine wi_if_ne (tgt := 54) S (nn_T (by omega)) dm_Model_power2_42 (by decide) (fun hc => ?_) (fun hc => ?_)
          · exfalso
            omega
          · have hz2 := hsq.2.1
            refine lv_aload_n hx hb dm_Model_power2_45 rfl (lv_at hl 1 rfl) ?_
            refine lv_bipush (v := nI (28)) hx hb dm_Model_power2_46 (by decide) ?_
            refine lv_iload_n hx hb dm_Model_power2_48 rfl (lv_at hl 2 rfl) ?_
            refine lv_iload hx hb dm_Model_power2_49 (lv_at hl 4 rfl) ?_
            refine pw_callV (rest := []) S hW (mm_Model_timesBy l D k g σ4 w4 hP hP31 (a := 28) (b := a) (m0 := m0) (by omega) (by omega) (by omega) (by omega) (by omega) (by omega) (by omega) (by rw [k4_a]; omega) (by rw [k4_m0]; omega)) (cv_Model_62 S.1.2.2.2.2 ⟨by decide, by decide⟩) (by decide) en_Model rfl rfl hl.1 rfl (lv_room (Nat.le_of_ble_eq_true rfl)) ⟨Nat.zero_le _, Nat.zero_le _⟩ dm_Model_power2_51 (fun σ5 H locs hp5 hW => ?_)
            obtain ⟨w5, e5, s5⟩ := hp5
            have k5_a : σ5 (300 + (a)) = σ (300 + a) := by rw [s5 _ (by simp only [List.mem_cons, List.not_mem_nil, or_false]; omega)]; exact k4_a
            have k5_m0 : σ5 (300 + (m0)) = σ (300 + m0) := by rw [s5 _ (by simp only [List.mem_cons, List.not_mem_nil, or_false]; omega)]; exact k4_m0
            have k5_28 : σ5 (300 + (28)) = sp_rest P (sp_mul P (σ4 (300 + 28)) (σ (300 + a))) (σ (300 + m0)) := by rw [e5, k4_a, k4_m0]
            have m5 : md_sm [300 + (28), 300 + (31), 300 + (32)] τ σ5 := md_sm_tr s4 s5 (by intro x9 hx9; simp only [List.mem_cons, List.not_mem_nil, or_false] at hx9 ⊢; omega) (by intro x9 hx9; simp only [List.mem_cons, List.not_mem_nil, or_false] at hx9 ⊢; omega)
            have hsm := sp_mr hP (w4.2 28 (by omega)) (hw.2 a ha) hmo (by omega) (by omega) hsq.2.2 (@ag_rf pz_T pz_R _ hI _)
            rw [← k5_28] at hsm
            refine tail σ5 w5 (md_sm_tr sτ m5 (fun _ h => h) (by intro x9 hx9; simp only [List.mem_cons, List.not_mem_nil, or_false] at hx9 ⊢; omega)) ?_ _ _ hW
            rw [← hpd, hodd]
            have e1 : pz_pw (pe_f (σ (300 + a))) 1 = pe_f (σ (300 + a)) := pz_R.one_mul _
            rw [e1]
            exact hsm
        · rw [lc_lt (show n0 / 2 ^ n % 2 < 1 by omega) (by omega)]
          refine wi_if_ne (tgt := 54) S (show (-1 : Int32).toInt = -1 by decide) dm_Model_power2_42 (by decide) (fun hc => ?_) (fun hc => ?_)
          · refine tail σ4 w4 (md_sm_tr sτ s4 (fun _ h => h) (by intro x9 hx9; simp only [List.mem_cons, List.not_mem_nil, or_false] at hx9 ⊢; omega)) ?_ _ _ hW
            rw [← hpd, show n0 / 2 ^ n % 2 = 0 by omega]
            have e1 : ∀ z : pz_T, pz_ml z (pz_pw (pe_f (σ (300 + a))) 0) = z := fun z => pz_R.mul_one _
            rw [e1]
            exact hsq
          · exfalso
            omega
  refine loop 63 (by omega) σ3 w3 (md_sm_mo m3 (by intro x9 hx9; simp only [List.mem_cons, List.not_mem_nil, or_false] at hx9 ⊢; omega)) ?_ ls _ _ hl hW
  rw [Nat.div_eq_of_lt hn0, k3_28]
  have h1 := sp_rest_is hP (sp_one_ok hP2) hmo hms
  rw [sp_one_pe] at h1
  exact h1
theorem dm_Model_chain_0 : decode bm_Model_chain 0 = .ok (.aload_n 0, 1) := by decide +kernel
theorem dm_Model_chain_1 : decode bm_Model_chain 1 = .ok (.iload_n 1, 1) := by decide +kernel
theorem dm_Model_chain_2 : decode bm_Model_chain 2 = .ok (.bipush 26, 2) := by decide +kernel
theorem dm_Model_chain_4 : decode bm_Model_chain 4 = .ok (.invokevirtual 55, 3) := by decide +kernel
theorem dm_Model_chain_7 : decode bm_Model_chain 7 = .ok (.aload_n 0, 1) := by decide +kernel
theorem dm_Model_chain_8 : decode bm_Model_chain 8 = .ok (.bipush 26, 2) := by decide +kernel
theorem dm_Model_chain_10 : decode bm_Model_chain 10 = .ok (.iload_n 3, 1) := by decide +kernel
theorem dm_Model_chain_11 : decode bm_Model_chain 11 = .ok (.invokevirtual 52, 3) := by decide +kernel
theorem dm_Model_chain_14 : decode bm_Model_chain 14 = .ok (.aload_n 0, 1) := by decide +kernel
theorem dm_Model_chain_15 : decode bm_Model_chain 15 = .ok (.bipush 27, 2) := by decide +kernel
theorem dm_Model_chain_17 : decode bm_Model_chain 17 = .ok (.iconst 1, 1) := by decide +kernel
theorem dm_Model_chain_18 : decode bm_Model_chain 18 = .ok (.invokevirtual 38, 3) := by decide +kernel
theorem dm_Model_chain_21 : decode bm_Model_chain 21 = .ok (.aload_n 0, 1) := by decide +kernel
theorem dm_Model_chain_22 : decode bm_Model_chain 22 = .ok (.bipush 27, 2) := by decide +kernel
theorem dm_Model_chain_24 : decode bm_Model_chain 24 = .ok (.iload_n 3, 1) := by decide +kernel
theorem dm_Model_chain_25 : decode bm_Model_chain 25 = .ok (.invokevirtual 52, 3) := by decide +kernel
theorem dm_Model_chain_28 : decode bm_Model_chain 28 = .ok (.iconst 0, 1) := by decide +kernel
theorem dm_Model_chain_29 : decode bm_Model_chain 29 = .ok (.istore 4, 2) := by decide +kernel
theorem dm_Model_chain_31 : decode bm_Model_chain 31 = .ok (.iload 4, 2) := by decide +kernel
theorem dm_Model_chain_33 : decode bm_Model_chain 33 = .ok (.iload_n 2, 1) := by decide +kernel
theorem dm_Model_chain_34 : decode bm_Model_chain 34 = .ok (.if_icmp .ge 38, 3) := by decide +kernel
theorem dm_Model_chain_37 : decode bm_Model_chain 37 = .ok (.aload_n 0, 1) := by decide +kernel
theorem dm_Model_chain_38 : decode bm_Model_chain 38 = .ok (.bipush 27, 2) := by decide +kernel
theorem dm_Model_chain_40 : decode bm_Model_chain 40 = .ok (.bipush 26, 2) := by decide +kernel
theorem dm_Model_chain_42 : decode bm_Model_chain 42 = .ok (.iload_n 3, 1) := by decide +kernel
theorem dm_Model_chain_43 : decode bm_Model_chain 43 = .ok (.invokevirtual 62, 3) := by decide +kernel
theorem dm_Model_chain_46 : decode bm_Model_chain 46 = .ok (.aload_n 0, 1) := by decide +kernel
theorem dm_Model_chain_47 : decode bm_Model_chain 47 = .ok (.bipush 26, 2) := by decide +kernel
theorem dm_Model_chain_49 : decode bm_Model_chain 49 = .ok (.aload_n 0, 1) := by decide +kernel
theorem dm_Model_chain_50 : decode bm_Model_chain 50 = .ok (.getfield 23, 3) := by decide +kernel
theorem dm_Model_chain_53 : decode bm_Model_chain 53 = .ok (.i2l, 1) := by decide +kernel
theorem dm_Model_chain_54 : decode bm_Model_chain 54 = .ok (.iload_n 3, 1) := by decide +kernel
theorem dm_Model_chain_55 : decode bm_Model_chain 55 = .ok (.invokevirtual 65, 3) := by decide +kernel
theorem dm_Model_chain_58 : decode bm_Model_chain 58 = .ok (.aload_n 0, 1) := by decide +kernel
theorem dm_Model_chain_59 : decode bm_Model_chain 59 = .ok (.bipush 28, 2) := by decide +kernel
theorem dm_Model_chain_61 : decode bm_Model_chain 61 = .ok (.bipush 26, 2) := by decide +kernel
theorem dm_Model_chain_63 : decode bm_Model_chain 63 = .ok (.invokevirtual 55, 3) := by decide +kernel
theorem dm_Model_chain_66 : decode bm_Model_chain 66 = .ok (.iinc 4 1, 3) := by decide +kernel
theorem dm_Model_chain_69 : decode bm_Model_chain 69 = .ok (.goto (-38), 3) := by decide +kernel
theorem dm_Model_chain_72 : decode bm_Model_chain 72 = .ok (.return_, 1) := by decide +kernel
set_option maxHeartbeats 4000000 in
set_option maxRecDepth 100000 in
theorem mm_Model_chain (l : Launch) (D : va_G) (k : ClassId × ClassId × ClassId) (g : Nat → Nat) (σ : st_T) {P a m0 n0 : Nat} (hw : md_wf P σ) (hP : ag_pr P) (hP31 : P < 2147483648) (ha : a < 33) (hm : m0 < 33) (hm26 : m0 ≠ 26) (hm27 : m0 ≠ 27) (hm28 : m0 ≠ 28) (hm31 : m0 ≠ 31) (hm32 : m0 ≠ 32) (hms : 0 < sp_sz (σ (300 + m0)) 31) (hm17 : sp_sz (σ (300 + m0)) 31 ≤ 17) (hn0 : n0 < 2147483648) : mt_V l D k g ym_Model_chain wm_Model_chain rm_Model_chain [.ref (g 149), .int (nI a), .int (nI n0), .int (nI m0)] σ (fun σ1 => md_wf P σ1 ∧ (sp_is P (σ (300 + m0)) (σ1 (300 + 27)) (@ag_nm pz_T pz_R (pe_f (σ (300 + a))) P n0) ∧ sp_is P (σ (300 + m0)) (σ1 (300 + 26)) (pz_pw (pe_f (σ (300 + a))) (P ^ n0))) ∧ md_sm [300 + 26, 300 + 27, 300 + 28, 300 + 31, 300 + 32] σ σ1) := by
  refine ct_V_in (cc := bm_Model_chain) (maxL := 5) (by decide) rfl (Nat.le_of_ble_eq_true rfl) ?_
  intro p e s m args below meth c A ls Q S hl hW hret
  have S : pw_S p m c bm_Model_chain 5 s args wa_g rc_Model D cl_s (ty_s k) := S
  have hx := S.1.1
  have hb := S.1.2.1
  have hl : lv_has ls 5 [(0, .ref (g (149))), (1, .int (nI (a))), (2, .int (nI (n0))), (3, .int (nI (m0)))] := hl
  have hP2 := hP.1
  have hmo := hw.2 m0 hm
  have hI := pz_I_ok P (pe_f (σ (300 + m0)))
  refine lv_aload_n hx hb dm_Model_chain_0 rfl (lv_at hl 0 rfl) ?_
  refine lv_iload_n hx hb dm_Model_chain_1 rfl (lv_at hl 1 rfl) ?_
  refine lv_bipush (v := nI (26)) hx hb dm_Model_chain_2 (by decide) ?_
  refine pw_callV (rest := []) S hW (mm_Model_copy l D k g σ hw (a := a) (b := 26) (by omega) (by omega)) (cv_Model_55 S.1.2.2.2.2 ⟨by decide, by decide⟩) (by decide) en_Model rfl rfl hl.1 rfl (lv_room (Nat.le_of_ble_eq_true rfl)) ⟨Nat.zero_le _, Nat.zero_le _⟩ dm_Model_chain_4 (fun σ2 H locs hp2 hW => ?_)
  obtain ⟨w2, e2, s2⟩ := hp2
  have k2_m0 : σ2 (300 + (m0)) = σ (300 + (m0)) := by rw [s2 _ (by simp only [List.mem_cons, List.not_mem_nil, or_false]; omega)]
  have k2_26 : σ2 (300 + (26)) = σ (300 + (a)) := by rw [e2]
  refine lv_aload_n hx hb dm_Model_chain_7 rfl (lv_at hl 0 rfl) ?_
  refine lv_bipush (v := nI (26)) hx hb dm_Model_chain_8 (by decide) ?_
  refine lv_iload_n hx hb dm_Model_chain_10 rfl (lv_at hl 3 rfl) ?_
  refine pw_callV (rest := []) S hW (mm_Model_rest l D k g σ2 w2 hP hP31 (a := 26) (b := m0) (by omega) (by omega) (by omega) (by omega) (by omega) (by rw [k2_m0]; omega)) (cv_Model_52 S.1.2.2.2.2 ⟨by decide, by decide⟩) (by decide) en_Model rfl rfl hl.1 rfl (lv_room (Nat.le_of_ble_eq_true rfl)) ⟨Nat.zero_le _, Nat.zero_le _⟩ dm_Model_chain_11 (fun σ3 H locs hp3 hW => ?_)
  obtain ⟨w3, e3, s3⟩ := hp3
  have k3_m0 : σ3 (300 + (m0)) = σ (300 + (m0)) := by rw [s3 _ (by simp only [List.mem_cons, List.not_mem_nil, or_false]; omega)]; exact k2_m0
  have k3_26 : σ3 (300 + (26)) = sp_rest P (σ (300 + (a))) (σ (300 + (m0))) := by rw [e3.1, k2_26, k2_m0]
  have k3_32 : σ3 (300 + (32)) = sp_quo P (σ (300 + (a))) (σ (300 + (m0))) := by rw [e3.2, k2_26, k2_m0]
  have m3 : md_sm [300 + (26), 300 + (32)] σ σ3 := md_sm_tr s2 s3 (by intro x9 hx9; simp only [List.mem_cons, List.not_mem_nil, or_false] at hx9 ⊢; omega) (by intro x9 hx9; simp only [List.mem_cons, List.not_mem_nil, or_false] at hx9 ⊢; omega)
  refine lv_aload_n hx hb dm_Model_chain_14 rfl (lv_at hl 0 rfl) ?_
  refine lv_bipush (v := nI (27)) hx hb dm_Model_chain_15 (by decide) ?_
  refine lv_iconst (v := nI (1)) hx hb dm_Model_chain_17 (by decide) ?_
  refine pw_callV (rest := []) S hW (mm_Model_number l D k g σ3 w3 (s0 := 27) (v := 1) (by omega) (by omega)) (cv_Model_38 S.1.2.2.2.2 ⟨by decide, by decide⟩) (by decide) en_Model rfl rfl hl.1 rfl (lv_room (Nat.le_of_ble_eq_true rfl)) ⟨Nat.zero_le _, Nat.zero_le _⟩ dm_Model_chain_18 (fun σ4 H locs hp4 hW => ?_)
  obtain ⟨w4, e4, s4⟩ := hp4
  have k4_m0 : σ4 (300 + (m0)) = σ (300 + (m0)) := by rw [s4 _ (by simp only [List.mem_cons, List.not_mem_nil, or_false]; omega)]; exact k3_m0
  have k4_26 : σ4 (300 + (26)) = sp_rest P (σ (300 + (a))) (σ (300 + (m0))) := by rw [s4 _ (by simp only [List.mem_cons, List.not_mem_nil, or_false]; omega)]; exact k3_26
  have k4_32 : σ4 (300 + (32)) = sp_quo P (σ (300 + (a))) (σ (300 + (m0))) := by rw [s4 _ (by simp only [List.mem_cons, List.not_mem_nil, or_false]; omega)]; exact k3_32
  have k4_27 : σ4 (300 + (27)) = va_up (fun _ => 0) 0 (1) := by rw [e4]
  have m4 : md_sm [300 + (26), 300 + (32), 300 + (27)] σ σ4 := md_sm_tr m3 s4 (by intro x9 hx9; simp only [List.mem_cons, List.not_mem_nil, or_false] at hx9 ⊢; omega) (by intro x9 hx9; simp only [List.mem_cons, List.not_mem_nil, or_false] at hx9 ⊢; omega)
  refine lv_aload_n hx hb dm_Model_chain_21 rfl (lv_at hl 0 rfl) ?_
  refine lv_bipush (v := nI (27)) hx hb dm_Model_chain_22 (by decide) ?_
  refine lv_iload_n hx hb dm_Model_chain_24 rfl (lv_at hl 3 rfl) ?_
  refine pw_callV (rest := []) S hW (mm_Model_rest l D k g σ4 w4 hP hP31 (a := 27) (b := m0) (by omega) (by omega) (by omega) (by omega) (by omega) (by rw [k4_m0]; omega)) (cv_Model_52 S.1.2.2.2.2 ⟨by decide, by decide⟩) (by decide) en_Model rfl rfl hl.1 rfl (lv_room (Nat.le_of_ble_eq_true rfl)) ⟨Nat.zero_le _, Nat.zero_le _⟩ dm_Model_chain_25 (fun σ5 H locs hp5 hW => ?_)
  obtain ⟨w5, e5, s5⟩ := hp5
  have k5_m0 : σ5 (300 + (m0)) = σ (300 + (m0)) := by rw [s5 _ (by simp only [List.mem_cons, List.not_mem_nil, or_false]; omega)]; exact k4_m0
  have k5_26 : σ5 (300 + (26)) = sp_rest P (σ (300 + (a))) (σ (300 + (m0))) := by rw [s5 _ (by simp only [List.mem_cons, List.not_mem_nil, or_false]; omega)]; exact k4_26
  have k5_27 : σ5 (300 + (27)) = sp_rest P (va_up (fun _ => 0) 0 (1)) (σ (300 + (m0))) := by rw [e5.1, k4_27, k4_m0]
  have k5_32 : σ5 (300 + (32)) = sp_quo P (va_up (fun _ => 0) 0 (1)) (σ (300 + (m0))) := by rw [e5.2, k4_27, k4_m0]
  have m5 : md_sm [300 + (26), 300 + (32), 300 + (27)] σ σ5 := md_sm_tr m4 s5 (by intro x9 hx9; simp only [List.mem_cons, List.not_mem_nil, or_false] at hx9 ⊢; omega) (by intro x9 hx9; simp only [List.mem_cons, List.not_mem_nil, or_false] at hx9 ⊢; omega)
  refine lv_iconst (v := nI (0)) hx hb dm_Model_chain_28 (by decide) ?_
  refine lv_istore hx hb dm_Model_chain_29 hl (by decide) rfl (fun ls hl => ?_)
  have hl : lv_has ls 5 [(4, .int (nI (0))), (0, .ref (g (149))), (1, .int (nI (a))), (2, .int (nI (n0))), (3, .int (nI (m0)))] := hl
  have hl : lv_has ls 5 [(4, .int (nI (0))), (0, .ref (g (149))), (2, .int (nI (n0))), (3, .int (nI (m0)))] := lv_sub hl [0, 1, 3, 4] rfl
  have loop : ∀ (d i : Nat) (τ : st_T), i + d = n0 → md_wf P τ → md_sm [300 + 26, 300 + 27, 300 + 28, 300 + 31, 300 + 32] σ τ → sp_is P (σ (300 + m0)) (τ (300 + 27)) (@ag_nm pz_T pz_R (pe_f (σ (300 + a))) P i) → sp_is P (σ (300 + m0)) (τ (300 + 26)) (pz_pw (pe_f (σ (300 + a))) (P ^ i)) → ∀ (ls : Array Slot) (H : Heap) (locs : List Loc), lv_has ls 5 [(4, .int (nI (i))), (0, .ref (g (149))), (2, .int (nI (n0))), (3, .int (nI (m0)))] → pw_H D cl_s A s.heap g 153 (en_s k g (τ)) H locs → W p l e rm_Model_chain s m args below meth c H locs 0 0 Q (F0 m 31 ls []) := by
    intro d
    induction d with
    | zero =>
      intro i τ hi wτ sτ h27 h26 ls H locs hl hW
      have tm : τ (300 + m0) = σ (300 + m0) := sτ _ (by simp only [List.mem_cons, List.not_mem_nil, or_false]; omega)
      refine lv_iload hx hb dm_Model_chain_31 (lv_at hl 0 rfl) ?_
      refine lv_iload_n hx hb dm_Model_chain_33 rfl (lv_at hl 2 rfl) ?_
      refine wi_icmp_ge (tgt := 72) S (nn_T (by omega)) (nn_T (by omega)) dm_Model_chain_34 (by decide) (fun hc => ?_) (fun hc => ?_)
      · have hi : i = n0 := by omega
        rw [hi] at h27 h26
        exact hret _ _ _ _ _ dm_Model_chain_72 ⟨wτ, ⟨h27, h26⟩, sτ⟩ hW
      · exfalso
        omega
    | succ d ih =>
      intro i τ hi wτ sτ h27 h26 ls H locs hl hW
      have tm : τ (300 + m0) = σ (300 + m0) := sτ _ (by simp only [List.mem_cons, List.not_mem_nil, or_false]; omega)
      refine lv_iload hx hb dm_Model_chain_31 (lv_at hl 0 rfl) ?_
      refine lv_iload_n hx hb dm_Model_chain_33 rfl (lv_at hl 2 rfl) ?_
      refine wi_icmp_ge (tgt := 72) S (nn_T (by omega)) (nn_T (by omega)) dm_Model_chain_34 (by decide) (fun hc => ?_) (fun hc => ?_)
      · exfalso
        omega
      · have z27 := h27.2.1
        have z26 := h26.2.1
        refine lv_aload_n hx hb dm_Model_chain_37 rfl (lv_at hl 1 rfl) ?_
        refine lv_bipush (v := nI (27)) hx hb dm_Model_chain_38 (by decide) ?_
        refine lv_bipush (v := nI (26)) hx hb dm_Model_chain_40 (by decide) ?_
        refine lv_iload_n hx hb dm_Model_chain_42 rfl (lv_at hl 3 rfl) ?_
        refine pw_callV (rest := []) S hW (mm_Model_timesBy l D k g τ wτ hP hP31 (a := 27) (b := 26) (m0 := m0) (by omega) (by omega) (by omega) (by omega) (by omega) (by omega) (by omega) (by omega) (by rw [tm]; omega)) (cv_Model_62 S.1.2.2.2.2 ⟨by decide, by decide⟩) (by decide) en_Model rfl rfl hl.1 rfl (lv_room (Nat.le_of_ble_eq_true rfl)) ⟨Nat.zero_le _, Nat.zero_le _⟩ dm_Model_chain_43 (fun σ6 H locs hp6 hW => ?_)
        obtain ⟨w6, e6, s6⟩ := hp6
        have k6_m0 : σ6 (300 + (m0)) = σ (300 + m0) := by rw [s6 _ (by simp only [List.mem_cons, List.not_mem_nil, or_false]; omega)]; exact tm
        have k6_26 : σ6 (300 + (26)) = τ (300 + 26) := by rw [s6 _ (by simp only [List.mem_cons, List.not_mem_nil, or_false]; omega)]
        have k6_27 : σ6 (300 + (27)) = sp_rest P (sp_mul P (τ (300 + 27)) (τ (300 + 26))) (σ (300 + m0)) := by rw [e6, tm]
        have hmr := sp_mr hP (wτ.2 27 (by omega)) (wτ.2 26 (by omega)) hmo (by omega) (by omega) h27.2.2 h26.2.2
        refine lv_aload_n hx hb dm_Model_chain_46 rfl (lv_at hl 1 rfl) ?_
        refine lv_bipush (v := nI (26)) hx hb dm_Model_chain_47 (by decide) ?_
        refine lv_aload_n hx hb dm_Model_chain_49 rfl (lv_at hl 1 rfl) ?_
        refine md_p S hW (wa_in 561 (by decide +kernel) rfl) dm_Model_chain_50 ?_
        rw [w6.1]
        refine wn_i2l S (by omega) dm_Model_chain_53 ?_
        refine lv_iload_n hx hb dm_Model_chain_54 rfl (lv_at hl 3 rfl) ?_
        refine pw_callV (rest := []) S hW (mm_Model_power2 l D k g σ6 w6 hP hP31 (a := 26) (m0 := m0) (n0 := P) (by omega) hm (by omega) (by omega) (by omega) hm28 hm31 hm32 (by rw [k6_m0]; exact hms) (by rw [k6_m0]; exact hm17) (by rw [k6_26, k6_m0]; omega) (by omega)) (cv_Model_65 S.1.2.2.2.2 ⟨by decide, by decide⟩) (by decide) en_Model rfl rfl hl.1 rfl (lv_room (Nat.le_of_ble_eq_true rfl)) ⟨Nat.zero_le _, Nat.zero_le _⟩ dm_Model_chain_55 (fun σ7 H locs hp7 hW => ?_)
        obtain ⟨w7, e7, s7⟩ := hp7
        have k7_m0 : σ7 (300 + (m0)) = σ (300 + m0) := by rw [s7 _ (by simp only [List.mem_cons, List.not_mem_nil, or_false]; omega)]; exact k6_m0
        have k7_26 : σ7 (300 + (26)) = τ (300 + 26) := by rw [s7 _ (by simp only [List.mem_cons, List.not_mem_nil, or_false]; omega)]; exact k6_26
        have k7_27 : σ7 (300 + (27)) = sp_rest P (sp_mul P (τ (300 + 27)) (τ (300 + 26))) (σ (300 + m0)) := by rw [s7 _ (by simp only [List.mem_cons, List.not_mem_nil, or_false]; omega)]; exact k6_27
        have m7 : md_sm [300 + (27), 300 + (31), 300 + (32), 300 + (28)] τ σ7 := md_sm_tr s6 s7 (by intro x9 hx9; simp only [List.mem_cons, List.not_mem_nil, or_false] at hx9 ⊢; omega) (by intro x9 hx9; simp only [List.mem_cons, List.not_mem_nil, or_false] at hx9 ⊢; omega)
        rw [k6_m0, k6_26] at e7
        refine lv_aload_n hx hb dm_Model_chain_58 rfl (lv_at hl 1 rfl) ?_
        refine lv_bipush (v := nI (28)) hx hb dm_Model_chain_59 (by decide) ?_
        refine lv_bipush (v := nI (26)) hx hb dm_Model_chain_61 (by decide) ?_
        refine pw_callV (rest := []) S hW (mm_Model_copy l D k g σ7 w7 (a := 28) (b := 26) (by omega) (by omega)) (cv_Model_55 S.1.2.2.2.2 ⟨by decide, by decide⟩) (by decide) en_Model rfl rfl hl.1 rfl (lv_room (Nat.le_of_ble_eq_true rfl)) ⟨Nat.zero_le _, Nat.zero_le _⟩ dm_Model_chain_63 (fun σ8 H locs hp8 hW => ?_)
        obtain ⟨w8, e8, s8⟩ := hp8
        have k8_m0 : σ8 (300 + (m0)) = σ (300 + m0) := by rw [s8 _ (by simp only [List.mem_cons, List.not_mem_nil, or_false]; omega)]; exact k7_m0
        have k8_27 : σ8 (300 + (27)) = sp_rest P (sp_mul P (τ (300 + 27)) (τ (300 + 26))) (σ (300 + m0)) := by rw [s8 _ (by simp only [List.mem_cons, List.not_mem_nil, or_false]; omega)]; exact k7_27
        have k8_26 : σ8 (300 + (26)) = σ7 (300 + (28)) := by rw [e8]
        have m8 : md_sm [300 + (27), 300 + (31), 300 + (32), 300 + (28), 300 + (26)] τ σ8 := md_sm_tr m7 s8 (by intro x9 hx9; simp only [List.mem_cons, List.not_mem_nil, or_false] at hx9 ⊢; omega) (by intro x9 hx9; simp only [List.mem_cons, List.not_mem_nil, or_false] at hx9 ⊢; omega)
        refine lv_iinc (k := 0) (v := nI (i + 1)) hx hb dm_Model_chain_66 hl rfl (by rw [show Int32.ofInt 1 = nI 1 from rfl, nI_add]) (by decide) rfl (fun ls hl => ?_)
        have hl : lv_has ls 5 [(4, .int (nI (i + 1))), (0, .ref (g (149))), (2, .int (nI (n0))), (3, .int (nI (m0)))] := hl
        refine lv_goto (tgt := 31) hx hb dm_Model_chain_69 (by decide) ?_
        have hl : lv_has ls 5 [(4, .int (nI (i + 1))), (0, .ref (g (149))), (2, .int (nI (n0))), (3, .int (nI (m0)))] := lv_sub hl [0, 1, 2, 3] rfl
        refine ih (i + 1) σ8 (by omega) w8 (md_sm_tr sτ m8 (fun _ h => h) (by intro x9 hx9; simp only [List.mem_cons, List.not_mem_nil, or_false] at hx9 ⊢; omega)) ?_ ?_ ls _ _ hl hW
        · rw [k8_27]
          exact hmr
        · rw [k8_26]
          refine sp_is_q e7 ?_
          refine @ag_tr pz_T pz_R _ hI _ _ _ (@ag_pw pz_T pz_R _ hI _ _ h26.2.2 P) (@ag_of_eq pz_T pz_R _ hI _ _ ?_)
          rw [Nat.pow_succ]
          exact (@ag_pow_mul pz_T pz_R _ _ _).symm
  refine loop n0 0 σ5 (by omega) w5 (md_sm_mo m5 (by intro x9 hx9; simp only [List.mem_cons, List.not_mem_nil, or_false] at hx9 ⊢; omega)) ?_ ?_ ls _ _ hl hW
  · rw [k5_27]
    have h1 := sp_rest_is hP (sp_one_ok hP2) hmo hms
    rw [sp_one_pe] at h1
    exact h1
  · rw [k5_26]
    have h1 := sp_rest_is hP (hw.2 a ha) hmo hms
    rw [Nat.pow_zero]
    have e1 : pz_pw (pe_f (σ (300 + a))) 1 = pe_f (σ (300 + a)) := pz_R.one_mul _
    rw [e1]
    exact h1
