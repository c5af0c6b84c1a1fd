/-! The face, second half -/
theorem dm_PP_isPrime_0 : decode bm_PP_isPrime 0 = .ok (.iload_n 1, 1) := by decide +kernel
theorem dm_PP_isPrime_1 : decode bm_PP_isPrime 1 = .ok (.invokestatic 58, 3) := by decide +kernel
theorem dm_PP_isPrime_4 : decode bm_PP_isPrime 4 = .ok (.ifCond .eq 5, 3) := by decide +kernel
theorem dm_PP_isPrime_7 : decode bm_PP_isPrime 7 = .ok (.iconst (-1), 1) := by decide +kernel
theorem dm_PP_isPrime_8 : decode bm_PP_isPrime 8 = .ok (.ireturn, 1) := by decide +kernel
theorem dm_PP_isPrime_9 : decode bm_PP_isPrime 9 = .ok (.aload_n 0, 1) := by decide +kernel
theorem dm_PP_isPrime_10 : decode bm_PP_isPrime 10 = .ok (.getfield 27, 3) := by decide +kernel
theorem dm_PP_isPrime_13 : decode bm_PP_isPrime 13 = .ok (.aload_n 0, 1) := by decide +kernel
theorem dm_PP_isPrime_14 : decode bm_PP_isPrime 14 = .ok (.getfield 49, 3) := by decide +kernel
theorem dm_PP_isPrime_17 : decode bm_PP_isPrime 17 = .ok (.iload_n 1, 1) := by decide +kernel
theorem dm_PP_isPrime_18 : decode bm_PP_isPrime 18 = .ok (.aaload, 1) := by decide +kernel
theorem dm_PP_isPrime_19 : decode bm_PP_isPrime 19 = .ok (.invokevirtual 119, 3) := by decide +kernel
theorem dm_PP_isPrime_22 : decode bm_PP_isPrime 22 = .ok (.ifCond .eq 7, 3) := by decide +kernel
theorem dm_PP_isPrime_25 : decode bm_PP_isPrime 25 = .ok (.iconst 1, 1) := by decide +kernel
theorem dm_PP_isPrime_26 : decode bm_PP_isPrime 26 = .ok (.goto 4, 3) := by decide +kernel
theorem dm_PP_isPrime_29 : decode bm_PP_isPrime 29 = .ok (.iconst 0, 1) := by decide +kernel
theorem dm_PP_isPrime_30 : decode bm_PP_isPrime 30 = .ok (.ireturn, 1) := by decide +kernel
set_option maxHeartbeats 4000000 in
set_option maxRecDepth 100000 in
theorem mm_PP_isPrime (l : Launch) (D : va_G) (k : ClassId × ClassId × ClassId) (g : Nat → Nat) (σ : st_T) {P : Nat} (hw : st_wf P σ) (hP : ag_pr P) (hP31 : P < 2147483648) (hrg : ∀ n, n < 8 → σ 200 (133 + 2 * n) ≤ 16) (hx21 : σ 21 = sp_x) {a : Int32} : mt_I l D k g ym_PP_isPrime wm_PP_isPrime rm_PP_isPrime [.ref (g 0), .int a] σ (fun r σ1 => (¬ (rk_r a) ∧ r = -1 ∧ σ1 = σ) ∨ ∃ a0, (a0 < 8 ∧ a = nI a0) ∧ ((r = nI 1 ∧ fp_T P (σ (133 + 2 * a0))) ∨ (r = nI 0 ∧ ¬ fp_T P (σ (133 + 2 * a0)))) ∧ st_wf P σ1 ∧ st_sm fb_Y σ σ1) := by
  refine ct_I_in (cc := bm_PP_isPrime) (maxL := 2) (by decide) rfl (Nat.le_of_ble_eq_true rfl) ?_
  intro p e s m args below meth c A ls Q S hl hW hret
  have S : pw_S p m c bm_PP_isPrime 2 s args wa_g rc_PP D cl_s (ty_s k) := S
  have hx := S.1.1
  have hb := S.1.2.1
  have hl : lv_has ls 2 [(0, .ref (g (0))), (1, .int (a))] := hl
  refine lv_iload_n hx hb dm_PP_isPrime_0 rfl (lv_at hl 1 rfl) ?_
  refine pw_callSI (rest := []) S hW (mm_PP_isNoRegister l D k g σ (x := a)) (cv_PP_58 S.1.2.2.2.2 ⟨by decide, by decide⟩) rfl hl.1 rfl (lv_room (Nat.le_of_ble_eq_true rfl)) ⟨Nat.zero_le _, Nat.zero_le _⟩ dm_PP_isPrime_1 (fun r σ1 H locs hp hW => ?_)
  obtain ⟨hp, h9⟩ := hp
  rw [h9] at hW
  rcases hp with ⟨hr, a0, ha0, rfl⟩ | ⟨hr, hno⟩
  · subst hr
    have hl : lv_has ls 2 [(0, .ref (g (0))), (1, .int (nI (a0)))] := hl
    refine wi_if_eq (tgt := 9) S (nn_T (by omega)) dm_PP_isPrime_4 (by decide) (fun hc => ?_) (fun hc => ?_)
    · refine lv_aload_n hx hb dm_PP_isPrime_9 rfl (lv_at hl 0 rfl) ?_
      refine pp_frobenius S hW (wa_in 246 (by decide +kernel) rfl) dm_PP_isPrime_10 ?_
      refine lv_aload_n hx hb dm_PP_isPrime_13 rfl (lv_at hl 0 rfl) ?_
      refine pp_registers S hW (wa_in 249 (by decide +kernel) rfl) dm_PP_isPrime_14 ?_
      refine lv_iload_n hx hb dm_PP_isPrime_17 rfl (lv_at hl 1 rfl) ?_
      refine ra_ald S hW (by omega) dm_PP_isPrime_18 ?_
      refine pw_callVI (rest := []) S hW (mm_Frob_findsPrime l D k g σ hw hP hP31 (kd_rg ha0) hx21 (hrg a0 ha0) (fun z => by have h9 := (by decide : ∀ x ∈ fb_Y, x < 61) _ z; omega)) (cv_PP_119 S.1.2.2.2.2 ⟨by decide, by decide⟩) (by decide) en_Frob rfl rfl hl.1 rfl (lv_room (Nat.le_of_ble_eq_true rfl)) ⟨Nat.zero_le _, Nat.zero_le _⟩ dm_PP_isPrime_19 (fun r σ2 H locs hp2 hW => ?_)
      obtain ⟨hp2, w2, s2⟩ := hp2
      rcases hp2 with ⟨hr, hT⟩ | ⟨hr, hT⟩
      · subst hr
        refine wi_if_eq (tgt := 29) S (nn_T (by omega)) dm_PP_isPrime_22 (by decide) (fun hc => ?_) (fun hc => ?_)
        · exfalso
          omega
        · refine lv_iconst (v := nI (1)) hx hb dm_PP_isPrime_25 (by decide) ?_
          refine lv_goto (tgt := 30) hx hb dm_PP_isPrime_26 (by decide) ?_
          exact hret _ _ _ _ _ _ dm_PP_isPrime_30 (Or.inr ⟨a0, ⟨ha0, rfl⟩, Or.inl ⟨rfl, hT⟩, w2, s2⟩) hW
      · subst hr
        refine wi_if_eq (tgt := 29) S (nn_T (by omega)) dm_PP_isPrime_22 (by decide) (fun hc => ?_) (fun hc => ?_)
        · refine lv_iconst (v := nI (0)) hx hb dm_PP_isPrime_29 (by decide) ?_
          exact hret _ _ _ _ _ _ dm_PP_isPrime_30 (Or.inr ⟨a0, ⟨ha0, rfl⟩, Or.inr ⟨rfl, hT⟩, w2, s2⟩) hW
        · exfalso
          omega
    · exfalso
      omega
  · subst hr
    refine wi_if_eq (tgt := 9) S (nn_T (by omega)) dm_PP_isPrime_4 (by decide) (fun hc => ?_) (fun hc => ?_)
    · exfalso
      omega
    · refine lv_iconst (v := -1) hx hb dm_PP_isPrime_7 (by decide) ?_
      exact hret _ _ _ _ _ _ dm_PP_isPrime_8 (Or.inl ⟨fun z => hno z, rfl, rfl⟩) hW
theorem dm_PP_factor_0 : decode bm_PP_factor 0 = .ok (.iload_n 1, 1) := by decide +kernel
theorem dm_PP_factor_1 : decode bm_PP_factor 1 = .ok (.invokestatic 58, 3) := by decide +kernel
theorem dm_PP_factor_4 : decode bm_PP_factor 4 = .ok (.ifCond .ne 15, 3) := by decide +kernel
theorem dm_PP_factor_7 : decode bm_PP_factor 7 = .ok (.aload_n 0, 1) := by decide +kernel
theorem dm_PP_factor_8 : decode bm_PP_factor 8 = .ok (.getfield 49, 3) := by decide +kernel
theorem dm_PP_factor_11 : decode bm_PP_factor 11 = .ok (.iload_n 1, 1) := by decide +kernel
theorem dm_PP_factor_12 : decode bm_PP_factor 12 = .ok (.aaload, 1) := by decide +kernel
theorem dm_PP_factor_13 : decode bm_PP_factor 13 = .ok (.invokevirtual 100, 3) := by decide +kernel
theorem dm_PP_factor_16 : decode bm_PP_factor 16 = .ok (.ifCond .eq 5, 3) := by decide +kernel
theorem dm_PP_factor_19 : decode bm_PP_factor 19 = .ok (.iconst (-1), 1) := by decide +kernel
theorem dm_PP_factor_20 : decode bm_PP_factor 20 = .ok (.ireturn, 1) := by decide +kernel
theorem dm_PP_factor_21 : decode bm_PP_factor 21 = .ok (.aload_n 0, 1) := by decide +kernel
theorem dm_PP_factor_22 : decode bm_PP_factor 22 = .ok (.getfield 36, 3) := by decide +kernel
theorem dm_PP_factor_25 : decode bm_PP_factor 25 = .ok (.aload_n 0, 1) := by decide +kernel
theorem dm_PP_factor_26 : decode bm_PP_factor 26 = .ok (.getfield 49, 3) := by decide +kernel
theorem dm_PP_factor_29 : decode bm_PP_factor 29 = .ok (.iload_n 1, 1) := by decide +kernel
theorem dm_PP_factor_30 : decode bm_PP_factor 30 = .ok (.aaload, 1) := by decide +kernel
theorem dm_PP_factor_31 : decode bm_PP_factor 31 = .ok (.invokevirtual 123, 3) := by decide +kernel
theorem dm_PP_factor_34 : decode bm_PP_factor 34 = .ok (.aload_n 0, 1) := by decide +kernel
theorem dm_PP_factor_35 : decode bm_PP_factor 35 = .ok (.getfield 36, 3) := by decide +kernel
theorem dm_PP_factor_38 : decode bm_PP_factor 38 = .ok (.getfield 127, 3) := by decide +kernel
theorem dm_PP_factor_41 : decode bm_PP_factor 41 = .ok (.ireturn, 1) := by decide +kernel
set_option maxHeartbeats 4000000 in
set_option maxRecDepth 100000 in
theorem mm_PP_factor (l : Launch) (D : va_G) (k : ClassId × ClassId × ClassId) (g : Nat → Nat) (σ : st_T) {P : Nat} (hw : st_wf P σ) (hP : ag_pr P) (hP31 : P < 2147483648) (hrg : ∀ n, n < 8 → σ 200 (133 + 2 * n) ≤ 16) (hx21 : σ 21 = sp_x) (hpl : pl_ok σ) {a : Int32} : mt_I l D k g ym_PP_factor wm_PP_factor rm_PP_factor [.ref (g 0), .int a] σ (fun r σ1 => (¬ (rk_r a) ∧ r = -1 ∧ σ1 = σ) ∨ ∃ a0, (a0 < 8 ∧ a = nI a0) ∧ ((sp_sz (σ (133 + 2 * a0)) 31 = 0 ∧ r = -1 ∧ σ1 = σ) ∨ (0 < sp_sz (σ (133 + 2 * a0)) 31 ∧ r = nI (σ1 203 1) ∧ (st_wf P σ1 ∧ pl_ok σ1) ∧ pl_v σ1 = mk_l P (σ (133 + 2 * a0)) ∧ σ1 203 1 ≤ 15 ∧ (∀ t, t < σ1 203 1 → (pv_t σ1 t).1 ≤ 15) ∧ σ1 203 2 = st_ld σ (133 + 2 * a0) ∧ st_sm mk_X σ σ1))) := by
  refine ct_I_in (cc := bm_PP_factor) (maxL := 2) (by decide) rfl (Nat.le_of_ble_eq_true rfl) ?_
  intro p e s m args below meth c A ls Q S hl hW hret
  have S : pw_S p m c bm_PP_factor 2 s args wa_g rc_PP D cl_s (ty_s k) := S
  have hx := S.1.1
  have hb := S.1.2.1
  have hl : lv_has ls 2 [(0, .ref (g (0))), (1, .int (a))] := hl
  refine lv_iload_n hx hb dm_PP_factor_0 rfl (lv_at hl 1 rfl) ?_
  refine pw_callSI (rest := []) S hW (mm_PP_isNoRegister l D k g σ (x := a)) (cv_PP_58 S.1.2.2.2.2 ⟨by decide, by decide⟩) rfl hl.1 rfl (lv_room (Nat.le_of_ble_eq_true rfl)) ⟨Nat.zero_le _, Nat.zero_le _⟩ dm_PP_factor_1 (fun r σ1 H locs hp hW => ?_)
  obtain ⟨hp, h9⟩ := hp
  rw [h9] at hW
  rcases hp with ⟨hr, a0, ha0, rfl⟩ | ⟨hr, hno⟩
  · subst hr
    have hl : lv_has ls 2 [(0, .ref (g (0))), (1, .int (nI (a0)))] := hl
    refine wi_if_ne (tgt := 19) S (nn_T (by omega)) dm_PP_factor_4 (by decide) (fun hc => ?_) (fun hc => ?_)
    · exfalso
      omega
    · have hz := (hw.2 _ (kd_rg ha0)).2
      have h16 := hrg a0 ha0
      refine lv_aload_n hx hb dm_PP_factor_7 rfl (lv_at hl 0 rfl) ?_
      refine pp_registers S hW (wa_in 249 (by decide +kernel) rfl) dm_PP_factor_8 ?_
      refine lv_iload_n hx hb dm_PP_factor_11 rfl (lv_at hl 1 rfl) ?_
      refine ra_ald S hW (by omega) dm_PP_factor_12 ?_
      refine pw_callVI (rest := []) S hW (mm_Poly_isZero l D k g σ (kd_rg ha0) (by omega)) (cv_PP_100 S.1.2.2.2.2 ⟨by decide, by decide⟩) (kd_p1 (kd_rg (r := a0) (by omega))) (en_k0 (kd_rg (r := a0) (by omega))) rfl rfl hl.1 rfl (lv_room (Nat.le_of_ble_eq_true rfl)) ⟨Nat.zero_le _, Nat.zero_le _⟩ dm_PP_factor_13 (fun r σ1 H locs hp hW => ?_)
      obtain ⟨hr, hp⟩ := hp
      rw [hp] at hW
      subst hr
      by_cases hzz : σ 200 (133 + 2 * a0) = 0
      · rw [if_pos hzz]
        refine wi_if_eq (tgt := 21) S (nn_T (by omega)) dm_PP_factor_16 (by decide) (fun hc => ?_) (fun hc => ?_)
        · exfalso
          omega
        · refine lv_iconst (v := -1) hx hb dm_PP_factor_19 (by decide) ?_
          exact hret _ _ _ _ _ _ dm_PP_factor_20 (Or.inr ⟨a0, ⟨ha0, rfl⟩, Or.inl ⟨by omega, rfl, rfl⟩⟩) hW
      · rw [if_neg hzz]
        refine wi_if_eq (tgt := 21) S (nn_T (by omega)) dm_PP_factor_16 (by decide) (fun hc => ?_) (fun hc => ?_)
        · refine lv_aload_n hx hb dm_PP_factor_21 rfl (lv_at hl 0 rfl) ?_
          refine pp_parts S hW (wa_in 247 (by decide +kernel) rfl) dm_PP_factor_22 ?_
          refine lv_aload_n hx hb dm_PP_factor_25 rfl (lv_at hl 0 rfl) ?_
          refine pp_registers S hW (wa_in 249 (by decide +kernel) rfl) dm_PP_factor_26 ?_
          refine lv_iload_n hx hb dm_PP_factor_29 rfl (lv_at hl 1 rfl) ?_
          refine ra_ald S hW (by omega) dm_PP_factor_30 ?_
          refine pw_callV (rest := []) S hW (mm_Parts_makeFrom l D k g σ hw hP hP31 hpl (kd_rg ha0) hx21 (by omega) h16) (cv_PP_123 S.1.2.2.2.2 ⟨by decide, by decide⟩) (by decide) en_Parts rfl rfl hl.1 rfl (lv_room (Nat.le_of_ble_eq_true rfl)) ⟨Nat.zero_le _, Nat.zero_le _⟩ dm_PP_factor_31 (fun σ2 H locs hp2 hW => ?_)
          refine lv_aload_n hx hb dm_PP_factor_34 rfl (lv_at hl 0 rfl) ?_
          refine pp_parts S hW (wa_in 247 (by decide +kernel) rfl) dm_PP_factor_35 ?_
          refine ps_count S hW (wa_in 181 (by decide +kernel) rfl) dm_PP_factor_38 ?_
          exact hret _ _ _ _ _ _ dm_PP_factor_41 (Or.inr ⟨a0, ⟨ha0, rfl⟩, Or.inr ⟨by omega, rfl, hp2⟩⟩) hW
        · exfalso
          omega
  · subst hr
    refine wi_if_ne (tgt := 19) S (nn_T (by omega)) dm_PP_factor_4 (by decide) (fun hc => ?_) (fun hc => ?_)
    · refine lv_iconst (v := -1) hx hb dm_PP_factor_19 (by decide) ?_
      exact hret _ _ _ _ _ _ dm_PP_factor_20 (Or.inl ⟨fun z => hno z, rfl, rfl⟩) hW
    · exfalso
      omega
/-- what part answers of a part -/
def pv_r (v : pv_T) (b : Int32) : Int32 := if b.toInt = 0 then nI v.1 else if b.toInt = 1 then nI v.2.1 else if b.toInt = 2 then sd_i (sp_sz v.2.2 31) else if 100 ≤ b.toInt ∧ b.toInt ≤ 115 then nI (v.2.2 (b.toInt - 100).toNat) else -1
theorem pv_no {b : Int32} (h : b.toInt < 100 ∨ 115 < b.toInt) (h2 : b.toInt < 0 ∨ 2 < b.toInt) (v : pv_T) : pv_r v b = -1 := by
  unfold pv_r
  rw [if_neg (by omega), if_neg (by omega), if_neg (by omega), if_neg (by omega)]
theorem pv_co {b : Int32} (h : 100 ≤ b.toInt) (h2 : b.toInt ≤ 115) (v : pv_T) : pv_r v b = nI (v.2.2 (b.toInt - 100).toNat) := by
  unfold pv_r
  rw [if_neg (by omega), if_neg (by omega), if_neg (by omega), if_pos ⟨h, h2⟩]
theorem pv_sub {b : Int32} (h : 100 ≤ b.toInt) (h2 : b.toInt ≤ 115) : b - nI 100 = nI (b.toInt - 100).toNat := by
  refine Int32.toInt_inj.mp ?_
  rw [Int32.toInt_sub, nI_toInt (by omega), nI_toInt (by omega), Int.bmod_def]
  omega
theorem dm_PP_part_0 : decode bm_PP_part 0 = .ok (.aload_n 0, 1) := by decide +kernel
theorem dm_PP_part_1 : decode bm_PP_part 1 = .ok (.iload_n 1, 1) := by decide +kernel
theorem dm_PP_part_2 : decode bm_PP_part 2 = .ok (.invokevirtual 130, 3) := by decide +kernel
theorem dm_PP_part_5 : decode bm_PP_part 5 = .ok (.ifCond .eq 5, 3) := by decide +kernel
theorem dm_PP_part_8 : decode bm_PP_part 8 = .ok (.iconst (-1), 1) := by decide +kernel
theorem dm_PP_part_9 : decode bm_PP_part 9 = .ok (.ireturn, 1) := by decide +kernel
theorem dm_PP_part_10 : decode bm_PP_part 10 = .ok (.aload_n 0, 1) := by decide +kernel
theorem dm_PP_part_11 : decode bm_PP_part 11 = .ok (.getfield 36, 3) := by decide +kernel
theorem dm_PP_part_14 : decode bm_PP_part 14 = .ok (.getfield 133, 3) := by decide +kernel
theorem dm_PP_part_17 : decode bm_PP_part 17 = .ok (.iload_n 1, 1) := by decide +kernel
theorem dm_PP_part_18 : decode bm_PP_part 18 = .ok (.aaload, 1) := by decide +kernel
theorem dm_PP_part_19 : decode bm_PP_part 19 = .ok (.astore_n 3, 1) := by decide +kernel
theorem dm_PP_part_20 : decode bm_PP_part 20 = .ok (.iload_n 2, 1) := by decide +kernel
theorem dm_PP_part_21 : decode bm_PP_part 21 = .ok (.tableswitch 45 0 2 #[27, 32, 37], 27) := by decide +kernel
theorem dm_PP_part_48 : decode bm_PP_part 48 = .ok (.aload_n 3, 1) := by decide +kernel
theorem dm_PP_part_49 : decode bm_PP_part 49 = .ok (.getfield 137, 3) := by decide +kernel
theorem dm_PP_part_52 : decode bm_PP_part 52 = .ok (.ireturn, 1) := by decide +kernel
theorem dm_PP_part_53 : decode bm_PP_part 53 = .ok (.aload_n 3, 1) := by decide +kernel
theorem dm_PP_part_54 : decode bm_PP_part 54 = .ok (.getfield 142, 3) := by decide +kernel
theorem dm_PP_part_57 : decode bm_PP_part 57 = .ok (.ireturn, 1) := by decide +kernel
theorem dm_PP_part_58 : decode bm_PP_part 58 = .ok (.aload_n 3, 1) := by decide +kernel
theorem dm_PP_part_59 : decode bm_PP_part 59 = .ok (.getfield 145, 3) := by decide +kernel
theorem dm_PP_part_62 : decode bm_PP_part 62 = .ok (.getfield 75, 3) := by decide +kernel
theorem dm_PP_part_65 : decode bm_PP_part 65 = .ok (.ireturn, 1) := by decide +kernel
theorem dm_PP_part_66 : decode bm_PP_part 66 = .ok (.iload_n 2, 1) := by decide +kernel
theorem dm_PP_part_67 : decode bm_PP_part 67 = .ok (.bipush 100, 2) := by decide +kernel
theorem dm_PP_part_69 : decode bm_PP_part 69 = .ok (.if_icmp .lt 9, 3) := by decide +kernel
theorem dm_PP_part_72 : decode bm_PP_part 72 = .ok (.iload_n 2, 1) := by decide +kernel
theorem dm_PP_part_73 : decode bm_PP_part 73 = .ok (.bipush 115, 2) := by decide +kernel
theorem dm_PP_part_75 : decode bm_PP_part 75 = .ok (.if_icmp .le 5, 3) := by decide +kernel
theorem dm_PP_part_78 : decode bm_PP_part 78 = .ok (.iconst (-1), 1) := by decide +kernel
theorem dm_PP_part_79 : decode bm_PP_part 79 = .ok (.ireturn, 1) := by decide +kernel
theorem dm_PP_part_80 : decode bm_PP_part 80 = .ok (.aload_n 3, 1) := by decide +kernel
theorem dm_PP_part_81 : decode bm_PP_part 81 = .ok (.getfield 145, 3) := by decide +kernel
theorem dm_PP_part_84 : decode bm_PP_part 84 = .ok (.getfield 81, 3) := by decide +kernel
theorem dm_PP_part_87 : decode bm_PP_part 87 = .ok (.iload_n 2, 1) := by decide +kernel
theorem dm_PP_part_88 : decode bm_PP_part 88 = .ok (.bipush 100, 2) := by decide +kernel
theorem dm_PP_part_90 : decode bm_PP_part 90 = .ok (.isub, 1) := by decide +kernel
theorem dm_PP_part_91 : decode bm_PP_part 91 = .ok (.iaload, 1) := by decide +kernel
theorem dm_PP_part_92 : decode bm_PP_part 92 = .ok (.ireturn, 1) := by decide +kernel
set_option maxHeartbeats 4000000 in
set_option maxRecDepth 100000 in
theorem mm_PP_part (l : Launch) (D : va_G) (k : ClassId × ClassId × ClassId) (g : Nat → Nat) (σ : st_T) {P : Nat} (hw : st_wf P σ) (hpl : pl_ok σ) (hcc : σ 203 1 ≤ 15) {a b0 : Int32} : mt_I l D k g ym_PP_part wm_PP_part rm_PP_part [.ref (g 0), .int a, .int b0] σ (fun r σ1 => (¬ (∃ n, n < σ 203 1 ∧ a = nI n) ∧ r = -1 ∧ σ1 = σ) ∨ ∃ a0, (a0 < σ 203 1 ∧ a = nI a0) ∧ r = pv_r (pv_t σ a0) b0 ∧ σ1 = σ) := by
  refine ct_I_in (cc := bm_PP_part) (maxL := 4) (by decide) rfl (Nat.le_of_ble_eq_true rfl) ?_
  intro p e s m args below meth c A ls Q S hl hW hret
  have S : pw_S p m c bm_PP_part 4 s args wa_g rc_PP D cl_s (ty_s k) := S
  have hx := S.1.1
  have hb := S.1.2.1
  have hl : lv_has ls 4 [(0, .ref (g (0))), (1, .int (a)), (2, .int (b0))] := hl
  refine lv_aload_n hx hb dm_PP_part_0 rfl (lv_at hl 0 rfl) ?_
  refine lv_iload_n hx hb dm_PP_part_1 rfl (lv_at hl 1 rfl) ?_
  refine pw_callVI (rest := []) S hW (mm_PP_isNoPart l D k g σ (x := a) hcc) (cv_PP_130 S.1.2.2.2.2 ⟨by decide, by decide⟩) (by decide) en_PP rfl rfl hl.1 rfl (lv_room (Nat.le_of_ble_eq_true rfl)) ⟨Nat.zero_le _, Nat.zero_le _⟩ dm_PP_part_2 (fun r σ1 H locs hp hW => ?_)
  obtain ⟨hp, h9⟩ := hp
  rw [h9] at hW
  rcases hp with ⟨hr, a0, ha0, rfl⟩ | ⟨hr, hno⟩
  · subst hr
    have hl : lv_has ls 4 [(0, .ref (g (0))), (1, .int (nI (a0))), (2, .int (b0))] := hl
    refine wi_if_eq (tgt := 10) S (nn_T (by omega)) dm_PP_part_5 (by decide) (fun hc => ?_) (fun hc => ?_)
    · refine lv_aload_n hx hb dm_PP_part_10 rfl (lv_at hl 0 rfl) ?_
      refine pp_parts S hW (wa_in 247 (by decide +kernel) rfl) dm_PP_part_11 ?_
      refine ps_list S hW (wa_in 179 (by decide +kernel) rfl) dm_PP_part_14 ?_
      refine lv_iload_n hx hb dm_PP_part_17 rfl (lv_at hl 1 rfl) ?_
      refine li_ald S hW (by omega) dm_PP_part_18 ?_
      refine lv_astore_n hx hb dm_PP_part_19 rfl hl (by decide) rfl (fun ls hl => ?_)
      have hl : lv_has ls 4 [(3, .ref (g (σ 204 (a0)))), (0, .ref (g (0))), (1, .int (nI (a0))), (2, .int (b0))] := hl
      refine lv_iload_n hx hb dm_PP_part_20 rfl (lv_at hl 3 rfl) ?_
      have kj := kd_pa (hpl.1 a0 (by omega))
      by_cases hs : 0 ≤ b0.toInt ∧ b0.toInt ≤ 2
      · have h3 : b0.toInt = 0 ∨ b0.toInt = 1 ∨ b0.toInt = 2 := by omega
        rcases h3 with h3 | h3 | h3
        · refine lv_tableIn (off := 27) (tgt := 48) hx hb dm_PP_part_21 (by omega) (by omega) (by rw [h3]; decide) (by decide) ?_
          refine lv_aload_n hx hb dm_PP_part_48 rfl (lv_at hl 0 rfl) ?_
          refine pt_often S hW (hpl.1 (a0) (by omega)) (wa_in 165 (by decide +kernel) rfl) dm_PP_part_49 ?_
          exact hret _ _ _ _ _ _ dm_PP_part_52 (Or.inr ⟨a0, ⟨ha0, rfl⟩, by unfold pv_r; rw [if_pos h3]; rfl, rfl⟩) hW
        · refine lv_tableIn (off := 32) (tgt := 53) hx hb dm_PP_part_21 (by omega) (by omega) (by rw [h3]; decide) (by decide) ?_
          refine lv_aload_n hx hb dm_PP_part_53 rfl (lv_at hl 0 rfl) ?_
          refine pt_each S hW (hpl.1 (a0) (by omega)) (wa_in 168 (by decide +kernel) rfl) dm_PP_part_54 ?_
          exact hret _ _ _ _ _ _ dm_PP_part_57 (Or.inr ⟨a0, ⟨ha0, rfl⟩, by unfold pv_r; rw [if_neg (by omega), if_pos h3]; rfl, rfl⟩) hW
        · refine lv_tableIn (off := 37) (tgt := 58) hx hb dm_PP_part_21 (by omega) (by omega) (by rw [h3]; decide) (by decide) ?_
          refine lv_aload_n hx hb dm_PP_part_58 rfl (lv_at hl 0 rfl) ?_
          refine pt_poly S hW (hpl.1 (a0) (by omega)) (wa_in 163 (by decide +kernel) rfl) dm_PP_part_59 ?_
          refine po_getd S hW (kd_p4 (hpl.1 (a0) (by omega))) (wa_in 51 (by decide +kernel) rfl) dm_PP_part_62 ?_
          exact hret _ _ _ _ _ _ dm_PP_part_65 (Or.inr ⟨a0, ⟨ha0, rfl⟩, by unfold pv_r; rw [if_neg (by omega), if_neg (by omega), if_pos h3]; exact congrArg sd_i (hw.2 _ kj.1).2, rfl⟩) hW
      · refine lv_tableOut (tgt := 66) hx hb dm_PP_part_21 (by omega) (by decide) ?_
        refine lv_iload_n hx hb dm_PP_part_66 rfl (lv_at hl 3 rfl) ?_
        refine lv_bipush (v := nI (100)) hx hb dm_PP_part_67 (by decide) ?_
        refine wi_icmp_lt (tgt := 78) S rfl (nn_T (by omega)) dm_PP_part_69 (by decide) (fun hc => ?_) (fun hc => ?_)
        · refine lv_iconst (v := -1) hx hb dm_PP_part_78 (by decide) ?_
          exact hret _ _ _ _ _ _ dm_PP_part_79 (Or.inr ⟨a0, ⟨ha0, rfl⟩, (pv_no (by omega) (by omega) _).symm, rfl⟩) hW
        · refine lv_iload_n hx hb dm_PP_part_72 rfl (lv_at hl 3 rfl) ?_
          refine lv_bipush (v := nI (115)) hx hb dm_PP_part_73 (by decide) ?_
          refine wi_icmp_le (tgt := 80) S rfl (nn_T (by omega)) dm_PP_part_75 (by decide) (fun hc => ?_) (fun hc => ?_)
          · refine lv_aload_n hx hb dm_PP_part_80 rfl (lv_at hl 0 rfl) ?_
            refine pt_poly S hW (hpl.1 (a0) (by omega)) (wa_in 163 (by decide +kernel) rfl) dm_PP_part_81 ?_
            refine po_getc S hW (kd_p4 (hpl.1 (a0) (by omega))) (wa_in 42 (by decide +kernel) rfl) dm_PP_part_84 ?_
            refine lv_iload_n hx hb dm_PP_part_87 rfl (lv_at hl 3 rfl) ?_
            refine lv_bipush (v := nI (100)) hx hb dm_PP_part_88 (by decide) ?_
            refine lv_isub hx hb dm_PP_part_90 ?_
            rw [pv_sub (by omega) (by omega)]
            refine po_ald S hW (kd_p4 (hpl.1 (a0) (by omega))) (by omega) dm_PP_part_91 ?_
            exact hret _ _ _ _ _ _ dm_PP_part_92 (Or.inr ⟨a0, ⟨ha0, rfl⟩, (pv_co (by omega) (by omega) (pv_t σ a0)).symm, rfl⟩) hW
          · refine lv_iconst (v := -1) hx hb dm_PP_part_78 (by decide) ?_
            exact hret _ _ _ _ _ _ dm_PP_part_79 (Or.inr ⟨a0, ⟨ha0, rfl⟩, (pv_no (by omega) (by omega) _).symm, rfl⟩) hW
    · exfalso
      omega
  · subst hr
    refine wi_if_eq (tgt := 10) S (nn_T (by omega)) dm_PP_part_5 (by decide) (fun hc => ?_) (fun hc => ?_)
    · exfalso
      omega
    · refine lv_iconst (v := -1) hx hb dm_PP_part_8 (by decide) ?_
      exact hret _ _ _ _ _ _ dm_PP_part_9 (Or.inl ⟨fun z => hno z, rfl, rfl⟩) hW
theorem dm_PP_product_0 : decode bm_PP_product 0 = .ok (.iload_n 1, 1) := by decide +kernel
theorem dm_PP_product_1 : decode bm_PP_product 1 = .ok (.invokestatic 58, 3) := by decide +kernel
theorem dm_PP_product_4 : decode bm_PP_product 4 = .ok (.ifCond .ne 13, 3) := by decide +kernel
theorem dm_PP_product_7 : decode bm_PP_product 7 = .ok (.aload_n 0, 1) := by decide +kernel
theorem dm_PP_product_8 : decode bm_PP_product 8 = .ok (.getfield 36, 3) := by decide +kernel
theorem dm_PP_product_11 : decode bm_PP_product 11 = .ok (.invokevirtual 156, 3) := by decide +kernel
theorem dm_PP_product_14 : decode bm_PP_product 14 = .ok (.ifCond .ne 5, 3) := by decide +kernel
theorem dm_PP_product_17 : decode bm_PP_product 17 = .ok (.iconst (-1), 1) := by decide +kernel
theorem dm_PP_product_18 : decode bm_PP_product 18 = .ok (.ireturn, 1) := by decide +kernel
theorem dm_PP_product_19 : decode bm_PP_product 19 = .ok (.aload_n 0, 1) := by decide +kernel
theorem dm_PP_product_20 : decode bm_PP_product 20 = .ok (.getfield 36, 3) := by decide +kernel
theorem dm_PP_product_23 : decode bm_PP_product 23 = .ok (.aload_n 0, 1) := by decide +kernel
theorem dm_PP_product_24 : decode bm_PP_product 24 = .ok (.getfield 49, 3) := by decide +kernel
theorem dm_PP_product_27 : decode bm_PP_product 27 = .ok (.iload_n 1, 1) := by decide +kernel
theorem dm_PP_product_28 : decode bm_PP_product 28 = .ok (.aaload, 1) := by decide +kernel
theorem dm_PP_product_29 : decode bm_PP_product 29 = .ok (.invokevirtual 159, 3) := by decide +kernel
theorem dm_PP_product_32 : decode bm_PP_product 32 = .ok (.aload_n 0, 1) := by decide +kernel
theorem dm_PP_product_33 : decode bm_PP_product 33 = .ok (.iload_n 1, 1) := by decide +kernel
theorem dm_PP_product_34 : decode bm_PP_product 34 = .ok (.invokevirtual 85, 3) := by decide +kernel
theorem dm_PP_product_37 : decode bm_PP_product 37 = .ok (.ireturn, 1) := by decide +kernel
set_option maxHeartbeats 4000000 in
set_option maxRecDepth 100000 in
theorem mm_PP_product (l : Launch) (D : va_G) (k : ClassId × ClassId × ClassId) (g : Nat → Nat) (σ : st_T) {P : Nat} (hw : st_wf P σ) (hP : ag_pr P) (hP31 : P < 2147483648) (hrg : ∀ n, n < 8 → σ 200 (133 + 2 * n) ≤ 16) (hpl : pl_ok σ) (hld : σ 203 2 < P) (hcc : σ 203 1 ≤ 15) (hsz : 1 + wh_s (pl_v σ) ≤ 16) (hpos : ∀ t, t < σ 203 1 → 0 < sp_sz (pv_t σ t).2.2 31) (hoft : ∀ t, t < σ 203 1 → (pv_t σ t).1 ≤ 15) {a : Int32} : mt_I l D k g ym_PP_product wm_PP_product rm_PP_product [.ref (g 0), .int a] σ (fun r σ1 => (¬ (rk_r a) ∧ r = -1 ∧ σ1 = σ) ∨ ∃ a0, (a0 < 8 ∧ a = nI a0) ∧ ((σ 203 2 = 0 ∧ r = -1 ∧ σ1 = σ) ∨ (σ 203 2 ≠ 0 ∧ r = nI (sp_sz (σ1 (133 + 2 * a0)) 31) ∧ st_wf P σ1 ∧ σ1 (133 + 2 * a0) = wh_l P (pl_v σ) (va_up (fun _ => 0) 0 (σ 203 2)) ∧ st_sm [(133 + 2 * a0), 2] σ σ1))) := by
  refine ct_I_in (cc := bm_PP_product) (maxL := 2) (by decide) rfl (Nat.le_of_ble_eq_true rfl) ?_
  intro p e s m args below meth c A ls Q S hl hW hret
  have S : pw_S p m c bm_PP_product 2 s args wa_g rc_PP D cl_s (ty_s k) := S
  have hx := S.1.1
  have hb := S.1.2.1
  have hl : lv_has ls 2 [(0, .ref (g (0))), (1, .int (a))] := hl
  have hP2 := hP.1
  refine lv_iload_n hx hb dm_PP_product_0 rfl (lv_at hl 1 rfl) ?_
  refine pw_callSI (rest := []) S hW (mm_PP_isNoRegister l D k g σ (x := a)) (cv_PP_58 S.1.2.2.2.2 ⟨by decide, by decide⟩) rfl hl.1 rfl (lv_room (Nat.le_of_ble_eq_true rfl)) ⟨Nat.zero_le _, Nat.zero_le _⟩ dm_PP_product_1 (fun r σ1 H locs hp hW => ?_)
  obtain ⟨hp, h9⟩ := hp
  rw [h9] at hW
  rcases hp with ⟨hr, a0, ha0, rfl⟩ | ⟨hr, hno⟩
  · subst hr
    have hl : lv_has ls 2 [(0, .ref (g (0))), (1, .int (nI (a0)))] := hl
    refine wi_if_ne (tgt := 17) S (nn_T (by omega)) dm_PP_product_4 (by decide) (fun hc => ?_) (fun hc => ?_)
    · exfalso
      omega
    · refine lv_aload_n hx hb dm_PP_product_7 rfl (lv_at hl 0 rfl) ?_
      refine pp_parts S hW (wa_in 247 (by decide +kernel) rfl) dm_PP_product_8 ?_
      refine pw_callVI (rest := []) S hW (mm_Parts_wereMade l D k g σ (by omega)) (cv_PP_156 S.1.2.2.2.2 ⟨by decide, by decide⟩) (by decide) en_Parts rfl rfl hl.1 rfl (lv_room (Nat.le_of_ble_eq_true rfl)) ⟨Nat.zero_le _, Nat.zero_le _⟩ dm_PP_product_11 (fun r σ1 H locs hp hW => ?_)
      obtain ⟨hr, hp⟩ := hp
      rw [hp] at hW
      subst hr
      by_cases hzz : σ 203 2 = 0
      · rw [if_pos hzz]
        refine wi_if_ne (tgt := 19) S (nn_T (by omega)) dm_PP_product_14 (by decide) (fun hc => ?_) (fun hc => ?_)
        · exfalso
          omega
        · refine lv_iconst (v := -1) hx hb dm_PP_product_17 (by decide) ?_
          exact hret _ _ _ _ _ _ dm_PP_product_18 (Or.inr ⟨a0, ⟨ha0, rfl⟩, Or.inl ⟨hzz, rfl, rfl⟩⟩) hW
      · rw [if_neg hzz]
        refine wi_if_ne (tgt := 19) S (nn_T (by omega)) dm_PP_product_14 (by decide) (fun hc => ?_) (fun hc => ?_)
        · refine lv_aload_n hx hb dm_PP_product_19 rfl (lv_at hl 0 rfl) ?_
          refine pp_parts S hW (wa_in 247 (by decide +kernel) rfl) dm_PP_product_20 ?_
          refine lv_aload_n hx hb dm_PP_product_23 rfl (lv_at hl 0 rfl) ?_
          refine pp_registers S hW (wa_in 249 (by decide +kernel) rfl) dm_PP_product_24 ?_
          refine lv_iload_n hx hb dm_PP_product_27 rfl (lv_at hl 1 rfl) ?_
          refine ra_ald S hW (by omega) dm_PP_product_28 ?_
          refine pw_callV (rest := []) S hW (mm_Parts_wholeInto l D k g σ hw hP2 hP31 hpl (kd_rg ha0) (by omega) (fun z => by have h9 := (by decide : ∀ x ∈ pt_P, x < 117) _ z; omega) hld hcc hsz hpos hoft) (cv_PP_159 S.1.2.2.2.2 ⟨by decide, by decide⟩) (by decide) en_Parts rfl rfl hl.1 rfl (lv_room (Nat.le_of_ble_eq_true rfl)) ⟨Nat.zero_le _, Nat.zero_le _⟩ dm_PP_product_29 (fun σ2 H locs hp2 hW => ?_)
          obtain ⟨w2, e2, s2⟩ := hp2
          refine lv_aload_n hx hb dm_PP_product_32 rfl (lv_at hl 0 rfl) ?_
          refine lv_iload_n hx hb dm_PP_product_33 rfl (lv_at hl 1 rfl) ?_
          refine pw_callVI (rest := []) S hW (mm_PP_sizeOf l D k g σ2 (n := a0) ha0) (cv_PP_85 S.1.2.2.2.2 ⟨by decide, by decide⟩) (by decide) en_PP rfl rfl hl.1 rfl (lv_room (Nat.le_of_ble_eq_true rfl)) ⟨Nat.zero_le _, Nat.zero_le _⟩ dm_PP_product_34 (fun r σ9 H locs hp hW => ?_)
          obtain ⟨hr, hp⟩ := hp
          rw [hp] at hW
          subst hr
          exact hret _ _ _ _ _ _ dm_PP_product_37 (Or.inr ⟨a0, ⟨ha0, rfl⟩, Or.inr ⟨hzz, by rw [(w2.2 _ (kd_rg ha0)).2], w2, e2, s2⟩⟩) hW
        · exfalso
          omega
  · subst hr
    refine wi_if_ne (tgt := 17) S (nn_T (by omega)) dm_PP_product_4 (by decide) (fun hc => ?_) (fun hc => ?_)
    · refine lv_iconst (v := -1) hx hb dm_PP_product_17 (by decide) ?_
      exact hret _ _ _ _ _ _ dm_PP_product_18 (Or.inl ⟨fun z => hno z, rfl, rfl⟩) hW
    · exfalso
      omega
theorem dm_PP_field_0 : decode bm_PP_field 0 = .ok (.iload_n 1, 1) := by decide +kernel
theorem dm_PP_field_1 : decode bm_PP_field 1 = .ok (.invokestatic 58, 3) := by decide +kernel
theorem dm_PP_field_4 : decode bm_PP_field 4 = .ok (.ifCond .eq 5, 3) := by decide +kernel
theorem dm_PP_field_7 : decode bm_PP_field 7 = .ok (.iconst (-1), 1) := by decide +kernel
theorem dm_PP_field_8 : decode bm_PP_field 8 = .ok (.ireturn, 1) := by decide +kernel
theorem dm_PP_field_9 : decode bm_PP_field 9 = .ok (.aload_n 0, 1) := by decide +kernel
theorem dm_PP_field_10 : decode bm_PP_field 10 = .ok (.getfield 49, 3) := by decide +kernel
theorem dm_PP_field_13 : decode bm_PP_field 13 = .ok (.iload_n 1, 1) := by decide +kernel
theorem dm_PP_field_14 : decode bm_PP_field 14 = .ok (.aaload, 1) := by decide +kernel
theorem dm_PP_field_15 : decode bm_PP_field 15 = .ok (.astore_n 2, 1) := by decide +kernel
theorem dm_PP_field_16 : decode bm_PP_field 16 = .ok (.aload_n 2, 1) := by decide +kernel
theorem dm_PP_field_17 : decode bm_PP_field 17 = .ok (.invokevirtual 162, 3) := by decide +kernel
theorem dm_PP_field_20 : decode bm_PP_field 20 = .ok (.ifCond .eq 14, 3) := by decide +kernel
theorem dm_PP_field_23 : decode bm_PP_field 23 = .ok (.aload_n 0, 1) := by decide +kernel
theorem dm_PP_field_24 : decode bm_PP_field 24 = .ok (.getfield 27, 3) := by decide +kernel
theorem dm_PP_field_27 : decode bm_PP_field 27 = .ok (.aload_n 2, 1) := by decide +kernel
theorem dm_PP_field_28 : decode bm_PP_field 28 = .ok (.invokevirtual 119, 3) := by decide +kernel
theorem dm_PP_field_31 : decode bm_PP_field 31 = .ok (.ifCond .ne 5, 3) := by decide +kernel
theorem dm_PP_field_34 : decode bm_PP_field 34 = .ok (.iconst (-1), 1) := by decide +kernel
theorem dm_PP_field_35 : decode bm_PP_field 35 = .ok (.ireturn, 1) := by decide +kernel
theorem dm_PP_field_36 : decode bm_PP_field 36 = .ok (.aload_n 0, 1) := by decide +kernel
theorem dm_PP_field_37 : decode bm_PP_field 37 = .ok (.getfield 43, 3) := by decide +kernel
theorem dm_PP_field_40 : decode bm_PP_field 40 = .ok (.getfield 165, 3) := by decide +kernel
theorem dm_PP_field_43 : decode bm_PP_field 43 = .ok (.aload_n 2, 1) := by decide +kernel
theorem dm_PP_field_44 : decode bm_PP_field 44 = .ok (.invokevirtual 168, 3) := by decide +kernel
theorem dm_PP_field_47 : decode bm_PP_field 47 = .ok (.aload_n 2, 1) := by decide +kernel
theorem dm_PP_field_48 : decode bm_PP_field 48 = .ok (.getfield 75, 3) := by decide +kernel
theorem dm_PP_field_51 : decode bm_PP_field 51 = .ok (.ireturn, 1) := by decide +kernel
set_option maxHeartbeats 4000000 in
set_option maxRecDepth 100000 in
theorem mm_PP_field (l : Launch) (D : va_G) (k : ClassId × ClassId × ClassId) (g : Nat → Nat) (σ : st_T) {P : Nat} (hw : st_wf P σ) (hP : ag_pr P) (hP31 : P < 2147483648) (hrg : ∀ n, n < 8 → σ 200 (133 + 2 * n) ≤ 16) (hx21 : σ 21 = sp_x) {a : Int32} : mt_I l D k g ym_PP_field wm_PP_field rm_PP_field [.ref (g 0), .int a] σ (fun r σ1 => (¬ (rk_r a) ∧ r = -1 ∧ σ1 = σ) ∨ ∃ a0, (a0 < 8 ∧ a = nI a0) ∧ ((¬ (st_ld σ (133 + 2 * a0) = 1 ∧ fp_T P (σ (133 + 2 * a0))) ∧ r = -1 ∧ st_wf P σ1 ∧ st_sm fb_Y σ σ1) ∨ ((st_ld σ (133 + 2 * a0) = 1 ∧ fp_T P (σ (133 + 2 * a0))) ∧ r = sd_i (sp_sz (σ (133 + 2 * a0)) 31) ∧ st_wf P σ1 ∧ σ1 118 = σ (133 + 2 * a0) ∧ st_sm (118 :: fb_Y) σ σ1))) := by
  refine ct_I_in (cc := bm_PP_field) (maxL := 3) (by decide) rfl (Nat.le_of_ble_eq_true rfl) ?_
  intro p e s m args below meth c A ls Q S hl hW hret
  have S : pw_S p m c bm_PP_field 3 s args wa_g rc_PP D cl_s (ty_s k) := S
  have hx := S.1.1
  have hb := S.1.2.1
  have hl : lv_has ls 3 [(0, .ref (g (0))), (1, .int (a))] := hl
  refine lv_iload_n hx hb dm_PP_field_0 rfl (lv_at hl 1 rfl) ?_
  refine pw_callSI (rest := []) S hW (mm_PP_isNoRegister l D k g σ (x := a)) (cv_PP_58 S.1.2.2.2.2 ⟨by decide, by decide⟩) rfl hl.1 rfl (lv_room (Nat.le_of_ble_eq_true rfl)) ⟨Nat.zero_le _, Nat.zero_le _⟩ dm_PP_field_1 (fun r σ1 H locs hp hW => ?_)
  obtain ⟨hp, h9⟩ := hp
  rw [h9] at hW
  rcases hp with ⟨hr, a0, ha0, rfl⟩ | ⟨hr, hno⟩
  · subst hr
    have hl : lv_has ls 3 [(0, .ref (g (0))), (1, .int (nI (a0)))] := hl
    refine wi_if_eq (tgt := 9) S (nn_T (by omega)) dm_PP_field_4 (by decide) (fun hc => ?_) (fun hc => ?_)
    · have h16 := hrg a0 ha0
      refine lv_aload_n hx hb dm_PP_field_9 rfl (lv_at hl 0 rfl) ?_
      refine pp_registers S hW (wa_in 249 (by decide +kernel) rfl) dm_PP_field_10 ?_
      refine lv_iload_n hx hb dm_PP_field_13 rfl (lv_at hl 1 rfl) ?_
      refine ra_ald S hW (by omega) dm_PP_field_14 ?_
      refine lv_astore_n hx hb dm_PP_field_15 rfl hl (by decide) rfl (fun ls hl => ?_)
      have hl : lv_has ls 3 [(2, .ref (g (133 + 2 * (a0)))), (0, .ref (g (0))), (1, .int (nI (a0)))] := hl
      refine lv_aload_n hx hb dm_PP_field_16 rfl (lv_at hl 0 rfl) ?_
      refine pw_callVI (rest := []) S hW (mm_Poly_isMonic l D k g σ (kd_rg ha0) (by omega) (fun i => by have := st_wf_lt hw (kd_rg ha0) i; omega)) (cv_PP_162 S.1.2.2.2.2 ⟨by decide, by decide⟩) (kd_p1 (kd_rg (r := a0) (by omega))) (en_k0 (kd_rg (r := a0) (by omega))) rfl rfl hl.1 rfl (lv_room (Nat.le_of_ble_eq_true rfl)) ⟨Nat.zero_le _, Nat.zero_le _⟩ dm_PP_field_17 (fun r σ1 H locs hp hW => ?_)
      obtain ⟨hr, hp⟩ := hp
      rw [hp] at hW
      subst hr
      by_cases hm : st_ld σ (133 + 2 * a0) = 1
      · rw [if_pos hm]
        refine wi_if_eq (tgt := 34) S (nn_T (by omega)) dm_PP_field_20 (by decide) (fun hc => ?_) (fun hc => ?_)
        · exfalso
          omega
        · refine lv_aload_n hx hb dm_PP_field_23 rfl (lv_at hl 1 rfl) ?_
          refine pp_frobenius S hW (wa_in 246 (by decide +kernel) rfl) dm_PP_field_24 ?_
          refine lv_aload_n hx hb dm_PP_field_27 rfl (lv_at hl 0 rfl) ?_
          refine pw_callVI (rest := []) S hW (mm_Frob_findsPrime l D k g σ hw hP hP31 (kd_rg ha0) hx21 (hrg a0 ha0) (fun z => by have h9 := (by decide : ∀ x ∈ fb_Y, x < 61) _ z; omega)) (cv_PP_119 S.1.2.2.2.2 ⟨by decide, by decide⟩) (by decide) en_Frob rfl rfl hl.1 rfl (lv_room (Nat.le_of_ble_eq_true rfl)) ⟨Nat.zero_le _, Nat.zero_le _⟩ dm_PP_field_28 (fun r σ2 H locs hp2 hW => ?_)
          obtain ⟨hp2, w2, s2⟩ := hp2
          rcases hp2 with ⟨hr, hT⟩ | ⟨hr, hT⟩
          · subst hr
            refine wi_if_ne (tgt := 36) S (nn_T (by omega)) dm_PP_field_31 (by decide) (fun hc => ?_) (fun hc => ?_)
            · refine lv_aload_n hx hb dm_PP_field_36 rfl (lv_at hl 1 rfl) ?_
              refine pp_field S hW (wa_in 248 (by decide +kernel) rfl) dm_PP_field_37 ?_
              refine fd_base S hW (wa_in 217 (by decide +kernel) rfl) dm_PP_field_40 ?_
              refine lv_aload_n hx hb dm_PP_field_43 rfl (lv_at hl 0 rfl) ?_
              have e2a : σ2 (133 + 2 * a0) = σ (133 + 2 * a0) := s2 _ (fun z => by have h9 := (by decide : ∀ x ∈ fb_Y, x < 61) _ z; omega) (by omega)
              refine pw_callV (rest := []) S hW (mm_Poly_copyFrom l D k g σ2 w2 (kd_rg ha0) (j := 118) rfl) (cv_PP_168 S.1.2.2.2.2 ⟨by decide, by decide⟩) (kd_p1 rfl) (en_k0 rfl) rfl rfl hl.1 rfl (lv_room (Nat.le_of_ble_eq_true rfl)) ⟨Nat.zero_le _, Nat.zero_le _⟩ dm_PP_field_44 (fun σ3 H locs hp3 hW => ?_)
              rw [hp3, e2a] at hW
              have w3 : st_wf P (st_po σ2 118 (σ (133 + 2 * a0))) := st_wf_po w2 (j := 118) rfl (hw.2 _ (kd_rg ha0)).1
              have z3 : (st_po σ2 118 (σ (133 + 2 * a0))) 200 (133 + 2 * a0) = sp_sz (σ (133 + 2 * a0)) 31 := by rw [(w3.2 _ (kd_rg ha0)).2, st_po_row (by omega) (by omega), e2a]
              refine lv_aload_n hx hb dm_PP_field_47 rfl (lv_at hl 0 rfl) ?_
              refine po_getd S hW (kd_rg (r := a0) (by omega)) (wa_in 51 (by decide +kernel) rfl) dm_PP_field_48 ?_
              rw [z3]
              exact hret _ _ _ _ _ _ dm_PP_field_51 (Or.inr ⟨a0, ⟨ha0, rfl⟩, Or.inr ⟨⟨hm, hT⟩, rfl, w3, st_po_at, st_sm_tr s2 (st_sm_po _ 118 _) (by decide) (by decide)⟩⟩) hW
            · exfalso
              omega
          · subst hr
            refine wi_if_ne (tgt := 36) S (nn_T (by omega)) dm_PP_field_31 (by decide) (fun hc => ?_) (fun hc => ?_)
            · exfalso
              omega
            · refine lv_iconst (v := -1) hx hb dm_PP_field_34 (by decide) ?_
              exact hret _ _ _ _ _ _ dm_PP_field_35 (Or.inr ⟨a0, ⟨ha0, rfl⟩, Or.inl ⟨fun z => hT z.2, rfl, w2, s2⟩⟩) hW
      · rw [if_neg hm]
        refine wi_if_eq (tgt := 34) S (nn_T (by omega)) dm_PP_field_20 (by decide) (fun hc => ?_) (fun hc => ?_)
        · refine lv_iconst (v := -1) hx hb dm_PP_field_34 (by decide) ?_
          exact hret _ _ _ _ _ _ dm_PP_field_35 (Or.inr ⟨a0, ⟨ha0, rfl⟩, Or.inl ⟨fun z => hm z.1, rfl, hw, st_sm_rf _ _⟩⟩) hW
        · exfalso
          omega
    · exfalso
      omega
  · subst hr
    refine wi_if_eq (tgt := 9) S (nn_T (by omega)) dm_PP_field_4 (by decide) (fun hc => ?_) (fun hc => ?_)
    · exfalso
      omega
    · refine lv_iconst (v := -1) hx hb dm_PP_field_7 (by decide) ?_
      exact hret _ _ _ _ _ _ dm_PP_field_8 (Or.inl ⟨fun z => hno z, rfl, rfl⟩) hW
theorem dm_PP_times_0 : decode bm_PP_times 0 = .ok (.iload_n 1, 1) := by decide +kernel
theorem dm_PP_times_1 : decode bm_PP_times 1 = .ok (.invokestatic 58, 3) := by decide +kernel
theorem dm_PP_times_4 : decode bm_PP_times 4 = .ok (.ifCond .ne 27, 3) := by decide +kernel
theorem dm_PP_times_7 : decode bm_PP_times 7 = .ok (.iload_n 2, 1) := by decide +kernel
theorem dm_PP_times_8 : decode bm_PP_times 8 = .ok (.invokestatic 58, 3) := by decide +kernel
theorem dm_PP_times_11 : decode bm_PP_times 11 = .ok (.ifCond .ne 20, 3) := by decide +kernel
theorem dm_PP_times_14 : decode bm_PP_times 14 = .ok (.iload_n 3, 1) := by decide +kernel
theorem dm_PP_times_15 : decode bm_PP_times 15 = .ok (.invokestatic 58, 3) := by decide +kernel
theorem dm_PP_times_18 : decode bm_PP_times 18 = .ok (.ifCond .ne 13, 3) := by decide +kernel
theorem dm_PP_times_21 : decode bm_PP_times 21 = .ok (.aload_n 0, 1) := by decide +kernel
theorem dm_PP_times_22 : decode bm_PP_times 22 = .ok (.getfield 43, 3) := by decide +kernel
theorem dm_PP_times_25 : decode bm_PP_times 25 = .ok (.invokevirtual 171, 3) := by decide +kernel
theorem dm_PP_times_28 : decode bm_PP_times 28 = .ok (.ifCond .ne 5, 3) := by decide +kernel
theorem dm_PP_times_31 : decode bm_PP_times 31 = .ok (.iconst (-1), 1) := by decide +kernel
theorem dm_PP_times_32 : decode bm_PP_times 32 = .ok (.ireturn, 1) := by decide +kernel
theorem dm_PP_times_33 : decode bm_PP_times 33 = .ok (.aload_n 0, 1) := by decide +kernel
theorem dm_PP_times_34 : decode bm_PP_times 34 = .ok (.getfield 18, 3) := by decide +kernel
theorem dm_PP_times_37 : decode bm_PP_times 37 = .ok (.aload_n 0, 1) := by decide +kernel
theorem dm_PP_times_38 : decode bm_PP_times 38 = .ok (.getfield 49, 3) := by decide +kernel
theorem dm_PP_times_41 : decode bm_PP_times 41 = .ok (.iload_n 1, 1) := by decide +kernel
theorem dm_PP_times_42 : decode bm_PP_times 42 = .ok (.aaload, 1) := by decide +kernel
theorem dm_PP_times_43 : decode bm_PP_times 43 = .ok (.aload_n 0, 1) := by decide +kernel
theorem dm_PP_times_44 : decode bm_PP_times 44 = .ok (.getfield 49, 3) := by decide +kernel
theorem dm_PP_times_47 : decode bm_PP_times 47 = .ok (.iload_n 2, 1) := by decide +kernel
theorem dm_PP_times_48 : decode bm_PP_times 48 = .ok (.aaload, 1) := by decide +kernel
theorem dm_PP_times_49 : decode bm_PP_times 49 = .ok (.aload_n 0, 1) := by decide +kernel
theorem dm_PP_times_50 : decode bm_PP_times 50 = .ok (.getfield 49, 3) := by decide +kernel
theorem dm_PP_times_53 : decode bm_PP_times 53 = .ok (.iload_n 3, 1) := by decide +kernel
theorem dm_PP_times_54 : decode bm_PP_times 54 = .ok (.aaload, 1) := by decide +kernel
theorem dm_PP_times_55 : decode bm_PP_times 55 = .ok (.aload_n 0, 1) := by decide +kernel
theorem dm_PP_times_56 : decode bm_PP_times 56 = .ok (.getfield 43, 3) := by decide +kernel
theorem dm_PP_times_59 : decode bm_PP_times 59 = .ok (.getfield 165, 3) := by decide +kernel
theorem dm_PP_times_62 : decode bm_PP_times 62 = .ok (.invokevirtual 174, 3) := by decide +kernel
theorem dm_PP_times_65 : decode bm_PP_times 65 = .ok (.aload_n 0, 1) := by decide +kernel
theorem dm_PP_times_66 : decode bm_PP_times 66 = .ok (.iload_n 1, 1) := by decide +kernel
theorem dm_PP_times_67 : decode bm_PP_times 67 = .ok (.invokevirtual 85, 3) := by decide +kernel
theorem dm_PP_times_70 : decode bm_PP_times 70 = .ok (.ireturn, 1) := by decide +kernel
set_option maxHeartbeats 4000000 in
set_option maxRecDepth 100000 in
theorem mm_PP_times (l : Launch) (D : va_G) (k : ClassId × ClassId × ClassId) (g : Nat → Nat) (σ : st_T) {P : Nat} (hw : st_wf P σ) (hP : ag_pr P) (hP31 : P < 2147483648) (hrg : ∀ n, n < 8 → σ 200 (133 + 2 * n) ≤ 16) (hf16 : σ 200 118 ≤ 16) {d x y : Int32} : mt_I l D k g ym_PP_times wm_PP_times rm_PP_times [.ref (g 0), .int d, .int x, .int y] σ (fun r σ1 => (¬ (rk_r d ∧ rk_r x ∧ rk_r y) ∧ r = -1 ∧ σ1 = σ) ∨ ∃ d0 x0 y0, (d0 < 8 ∧ d = nI d0) ∧ (x0 < 8 ∧ x = nI x0) ∧ (y0 < 8 ∧ y = nI y0) ∧ ((sp_sz (σ 118) 31 = 0 ∧ r = -1 ∧ σ1 = σ) ∨ (0 < sp_sz (σ 118) 31 ∧ r = nI (sp_sz (σ1 (133 + 2 * d0)) 31) ∧ st_wf P σ1 ∧ σ1 (133 + 2 * d0) = sp_rest P (sp_mul P (σ (133 + 2 * x0)) (σ (133 + 2 * y0))) (σ 118) ∧ st_sm [(133 + 2 * d0), 2, 4, 6] σ σ1))) := by
  refine ct_I_in (cc := bm_PP_times) (maxL := 4) (by decide) rfl (Nat.le_of_ble_eq_true rfl) ?_
  intro p e s m args below meth c A ls Q S hl hW hret
  have S : pw_S p m c bm_PP_times 4 s args wa_g rc_PP D cl_s (ty_s k) := S
  have hx := S.1.1
  have hb := S.1.2.1
  have hl : lv_has ls 4 [(0, .ref (g (0))), (1, .int (d)), (2, .int (x)), (3, .int (y))] := hl
  have hzb := (hw.2 118 rfl).2
  refine lv_iload_n hx hb dm_PP_times_0 rfl (lv_at hl 1 rfl) ?_
  refine pw_callSI (rest := []) S hW (mm_PP_isNoRegister l D k g σ (x := d)) (cv_PP_58 S.1.2.2.2.2 ⟨by decide, by decide⟩) rfl hl.1 rfl (lv_room (Nat.le_of_ble_eq_true rfl)) ⟨Nat.zero_le _, Nat.zero_le _⟩ dm_PP_times_1 (fun r σ1 H locs hp hW => ?_)
  obtain ⟨hp, h9⟩ := hp
  rw [h9] at hW
  rcases hp with ⟨hr, d0, hd0, rfl⟩ | ⟨hr, hno⟩
  · subst hr
    have hl : lv_has ls 4 [(0, .ref (g (0))), (1, .int (nI (d0))), (2, .int (x)), (3, .int (y))] := hl
    refine wi_if_ne (tgt := 31) S (nn_T (by omega)) dm_PP_times_4 (by decide) (fun hc => ?_) (fun hc => ?_)
    · exfalso
      omega
    · refine lv_iload_n hx hb dm_PP_times_7 rfl (lv_at hl 2 rfl) ?_
      refine pw_callSI (rest := []) S hW (mm_PP_isNoRegister l D k g σ (x := x)) (cv_PP_58 S.1.2.2.2.2 ⟨by decide, by decide⟩) rfl hl.1 rfl (lv_room (Nat.le_of_ble_eq_true rfl)) ⟨Nat.zero_le _, Nat.zero_le _⟩ dm_PP_times_8 (fun r σ1 H locs hp hW => ?_)
      obtain ⟨hp, h9⟩ := hp
      rw [h9] at hW
      rcases hp with ⟨hr, x0, hx0, rfl⟩ | ⟨hr, hno⟩
      · subst hr
        have hl : lv_has ls 4 [(0, .ref (g (0))), (1, .int (nI (d0))), (2, .int (nI (x0))), (3, .int (y))] := hl
        refine wi_if_ne (tgt := 31) S (nn_T (by omega)) dm_PP_times_11 (by decide) (fun hc => ?_) (fun hc => ?_)
        · exfalso
          omega
        · refine lv_iload_n hx hb dm_PP_times_14 rfl (lv_at hl 3 rfl) ?_
          refine pw_callSI (rest := []) S hW (mm_PP_isNoRegister l D k g σ (x := y)) (cv_PP_58 S.1.2.2.2.2 ⟨by decide, by decide⟩) rfl hl.1 rfl (lv_room (Nat.le_of_ble_eq_true rfl)) ⟨Nat.zero_le _, Nat.zero_le _⟩ dm_PP_times_15 (fun r σ1 H locs hp hW => ?_)
          obtain ⟨hp, h9⟩ := hp
          rw [h9] at hW
          rcases hp with ⟨hr, y0, hy0, rfl⟩ | ⟨hr, hno⟩
          · subst hr
            have hl : lv_has ls 4 [(0, .ref (g (0))), (1, .int (nI (d0))), (2, .int (nI (x0))), (3, .int (nI (y0)))] := hl
            refine wi_if_ne (tgt := 31) S (nn_T (by omega)) dm_PP_times_18 (by decide) (fun hc => ?_) (fun hc => ?_)
            · exfalso
              omega
            · have hx16 := hrg x0 hx0
              have hy16 := hrg y0 hy0
              refine lv_aload_n hx hb dm_PP_times_21 rfl (lv_at hl 0 rfl) ?_
              refine pp_field S hW (wa_in 248 (by decide +kernel) rfl) dm_PP_times_22 ?_
              refine pw_callVI (rest := []) S hW (mm_Field_isMade l D k g σ (by omega)) (cv_PP_171 S.1.2.2.2.2 ⟨by decide, by decide⟩) (by decide) en_Field rfl rfl hl.1 rfl (lv_room (Nat.le_of_ble_eq_true rfl)) ⟨Nat.zero_le _, Nat.zero_le _⟩ dm_PP_times_25 (fun r σ1 H locs hp hW => ?_)
              obtain ⟨hr, hp⟩ := hp
              rw [hp] at hW
              subst hr
              by_cases hzz : σ 200 118 = 0
              · rw [if_pos hzz]
                refine wi_if_ne (tgt := 33) S (nn_T (by omega)) dm_PP_times_28 (by decide) (fun hc => ?_) (fun hc => ?_)
                · exfalso
                  omega
                · refine lv_iconst (v := -1) hx hb dm_PP_times_31 (by decide) ?_
                  exact hret _ _ _ _ _ _ dm_PP_times_32 (Or.inr ⟨d0, x0, y0, ⟨hd0, rfl⟩, ⟨hx0, rfl⟩, ⟨hy0, rfl⟩, Or.inl ⟨by omega, rfl, rfl⟩⟩) hW
              · rw [if_neg hzz]
                refine wi_if_ne (tgt := 33) S (nn_T (by omega)) dm_PP_times_28 (by decide) (fun hc => ?_) (fun hc => ?_)
                · refine lv_aload_n hx hb dm_PP_times_33 rfl (lv_at hl 0 rfl) ?_
                  refine pp_ring S hW (wa_in 245 (by decide +kernel) rfl) dm_PP_times_34 ?_
                  refine lv_aload_n hx hb dm_PP_times_37 rfl (lv_at hl 0 rfl) ?_
                  refine pp_registers S hW (wa_in 249 (by decide +kernel) rfl) dm_PP_times_38 ?_
                  refine lv_iload_n hx hb dm_PP_times_41 rfl (lv_at hl 1 rfl) ?_
                  refine ra_ald S hW (by omega) dm_PP_times_42 ?_
                  refine lv_aload_n hx hb dm_PP_times_43 rfl (lv_at hl 0 rfl) ?_
                  refine pp_registers S hW (wa_in 249 (by decide +kernel) rfl) dm_PP_times_44 ?_
                  refine lv_iload_n hx hb dm_PP_times_47 rfl (lv_at hl 2 rfl) ?_
                  refine ra_ald S hW (by omega) dm_PP_times_48 ?_
                  refine lv_aload_n hx hb dm_PP_times_49 rfl (lv_at hl 0 rfl) ?_
                  refine pp_registers S hW (wa_in 249 (by decide +kernel) rfl) dm_PP_times_50 ?_
                  refine lv_iload_n hx hb dm_PP_times_53 rfl (lv_at hl 3 rfl) ?_
                  refine ra_ald S hW (by omega) dm_PP_times_54 ?_
                  refine lv_aload_n hx hb dm_PP_times_55 rfl (lv_at hl 0 rfl) ?_
                  refine pp_field S hW (wa_in 248 (by decide +kernel) rfl) dm_PP_times_56 ?_
                  refine fd_base S hW (wa_in 217 (by decide +kernel) rfl) dm_PP_times_59 ?_
                  refine pw_callV (rest := []) S hW (mm_Ring_productRestInto l D k g σ hw hP hP31 (kd_rg hd0) (kd_rg hx0) (kd_rg hy0) (m0 := 118) rfl (by omega) (by omega) (by omega) (by omega) (by omega) (by omega) (by omega)) (cv_PP_174 S.1.2.2.2.2 ⟨by decide, by decide⟩) (by decide) en_Ring rfl rfl hl.1 rfl (lv_room (Nat.le_of_ble_eq_true rfl)) ⟨Nat.zero_le _, Nat.zero_le _⟩ dm_PP_times_62 (fun σ2 H locs hp2 hW => ?_)
                  obtain ⟨w2, e2, s2⟩ := hp2
                  refine lv_aload_n hx hb dm_PP_times_65 rfl (lv_at hl 0 rfl) ?_
                  refine lv_iload_n hx hb dm_PP_times_66 rfl (lv_at hl 1 rfl) ?_
                  refine pw_callVI (rest := []) S hW (mm_PP_sizeOf l D k g σ2 (n := d0) hd0) (cv_PP_85 S.1.2.2.2.2 ⟨by decide, by decide⟩) (by decide) en_PP rfl rfl hl.1 rfl (lv_room (Nat.le_of_ble_eq_true rfl)) ⟨Nat.zero_le _, Nat.zero_le _⟩ dm_PP_times_67 (fun r σ9 H locs hp hW => ?_)
                  obtain ⟨hr, hp⟩ := hp
                  rw [hp] at hW
                  subst hr
                  exact hret _ _ _ _ _ _ dm_PP_times_70 (Or.inr ⟨d0, x0, y0, ⟨hd0, rfl⟩, ⟨hx0, rfl⟩, ⟨hy0, rfl⟩, Or.inr ⟨by omega, by rw [(w2.2 _ (kd_rg hd0)).2], w2, e2, s2⟩⟩) hW
                · exfalso
                  omega
          · subst hr
            refine wi_if_ne (tgt := 31) S (nn_T (by omega)) dm_PP_times_18 (by decide) (fun hc => ?_) (fun hc => ?_)
            · refine lv_iconst (v := -1) hx hb dm_PP_times_31 (by decide) ?_
              exact hret _ _ _ _ _ _ dm_PP_times_32 (Or.inl ⟨fun z => hno z.2.2, rfl, rfl⟩) hW
            · exfalso
              omega
      · subst hr
        refine wi_if_ne (tgt := 31) S (nn_T (by omega)) dm_PP_times_11 (by decide) (fun hc => ?_) (fun hc => ?_)
        · refine lv_iconst (v := -1) hx hb dm_PP_times_31 (by decide) ?_
          exact hret _ _ _ _ _ _ dm_PP_times_32 (Or.inl ⟨fun z => hno z.2.1, rfl, rfl⟩) hW
        · exfalso
          omega
  · subst hr
    refine wi_if_ne (tgt := 31) S (nn_T (by omega)) dm_PP_times_4 (by decide) (fun hc => ?_) (fun hc => ?_)
    · refine lv_iconst (v := -1) hx hb dm_PP_times_31 (by decide) ?_
      exact hret _ _ _ _ _ _ dm_PP_times_32 (Or.inl ⟨fun z => hno z.1, rfl, rfl⟩) hW
    · exfalso
      omega
theorem dm_PP_inverse_0 : decode bm_PP_inverse 0 = .ok (.iload_n 1, 1) := by decide +kernel
theorem dm_PP_inverse_1 : decode bm_PP_inverse 1 = .ok (.invokestatic 58, 3) := by decide +kernel
theorem dm_PP_inverse_4 : decode bm_PP_inverse 4 = .ok (.ifCond .ne 20, 3) := by decide +kernel
theorem dm_PP_inverse_7 : decode bm_PP_inverse 7 = .ok (.iload_n 2, 1) := by decide +kernel
theorem dm_PP_inverse_8 : decode bm_PP_inverse 8 = .ok (.invokestatic 58, 3) := by decide +kernel
theorem dm_PP_inverse_11 : decode bm_PP_inverse 11 = .ok (.ifCond .ne 13, 3) := by decide +kernel
theorem dm_PP_inverse_14 : decode bm_PP_inverse 14 = .ok (.aload_n 0, 1) := by decide +kernel
theorem dm_PP_inverse_15 : decode bm_PP_inverse 15 = .ok (.getfield 43, 3) := by decide +kernel
theorem dm_PP_inverse_18 : decode bm_PP_inverse 18 = .ok (.invokevirtual 171, 3) := by decide +kernel
theorem dm_PP_inverse_21 : decode bm_PP_inverse 21 = .ok (.ifCond .ne 5, 3) := by decide +kernel
theorem dm_PP_inverse_24 : decode bm_PP_inverse 24 = .ok (.iconst (-1), 1) := by decide +kernel
theorem dm_PP_inverse_25 : decode bm_PP_inverse 25 = .ok (.ireturn, 1) := by decide +kernel
theorem dm_PP_inverse_26 : decode bm_PP_inverse 26 = .ok (.aload_n 0, 1) := by decide +kernel
theorem dm_PP_inverse_27 : decode bm_PP_inverse 27 = .ok (.getfield 43, 3) := by decide +kernel
theorem dm_PP_inverse_30 : decode bm_PP_inverse 30 = .ok (.aload_n 0, 1) := by decide +kernel
theorem dm_PP_inverse_31 : decode bm_PP_inverse 31 = .ok (.getfield 49, 3) := by decide +kernel
theorem dm_PP_inverse_34 : decode bm_PP_inverse 34 = .ok (.iload_n 1, 1) := by decide +kernel
theorem dm_PP_inverse_35 : decode bm_PP_inverse 35 = .ok (.aaload, 1) := by decide +kernel
theorem dm_PP_inverse_36 : decode bm_PP_inverse 36 = .ok (.aload_n 0, 1) := by decide +kernel
theorem dm_PP_inverse_37 : decode bm_PP_inverse 37 = .ok (.getfield 49, 3) := by decide +kernel
theorem dm_PP_inverse_40 : decode bm_PP_inverse 40 = .ok (.iload_n 2, 1) := by decide +kernel
theorem dm_PP_inverse_41 : decode bm_PP_inverse 41 = .ok (.aaload, 1) := by decide +kernel
theorem dm_PP_inverse_42 : decode bm_PP_inverse 42 = .ok (.invokevirtual 177, 3) := by decide +kernel
theorem dm_PP_inverse_45 : decode bm_PP_inverse 45 = .ok (.ifCond .eq 11, 3) := by decide +kernel
theorem dm_PP_inverse_48 : decode bm_PP_inverse 48 = .ok (.aload_n 0, 1) := by decide +kernel
theorem dm_PP_inverse_49 : decode bm_PP_inverse 49 = .ok (.iload_n 1, 1) := by decide +kernel
theorem dm_PP_inverse_50 : decode bm_PP_inverse 50 = .ok (.invokevirtual 85, 3) := by decide +kernel
theorem dm_PP_inverse_53 : decode bm_PP_inverse 53 = .ok (.goto 4, 3) := by decide +kernel
theorem dm_PP_inverse_56 : decode bm_PP_inverse 56 = .ok (.iconst (-1), 1) := by decide +kernel
theorem dm_PP_inverse_57 : decode bm_PP_inverse 57 = .ok (.ireturn, 1) := by decide +kernel
set_option maxHeartbeats 4000000 in
set_option maxRecDepth 100000 in
theorem mm_PP_inverse (l : Launch) (D : va_G) (k : ClassId × ClassId × ClassId) (g : Nat → Nat) (σ : st_T) {P : Nat} (hw : st_wf P σ) (hP : ag_pr P) (hP31 : P < 2147483648) (hrg : ∀ n, n < 8 → σ 200 (133 + 2 * n) ≤ 16) (hfd : 0 < sp_sz (σ 118) 31 → 1 < sp_sz (σ 118) 31 ∧ sp_sz (σ 118) 31 ≤ 16 ∧ pz_ir P (sp_sz (σ 118) 31 - 1) (pe_f (σ 118))) {d x : Int32} : mt_I l D k g ym_PP_inverse wm_PP_inverse rm_PP_inverse [.ref (g 0), .int d, .int x] σ (fun r σ1 => (¬ (rk_r d ∧ rk_r x) ∧ r = -1 ∧ σ1 = σ) ∨ ∃ d0 x0, (d0 < 8 ∧ d = nI d0) ∧ (x0 < 8 ∧ x = nI x0) ∧ ((sp_sz (σ 118) 31 = 0 ∧ r = -1 ∧ σ1 = σ) ∨ (0 < sp_sz (σ 118) 31 ∧ (st_wf P σ1 ∧ st_sm [(133 + 2 * d0), 2, 4, 6, 120, 122, 124, 126, 128, 130] σ σ1) ∧ ((sp_sz (sp_rest P (σ (133 + 2 * x0)) (σ 118)) 31 = 0 ∧ r = -1 ∧ σ1 (133 + 2 * d0) = σ (133 + 2 * d0)) ∨ (0 < sp_sz (sp_rest P (σ (133 + 2 * x0)) (σ 118)) 31 ∧ r = nI (sp_sz (σ1 (133 + 2 * d0)) 31) ∧ sp_sz (σ1 (133 + 2 * d0)) 31 < sp_sz (σ 118) 31 ∧ @ag_q pz_T pz_R (pz_I P (pe_f (σ 118))) (pz_ml (pe_f (σ1 (133 + 2 * d0))) (pe_f (sp_rest P (σ (133 + 2 * x0)) (σ 118)))) (pz_ct 1)))))) := by
  refine ct_I_in (cc := bm_PP_inverse) (maxL := 3) (by decide) rfl (Nat.le_of_ble_eq_true rfl) ?_
  intro p e s m args below meth c A ls Q S hl hW hret
  have S : pw_S p m c bm_PP_inverse 3 s args wa_g rc_PP D cl_s (ty_s k) := S
  have hx := S.1.1
  have hb := S.1.2.1
  have hl : lv_has ls 3 [(0, .ref (g (0))), (1, .int (d)), (2, .int (x))] := hl
  have hzb := (hw.2 118 rfl).2
  have hb31 := sp_sz_le (σ 118) 31
  refine lv_iload_n hx hb dm_PP_inverse_0 rfl (lv_at hl 1 rfl) ?_
  refine pw_callSI (rest := []) S hW (mm_PP_isNoRegister l D k g σ (x := d)) (cv_PP_58 S.1.2.2.2.2 ⟨by decide, by decide⟩) rfl hl.1 rfl (lv_room (Nat.le_of_ble_eq_true rfl)) ⟨Nat.zero_le _, Nat.zero_le _⟩ dm_PP_inverse_1 (fun r σ1 H locs hp hW => ?_)
  obtain ⟨hp, h9⟩ := hp
  rw [h9] at hW
  rcases hp with ⟨hr, d0, hd0, rfl⟩ | ⟨hr, hno⟩
  · subst hr
    have hl : lv_has ls 3 [(0, .ref (g (0))), (1, .int (nI (d0))), (2, .int (x))] := hl
    refine wi_if_ne (tgt := 24) S (nn_T (by omega)) dm_PP_inverse_4 (by decide) (fun hc => ?_) (fun hc => ?_)
    · exfalso
      omega
    · refine lv_iload_n hx hb dm_PP_inverse_7 rfl (lv_at hl 2 rfl) ?_
      refine pw_callSI (rest := []) S hW (mm_PP_isNoRegister l D k g σ (x := x)) (cv_PP_58 S.1.2.2.2.2 ⟨by decide, by decide⟩) rfl hl.1 rfl (lv_room (Nat.le_of_ble_eq_true rfl)) ⟨Nat.zero_le _, Nat.zero_le _⟩ dm_PP_inverse_8 (fun r σ1 H locs hp hW => ?_)
      obtain ⟨hp, h9⟩ := hp
      rw [h9] at hW
      rcases hp with ⟨hr, x0, hx0, rfl⟩ | ⟨hr, hno⟩
      · subst hr
        have hl : lv_has ls 3 [(0, .ref (g (0))), (1, .int (nI (d0))), (2, .int (nI (x0)))] := hl
        refine wi_if_ne (tgt := 24) S (nn_T (by omega)) dm_PP_inverse_11 (by decide) (fun hc => ?_) (fun hc => ?_)
        · exfalso
          omega
        · refine lv_aload_n hx hb dm_PP_inverse_14 rfl (lv_at hl 0 rfl) ?_
          refine pp_field S hW (wa_in 248 (by decide +kernel) rfl) dm_PP_inverse_15 ?_
          refine pw_callVI (rest := []) S hW (mm_Field_isMade l D k g σ (by omega)) (cv_PP_171 S.1.2.2.2.2 ⟨by decide, by decide⟩) (by decide) en_Field rfl rfl hl.1 rfl (lv_room (Nat.le_of_ble_eq_true rfl)) ⟨Nat.zero_le _, Nat.zero_le _⟩ dm_PP_inverse_18 (fun r σ1 H locs hp hW => ?_)
          obtain ⟨hr, hp⟩ := hp
          rw [hp] at hW
          subst hr
          by_cases hzz : σ 200 118 = 0
          · rw [if_pos hzz]
            refine wi_if_ne (tgt := 26) S (nn_T (by omega)) dm_PP_inverse_21 (by decide) (fun hc => ?_) (fun hc => ?_)
            · exfalso
              omega
            · refine lv_iconst (v := -1) hx hb dm_PP_inverse_24 (by decide) ?_
              exact hret _ _ _ _ _ _ dm_PP_inverse_25 (Or.inr ⟨d0, x0, ⟨hd0, rfl⟩, ⟨hx0, rfl⟩, Or.inl ⟨by omega, rfl, rfl⟩⟩) hW
          · rw [if_neg hzz]
            refine wi_if_ne (tgt := 26) S (nn_T (by omega)) dm_PP_inverse_21 (by decide) (fun hc => ?_) (fun hc => ?_)
            · obtain ⟨hf1, hf16, hir⟩ := hfd (by omega)
              refine lv_aload_n hx hb dm_PP_inverse_26 rfl (lv_at hl 0 rfl) ?_
              refine pp_field S hW (wa_in 248 (by decide +kernel) rfl) dm_PP_inverse_27 ?_
              refine lv_aload_n hx hb dm_PP_inverse_30 rfl (lv_at hl 0 rfl) ?_
              refine pp_registers S hW (wa_in 249 (by decide +kernel) rfl) dm_PP_inverse_31 ?_
              refine lv_iload_n hx hb dm_PP_inverse_34 rfl (lv_at hl 1 rfl) ?_
              refine ra_ald S hW (by omega) dm_PP_inverse_35 ?_
              refine lv_aload_n hx hb dm_PP_inverse_36 rfl (lv_at hl 0 rfl) ?_
              refine pp_registers S hW (wa_in 249 (by decide +kernel) rfl) dm_PP_inverse_37 ?_
              refine lv_iload_n hx hb dm_PP_inverse_40 rfl (lv_at hl 2 rfl) ?_
              refine ra_ald S hW (by omega) dm_PP_inverse_41 ?_
              refine pw_callVI (rest := []) S hW (mm_Field_inverseInto l D k g σ hw hP hP31 (kd_rg hd0) (kd_rg hx0) hir (by omega) (by omega) (by simp only [List.mem_cons, List.not_mem_nil, or_false]; omega) (by simp only [List.mem_cons, List.not_mem_nil, or_false]; omega)) (cv_PP_177 S.1.2.2.2.2 ⟨by decide, by decide⟩) (by decide) en_Field rfl rfl hl.1 rfl (lv_room (Nat.le_of_ble_eq_true rfl)) ⟨Nat.zero_le _, Nat.zero_le _⟩ dm_PP_inverse_42 (fun r σ2 H locs hp2 hW => ?_)
              obtain ⟨⟨w2, s2⟩, hp2⟩ := hp2
              rcases hp2 with ⟨h0, hr, e2⟩ | ⟨h0, hr, hlt, e2⟩
              · subst hr
                refine wi_if_eq (tgt := 56) S (nn_T (by omega)) dm_PP_inverse_45 (by decide) (fun hc => ?_) (fun hc => ?_)
                · refine lv_iconst (v := -1) hx hb dm_PP_inverse_56 (by decide) ?_
                  exact hret _ _ _ _ _ _ dm_PP_inverse_57 (Or.inr ⟨d0, x0, ⟨hd0, rfl⟩, ⟨hx0, rfl⟩, Or.inr ⟨by omega, ⟨w2, s2⟩, Or.inl ⟨h0, rfl, e2⟩⟩⟩) hW
                · exfalso
                  omega
              · subst hr
                refine wi_if_eq (tgt := 56) S (nn_T (by omega)) dm_PP_inverse_45 (by decide) (fun hc => ?_) (fun hc => ?_)
                · exfalso
                  omega
                · refine lv_aload_n hx hb dm_PP_inverse_48 rfl (lv_at hl 0 rfl) ?_
                  refine lv_iload_n hx hb dm_PP_inverse_49 rfl (lv_at hl 1 rfl) ?_
                  refine pw_callVI (rest := []) S hW (mm_PP_sizeOf l D k g σ2 (n := d0) hd0) (cv_PP_85 S.1.2.2.2.2 ⟨by decide, by decide⟩) (by decide) en_PP rfl rfl hl.1 rfl (lv_room (Nat.le_of_ble_eq_true rfl)) ⟨Nat.zero_le _, Nat.zero_le _⟩ dm_PP_inverse_50 (fun r σ9 H locs hp hW => ?_)
                  obtain ⟨hr, hp⟩ := hp
                  rw [hp] at hW
                  subst hr
                  refine lv_goto (tgt := 57) hx hb dm_PP_inverse_53 (by decide) ?_
                  exact hret _ _ _ _ _ _ dm_PP_inverse_57 (Or.inr ⟨d0, x0, ⟨hd0, rfl⟩, ⟨hx0, rfl⟩, Or.inr ⟨by omega, ⟨w2, s2⟩, Or.inr ⟨h0, by rw [(w2.2 _ (kd_rg hd0)).2], hlt, e2⟩⟩⟩) hW
            · exfalso
              omega
      · subst hr
        refine wi_if_ne (tgt := 24) S (nn_T (by omega)) dm_PP_inverse_11 (by decide) (fun hc => ?_) (fun hc => ?_)
        · refine lv_iconst (v := -1) hx hb dm_PP_inverse_24 (by decide) ?_
          exact hret _ _ _ _ _ _ dm_PP_inverse_25 (Or.inl ⟨fun z => hno z.2, rfl, rfl⟩) hW
        · exfalso
          omega
  · subst hr
    refine wi_if_ne (tgt := 24) S (nn_T (by omega)) dm_PP_inverse_4 (by decide) (fun hc => ?_) (fun hc => ?_)
    · refine lv_iconst (v := -1) hx hb dm_PP_inverse_24 (by decide) ?_
      exact hret _ _ _ _ _ _ dm_PP_inverse_25 (Or.inl ⟨fun z => hno z.1, rfl, rfl⟩) hW
    · exfalso
      omega
theorem dm_PP_trace_0 : decode bm_PP_trace 0 = .ok (.iload_n 1, 1) := by decide +kernel
theorem dm_PP_trace_1 : decode bm_PP_trace 1 = .ok (.invokestatic 58, 3) := by decide +kernel
theorem dm_PP_trace_4 : decode bm_PP_trace 4 = .ok (.ifCond .ne 13, 3) := by decide +kernel
theorem dm_PP_trace_7 : decode bm_PP_trace 7 = .ok (.aload_n 0, 1) := by decide +kernel
theorem dm_PP_trace_8 : decode bm_PP_trace 8 = .ok (.getfield 43, 3) := by decide +kernel
theorem dm_PP_trace_11 : decode bm_PP_trace 11 = .ok (.invokevirtual 171, 3) := by decide +kernel
theorem dm_PP_trace_14 : decode bm_PP_trace 14 = .ok (.ifCond .ne 5, 3) := by decide +kernel
theorem dm_PP_trace_17 : decode bm_PP_trace 17 = .ok (.iconst (-1), 1) := by decide +kernel
theorem dm_PP_trace_18 : decode bm_PP_trace 18 = .ok (.ireturn, 1) := by decide +kernel
theorem dm_PP_trace_19 : decode bm_PP_trace 19 = .ok (.aload_n 0, 1) := by decide +kernel
theorem dm_PP_trace_20 : decode bm_PP_trace 20 = .ok (.getfield 43, 3) := by decide +kernel
theorem dm_PP_trace_23 : decode bm_PP_trace 23 = .ok (.aload_n 0, 1) := by decide +kernel
theorem dm_PP_trace_24 : decode bm_PP_trace 24 = .ok (.getfield 49, 3) := by decide +kernel
theorem dm_PP_trace_27 : decode bm_PP_trace 27 = .ok (.iload_n 1, 1) := by decide +kernel
theorem dm_PP_trace_28 : decode bm_PP_trace 28 = .ok (.aaload, 1) := by decide +kernel
theorem dm_PP_trace_29 : decode bm_PP_trace 29 = .ok (.iload_n 2, 1) := by decide +kernel
theorem dm_PP_trace_30 : decode bm_PP_trace 30 = .ok (.invokevirtual 181, 3) := by decide +kernel
theorem dm_PP_trace_33 : decode bm_PP_trace 33 = .ok (.ireturn, 1) := by decide +kernel
set_option maxHeartbeats 4000000 in
set_option maxRecDepth 100000 in
theorem mm_PP_trace (l : Launch) (D : va_G) (k : ClassId × ClassId × ClassId) (g : Nat → Nat) (σ : st_T) {P b0 : Nat} (hw : st_wf P σ) (hP : ag_pr P) (hP31 : P < 2147483648) (hrg : ∀ n, n < 8 → σ 200 (133 + 2 * n) ≤ 16) (hx21 : σ 21 = sp_x) (hfd : 0 < sp_sz (σ 118) 31 → 1 < sp_sz (σ 118) 31 ∧ sp_sz (σ 118) 31 ≤ 16) (hb0 : b0 < 2) {a : Int32} : mt_I l D k g ym_PP_trace wm_PP_trace rm_PP_trace [.ref (g 0), .int a, .int (nI b0)] σ (fun r σ1 => (¬ (rk_r a) ∧ r = -1 ∧ σ1 = σ) ∨ ∃ a0, (a0 < 8 ∧ a = nI a0) ∧ ((sp_sz (σ 118) 31 = 0 ∧ r = -1 ∧ σ1 = σ) ∨ (0 < sp_sz (σ 118) 31 ∧ r = nI (σ1 122 0) ∧ sp_is P (σ 118) (σ1 122) (fb_acc P b0 (pe_f (σ (133 + 2 * a0))) (sp_sz (σ 118) 31 - 1)) ∧ st_wf P σ1 ∧ st_sm (122 :: fb_Y) σ σ1))) := by
  refine ct_I_in (cc := bm_PP_trace) (maxL := 3) (by decide) rfl (Nat.le_of_ble_eq_true rfl) ?_
  intro p e s m args below meth c A ls Q S hl hW hret
  have S : pw_S p m c bm_PP_trace 3 s args wa_g rc_PP D cl_s (ty_s k) := S
  have hx := S.1.1
  have hb := S.1.2.1
  have hl : lv_has ls 3 [(0, .ref (g (0))), (1, .int (a)), (2, .int (nI (b0)))] := hl
  have hzb := (hw.2 118 rfl).2
  have hb31 := sp_sz_le (σ 118) 31
  refine lv_iload_n hx hb dm_PP_trace_0 rfl (lv_at hl 1 rfl) ?_
  refine pw_callSI (rest := []) S hW (mm_PP_isNoRegister l D k g σ (x := a)) (cv_PP_58 S.1.2.2.2.2 ⟨by decide, by decide⟩) rfl hl.1 rfl (lv_room (Nat.le_of_ble_eq_true rfl)) ⟨Nat.zero_le _, Nat.zero_le _⟩ dm_PP_trace_1 (fun r σ1 H locs hp hW => ?_)
  obtain ⟨hp, h9⟩ := hp
  rw [h9] at hW
  rcases hp with ⟨hr, a0, ha0, rfl⟩ | ⟨hr, hno⟩
  · subst hr
    have hl : lv_has ls 3 [(0, .ref (g (0))), (1, .int (nI (a0))), (2, .int (nI (b0)))] := hl
    refine wi_if_ne (tgt := 17) S (nn_T (by omega)) dm_PP_trace_4 (by decide) (fun hc => ?_) (fun hc => ?_)
    · exfalso
      omega
    · refine lv_aload_n hx hb dm_PP_trace_7 rfl (lv_at hl 0 rfl) ?_
      refine pp_field S hW (wa_in 248 (by decide +kernel) rfl) dm_PP_trace_8 ?_
      refine pw_callVI (rest := []) S hW (mm_Field_isMade l D k g σ (by omega)) (cv_PP_171 S.1.2.2.2.2 ⟨by decide, by decide⟩) (by decide) en_Field rfl rfl hl.1 rfl (lv_room (Nat.le_of_ble_eq_true rfl)) ⟨Nat.zero_le _, Nat.zero_le _⟩ dm_PP_trace_11 (fun r σ1 H locs hp hW => ?_)
      obtain ⟨hr, hp⟩ := hp
      rw [hp] at hW
      subst hr
      by_cases hzz : σ 200 118 = 0
      · rw [if_pos hzz]
        refine wi_if_ne (tgt := 19) S (nn_T (by omega)) dm_PP_trace_14 (by decide) (fun hc => ?_) (fun hc => ?_)
        · exfalso
          omega
        · refine lv_iconst (v := -1) hx hb dm_PP_trace_17 (by decide) ?_
          exact hret _ _ _ _ _ _ dm_PP_trace_18 (Or.inr ⟨a0, ⟨ha0, rfl⟩, Or.inl ⟨by omega, rfl, rfl⟩⟩) hW
      · rw [if_neg hzz]
        refine wi_if_ne (tgt := 19) S (nn_T (by omega)) dm_PP_trace_14 (by decide) (fun hc => ?_) (fun hc => ?_)
        · obtain ⟨hf1, hf16⟩ := hfd (by omega)
          refine lv_aload_n hx hb dm_PP_trace_19 rfl (lv_at hl 0 rfl) ?_
          refine pp_field S hW (wa_in 248 (by decide +kernel) rfl) dm_PP_trace_20 ?_
          refine lv_aload_n hx hb dm_PP_trace_23 rfl (lv_at hl 0 rfl) ?_
          refine pp_registers S hW (wa_in 249 (by decide +kernel) rfl) dm_PP_trace_24 ?_
          refine lv_iload_n hx hb dm_PP_trace_27 rfl (lv_at hl 1 rfl) ?_
          refine ra_ald S hW (by omega) dm_PP_trace_28 ?_
          refine lv_iload_n hx hb dm_PP_trace_29 rfl (lv_at hl 2 rfl) ?_
          refine pw_callVI (rest := []) S hW (mm_Field_numberOf l D k g σ hw hP hP31 (kd_rg ha0) hx21 (by omega) (by omega) (fun z => by have h9 := (by decide : ∀ x ∈ fb_X, x < 61) _ z; omega) hb0) (cv_PP_181 S.1.2.2.2.2 ⟨by decide, by decide⟩) (by decide) en_Field rfl rfl hl.1 rfl (lv_room (Nat.le_of_ble_eq_true rfl)) ⟨Nat.zero_le _, Nat.zero_le _⟩ dm_PP_trace_30 (fun r σ2 H locs hp2 hW => ?_)
          obtain ⟨hr, e2, w2, s2⟩ := hp2
          subst hr
          rw [hzb] at e2
          exact hret _ _ _ _ _ _ dm_PP_trace_33 (Or.inr ⟨a0, ⟨ha0, rfl⟩, Or.inr ⟨by omega, rfl, e2, w2, s2⟩⟩) hW
        · exfalso
          omega
  · subst hr
    refine wi_if_ne (tgt := 17) S (nn_T (by omega)) dm_PP_trace_4 (by decide) (fun hc => ?_) (fun hc => ?_)
    · refine lv_iconst (v := -1) hx hb dm_PP_trace_17 (by decide) ?_
      exact hret _ _ _ _ _ _ dm_PP_trace_18 (Or.inl ⟨fun z => hno z, rfl, rfl⟩) hW
    · exfalso
      omega
theorem dm_PP_split_0 : decode bm_PP_split 0 = .ok (.aload_n 0, 1) := by decide +kernel
theorem dm_PP_split_1 : decode bm_PP_split 1 = .ok (.iload_n 1, 1) := by decide +kernel
theorem dm_PP_split_2 : decode bm_PP_split 2 = .ok (.invokevirtual 130, 3) := by decide +kernel
theorem dm_PP_split_5 : decode bm_PP_split 5 = .ok (.ifCond .ne 25, 3) := by decide +kernel
theorem dm_PP_split_8 : decode bm_PP_split 8 = .ok (.iload_n 2, 1) := by decide +kernel
theorem dm_PP_split_9 : decode bm_PP_split 9 = .ok (.invokestatic 58, 3) := by decide +kernel
theorem dm_PP_split_12 : decode bm_PP_split 12 = .ok (.ifCond .ne 18, 3) := by decide +kernel
theorem dm_PP_split_15 : decode bm_PP_split 15 = .ok (.aload_n 0, 1) := by decide +kernel
theorem dm_PP_split_16 : decode bm_PP_split 16 = .ok (.getfield 36, 3) := by decide +kernel
theorem dm_PP_split_19 : decode bm_PP_split 19 = .ok (.getfield 133, 3) := by decide +kernel
theorem dm_PP_split_22 : decode bm_PP_split 22 = .ok (.iload_n 1, 1) := by decide +kernel
theorem dm_PP_split_23 : decode bm_PP_split 23 = .ok (.aaload, 1) := by decide +kernel
theorem dm_PP_split_24 : decode bm_PP_split 24 = .ok (.invokevirtual 149, 3) := by decide +kernel
theorem dm_PP_split_27 : decode bm_PP_split 27 = .ok (.ifCond .eq 5, 3) := by decide +kernel
theorem dm_PP_split_30 : decode bm_PP_split 30 = .ok (.iconst (-1), 1) := by decide +kernel
theorem dm_PP_split_31 : decode bm_PP_split 31 = .ok (.ireturn, 1) := by decide +kernel
theorem dm_PP_split_32 : decode bm_PP_split 32 = .ok (.aload_n 0, 1) := by decide +kernel
theorem dm_PP_split_33 : decode bm_PP_split 33 = .ok (.getfield 36, 3) := by decide +kernel
theorem dm_PP_split_36 : decode bm_PP_split 36 = .ok (.iload_n 1, 1) := by decide +kernel
theorem dm_PP_split_37 : decode bm_PP_split 37 = .ok (.aload_n 0, 1) := by decide +kernel
theorem dm_PP_split_38 : decode bm_PP_split 38 = .ok (.getfield 49, 3) := by decide +kernel
theorem dm_PP_split_41 : decode bm_PP_split 41 = .ok (.iload_n 2, 1) := by decide +kernel
theorem dm_PP_split_42 : decode bm_PP_split 42 = .ok (.aaload, 1) := by decide +kernel
theorem dm_PP_split_43 : decode bm_PP_split 43 = .ok (.invokevirtual 152, 3) := by decide +kernel
theorem dm_PP_split_46 : decode bm_PP_split 46 = .ok (.ifCond .eq 7, 3) := by decide +kernel
theorem dm_PP_split_49 : decode bm_PP_split 49 = .ok (.iconst 1, 1) := by decide +kernel
theorem dm_PP_split_50 : decode bm_PP_split 50 = .ok (.goto 4, 3) := by decide +kernel
theorem dm_PP_split_53 : decode bm_PP_split 53 = .ok (.iconst 0, 1) := by decide +kernel
theorem dm_PP_split_54 : decode bm_PP_split 54 = .ok (.ireturn, 1) := by decide +kernel
set_option maxHeartbeats 4000000 in
set_option maxRecDepth 100000 in
theorem mm_PP_split (l : Launch) (D : va_G) (k : ClassId × ClassId × ClassId) (g : Nat → Nat) (σ : st_T) {P : Nat} (hw : st_wf P σ) (hP : ag_pr P) (hP31 : P < 2147483648) (hrg : ∀ n, n < 8 → σ 200 (133 + 2 * n) ≤ 16) (hx21 : σ 21 = sp_x) (hpl : pl_ok σ) (hcc : σ 203 1 ≤ 15) (hpt : ∀ t, t < σ 203 1 → 1 < sp_sz (pv_t σ t).2.2 31 ∧ sp_sz (pv_t σ t).2.2 31 ≤ 16 ∧ 1 ≤ (pv_t σ t).2.1 ∧ (pv_t σ t).2.1 ≤ 31 ∧ (2 < sp_sz (pv_t σ t).2.2 31 → σ 203 1 < 15)) {a b : Int32} : mt_I l D k g ym_PP_split wm_PP_split rm_PP_split [.ref (g 0), .int a, .int b] σ (fun r σ1 => (¬ ((∃ n, n < σ 203 1 ∧ a = nI n) ∧ rk_r b) ∧ r = -1 ∧ σ1 = σ) ∨ ∃ a0 b0, (a0 < σ 203 1 ∧ a = nI a0) ∧ (b0 < 8 ∧ b = nI b0) ∧ ((sp_sz (σ ((σ 204 a0) + 1)) 31 = σ 202 (σ 204 a0) + 1 ∧ r = -1 ∧ σ1 = σ) ∨ (sp_sz (σ ((σ 204 a0) + 1)) 31 ≠ σ 202 (σ 204 a0) + 1 ∧ (st_wf P σ1 ∧ pl_ok σ1 ∧ σ1 203 2 = σ 203 2 ∧ st_sm sl_X σ σ1) ∧ ∃ U, sp_is P (σ ((σ 204 a0) + 1)) U (sep_z P (pe_f (σ (133 + 2 * b0))) (σ 202 (σ 204 a0))) ∧ ((r = nI 0 ∧ (sp_sz (sp_gcd P U (σ ((σ 204 a0) + 1))) 31 ≤ 1 ∨ sp_sz (σ ((σ 204 a0) + 1)) 31 ≤ sp_sz (sp_gcd P U (σ ((σ 204 a0) + 1))) 31) ∧ pl_v σ1 = pl_v σ) ∨ (r = nI 1 ∧ 1 < sp_sz (sp_gcd P U (σ ((σ 204 a0) + 1))) 31 ∧ sp_sz (sp_gcd P U (σ ((σ 204 a0) + 1))) 31 < sp_sz (σ ((σ 204 a0) + 1)) 31 ∧ pl_v σ1 = ((pl_v σ).set a0 (σ 201 (σ 204 a0), σ 202 (σ 204 a0), sp_gcd P U (σ ((σ 204 a0) + 1)))).take (a0 + 1) ++ (σ 201 (σ 204 a0), σ 202 (σ 204 a0), sp_quo P (σ ((σ 204 a0) + 1)) (sp_gcd P U (σ ((σ 204 a0) + 1)))) :: ((pl_v σ).set a0 (σ 201 (σ 204 a0), σ 202 (σ 204 a0), sp_gcd P U (σ ((σ 204 a0) + 1)))).drop (a0 + 1)))))) := by
  refine ct_I_in (cc := bm_PP_split) (maxL := 3) (by decide) rfl (Nat.le_of_ble_eq_true rfl) ?_
  intro p e s m args below meth c A ls Q S hl hW hret
  have S : pw_S p m c bm_PP_split 3 s args wa_g rc_PP D cl_s (ty_s k) := S
  have hx := S.1.1
  have hb := S.1.2.1
  have hl : lv_has ls 3 [(0, .ref (g (0))), (1, .int (a)), (2, .int (b))] := hl
  refine lv_aload_n hx hb dm_PP_split_0 rfl (lv_at hl 0 rfl) ?_
  refine lv_iload_n hx hb dm_PP_split_1 rfl (lv_at hl 1 rfl) ?_
  refine pw_callVI (rest := []) S hW (mm_PP_isNoPart l D k g σ (x := a) hcc) (cv_PP_130 S.1.2.2.2.2 ⟨by decide, by decide⟩) (by decide) en_PP rfl rfl hl.1 rfl (lv_room (Nat.le_of_ble_eq_true rfl)) ⟨Nat.zero_le _, Nat.zero_le _⟩ dm_PP_split_2 (fun r σ1 H locs hp hW => ?_)
  obtain ⟨hp, h9⟩ := hp
  rw [h9] at hW
  rcases hp with ⟨hr, a0, ha0, rfl⟩ | ⟨hr, hno⟩
  · subst hr
    have hl : lv_has ls 3 [(0, .ref (g (0))), (1, .int (nI (a0))), (2, .int (b))] := hl
    refine wi_if_ne (tgt := 30) S (nn_T (by omega)) dm_PP_split_5 (by decide) (fun hc => ?_) (fun hc => ?_)
    · exfalso
      omega
    · refine lv_iload_n hx hb dm_PP_split_8 rfl (lv_at hl 2 rfl) ?_
      refine pw_callSI (rest := []) S hW (mm_PP_isNoRegister l D k g σ (x := b)) (cv_PP_58 S.1.2.2.2.2 ⟨by decide, by decide⟩) rfl hl.1 rfl (lv_room (Nat.le_of_ble_eq_true rfl)) ⟨Nat.zero_le _, Nat.zero_le _⟩ dm_PP_split_9 (fun r σ1 H locs hp hW => ?_)
      obtain ⟨hp, h9⟩ := hp
      rw [h9] at hW
      rcases hp with ⟨hr, b0, hb0, rfl⟩ | ⟨hr, hno⟩
      · subst hr
        have hl : lv_has ls 3 [(0, .ref (g (0))), (1, .int (nI (a0))), (2, .int (nI (b0)))] := hl
        refine wi_if_ne (tgt := 30) S (nn_T (by omega)) dm_PP_split_12 (by decide) (fun hc => ?_) (fun hc => ?_)
        · exfalso
          omega
        · have hj := hpl.1 a0 (by omega)
          have kj := kd_pa hj
          have hzj := (hw.2 _ kj.1).2
          obtain ⟨t1, t2, t3, t4, t5⟩ := hpt a0 ha0
          have t1 : 1 < sp_sz (σ ((σ 204 a0) + 1)) 31 := t1
          have t2 : sp_sz (σ ((σ 204 a0) + 1)) 31 ≤ 16 := t2
          have t3 : 1 ≤ σ 202 (σ 204 a0) := t3
          have t4 : σ 202 (σ 204 a0) ≤ 31 := t4
          have t5 : 2 < sp_sz (σ ((σ 204 a0) + 1)) 31 → σ 203 1 < 15 := t5
          refine lv_aload_n hx hb dm_PP_split_15 rfl (lv_at hl 0 rfl) ?_
          refine pp_parts S hW (wa_in 247 (by decide +kernel) rfl) dm_PP_split_16 ?_
          refine ps_list S hW (wa_in 179 (by decide +kernel) rfl) dm_PP_split_19 ?_
          refine lv_iload_n hx hb dm_PP_split_22 rfl (lv_at hl 1 rfl) ?_
          refine li_ald S hW (by omega) dm_PP_split_23 ?_
          refine pw_callVI (rest := []) S hW (mm_Part_isComplete l D k g σ hj (by omega) (by omega)) (cv_PP_149 S.1.2.2.2.2 ⟨by decide, by decide⟩) (kd_p3 (hpl.1 (a0) (by omega))) (en_k10 (hpl.1 (a0) (by omega))) rfl rfl hl.1 rfl (lv_room (Nat.le_of_ble_eq_true rfl)) ⟨Nat.zero_le _, Nat.zero_le _⟩ dm_PP_split_24 (fun r σ1 H locs hp hW => ?_)
          obtain ⟨hr, hp⟩ := hp
          rw [hp] at hW
          subst hr
          by_cases hzz : σ 200 ((σ 204 a0) + 1) = σ 202 (σ 204 a0) + 1
          · rw [if_pos hzz]
            refine wi_if_eq (tgt := 32) S (nn_T (by omega)) dm_PP_split_27 (by decide) (fun hc => ?_) (fun hc => ?_)
            · exfalso
              omega
            · refine lv_iconst (v := -1) hx hb dm_PP_split_30 (by decide) ?_
              exact hret _ _ _ _ _ _ dm_PP_split_31 (Or.inr ⟨a0, b0, ⟨ha0, rfl⟩, ⟨hb0, rfl⟩, Or.inl ⟨by omega, rfl, rfl⟩⟩) hW
          · rw [if_neg hzz]
            refine wi_if_eq (tgt := 32) S (nn_T (by omega)) dm_PP_split_27 (by decide) (fun hc => ?_) (fun hc => ?_)
            · refine lv_aload_n hx hb dm_PP_split_32 rfl (lv_at hl 0 rfl) ?_
              refine pp_parts S hW (wa_in 247 (by decide +kernel) rfl) dm_PP_split_33 ?_
              refine lv_iload_n hx hb dm_PP_split_36 rfl (lv_at hl 1 rfl) ?_
              refine lv_aload_n hx hb dm_PP_split_37 rfl (lv_at hl 0 rfl) ?_
              refine pp_registers S hW (wa_in 249 (by decide +kernel) rfl) dm_PP_split_38 ?_
              refine lv_iload_n hx hb dm_PP_split_41 rfl (lv_at hl 2 rfl) ?_
              refine ra_ald S hW (by omega) dm_PP_split_42 ?_
              refine pw_callVI (rest := []) S hW (mm_Parts_splitAt l D k g σ hw hP hP31 hpl (kd_rg hb0) hx21 ha0 hcc (fun z => t5 (by omega)) (by omega) (by omega) (fun z => by have h9 := (by decide : ∀ x ∈ fb_Y, x < 61) _ z; omega) (by omega) t3 t4) (cv_PP_152 S.1.2.2.2.2 ⟨by decide, by decide⟩) (by decide) en_Parts rfl rfl hl.1 rfl (lv_room (Nat.le_of_ble_eq_true rfl)) ⟨Nat.zero_le _, Nat.zero_le _⟩ dm_PP_split_43 (fun r σ2 H locs hp2 hW => ?_)
              obtain ⟨h4, U, hU, hp2⟩ := hp2
              rcases hp2 with ⟨hr, e2⟩ | ⟨hr, e2⟩
              · subst hr
                refine wi_if_eq (tgt := 53) S (nn_T (by omega)) dm_PP_split_46 (by decide) (fun hc => ?_) (fun hc => ?_)
                · refine lv_iconst (v := nI (0)) hx hb dm_PP_split_53 (by decide) ?_
                  exact hret _ _ _ _ _ _ dm_PP_split_54 (Or.inr ⟨a0, b0, ⟨ha0, rfl⟩, ⟨hb0, rfl⟩, Or.inr ⟨by omega, h4, U, hU, Or.inl ⟨rfl, e2⟩⟩⟩) hW
                · exfalso
                  omega
              · subst hr
                refine wi_if_eq (tgt := 53) S (nn_T (by omega)) dm_PP_split_46 (by decide) (fun hc => ?_) (fun hc => ?_)
                · exfalso
                  omega
                · refine lv_iconst (v := nI (1)) hx hb dm_PP_split_49 (by decide) ?_
                  refine lv_goto (tgt := 54) hx hb dm_PP_split_50 (by decide) ?_
                  exact hret _ _ _ _ _ _ dm_PP_split_54 (Or.inr ⟨a0, b0, ⟨ha0, rfl⟩, ⟨hb0, rfl⟩, Or.inr ⟨by omega, h4, U, hU, Or.inr ⟨rfl, e2⟩⟩⟩) hW
            · exfalso
              omega
      · subst hr
        refine wi_if_ne (tgt := 30) S (nn_T (by omega)) dm_PP_split_12 (by decide) (fun hc => ?_) (fun hc => ?_)
        · refine lv_iconst (v := -1) hx hb dm_PP_split_30 (by decide) ?_
          exact hret _ _ _ _ _ _ dm_PP_split_31 (Or.inl ⟨fun z => hno z.2, rfl, rfl⟩) hW
        · exfalso
          omega
  · subst hr
    refine wi_if_ne (tgt := 30) S (nn_T (by omega)) dm_PP_split_5 (by decide) (fun hc => ?_) (fun hc => ?_)
    · refine lv_iconst (v := -1) hx hb dm_PP_split_30 (by decide) ?_
      exact hret _ _ _ _ _ _ dm_PP_split_31 (Or.inl ⟨fun z => hno z.1, rfl, rfl⟩) hW
    · exfalso
      omega
