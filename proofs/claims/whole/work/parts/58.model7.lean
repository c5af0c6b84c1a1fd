/-! The reference: factor -/
theorem sx_e : va_up (va_up (fun _ => 0) 0 0) 1 1 = sp_x := by
  have h : va_up (fun _ : Nat => (0 : Nat)) 0 0 = fun _ => 0 := funext (fun i => by unfold va_up; split <;> rfl)
  rw [h]
theorem fz_m {P : Nat} (hP : 2 ≤ P) {M b c : Nat → Nat} {d : Nat} (hb : sp_is P M b (pz_pw pz_X (P ^ d))) (hc : sp_is P M c pz_X) : sp_ok P (sp_add P b c (P - 1)) ∧ @ag_q pz_T pz_R (pz_I P (pe_f M)) (pe_f (sp_add P b c (P - 1))) (dd_z P d) := by
  have hI := pz_I_ok P (pe_f M)
  have h1 := sp_is_add (show 0 < P by omega) hb hc (P - 1)
  refine ⟨h1.1, @ag_tr pz_T pz_R _ hI _ _ _ h1.2.2 (@ag_ad pz_T pz_R _ hI _ _ _ _ (@ag_rf pz_T pz_R _ hI _) ?_)⟩
  refine @ag_If_q pz_T pz_R (pz_E P) (pe_f M) _ _ (fun i => ?_)
  show (P : Int) ∣ pz_mul (pz_mo 0 ((P - 1 : Nat) : Int)).1 pz_X.1 i + - -pz_X.1 i
  rw [pz_mul_ct, Int.natCast_sub (by omega), Int.sub_mul]
  rw [show (P : Int) * pz_X.1 i - ((1 : Nat) : Int) * pz_X.1 i + - -pz_X.1 i = (P : Int) * pz_X.1 i by omega]
  exact Int.dvd_mul_right _ _
theorem dm_Model_factor_0 : decode bm_Model_factor 0 = .ok (.iload_n 1, 1) := by decide +kernel
theorem dm_Model_factor_1 : decode bm_Model_factor 1 = .ok (.invokestatic 69, 3) := by decide +kernel
theorem dm_Model_factor_4 : decode bm_Model_factor 4 = .ok (.ifCond .eq 11, 3) := by decide +kernel
theorem dm_Model_factor_7 : decode bm_Model_factor 7 = .ok (.aload_n 0, 1) := by decide +kernel
theorem dm_Model_factor_8 : decode bm_Model_factor 8 = .ok (.iload_n 1, 1) := by decide +kernel
theorem dm_Model_factor_9 : decode bm_Model_factor 9 = .ok (.invokevirtual 42, 3) := by decide +kernel
theorem dm_Model_factor_12 : decode bm_Model_factor 12 = .ok (.ifCond .ge 5, 3) := by decide +kernel
theorem dm_Model_factor_15 : decode bm_Model_factor 15 = .ok (.iconst (-1), 1) := by decide +kernel
theorem dm_Model_factor_16 : decode bm_Model_factor 16 = .ok (.ireturn, 1) := by decide +kernel
theorem dm_Model_factor_17 : decode bm_Model_factor 17 = .ok (.aload_n 0, 1) := by decide +kernel
theorem dm_Model_factor_18 : decode bm_Model_factor 18 = .ok (.iconst 1, 1) := by decide +kernel
theorem dm_Model_factor_19 : decode bm_Model_factor 19 = .ok (.putfield 97, 3) := by decide +kernel
theorem dm_Model_factor_22 : decode bm_Model_factor 22 = .ok (.aload_n 0, 1) := by decide +kernel
theorem dm_Model_factor_23 : decode bm_Model_factor 23 = .ok (.aload_n 0, 1) := by decide +kernel
theorem dm_Model_factor_24 : decode bm_Model_factor 24 = .ok (.iload_n 1, 1) := by decide +kernel
theorem dm_Model_factor_25 : decode bm_Model_factor 25 = .ok (.aload_n 0, 1) := by decide +kernel
theorem dm_Model_factor_26 : decode bm_Model_factor 26 = .ok (.iload_n 1, 1) := by decide +kernel
theorem dm_Model_factor_27 : decode bm_Model_factor 27 = .ok (.invokevirtual 42, 3) := by decide +kernel
theorem dm_Model_factor_30 : decode bm_Model_factor 30 = .ok (.invokevirtual 31, 3) := by decide +kernel
theorem dm_Model_factor_33 : decode bm_Model_factor 33 = .ok (.putfield 101, 3) := by decide +kernel
theorem dm_Model_factor_36 : decode bm_Model_factor 36 = .ok (.aload_n 0, 1) := by decide +kernel
theorem dm_Model_factor_37 : decode bm_Model_factor 37 = .ok (.iconst 0, 1) := by decide +kernel
theorem dm_Model_factor_38 : decode bm_Model_factor 38 = .ok (.putfield 88, 3) := by decide +kernel
theorem dm_Model_factor_41 : decode bm_Model_factor 41 = .ok (.aload_n 0, 1) := by decide +kernel
theorem dm_Model_factor_42 : decode bm_Model_factor 42 = .ok (.iload_n 1, 1) := by decide +kernel
theorem dm_Model_factor_43 : decode bm_Model_factor 43 = .ok (.bipush 25, 2) := by decide +kernel
theorem dm_Model_factor_45 : decode bm_Model_factor 45 = .ok (.invokevirtual 55, 3) := by decide +kernel
theorem dm_Model_factor_48 : decode bm_Model_factor 48 = .ok (.aload_n 0, 1) := by decide +kernel
theorem dm_Model_factor_49 : decode bm_Model_factor 49 = .ok (.bipush 25, 2) := by decide +kernel
theorem dm_Model_factor_51 : decode bm_Model_factor 51 = .ok (.invokevirtual 58, 3) := by decide +kernel
theorem dm_Model_factor_54 : decode bm_Model_factor 54 = .ok (.iconst 1, 1) := by decide +kernel
theorem dm_Model_factor_55 : decode bm_Model_factor 55 = .ok (.istore_n 2, 1) := by decide +kernel
theorem dm_Model_factor_56 : decode bm_Model_factor 56 = .ok (.aload_n 0, 1) := by decide +kernel
theorem dm_Model_factor_57 : decode bm_Model_factor 57 = .ok (.bipush 25, 2) := by decide +kernel
theorem dm_Model_factor_59 : decode bm_Model_factor 59 = .ok (.invokevirtual 42, 3) := by decide +kernel
theorem dm_Model_factor_62 : decode bm_Model_factor 62 = .ok (.ifCond .le 116, 3) := by decide +kernel
theorem dm_Model_factor_65 : decode bm_Model_factor 65 = .ok (.aload_n 0, 1) := by decide +kernel
theorem dm_Model_factor_66 : decode bm_Model_factor 66 = .ok (.bipush 26, 2) := by decide +kernel
theorem dm_Model_factor_68 : decode bm_Model_factor 68 = .ok (.iconst 0, 1) := by decide +kernel
theorem dm_Model_factor_69 : decode bm_Model_factor 69 = .ok (.invokevirtual 38, 3) := by decide +kernel
theorem dm_Model_factor_72 : decode bm_Model_factor 72 = .ok (.aload_n 0, 1) := by decide +kernel
theorem dm_Model_factor_73 : decode bm_Model_factor 73 = .ok (.bipush 26, 2) := by decide +kernel
theorem dm_Model_factor_75 : decode bm_Model_factor 75 = .ok (.iconst 1, 1) := by decide +kernel
theorem dm_Model_factor_76 : decode bm_Model_factor 76 = .ok (.iconst 1, 1) := by decide +kernel
theorem dm_Model_factor_77 : decode bm_Model_factor 77 = .ok (.invokevirtual 34, 3) := by decide +kernel
theorem dm_Model_factor_80 : decode bm_Model_factor 80 = .ok (.aload_n 0, 1) := by decide +kernel
theorem dm_Model_factor_81 : decode bm_Model_factor 81 = .ok (.bipush 26, 2) := by decide +kernel
theorem dm_Model_factor_83 : decode bm_Model_factor 83 = .ok (.bipush 25, 2) := by decide +kernel
theorem dm_Model_factor_85 : decode bm_Model_factor 85 = .ok (.invokevirtual 52, 3) := by decide +kernel
theorem dm_Model_factor_88 : decode bm_Model_factor 88 = .ok (.iconst 0, 1) := by decide +kernel
theorem dm_Model_factor_89 : decode bm_Model_factor 89 = .ok (.istore_n 3, 1) := by decide +kernel
theorem dm_Model_factor_90 : decode bm_Model_factor 90 = .ok (.iload_n 3, 1) := by decide +kernel
theorem dm_Model_factor_91 : decode bm_Model_factor 91 = .ok (.iload_n 2, 1) := by decide +kernel
theorem dm_Model_factor_92 : decode bm_Model_factor 92 = .ok (.if_icmp .ge 30, 3) := by decide +kernel
theorem dm_Model_factor_95 : decode bm_Model_factor 95 = .ok (.aload_n 0, 1) := by decide +kernel
theorem dm_Model_factor_96 : decode bm_Model_factor 96 = .ok (.bipush 26, 2) := by decide +kernel
theorem dm_Model_factor_98 : decode bm_Model_factor 98 = .ok (.aload_n 0, 1) := by decide +kernel
theorem dm_Model_factor_99 : decode bm_Model_factor 99 = .ok (.getfield 23, 3) := by decide +kernel
theorem dm_Model_factor_102 : decode bm_Model_factor 102 = .ok (.i2l, 1) := by decide +kernel
theorem dm_Model_factor_103 : decode bm_Model_factor 103 = .ok (.bipush 25, 2) := by decide +kernel
theorem dm_Model_factor_105 : decode bm_Model_factor 105 = .ok (.invokevirtual 65, 3) := by decide +kernel
theorem dm_Model_factor_108 : decode bm_Model_factor 108 = .ok (.aload_n 0, 1) := by decide +kernel
theorem dm_Model_factor_109 : decode bm_Model_factor 109 = .ok (.bipush 28, 2) := by decide +kernel
theorem dm_Model_factor_111 : decode bm_Model_factor 111 = .ok (.bipush 26, 2) := by decide +kernel
theorem dm_Model_factor_113 : decode bm_Model_factor 113 = .ok (.invokevirtual 55, 3) := by decide +kernel
theorem dm_Model_factor_116 : decode bm_Model_factor 116 = .ok (.iinc 3 1, 3) := by decide +kernel
theorem dm_Model_factor_119 : decode bm_Model_factor 119 = .ok (.goto (-29), 3) := by decide +kernel
theorem dm_Model_factor_122 : decode bm_Model_factor 122 = .ok (.aload_n 0, 1) := by decide +kernel
theorem dm_Model_factor_123 : decode bm_Model_factor 123 = .ok (.bipush 27, 2) := by decide +kernel
theorem dm_Model_factor_125 : decode bm_Model_factor 125 = .ok (.iconst 0, 1) := by decide +kernel
theorem dm_Model_factor_126 : decode bm_Model_factor 126 = .ok (.invokevirtual 38, 3) := by decide +kernel
theorem dm_Model_factor_129 : decode bm_Model_factor 129 = .ok (.aload_n 0, 1) := by decide +kernel
theorem dm_Model_factor_130 : decode bm_Model_factor 130 = .ok (.bipush 27, 2) := by decide +kernel
theorem dm_Model_factor_132 : decode bm_Model_factor 132 = .ok (.iconst 1, 1) := by decide +kernel
theorem dm_Model_factor_133 : decode bm_Model_factor 133 = .ok (.iconst 1, 1) := by decide +kernel
theorem dm_Model_factor_134 : decode bm_Model_factor 134 = .ok (.invokevirtual 34, 3) := by decide +kernel
theorem dm_Model_factor_137 : decode bm_Model_factor 137 = .ok (.aload_n 0, 1) := by decide +kernel
theorem dm_Model_factor_138 : decode bm_Model_factor 138 = .ok (.bipush 27, 2) := by decide +kernel
theorem dm_Model_factor_140 : decode bm_Model_factor 140 = .ok (.bipush 25, 2) := by decide +kernel
theorem dm_Model_factor_142 : decode bm_Model_factor 142 = .ok (.invokevirtual 52, 3) := by decide +kernel
theorem dm_Model_factor_145 : decode bm_Model_factor 145 = .ok (.aload_n 0, 1) := by decide +kernel
theorem dm_Model_factor_146 : decode bm_Model_factor 146 = .ok (.bipush 26, 2) := by decide +kernel
theorem dm_Model_factor_148 : decode bm_Model_factor 148 = .ok (.bipush 27, 2) := by decide +kernel
theorem dm_Model_factor_150 : decode bm_Model_factor 150 = .ok (.aload_n 0, 1) := by decide +kernel
theorem dm_Model_factor_151 : decode bm_Model_factor 151 = .ok (.getfield 23, 3) := by decide +kernel
theorem dm_Model_factor_154 : decode bm_Model_factor 154 = .ok (.iconst 1, 1) := by decide +kernel
theorem dm_Model_factor_155 : decode bm_Model_factor 155 = .ok (.isub, 1) := by decide +kernel
theorem dm_Model_factor_156 : decode bm_Model_factor 156 = .ok (.invokevirtual 78, 3) := by decide +kernel
theorem dm_Model_factor_159 : decode bm_Model_factor 159 = .ok (.aload_n 0, 1) := by decide +kernel
theorem dm_Model_factor_160 : decode bm_Model_factor 160 = .ok (.bipush 26, 2) := by decide +kernel
theorem dm_Model_factor_162 : decode bm_Model_factor 162 = .ok (.bipush 25, 2) := by decide +kernel
theorem dm_Model_factor_164 : decode bm_Model_factor 164 = .ok (.invokevirtual 81, 3) := by decide +kernel
theorem dm_Model_factor_167 : decode bm_Model_factor 167 = .ok (.aload_n 0, 1) := by decide +kernel
theorem dm_Model_factor_168 : decode bm_Model_factor 168 = .ok (.iload_n 2, 1) := by decide +kernel
theorem dm_Model_factor_169 : decode bm_Model_factor 169 = .ok (.invokevirtual 104, 3) := by decide +kernel
theorem dm_Model_factor_172 : decode bm_Model_factor 172 = .ok (.iinc 2 1, 3) := by decide +kernel
theorem dm_Model_factor_175 : decode bm_Model_factor 175 = .ok (.goto (-119), 3) := by decide +kernel
theorem dm_Model_factor_178 : decode bm_Model_factor 178 = .ok (.aload_n 0, 1) := by decide +kernel
theorem dm_Model_factor_179 : decode bm_Model_factor 179 = .ok (.getfield 88, 3) := by decide +kernel
theorem dm_Model_factor_182 : decode bm_Model_factor 182 = .ok (.ireturn, 1) := by decide +kernel
set_option maxHeartbeats 4000000 in
set_option maxRecDepth 100000 in
theorem mm_Model_factor (l : Launch) (D : va_G) (k : ClassId × ClassId × ClassId) (g : Nat → Nat) (σ : st_T) {P : Nat} (hw : md_wf P σ) (hP : ag_pr P) (hP31 : P < 2147483648) (hrg : ∀ n, n < 8 → sp_sz (σ (300 + n)) 31 ≤ 16) {a : Int32} : mt_I l D k g ym_Model_factor wm_Model_factor rm_Model_factor [.ref (g 149), .int a] σ (fun r σ1 => (¬ (rk_r a) ∧ r = -1 ∧ σ1 = σ) ∨ ∃ a0, (a0 < 8 ∧ a = nI a0) ∧ ((sp_sz (σ (300 + a0)) 31 = 0 ∧ r = -1 ∧ σ1 = σ) ∨ (0 < sp_sz (σ (300 + a0)) 31 ∧ r = nI (σ1 205 1) ∧ md_wf P σ1 ∧ ml_v σ1 = mk_l P (σ (300 + a0)) ∧ σ1 205 1 ≤ 15 ∧ (σ1 205 2 = 1 ∧ σ1 205 3 = σ (300 + a0) (sp_sz (σ (300 + a0)) 31 - 1) ∧ σ1 205 4 = σ 205 4) ∧ md_sm mt_X σ σ1))) := by
  refine ct_I_in (cc := bm_Model_factor) (maxL := 4) (by decide) rfl (Nat.le_of_ble_eq_true rfl) ?_
  intro p e s m args below meth c A ls Q S hl hW hret
  have S : pw_S p m c bm_Model_factor 4 s args wa_g rc_Model D cl_s (ty_s k) := S
  have hx := S.1.1
  have hb := S.1.2.1
  have hl : lv_has ls 4 [(0, .ref (g (149))), (1, .int (a))] := hl
  have hP2 := hP.1
  refine lv_iload_n hx hb dm_Model_factor_0 rfl (lv_at hl 1 rfl) ?_
  refine pw_callSI (rest := []) S hW (mm_Model_isRegister l D k g σ (x := a)) (cv_Model_69 S.1.2.2.2.2 ⟨by decide, by decide⟩) rfl hl.1 rfl (lv_room (Nat.le_of_ble_eq_true rfl)) ⟨Nat.zero_le _, Nat.zero_le _⟩ dm_Model_factor_1 (fun r σ1 H locs hp hW => ?_)
  obtain ⟨hp, h9⟩ := hp
  rw [h9] at hW
  rcases hp with ⟨hr, a0, ha0, rfl⟩ | ⟨hr, hno⟩
  · subst hr
    have hl : lv_has ls 4 [(0, .ref (g (149))), (1, .int (nI (a0)))] := hl
    refine wi_if_eq (tgt := 15) S (nn_T (by omega)) dm_Model_factor_4 (by decide) (fun hc => ?_) (fun hc => ?_)
    · exfalso
      omega
    · have zf := sp_sz_le (σ (300 + a0)) 31
      have h16 := hrg a0 ha0
      have hfo := hw.2 a0 (by omega)
      refine lv_aload_n hx hb dm_Model_factor_7 rfl (lv_at hl 0 rfl) ?_
      refine lv_iload_n hx hb dm_Model_factor_8 rfl (lv_at hl 1 rfl) ?_
      refine pw_callVI (rest := []) S hW (mm_Model_degree l D k g σ (s0 := a0) (P := P) (by omega) (hw.2 (a0) (by omega)) hP31) (cv_Model_42 S.1.2.2.2.2 ⟨by decide, by decide⟩) (by decide) en_Model rfl rfl hl.1 rfl (lv_room (Nat.le_of_ble_eq_true rfl)) ⟨Nat.zero_le _, Nat.zero_le _⟩ dm_Model_factor_9 (fun r σ1 H locs hp hW => ?_)
      obtain ⟨hr, hp⟩ := hp
      rw [hp] at hW
      subst hr
      refine wi_if_ge (tgt := 17) S (sd_T (by omega)) dm_Model_factor_12 (by decide) (fun hc => ?_) (fun hc => ?_)
      · refine lv_aload_n hx hb dm_Model_factor_17 rfl (lv_at hl 0 rfl) ?_
        refine lv_iconst (v := nI (1)) hx hb dm_Model_factor_18 (by decide) ?_
        refine md_put_factored S hW (wa_in 566 (by decide +kernel) rfl) dm_Model_factor_19 (fun H locs hW => ?_)
        have wS1 : md_wf P (st_up σ 205 2 1) := ⟨by rw [st_up_at, va_up_ne _ _ (by omega)]; exact hw.1, fun s hs => by rw [st_up_row (by omega)]; exact hw.2 s hs⟩
        have kS1 : (st_up σ 205 2 1) (300 + a0) = σ (300 + a0) := st_up_row (by omega)
        refine lv_aload_n hx hb dm_Model_factor_22 rfl (lv_at hl 0 rfl) ?_
        refine lv_aload_n hx hb dm_Model_factor_23 rfl (lv_at hl 0 rfl) ?_
        refine lv_iload_n hx hb dm_Model_factor_24 rfl (lv_at hl 1 rfl) ?_
        refine lv_aload_n hx hb dm_Model_factor_25 rfl (lv_at hl 0 rfl) ?_
        refine lv_iload_n hx hb dm_Model_factor_26 rfl (lv_at hl 1 rfl) ?_
        refine pw_callVI (rest := [.int (nI (a0)), .ref (g (149)), .ref (g (149))]) S hW (mm_Model_degree l D k g (st_up σ 205 2 1) (s0 := a0) (P := P) (by omega) (wS1.2 (a0) (by omega)) hP31) (cv_Model_42 S.1.2.2.2.2 ⟨by decide, by decide⟩) (by decide) en_Model rfl rfl hl.1 rfl (lv_room (Nat.le_of_ble_eq_true rfl)) ⟨Nat.zero_le _, Nat.zero_le _⟩ dm_Model_factor_27 (fun r σ1 H locs hp hW => ?_)
        obtain ⟨hr, hp⟩ := hp
        rw [hp] at hW
        subst hr
        rw [kS1]
        rw [sd_n (show 0 < sp_sz (σ (300 + a0)) 31 by omega)]
        refine pw_callVI (rest := [.ref (g (149))]) S hW (mm_Model_get l D k g (st_up σ 205 2 1) (s0 := a0) (n := sp_sz (σ (300 + a0)) 31 - 1) (by omega) (by omega)) (cv_Model_31 S.1.2.2.2.2 ⟨by decide, by decide⟩) (by decide) en_Model rfl rfl hl.1 rfl (lv_room (Nat.le_of_ble_eq_true rfl)) ⟨Nat.zero_le _, Nat.zero_le _⟩ dm_Model_factor_30 (fun r σ1 H locs hp hW => ?_)
        obtain ⟨hr, hp⟩ := hp
        rw [hp] at hW
        subst hr
        rw [kS1]
        refine md_put_lead S hW (wa_in 567 (by decide +kernel) rfl) dm_Model_factor_33 (fun H locs hW => ?_)
        refine lv_aload_n hx hb dm_Model_factor_36 rfl (lv_at hl 0 rfl) ?_
        refine lv_iconst (v := nI (0)) hx hb dm_Model_factor_37 (by decide) ?_
        refine md_put_parts S hW (wa_in 563 (by decide +kernel) rfl) dm_Model_factor_38 (fun H locs hW => ?_)
        have r1 : (st_up (st_up (st_up σ 205 2 1) 205 3 (σ (300 + a0) (sp_sz (σ (300 + a0)) 31 - 1))) 205 1 0) 205 1 = 0 := by rw [st_up_at, va_up_self]
        have rj : ∀ j, j ≠ 1 → (st_up (st_up (st_up σ 205 2 1) 205 3 (σ (300 + a0) (sp_sz (σ (300 + a0)) 31 - 1))) 205 1 0) 205 j = va_up (va_up (σ 205) 2 1) 3 (σ (300 + a0) (sp_sz (σ (300 + a0)) 31 - 1)) j := fun j hj => by rw [st_up_at, va_up_ne _ _ hj, st_up_at, st_up_at]
        have wS3 : md_wf P (st_up (st_up (st_up σ 205 2 1) 205 3 (σ (300 + a0) (sp_sz (σ (300 + a0)) 31 - 1))) 205 1 0) := ⟨by rw [rj 0 (by omega), va_up_ne _ _ (by omega), va_up_ne _ _ (by omega)]; exact hw.1, fun s hs => by rw [st_up_row (by omega), st_up_row (by omega), st_up_row (by omega)]; exact hw.2 s hs⟩
        have kS3 : (st_up (st_up (st_up σ 205 2 1) 205 3 (σ (300 + a0) (sp_sz (σ (300 + a0)) 31 - 1))) 205 1 0) (300 + a0) = σ (300 + a0) := by rw [st_up_row (by omega), st_up_row (by omega), st_up_row (by omega)]
        have sS3 : md_sm mt_X σ (st_up (st_up (st_up σ 205 2 1) 205 3 (σ (300 + a0) (sp_sz (σ (300 + a0)) 31 - 1))) 205 1 0) := fun a ha => by
          have h205 : a ≠ 205 := fun z => ha (by rw [z]; decide +kernel)
          rw [st_up_row h205, st_up_row h205, st_up_row h205]
        generalize (st_up (st_up (st_up σ 205 2 1) 205 3 (σ (300 + a0) (sp_sz (σ (300 + a0)) 31 - 1))) 205 1 0) = ρ at hW r1 rj wS3 kS3 sS3
        refine lv_aload_n hx hb dm_Model_factor_41 rfl (lv_at hl 0 rfl) ?_
        refine lv_iload_n hx hb dm_Model_factor_42 rfl (lv_at hl 1 rfl) ?_
        refine lv_bipush (v := nI (25)) hx hb dm_Model_factor_43 (by decide) ?_
        refine pw_callV (rest := []) S hW (mm_Model_copy l D k g ρ wS3 (a := a0) (b := 25) (by omega) (by omega)) (cv_Model_55 S.1.2.2.2.2 ⟨by decide, by decide⟩) (by decide) en_Model rfl rfl hl.1 rfl (lv_room (Nat.le_of_ble_eq_true rfl)) ⟨Nat.zero_le _, Nat.zero_le _⟩ dm_Model_factor_45 (fun σ2 H locs hp2 hW => ?_)
        obtain ⟨w2, e2, s2⟩ := hp2
        have k2_a0 : σ2 (300 + (a0)) = σ (300 + a0) := by rw [s2 _ (by simp only [List.mem_cons, List.not_mem_nil, or_false]; omega)]; exact kS3
        have k2_25 : σ2 (300 + (25)) = σ (300 + a0) := by rw [e2, kS3]
        refine lv_aload_n hx hb dm_Model_factor_48 rfl (lv_at hl 0 rfl) ?_
        refine lv_bipush (v := nI (25)) hx hb dm_Model_factor_49 (by decide) ?_
        refine pw_callV (rest := []) S hW (mm_Model_monic l D k g σ2 w2 hP hP31 (s0 := 25) (by omega)) (cv_Model_58 S.1.2.2.2.2 ⟨by decide, by decide⟩) (by decide) en_Model rfl rfl hl.1 rfl (lv_room (Nat.le_of_ble_eq_true rfl)) ⟨Nat.zero_le _, Nat.zero_le _⟩ dm_Model_factor_51 (fun σ3 H locs hp3 hW => ?_)
        obtain ⟨w3, e3, s3⟩ := hp3
        have k3_a0 : σ3 (300 + (a0)) = σ (300 + a0) := by rw [s3 _ (by simp only [List.mem_cons, List.not_mem_nil, or_false]; omega)]; exact k2_a0
        have k3_25 : σ3 (300 + (25)) = sp_mon P (σ (300 + a0)) := by rw [e3, k2_25]
        have m3 : md_sm [300 + (25)] ρ σ3 := md_sm_tr s2 s3 (by intro x9 hx9; simp only [List.mem_cons, List.not_mem_nil, or_false] at hx9 ⊢; omega) (by intro x9 hx9; simp only [List.mem_cons, List.not_mem_nil, or_false] at hx9 ⊢; omega)
        refine lv_iconst (v := nI (1)) hx hb dm_Model_factor_54 (by decide) ?_
        refine lv_istore_n hx hb dm_Model_factor_55 rfl hl (by decide) rfl (fun ls hl => ?_)
        have hl : lv_has ls 4 [(2, .int (nI (1))), (0, .ref (g (149))), (1, .int (nI (a0)))] := hl
        have hl : lv_has ls 4 [(2, .int (nI (1))), (0, .ref (g (149)))] := lv_sub hl [0, 1] rfl
        have hm1 := ml_sm m3 (by decide +kernel) (by omega)
        have v1 : ml_v σ3 = [] := by rw [hm1.1]; unfold ml_v; rw [r1]; rfl
        have zM : sp_sz (sp_mon P (σ (300 + a0))) 31 = sp_sz (σ (300 + a0)) 31 := sp_mon_sz hP hfo
        have loop : ∀ (n d : Nat) (τ : st_T), d + n = 16 → md_wf P τ → sp_mc (τ (300 + 25)) → sp_sz (τ (300 + 25)) 31 ≤ 16 → dd_free P d (τ (300 + 25)) → τ 205 1 + sp_sz (τ (300 + 25)) 31 ≤ 16 → (∀ p ∈ ml_v τ, p.1 ≤ 15 ∧ p.2.1 ≤ 31 ∧ p.2.1 < d + 1) → (md_f P n (d + 1) (τ (300 + 25)) (ml_v τ)).2 = (md_f P 16 1 (sp_mon P (σ (300 + a0))) []).2 → (∀ j, j ≠ 1 → τ 205 j = ρ 205 j) → md_sm mt_X σ τ → ∀ (ls : Array Slot) (H : Heap) (locs : List Loc), lv_has ls 4 [(2, .int (nI (d + 1))), (0, .ref (g (149)))] → pw_H D cl_s A s.heap g 153 (en_s k g (τ)) H locs → W p l e rm_Model_factor s m args below meth c H locs 0 0 Q (F0 m 56 ls []) := by
          intro n
          induction n with
          | zero =>
            intro d τ hd wτ mA a16 hfree kτ lτ fτ jτ sτ ls H locs hl hW
            have hAo := wτ.2 25 (by omega)
            have hA0 := mA.1
            refine lv_aload_n hx hb dm_Model_factor_56 rfl (lv_at hl 1 rfl) ?_
            refine lv_bipush (v := nI (25)) hx hb dm_Model_factor_57 (by decide) ?_
            refine pw_callVI (rest := []) S hW (mm_Model_degree l D k g τ (s0 := 25) (P := P) (by omega) (wτ.2 (25) (by omega)) hP31) (cv_Model_42 S.1.2.2.2.2 ⟨by decide, by decide⟩) (by decide) en_Model rfl rfl hl.1 rfl (lv_room (Nat.le_of_ble_eq_true rfl)) ⟨Nat.zero_le _, Nat.zero_le _⟩ dm_Model_factor_59 (fun r σ1 H locs hp hW => ?_)
            obtain ⟨hr, hp⟩ := hp
            rw [hp] at hW
            subst hr
            have hend := md_end hP hAo a16 hfree (by omega)
            refine wi_if_le (tgt := 178) S (sd_T (by omega)) dm_Model_factor_62 (by decide) (fun hc => ?_) (fun hc => ?_)
            · refine lv_aload_n hx hb dm_Model_factor_178 rfl (lv_at hl 1 rfl) ?_
              refine md_parts S hW (wa_in 563 (by decide +kernel) rfl) dm_Model_factor_179 ?_
              have fτ : ml_v τ = _ := fτ
              exact hret _ _ _ _ _ _ dm_Model_factor_182 (Or.inr ⟨a0, ⟨ha0, rfl⟩, Or.inr ⟨by omega, rfl, wτ, by rw [fτ]; exact md_mkl hP hfo (by omega) h16, by omega, ⟨by rw [jτ 2 (by omega), rj 2 (by omega), va_up_ne _ _ (by omega), va_up_self], by rw [jτ 3 (by omega), rj 3 (by omega), va_up_self], by rw [jτ 4 (by omega), rj 4 (by omega), va_up_ne _ _ (by omega), va_up_ne _ _ (by omega)]⟩, sτ⟩⟩) hW
            · exfalso
              omega
          | succ n ih =>
            intro d τ hd wτ mA a16 hfree kτ lτ fτ jτ sτ ls H locs hl hW
            have hAo := wτ.2 25 (by omega)
            have hA0 := mA.1
            refine lv_aload_n hx hb dm_Model_factor_56 rfl (lv_at hl 1 rfl) ?_
            refine lv_bipush (v := nI (25)) hx hb dm_Model_factor_57 (by decide) ?_
            refine pw_callVI (rest := []) S hW (mm_Model_degree l D k g τ (s0 := 25) (P := P) (by omega) (wτ.2 (25) (by omega)) hP31) (cv_Model_42 S.1.2.2.2.2 ⟨by decide, by decide⟩) (by decide) en_Model rfl rfl hl.1 rfl (lv_room (Nat.le_of_ble_eq_true rfl)) ⟨Nat.zero_le _, Nat.zero_le _⟩ dm_Model_factor_59 (fun r σ1 H locs hp hW => ?_)
            obtain ⟨hr, hp⟩ := hp
            rw [hp] at hW
            subst hr
            refine wi_if_le (tgt := 178) S (sd_T (by omega)) dm_Model_factor_62 (by decide) (fun hc => ?_) (fun hc => ?_)
            · refine lv_aload_n hx hb dm_Model_factor_178 rfl (lv_at hl 1 rfl) ?_
              refine md_parts S hW (wa_in 563 (by decide +kernel) rfl) dm_Model_factor_179 ?_
              rw [md_f_s, if_pos (by omega)] at fτ
              have fτ : ml_v τ = _ := fτ
              exact hret _ _ _ _ _ _ dm_Model_factor_182 (Or.inr ⟨a0, ⟨ha0, rfl⟩, Or.inr ⟨by omega, rfl, wτ, by rw [fτ]; exact md_mkl hP hfo (by omega) h16, by omega, ⟨by rw [jτ 2 (by omega), rj 2 (by omega), va_up_ne _ _ (by omega), va_up_self], by rw [jτ 3 (by omega), rj 3 (by omega), va_up_self], by rw [jτ 4 (by omega), rj 4 (by omega), va_up_ne _ _ (by omega), va_up_ne _ _ (by omega)]⟩, sτ⟩⟩) hW
            · rw [md_f_s, if_neg (by omega)] at fτ
              refine lv_aload_n hx hb dm_Model_factor_65 rfl (lv_at hl 1 rfl) ?_
              refine lv_bipush (v := nI (26)) hx hb dm_Model_factor_66 (by decide) ?_
              refine lv_iconst (v := nI (0)) hx hb dm_Model_factor_68 (by decide) ?_
              refine pw_callV (rest := []) S hW (mm_Model_number l D k g τ wτ (s0 := 26) (v := 0) (by omega) (by omega)) (cv_Model_38 S.1.2.2.2.2 ⟨by decide, by decide⟩) (by decide) en_Model rfl rfl hl.1 rfl (lv_room (Nat.le_of_ble_eq_true rfl)) ⟨Nat.zero_le _, Nat.zero_le _⟩ dm_Model_factor_69 (fun σ4 H locs hp4 hW => ?_)
              obtain ⟨w4, e4, s4⟩ := hp4
              have k4_25 : σ4 (300 + (25)) = τ (300 + 25) := by rw [s4 _ (by simp only [List.mem_cons, List.not_mem_nil, or_false]; omega)]
              have k4_26 : σ4 (300 + (26)) = va_up (fun _ => 0) 0 (0) := by rw [e4]
              refine lv_aload_n hx hb dm_Model_factor_72 rfl (lv_at hl 1 rfl) ?_
              refine lv_bipush (v := nI (26)) hx hb dm_Model_factor_73 (by decide) ?_
              refine lv_iconst (v := nI (1)) hx hb dm_Model_factor_75 (by decide) ?_
              refine lv_iconst (v := nI (1)) hx hb dm_Model_factor_76 (by decide) ?_
              refine pw_callV (rest := []) S hW (mm_Model_put l D k g σ4 (s0 := 26) (n := 1) (v := 1) (by omega) (by omega)) (cv_Model_34 S.1.2.2.2.2 ⟨by decide, by decide⟩) (by decide) en_Model rfl rfl hl.1 rfl (lv_room (Nat.le_of_ble_eq_true rfl)) ⟨Nat.zero_le _, Nat.zero_le _⟩ dm_Model_factor_77 (fun σ1 H locs hp hW => ?_)
              rw [hp] at hW
              have e5 : (st_up σ4 (300 + 26) 1 1) (300 + 26) = sp_x := by rw [st_up_at, k4_26]; exact sx_e
              have w5 : md_wf P (st_up σ4 (300 + 26) 1 1) := md_wf_rw (s := 26) w4 (fun a ha => st_up_row ha) (by rw [e5]; exact sp_x_ok hP2)
              have s5 : md_sm [300 + 26] σ4 (st_up σ4 (300 + 26) 1 1) := fun a ha => st_up_row (fun z => ha (by rw [z]; exact List.mem_singleton.mpr rfl))
              generalize st_up σ4 (300 + 26) 1 1 = σ5 at hW e5 w5 s5
              have k5_25 : σ5 (300 + (25)) = τ (300 + 25) := by rw [s5 _ (by simp only [List.mem_cons, List.not_mem_nil, or_false]; omega)]; exact k4_25
              have m5 : md_sm [300 + (26), 300 + 26] τ σ5 := md_sm_tr s4 s5 (by intro x9 hx9; simp only [List.mem_cons, List.not_mem_nil, or_false] at hx9 ⊢; omega) (by intro x9 hx9; simp only [List.mem_cons, List.not_mem_nil, or_false] at hx9 ⊢; omega)
              refine lv_aload_n hx hb dm_Model_factor_80 rfl (lv_at hl 1 rfl) ?_
              refine lv_bipush (v := nI (26)) hx hb dm_Model_factor_81 (by decide) ?_
              refine lv_bipush (v := nI (25)) hx hb dm_Model_factor_83 (by decide) ?_
              refine pw_callV (rest := []) S hW (mm_Model_rest l D k g σ5 w5 hP hP31 (a := 26) (b := 25) (by omega) (by omega) (by omega) (by omega) (by omega) (by rw [k5_25]; omega)) (cv_Model_52 S.1.2.2.2.2 ⟨by decide, by decide⟩) (by decide) en_Model rfl rfl hl.1 rfl (lv_room (Nat.le_of_ble_eq_true rfl)) ⟨Nat.zero_le _, Nat.zero_le _⟩ dm_Model_factor_85 (fun σ6 H locs hp6 hW => ?_)
              obtain ⟨w6, e6, s6⟩ := hp6
              have k6_25 : σ6 (300 + (25)) = τ (300 + 25) := by rw [s6 _ (by simp only [List.mem_cons, List.not_mem_nil, or_false]; omega)]; exact k5_25
              have k6_26 : σ6 (300 + (26)) = sp_rest P (sp_x) (τ (300 + 25)) := by rw [e6.1, e5, k5_25]
              have k6_32 : σ6 (300 + (32)) = sp_quo P (sp_x) (τ (300 + 25)) := by rw [e6.2, e5, k5_25]
              have m6 : md_sm [300 + (26), 300 + 26, 300 + (32)] τ σ6 := md_sm_tr m5 s6 (by intro x9 hx9; simp only [List.mem_cons, List.not_mem_nil, or_false] at hx9 ⊢; omega) (by intro x9 hx9; simp only [List.mem_cons, List.not_mem_nil, or_false] at hx9 ⊢; omega)
              have hX0 := sp_rest_is hP (sp_x_ok hP2) hAo mA.1
              rw [sp_x_pe] at hX0
              refine lv_iconst (v := nI (0)) hx hb dm_Model_factor_88 (by decide) ?_
              refine lv_istore_n hx hb dm_Model_factor_89 rfl hl (by decide) rfl (fun ls hl => ?_)
              have hl : lv_has ls 4 [(3, .int (nI (0))), (2, .int (nI (d + 1))), (0, .ref (g (149)))] := hl
              have hl : lv_has ls 4 [(3, .int (nI (0))), (2, .int (nI (d + 1))), (0, .ref (g (149)))] := lv_sub hl [0, 1, 2] rfl
              have inner : ∀ (q9 i : Nat) (υ : st_T), i + q9 = d + 1 → md_wf P υ → υ (300 + 25) = τ (300 + 25) → sp_is P (τ (300 + 25)) (υ (300 + 26)) (pz_pw pz_X (P ^ i)) → md_sm [300 + 26, 300 + 27, 300 + 28, 300 + 29, 300 + 30, 300 + 31, 300 + 32] τ υ → ∀ (ls : Array Slot) (H : Heap) (locs : List Loc), lv_has ls 4 [(3, .int (nI (i))), (2, .int (nI (d + 1))), (0, .ref (g (149)))] → pw_H D cl_s A s.heap g 153 (en_s k g (υ)) H locs → W p l e rm_Model_factor s m args below meth c H locs 0 0 Q (F0 m 90 ls []) := by
                intro q9
                induction q9 with
                | zero =>
                  intro i υ hi wυ u25 h26 sυ ls H locs hl hW
                  refine lv_iload_n hx hb dm_Model_factor_90 rfl (lv_at hl 0 rfl) ?_
                  refine lv_iload_n hx hb dm_Model_factor_91 rfl (lv_at hl 1 rfl) ?_
                  refine wi_icmp_ge (tgt := 122) S (nn_T (by omega)) (nn_T (by omega)) dm_Model_factor_92 (by decide) (fun hc => ?_) (fun hc => ?_)
                  · have hi : i = d + 1 := by omega
                    rw [hi] at h26
                    refine lv_aload_n hx hb dm_Model_factor_122 rfl (lv_at hl 2 rfl) ?_
                    refine lv_bipush (v := nI (27)) hx hb dm_Model_factor_123 (by decide) ?_
                    refine lv_iconst (v := nI (0)) hx hb dm_Model_factor_125 (by decide) ?_
                    refine pw_callV (rest := []) S hW (mm_Model_number l D k g υ wυ (s0 := 27) (v := 0) (by omega) (by omega)) (cv_Model_38 S.1.2.2.2.2 ⟨by decide, by decide⟩) (by decide) en_Model rfl rfl hl.1 rfl (lv_room (Nat.le_of_ble_eq_true rfl)) ⟨Nat.zero_le _, Nat.zero_le _⟩ dm_Model_factor_126 (fun σ31 H locs hp31 hW => ?_)
                    obtain ⟨w31, e31, s31⟩ := hp31
                    have k31_25 : σ31 (300 + (25)) = τ (300 + 25) := by rw [s31 _ (by simp only [List.mem_cons, List.not_mem_nil, or_false]; omega)]; exact u25
                    have k31_26 : σ31 (300 + (26)) = υ (300 + 26) := by rw [s31 _ (by simp only [List.mem_cons, List.not_mem_nil, or_false]; omega)]
                    have k31_27 : σ31 (300 + (27)) = va_up (fun _ => 0) 0 (0) := by rw [e31]
                    refine lv_aload_n hx hb dm_Model_factor_129 rfl (lv_at hl 2 rfl) ?_
                    refine lv_bipush (v := nI (27)) hx hb dm_Model_factor_130 (by decide) ?_
                    refine lv_iconst (v := nI (1)) hx hb dm_Model_factor_132 (by decide) ?_
                    refine lv_iconst (v := nI (1)) hx hb dm_Model_factor_133 (by decide) ?_
                    refine pw_callV (rest := []) S hW (mm_Model_put l D k g σ31 (s0 := 27) (n := 1) (v := 1) (by omega) (by omega)) (cv_Model_34 S.1.2.2.2.2 ⟨by decide, by decide⟩) (by decide) en_Model rfl rfl hl.1 rfl (lv_room (Nat.le_of_ble_eq_true rfl)) ⟨Nat.zero_le _, Nat.zero_le _⟩ dm_Model_factor_134 (fun σ1 H locs hp hW => ?_)
                    rw [hp] at hW
                    have e32 : (st_up σ31 (300 + 27) 1 1) (300 + 27) = sp_x := by rw [st_up_at, k31_27]; exact sx_e
                    have w32 : md_wf P (st_up σ31 (300 + 27) 1 1) := md_wf_rw (s := 27) w31 (fun a ha => st_up_row ha) (by rw [e32]; exact sp_x_ok hP2)
                    have s32 : md_sm [300 + 27] σ31 (st_up σ31 (300 + 27) 1 1) := fun a ha => st_up_row (fun z => ha (by rw [z]; exact List.mem_singleton.mpr rfl))
                    generalize st_up σ31 (300 + 27) 1 1 = σ32 at hW e32 w32 s32
                    have k32_25 : σ32 (300 + (25)) = τ (300 + 25) := by rw [s32 _ (by simp only [List.mem_cons, List.not_mem_nil, or_false]; omega)]; exact k31_25
                    have k32_26 : σ32 (300 + (26)) = υ (300 + 26) := by rw [s32 _ (by simp only [List.mem_cons, List.not_mem_nil, or_false]; omega)]; exact k31_26
                    have m32 : md_sm [300 + (27), 300 + 27] υ σ32 := md_sm_tr s31 s32 (by intro x9 hx9; simp only [List.mem_cons, List.not_mem_nil, or_false] at hx9 ⊢; omega) (by intro x9 hx9; simp only [List.mem_cons, List.not_mem_nil, or_false] at hx9 ⊢; omega)
                    refine lv_aload_n hx hb dm_Model_factor_137 rfl (lv_at hl 2 rfl) ?_
                    refine lv_bipush (v := nI (27)) hx hb dm_Model_factor_138 (by decide) ?_
                    refine lv_bipush (v := nI (25)) hx hb dm_Model_factor_140 (by decide) ?_
                    refine pw_callV (rest := []) S hW (mm_Model_rest l D k g σ32 w32 hP hP31 (a := 27) (b := 25) (by omega) (by omega) (by omega) (by omega) (by omega) (by rw [k32_25]; omega)) (cv_Model_52 S.1.2.2.2.2 ⟨by decide, by decide⟩) (by decide) en_Model rfl rfl hl.1 rfl (lv_room (Nat.le_of_ble_eq_true rfl)) ⟨Nat.zero_le _, Nat.zero_le _⟩ dm_Model_factor_142 (fun σ33 H locs hp33 hW => ?_)
                    obtain ⟨w33, e33, s33⟩ := hp33
                    have k33_25 : σ33 (300 + (25)) = τ (300 + 25) := by rw [s33 _ (by simp only [List.mem_cons, List.not_mem_nil, or_false]; omega)]; exact k32_25
                    have k33_26 : σ33 (300 + (26)) = υ (300 + 26) := by rw [s33 _ (by simp only [List.mem_cons, List.not_mem_nil, or_false]; omega)]; exact k32_26
                    have k33_27 : σ33 (300 + (27)) = sp_rest P (sp_x) (τ (300 + 25)) := by rw [e33.1, e32, k32_25]
                    have k33_32 : σ33 (300 + (32)) = sp_quo P (sp_x) (τ (300 + 25)) := by rw [e33.2, e32, k32_25]
                    have m33 : md_sm [300 + (27), 300 + 27, 300 + (32)] υ σ33 := md_sm_tr m32 s33 (by intro x9 hx9; simp only [List.mem_cons, List.not_mem_nil, or_false] at hx9 ⊢; omega) (by intro x9 hx9; simp only [List.mem_cons, List.not_mem_nil, or_false] at hx9 ⊢; omega)
                    have hz := fz_m hP2 h26 hX0
                    refine lv_aload_n hx hb dm_Model_factor_145 rfl (lv_at hl 2 rfl) ?_
                    refine lv_bipush (v := nI (26)) hx hb dm_Model_factor_146 (by decide) ?_
                    refine lv_bipush (v := nI (27)) hx hb dm_Model_factor_148 (by decide) ?_
                    refine lv_aload_n hx hb dm_Model_factor_150 rfl (lv_at hl 2 rfl) ?_
                    refine md_p S hW (wa_in 561 (by decide +kernel) rfl) dm_Model_factor_151 ?_
                    rw [w33.1]
                    refine lv_iconst (v := nI (1)) hx hb dm_Model_factor_154 (by decide) ?_
                    refine wn_isub S (by omega) dm_Model_factor_155 ?_
                    refine pw_callV (rest := []) S hW (mm_Model_plus l D k g σ33 w33 (by omega) hP31 (a := 26) (b := 27) (K := (P) - (1)) (by omega) (by omega) (by omega)) (cv_Model_78 S.1.2.2.2.2 ⟨by decide, by decide⟩) (by decide) en_Model rfl rfl hl.1 rfl (lv_room (Nat.le_of_ble_eq_true rfl)) ⟨Nat.zero_le _, Nat.zero_le _⟩ dm_Model_factor_156 (fun σ34 H locs hp34 hW => ?_)
                    obtain ⟨w34, e34, s34⟩ := hp34
                    have k34_25 : σ34 (300 + (25)) = τ (300 + 25) := by rw [s34 _ (by simp only [List.mem_cons, List.not_mem_nil, or_false]; omega)]; exact k33_25
                    have k34_27 : σ34 (300 + (27)) = sp_rest P (sp_x) (τ (300 + 25)) := by rw [s34 _ (by simp only [List.mem_cons, List.not_mem_nil, or_false]; omega)]; exact k33_27
                    have k34_32 : σ34 (300 + (32)) = sp_quo P (sp_x) (τ (300 + 25)) := by rw [s34 _ (by simp only [List.mem_cons, List.not_mem_nil, or_false]; omega)]; exact k33_32
                    have k34_26 : σ34 (300 + (26)) = sp_add P (υ (300 + 26)) (sp_rest P (sp_x) (τ (300 + 25))) ((P) - (1)) := by rw [e34, k33_26, k33_27]
                    have m34 : md_sm [300 + (27), 300 + 27, 300 + (32), 300 + (26)] υ σ34 := md_sm_tr m33 s34 (by intro x9 hx9; simp only [List.mem_cons, List.not_mem_nil, or_false] at hx9 ⊢; omega) (by intro x9 hx9; simp only [List.mem_cons, List.not_mem_nil, or_false] at hx9 ⊢; omega)
                    refine lv_aload_n hx hb dm_Model_factor_159 rfl (lv_at hl 2 rfl) ?_
                    refine lv_bipush (v := nI (26)) hx hb dm_Model_factor_160 (by decide) ?_
                    refine lv_bipush (v := nI (25)) hx hb dm_Model_factor_162 (by decide) ?_
                    refine pw_callV (rest := []) S hW (mm_Model_commonOf l D k g σ34 w34 hP hP31 (a := 26) (b := 25) (by omega) (by omega) (by omega)) (cv_Model_81 S.1.2.2.2.2 ⟨by decide, by decide⟩) (by decide) en_Model rfl rfl hl.1 rfl (lv_room (Nat.le_of_ble_eq_true rfl)) ⟨Nat.zero_le _, Nat.zero_le _⟩ dm_Model_factor_164 (fun σ35 H locs hp35 hW => ?_)
                    obtain ⟨w35, e35, s35⟩ := hp35
                    have k35_25 : σ35 (300 + (25)) = τ (300 + 25) := by rw [s35 _ (by simp only [List.mem_cons, List.not_mem_nil, or_false]; omega)]; exact k34_25
                    have k35_27 : σ35 (300 + (27)) = sp_rest P (sp_x) (τ (300 + 25)) := by rw [s35 _ (by simp only [List.mem_cons, List.not_mem_nil, or_false]; omega)]; exact k34_27
                    have k35_26 : σ35 (300 + (26)) = sp_add P (υ (300 + 26)) (sp_rest P (sp_x) (τ (300 + 25))) ((P) - (1)) := by rw [s35 _ (by simp only [List.mem_cons, List.not_mem_nil, or_false]; omega)]; exact k34_26
                    have k35_30 : σ35 (300 + (30)) = sp_gcd P (sp_add P (υ (300 + 26)) (sp_rest P (sp_x) (τ (300 + 25))) ((P) - (1))) (τ (300 + 25)) := by rw [e35, k34_26, k34_25]
                    have m35 : md_sm [300 + (27), 300 + 27, 300 + (32), 300 + (26), 300 + (29), 300 + (30), 300 + (31)] υ σ35 := md_sm_tr m34 s35 (by intro x9 hx9; simp only [List.mem_cons, List.not_mem_nil, or_false] at hx9 ⊢; omega) (by intro x9 hx9; simp only [List.mem_cons, List.not_mem_nil, or_false] at hx9 ⊢; omega)
                    have ge := dd_C_eq hP hAo mA.1 hz.1 hz.2
                    rw [ge] at k35_30
                    have smW : md_sm [300 + 26, 300 + 27, 300 + 28, 300 + 29, 300 + 30, 300 + 31, 300 + 32] τ σ35 := md_sm_tr sυ m35 (fun _ h => h) (by intro x9 hx9; simp only [List.mem_cons, List.not_mem_nil, or_false] at hx9 ⊢; omega)
                    have hm4 := ml_sm smW (by decide +kernel) (by omega)
                    obtain ⟨⟨g1, g2, g3⟩, r1a, r2, r3, r4⟩ := tk_rd hP (L := ml_v τ) hAo mA a16 hfree
                    refine lv_aload_n hx hb dm_Model_factor_167 rfl (lv_at hl 2 rfl) ?_
                    refine lv_iload_n hx hb dm_Model_factor_168 rfl (lv_at hl 1 rfl) ?_
                    refine pw_callV (rest := []) S hW (mm_Model_takeOut l D k g σ35 (d0 := d + 1) w35 hP hP31 (by omega) (by rw [k35_30]; exact g2.1) (by rw [k35_25]; exact mA.1) (by rw [k35_30, k35_25]; exact g3) (by rw [k35_25, hm4.2.1]; exact kτ) (by rw [hm4.1]; exact lτ)) (cv_Model_104 S.1.2.2.2.2 ⟨by decide, by decide⟩) (by decide) en_Model rfl rfl hl.1 rfl (lv_room (Nat.le_of_ble_eq_true rfl)) ⟨Nat.zero_le _, Nat.zero_le _⟩ dm_Model_factor_169 (fun σ60 H locs hp60 hW => ?_)
                    obtain ⟨w60, f60, k60, l60, j60, s60⟩ := hp60
                    rw [k35_30, k35_25, hm4.1] at f60
                    have f61 : σ60 (300 + 25) = (tk_f P (d + 1) 15 1 (τ (300 + 25)) (dd_C P (d + 1) (τ (300 + 25))) (ml_v τ)).1 := by rw [← f60]
                    have f62 : ml_v σ60 = (tk_f P (d + 1) 15 1 (τ (300 + 25)) (dd_C P (d + 1) (τ (300 + 25))) (ml_v τ)).2 := by rw [← f60]
                    rw [← f61] at r1a r2 r3 r4
                    rw [← f61, ← f62] at fτ
                    refine lv_iinc (k := 1) (v := nI (d + 1 + 1)) hx hb dm_Model_factor_172 hl rfl (by rw [show Int32.ofInt 1 = nI 1 from rfl, nI_add]) (by decide) rfl (fun ls hl => ?_)
                    have hl : lv_has ls 4 [(2, .int (nI (d + 1 + 1))), (3, .int (nI (i))), (0, .ref (g (149)))] := hl
                    refine lv_goto (tgt := 56) hx hb dm_Model_factor_175 (by decide) ?_
                    have hl : lv_has ls 4 [(2, .int (nI (d + 1 + 1))), (0, .ref (g (149)))] := lv_sub hl [0, 2] rfl
                    exact ih (d + 1) σ60 (by omega) w60 r2 (by omega) r4 k60 (fun p hp => by have := l60 p hp; omega) fτ (fun j hj => by rw [j60 j hj, hm4.2.1]; exact jτ j hj) (md_sm_tr (md_sm_tr sτ smW (Z := mt_X) (fun _ h => h) (by decide +kernel)) s60 (fun _ h => h) (fun _ h => h)) ls _ _ hl hW
                  · exfalso
                    omega
                | succ q9 ihq =>
                  intro i υ hi wυ u25 h26 sυ ls H locs hl hW
                  refine lv_iload_n hx hb dm_Model_factor_90 rfl (lv_at hl 0 rfl) ?_
                  refine lv_iload_n hx hb dm_Model_factor_91 rfl (lv_at hl 1 rfl) ?_
                  refine wi_icmp_ge (tgt := 122) S (nn_T (by omega)) (nn_T (by omega)) dm_Model_factor_92 (by decide) (fun hc => ?_) (fun hc => ?_)
                  · exfalso
                    omega
                  · have z26 := h26.2.1
                    refine lv_aload_n hx hb dm_Model_factor_95 rfl (lv_at hl 2 rfl) ?_
                    refine lv_bipush (v := nI (26)) hx hb dm_Model_factor_96 (by decide) ?_
                    refine lv_aload_n hx hb dm_Model_factor_98 rfl (lv_at hl 2 rfl) ?_
                    refine md_p S hW (wa_in 561 (by decide +kernel) rfl) dm_Model_factor_99 ?_
                    rw [wυ.1]
                    refine wn_i2l S (by omega) dm_Model_factor_102 ?_
                    refine lv_bipush (v := nI (25)) hx hb dm_Model_factor_103 (by decide) ?_
                    refine pw_callV (rest := []) S hW (mm_Model_power2 l D k g υ wυ hP hP31 (a := 26) (m0 := 25) (n0 := P) (by omega) (by omega) (by omega) (by omega) (by omega) (by omega) (by omega) (by omega) (by rw [u25]; exact mA.1) (by rw [u25]; omega) (by rw [u25]; omega) (by omega)) (cv_Model_65 S.1.2.2.2.2 ⟨by decide, by decide⟩) (by decide) en_Model rfl rfl hl.1 rfl (lv_room (Nat.le_of_ble_eq_true rfl)) ⟨Nat.zero_le _, Nat.zero_le _⟩ dm_Model_factor_105 (fun σ31 H locs hp31 hW => ?_)
                    obtain ⟨w31, e31, s31⟩ := hp31
                    have k31_25 : σ31 (300 + (25)) = τ (300 + 25) := by rw [s31 _ (by simp only [List.mem_cons, List.not_mem_nil, or_false]; omega)]; exact u25
                    have k31_26 : σ31 (300 + (26)) = υ (300 + 26) := by rw [s31 _ (by simp only [List.mem_cons, List.not_mem_nil, or_false]; omega)]
                    rw [u25] at e31
                    refine lv_aload_n hx hb dm_Model_factor_108 rfl (lv_at hl 2 rfl) ?_
                    refine lv_bipush (v := nI (28)) hx hb dm_Model_factor_109 (by decide) ?_
                    refine lv_bipush (v := nI (26)) hx hb dm_Model_factor_111 (by decide) ?_
                    refine pw_callV (rest := []) S hW (mm_Model_copy l D k g σ31 w31 (a := 28) (b := 26) (by omega) (by omega)) (cv_Model_55 S.1.2.2.2.2 ⟨by decide, by decide⟩) (by decide) en_Model rfl rfl hl.1 rfl (lv_room (Nat.le_of_ble_eq_true rfl)) ⟨Nat.zero_le _, Nat.zero_le _⟩ dm_Model_factor_113 (fun σ32 H locs hp32 hW => ?_)
                    obtain ⟨w32, e32, s32⟩ := hp32
                    have k32_25 : σ32 (300 + (25)) = τ (300 + 25) := by rw [s32 _ (by simp only [List.mem_cons, List.not_mem_nil, or_false]; omega)]; exact k31_25
                    have k32_26 : σ32 (300 + (26)) = σ31 (300 + (28)) := by rw [e32]
                    have m32 : md_sm [300 + (28), 300 + (31), 300 + (32), 300 + (26)] υ σ32 := md_sm_tr s31 s32 (by intro x9 hx9; simp only [List.mem_cons, List.not_mem_nil, or_false] at hx9 ⊢; omega) (by intro x9 hx9; simp only [List.mem_cons, List.not_mem_nil, or_false] at hx9 ⊢; omega)
                    refine lv_iinc (k := 0) (v := nI (i + 1)) hx hb dm_Model_factor_116 hl rfl (by rw [show Int32.ofInt 1 = nI 1 from rfl, nI_add]) (by decide) rfl (fun ls hl => ?_)
                    have hl : lv_has ls 4 [(3, .int (nI (i + 1))), (2, .int (nI (d + 1))), (0, .ref (g (149)))] := hl
                    refine lv_goto (tgt := 90) hx hb dm_Model_factor_119 (by decide) ?_
                    have hl : lv_has ls 4 [(3, .int (nI (i + 1))), (2, .int (nI (d + 1))), (0, .ref (g (149)))] := lv_sub hl [0, 1, 2] rfl
                    refine ihq (i + 1) σ32 (by omega) w32 k32_25 ?_ (md_sm_tr sυ m32 (fun _ h => h) (by intro x9 hx9; simp only [List.mem_cons, List.not_mem_nil, or_false] at hx9 ⊢; omega)) ls _ _ hl hW
                    rw [k32_26]
                    refine sp_is_q e31 ?_
                    rw [← pw_PP]
                    exact @ag_pw pz_T pz_R _ (pz_I_ok P _) _ _ h26.2.2 P
              refine inner (d + 1) 0 σ6 (by omega) w6 k6_25 ?_ (md_sm_mo m6 (by intro x9 hx9; simp only [List.mem_cons, List.not_mem_nil, or_false] at hx9 ⊢; omega)) ls _ _ hl hW
              rw [k6_26, Nat.pow_zero]
              have e1 : pz_pw pz_X 1 = pz_X := pz_R.one_mul _
              rw [e1]
              exact hX0
        refine loop 16 0 σ3 (by omega) w3 (by rw [k3_25]; exact mc_mon hP hfo (by omega)) (by rw [k3_25, zM]; exact h16) (fun n g hg hn _ => by have := hg.2.1; omega) (by rw [k3_25, zM, hm1.2.1, r1]; omega) (by rw [v1]; exact fun p hp => absurd hp List.not_mem_nil) (by rw [k3_25, v1]) (fun j hj => by rw [hm1.2.1]) (md_sm_tr sS3 m3 (fun _ h => h) (by decide +kernel)) ls _ _ hl hW
      · refine lv_iconst (v := -1) hx hb dm_Model_factor_15 (by decide) ?_
        exact hret _ _ _ _ _ _ dm_Model_factor_16 (Or.inr ⟨a0, ⟨ha0, rfl⟩, Or.inl ⟨by omega, rfl, rfl⟩⟩) hW
  · subst hr
    refine wi_if_eq (tgt := 15) S (nn_T (by omega)) dm_Model_factor_4 (by decide) (fun hc => ?_) (fun hc => ?_)
    · refine lv_iconst (v := -1) hx hb dm_Model_factor_15 (by decide) ?_
      exact hret _ _ _ _ _ _ dm_Model_factor_16 (Or.inl ⟨fun z => hno z, rfl, rfl⟩) hW
    · exfalso
      omega
