/-! The reference: isPrimeAt, isPrime, part, product, field, times -/
theorem cx_e {P : Nat} (hP : 2 ≤ P) {b : Nat → Nat} (hb : sp_ok P b) : va_up b 1 ((b 1 + P - 1) % P) = sp_add P b sp_x (P - 1) := funext (fun i => by
  show va_up b 1 ((b 1 + P - 1) % P) i = (b i + sp_x i * (P - 1)) % P
  by_cases hi : i = 1
  · rw [hi, va_up_self]
    show _ = (b 1 + 1 * (P - 1)) % P
    rw [show b 1 + 1 * (P - 1) = b 1 + P - 1 by omega]
  · rw [va_up_ne _ _ hi, show sp_x i = 0 from va_up_ne _ _ hi, Nat.zero_mul, Nat.add_zero, Nat.mod_eq_of_lt (hb i).1])
theorem dm_Model_isPrimeAt_0 : decode bm_Model_isPrimeAt 0 = .ok (.aload_n 0, 1) := by decide +kernel
theorem dm_Model_isPrimeAt_1 : decode bm_Model_isPrimeAt 1 = .ok (.bipush 25, 2) := by decide +kernel
theorem dm_Model_isPrimeAt_3 : decode bm_Model_isPrimeAt 3 = .ok (.invokevirtual 42, 3) := by decide +kernel
theorem dm_Model_isPrimeAt_6 : decode bm_Model_isPrimeAt 6 = .ok (.istore_n 1, 1) := by decide +kernel
theorem dm_Model_isPrimeAt_7 : decode bm_Model_isPrimeAt 7 = .ok (.iload_n 1, 1) := by decide +kernel
theorem dm_Model_isPrimeAt_8 : decode bm_Model_isPrimeAt 8 = .ok (.iconst 1, 1) := by decide +kernel
theorem dm_Model_isPrimeAt_9 : decode bm_Model_isPrimeAt 9 = .ok (.if_icmp .ge 5, 3) := by decide +kernel
theorem dm_Model_isPrimeAt_12 : decode bm_Model_isPrimeAt 12 = .ok (.iconst 0, 1) := by decide +kernel
theorem dm_Model_isPrimeAt_13 : decode bm_Model_isPrimeAt 13 = .ok (.ireturn, 1) := by decide +kernel
theorem dm_Model_isPrimeAt_14 : decode bm_Model_isPrimeAt 14 = .ok (.aload_n 0, 1) := by decide +kernel
theorem dm_Model_isPrimeAt_15 : decode bm_Model_isPrimeAt 15 = .ok (.bipush 26, 2) := by decide +kernel
theorem dm_Model_isPrimeAt_17 : decode bm_Model_isPrimeAt 17 = .ok (.iconst 0, 1) := by decide +kernel
theorem dm_Model_isPrimeAt_18 : decode bm_Model_isPrimeAt 18 = .ok (.invokevirtual 38, 3) := by decide +kernel
theorem dm_Model_isPrimeAt_21 : decode bm_Model_isPrimeAt 21 = .ok (.aload_n 0, 1) := by decide +kernel
theorem dm_Model_isPrimeAt_22 : decode bm_Model_isPrimeAt 22 = .ok (.bipush 26, 2) := by decide +kernel
theorem dm_Model_isPrimeAt_24 : decode bm_Model_isPrimeAt 24 = .ok (.iconst 1, 1) := by decide +kernel
theorem dm_Model_isPrimeAt_25 : decode bm_Model_isPrimeAt 25 = .ok (.iconst 1, 1) := by decide +kernel
theorem dm_Model_isPrimeAt_26 : decode bm_Model_isPrimeAt 26 = .ok (.invokevirtual 34, 3) := by decide +kernel
theorem dm_Model_isPrimeAt_29 : decode bm_Model_isPrimeAt 29 = .ok (.aload_n 0, 1) := by decide +kernel
theorem dm_Model_isPrimeAt_30 : decode bm_Model_isPrimeAt 30 = .ok (.bipush 26, 2) := by decide +kernel
theorem dm_Model_isPrimeAt_32 : decode bm_Model_isPrimeAt 32 = .ok (.bipush 25, 2) := by decide +kernel
theorem dm_Model_isPrimeAt_34 : decode bm_Model_isPrimeAt 34 = .ok (.invokevirtual 52, 3) := by decide +kernel
theorem dm_Model_isPrimeAt_37 : decode bm_Model_isPrimeAt 37 = .ok (.iconst 1, 1) := by decide +kernel
theorem dm_Model_isPrimeAt_38 : decode bm_Model_isPrimeAt 38 = .ok (.istore_n 2, 1) := by decide +kernel
theorem dm_Model_isPrimeAt_39 : decode bm_Model_isPrimeAt 39 = .ok (.iconst 2, 1) := by decide +kernel
theorem dm_Model_isPrimeAt_40 : decode bm_Model_isPrimeAt 40 = .ok (.iload_n 2, 1) := by decide +kernel
theorem dm_Model_isPrimeAt_41 : decode bm_Model_isPrimeAt 41 = .ok (.imul, 1) := by decide +kernel
theorem dm_Model_isPrimeAt_42 : decode bm_Model_isPrimeAt 42 = .ok (.iload_n 1, 1) := by decide +kernel
theorem dm_Model_isPrimeAt_43 : decode bm_Model_isPrimeAt 43 = .ok (.if_icmp .gt 87, 3) := by decide +kernel
theorem dm_Model_isPrimeAt_46 : decode bm_Model_isPrimeAt 46 = .ok (.aload_n 0, 1) := by decide +kernel
theorem dm_Model_isPrimeAt_47 : decode bm_Model_isPrimeAt 47 = .ok (.bipush 26, 2) := by decide +kernel
theorem dm_Model_isPrimeAt_49 : decode bm_Model_isPrimeAt 49 = .ok (.aload_n 0, 1) := by decide +kernel
theorem dm_Model_isPrimeAt_50 : decode bm_Model_isPrimeAt 50 = .ok (.getfield 23, 3) := by decide +kernel
theorem dm_Model_isPrimeAt_53 : decode bm_Model_isPrimeAt 53 = .ok (.i2l, 1) := by decide +kernel
theorem dm_Model_isPrimeAt_54 : decode bm_Model_isPrimeAt 54 = .ok (.bipush 25, 2) := by decide +kernel
theorem dm_Model_isPrimeAt_56 : decode bm_Model_isPrimeAt 56 = .ok (.invokevirtual 65, 3) := by decide +kernel
theorem dm_Model_isPrimeAt_59 : decode bm_Model_isPrimeAt 59 = .ok (.aload_n 0, 1) := by decide +kernel
theorem dm_Model_isPrimeAt_60 : decode bm_Model_isPrimeAt 60 = .ok (.bipush 28, 2) := by decide +kernel
theorem dm_Model_isPrimeAt_62 : decode bm_Model_isPrimeAt 62 = .ok (.bipush 26, 2) := by decide +kernel
theorem dm_Model_isPrimeAt_64 : decode bm_Model_isPrimeAt 64 = .ok (.invokevirtual 55, 3) := by decide +kernel
theorem dm_Model_isPrimeAt_67 : decode bm_Model_isPrimeAt 67 = .ok (.aload_n 0, 1) := by decide +kernel
theorem dm_Model_isPrimeAt_68 : decode bm_Model_isPrimeAt 68 = .ok (.bipush 26, 2) := by decide +kernel
theorem dm_Model_isPrimeAt_70 : decode bm_Model_isPrimeAt 70 = .ok (.bipush 27, 2) := by decide +kernel
theorem dm_Model_isPrimeAt_72 : decode bm_Model_isPrimeAt 72 = .ok (.invokevirtual 55, 3) := by decide +kernel
theorem dm_Model_isPrimeAt_75 : decode bm_Model_isPrimeAt 75 = .ok (.aload_n 0, 1) := by decide +kernel
theorem dm_Model_isPrimeAt_76 : decode bm_Model_isPrimeAt 76 = .ok (.bipush 27, 2) := by decide +kernel
theorem dm_Model_isPrimeAt_78 : decode bm_Model_isPrimeAt 78 = .ok (.iconst 1, 1) := by decide +kernel
theorem dm_Model_isPrimeAt_79 : decode bm_Model_isPrimeAt 79 = .ok (.aload_n 0, 1) := by decide +kernel
theorem dm_Model_isPrimeAt_80 : decode bm_Model_isPrimeAt 80 = .ok (.bipush 27, 2) := by decide +kernel
theorem dm_Model_isPrimeAt_82 : decode bm_Model_isPrimeAt 82 = .ok (.iconst 1, 1) := by decide +kernel
theorem dm_Model_isPrimeAt_83 : decode bm_Model_isPrimeAt 83 = .ok (.invokevirtual 31, 3) := by decide +kernel
theorem dm_Model_isPrimeAt_86 : decode bm_Model_isPrimeAt 86 = .ok (.i2l, 1) := by decide +kernel
theorem dm_Model_isPrimeAt_87 : decode bm_Model_isPrimeAt 87 = .ok (.aload_n 0, 1) := by decide +kernel
theorem dm_Model_isPrimeAt_88 : decode bm_Model_isPrimeAt 88 = .ok (.getfield 23, 3) := by decide +kernel
theorem dm_Model_isPrimeAt_91 : decode bm_Model_isPrimeAt 91 = .ok (.i2l, 1) := by decide +kernel
theorem dm_Model_isPrimeAt_92 : decode bm_Model_isPrimeAt 92 = .ok (.ladd, 1) := by decide +kernel
theorem dm_Model_isPrimeAt_93 : decode bm_Model_isPrimeAt 93 = .ok (.lconst 1, 1) := by decide +kernel
theorem dm_Model_isPrimeAt_94 : decode bm_Model_isPrimeAt 94 = .ok (.lsub, 1) := by decide +kernel
theorem dm_Model_isPrimeAt_95 : decode bm_Model_isPrimeAt 95 = .ok (.aload_n 0, 1) := by decide +kernel
theorem dm_Model_isPrimeAt_96 : decode bm_Model_isPrimeAt 96 = .ok (.getfield 23, 3) := by decide +kernel
theorem dm_Model_isPrimeAt_99 : decode bm_Model_isPrimeAt 99 = .ok (.i2l, 1) := by decide +kernel
theorem dm_Model_isPrimeAt_100 : decode bm_Model_isPrimeAt 100 = .ok (.lrem, 1) := by decide +kernel
theorem dm_Model_isPrimeAt_101 : decode bm_Model_isPrimeAt 101 = .ok (.l2i, 1) := by decide +kernel
theorem dm_Model_isPrimeAt_102 : decode bm_Model_isPrimeAt 102 = .ok (.invokevirtual 34, 3) := by decide +kernel
theorem dm_Model_isPrimeAt_105 : decode bm_Model_isPrimeAt 105 = .ok (.aload_n 0, 1) := by decide +kernel
theorem dm_Model_isPrimeAt_106 : decode bm_Model_isPrimeAt 106 = .ok (.bipush 27, 2) := by decide +kernel
theorem dm_Model_isPrimeAt_108 : decode bm_Model_isPrimeAt 108 = .ok (.bipush 25, 2) := by decide +kernel
theorem dm_Model_isPrimeAt_110 : decode bm_Model_isPrimeAt 110 = .ok (.invokevirtual 81, 3) := by decide +kernel
theorem dm_Model_isPrimeAt_113 : decode bm_Model_isPrimeAt 113 = .ok (.aload_n 0, 1) := by decide +kernel
theorem dm_Model_isPrimeAt_114 : decode bm_Model_isPrimeAt 114 = .ok (.bipush 30, 2) := by decide +kernel
theorem dm_Model_isPrimeAt_116 : decode bm_Model_isPrimeAt 116 = .ok (.invokevirtual 42, 3) := by decide +kernel
theorem dm_Model_isPrimeAt_119 : decode bm_Model_isPrimeAt 119 = .ok (.ifCond .le 5, 3) := by decide +kernel
theorem dm_Model_isPrimeAt_122 : decode bm_Model_isPrimeAt 122 = .ok (.iconst 0, 1) := by decide +kernel
theorem dm_Model_isPrimeAt_123 : decode bm_Model_isPrimeAt 123 = .ok (.ireturn, 1) := by decide +kernel
theorem dm_Model_isPrimeAt_124 : decode bm_Model_isPrimeAt 124 = .ok (.iinc 2 1, 3) := by decide +kernel
theorem dm_Model_isPrimeAt_127 : decode bm_Model_isPrimeAt 127 = .ok (.goto (-88), 3) := by decide +kernel
theorem dm_Model_isPrimeAt_130 : decode bm_Model_isPrimeAt 130 = .ok (.iconst 1, 1) := by decide +kernel
theorem dm_Model_isPrimeAt_131 : decode bm_Model_isPrimeAt 131 = .ok (.ireturn, 1) := by decide +kernel
set_option maxHeartbeats 4000000 in
set_option maxRecDepth 100000 in
theorem mm_Model_isPrimeAt (l : Launch) (D : va_G) (k : ClassId × ClassId × ClassId) (g : Nat → Nat) (σ : st_T) {P : Nat} (hw : md_wf P σ) (hP : ag_pr P) (hP31 : P < 2147483648) (hf16 : sp_sz (σ (300 + 25)) 31 ≤ 16) : mt_I l D k g ym_Model_isPrimeAt wm_Model_isPrimeAt rm_Model_isPrimeAt [.ref (g 149)] σ (fun r σ1 => ((r = nI 1 ∧ fp_T P (σ (300 + 25))) ∨ (r = nI 0 ∧ ¬ fp_T P (σ (300 + 25)))) ∧ md_wf P σ1 ∧ md_sm [300 + 26, 300 + 27, 300 + 28, 300 + 29, 300 + 30, 300 + 31, 300 + 32] σ σ1) := by
  refine ct_Z_in (cc := bm_Model_isPrimeAt) (maxL := 3) (by decide) rfl (Nat.le_of_ble_eq_true rfl) ?_
  intro p e s m args below meth c A ls Q S hl hW hret
  have S : pw_S p m c bm_Model_isPrimeAt 3 s args wa_g rc_Model D cl_s (ty_s k) := S
  have hx := S.1.1
  have hb := S.1.2.1
  have hl : lv_has ls 3 [(0, .ref (g (149)))] := hl
  have hP2 := hP.1
  have hAo := hw.2 25 (by omega)
  refine lv_aload_n hx hb dm_Model_isPrimeAt_0 rfl (lv_at hl 0 rfl) ?_
  refine lv_bipush (v := nI (25)) hx hb dm_Model_isPrimeAt_1 (by decide) ?_
  refine pw_callVI (rest := []) S hW (mm_Model_degree l D k g σ (s0 := 25) (P := P) (by omega) (hw.2 (25) (by omega)) hP31) (cv_Model_42 S.1.2.2.2.2 ⟨by decide, by decide⟩) (by decide) en_Model rfl rfl hl.1 rfl (lv_room (Nat.le_of_ble_eq_true rfl)) ⟨Nat.zero_le _, Nat.zero_le _⟩ dm_Model_isPrimeAt_3 (fun r σ1 H locs hp hW => ?_)
  obtain ⟨hr, hp⟩ := hp
  rw [hp] at hW
  subst hr
  refine lv_istore_n hx hb dm_Model_isPrimeAt_6 rfl hl (by decide) rfl (fun ls hl => ?_)
  have hl : lv_has ls 3 [(1, .int (sd_i (sp_sz (σ (300 + (25))) 31))), (0, .ref (g (149)))] := hl
  refine lv_iload_n hx hb dm_Model_isPrimeAt_7 rfl (lv_at hl 0 rfl) ?_
  refine lv_iconst (v := nI (1)) hx hb dm_Model_isPrimeAt_8 (by decide) ?_
  refine wi_icmp_ge (tgt := 14) S (sd_T (by omega)) (nn_T (by omega)) dm_Model_isPrimeAt_9 (by decide) (fun hc => ?_) (fun hc => ?_)
  · rw [sd_n (show 0 < sp_sz (σ (300 + 25)) 31 by omega)] at hl
    have hl : lv_has ls 3 [(1, .int (nI (sp_sz (σ (300 + 25)) 31 - 1))), (0, .ref (g (149)))] := hl
    refine lv_aload_n hx hb dm_Model_isPrimeAt_14 rfl (lv_at hl 1 rfl) ?_
    refine lv_bipush (v := nI (26)) hx hb dm_Model_isPrimeAt_15 (by decide) ?_
    refine lv_iconst (v := nI (0)) hx hb dm_Model_isPrimeAt_17 (by decide) ?_
    refine pw_callV (rest := []) S hW (mm_Model_number l D k g σ hw (s0 := 26) (v := 0) (by omega) (by omega)) (cv_Model_38 S.1.2.2.2.2 ⟨by decide, by decide⟩) (by decide) en_Model rfl rfl hl.1 rfl (lv_room (Nat.le_of_ble_eq_true rfl)) ⟨Nat.zero_le _, Nat.zero_le _⟩ dm_Model_isPrimeAt_18 (fun σ2 H locs hp2 hW => ?_)
    obtain ⟨w2, e2, s2⟩ := hp2
    have k2_25 : σ2 (300 + (25)) = σ (300 + (25)) := by rw [s2 _ (by simp only [List.mem_cons, List.not_mem_nil, or_false]; omega)]
    have k2_26 : σ2 (300 + (26)) = va_up (fun _ => 0) 0 (0) := by rw [e2]
    refine lv_aload_n hx hb dm_Model_isPrimeAt_21 rfl (lv_at hl 1 rfl) ?_
    refine lv_bipush (v := nI (26)) hx hb dm_Model_isPrimeAt_22 (by decide) ?_
    refine lv_iconst (v := nI (1)) hx hb dm_Model_isPrimeAt_24 (by decide) ?_
    refine lv_iconst (v := nI (1)) hx hb dm_Model_isPrimeAt_25 (by decide) ?_
    refine pw_callV (rest := []) S hW (mm_Model_put l D k g σ2 (s0 := 26) (n := 1) (v := 1) (by omega) (by omega)) (cv_Model_34 S.1.2.2.2.2 ⟨by decide, by decide⟩) (by decide) en_Model rfl rfl hl.1 rfl (lv_room (Nat.le_of_ble_eq_true rfl)) ⟨Nat.zero_le _, Nat.zero_le _⟩ dm_Model_isPrimeAt_26 (fun σ1 H locs hp hW => ?_)
    rw [hp] at hW
    have e3 : (st_up σ2 (300 + 26) 1 1) (300 + 26) = sp_x := by rw [st_up_at, k2_26]; exact sx_e
    have w3 : md_wf P (st_up σ2 (300 + 26) 1 1) := md_wf_rw (s := 26) w2 (fun a ha => st_up_row ha) (by rw [e3]; exact sp_x_ok hP2)
    have s3 : md_sm [300 + 26] σ2 (st_up σ2 (300 + 26) 1 1) := fun a ha => st_up_row (fun z => ha (by rw [z]; exact List.mem_singleton.mpr rfl))
    generalize st_up σ2 (300 + 26) 1 1 = σ3 at hW e3 w3 s3
    have k3_25 : σ3 (300 + (25)) = σ (300 + (25)) := by rw [s3 _ (by simp only [List.mem_cons, List.not_mem_nil, or_false]; omega)]; exact k2_25
    have m3 : md_sm [300 + (26), 300 + 26] σ σ3 := md_sm_tr s2 s3 (by intro x9 hx9; simp only [List.mem_cons, List.not_mem_nil, or_false] at hx9 ⊢; omega) (by intro x9 hx9; simp only [List.mem_cons, List.not_mem_nil, or_false] at hx9 ⊢; omega)
    refine lv_aload_n hx hb dm_Model_isPrimeAt_29 rfl (lv_at hl 1 rfl) ?_
    refine lv_bipush (v := nI (26)) hx hb dm_Model_isPrimeAt_30 (by decide) ?_
    refine lv_bipush (v := nI (25)) hx hb dm_Model_isPrimeAt_32 (by decide) ?_
    refine pw_callV (rest := []) S hW (mm_Model_rest l D k g σ3 w3 hP hP31 (a := 26) (b := 25) (by omega) (by omega) (by omega) (by omega) (by omega) (by rw [k3_25]; omega)) (cv_Model_52 S.1.2.2.2.2 ⟨by decide, by decide⟩) (by decide) en_Model rfl rfl hl.1 rfl (lv_room (Nat.le_of_ble_eq_true rfl)) ⟨Nat.zero_le _, Nat.zero_le _⟩ dm_Model_isPrimeAt_34 (fun σ4 H locs hp4 hW => ?_)
    obtain ⟨w4, e4, s4⟩ := hp4
    have k4_25 : σ4 (300 + (25)) = σ (300 + (25)) := by rw [s4 _ (by simp only [List.mem_cons, List.not_mem_nil, or_false]; omega)]; exact k3_25
    have k4_26 : σ4 (300 + (26)) = sp_rest P (sp_x) (σ (300 + (25))) := by rw [e4.1, e3, k3_25]
    have k4_32 : σ4 (300 + (32)) = sp_quo P (sp_x) (σ (300 + (25))) := by rw [e4.2, e3, k3_25]
    have m4 : md_sm [300 + (26), 300 + 26, 300 + (32)] σ σ4 := md_sm_tr m3 s4 (by intro x9 hx9; simp only [List.mem_cons, List.not_mem_nil, or_false] at hx9 ⊢; omega) (by intro x9 hx9; simp only [List.mem_cons, List.not_mem_nil, or_false] at hx9 ⊢; omega)
    have hX0 := sp_rest_is hP (sp_x_ok hP2) hAo (by omega)
    rw [sp_x_pe] at hX0
    refine lv_iconst (v := nI (1)) hx hb dm_Model_isPrimeAt_37 (by decide) ?_
    refine lv_istore_n hx hb dm_Model_isPrimeAt_38 rfl hl (by decide) rfl (fun ls hl => ?_)
    have hl : lv_has ls 3 [(2, .int (nI (1))), (1, .int (nI (sp_sz (σ (300 + 25)) 31 - 1))), (0, .ref (g (149)))] := hl
    have hl : lv_has ls 3 [(2, .int (nI (1))), (1, .int (nI (sp_sz (σ (300 + 25)) 31 - 1))), (0, .ref (g (149)))] := lv_sub hl [0, 1, 2] rfl
    have loop : ∀ (n d : Nat) (τ : st_T), d + n = 16 → md_wf P τ → md_sm [300 + 26, 300 + 27, 300 + 28, 300 + 29, 300 + 30, 300 + 31, 300 + 32] σ τ → sp_is P (σ (300 + 25)) (τ (300 + 26)) (pz_pw pz_X (P ^ d)) → (∀ (e : Nat) (F : Nat → Nat), 1 ≤ e → e ≤ d → sp_ok P F → @ag_q pz_T pz_R (pz_I P (pe_f (σ (300 + 25)))) (pe_f F) (dd_z P e) → sp_sz (sp_gcd P F (σ (300 + 25))) 31 ≤ 1) → ∀ (ls : Array Slot) (H : Heap) (locs : List Loc), lv_has ls 3 [(2, .int (nI (d + 1))), (1, .int (nI (sp_sz (σ (300 + 25)) 31 - 1))), (0, .ref (g (149)))] → pw_H D cl_s A s.heap g 153 (en_s k g (τ)) H locs → W p l e rm_Model_isPrimeAt s m args below meth c H locs 0 0 Q (F0 m 39 ls []) := by
      intro n
      induction n with
      | zero =>
        intro d τ hd wτ sτ tc tt ls H locs hl hW
        have t25 : τ (300 + 25) = σ (300 + 25) := sτ _ (by simp only [List.mem_cons, List.not_mem_nil, or_false]; omega)
        have z26 := tc.2.1
        refine lv_iconst (v := nI (2)) hx hb dm_Model_isPrimeAt_39 (by decide) ?_
        refine lv_iload_n hx hb dm_Model_isPrimeAt_40 rfl (lv_at hl 0 rfl) ?_
        refine wn_imul S dm_Model_isPrimeAt_41 ?_
        refine lv_iload_n hx hb dm_Model_isPrimeAt_42 rfl (lv_at hl 1 rfl) ?_
        refine wi_icmp_gt (tgt := 130) S (nn_T (by omega)) (nn_T (by omega)) dm_Model_isPrimeAt_43 (by decide) (fun hc => ?_) (fun hc => ?_)
        · refine lv_iconst (v := nI (1)) hx hb dm_Model_isPrimeAt_130 (by decide) ?_
          exact hret _ _ _ _ _ _ dm_Model_isPrimeAt_131 (by decide) ⟨Or.inl ⟨rfl, by omega, fun e F h1 h2 h3 h4 => tt e F h1 (by omega) h3 h4⟩, wτ, sτ⟩ hW
        · exfalso
          omega
      | succ n ih =>
        intro d τ hd wτ sτ tc tt ls H locs hl hW
        have t25 : τ (300 + 25) = σ (300 + 25) := sτ _ (by simp only [List.mem_cons, List.not_mem_nil, or_false]; omega)
        have z26 := tc.2.1
        refine lv_iconst (v := nI (2)) hx hb dm_Model_isPrimeAt_39 (by decide) ?_
        refine lv_iload_n hx hb dm_Model_isPrimeAt_40 rfl (lv_at hl 0 rfl) ?_
        refine wn_imul S dm_Model_isPrimeAt_41 ?_
        refine lv_iload_n hx hb dm_Model_isPrimeAt_42 rfl (lv_at hl 1 rfl) ?_
        refine wi_icmp_gt (tgt := 130) S (nn_T (by omega)) (nn_T (by omega)) dm_Model_isPrimeAt_43 (by decide) (fun hc => ?_) (fun hc => ?_)
        · refine lv_iconst (v := nI (1)) hx hb dm_Model_isPrimeAt_130 (by decide) ?_
          exact hret _ _ _ _ _ _ dm_Model_isPrimeAt_131 (by decide) ⟨Or.inl ⟨rfl, by omega, fun e F h1 h2 h3 h4 => tt e F h1 (by omega) h3 h4⟩, wτ, sτ⟩ hW
        · refine lv_aload_n hx hb dm_Model_isPrimeAt_46 rfl (lv_at hl 2 rfl) ?_
          refine lv_bipush (v := nI (26)) hx hb dm_Model_isPrimeAt_47 (by decide) ?_
          refine lv_aload_n hx hb dm_Model_isPrimeAt_49 rfl (lv_at hl 2 rfl) ?_
          refine md_p S hW (wa_in 561 (by decide +kernel) rfl) dm_Model_isPrimeAt_50 ?_
          rw [wτ.1]
          refine wn_i2l S (by omega) dm_Model_isPrimeAt_53 ?_
          refine lv_bipush (v := nI (25)) hx hb dm_Model_isPrimeAt_54 (by decide) ?_
          refine pw_callV (rest := []) S hW (mm_Model_power2 l D k g τ wτ hP hP31 (a := 26) (m0 := 25) (n0 := P) (by omega) (by omega) (by omega) (by omega) (by omega) (by omega) (by omega) (by omega) (by rw [t25]; omega) (by rw [t25]; omega) (by rw [t25]; omega) (by omega)) (cv_Model_65 S.1.2.2.2.2 ⟨by decide, by decide⟩) (by decide) en_Model rfl rfl hl.1 rfl (lv_room (Nat.le_of_ble_eq_true rfl)) ⟨Nat.zero_le _, Nat.zero_le _⟩ dm_Model_isPrimeAt_56 (fun σ5 H locs hp5 hW => ?_)
          obtain ⟨w5, e5, s5⟩ := hp5
          have k5_25 : σ5 (300 + (25)) = σ (300 + 25) := by rw [s5 _ (by simp only [List.mem_cons, List.not_mem_nil, or_false]; omega)]; exact t25
          have k5_26 : σ5 (300 + (26)) = τ (300 + 26) := by rw [s5 _ (by simp only [List.mem_cons, List.not_mem_nil, or_false]; omega)]
          rw [t25] at e5
          have c4 : sp_is P (σ (300 + 25)) (σ5 (300 + 28)) (pz_pw pz_X (P ^ (d + 1))) := sp_is_q e5 (by rw [← pw_PP]; exact @ag_pw pz_T pz_R _ (pz_I_ok P _) _ _ tc.2.2 P)
          have hz := fz_q hP2 c4
          refine lv_aload_n hx hb dm_Model_isPrimeAt_59 rfl (lv_at hl 2 rfl) ?_
          refine lv_bipush (v := nI (28)) hx hb dm_Model_isPrimeAt_60 (by decide) ?_
          refine lv_bipush (v := nI (26)) hx hb dm_Model_isPrimeAt_62 (by decide) ?_
          refine pw_callV (rest := []) S hW (mm_Model_copy l D k g σ5 w5 (a := 28) (b := 26) (by omega) (by omega)) (cv_Model_55 S.1.2.2.2.2 ⟨by decide, by decide⟩) (by decide) en_Model rfl rfl hl.1 rfl (lv_room (Nat.le_of_ble_eq_true rfl)) ⟨Nat.zero_le _, Nat.zero_le _⟩ dm_Model_isPrimeAt_64 (fun σ6 H locs hp6 hW => ?_)
          obtain ⟨w6, e6, s6⟩ := hp6
          have k6_25 : σ6 (300 + (25)) = σ (300 + 25) := by rw [s6 _ (by simp only [List.mem_cons, List.not_mem_nil, or_false]; omega)]; exact k5_25
          have k6_28 : σ6 (300 + (28)) = σ5 (300 + 28) := by rw [s6 _ (by simp only [List.mem_cons, List.not_mem_nil, or_false]; omega)]
          have k6_26 : σ6 (300 + (26)) = σ5 (300 + 28) := by rw [e6]
          have m6 : md_sm [300 + (28), 300 + (31), 300 + (32), 300 + (26)] τ σ6 := md_sm_tr s5 s6 (by intro x9 hx9; simp only [List.mem_cons, List.not_mem_nil, or_false] at hx9 ⊢; omega) (by intro x9 hx9; simp only [List.mem_cons, List.not_mem_nil, or_false] at hx9 ⊢; omega)
          refine lv_aload_n hx hb dm_Model_isPrimeAt_67 rfl (lv_at hl 2 rfl) ?_
          refine lv_bipush (v := nI (26)) hx hb dm_Model_isPrimeAt_68 (by decide) ?_
          refine lv_bipush (v := nI (27)) hx hb dm_Model_isPrimeAt_70 (by decide) ?_
          refine pw_callV (rest := []) S hW (mm_Model_copy l D k g σ6 w6 (a := 26) (b := 27) (by omega) (by omega)) (cv_Model_55 S.1.2.2.2.2 ⟨by decide, by decide⟩) (by decide) en_Model rfl rfl hl.1 rfl (lv_room (Nat.le_of_ble_eq_true rfl)) ⟨Nat.zero_le _, Nat.zero_le _⟩ dm_Model_isPrimeAt_72 (fun σ7 H locs hp7 hW => ?_)
          obtain ⟨w7, e7, s7⟩ := hp7
          have k7_25 : σ7 (300 + (25)) = σ (300 + 25) := by rw [s7 _ (by simp only [List.mem_cons, List.not_mem_nil, or_false]; omega)]; exact k6_25
          have k7_26 : σ7 (300 + (26)) = σ5 (300 + 28) := by rw [s7 _ (by simp only [List.mem_cons, List.not_mem_nil, or_false]; omega)]; exact k6_26
          have k7_27 : σ7 (300 + (27)) = σ5 (300 + 28) := by rw [e7, k6_26]
          have m7 : md_sm [300 + (28), 300 + (31), 300 + (32), 300 + (26), 300 + (27)] τ σ7 := md_sm_tr m6 s7 (by intro x9 hx9; simp only [List.mem_cons, List.not_mem_nil, or_false] at hx9 ⊢; omega) (by intro x9 hx9; simp only [List.mem_cons, List.not_mem_nil, or_false] at hx9 ⊢; omega)
          have hB1 := (c4.1 1).1
          refine lv_aload_n hx hb dm_Model_isPrimeAt_75 rfl (lv_at hl 2 rfl) ?_
          refine lv_bipush (v := nI (27)) hx hb dm_Model_isPrimeAt_76 (by decide) ?_
          refine lv_iconst (v := nI (1)) hx hb dm_Model_isPrimeAt_78 (by decide) ?_
          refine lv_aload_n hx hb dm_Model_isPrimeAt_79 rfl (lv_at hl 2 rfl) ?_
          refine lv_bipush (v := nI (27)) hx hb dm_Model_isPrimeAt_80 (by decide) ?_
          refine lv_iconst (v := nI (1)) hx hb dm_Model_isPrimeAt_82 (by decide) ?_
          refine pw_callVI (rest := [.int (nI (1)), .int (nI (27)), .ref (g (149))]) S hW (mm_Model_get l D k g σ7 (s0 := 27) (n := 1) (by omega) (by omega)) (cv_Model_31 S.1.2.2.2.2 ⟨by decide, by decide⟩) (by decide) en_Model rfl rfl hl.1 rfl (lv_room (Nat.le_of_ble_eq_true rfl)) ⟨Nat.zero_le _, Nat.zero_le _⟩ dm_Model_isPrimeAt_83 (fun r σ1 H locs hp hW => ?_)
          obtain ⟨hr, hp⟩ := hp
          rw [hp] at hW
          subst hr
          rw [k7_27]
          refine wn_i2l S (by omega) dm_Model_isPrimeAt_86 ?_
          refine lv_aload_n hx hb dm_Model_isPrimeAt_87 rfl (lv_at hl 2 rfl) ?_
          refine md_p S hW (wa_in 561 (by decide +kernel) rfl) dm_Model_isPrimeAt_88 ?_
          rw [w7.1]
          refine wn_i2l S (by omega) dm_Model_isPrimeAt_91 ?_
          refine wn_ladd S dm_Model_isPrimeAt_92 ?_
          refine lv_lconst (v := lN (1)) hx hb dm_Model_isPrimeAt_93 (by decide) ?_
          refine wn_lsub S (by omega) dm_Model_isPrimeAt_94 ?_
          refine lv_aload_n hx hb dm_Model_isPrimeAt_95 rfl (lv_at hl 2 rfl) ?_
          refine md_p S hW (wa_in 561 (by decide +kernel) rfl) dm_Model_isPrimeAt_96 ?_
          rw [w7.1]
          refine wn_i2l S (by omega) dm_Model_isPrimeAt_99 ?_
          refine wn_lrem S (by omega) (by omega) (by omega) dm_Model_isPrimeAt_100 ?_
          refine wn_l2i S dm_Model_isPrimeAt_101 ?_
          refine pw_callV (rest := []) S hW (mm_Model_put l D k g σ7 (s0 := 27) (n := 1) (v := (((σ5 (300 + 28) (1)) + (P)) - (1)) % (P)) (by omega) (by omega)) (cv_Model_34 S.1.2.2.2.2 ⟨by decide, by decide⟩) (by decide) en_Model rfl rfl hl.1 rfl (lv_room (Nat.le_of_ble_eq_true rfl)) ⟨Nat.zero_le _, Nat.zero_le _⟩ dm_Model_isPrimeAt_102 (fun σ1 H locs hp hW => ?_)
          rw [hp] at hW
          have e8 : (st_up σ7 (300 + 27) 1 ((((σ5 (300 + 28) (1)) + (P)) - (1)) % (P))) (300 + 27) = sp_add P (σ5 (300 + 28)) sp_x (P - 1) := by rw [st_up_at, k7_27]; exact cx_e hP2 c4.1
          have w8 : md_wf P (st_up σ7 (300 + 27) 1 ((((σ5 (300 + 28) (1)) + (P)) - (1)) % (P))) := md_wf_rw (s := 27) w7 (fun a ha => st_up_row ha) (by rw [e8]; exact hz.1)
          have s8 : md_sm [300 + 27] σ7 (st_up σ7 (300 + 27) 1 ((((σ5 (300 + 28) (1)) + (P)) - (1)) % (P))) := fun a ha => st_up_row (fun z => ha (by rw [z]; exact List.mem_singleton.mpr rfl))
          generalize st_up σ7 (300 + 27) 1 ((((σ5 (300 + 28) (1)) + (P)) - (1)) % (P)) = σ8 at hW e8 w8 s8
          have k8_25 : σ8 (300 + 25) = σ (300 + 25) := by rw [s8 _ (by simp only [List.mem_cons, List.not_mem_nil, or_false]; omega)]; exact k7_25
          have k8_26 : σ8 (300 + 26) = σ5 (300 + 28) := by rw [s8 _ (by simp only [List.mem_cons, List.not_mem_nil, or_false]; omega)]; exact k7_26
          have m8 : md_sm [300 + 28, 300 + 31, 300 + 32, 300 + 26, 300 + 27] τ σ8 := md_sm_tr m7 s8 (by intro x9 hx9; simp only [List.mem_cons, List.not_mem_nil, or_false] at hx9 ⊢; omega) (by intro x9 hx9; simp only [List.mem_cons, List.not_mem_nil, or_false] at hx9 ⊢; omega)
          refine lv_aload_n hx hb dm_Model_isPrimeAt_105 rfl (lv_at hl 2 rfl) ?_
          refine lv_bipush (v := nI (27)) hx hb dm_Model_isPrimeAt_106 (by decide) ?_
          refine lv_bipush (v := nI (25)) hx hb dm_Model_isPrimeAt_108 (by decide) ?_
          refine pw_callV (rest := []) S hW (mm_Model_commonOf l D k g σ8 w8 hP hP31 (a := 27) (b := 25) (by omega) (by omega) (by omega)) (cv_Model_81 S.1.2.2.2.2 ⟨by decide, by decide⟩) (by decide) en_Model rfl rfl hl.1 rfl (lv_room (Nat.le_of_ble_eq_true rfl)) ⟨Nat.zero_le _, Nat.zero_le _⟩ dm_Model_isPrimeAt_110 (fun σ9 H locs hp9 hW => ?_)
          obtain ⟨w9, e9, s9⟩ := hp9
          have k9_25 : σ9 (300 + (25)) = σ (300 + 25) := by rw [s9 _ (by simp only [List.mem_cons, List.not_mem_nil, or_false]; omega)]; exact k8_25
          have k9_26 : σ9 (300 + (26)) = σ5 (300 + 28) := by rw [s9 _ (by simp only [List.mem_cons, List.not_mem_nil, or_false]; omega)]; exact k8_26
          have k9_27 : σ9 (300 + (27)) = sp_add P (σ5 (300 + 28)) sp_x (P - 1) := by rw [s9 _ (by simp only [List.mem_cons, List.not_mem_nil, or_false]; omega)]; exact e8
          have k9_30 : σ9 (300 + (30)) = sp_gcd P (sp_add P (σ5 (300 + 28)) sp_x (P - 1)) (σ (300 + 25)) := by rw [e9, e8, k8_25]
          have m9 : md_sm [300 + 28, 300 + 31, 300 + 32, 300 + 26, 300 + 27, 300 + (29), 300 + (30), 300 + (31), 300 + (32)] τ σ9 := md_sm_tr m8 s9 (by intro x9 hx9; simp only [List.mem_cons, List.not_mem_nil, or_false] at hx9 ⊢; omega) (by intro x9 hx9; simp only [List.mem_cons, List.not_mem_nil, or_false] at hx9 ⊢; omega)
          refine lv_aload_n hx hb dm_Model_isPrimeAt_113 rfl (lv_at hl 2 rfl) ?_
          refine lv_bipush (v := nI (30)) hx hb dm_Model_isPrimeAt_114 (by decide) ?_
          refine pw_callVI (rest := []) S hW (mm_Model_degree l D k g σ9 (s0 := 30) (P := P) (by omega) (w9.2 (30) (by omega)) hP31) (cv_Model_42 S.1.2.2.2.2 ⟨by decide, by decide⟩) (by decide) en_Model rfl rfl hl.1 rfl (lv_room (Nat.le_of_ble_eq_true rfl)) ⟨Nat.zero_le _, Nat.zero_le _⟩ dm_Model_isPrimeAt_116 (fun r σ1 H locs hp hW => ?_)
          obtain ⟨hr, hp⟩ := hp
          rw [hp] at hW
          subst hr
          rw [k9_30]
          have z31 := sp_sz_le (sp_gcd P (sp_add P (σ5 (300 + 28)) sp_x (P - 1)) (σ (300 + 25))) 31
          refine wi_if_le (tgt := 124) S (sd_T (by omega)) dm_Model_isPrimeAt_119 (by decide) (fun hc => ?_) (fun hc => ?_)
          · refine lv_iinc (k := 0) (v := nI (d + 1 + 1)) hx hb dm_Model_isPrimeAt_124 hl rfl (by rw [show Int32.ofInt 1 = nI 1 from rfl, nI_add]) (by decide) rfl (fun ls hl => ?_)
            have hl : lv_has ls 3 [(2, .int (nI (d + 1 + 1))), (1, .int (nI (sp_sz (σ (300 + 25)) 31 - 1))), (0, .ref (g (149)))] := hl
            refine lv_goto (tgt := 39) hx hb dm_Model_isPrimeAt_127 (by decide) ?_
            have hl : lv_has ls 3 [(2, .int (nI (d + 1 + 1))), (1, .int (nI (sp_sz (σ (300 + 25)) 31 - 1))), (0, .ref (g (149)))] := lv_sub hl [0, 1, 2] rfl
            refine ih (d + 1) σ9 (by omega) w9 (md_sm_tr sτ m9 (fun _ h => h) (by intro x9 hx9; simp only [List.mem_cons, List.not_mem_nil, or_false] at hx9 ⊢; omega)) (by rw [k9_26]; exact c4) (fun e F h1 h2 h3 h4 => ?_) ls _ _ hl hW
            by_cases he : e = d + 1
            · have e5 : sp_gcd P F (σ (300 + 25)) = sp_gcd P (sp_add P (σ5 (300 + 28)) sp_x (P - 1)) (σ (300 + 25)) := sp_gcd_cg hP h3 hz.1 hAo (by omega) (@ag_tr pz_T pz_R _ (pz_I_ok P _) _ _ _ h4 (by rw [he]; exact @ag_sy pz_T pz_R _ (pz_I_ok P _) _ _ hz.2))
              rw [e5]
              omega
            · exact tt e F h1 (by omega) h3 h4
          · refine lv_iconst (v := nI (0)) hx hb dm_Model_isPrimeAt_122 (by decide) ?_
            exact hret _ _ _ _ _ _ dm_Model_isPrimeAt_123 (by decide) ⟨Or.inr ⟨rfl, fun q => by have := q.2 (d + 1) _ (by omega) (by omega) hz.1 hz.2; omega⟩, w9, md_sm_tr sτ m9 (fun _ h => h) (by intro x9 hx9; simp only [List.mem_cons, List.not_mem_nil, or_false] at hx9 ⊢; omega)⟩ hW
    refine loop 16 0 σ4 (by omega) w4 (md_sm_mo m4 (by intro x9 hx9; simp only [List.mem_cons, List.not_mem_nil, or_false] at hx9 ⊢; omega)) ?_ (fun e F h1 h2 _ _ => by omega) ls _ _ hl hW
    rw [k4_26, Nat.pow_zero]
    have e1 : pz_pw pz_X 1 = pz_X := pz_R.one_mul _
    rw [e1]
    exact hX0
  · refine lv_iconst (v := nI (0)) hx hb dm_Model_isPrimeAt_12 (by decide) ?_
    exact hret _ _ _ _ _ _ dm_Model_isPrimeAt_13 (by decide) ⟨Or.inr ⟨rfl, fun z => by have := z.1; omega⟩, hw, md_sm_rf _ _⟩ hW
theorem dm_Model_isPrime_0 : decode bm_Model_isPrime 0 = .ok (.iload_n 1, 1) := by decide +kernel
theorem dm_Model_isPrime_1 : decode bm_Model_isPrime 1 = .ok (.invokestatic 69, 3) := by decide +kernel
theorem dm_Model_isPrime_4 : decode bm_Model_isPrime 4 = .ok (.ifCond .ne 5, 3) := by decide +kernel
theorem dm_Model_isPrime_7 : decode bm_Model_isPrime 7 = .ok (.iconst (-1), 1) := by decide +kernel
theorem dm_Model_isPrime_8 : decode bm_Model_isPrime 8 = .ok (.ireturn, 1) := by decide +kernel
theorem dm_Model_isPrime_9 : decode bm_Model_isPrime 9 = .ok (.aload_n 0, 1) := by decide +kernel
theorem dm_Model_isPrime_10 : decode bm_Model_isPrime 10 = .ok (.iload_n 1, 1) := by decide +kernel
theorem dm_Model_isPrime_11 : decode bm_Model_isPrime 11 = .ok (.bipush 25, 2) := by decide +kernel
theorem dm_Model_isPrime_13 : decode bm_Model_isPrime 13 = .ok (.invokevirtual 55, 3) := by decide +kernel
theorem dm_Model_isPrime_16 : decode bm_Model_isPrime 16 = .ok (.aload_n 0, 1) := by decide +kernel
theorem dm_Model_isPrime_17 : decode bm_Model_isPrime 17 = .ok (.invokevirtual 84, 3) := by decide +kernel
theorem dm_Model_isPrime_20 : decode bm_Model_isPrime 20 = .ok (.ifCond .eq 7, 3) := by decide +kernel
theorem dm_Model_isPrime_23 : decode bm_Model_isPrime 23 = .ok (.iconst 1, 1) := by decide +kernel
theorem dm_Model_isPrime_24 : decode bm_Model_isPrime 24 = .ok (.goto 4, 3) := by decide +kernel
theorem dm_Model_isPrime_27 : decode bm_Model_isPrime 27 = .ok (.iconst 0, 1) := by decide +kernel
theorem dm_Model_isPrime_28 : decode bm_Model_isPrime 28 = .ok (.ireturn, 1) := by decide +kernel
set_option maxHeartbeats 4000000 in
set_option maxRecDepth 100000 in
theorem mm_Model_isPrime (l : Launch) (D : va_G) (k : ClassId × ClassId × ClassId) (g : Nat → Nat) (σ : st_T) {P : Nat} (hw : md_wf P σ) (hP : ag_pr P) (hP31 : P < 2147483648) (hrg : ∀ n, n < 8 → sp_sz (σ (300 + n)) 31 ≤ 16) {a : Int32} : mt_I l D k g ym_Model_isPrime wm_Model_isPrime rm_Model_isPrime [.ref (g 149), .int a] σ (fun r σ1 => (¬ (rk_r a) ∧ r = -1 ∧ σ1 = σ) ∨ ∃ a0, (a0 < 8 ∧ a = nI a0) ∧ ((r = nI 1 ∧ fp_T P (σ (300 + a0))) ∨ (r = nI 0 ∧ ¬ fp_T P (σ (300 + a0)))) ∧ md_wf P σ1 ∧ md_sm mk_W σ σ1) := by
  refine ct_I_in (cc := bm_Model_isPrime) (maxL := 2) (by decide) rfl (Nat.le_of_ble_eq_true rfl) ?_
  intro p e s m args below meth c A ls Q S hl hW hret
  have S : pw_S p m c bm_Model_isPrime 2 s args wa_g rc_Model D cl_s (ty_s k) := S
  have hx := S.1.1
  have hb := S.1.2.1
  have hl : lv_has ls 2 [(0, .ref (g (149))), (1, .int (a))] := hl
  refine lv_iload_n hx hb dm_Model_isPrime_0 rfl (lv_at hl 1 rfl) ?_
  refine pw_callSI (rest := []) S hW (mm_Model_isRegister l D k g σ (x := a)) (cv_Model_69 S.1.2.2.2.2 ⟨by decide, by decide⟩) rfl hl.1 rfl (lv_room (Nat.le_of_ble_eq_true rfl)) ⟨Nat.zero_le _, Nat.zero_le _⟩ dm_Model_isPrime_1 (fun r σ1 H locs hp hW => ?_)
  obtain ⟨hp, h9⟩ := hp
  rw [h9] at hW
  rcases hp with ⟨hr, a0, ha0, rfl⟩ | ⟨hr, hno⟩
  · subst hr
    have hl : lv_has ls 2 [(0, .ref (g (149))), (1, .int (nI (a0)))] := hl
    refine wi_if_ne (tgt := 9) S (nn_T (by omega)) dm_Model_isPrime_4 (by decide) (fun hc => ?_) (fun hc => ?_)
    · refine lv_aload_n hx hb dm_Model_isPrime_9 rfl (lv_at hl 0 rfl) ?_
      refine lv_iload_n hx hb dm_Model_isPrime_10 rfl (lv_at hl 1 rfl) ?_
      refine lv_bipush (v := nI (25)) hx hb dm_Model_isPrime_11 (by decide) ?_
      refine pw_callV (rest := []) S hW (mm_Model_copy l D k g σ hw (a := a0) (b := 25) (by omega) (by omega)) (cv_Model_55 S.1.2.2.2.2 ⟨by decide, by decide⟩) (by decide) en_Model rfl rfl hl.1 rfl (lv_room (Nat.le_of_ble_eq_true rfl)) ⟨Nat.zero_le _, Nat.zero_le _⟩ dm_Model_isPrime_13 (fun σ2 H locs hp2 hW => ?_)
      obtain ⟨w2, e2, s2⟩ := hp2
      have k2_a0 : σ2 (300 + (a0)) = σ (300 + (a0)) := by rw [s2 _ (by simp only [List.mem_cons, List.not_mem_nil, or_false]; omega)]
      have k2_25 : σ2 (300 + (25)) = σ (300 + (a0)) := by rw [e2]
      refine lv_aload_n hx hb dm_Model_isPrime_16 rfl (lv_at hl 0 rfl) ?_
      refine pw_callVI (rest := []) S hW (mm_Model_isPrimeAt l D k g σ2 w2 hP hP31 (by rw [k2_25]; exact hrg a0 ha0)) (cv_Model_84 S.1.2.2.2.2 ⟨by decide, by decide⟩) (by decide) en_Model rfl rfl hl.1 rfl (lv_room (Nat.le_of_ble_eq_true rfl)) ⟨Nat.zero_le _, Nat.zero_le _⟩ dm_Model_isPrime_17 (fun r σ3 H locs hp3 hW => ?_)
      obtain ⟨hp3, w3, s3⟩ := hp3
      rw [k2_25] at hp3
      have m3 : md_sm mk_W σ σ3 := md_sm_tr s2 s3 (by decide +kernel) (by decide +kernel)
      rcases hp3 with ⟨hr, hT⟩ | ⟨hr, hT⟩
      · subst hr
        refine wi_if_eq (tgt := 27) S (nn_T (by omega)) dm_Model_isPrime_20 (by decide) (fun hc => ?_) (fun hc => ?_)
        · exfalso
          omega
        · refine lv_iconst (v := nI (1)) hx hb dm_Model_isPrime_23 (by decide) ?_
          refine lv_goto (tgt := 28) hx hb dm_Model_isPrime_24 (by decide) ?_
          exact hret _ _ _ _ _ _ dm_Model_isPrime_28 (Or.inr ⟨a0, ⟨ha0, rfl⟩, Or.inl ⟨rfl, hT⟩, w3, m3⟩) hW
      · subst hr
        refine wi_if_eq (tgt := 27) S (nn_T (by omega)) dm_Model_isPrime_20 (by decide) (fun hc => ?_) (fun hc => ?_)
        · refine lv_iconst (v := nI (0)) hx hb dm_Model_isPrime_27 (by decide) ?_
          exact hret _ _ _ _ _ _ dm_Model_isPrime_28 (Or.inr ⟨a0, ⟨ha0, rfl⟩, Or.inr ⟨rfl, hT⟩, w3, m3⟩) hW
        · exfalso
          omega
    · exfalso
      omega
  · subst hr
    refine wi_if_ne (tgt := 9) S (nn_T (by omega)) dm_Model_isPrime_4 (by decide) (fun hc => ?_) (fun hc => ?_)
    · exfalso
      omega
    · refine lv_iconst (v := -1) hx hb dm_Model_isPrime_7 (by decide) ?_
      exact hret _ _ _ _ _ _ dm_Model_isPrime_8 (Or.inl ⟨fun z => hno z, rfl, rfl⟩) hW
theorem dm_Model_part_0 : decode bm_Model_part 0 = .ok (.aload_n 0, 1) := by decide +kernel
theorem dm_Model_part_1 : decode bm_Model_part 1 = .ok (.iload_n 1, 1) := by decide +kernel
theorem dm_Model_part_2 : decode bm_Model_part 2 = .ok (.invokevirtual 107, 3) := by decide +kernel
theorem dm_Model_part_5 : decode bm_Model_part 5 = .ok (.ifCond .ne 5, 3) := by decide +kernel
theorem dm_Model_part_8 : decode bm_Model_part 8 = .ok (.iconst (-1), 1) := by decide +kernel
theorem dm_Model_part_9 : decode bm_Model_part 9 = .ok (.ireturn, 1) := by decide +kernel
theorem dm_Model_part_10 : decode bm_Model_part 10 = .ok (.iload_n 2, 1) := by decide +kernel
theorem dm_Model_part_11 : decode bm_Model_part 11 = .ok (.bipush 100, 2) := by decide +kernel
theorem dm_Model_part_13 : decode bm_Model_part 13 = .ok (.if_icmp .lt 22, 3) := by decide +kernel
theorem dm_Model_part_16 : decode bm_Model_part 16 = .ok (.iload_n 2, 1) := by decide +kernel
theorem dm_Model_part_17 : decode bm_Model_part 17 = .ok (.bipush 115, 2) := by decide +kernel
theorem dm_Model_part_19 : decode bm_Model_part 19 = .ok (.if_icmp .gt 16, 3) := by decide +kernel
theorem dm_Model_part_22 : decode bm_Model_part 22 = .ok (.aload_n 0, 1) := by decide +kernel
theorem dm_Model_part_23 : decode bm_Model_part 23 = .ok (.bipush 8, 2) := by decide +kernel
theorem dm_Model_part_25 : decode bm_Model_part 25 = .ok (.iload_n 1, 1) := by decide +kernel
theorem dm_Model_part_26 : decode bm_Model_part 26 = .ok (.iadd, 1) := by decide +kernel
theorem dm_Model_part_27 : decode bm_Model_part 27 = .ok (.iload_n 2, 1) := by decide +kernel
theorem dm_Model_part_28 : decode bm_Model_part 28 = .ok (.bipush 100, 2) := by decide +kernel
theorem dm_Model_part_30 : decode bm_Model_part 30 = .ok (.isub, 1) := by decide +kernel
theorem dm_Model_part_31 : decode bm_Model_part 31 = .ok (.invokevirtual 31, 3) := by decide +kernel
theorem dm_Model_part_34 : decode bm_Model_part 34 = .ok (.ireturn, 1) := by decide +kernel
theorem dm_Model_part_35 : decode bm_Model_part 35 = .ok (.iload_n 2, 1) := by decide +kernel
theorem dm_Model_part_36 : decode bm_Model_part 36 = .ok (.ifCond .ne 12, 3) := by decide +kernel
theorem dm_Model_part_39 : decode bm_Model_part 39 = .ok (.aload_n 0, 1) := by decide +kernel
theorem dm_Model_part_40 : decode bm_Model_part 40 = .ok (.getfield 13, 3) := by decide +kernel
theorem dm_Model_part_43 : decode bm_Model_part 43 = .ok (.iload_n 1, 1) := by decide +kernel
theorem dm_Model_part_44 : decode bm_Model_part 44 = .ok (.iaload, 1) := by decide +kernel
theorem dm_Model_part_45 : decode bm_Model_part 45 = .ok (.goto 34, 3) := by decide +kernel
theorem dm_Model_part_48 : decode bm_Model_part 48 = .ok (.iload_n 2, 1) := by decide +kernel
theorem dm_Model_part_49 : decode bm_Model_part 49 = .ok (.iconst 1, 1) := by decide +kernel
theorem dm_Model_part_50 : decode bm_Model_part 50 = .ok (.if_icmp .ne 12, 3) := by decide +kernel
theorem dm_Model_part_53 : decode bm_Model_part 53 = .ok (.aload_n 0, 1) := by decide +kernel
theorem dm_Model_part_54 : decode bm_Model_part 54 = .ok (.getfield 16, 3) := by decide +kernel
theorem dm_Model_part_57 : decode bm_Model_part 57 = .ok (.iload_n 1, 1) := by decide +kernel
theorem dm_Model_part_58 : decode bm_Model_part 58 = .ok (.iaload, 1) := by decide +kernel
theorem dm_Model_part_59 : decode bm_Model_part 59 = .ok (.goto 20, 3) := by decide +kernel
theorem dm_Model_part_62 : decode bm_Model_part 62 = .ok (.iload_n 2, 1) := by decide +kernel
theorem dm_Model_part_63 : decode bm_Model_part 63 = .ok (.iconst 2, 1) := by decide +kernel
theorem dm_Model_part_64 : decode bm_Model_part 64 = .ok (.if_icmp .ne 14, 3) := by decide +kernel
theorem dm_Model_part_67 : decode bm_Model_part 67 = .ok (.aload_n 0, 1) := by decide +kernel
theorem dm_Model_part_68 : decode bm_Model_part 68 = .ok (.bipush 8, 2) := by decide +kernel
theorem dm_Model_part_70 : decode bm_Model_part 70 = .ok (.iload_n 1, 1) := by decide +kernel
theorem dm_Model_part_71 : decode bm_Model_part 71 = .ok (.iadd, 1) := by decide +kernel
theorem dm_Model_part_72 : decode bm_Model_part 72 = .ok (.invokevirtual 42, 3) := by decide +kernel
theorem dm_Model_part_75 : decode bm_Model_part 75 = .ok (.goto 4, 3) := by decide +kernel
theorem dm_Model_part_78 : decode bm_Model_part 78 = .ok (.iconst (-1), 1) := by decide +kernel
theorem dm_Model_part_79 : decode bm_Model_part 79 = .ok (.ireturn, 1) := by decide +kernel
set_option maxHeartbeats 4000000 in
set_option maxRecDepth 100000 in
theorem mm_Model_part (l : Launch) (D : va_G) (k : ClassId × ClassId × ClassId) (g : Nat → Nat) (σ : st_T) {P : Nat} (hw : md_wf P σ) (hP31 : P < 2147483648) (hcc : σ 205 1 ≤ 15) {a b0 : Int32} : mt_I l D k g ym_Model_part wm_Model_part rm_Model_part [.ref (g 149), .int a, .int b0] σ (fun r σ1 => (¬ (∃ n, n < σ 205 1 ∧ a = nI n) ∧ r = -1 ∧ σ1 = σ) ∨ ∃ a0, (a0 < σ 205 1 ∧ a = nI a0) ∧ r = pv_r (mv_t σ a0) b0 ∧ σ1 = σ) := by
  refine ct_I_in (cc := bm_Model_part) (maxL := 3) (by decide) rfl (Nat.le_of_ble_eq_true rfl) ?_
  intro p e s m args below meth c A ls Q S hl hW hret
  have S : pw_S p m c bm_Model_part 3 s args wa_g rc_Model D cl_s (ty_s k) := S
  have hx := S.1.1
  have hb := S.1.2.1
  have hl : lv_has ls 3 [(0, .ref (g (149))), (1, .int (a)), (2, .int (b0))] := hl
  refine lv_aload_n hx hb dm_Model_part_0 rfl (lv_at hl 0 rfl) ?_
  refine lv_iload_n hx hb dm_Model_part_1 rfl (lv_at hl 1 rfl) ?_
  refine pw_callVI (rest := []) S hW (mm_Model_isPart l D k g σ (x := a) hcc) (cv_Model_107 S.1.2.2.2.2 ⟨by decide, by decide⟩) (by decide) en_Model rfl rfl hl.1 rfl (lv_room (Nat.le_of_ble_eq_true rfl)) ⟨Nat.zero_le _, Nat.zero_le _⟩ dm_Model_part_2 (fun r σ1 H locs hp hW => ?_)
  obtain ⟨hp, h9⟩ := hp
  rw [h9] at hW
  rcases hp with ⟨hr, a0, ha0, rfl⟩ | ⟨hr, hno⟩
  · subst hr
    have hl : lv_has ls 3 [(0, .ref (g (149))), (1, .int (nI (a0))), (2, .int (b0))] := hl
    refine wi_if_ne (tgt := 10) S (nn_T (by omega)) dm_Model_part_5 (by decide) (fun hc => ?_) (fun hc => ?_)
    · have low : (b0.toInt < 100 ∨ 115 < b0.toInt) → W p l e rm_Model_part s m args below meth c H locs 0 0 Q (F0 m 35 ls []) := by
        intro hb9
        refine lv_iload_n hx hb dm_Model_part_35 rfl (lv_at hl 2 rfl) ?_
        refine wi_if_ne (tgt := 48) S rfl dm_Model_part_36 (by decide) (fun hc => ?_) (fun hc => ?_)
        · refine lv_iload_n hx hb dm_Model_part_48 rfl (lv_at hl 2 rfl) ?_
          refine lv_iconst (v := nI (1)) hx hb dm_Model_part_49 (by decide) ?_
          refine wi_icmp_ne (tgt := 62) S rfl (nn_T (by omega)) dm_Model_part_50 (by decide) (fun hc => ?_) (fun hc => ?_)
          · refine lv_iload_n hx hb dm_Model_part_62 rfl (lv_at hl 2 rfl) ?_
            refine lv_iconst (v := nI (2)) hx hb dm_Model_part_63 (by decide) ?_
            refine wi_icmp_ne (tgt := 78) S rfl (nn_T (by omega)) dm_Model_part_64 (by decide) (fun hc => ?_) (fun hc => ?_)
            · refine lv_iconst (v := -1) hx hb dm_Model_part_78 (by decide) ?_
              exact hret _ _ _ _ _ _ dm_Model_part_79 (Or.inr ⟨a0, ⟨ha0, rfl⟩, by unfold pv_r; rw [if_neg (by omega), if_neg (by omega), if_neg (by omega), if_neg (by omega)], rfl⟩) hW
            · refine lv_aload_n hx hb dm_Model_part_67 rfl (lv_at hl 0 rfl) ?_
              refine lv_bipush (v := nI (8)) hx hb dm_Model_part_68 (by decide) ?_
              refine lv_iload_n hx hb dm_Model_part_70 rfl (lv_at hl 1 rfl) ?_
              refine wn_iadd S dm_Model_part_71 ?_
              refine pw_callVI (rest := []) S hW (mm_Model_degree l D k g σ (s0 := (8) + (a0)) (P := P) (by omega) (hw.2 ((8) + (a0)) (by omega)) hP31) (cv_Model_42 S.1.2.2.2.2 ⟨by decide, by decide⟩) (by decide) en_Model rfl rfl hl.1 rfl (lv_room (Nat.le_of_ble_eq_true rfl)) ⟨Nat.zero_le _, Nat.zero_le _⟩ dm_Model_part_72 (fun r σ1 H locs hp hW => ?_)
              obtain ⟨hr, hp⟩ := hp
              rw [hp] at hW
              subst hr
              refine lv_goto (tgt := 79) hx hb dm_Model_part_75 (by decide) ?_
              exact hret _ _ _ _ _ _ dm_Model_part_79 (Or.inr ⟨a0, ⟨ha0, rfl⟩, by unfold pv_r; rw [if_neg (by omega), if_neg (by omega), if_pos (by omega)]; rfl, rfl⟩) hW
          · refine lv_aload_n hx hb dm_Model_part_53 rfl (lv_at hl 0 rfl) ?_
            refine md_degrees S hW (wa_in 565 (by decide +kernel) rfl) dm_Model_part_54 ?_
            refine lv_iload_n hx hb dm_Model_part_57 rfl (lv_at hl 1 rfl) ?_
            refine md_ald S hW (by omega) dm_Model_part_58 ?_
            refine lv_goto (tgt := 79) hx hb dm_Model_part_59 (by decide) ?_
            exact hret _ _ _ _ _ _ dm_Model_part_79 (Or.inr ⟨a0, ⟨ha0, rfl⟩, by unfold pv_r; rw [if_neg (by omega), if_pos (by omega)]; rfl, rfl⟩) hW
        · refine lv_aload_n hx hb dm_Model_part_39 rfl (lv_at hl 0 rfl) ?_
          refine md_often S hW (wa_in 564 (by decide +kernel) rfl) dm_Model_part_40 ?_
          refine lv_iload_n hx hb dm_Model_part_43 rfl (lv_at hl 1 rfl) ?_
          refine mo_ald S hW (by omega) dm_Model_part_44 ?_
          refine lv_goto (tgt := 79) hx hb dm_Model_part_45 (by decide) ?_
          exact hret _ _ _ _ _ _ dm_Model_part_79 (Or.inr ⟨a0, ⟨ha0, rfl⟩, by unfold pv_r; rw [if_pos hc]; rfl, rfl⟩) hW
      refine lv_iload_n hx hb dm_Model_part_10 rfl (lv_at hl 2 rfl) ?_
      refine lv_bipush (v := nI (100)) hx hb dm_Model_part_11 (by decide) ?_
      refine wi_icmp_lt (tgt := 35) S rfl (nn_T (by omega)) dm_Model_part_13 (by decide) (fun hc => ?_) (fun hc => ?_)
      · exact low (by omega)
      · refine lv_iload_n hx hb dm_Model_part_16 rfl (lv_at hl 2 rfl) ?_
        refine lv_bipush (v := nI (115)) hx hb dm_Model_part_17 (by decide) ?_
        refine wi_icmp_gt (tgt := 35) S rfl (nn_T (by omega)) dm_Model_part_19 (by decide) (fun hc => ?_) (fun hc => ?_)
        · exact low (by omega)
        · refine lv_aload_n hx hb dm_Model_part_22 rfl (lv_at hl 0 rfl) ?_
          refine lv_bipush (v := nI (8)) hx hb dm_Model_part_23 (by decide) ?_
          refine lv_iload_n hx hb dm_Model_part_25 rfl (lv_at hl 1 rfl) ?_
          refine wn_iadd S dm_Model_part_26 ?_
          refine lv_iload_n hx hb dm_Model_part_27 rfl (lv_at hl 2 rfl) ?_
          refine lv_bipush (v := nI (100)) hx hb dm_Model_part_28 (by decide) ?_
          refine lv_isub hx hb dm_Model_part_30 ?_
          rw [pv_sub (by omega) (by omega)]
          refine pw_callVI (rest := []) S hW (mm_Model_get l D k g σ (s0 := (8) + (a0)) (n := (b0.toInt - 100).toNat) (by omega) (by omega)) (cv_Model_31 S.1.2.2.2.2 ⟨by decide, by decide⟩) (by decide) en_Model rfl rfl hl.1 rfl (lv_room (Nat.le_of_ble_eq_true rfl)) ⟨Nat.zero_le _, Nat.zero_le _⟩ dm_Model_part_31 (fun r σ1 H locs hp hW => ?_)
          obtain ⟨hr, hp⟩ := hp
          rw [hp] at hW
          subst hr
          exact hret _ _ _ _ _ _ dm_Model_part_34 (Or.inr ⟨a0, ⟨ha0, rfl⟩, (pv_co (by omega) (by omega) (mv_t σ a0)).symm, rfl⟩) hW
    · exfalso
      omega
  · subst hr
    refine wi_if_ne (tgt := 10) S (nn_T (by omega)) dm_Model_part_5 (by decide) (fun hc => ?_) (fun hc => ?_)
    · exfalso
      omega
    · refine lv_iconst (v := -1) hx hb dm_Model_part_8 (by decide) ?_
      exact hret _ _ _ _ _ _ dm_Model_part_9 (Or.inl ⟨fun z => hno z, rfl, rfl⟩) hW
theorem dm_Model_field_0 : decode bm_Model_field 0 = .ok (.iload_n 1, 1) := by decide +kernel
theorem dm_Model_field_1 : decode bm_Model_field 1 = .ok (.invokestatic 69, 3) := by decide +kernel
theorem dm_Model_field_4 : decode bm_Model_field 4 = .ok (.ifCond .eq 26, 3) := by decide +kernel
theorem dm_Model_field_7 : decode bm_Model_field 7 = .ok (.aload_n 0, 1) := by decide +kernel
theorem dm_Model_field_8 : decode bm_Model_field 8 = .ok (.iload_n 1, 1) := by decide +kernel
theorem dm_Model_field_9 : decode bm_Model_field 9 = .ok (.invokevirtual 42, 3) := by decide +kernel
theorem dm_Model_field_12 : decode bm_Model_field 12 = .ok (.iconst 1, 1) := by decide +kernel
theorem dm_Model_field_13 : decode bm_Model_field 13 = .ok (.if_icmp .lt 17, 3) := by decide +kernel
theorem dm_Model_field_16 : decode bm_Model_field 16 = .ok (.aload_n 0, 1) := by decide +kernel
theorem dm_Model_field_17 : decode bm_Model_field 17 = .ok (.iload_n 1, 1) := by decide +kernel
theorem dm_Model_field_18 : decode bm_Model_field 18 = .ok (.aload_n 0, 1) := by decide +kernel
theorem dm_Model_field_19 : decode bm_Model_field 19 = .ok (.iload_n 1, 1) := by decide +kernel
theorem dm_Model_field_20 : decode bm_Model_field 20 = .ok (.invokevirtual 42, 3) := by decide +kernel
theorem dm_Model_field_23 : decode bm_Model_field 23 = .ok (.invokevirtual 31, 3) := by decide +kernel
theorem dm_Model_field_26 : decode bm_Model_field 26 = .ok (.iconst 1, 1) := by decide +kernel
theorem dm_Model_field_27 : decode bm_Model_field 27 = .ok (.if_icmp .eq 5, 3) := by decide +kernel
theorem dm_Model_field_30 : decode bm_Model_field 30 = .ok (.iconst (-1), 1) := by decide +kernel
theorem dm_Model_field_31 : decode bm_Model_field 31 = .ok (.ireturn, 1) := by decide +kernel
theorem dm_Model_field_32 : decode bm_Model_field 32 = .ok (.aload_n 0, 1) := by decide +kernel
theorem dm_Model_field_33 : decode bm_Model_field 33 = .ok (.iload_n 1, 1) := by decide +kernel
theorem dm_Model_field_34 : decode bm_Model_field 34 = .ok (.bipush 25, 2) := by decide +kernel
theorem dm_Model_field_36 : decode bm_Model_field 36 = .ok (.invokevirtual 55, 3) := by decide +kernel
theorem dm_Model_field_39 : decode bm_Model_field 39 = .ok (.aload_n 0, 1) := by decide +kernel
theorem dm_Model_field_40 : decode bm_Model_field 40 = .ok (.invokevirtual 84, 3) := by decide +kernel
theorem dm_Model_field_43 : decode bm_Model_field 43 = .ok (.ifCond .ne 5, 3) := by decide +kernel
theorem dm_Model_field_46 : decode bm_Model_field 46 = .ok (.iconst (-1), 1) := by decide +kernel
theorem dm_Model_field_47 : decode bm_Model_field 47 = .ok (.ireturn, 1) := by decide +kernel
theorem dm_Model_field_48 : decode bm_Model_field 48 = .ok (.aload_n 0, 1) := by decide +kernel
theorem dm_Model_field_49 : decode bm_Model_field 49 = .ok (.iload_n 1, 1) := by decide +kernel
theorem dm_Model_field_50 : decode bm_Model_field 50 = .ok (.bipush 24, 2) := by decide +kernel
theorem dm_Model_field_52 : decode bm_Model_field 52 = .ok (.invokevirtual 55, 3) := by decide +kernel
theorem dm_Model_field_55 : decode bm_Model_field 55 = .ok (.aload_n 0, 1) := by decide +kernel
theorem dm_Model_field_56 : decode bm_Model_field 56 = .ok (.aload_n 0, 1) := by decide +kernel
theorem dm_Model_field_57 : decode bm_Model_field 57 = .ok (.iload_n 1, 1) := by decide +kernel
theorem dm_Model_field_58 : decode bm_Model_field 58 = .ok (.invokevirtual 42, 3) := by decide +kernel
theorem dm_Model_field_61 : decode bm_Model_field 61 = .ok (.putfield 113, 3) := by decide +kernel
theorem dm_Model_field_64 : decode bm_Model_field 64 = .ok (.aload_n 0, 1) := by decide +kernel
theorem dm_Model_field_65 : decode bm_Model_field 65 = .ok (.getfield 113, 3) := by decide +kernel
theorem dm_Model_field_68 : decode bm_Model_field 68 = .ok (.ireturn, 1) := by decide +kernel
set_option maxHeartbeats 4000000 in
set_option maxRecDepth 100000 in
theorem mm_Model_field (l : Launch) (D : va_G) (k : ClassId × ClassId × ClassId) (g : Nat → Nat) (σ : st_T) {P : Nat} (hw : md_wf P σ) (hP : ag_pr P) (hP31 : P < 2147483648) (hrg : ∀ n, n < 8 → sp_sz (σ (300 + n)) 31 ≤ 16) {a : Int32} : mt_I l D k g ym_Model_field wm_Model_field rm_Model_field [.ref (g 149), .int a] σ (fun r σ1 => (¬ (rk_r a) ∧ r = -1 ∧ σ1 = σ) ∨ ∃ a0, (a0 < 8 ∧ a = nI a0) ∧ ((¬ (σ (300 + a0) (sp_sz (σ (300 + a0)) 31 - 1) = 1 ∧ fp_T P (σ (300 + a0))) ∧ r = -1 ∧ md_wf P σ1 ∧ md_sm mk_W σ σ1) ∨ ((σ (300 + a0) (sp_sz (σ (300 + a0)) 31 - 1) = 1 ∧ fp_T P (σ (300 + a0))) ∧ r = nI (sp_sz (σ (300 + a0)) 31 - 1) ∧ md_wf P σ1 ∧ σ1 (300 + 24) = σ (300 + a0) ∧ (σ1 205 4 = sp_sz (σ (300 + a0)) 31 - 1 ∧ ∀ j, j ≠ 4 → σ1 205 j = σ 205 j) ∧ md_sm (205 :: (300 + 24) :: mk_W) σ σ1))) := by
  refine ct_I_in (cc := bm_Model_field) (maxL := 2) (by decide) rfl (Nat.le_of_ble_eq_true rfl) ?_
  intro p e s m args below meth c A ls Q S hl hW hret
  have S : pw_S p m c bm_Model_field 2 s args wa_g rc_Model D cl_s (ty_s k) := S
  have hx := S.1.1
  have hb := S.1.2.1
  have hl : lv_has ls 2 [(0, .ref (g (149))), (1, .int (a))] := hl
  refine lv_iload_n hx hb dm_Model_field_0 rfl (lv_at hl 1 rfl) ?_
  refine pw_callSI (rest := []) S hW (mm_Model_isRegister l D k g σ (x := a)) (cv_Model_69 S.1.2.2.2.2 ⟨by decide, by decide⟩) rfl hl.1 rfl (lv_room (Nat.le_of_ble_eq_true rfl)) ⟨Nat.zero_le _, Nat.zero_le _⟩ dm_Model_field_1 (fun r σ1 H locs hp hW => ?_)
  obtain ⟨hp, h9⟩ := hp
  rw [h9] at hW
  rcases hp with ⟨hr, a0, ha0, rfl⟩ | ⟨hr, hno⟩
  · subst hr
    have hl : lv_has ls 2 [(0, .ref (g (149))), (1, .int (nI (a0)))] := hl
    refine wi_if_eq (tgt := 30) S (nn_T (by omega)) dm_Model_field_4 (by decide) (fun hc => ?_) (fun hc => ?_)
    · exfalso
      omega
    · have zf := sp_sz_le (σ (300 + a0)) 31
      have hlt := md_lt hw (show a0 < 33 by omega) (sp_sz (σ (300 + a0)) 31 - 1)
      refine lv_aload_n hx hb dm_Model_field_7 rfl (lv_at hl 0 rfl) ?_
      refine lv_iload_n hx hb dm_Model_field_8 rfl (lv_at hl 1 rfl) ?_
      refine pw_callVI (rest := []) S hW (mm_Model_degree l D k g σ (s0 := a0) (P := P) (by omega) (hw.2 (a0) (by omega)) hP31) (cv_Model_42 S.1.2.2.2.2 ⟨by decide, by decide⟩) (by decide) en_Model rfl rfl hl.1 rfl (lv_room (Nat.le_of_ble_eq_true rfl)) ⟨Nat.zero_le _, Nat.zero_le _⟩ dm_Model_field_9 (fun r σ1 H locs hp hW => ?_)
      obtain ⟨hr, hp⟩ := hp
      rw [hp] at hW
      subst hr
      refine lv_iconst (v := nI (1)) hx hb dm_Model_field_12 (by decide) ?_
      refine wi_icmp_lt (tgt := 30) S (sd_T (by omega)) (nn_T (by omega)) dm_Model_field_13 (by decide) (fun hc => ?_) (fun hc => ?_)
      · refine lv_iconst (v := -1) hx hb dm_Model_field_30 (by decide) ?_
        exact hret _ _ _ _ _ _ dm_Model_field_31 (Or.inr ⟨a0, ⟨ha0, rfl⟩, Or.inl ⟨fun z => by have := z.2.1; omega, rfl, hw, md_sm_rf _ _⟩⟩) hW
      · refine lv_aload_n hx hb dm_Model_field_16 rfl (lv_at hl 0 rfl) ?_
        refine lv_iload_n hx hb dm_Model_field_17 rfl (lv_at hl 1 rfl) ?_
        refine lv_aload_n hx hb dm_Model_field_18 rfl (lv_at hl 0 rfl) ?_
        refine lv_iload_n hx hb dm_Model_field_19 rfl (lv_at hl 1 rfl) ?_
        refine pw_callVI (rest := [.int (nI (a0)), .ref (g (149))]) S hW (mm_Model_degree l D k g σ (s0 := a0) (P := P) (by omega) (hw.2 (a0) (by omega)) hP31) (cv_Model_42 S.1.2.2.2.2 ⟨by decide, by decide⟩) (by decide) en_Model rfl rfl hl.1 rfl (lv_room (Nat.le_of_ble_eq_true rfl)) ⟨Nat.zero_le _, Nat.zero_le _⟩ dm_Model_field_20 (fun r σ1 H locs hp hW => ?_)
        obtain ⟨hr, hp⟩ := hp
        rw [hp] at hW
        subst hr
        rw [sd_n (show 0 < sp_sz (σ (300 + a0)) 31 by omega)]
        refine pw_callVI (rest := []) S hW (mm_Model_get l D k g σ (s0 := a0) (n := sp_sz (σ (300 + a0)) 31 - 1) (by omega) (by omega)) (cv_Model_31 S.1.2.2.2.2 ⟨by decide, by decide⟩) (by decide) en_Model rfl rfl hl.1 rfl (lv_room (Nat.le_of_ble_eq_true rfl)) ⟨Nat.zero_le _, Nat.zero_le _⟩ dm_Model_field_23 (fun r σ1 H locs hp hW => ?_)
        obtain ⟨hr, hp⟩ := hp
        rw [hp] at hW
        subst hr
        refine lv_iconst (v := nI (1)) hx hb dm_Model_field_26 (by decide) ?_
        refine wi_icmp_eq (tgt := 32) S (nn_T (by omega)) (nn_T (by omega)) dm_Model_field_27 (by decide) (fun hc => ?_) (fun hc => ?_)
        · refine lv_aload_n hx hb dm_Model_field_32 rfl (lv_at hl 0 rfl) ?_
          refine lv_iload_n hx hb dm_Model_field_33 rfl (lv_at hl 1 rfl) ?_
          refine lv_bipush (v := nI (25)) hx hb dm_Model_field_34 (by decide) ?_
          refine pw_callV (rest := []) S hW (mm_Model_copy l D k g σ hw (a := a0) (b := 25) (by omega) (by omega)) (cv_Model_55 S.1.2.2.2.2 ⟨by decide, by decide⟩) (by decide) en_Model rfl rfl hl.1 rfl (lv_room (Nat.le_of_ble_eq_true rfl)) ⟨Nat.zero_le _, Nat.zero_le _⟩ dm_Model_field_36 (fun σ2 H locs hp2 hW => ?_)
          obtain ⟨w2, e2, s2⟩ := hp2
          have k2_a0 : σ2 (300 + (a0)) = σ (300 + (a0)) := by rw [s2 _ (by simp only [List.mem_cons, List.not_mem_nil, or_false]; omega)]
          have k2_25 : σ2 (300 + (25)) = σ (300 + (a0)) := by rw [e2]
          refine lv_aload_n hx hb dm_Model_field_39 rfl (lv_at hl 0 rfl) ?_
          refine pw_callVI (rest := []) S hW (mm_Model_isPrimeAt l D k g σ2 w2 hP hP31 (by rw [k2_25]; exact hrg a0 ha0)) (cv_Model_84 S.1.2.2.2.2 ⟨by decide, by decide⟩) (by decide) en_Model rfl rfl hl.1 rfl (lv_room (Nat.le_of_ble_eq_true rfl)) ⟨Nat.zero_le _, Nat.zero_le _⟩ dm_Model_field_40 (fun r σ3 H locs hp3 hW => ?_)
          obtain ⟨hp3, w3, s3⟩ := hp3
          rw [k2_25] at hp3
          have m3 : md_sm mk_W σ σ3 := md_sm_tr s2 s3 (by decide +kernel) (by decide +kernel)
          rcases hp3 with ⟨hr, hT⟩ | ⟨hr, hT⟩
          · subst hr
            refine wi_if_ne (tgt := 48) S (nn_T (by omega)) dm_Model_field_43 (by decide) (fun hc => ?_) (fun hc => ?_)
            · have kx : σ3 (300 + a0) = σ (300 + a0) := by rw [m3 _ (by simp only [List.mem_cons, List.not_mem_nil, or_false]; omega)]
              refine lv_aload_n hx hb dm_Model_field_48 rfl (lv_at hl 0 rfl) ?_
              refine lv_iload_n hx hb dm_Model_field_49 rfl (lv_at hl 1 rfl) ?_
              refine lv_bipush (v := nI (24)) hx hb dm_Model_field_50 (by decide) ?_
              refine pw_callV (rest := []) S hW (mm_Model_copy l D k g σ3 w3 (a := a0) (b := 24) (by omega) (by omega)) (cv_Model_55 S.1.2.2.2.2 ⟨by decide, by decide⟩) (by decide) en_Model rfl rfl hl.1 rfl (lv_room (Nat.le_of_ble_eq_true rfl)) ⟨Nat.zero_le _, Nat.zero_le _⟩ dm_Model_field_52 (fun σ4 H locs hp4 hW => ?_)
              obtain ⟨w4, e4, s4⟩ := hp4
              have k4_a0 : σ4 (300 + (a0)) = σ (300 + a0) := by rw [s4 _ (by simp only [List.mem_cons, List.not_mem_nil, or_false]; omega)]; exact kx
              have k4_24 : σ4 (300 + (24)) = σ (300 + a0) := by rw [e4, kx]
              refine lv_aload_n hx hb dm_Model_field_55 rfl (lv_at hl 0 rfl) ?_
              refine lv_aload_n hx hb dm_Model_field_56 rfl (lv_at hl 0 rfl) ?_
              refine lv_iload_n hx hb dm_Model_field_57 rfl (lv_at hl 1 rfl) ?_
              refine pw_callVI (rest := [.ref (g (149))]) S hW (mm_Model_degree l D k g σ4 (s0 := a0) (P := P) (by omega) (w4.2 (a0) (by omega)) hP31) (cv_Model_42 S.1.2.2.2.2 ⟨by decide, by decide⟩) (by decide) en_Model rfl rfl hl.1 rfl (lv_room (Nat.le_of_ble_eq_true rfl)) ⟨Nat.zero_le _, Nat.zero_le _⟩ dm_Model_field_58 (fun r σ1 H locs hp hW => ?_)
              obtain ⟨hr, hp⟩ := hp
              rw [hp] at hW
              subst hr
              rw [k4_a0]
              rw [sd_n (show 0 < sp_sz (σ (300 + a0)) 31 by omega)]
              refine md_put_k S hW (wa_in 568 (by decide +kernel) rfl) dm_Model_field_61 (fun H locs hW => ?_)
              refine lv_aload_n hx hb dm_Model_field_64 rfl (lv_at hl 0 rfl) ?_
              refine md_k S hW (wa_in 568 (by decide +kernel) rfl) dm_Model_field_65 ?_
              have q205 : σ4 205 = σ 205 := by rw [s4 205 (by simp only [List.mem_cons, List.not_mem_nil, or_false]; omega), m3 205 (by decide +kernel)]
              have e4 : (st_up σ4 205 4 (sp_sz (σ (300 + a0)) 31 - 1)) 205 = va_up (σ 205) 4 (sp_sz (σ (300 + a0)) 31 - 1) := by rw [st_up_at, q205]
              rw [e4, va_up_self]
              refine hret _ _ _ _ _ _ dm_Model_field_68 (Or.inr ⟨a0, ⟨ha0, rfl⟩, Or.inr ⟨⟨by omega, hT⟩, rfl, ⟨by rw [e4, va_up_ne _ _ (by omega)]; exact hw.1, fun s hs => by rw [st_up_row (by omega)]; exact w4.2 s hs⟩, by rw [st_up_row (by omega)]; exact k4_24, ⟨by rw [e4, va_up_self], fun j hj => by rw [e4, va_up_ne _ _ hj]⟩, fun a ha => ?_⟩⟩) hW
              have h1 : a ≠ 205 := fun z => ha (by rw [z]; decide +kernel)
              have h2 : a ≠ 300 + 24 := fun z => ha (by rw [z]; decide +kernel)
              rw [st_up_row h1, s4 a (by simp only [List.mem_singleton]; exact h2), m3 a (fun z => ha (List.mem_cons_of_mem _ (List.mem_cons_of_mem _ z)))]
            · exfalso
              omega
          · subst hr
            refine wi_if_ne (tgt := 48) S (nn_T (by omega)) dm_Model_field_43 (by decide) (fun hc => ?_) (fun hc => ?_)
            · exfalso
              omega
            · refine lv_iconst (v := -1) hx hb dm_Model_field_46 (by decide) ?_
              exact hret _ _ _ _ _ _ dm_Model_field_47 (Or.inr ⟨a0, ⟨ha0, rfl⟩, Or.inl ⟨fun z => hT z.2, rfl, w3, m3⟩⟩) hW
        · refine lv_iconst (v := -1) hx hb dm_Model_field_30 (by decide) ?_
          exact hret _ _ _ _ _ _ dm_Model_field_31 (Or.inr ⟨a0, ⟨ha0, rfl⟩, Or.inl ⟨fun z => by have := z.1; omega, rfl, hw, md_sm_rf _ _⟩⟩) hW
  · subst hr
    refine wi_if_eq (tgt := 30) S (nn_T (by omega)) dm_Model_field_4 (by decide) (fun hc => ?_) (fun hc => ?_)
    · refine lv_iconst (v := -1) hx hb dm_Model_field_30 (by decide) ?_
      exact hret _ _ _ _ _ _ dm_Model_field_31 (Or.inl ⟨fun z => hno z, rfl, rfl⟩) hW
    · exfalso
      omega
theorem dm_Model_times_0 : decode bm_Model_times 0 = .ok (.iload_n 1, 1) := by decide +kernel
theorem dm_Model_times_1 : decode bm_Model_times 1 = .ok (.invokestatic 69, 3) := by decide +kernel
theorem dm_Model_times_4 : decode bm_Model_times 4 = .ok (.ifCond .eq 24, 3) := by decide +kernel
theorem dm_Model_times_7 : decode bm_Model_times 7 = .ok (.iload_n 2, 1) := by decide +kernel
theorem dm_Model_times_8 : decode bm_Model_times 8 = .ok (.invokestatic 69, 3) := by decide +kernel
theorem dm_Model_times_11 : decode bm_Model_times 11 = .ok (.ifCond .eq 17, 3) := by decide +kernel
theorem dm_Model_times_14 : decode bm_Model_times 14 = .ok (.iload_n 3, 1) := by decide +kernel
theorem dm_Model_times_15 : decode bm_Model_times 15 = .ok (.invokestatic 69, 3) := by decide +kernel
theorem dm_Model_times_18 : decode bm_Model_times 18 = .ok (.ifCond .eq 10, 3) := by decide +kernel
theorem dm_Model_times_21 : decode bm_Model_times 21 = .ok (.aload_n 0, 1) := by decide +kernel
theorem dm_Model_times_22 : decode bm_Model_times 22 = .ok (.getfield 113, 3) := by decide +kernel
theorem dm_Model_times_25 : decode bm_Model_times 25 = .ok (.ifCond .ne 5, 3) := by decide +kernel
theorem dm_Model_times_28 : decode bm_Model_times 28 = .ok (.iconst (-1), 1) := by decide +kernel
theorem dm_Model_times_29 : decode bm_Model_times 29 = .ok (.ireturn, 1) := by decide +kernel
theorem dm_Model_times_30 : decode bm_Model_times 30 = .ok (.aload_n 0, 1) := by decide +kernel
theorem dm_Model_times_31 : decode bm_Model_times 31 = .ok (.iload_n 2, 1) := by decide +kernel
theorem dm_Model_times_32 : decode bm_Model_times 32 = .ok (.bipush 25, 2) := by decide +kernel
theorem dm_Model_times_34 : decode bm_Model_times 34 = .ok (.invokevirtual 55, 3) := by decide +kernel
theorem dm_Model_times_37 : decode bm_Model_times 37 = .ok (.aload_n 0, 1) := by decide +kernel
theorem dm_Model_times_38 : decode bm_Model_times 38 = .ok (.bipush 25, 2) := by decide +kernel
theorem dm_Model_times_40 : decode bm_Model_times 40 = .ok (.bipush 24, 2) := by decide +kernel
theorem dm_Model_times_42 : decode bm_Model_times 42 = .ok (.invokevirtual 52, 3) := by decide +kernel
theorem dm_Model_times_45 : decode bm_Model_times 45 = .ok (.aload_n 0, 1) := by decide +kernel
theorem dm_Model_times_46 : decode bm_Model_times 46 = .ok (.iload_n 3, 1) := by decide +kernel
theorem dm_Model_times_47 : decode bm_Model_times 47 = .ok (.bipush 26, 2) := by decide +kernel
theorem dm_Model_times_49 : decode bm_Model_times 49 = .ok (.invokevirtual 55, 3) := by decide +kernel
theorem dm_Model_times_52 : decode bm_Model_times 52 = .ok (.aload_n 0, 1) := by decide +kernel
theorem dm_Model_times_53 : decode bm_Model_times 53 = .ok (.bipush 26, 2) := by decide +kernel
theorem dm_Model_times_55 : decode bm_Model_times 55 = .ok (.bipush 24, 2) := by decide +kernel
theorem dm_Model_times_57 : decode bm_Model_times 57 = .ok (.invokevirtual 52, 3) := by decide +kernel
theorem dm_Model_times_60 : decode bm_Model_times 60 = .ok (.aload_n 0, 1) := by decide +kernel
theorem dm_Model_times_61 : decode bm_Model_times 61 = .ok (.bipush 25, 2) := by decide +kernel
theorem dm_Model_times_63 : decode bm_Model_times 63 = .ok (.bipush 26, 2) := by decide +kernel
theorem dm_Model_times_65 : decode bm_Model_times 65 = .ok (.bipush 24, 2) := by decide +kernel
theorem dm_Model_times_67 : decode bm_Model_times 67 = .ok (.invokevirtual 62, 3) := by decide +kernel
theorem dm_Model_times_70 : decode bm_Model_times 70 = .ok (.aload_n 0, 1) := by decide +kernel
theorem dm_Model_times_71 : decode bm_Model_times 71 = .ok (.bipush 25, 2) := by decide +kernel
theorem dm_Model_times_73 : decode bm_Model_times 73 = .ok (.iload_n 1, 1) := by decide +kernel
theorem dm_Model_times_74 : decode bm_Model_times 74 = .ok (.invokevirtual 55, 3) := by decide +kernel
theorem dm_Model_times_77 : decode bm_Model_times 77 = .ok (.aload_n 0, 1) := by decide +kernel
theorem dm_Model_times_78 : decode bm_Model_times 78 = .ok (.iload_n 1, 1) := by decide +kernel
theorem dm_Model_times_79 : decode bm_Model_times 79 = .ok (.invokevirtual 75, 3) := by decide +kernel
theorem dm_Model_times_82 : decode bm_Model_times 82 = .ok (.ireturn, 1) := by decide +kernel
set_option maxHeartbeats 4000000 in
set_option maxRecDepth 100000 in
theorem mm_Model_times (l : Launch) (D : va_G) (k : ClassId × ClassId × ClassId) (g : Nat → Nat) (σ : st_T) {P : Nat} (hw : md_wf P σ) (hP : ag_pr P) (hP31 : P < 2147483648) (hrg : ∀ n, n < 8 → sp_sz (σ (300 + n)) 31 ≤ 16) (hk : σ 205 4 < 2147483648) (hfd : σ 205 4 ≠ 0 → 1 < sp_sz (σ (300 + 24)) 31 ∧ sp_sz (σ (300 + 24)) 31 ≤ 16) {d x y : Int32} : mt_I l D k g ym_Model_times wm_Model_times rm_Model_times [.ref (g 149), .int d, .int x, .int y] σ (fun r σ1 => (¬ (rk_r d ∧ rk_r x ∧ rk_r y) ∧ r = -1 ∧ σ1 = σ) ∨ ∃ d0 x0 y0, (d0 < 8 ∧ d = nI d0) ∧ (x0 < 8 ∧ x = nI x0) ∧ (y0 < 8 ∧ y = nI y0) ∧ ((σ 205 4 = 0 ∧ r = -1 ∧ σ1 = σ) ∨ (σ 205 4 ≠ 0 ∧ r = nI (sp_sz (σ1 (300 + d0)) 31) ∧ md_wf P σ1 ∧ σ1 (300 + d0) = sp_rest P (sp_mul P (σ (300 + x0)) (σ (300 + y0))) (σ (300 + 24)) ∧ md_sm ((300 + d0) :: mk_W) σ σ1))) := by
  refine ct_I_in (cc := bm_Model_times) (maxL := 4) (by decide) rfl (Nat.le_of_ble_eq_true rfl) ?_
  intro p e s m args below meth c A ls Q S hl hW hret
  have S : pw_S p m c bm_Model_times 4 s args wa_g rc_Model D cl_s (ty_s k) := S
  have hx := S.1.1
  have hb := S.1.2.1
  have hl : lv_has ls 4 [(0, .ref (g (149))), (1, .int (d)), (2, .int (x)), (3, .int (y))] := hl
  have hP2 := hP.1
  refine lv_iload_n hx hb dm_Model_times_0 rfl (lv_at hl 1 rfl) ?_
  refine pw_callSI (rest := []) S hW (mm_Model_isRegister l D k g σ (x := d)) (cv_Model_69 S.1.2.2.2.2 ⟨by decide, by decide⟩) rfl hl.1 rfl (lv_room (Nat.le_of_ble_eq_true rfl)) ⟨Nat.zero_le _, Nat.zero_le _⟩ dm_Model_times_1 (fun r σ1 H locs hp hW => ?_)
  obtain ⟨hp, h9⟩ := hp
  rw [h9] at hW
  rcases hp with ⟨hr, d0, hd0, rfl⟩ | ⟨hr, hno⟩
  · subst hr
    have hl : lv_has ls 4 [(0, .ref (g (149))), (1, .int (nI (d0))), (2, .int (x)), (3, .int (y))] := hl
    refine wi_if_eq (tgt := 28) S (nn_T (by omega)) dm_Model_times_4 (by decide) (fun hc => ?_) (fun hc => ?_)
    · exfalso
      omega
    · refine lv_iload_n hx hb dm_Model_times_7 rfl (lv_at hl 2 rfl) ?_
      refine pw_callSI (rest := []) S hW (mm_Model_isRegister l D k g σ (x := x)) (cv_Model_69 S.1.2.2.2.2 ⟨by decide, by decide⟩) rfl hl.1 rfl (lv_room (Nat.le_of_ble_eq_true rfl)) ⟨Nat.zero_le _, Nat.zero_le _⟩ dm_Model_times_8 (fun r σ1 H locs hp hW => ?_)
      obtain ⟨hp, h9⟩ := hp
      rw [h9] at hW
      rcases hp with ⟨hr, x0, hx0, rfl⟩ | ⟨hr, hno⟩
      · subst hr
        have hl : lv_has ls 4 [(0, .ref (g (149))), (1, .int (nI (d0))), (2, .int (nI (x0))), (3, .int (y))] := hl
        refine wi_if_eq (tgt := 28) S (nn_T (by omega)) dm_Model_times_11 (by decide) (fun hc => ?_) (fun hc => ?_)
        · exfalso
          omega
        · refine lv_iload_n hx hb dm_Model_times_14 rfl (lv_at hl 3 rfl) ?_
          refine pw_callSI (rest := []) S hW (mm_Model_isRegister l D k g σ (x := y)) (cv_Model_69 S.1.2.2.2.2 ⟨by decide, by decide⟩) rfl hl.1 rfl (lv_room (Nat.le_of_ble_eq_true rfl)) ⟨Nat.zero_le _, Nat.zero_le _⟩ dm_Model_times_15 (fun r σ1 H locs hp hW => ?_)
          obtain ⟨hp, h9⟩ := hp
          rw [h9] at hW
          rcases hp with ⟨hr, y0, hy0, rfl⟩ | ⟨hr, hno⟩
          · subst hr
            have hl : lv_has ls 4 [(0, .ref (g (149))), (1, .int (nI (d0))), (2, .int (nI (x0))), (3, .int (nI (y0)))] := hl
            refine wi_if_eq (tgt := 28) S (nn_T (by omega)) dm_Model_times_18 (by decide) (fun hc => ?_) (fun hc => ?_)
            · exfalso
              omega
            · refine lv_aload_n hx hb dm_Model_times_21 rfl (lv_at hl 0 rfl) ?_
              refine md_k S hW (wa_in 568 (by decide +kernel) rfl) dm_Model_times_22 ?_
              refine wi_if_ne (tgt := 30) S (nn_T (by omega)) dm_Model_times_25 (by decide) (fun hc => ?_) (fun hc => ?_)
              · obtain ⟨f1, f16⟩ := hfd (by omega)
                have hx16 := hrg x0 hx0
                have hy16 := hrg y0 hy0
                have hMo := hw.2 24 (by omega)
                have dx := sp_rest_is hP (hw.2 x0 (by omega)) hMo (by omega)
                have dy := sp_rest_is hP (hw.2 y0 (by omega)) hMo (by omega)
                have zx := dx.2.1
                have zy := dy.2.1
                have hI := pz_I_ok P (pe_f (σ (300 + 24)))
                have heq : sp_rest P (sp_mul P (sp_rest P (σ (300 + x0)) (σ (300 + 24))) (sp_rest P (σ (300 + y0)) (σ (300 + 24)))) (σ (300 + 24)) = sp_rest P (sp_mul P (σ (300 + x0)) (σ (300 + y0))) (σ (300 + 24)) := sp_is_uni hP hMo (sp_mr hP dx.1 dy.1 hMo (by omega) (by omega) dx.2.2 dy.2.2) (sp_mr hP (hw.2 x0 (by omega)) (hw.2 y0 (by omega)) hMo (by omega) (by omega) (@ag_rf pz_T pz_R _ hI _) (@ag_rf pz_T pz_R _ hI _))
                refine lv_aload_n hx hb dm_Model_times_30 rfl (lv_at hl 0 rfl) ?_
                refine lv_iload_n hx hb dm_Model_times_31 rfl (lv_at hl 2 rfl) ?_
                refine lv_bipush (v := nI (25)) hx hb dm_Model_times_32 (by decide) ?_
                refine pw_callV (rest := []) S hW (mm_Model_copy l D k g σ hw (a := x0) (b := 25) (by omega) (by omega)) (cv_Model_55 S.1.2.2.2.2 ⟨by decide, by decide⟩) (by decide) en_Model rfl rfl hl.1 rfl (lv_room (Nat.le_of_ble_eq_true rfl)) ⟨Nat.zero_le _, Nat.zero_le _⟩ dm_Model_times_34 (fun σ2 H locs hp2 hW => ?_)
                obtain ⟨w2, e2, s2⟩ := hp2
                have k2_24 : σ2 (300 + (24)) = σ (300 + (24)) := by rw [s2 _ (by simp only [List.mem_cons, List.not_mem_nil, or_false]; omega)]
                have k2_y0 : σ2 (300 + (y0)) = σ (300 + (y0)) := by rw [s2 _ (by simp only [List.mem_cons, List.not_mem_nil, or_false]; omega)]
                have k2_25 : σ2 (300 + (25)) = σ (300 + (x0)) := by rw [e2]
                refine lv_aload_n hx hb dm_Model_times_37 rfl (lv_at hl 0 rfl) ?_
                refine lv_bipush (v := nI (25)) hx hb dm_Model_times_38 (by decide) ?_
                refine lv_bipush (v := nI (24)) hx hb dm_Model_times_40 (by decide) ?_
                refine pw_callV (rest := []) S hW (mm_Model_rest l D k g σ2 w2 hP hP31 (a := 25) (b := 24) (by omega) (by omega) (by omega) (by omega) (by omega) (by rw [k2_24]; omega)) (cv_Model_52 S.1.2.2.2.2 ⟨by decide, by decide⟩) (by decide) en_Model rfl rfl hl.1 rfl (lv_room (Nat.le_of_ble_eq_true rfl)) ⟨Nat.zero_le _, Nat.zero_le _⟩ dm_Model_times_42 (fun σ3 H locs hp3 hW => ?_)
                obtain ⟨w3, e3, s3⟩ := hp3
                have k3_24 : σ3 (300 + (24)) = σ (300 + (24)) := by rw [s3 _ (by simp only [List.mem_cons, List.not_mem_nil, or_false]; omega)]; exact k2_24
                have k3_y0 : σ3 (300 + (y0)) = σ (300 + (y0)) := by rw [s3 _ (by simp only [List.mem_cons, List.not_mem_nil, or_false]; omega)]; exact k2_y0
                have k3_25 : σ3 (300 + (25)) = sp_rest P (σ (300 + (x0))) (σ (300 + (24))) := by rw [e3.1, k2_25, k2_24]
                have k3_32 : σ3 (300 + (32)) = sp_quo P (σ (300 + (x0))) (σ (300 + (24))) := by rw [e3.2, k2_25, k2_24]
                have m3 : md_sm [300 + (25), 300 + (32)] σ σ3 := md_sm_tr s2 s3 (by intro x9 hx9; simp only [List.mem_cons, List.not_mem_nil, or_false] at hx9 ⊢; omega) (by intro x9 hx9; simp only [List.mem_cons, List.not_mem_nil, or_false] at hx9 ⊢; omega)
                refine lv_aload_n hx hb dm_Model_times_45 rfl (lv_at hl 0 rfl) ?_
                refine lv_iload_n hx hb dm_Model_times_46 rfl (lv_at hl 3 rfl) ?_
                refine lv_bipush (v := nI (26)) hx hb dm_Model_times_47 (by decide) ?_
                refine pw_callV (rest := []) S hW (mm_Model_copy l D k g σ3 w3 (a := y0) (b := 26) (by omega) (by omega)) (cv_Model_55 S.1.2.2.2.2 ⟨by decide, by decide⟩) (by decide) en_Model rfl rfl hl.1 rfl (lv_room (Nat.le_of_ble_eq_true rfl)) ⟨Nat.zero_le _, Nat.zero_le _⟩ dm_Model_times_49 (fun σ4 H locs hp4 hW => ?_)
                obtain ⟨w4, e4, s4⟩ := hp4
                have k4_24 : σ4 (300 + (24)) = σ (300 + (24)) := by rw [s4 _ (by simp only [List.mem_cons, List.not_mem_nil, or_false]; omega)]; exact k3_24
                have k4_y0 : σ4 (300 + (y0)) = σ (300 + (y0)) := by rw [s4 _ (by simp only [List.mem_cons, List.not_mem_nil, or_false]; omega)]; exact k3_y0
                have k4_25 : σ4 (300 + (25)) = sp_rest P (σ (300 + (x0))) (σ (300 + (24))) := by rw [s4 _ (by simp only [List.mem_cons, List.not_mem_nil, or_false]; omega)]; exact k3_25
                have k4_32 : σ4 (300 + (32)) = sp_quo P (σ (300 + (x0))) (σ (300 + (24))) := by rw [s4 _ (by simp only [List.mem_cons, List.not_mem_nil, or_false]; omega)]; exact k3_32
                have k4_26 : σ4 (300 + (26)) = σ (300 + (y0)) := by rw [e4, k3_y0]
                have m4 : md_sm [300 + (25), 300 + (32), 300 + (26)] σ σ4 := md_sm_tr m3 s4 (by intro x9 hx9; simp only [List.mem_cons, List.not_mem_nil, or_false] at hx9 ⊢; omega) (by intro x9 hx9; simp only [List.mem_cons, List.not_mem_nil, or_false] at hx9 ⊢; omega)
                refine lv_aload_n hx hb dm_Model_times_52 rfl (lv_at hl 0 rfl) ?_
                refine lv_bipush (v := nI (26)) hx hb dm_Model_times_53 (by decide) ?_
                refine lv_bipush (v := nI (24)) hx hb dm_Model_times_55 (by decide) ?_
                refine pw_callV (rest := []) S hW (mm_Model_rest l D k g σ4 w4 hP hP31 (a := 26) (b := 24) (by omega) (by omega) (by omega) (by omega) (by omega) (by rw [k4_24]; omega)) (cv_Model_52 S.1.2.2.2.2 ⟨by decide, by decide⟩) (by decide) en_Model rfl rfl hl.1 rfl (lv_room (Nat.le_of_ble_eq_true rfl)) ⟨Nat.zero_le _, Nat.zero_le _⟩ dm_Model_times_57 (fun σ5 H locs hp5 hW => ?_)
                obtain ⟨w5, e5, s5⟩ := hp5
                have k5_24 : σ5 (300 + (24)) = σ (300 + (24)) := by rw [s5 _ (by simp only [List.mem_cons, List.not_mem_nil, or_false]; omega)]; exact k4_24
                have k5_y0 : σ5 (300 + (y0)) = σ (300 + (y0)) := by rw [s5 _ (by simp only [List.mem_cons, List.not_mem_nil, or_false]; omega)]; exact k4_y0
                have k5_25 : σ5 (300 + (25)) = sp_rest P (σ (300 + (x0))) (σ (300 + (24))) := by rw [s5 _ (by simp only [List.mem_cons, List.not_mem_nil, or_false]; omega)]; exact k4_25
                have k5_26 : σ5 (300 + (26)) = sp_rest P (σ (300 + (y0))) (σ (300 + (24))) := by rw [e5.1, k4_26, k4_24]
                have k5_32 : σ5 (300 + (32)) = sp_quo P (σ (300 + (y0))) (σ (300 + (24))) := by rw [e5.2, k4_26, k4_24]
                have m5 : md_sm [300 + (25), 300 + (32), 300 + (26)] σ σ5 := md_sm_tr m4 s5 (by intro x9 hx9; simp only [List.mem_cons, List.not_mem_nil, or_false] at hx9 ⊢; omega) (by intro x9 hx9; simp only [List.mem_cons, List.not_mem_nil, or_false] at hx9 ⊢; omega)
                refine lv_aload_n hx hb dm_Model_times_60 rfl (lv_at hl 0 rfl) ?_
                refine lv_bipush (v := nI (25)) hx hb dm_Model_times_61 (by decide) ?_
                refine lv_bipush (v := nI (26)) hx hb dm_Model_times_63 (by decide) ?_
                refine lv_bipush (v := nI (24)) hx hb dm_Model_times_65 (by decide) ?_
                refine pw_callV (rest := []) S hW (mm_Model_timesBy l D k g σ5 w5 hP hP31 (a := 25) (b := 26) (m0 := 24) (by omega) (by omega) (by omega) (by omega) (by omega) (by omega) (by omega) (by rw [k5_25, k5_26]; omega) (by rw [k5_24]; omega)) (cv_Model_62 S.1.2.2.2.2 ⟨by decide, by decide⟩) (by decide) en_Model rfl rfl hl.1 rfl (lv_room (Nat.le_of_ble_eq_true rfl)) ⟨Nat.zero_le _, Nat.zero_le _⟩ dm_Model_times_67 (fun σ6 H locs hp6 hW => ?_)
                obtain ⟨w6, e6, s6⟩ := hp6
                have k6_24 : σ6 (300 + (24)) = σ (300 + (24)) := by rw [s6 _ (by simp only [List.mem_cons, List.not_mem_nil, or_false]; omega)]; exact k5_24
                have k6_y0 : σ6 (300 + (y0)) = σ (300 + (y0)) := by rw [s6 _ (by simp only [List.mem_cons, List.not_mem_nil, or_false]; omega)]; exact k5_y0
                have k6_26 : σ6 (300 + (26)) = sp_rest P (σ (300 + (y0))) (σ (300 + (24))) := by rw [s6 _ (by simp only [List.mem_cons, List.not_mem_nil, or_false]; omega)]; exact k5_26
                have k6_25 : σ6 (300 + (25)) = sp_rest P (sp_mul P (sp_rest P (σ (300 + (x0))) (σ (300 + (24)))) (sp_rest P (σ (300 + (y0))) (σ (300 + (24))))) (σ (300 + (24))) := by rw [e6, k5_25, k5_26, k5_24]
                have m6 : md_sm [300 + (25), 300 + (32), 300 + (26), 300 + (31)] σ σ6 := md_sm_tr m5 s6 (by intro x9 hx9; simp only [List.mem_cons, List.not_mem_nil, or_false] at hx9 ⊢; omega) (by intro x9 hx9; simp only [List.mem_cons, List.not_mem_nil, or_false] at hx9 ⊢; omega)
                refine lv_aload_n hx hb dm_Model_times_70 rfl (lv_at hl 0 rfl) ?_
                refine lv_bipush (v := nI (25)) hx hb dm_Model_times_71 (by decide) ?_
                refine lv_iload_n hx hb dm_Model_times_73 rfl (lv_at hl 1 rfl) ?_
                refine pw_callV (rest := []) S hW (mm_Model_copy l D k g σ6 w6 (a := 25) (b := d0) (by omega) (by omega)) (cv_Model_55 S.1.2.2.2.2 ⟨by decide, by decide⟩) (by decide) en_Model rfl rfl hl.1 rfl (lv_room (Nat.le_of_ble_eq_true rfl)) ⟨Nat.zero_le _, Nat.zero_le _⟩ dm_Model_times_74 (fun σ7 H locs hp7 hW => ?_)
                obtain ⟨w7, e7, s7⟩ := hp7
                have k7_25 : σ7 (300 + (25)) = sp_rest P (sp_mul P (sp_rest P (σ (300 + (x0))) (σ (300 + (24)))) (sp_rest P (σ (300 + (y0))) (σ (300 + (24))))) (σ (300 + (24))) := by rw [s7 _ (by simp only [List.mem_cons, List.not_mem_nil, or_false]; omega)]; exact k6_25
                have k7_d0 : σ7 (300 + (d0)) = sp_rest P (sp_mul P (sp_rest P (σ (300 + (x0))) (σ (300 + (24)))) (sp_rest P (σ (300 + (y0))) (σ (300 + (24))))) (σ (300 + (24))) := by rw [e7, k6_25]
                have m7 : md_sm [300 + (25), 300 + (32), 300 + (26), 300 + (31), 300 + (d0)] σ σ7 := md_sm_tr m6 s7 (by intro x9 hx9; simp only [List.mem_cons, List.not_mem_nil, or_false] at hx9 ⊢; omega) (by intro x9 hx9; simp only [List.mem_cons, List.not_mem_nil, or_false] at hx9 ⊢; omega)
                refine lv_aload_n hx hb dm_Model_times_77 rfl (lv_at hl 0 rfl) ?_
                refine lv_iload_n hx hb dm_Model_times_78 rfl (lv_at hl 1 rfl) ?_
                refine pw_callVI (rest := []) S hW (mm_Model_size2 l D k g σ7 w7 hP31 (s0 := d0) (by omega)) (cv_Model_75 S.1.2.2.2.2 ⟨by decide, by decide⟩) (by decide) en_Model rfl rfl hl.1 rfl (lv_room (Nat.le_of_ble_eq_true rfl)) ⟨Nat.zero_le _, Nat.zero_le _⟩ dm_Model_times_79 (fun r σ1 H locs hp hW => ?_)
                obtain ⟨hr, hp⟩ := hp
                rw [hp] at hW
                subst hr
                exact hret _ _ _ _ _ _ dm_Model_times_82 (Or.inr ⟨d0, x0, y0, ⟨hd0, rfl⟩, ⟨hx0, rfl⟩, ⟨hy0, rfl⟩, Or.inr ⟨by omega, rfl, w7, by rw [k7_d0, heq], md_sm_mo m7 (by intro x9 hx9; simp only [List.mem_cons, List.not_mem_nil, or_false] at hx9 ⊢; omega)⟩⟩) hW
              · refine lv_iconst (v := -1) hx hb dm_Model_times_28 (by decide) ?_
                exact hret _ _ _ _ _ _ dm_Model_times_29 (Or.inr ⟨d0, x0, y0, ⟨hd0, rfl⟩, ⟨hx0, rfl⟩, ⟨hy0, rfl⟩, Or.inl ⟨by omega, rfl, rfl⟩⟩) hW
          · subst hr
            refine wi_if_eq (tgt := 28) S (nn_T (by omega)) dm_Model_times_18 (by decide) (fun hc => ?_) (fun hc => ?_)
            · refine lv_iconst (v := -1) hx hb dm_Model_times_28 (by decide) ?_
              exact hret _ _ _ _ _ _ dm_Model_times_29 (Or.inl ⟨fun z => hno z.2.2, rfl, rfl⟩) hW
            · exfalso
              omega
      · subst hr
        refine wi_if_eq (tgt := 28) S (nn_T (by omega)) dm_Model_times_11 (by decide) (fun hc => ?_) (fun hc => ?_)
        · refine lv_iconst (v := -1) hx hb dm_Model_times_28 (by decide) ?_
          exact hret _ _ _ _ _ _ dm_Model_times_29 (Or.inl ⟨fun z => hno z.2.1, rfl, rfl⟩) hW
        · exfalso
          omega
  · subst hr
    refine wi_if_eq (tgt := 28) S (nn_T (by omega)) dm_Model_times_4 (by decide) (fun hc => ?_) (fun hc => ?_)
    · refine lv_iconst (v := -1) hx hb dm_Model_times_28 (by decide) ?_
      exact hret _ _ _ _ _ _ dm_Model_times_29 (Or.inl ⟨fun z => hno z.1, rfl, rfl⟩) hW
    · exfalso
      omega
theorem dm_Model_product_0 : decode bm_Model_product 0 = .ok (.iload_n 1, 1) := by decide +kernel
theorem dm_Model_product_1 : decode bm_Model_product 1 = .ok (.invokestatic 69, 3) := by decide +kernel
theorem dm_Model_product_4 : decode bm_Model_product 4 = .ok (.ifCond .eq 10, 3) := by decide +kernel
theorem dm_Model_product_7 : decode bm_Model_product 7 = .ok (.aload_n 0, 1) := by decide +kernel
theorem dm_Model_product_8 : decode bm_Model_product 8 = .ok (.getfield 97, 3) := by decide +kernel
theorem dm_Model_product_11 : decode bm_Model_product 11 = .ok (.ifCond .ne 5, 3) := by decide +kernel
theorem dm_Model_product_14 : decode bm_Model_product 14 = .ok (.iconst (-1), 1) := by decide +kernel
theorem dm_Model_product_15 : decode bm_Model_product 15 = .ok (.ireturn, 1) := by decide +kernel
theorem dm_Model_product_16 : decode bm_Model_product 16 = .ok (.aload_n 0, 1) := by decide +kernel
theorem dm_Model_product_17 : decode bm_Model_product 17 = .ok (.bipush 25, 2) := by decide +kernel
theorem dm_Model_product_19 : decode bm_Model_product 19 = .ok (.aload_n 0, 1) := by decide +kernel
theorem dm_Model_product_20 : decode bm_Model_product 20 = .ok (.getfield 101, 3) := by decide +kernel
theorem dm_Model_product_23 : decode bm_Model_product 23 = .ok (.invokevirtual 38, 3) := by decide +kernel
theorem dm_Model_product_26 : decode bm_Model_product 26 = .ok (.iconst 0, 1) := by decide +kernel
theorem dm_Model_product_27 : decode bm_Model_product 27 = .ok (.istore_n 2, 1) := by decide +kernel
theorem dm_Model_product_28 : decode bm_Model_product 28 = .ok (.iload_n 2, 1) := by decide +kernel
theorem dm_Model_product_29 : decode bm_Model_product 29 = .ok (.aload_n 0, 1) := by decide +kernel
theorem dm_Model_product_30 : decode bm_Model_product 30 = .ok (.getfield 88, 3) := by decide +kernel
theorem dm_Model_product_33 : decode bm_Model_product 33 = .ok (.if_icmp .ge 45, 3) := by decide +kernel
theorem dm_Model_product_36 : decode bm_Model_product 36 = .ok (.iconst 0, 1) := by decide +kernel
theorem dm_Model_product_37 : decode bm_Model_product 37 = .ok (.istore_n 3, 1) := by decide +kernel
theorem dm_Model_product_38 : decode bm_Model_product 38 = .ok (.iload_n 3, 1) := by decide +kernel
theorem dm_Model_product_39 : decode bm_Model_product 39 = .ok (.aload_n 0, 1) := by decide +kernel
theorem dm_Model_product_40 : decode bm_Model_product 40 = .ok (.getfield 13, 3) := by decide +kernel
theorem dm_Model_product_43 : decode bm_Model_product 43 = .ok (.iload_n 2, 1) := by decide +kernel
theorem dm_Model_product_44 : decode bm_Model_product 44 = .ok (.iaload, 1) := by decide +kernel
theorem dm_Model_product_45 : decode bm_Model_product 45 = .ok (.if_icmp .ge 27, 3) := by decide +kernel
theorem dm_Model_product_48 : decode bm_Model_product 48 = .ok (.aload_n 0, 1) := by decide +kernel
theorem dm_Model_product_49 : decode bm_Model_product 49 = .ok (.bipush 25, 2) := by decide +kernel
theorem dm_Model_product_51 : decode bm_Model_product 51 = .ok (.bipush 8, 2) := by decide +kernel
theorem dm_Model_product_53 : decode bm_Model_product 53 = .ok (.iload_n 2, 1) := by decide +kernel
theorem dm_Model_product_54 : decode bm_Model_product 54 = .ok (.iadd, 1) := by decide +kernel
theorem dm_Model_product_55 : decode bm_Model_product 55 = .ok (.invokevirtual 49, 3) := by decide +kernel
theorem dm_Model_product_58 : decode bm_Model_product 58 = .ok (.aload_n 0, 1) := by decide +kernel
theorem dm_Model_product_59 : decode bm_Model_product 59 = .ok (.bipush 31, 2) := by decide +kernel
theorem dm_Model_product_61 : decode bm_Model_product 61 = .ok (.bipush 25, 2) := by decide +kernel
theorem dm_Model_product_63 : decode bm_Model_product 63 = .ok (.invokevirtual 55, 3) := by decide +kernel
theorem dm_Model_product_66 : decode bm_Model_product 66 = .ok (.iinc 3 1, 3) := by decide +kernel
theorem dm_Model_product_69 : decode bm_Model_product 69 = .ok (.goto (-31), 3) := by decide +kernel
theorem dm_Model_product_72 : decode bm_Model_product 72 = .ok (.iinc 2 1, 3) := by decide +kernel
theorem dm_Model_product_75 : decode bm_Model_product 75 = .ok (.goto (-47), 3) := by decide +kernel
theorem dm_Model_product_78 : decode bm_Model_product 78 = .ok (.aload_n 0, 1) := by decide +kernel
theorem dm_Model_product_79 : decode bm_Model_product 79 = .ok (.bipush 25, 2) := by decide +kernel
theorem dm_Model_product_81 : decode bm_Model_product 81 = .ok (.iload_n 1, 1) := by decide +kernel
theorem dm_Model_product_82 : decode bm_Model_product 82 = .ok (.invokevirtual 55, 3) := by decide +kernel
theorem dm_Model_product_85 : decode bm_Model_product 85 = .ok (.aload_n 0, 1) := by decide +kernel
theorem dm_Model_product_86 : decode bm_Model_product 86 = .ok (.iload_n 1, 1) := by decide +kernel
theorem dm_Model_product_87 : decode bm_Model_product 87 = .ok (.invokevirtual 75, 3) := by decide +kernel
theorem dm_Model_product_90 : decode bm_Model_product 90 = .ok (.ireturn, 1) := by decide +kernel
theorem ml_drop {σ : st_T} {q : Nat} (h : q < σ 205 1) : (ml_v σ).drop q = mv_t σ q :: (ml_v σ).drop (q + 1) := by
  have h1 := ml_v_at σ h
  have h2 := (List.getElem?_eq_some_iff.mp h1)
  rw [List.drop_eq_getElem_cons h2.1, h2.2]
set_option maxHeartbeats 4000000 in
set_option maxRecDepth 100000 in
theorem mm_Model_product (l : Launch) (D : va_G) (k : ClassId × ClassId × ClassId) (g : Nat → Nat) (σ : st_T) {P : Nat} (hw : md_wf P σ) (hP : ag_pr P) (hP31 : P < 2147483648) (hrg : ∀ n, n < 8 → sp_sz (σ (300 + n)) 31 ≤ 16) (hfc : σ 205 2 < 2) (hld : σ 205 3 < P) (hcc : σ 205 1 ≤ 15) (hsz : 1 + wh_s (ml_v σ) ≤ 16) (hpos : ∀ t, t < σ 205 1 → 0 < sp_sz (mv_t σ t).2.2 31) (hoft : ∀ t, t < σ 205 1 → (mv_t σ t).1 ≤ 15) {a : Int32} : mt_I l D k g ym_Model_product wm_Model_product rm_Model_product [.ref (g 149), .int a] σ (fun r σ1 => (¬ (rk_r a) ∧ r = -1 ∧ σ1 = σ) ∨ ∃ a0, (a0 < 8 ∧ a = nI a0) ∧ ((σ 205 2 = 0 ∧ r = -1 ∧ σ1 = σ) ∨ (σ 205 2 ≠ 0 ∧ r = nI (sp_sz (σ1 (300 + a0)) 31) ∧ md_wf P σ1 ∧ σ1 (300 + a0) = wh_l P (ml_v σ) (va_up (fun _ => 0) 0 (σ 205 3)) ∧ md_sm [(300 + a0), 300 + 25, 300 + 31] σ σ1))) := by
  refine ct_I_in (cc := bm_Model_product) (maxL := 4) (by decide) rfl (Nat.le_of_ble_eq_true rfl) ?_
  intro p e s m args below meth c A ls Q S hl hW hret
  have S : pw_S p m c bm_Model_product 4 s args wa_g rc_Model D cl_s (ty_s k) := S
  have hx := S.1.1
  have hb := S.1.2.1
  have hl : lv_has ls 4 [(0, .ref (g (149))), (1, .int (a))] := hl
  have hP2 := hP.1
  refine lv_iload_n hx hb dm_Model_product_0 rfl (lv_at hl 1 rfl) ?_
  refine pw_callSI (rest := []) S hW (mm_Model_isRegister l D k g σ (x := a)) (cv_Model_69 S.1.2.2.2.2 ⟨by decide, by decide⟩) rfl hl.1 rfl (lv_room (Nat.le_of_ble_eq_true rfl)) ⟨Nat.zero_le _, Nat.zero_le _⟩ dm_Model_product_1 (fun r σ1 H locs hp hW => ?_)
  obtain ⟨hp, h9⟩ := hp
  rw [h9] at hW
  rcases hp with ⟨hr, a0, ha0, rfl⟩ | ⟨hr, hno⟩
  · subst hr
    have hl : lv_has ls 4 [(0, .ref (g (149))), (1, .int (nI (a0)))] := hl
    refine wi_if_eq (tgt := 14) S (nn_T (by omega)) dm_Model_product_4 (by decide) (fun hc => ?_) (fun hc => ?_)
    · exfalso
      omega
    · refine lv_aload_n hx hb dm_Model_product_7 rfl (lv_at hl 0 rfl) ?_
      refine md_factored S hW (wa_in 566 (by decide +kernel) rfl) dm_Model_product_8 ?_
      refine wi_if_ne (tgt := 16) S (nn_T (by omega)) dm_Model_product_11 (by decide) (fun hc => ?_) (fun hc => ?_)
      · refine lv_aload_n hx hb dm_Model_product_16 rfl (lv_at hl 0 rfl) ?_
        refine lv_bipush (v := nI (25)) hx hb dm_Model_product_17 (by decide) ?_
        refine lv_aload_n hx hb dm_Model_product_19 rfl (lv_at hl 0 rfl) ?_
        refine md_lead S hW (wa_in 567 (by decide +kernel) rfl) dm_Model_product_20 ?_
        refine pw_callV (rest := []) S hW (mm_Model_number l D k g σ hw (s0 := 25) (v := σ 205 3) (by omega) (by omega)) (cv_Model_38 S.1.2.2.2.2 ⟨by decide, by decide⟩) (by decide) en_Model rfl rfl hl.1 rfl (lv_room (Nat.le_of_ble_eq_true rfl)) ⟨Nat.zero_le _, Nat.zero_le _⟩ dm_Model_product_23 (fun σ2 H locs hp2 hW => ?_)
        obtain ⟨w2, e2, s2⟩ := hp2
        have k2_25 : σ2 (300 + (25)) = va_up (fun _ => 0) 0 (σ 205 3) := by rw [e2]
        refine lv_iconst (v := nI (0)) hx hb dm_Model_product_26 (by decide) ?_
        refine lv_istore_n hx hb dm_Model_product_27 rfl hl (by decide) rfl (fun ls hl => ?_)
        have hl : lv_has ls 4 [(2, .int (nI (0))), (0, .ref (g (149))), (1, .int (nI (a0)))] := hl
        have hl : lv_has ls 4 [(2, .int (nI (0))), (0, .ref (g (149))), (1, .int (nI (a0)))] := lv_sub hl [0, 1, 2] rfl
        have loop : ∀ (n i : Nat) (τ : st_T), i + n = σ 205 1 → md_wf P τ → md_sm [300 + 25, 300 + 31] σ τ → sp_sz (τ (300 + 25)) 31 + wh_s ((ml_v σ).drop i) ≤ 16 → wh_l P ((ml_v σ).drop i) (τ (300 + 25)) = wh_l P (ml_v σ) (va_up (fun _ => 0) 0 (σ 205 3)) → ∀ (ls : Array Slot) (H : Heap) (locs : List Loc), lv_has ls 4 [(2, .int (nI (i))), (0, .ref (g (149))), (1, .int (nI (a0)))] → pw_H D cl_s A s.heap g 153 (en_s k g (τ)) H locs → W p l e rm_Model_product s m args below meth c H locs 0 0 Q (F0 m 28 ls []) := by
          intro n
          induction n with
          | zero =>
            intro i τ hi wτ sτ zτ fτ ls H locs hl hW
            have q205 : τ 205 = σ 205 := sτ 205 (by decide)
            have q206 : τ 206 = σ 206 := sτ 206 (by decide)
            refine lv_iload_n hx hb dm_Model_product_28 rfl (lv_at hl 0 rfl) ?_
            refine lv_aload_n hx hb dm_Model_product_29 rfl (lv_at hl 1 rfl) ?_
            refine md_parts S hW (wa_in 563 (by decide +kernel) rfl) dm_Model_product_30 ?_
            rw [q205]
            refine wi_icmp_ge (tgt := 78) S (nn_T (by omega)) (nn_T (by omega)) dm_Model_product_33 (by decide) (fun hc => ?_) (fun hc => ?_)
            · rw [List.drop_eq_nil_of_le (by rw [ml_v_len]; omega)] at fτ
              refine lv_aload_n hx hb dm_Model_product_78 rfl (lv_at hl 1 rfl) ?_
              refine lv_bipush (v := nI (25)) hx hb dm_Model_product_79 (by decide) ?_
              refine lv_iload_n hx hb dm_Model_product_81 rfl (lv_at hl 2 rfl) ?_
              refine pw_callV (rest := []) S hW (mm_Model_copy l D k g τ wτ (a := 25) (b := a0) (by omega) (by omega)) (cv_Model_55 S.1.2.2.2.2 ⟨by decide, by decide⟩) (by decide) en_Model rfl rfl hl.1 rfl (lv_room (Nat.le_of_ble_eq_true rfl)) ⟨Nat.zero_le _, Nat.zero_le _⟩ dm_Model_product_82 (fun σ3 H locs hp3 hW => ?_)
              obtain ⟨w3, e3, s3⟩ := hp3
              have k3_25 : σ3 (300 + (25)) = τ (300 + 25) := by rw [s3 _ (by simp only [List.mem_cons, List.not_mem_nil, or_false]; omega)]
              have k3_a0 : σ3 (300 + (a0)) = τ (300 + 25) := by rw [e3]
              refine lv_aload_n hx hb dm_Model_product_85 rfl (lv_at hl 1 rfl) ?_
              refine lv_iload_n hx hb dm_Model_product_86 rfl (lv_at hl 2 rfl) ?_
              refine pw_callVI (rest := []) S hW (mm_Model_size2 l D k g σ3 w3 hP31 (s0 := a0) (by omega)) (cv_Model_75 S.1.2.2.2.2 ⟨by decide, by decide⟩) (by decide) en_Model rfl rfl hl.1 rfl (lv_room (Nat.le_of_ble_eq_true rfl)) ⟨Nat.zero_le _, Nat.zero_le _⟩ dm_Model_product_87 (fun r σ1 H locs hp hW => ?_)
              obtain ⟨hr, hp⟩ := hp
              rw [hp] at hW
              subst hr
              exact hret _ _ _ _ _ _ dm_Model_product_90 (Or.inr ⟨a0, ⟨ha0, rfl⟩, Or.inr ⟨by omega, rfl, w3, by rw [k3_a0]; exact fτ, md_sm_tr sτ s3 (by intro x9 hx9; simp only [List.mem_cons, List.not_mem_nil, or_false] at hx9 ⊢; omega) (by intro x9 hx9; simp only [List.mem_cons, List.not_mem_nil, or_false] at hx9 ⊢; omega)⟩⟩) hW
            · exfalso
              omega
          | succ n ih =>
            intro i τ hi wτ sτ zτ fτ ls H locs hl hW
            have q205 : τ 205 = σ 205 := sτ 205 (by decide)
            have q206 : τ 206 = σ 206 := sτ 206 (by decide)
            refine lv_iload_n hx hb dm_Model_product_28 rfl (lv_at hl 0 rfl) ?_
            refine lv_aload_n hx hb dm_Model_product_29 rfl (lv_at hl 1 rfl) ?_
            refine md_parts S hW (wa_in 563 (by decide +kernel) rfl) dm_Model_product_30 ?_
            rw [q205]
            refine wi_icmp_ge (tgt := 78) S (nn_T (by omega)) (nn_T (by omega)) dm_Model_product_33 (by decide) (fun hc => ?_) (fun hc => ?_)
            · exfalso
              omega
            · rw [ml_drop (show i < σ 205 1 by omega)] at zτ fτ
              have zτ : sp_sz (τ (300 + 25)) 31 + (σ 206 i * (sp_sz (σ (300 + (8 + i))) 31 - 1) + wh_s ((ml_v σ).drop (i + 1))) ≤ 16 := zτ
              have fτ : wh_l P ((ml_v σ).drop (i + 1)) (wh_m P (σ (300 + (8 + i))) (σ 206 i) (τ (300 + 25))) = wh_l P (ml_v σ) (va_up (fun _ => 0) 0 (σ 205 3)) := fτ
              have hp0 : 0 < sp_sz (σ (300 + (8 + i))) 31 := hpos i (by omega)
              have ho5 : σ 206 i ≤ 15 := hoft i (by omega)
              refine lv_iconst (v := nI (0)) hx hb dm_Model_product_36 (by decide) ?_
              refine lv_istore_n hx hb dm_Model_product_37 rfl hl (by decide) rfl (fun ls hl => ?_)
              have hl : lv_has ls 4 [(3, .int (nI (0))), (2, .int (nI (i))), (0, .ref (g (149))), (1, .int (nI (a0)))] := hl
              have hl : lv_has ls 4 [(3, .int (nI (0))), (2, .int (nI (i))), (0, .ref (g (149))), (1, .int (nI (a0)))] := lv_sub hl [0, 1, 2, 3] rfl
              have inner : ∀ (q9 e0 : Nat) (υ : st_T), e0 + q9 = σ 206 i → md_wf P υ → md_sm [300 + 25, 300 + 31] σ υ → sp_sz (υ (300 + 25)) 31 + (q9 * (sp_sz (σ (300 + (8 + i))) 31 - 1) + wh_s ((ml_v σ).drop (i + 1))) ≤ 16 → wh_l P ((ml_v σ).drop (i + 1)) (wh_m P (σ (300 + (8 + i))) q9 (υ (300 + 25))) = wh_l P (ml_v σ) (va_up (fun _ => 0) 0 (σ 205 3)) → ∀ (ls : Array Slot) (H : Heap) (locs : List Loc), lv_has ls 4 [(3, .int (nI (e0))), (2, .int (nI (i))), (0, .ref (g (149))), (1, .int (nI (a0)))] → pw_H D cl_s A s.heap g 153 (en_s k g (υ)) H locs → W p l e rm_Model_product s m args below meth c H locs 0 0 Q (F0 m 38 ls []) := by
                intro q9
                induction q9 with
                | zero =>
                  intro e0 υ he wυ sυ zυ fυ ls H locs hl hW
                  have q205 : υ 205 = σ 205 := sυ 205 (by decide)
                  have q206 : υ 206 = σ 206 := sυ 206 (by decide)
                  have k8 : υ (300 + (8 + i)) = σ (300 + (8 + i)) := sυ _ (by simp only [List.mem_cons, List.not_mem_nil, or_false]; omega)
                  refine lv_iload_n hx hb dm_Model_product_38 rfl (lv_at hl 0 rfl) ?_
                  refine lv_aload_n hx hb dm_Model_product_39 rfl (lv_at hl 2 rfl) ?_
                  refine md_often S hW (wa_in 564 (by decide +kernel) rfl) dm_Model_product_40 ?_
                  refine lv_iload_n hx hb dm_Model_product_43 rfl (lv_at hl 1 rfl) ?_
                  refine mo_ald S hW (by omega) dm_Model_product_44 ?_
                  rw [q206]
                  refine wi_icmp_ge (tgt := 72) S (nn_T (by omega)) (nn_T (by omega)) dm_Model_product_45 (by decide) (fun hc => ?_) (fun hc => ?_)
                  · refine lv_iinc (k := 1) (v := nI (i + 1)) hx hb dm_Model_product_72 hl rfl (by rw [show Int32.ofInt 1 = nI 1 from rfl, nI_add]) (by decide) rfl (fun ls hl => ?_)
                    have hl : lv_has ls 4 [(2, .int (nI (i + 1))), (3, .int (nI (e0))), (0, .ref (g (149))), (1, .int (nI (a0)))] := hl
                    refine lv_goto (tgt := 28) hx hb dm_Model_product_75 (by decide) ?_
                    have hl : lv_has ls 4 [(2, .int (nI (i + 1))), (0, .ref (g (149))), (1, .int (nI (a0)))] := lv_sub hl [0, 2, 3] rfl
                    exact ih (i + 1) υ (by omega) wυ sυ (by omega) fυ ls _ _ hl hW
                  · exfalso
                    omega
                | succ q9 ihq =>
                  intro e0 υ he wυ sυ zυ fυ ls H locs hl hW
                  have q205 : υ 205 = σ 205 := sυ 205 (by decide)
                  have q206 : υ 206 = σ 206 := sυ 206 (by decide)
                  have k8 : υ (300 + (8 + i)) = σ (300 + (8 + i)) := sυ _ (by simp only [List.mem_cons, List.not_mem_nil, or_false]; omega)
                  refine lv_iload_n hx hb dm_Model_product_38 rfl (lv_at hl 0 rfl) ?_
                  refine lv_aload_n hx hb dm_Model_product_39 rfl (lv_at hl 2 rfl) ?_
                  refine md_often S hW (wa_in 564 (by decide +kernel) rfl) dm_Model_product_40 ?_
                  refine lv_iload_n hx hb dm_Model_product_43 rfl (lv_at hl 1 rfl) ?_
                  refine mo_ald S hW (by omega) dm_Model_product_44 ?_
                  rw [q206]
                  refine wi_icmp_ge (tgt := 72) S (nn_T (by omega)) (nn_T (by omega)) dm_Model_product_45 (by decide) (fun hc => ?_) (fun hc => ?_)
                  · exfalso
                    omega
                  · rw [Nat.succ_mul] at zυ
                    refine lv_aload_n hx hb dm_Model_product_48 rfl (lv_at hl 2 rfl) ?_
                    refine lv_bipush (v := nI (25)) hx hb dm_Model_product_49 (by decide) ?_
                    refine lv_bipush (v := nI (8)) hx hb dm_Model_product_51 (by decide) ?_
                    refine lv_iload_n hx hb dm_Model_product_53 rfl (lv_at hl 1 rfl) ?_
                    refine wn_iadd S dm_Model_product_54 ?_
                    refine pw_callV (rest := []) S hW (mm_Model_product2 l D k g υ wυ (by omega) hP31 (a := 25) (b := (8) + (i)) (by omega) (by omega) (by omega) (by omega) (by rw [k8]; omega)) (cv_Model_49 S.1.2.2.2.2 ⟨by decide, by decide⟩) (by decide) en_Model rfl rfl hl.1 rfl (lv_room (Nat.le_of_ble_eq_true rfl)) ⟨Nat.zero_le _, Nat.zero_le _⟩ dm_Model_product_55 (fun σ11 H locs hp11 hW => ?_)
                    obtain ⟨w11, e11, s11⟩ := hp11
                    have k11_25 : σ11 (300 + (25)) = υ (300 + 25) := by rw [s11 _ (by simp only [List.mem_cons, List.not_mem_nil, or_false]; omega)]
                    have k11_8i : σ11 (300 + ((8) + (i))) = σ (300 + (8 + i)) := by rw [s11 _ (by simp only [List.mem_cons, List.not_mem_nil, or_false]; omega)]; exact k8
                    have k11_31 : σ11 (300 + (31)) = sp_mul P (υ (300 + 25)) (σ (300 + (8 + i))) := by rw [e11, k8]
                    have hms := sp_mul_sz (wυ.2 25 (by omega)) (hw.2 (8 + i) (by omega))
                    refine lv_aload_n hx hb dm_Model_product_58 rfl (lv_at hl 2 rfl) ?_
                    refine lv_bipush (v := nI (31)) hx hb dm_Model_product_59 (by decide) ?_
                    refine lv_bipush (v := nI (25)) hx hb dm_Model_product_61 (by decide) ?_
                    refine pw_callV (rest := []) S hW (mm_Model_copy l D k g σ11 w11 (a := 31) (b := 25) (by omega) (by omega)) (cv_Model_55 S.1.2.2.2.2 ⟨by decide, by decide⟩) (by decide) en_Model rfl rfl hl.1 rfl (lv_room (Nat.le_of_ble_eq_true rfl)) ⟨Nat.zero_le _, Nat.zero_le _⟩ dm_Model_product_63 (fun σ12 H locs hp12 hW => ?_)
                    obtain ⟨w12, e12, s12⟩ := hp12
                    have k12_31 : σ12 (300 + (31)) = sp_mul P (υ (300 + 25)) (σ (300 + (8 + i))) := by rw [s12 _ (by simp only [List.mem_cons, List.not_mem_nil, or_false]; omega)]; exact k11_31
                    have k12_25 : σ12 (300 + (25)) = sp_mul P (υ (300 + 25)) (σ (300 + (8 + i))) := by rw [e12, k11_31]
                    have m12 : md_sm [300 + (31), 300 + (25)] υ σ12 := md_sm_tr s11 s12 (by intro x9 hx9; simp only [List.mem_cons, List.not_mem_nil, or_false] at hx9 ⊢; omega) (by intro x9 hx9; simp only [List.mem_cons, List.not_mem_nil, or_false] at hx9 ⊢; omega)
                    refine lv_iinc (k := 0) (v := nI (e0 + 1)) hx hb dm_Model_product_66 hl rfl (by rw [show Int32.ofInt 1 = nI 1 from rfl, nI_add]) (by decide) rfl (fun ls hl => ?_)
                    have hl : lv_has ls 4 [(3, .int (nI (e0 + 1))), (2, .int (nI (i))), (0, .ref (g (149))), (1, .int (nI (a0)))] := hl
                    refine lv_goto (tgt := 38) hx hb dm_Model_product_69 (by decide) ?_
                    have hl : lv_has ls 4 [(3, .int (nI (e0 + 1))), (2, .int (nI (i))), (0, .ref (g (149))), (1, .int (nI (a0)))] := lv_sub hl [0, 1, 2, 3] rfl
                    exact ihq (e0 + 1) σ12 (by omega) w12 (md_sm_tr sυ m12 (fun _ h => h) (by intro x9 hx9; simp only [List.mem_cons, List.not_mem_nil, or_false] at hx9 ⊢; omega)) (by rw [k12_25]; omega) (by rw [k12_25]; exact fυ) ls _ _ hl hW
              exact inner (σ 206 i) 0 τ (by omega) wτ sτ zτ fτ ls _ _ hl hW
        have hone : sp_sz (va_up (fun _ => 0) 0 (σ 205 3)) 31 ≤ 1 := sp_sz_lt (fun i hi => by rw [va_up_ne _ _ (by omega)])
        refine loop (σ 205 1) 0 σ2 (by omega) w2 (md_sm_mo s2 (by intro x9 hx9; simp only [List.mem_cons, List.not_mem_nil, or_false] at hx9 ⊢; omega)) ?_ (by rw [k2_25]; rfl) ls _ _ hl hW
        rw [k2_25]
        show _ + wh_s (ml_v σ) ≤ 16
        omega
      · refine lv_iconst (v := -1) hx hb dm_Model_product_14 (by decide) ?_
        exact hret _ _ _ _ _ _ dm_Model_product_15 (Or.inr ⟨a0, ⟨ha0, rfl⟩, Or.inl ⟨by omega, rfl, rfl⟩⟩) hW
  · subst hr
    refine wi_if_eq (tgt := 14) S (nn_T (by omega)) dm_Model_product_4 (by decide) (fun hc => ?_) (fun hc => ?_)
    · refine lv_iconst (v := -1) hx hb dm_Model_product_14 (by decide) ?_
      exact hret _ _ _ _ _ _ dm_Model_product_15 (Or.inl ⟨fun z => hno z, rfl, rfl⟩) hW
    · exfalso
      omega
