/-! The reference: inverse, trace -/
theorem iv_end {P : Nat} (hP : ag_pr P) {f l lf : Nat → Nat} {a : pz_T} (ol : sp_ok P l) (olf : sp_ok P lf) (h1 : sp_sz l 31 = 1) (slf : sp_sz lf 31 < sp_sz f 31) (e2 : @ag_q pz_T pz_R (pz_I P (pe_f f)) (pe_f l) (pz_ml (pe_f lf) a)) :
    sp_ok P (sp_sc P lf (sp_inv P (l 0))) ∧ sp_sz (sp_sc P lf (sp_inv P (l 0))) 31 < sp_sz f 31 ∧ @ag_q pz_T pz_R (pz_I P (pe_f f)) (pz_ml (pe_f (sp_sc P lf (sp_inv P (l 0)))) a) (pz_ct 1) := by
  have hp0 : 0 < P := by have := hP.1; omega
  have hI := pz_I_ok P (pe_f f)
  refine ⟨sp_sc_ok hp0 olf _, ?_, ?_⟩
  · have h2 : sp_sz (sp_sc P lf (sp_inv P (l 0))) 31 ≤ sp_sz lf 31 := sp_sz_lt (fun i hi => by
      show lf i * _ % P = 0
      rw [sp_hi olf hi, Nat.zero_mul, Nat.zero_mod])
    omega
  · have hl0 : l 0 ≠ 0 ∧ l 0 < P := by
      have h3 := sp_lead_ne ol (by omega)
      rw [h1] at h3
      exact h3
    have e3 : @ag_q pz_T pz_R (pz_I P (pe_f f)) (pz_ml (pe_f (sp_sc P lf (sp_inv P (l 0)))) a) (pz_ml (pz_ct (sp_inv P (l 0) : Int)) (pz_ml (pe_f lf) a)) := by
      have e4 := @ag_ml pz_T pz_R (pz_I P (pe_f f)) hI _ _ _ _ (@ag_If_q pz_T pz_R (pz_E P) (pe_f f) _ _ (sp_sc_pe hp0 olf (sp_inv P (l 0)))) (@ag_rf pz_T pz_R (pz_I P (pe_f f)) hI a)
      have e5 : pz_ml (pz_ml (pz_ct (sp_inv P (l 0) : Int)) (pe_f lf)) a = pz_ml (pz_ct (sp_inv P (l 0) : Int)) (pz_ml (pe_f lf) a) := pz_R.mul_assoc _ _ _
      rw [← e5]
      exact e4
    refine @ag_tr pz_T pz_R (pz_I P (pe_f f)) hI _ _ _ e3 (@ag_tr pz_T pz_R (pz_I P (pe_f f)) hI _ _ _ (@ag_ml pz_T pz_R (pz_I P (pe_f f)) hI _ _ _ _ (@ag_rf pz_T pz_R (pz_I P (pe_f f)) hI _) (@ag_sy pz_T pz_R (pz_I P (pe_f f)) hI _ _ e2)) ?_)
    refine @ag_If_q pz_T pz_R (pz_E P) (pe_f f) _ _ (fun i => ?_)
    show (P : Int) ∣ pz_mul (pz_mo 0 (sp_inv P (l 0) : Int)).1 (pe_f l).1 i + -(if i = 0 then 1 else 0)
    rw [pz_mul_ct, pe_at ol]
    by_cases hi : i = 0
    · rw [if_pos hi, hi]
      have h3 := pz_modE P (l 0 * sp_inv P (l 0))
      have h4 := pz_modE P 1
      rw [sp_inv_ok hP hl0.1 hl0.2] at h3
      have h5 := Int.dvd_sub h4 h3
      rw [Int.natCast_mul, Int.mul_comm (l 0 : Int)] at h5
      rwa [show ((1 % P : Nat) : Int) - ((1 : Nat) : Int) - (((1 % P : Nat) : Int) - (sp_inv P (l 0) : Int) * (l 0 : Int)) = (sp_inv P (l 0) : Int) * (l 0 : Int) + -1 by omega] at h5
    · rw [if_neg hi, sp_hi ol (show sp_sz l 31 ≤ i by omega)]
      rw [show (sp_inv P (l 0) : Int) * ((0 : Nat) : Int) + -0 = 0 by simp]
      exact Int.dvd_zero _
theorem ag_nm_q {β : Type} [Lean.Grind.CommRing β] {I : β → Prop} (hI : ag_I I) {a b : β} (h : ag_q I a b) (P : Nat) : ∀ k, ag_q I (ag_nm a P k) (ag_nm b P k) := by
  intro k
  induction k with
  | zero => exact ag_rf hI _
  | succ k ih => exact ag_ml hI ih (ag_pw hI h _)
theorem ag_nm_c {β : Type} [Lean.Grind.CommRing β] {I : β → Prop} (hI : ag_I I) {a d : β} {P : Nat} (h : ag_q I d (a ^ P)) (k : Nat) : ag_q I (ag_nm d P k * a) (ag_nm a P (k + 1)) := by
  rw [ag_nm_s, show a * ag_nm (a ^ P) P k = ag_nm (a ^ P) P k * a by grind]
  exact ag_ml hI (ag_nm_q hI h P k) (ag_rf hI a)
theorem iv_no {P : Nat} (hP : ag_pr P) {M A : Nat → Nat} (hM : sp_ok P M) (hA : sp_ok P A) (hz : sp_sz A 31 < sp_sz M 31) (h0 : 0 < sp_sz A 31) : ¬ pz_I P (pe_f M) (pe_f A) := fun h => by
  have h1 := sp_is_0 hP hM ⟨hA, hz, @ag_rf pz_T pz_R _ (pz_I_ok P _) _⟩ h
  have h2 : sp_sz A 31 ≤ 0 := by rw [h1]; exact sp_sz_lt (fun _ _ => rfl)
  omega
theorem ct_sz1 {v : Nat} (hv : 0 < v) : sp_sz (va_up (fun _ => 0) 0 v) 31 = 1 := sp_sz_uni (by omega) (fun i h1 _ => by rw [va_up_ne _ _ (by omega)]) (Or.inr (by rw [va_up_self]; omega))
theorem dm_Model_inverse_0 : decode bm_Model_inverse 0 = .ok (.iload_n 1, 1) := by decide +kernel
theorem dm_Model_inverse_1 : decode bm_Model_inverse 1 = .ok (.invokestatic 69, 3) := by decide +kernel
theorem dm_Model_inverse_4 : decode bm_Model_inverse 4 = .ok (.ifCond .eq 17, 3) := by decide +kernel
theorem dm_Model_inverse_7 : decode bm_Model_inverse 7 = .ok (.iload_n 2, 1) := by decide +kernel
theorem dm_Model_inverse_8 : decode bm_Model_inverse 8 = .ok (.invokestatic 69, 3) := by decide +kernel
theorem dm_Model_inverse_11 : decode bm_Model_inverse 11 = .ok (.ifCond .eq 10, 3) := by decide +kernel
theorem dm_Model_inverse_14 : decode bm_Model_inverse 14 = .ok (.aload_n 0, 1) := by decide +kernel
theorem dm_Model_inverse_15 : decode bm_Model_inverse 15 = .ok (.getfield 113, 3) := by decide +kernel
theorem dm_Model_inverse_18 : decode bm_Model_inverse 18 = .ok (.ifCond .ne 5, 3) := by decide +kernel
theorem dm_Model_inverse_21 : decode bm_Model_inverse 21 = .ok (.iconst (-1), 1) := by decide +kernel
theorem dm_Model_inverse_22 : decode bm_Model_inverse 22 = .ok (.ireturn, 1) := by decide +kernel
theorem dm_Model_inverse_23 : decode bm_Model_inverse 23 = .ok (.aload_n 0, 1) := by decide +kernel
theorem dm_Model_inverse_24 : decode bm_Model_inverse 24 = .ok (.iload_n 2, 1) := by decide +kernel
theorem dm_Model_inverse_25 : decode bm_Model_inverse 25 = .ok (.bipush 25, 2) := by decide +kernel
theorem dm_Model_inverse_27 : decode bm_Model_inverse 27 = .ok (.invokevirtual 55, 3) := by decide +kernel
theorem dm_Model_inverse_30 : decode bm_Model_inverse 30 = .ok (.aload_n 0, 1) := by decide +kernel
theorem dm_Model_inverse_31 : decode bm_Model_inverse 31 = .ok (.bipush 25, 2) := by decide +kernel
theorem dm_Model_inverse_33 : decode bm_Model_inverse 33 = .ok (.bipush 24, 2) := by decide +kernel
theorem dm_Model_inverse_35 : decode bm_Model_inverse 35 = .ok (.invokevirtual 52, 3) := by decide +kernel
theorem dm_Model_inverse_38 : decode bm_Model_inverse 38 = .ok (.aload_n 0, 1) := by decide +kernel
theorem dm_Model_inverse_39 : decode bm_Model_inverse 39 = .ok (.bipush 25, 2) := by decide +kernel
theorem dm_Model_inverse_41 : decode bm_Model_inverse 41 = .ok (.invokevirtual 42, 3) := by decide +kernel
theorem dm_Model_inverse_44 : decode bm_Model_inverse 44 = .ok (.ifCond .ge 5, 3) := by decide +kernel
theorem dm_Model_inverse_47 : decode bm_Model_inverse 47 = .ok (.iconst (-1), 1) := by decide +kernel
theorem dm_Model_inverse_48 : decode bm_Model_inverse 48 = .ok (.ireturn, 1) := by decide +kernel
theorem dm_Model_inverse_49 : decode bm_Model_inverse 49 = .ok (.aload_n 0, 1) := by decide +kernel
theorem dm_Model_inverse_50 : decode bm_Model_inverse 50 = .ok (.bipush 25, 2) := by decide +kernel
theorem dm_Model_inverse_52 : decode bm_Model_inverse 52 = .ok (.aload_n 0, 1) := by decide +kernel
theorem dm_Model_inverse_53 : decode bm_Model_inverse 53 = .ok (.getfield 23, 3) := by decide +kernel
theorem dm_Model_inverse_56 : decode bm_Model_inverse 56 = .ok (.i2l, 1) := by decide +kernel
theorem dm_Model_inverse_57 : decode bm_Model_inverse 57 = .ok (.bipush 24, 2) := by decide +kernel
theorem dm_Model_inverse_59 : decode bm_Model_inverse 59 = .ok (.invokevirtual 65, 3) := by decide +kernel
theorem dm_Model_inverse_62 : decode bm_Model_inverse 62 = .ok (.aload_n 0, 1) := by decide +kernel
theorem dm_Model_inverse_63 : decode bm_Model_inverse 63 = .ok (.bipush 28, 2) := by decide +kernel
theorem dm_Model_inverse_65 : decode bm_Model_inverse 65 = .ok (.bipush 29, 2) := by decide +kernel
theorem dm_Model_inverse_67 : decode bm_Model_inverse 67 = .ok (.invokevirtual 55, 3) := by decide +kernel
theorem dm_Model_inverse_70 : decode bm_Model_inverse 70 = .ok (.aload_n 0, 1) := by decide +kernel
theorem dm_Model_inverse_71 : decode bm_Model_inverse 71 = .ok (.bipush 29, 2) := by decide +kernel
theorem dm_Model_inverse_73 : decode bm_Model_inverse 73 = .ok (.aload_n 0, 1) := by decide +kernel
theorem dm_Model_inverse_74 : decode bm_Model_inverse 74 = .ok (.getfield 113, 3) := by decide +kernel
theorem dm_Model_inverse_77 : decode bm_Model_inverse 77 = .ok (.iconst 1, 1) := by decide +kernel
theorem dm_Model_inverse_78 : decode bm_Model_inverse 78 = .ok (.isub, 1) := by decide +kernel
theorem dm_Model_inverse_79 : decode bm_Model_inverse 79 = .ok (.bipush 24, 2) := by decide +kernel
theorem dm_Model_inverse_81 : decode bm_Model_inverse 81 = .ok (.invokevirtual 110, 3) := by decide +kernel
theorem dm_Model_inverse_84 : decode bm_Model_inverse 84 = .ok (.aload_n 0, 1) := by decide +kernel
theorem dm_Model_inverse_85 : decode bm_Model_inverse 85 = .ok (.bipush 27, 2) := by decide +kernel
theorem dm_Model_inverse_87 : decode bm_Model_inverse 87 = .ok (.bipush 26, 2) := by decide +kernel
theorem dm_Model_inverse_89 : decode bm_Model_inverse 89 = .ok (.invokevirtual 55, 3) := by decide +kernel
theorem dm_Model_inverse_92 : decode bm_Model_inverse 92 = .ok (.aload_n 0, 1) := by decide +kernel
theorem dm_Model_inverse_93 : decode bm_Model_inverse 93 = .ok (.bipush 26, 2) := by decide +kernel
theorem dm_Model_inverse_95 : decode bm_Model_inverse 95 = .ok (.bipush 25, 2) := by decide +kernel
theorem dm_Model_inverse_97 : decode bm_Model_inverse 97 = .ok (.bipush 24, 2) := by decide +kernel
theorem dm_Model_inverse_99 : decode bm_Model_inverse 99 = .ok (.invokevirtual 62, 3) := by decide +kernel
theorem dm_Model_inverse_102 : decode bm_Model_inverse 102 = .ok (.aload_n 0, 1) := by decide +kernel
theorem dm_Model_inverse_103 : decode bm_Model_inverse 103 = .ok (.aload_n 0, 1) := by decide +kernel
theorem dm_Model_inverse_104 : decode bm_Model_inverse 104 = .ok (.bipush 26, 2) := by decide +kernel
theorem dm_Model_inverse_106 : decode bm_Model_inverse 106 = .ok (.iconst 0, 1) := by decide +kernel
theorem dm_Model_inverse_107 : decode bm_Model_inverse 107 = .ok (.invokevirtual 31, 3) := by decide +kernel
theorem dm_Model_inverse_110 : decode bm_Model_inverse 110 = .ok (.aload_n 0, 1) := by decide +kernel
theorem dm_Model_inverse_111 : decode bm_Model_inverse 111 = .ok (.getfield 23, 3) := by decide +kernel
theorem dm_Model_inverse_114 : decode bm_Model_inverse 114 = .ok (.iconst 2, 1) := by decide +kernel
theorem dm_Model_inverse_115 : decode bm_Model_inverse 115 = .ok (.isub, 1) := by decide +kernel
theorem dm_Model_inverse_116 : decode bm_Model_inverse 116 = .ok (.invokevirtual 46, 3) := by decide +kernel
theorem dm_Model_inverse_119 : decode bm_Model_inverse 119 = .ok (.istore_n 3, 1) := by decide +kernel
theorem dm_Model_inverse_120 : decode bm_Model_inverse 120 = .ok (.iconst 0, 1) := by decide +kernel
theorem dm_Model_inverse_121 : decode bm_Model_inverse 121 = .ok (.istore 4, 2) := by decide +kernel
theorem dm_Model_inverse_123 : decode bm_Model_inverse 123 = .ok (.iload 4, 2) := by decide +kernel
theorem dm_Model_inverse_125 : decode bm_Model_inverse 125 = .ok (.bipush 32, 2) := by decide +kernel
theorem dm_Model_inverse_127 : decode bm_Model_inverse 127 = .ok (.if_icmp .ge 29, 3) := by decide +kernel
theorem dm_Model_inverse_130 : decode bm_Model_inverse 130 = .ok (.aload_n 0, 1) := by decide +kernel
theorem dm_Model_inverse_131 : decode bm_Model_inverse 131 = .ok (.iload_n 1, 1) := by decide +kernel
theorem dm_Model_inverse_132 : decode bm_Model_inverse 132 = .ok (.iload 4, 2) := by decide +kernel
theorem dm_Model_inverse_134 : decode bm_Model_inverse 134 = .ok (.aload_n 0, 1) := by decide +kernel
theorem dm_Model_inverse_135 : decode bm_Model_inverse 135 = .ok (.aload_n 0, 1) := by decide +kernel
theorem dm_Model_inverse_136 : decode bm_Model_inverse 136 = .ok (.bipush 27, 2) := by decide +kernel
theorem dm_Model_inverse_138 : decode bm_Model_inverse 138 = .ok (.iload 4, 2) := by decide +kernel
theorem dm_Model_inverse_140 : decode bm_Model_inverse 140 = .ok (.invokevirtual 31, 3) := by decide +kernel
theorem dm_Model_inverse_143 : decode bm_Model_inverse 143 = .ok (.iload_n 3, 1) := by decide +kernel
theorem dm_Model_inverse_144 : decode bm_Model_inverse 144 = .ok (.invokevirtual 27, 3) := by decide +kernel
theorem dm_Model_inverse_147 : decode bm_Model_inverse 147 = .ok (.invokevirtual 34, 3) := by decide +kernel
theorem dm_Model_inverse_150 : decode bm_Model_inverse 150 = .ok (.iinc 4 1, 3) := by decide +kernel
theorem dm_Model_inverse_153 : decode bm_Model_inverse 153 = .ok (.goto (-30), 3) := by decide +kernel
theorem dm_Model_inverse_156 : decode bm_Model_inverse 156 = .ok (.aload_n 0, 1) := by decide +kernel
theorem dm_Model_inverse_157 : decode bm_Model_inverse 157 = .ok (.iload_n 1, 1) := by decide +kernel
theorem dm_Model_inverse_158 : decode bm_Model_inverse 158 = .ok (.invokevirtual 75, 3) := by decide +kernel
theorem dm_Model_inverse_161 : decode bm_Model_inverse 161 = .ok (.ireturn, 1) := by decide +kernel
set_option maxHeartbeats 4000000 in
set_option maxRecDepth 100000 in
theorem mm_Model_inverse (l : Launch) (D : va_G) (k : ClassId × ClassId × ClassId) (g : Nat → Nat) (σ : st_T) {P : Nat} (hw : md_wf P σ) (hP : ag_pr P) (hP31 : P < 2147483648) (hrg : ∀ n, n < 8 → sp_sz (σ (300 + n)) 31 ≤ 16) (hk : σ 205 4 < 2147483648) (hfd : σ 205 4 ≠ 0 → 1 < sp_sz (σ (300 + 24)) 31 ∧ sp_sz (σ (300 + 24)) 31 ≤ 16 ∧ σ 205 4 = sp_sz (σ (300 + 24)) 31 - 1 ∧ pz_ir P (sp_sz (σ (300 + 24)) 31 - 1) (pe_f (σ (300 + 24)))) {d x : Int32} : mt_I l D k g ym_Model_inverse wm_Model_inverse rm_Model_inverse [.ref (g 149), .int d, .int x] σ (fun r σ1 => (¬ (rk_r d ∧ rk_r x) ∧ r = -1 ∧ σ1 = σ) ∨ ∃ d0 x0, (d0 < 8 ∧ d = nI d0) ∧ (x0 < 8 ∧ x = nI x0) ∧ ((σ 205 4 = 0 ∧ r = -1 ∧ σ1 = σ) ∨ (σ 205 4 ≠ 0 ∧ (md_wf P σ1 ∧ md_sm ((300 + d0) :: mk_W) σ σ1) ∧ ((sp_sz (sp_rest P (σ (300 + x0)) (σ (300 + 24))) 31 = 0 ∧ r = -1 ∧ σ1 (300 + d0) = σ (300 + d0)) ∨ (0 < sp_sz (sp_rest P (σ (300 + x0)) (σ (300 + 24))) 31 ∧ r = nI (sp_sz (σ1 (300 + d0)) 31) ∧ sp_sz (σ1 (300 + d0)) 31 < sp_sz (σ (300 + 24)) 31 ∧ @ag_q pz_T pz_R (pz_I P (pe_f (σ (300 + 24)))) (pz_ml (pe_f (σ1 (300 + d0))) (pe_f (sp_rest P (σ (300 + x0)) (σ (300 + 24))))) (pz_ct 1)))))) := by
  refine ct_I_in (cc := bm_Model_inverse) (maxL := 5) (by decide) rfl (Nat.le_of_ble_eq_true rfl) ?_
  intro p e s m args below meth c A ls Q S hl hW hret
  have S : pw_S p m c bm_Model_inverse 5 s args wa_g rc_Model D cl_s (ty_s k) := S
  have hx := S.1.1
  have hb := S.1.2.1
  have hl : lv_has ls 5 [(0, .ref (g (149))), (1, .int (d)), (2, .int (x))] := hl
  have hP2 := hP.1
  refine lv_iload_n hx hb dm_Model_inverse_0 rfl (lv_at hl 1 rfl) ?_
  refine pw_callSI (rest := []) S hW (mm_Model_isRegister l D k g σ (x := d)) (cv_Model_69 S.1.2.2.2.2 ⟨by decide, by decide⟩) rfl hl.1 rfl (lv_room (Nat.le_of_ble_eq_true rfl)) ⟨Nat.zero_le _, Nat.zero_le _⟩ dm_Model_inverse_1 (fun r σ1 H locs hp hW => ?_)
  obtain ⟨hp, h9⟩ := hp
  rw [h9] at hW
  rcases hp with ⟨hr, d0, hd0, rfl⟩ | ⟨hr, hno⟩
  · subst hr
    have hl : lv_has ls 5 [(0, .ref (g (149))), (1, .int (nI (d0))), (2, .int (x))] := hl
    refine wi_if_eq (tgt := 21) S (nn_T (by omega)) dm_Model_inverse_4 (by decide) (fun hc => ?_) (fun hc => ?_)
    · exfalso
      omega
    · refine lv_iload_n hx hb dm_Model_inverse_7 rfl (lv_at hl 2 rfl) ?_
      refine pw_callSI (rest := []) S hW (mm_Model_isRegister l D k g σ (x := x)) (cv_Model_69 S.1.2.2.2.2 ⟨by decide, by decide⟩) rfl hl.1 rfl (lv_room (Nat.le_of_ble_eq_true rfl)) ⟨Nat.zero_le _, Nat.zero_le _⟩ dm_Model_inverse_8 (fun r σ1 H locs hp hW => ?_)
      obtain ⟨hp, h9⟩ := hp
      rw [h9] at hW
      rcases hp with ⟨hr, x0, hx0, rfl⟩ | ⟨hr, hno⟩
      · subst hr
        have hl : lv_has ls 5 [(0, .ref (g (149))), (1, .int (nI (d0))), (2, .int (nI (x0)))] := hl
        refine wi_if_eq (tgt := 21) S (nn_T (by omega)) dm_Model_inverse_11 (by decide) (fun hc => ?_) (fun hc => ?_)
        · exfalso
          omega
        · refine lv_aload_n hx hb dm_Model_inverse_14 rfl (lv_at hl 0 rfl) ?_
          refine md_k S hW (wa_in 568 (by decide +kernel) rfl) dm_Model_inverse_15 ?_
          refine wi_if_ne (tgt := 23) S (nn_T (by omega)) dm_Model_inverse_18 (by decide) (fun hc => ?_) (fun hc => ?_)
          · obtain ⟨f1, f16, fk, hir⟩ := hfd (by omega)
            have hMo := hw.2 24 (by omega)
            have hI := pz_I_ok P (pe_f (σ (300 + 24)))
            have dx := sp_rest_is hP (hw.2 x0 (by omega)) hMo (by omega)
            have zx := dx.2.1
            refine lv_aload_n hx hb dm_Model_inverse_23 rfl (lv_at hl 0 rfl) ?_
            refine lv_iload_n hx hb dm_Model_inverse_24 rfl (lv_at hl 2 rfl) ?_
            refine lv_bipush (v := nI (25)) hx hb dm_Model_inverse_25 (by decide) ?_
            refine pw_callV (rest := []) S hW (mm_Model_copy l D k g σ hw (a := x0) (b := 25) (by omega) (by omega)) (cv_Model_55 S.1.2.2.2.2 ⟨by decide, by decide⟩) (by decide) en_Model rfl rfl hl.1 rfl (lv_room (Nat.le_of_ble_eq_true rfl)) ⟨Nat.zero_le _, Nat.zero_le _⟩ dm_Model_inverse_27 (fun σ2 H locs hp2 hW => ?_)
            obtain ⟨w2, e2, s2⟩ := hp2
            have k2_24 : σ2 (300 + (24)) = σ (300 + (24)) := by rw [s2 _ (by simp only [List.mem_cons, List.not_mem_nil, or_false]; omega)]
            have k2_25 : σ2 (300 + (25)) = σ (300 + (x0)) := by rw [e2]
            refine lv_aload_n hx hb dm_Model_inverse_30 rfl (lv_at hl 0 rfl) ?_
            refine lv_bipush (v := nI (25)) hx hb dm_Model_inverse_31 (by decide) ?_
            refine lv_bipush (v := nI (24)) hx hb dm_Model_inverse_33 (by decide) ?_
            refine pw_callV (rest := []) S hW (mm_Model_rest l D k g σ2 w2 hP hP31 (a := 25) (b := 24) (by omega) (by omega) (by omega) (by omega) (by omega) (by rw [k2_24]; omega)) (cv_Model_52 S.1.2.2.2.2 ⟨by decide, by decide⟩) (by decide) en_Model rfl rfl hl.1 rfl (lv_room (Nat.le_of_ble_eq_true rfl)) ⟨Nat.zero_le _, Nat.zero_le _⟩ dm_Model_inverse_35 (fun σ3 H locs hp3 hW => ?_)
            obtain ⟨w3, e3, s3⟩ := hp3
            have k3_24 : σ3 (300 + (24)) = σ (300 + (24)) := by rw [s3 _ (by simp only [List.mem_cons, List.not_mem_nil, or_false]; omega)]; exact k2_24
            have k3_25 : σ3 (300 + (25)) = sp_rest P (σ (300 + (x0))) (σ (300 + (24))) := by rw [e3.1, k2_25, k2_24]
            have k3_32 : σ3 (300 + (32)) = sp_quo P (σ (300 + (x0))) (σ (300 + (24))) := by rw [e3.2, k2_25, k2_24]
            have m3 : md_sm [300 + (25), 300 + (32)] σ σ3 := md_sm_tr s2 s3 (by intro x9 hx9; simp only [List.mem_cons, List.not_mem_nil, or_false] at hx9 ⊢; omega) (by intro x9 hx9; simp only [List.mem_cons, List.not_mem_nil, or_false] at hx9 ⊢; omega)
            refine lv_aload_n hx hb dm_Model_inverse_38 rfl (lv_at hl 0 rfl) ?_
            refine lv_bipush (v := nI (25)) hx hb dm_Model_inverse_39 (by decide) ?_
            refine pw_callVI (rest := []) S hW (mm_Model_degree l D k g σ3 (s0 := 25) (P := P) (by omega) (w3.2 (25) (by omega)) hP31) (cv_Model_42 S.1.2.2.2.2 ⟨by decide, by decide⟩) (by decide) en_Model rfl rfl hl.1 rfl (lv_room (Nat.le_of_ble_eq_true rfl)) ⟨Nat.zero_le _, Nat.zero_le _⟩ dm_Model_inverse_41 (fun r σ1 H locs hp hW => ?_)
            obtain ⟨hr, hp⟩ := hp
            rw [hp] at hW
            subst hr
            rw [k3_25]
            refine wi_if_ge (tgt := 49) S (sd_T (by omega)) dm_Model_inverse_44 (by decide) (fun hc => ?_) (fun hc => ?_)
            · refine lv_aload_n hx hb dm_Model_inverse_49 rfl (lv_at hl 0 rfl) ?_
              refine lv_bipush (v := nI (25)) hx hb dm_Model_inverse_50 (by decide) ?_
              refine lv_aload_n hx hb dm_Model_inverse_52 rfl (lv_at hl 0 rfl) ?_
              refine md_p S hW (wa_in 561 (by decide +kernel) rfl) dm_Model_inverse_53 ?_
              rw [w3.1]
              refine wn_i2l S (by omega) dm_Model_inverse_56 ?_
              refine lv_bipush (v := nI (24)) hx hb dm_Model_inverse_57 (by decide) ?_
              refine pw_callV (rest := []) S hW (mm_Model_power2 l D k g σ3 w3 hP hP31 (a := 25) (m0 := 24) (n0 := P) (by omega) (by omega) (by omega) (by omega) (by omega) (by omega) (by omega) (by omega) (by rw [k3_24]; omega) (by rw [k3_24]; omega) (by rw [k3_24, k3_25]; omega) (by omega)) (cv_Model_65 S.1.2.2.2.2 ⟨by decide, by decide⟩) (by decide) en_Model rfl rfl hl.1 rfl (lv_room (Nat.le_of_ble_eq_true rfl)) ⟨Nat.zero_le _, Nat.zero_le _⟩ dm_Model_inverse_59 (fun σ4 H locs hp4 hW => ?_)
              obtain ⟨w4, e4, s4⟩ := hp4
              have k4_24 : σ4 (300 + (24)) = σ (300 + (24)) := by rw [s4 _ (by simp only [List.mem_cons, List.not_mem_nil, or_false]; omega)]; exact k3_24
              have k4_25 : σ4 (300 + (25)) = sp_rest P (σ (300 + (x0))) (σ (300 + (24))) := by rw [s4 _ (by simp only [List.mem_cons, List.not_mem_nil, or_false]; omega)]; exact k3_25
              have m4 : md_sm [300 + (25), 300 + (32), 300 + (28), 300 + (31)] σ σ4 := md_sm_tr m3 s4 (by intro x9 hx9; simp only [List.mem_cons, List.not_mem_nil, or_false] at hx9 ⊢; omega) (by intro x9 hx9; simp only [List.mem_cons, List.not_mem_nil, or_false] at hx9 ⊢; omega)
              rw [k3_24, k3_25] at e4
              refine lv_aload_n hx hb dm_Model_inverse_62 rfl (lv_at hl 0 rfl) ?_
              refine lv_bipush (v := nI (28)) hx hb dm_Model_inverse_63 (by decide) ?_
              refine lv_bipush (v := nI (29)) hx hb dm_Model_inverse_65 (by decide) ?_
              refine pw_callV (rest := []) S hW (mm_Model_copy l D k g σ4 w4 (a := 28) (b := 29) (by omega) (by omega)) (cv_Model_55 S.1.2.2.2.2 ⟨by decide, by decide⟩) (by decide) en_Model rfl rfl hl.1 rfl (lv_room (Nat.le_of_ble_eq_true rfl)) ⟨Nat.zero_le _, Nat.zero_le _⟩ dm_Model_inverse_67 (fun σ5 H locs hp5 hW => ?_)
              obtain ⟨w5, e5, s5⟩ := hp5
              have k5_24 : σ5 (300 + (24)) = σ (300 + (24)) := by rw [s5 _ (by simp only [List.mem_cons, List.not_mem_nil, or_false]; omega)]; exact k4_24
              have k5_25 : σ5 (300 + (25)) = sp_rest P (σ (300 + (x0))) (σ (300 + (24))) := by rw [s5 _ (by simp only [List.mem_cons, List.not_mem_nil, or_false]; omega)]; exact k4_25
              have k5_28 : σ5 (300 + (28)) = σ4 (300 + 28) := by rw [s5 _ (by simp only [List.mem_cons, List.not_mem_nil, or_false]; omega)]
              have k5_29 : σ5 (300 + (29)) = σ4 (300 + 28) := by rw [e5]
              have m5 : md_sm [300 + (25), 300 + (32), 300 + (28), 300 + (31), 300 + (29)] σ σ5 := md_sm_tr m4 s5 (by intro x9 hx9; simp only [List.mem_cons, List.not_mem_nil, or_false] at hx9 ⊢; omega) (by intro x9 hx9; simp only [List.mem_cons, List.not_mem_nil, or_false] at hx9 ⊢; omega)
              refine lv_aload_n hx hb dm_Model_inverse_70 rfl (lv_at hl 0 rfl) ?_
              refine lv_bipush (v := nI (29)) hx hb dm_Model_inverse_71 (by decide) ?_
              refine lv_aload_n hx hb dm_Model_inverse_73 rfl (lv_at hl 0 rfl) ?_
              refine md_k S hW (wa_in 568 (by decide +kernel) rfl) dm_Model_inverse_74 ?_
              rw [show σ5 205 = σ 205 from m5 205 (by simp only [List.mem_cons, List.not_mem_nil, or_false]; omega), fk]
              refine lv_iconst (v := nI (1)) hx hb dm_Model_inverse_77 (by decide) ?_
              refine wn_isub S (by omega) dm_Model_inverse_78 ?_
              refine lv_bipush (v := nI (24)) hx hb dm_Model_inverse_79 (by decide) ?_
              refine pw_callV (rest := []) S hW (mm_Model_chain l D k g σ5 w5 hP hP31 (a := 29) (m0 := 24) (n0 := sp_sz (σ (300 + 24)) 31 - 1 - 1) (by omega) (by omega) (by omega) (by omega) (by omega) (by omega) (by omega) (by rw [k5_24]; omega) (by rw [k5_24]; omega) (by omega)) (cv_Model_110 S.1.2.2.2.2 ⟨by decide, by decide⟩) (by decide) en_Model rfl rfl hl.1 rfl (lv_room (Nat.le_of_ble_eq_true rfl)) ⟨Nat.zero_le _, Nat.zero_le _⟩ dm_Model_inverse_81 (fun σ6 H locs hp6 hW => ?_)
              obtain ⟨w6, ⟨e6, -⟩, s6⟩ := hp6
              have k6_24 : σ6 (300 + (24)) = σ (300 + (24)) := by rw [s6 _ (by simp only [List.mem_cons, List.not_mem_nil, or_false]; omega)]; exact k5_24
              have k6_25 : σ6 (300 + (25)) = sp_rest P (σ (300 + (x0))) (σ (300 + (24))) := by rw [s6 _ (by simp only [List.mem_cons, List.not_mem_nil, or_false]; omega)]; exact k5_25
              have k6_29 : σ6 (300 + (29)) = σ4 (300 + 28) := by rw [s6 _ (by simp only [List.mem_cons, List.not_mem_nil, or_false]; omega)]; exact k5_29
              have m6 : md_sm [300 + (25), 300 + (32), 300 + (28), 300 + (31), 300 + (29), 300 + (26), 300 + (27)] σ σ6 := md_sm_tr m5 s6 (by intro x9 hx9; simp only [List.mem_cons, List.not_mem_nil, or_false] at hx9 ⊢; omega) (by intro x9 hx9; simp only [List.mem_cons, List.not_mem_nil, or_false] at hx9 ⊢; omega)
              rw [k5_24, k5_29] at e6
              have zc := e6.2.1
              refine lv_aload_n hx hb dm_Model_inverse_84 rfl (lv_at hl 0 rfl) ?_
              refine lv_bipush (v := nI (27)) hx hb dm_Model_inverse_85 (by decide) ?_
              refine lv_bipush (v := nI (26)) hx hb dm_Model_inverse_87 (by decide) ?_
              refine pw_callV (rest := []) S hW (mm_Model_copy l D k g σ6 w6 (a := 27) (b := 26) (by omega) (by omega)) (cv_Model_55 S.1.2.2.2.2 ⟨by decide, by decide⟩) (by decide) en_Model rfl rfl hl.1 rfl (lv_room (Nat.le_of_ble_eq_true rfl)) ⟨Nat.zero_le _, Nat.zero_le _⟩ dm_Model_inverse_89 (fun σ7 H locs hp7 hW => ?_)
              obtain ⟨w7, e7, s7⟩ := hp7
              have k7_24 : σ7 (300 + (24)) = σ (300 + (24)) := by rw [s7 _ (by simp only [List.mem_cons, List.not_mem_nil, or_false]; omega)]; exact k6_24
              have k7_25 : σ7 (300 + (25)) = sp_rest P (σ (300 + (x0))) (σ (300 + (24))) := by rw [s7 _ (by simp only [List.mem_cons, List.not_mem_nil, or_false]; omega)]; exact k6_25
              have k7_29 : σ7 (300 + (29)) = σ4 (300 + 28) := by rw [s7 _ (by simp only [List.mem_cons, List.not_mem_nil, or_false]; omega)]; exact k6_29
              have k7_27 : σ7 (300 + (27)) = σ6 (300 + 27) := by rw [s7 _ (by simp only [List.mem_cons, List.not_mem_nil, or_false]; omega)]
              have k7_26 : σ7 (300 + (26)) = σ6 (300 + 27) := by rw [e7]
              have m7 : md_sm [300 + (25), 300 + (32), 300 + (28), 300 + (31), 300 + (29), 300 + (26), 300 + (27)] σ σ7 := md_sm_tr m6 s7 (by intro x9 hx9; simp only [List.mem_cons, List.not_mem_nil, or_false] at hx9 ⊢; omega) (by intro x9 hx9; simp only [List.mem_cons, List.not_mem_nil, or_false] at hx9 ⊢; omega)
              refine lv_aload_n hx hb dm_Model_inverse_92 rfl (lv_at hl 0 rfl) ?_
              refine lv_bipush (v := nI (26)) hx hb dm_Model_inverse_93 (by decide) ?_
              refine lv_bipush (v := nI (25)) hx hb dm_Model_inverse_95 (by decide) ?_
              refine lv_bipush (v := nI (24)) hx hb dm_Model_inverse_97 (by decide) ?_
              refine pw_callV (rest := []) S hW (mm_Model_timesBy l D k g σ7 w7 hP hP31 (a := 26) (b := 25) (m0 := 24) (by omega) (by omega) (by omega) (by omega) (by omega) (by omega) (by omega) (by rw [k7_26, k7_25]; omega) (by rw [k7_24]; omega)) (cv_Model_62 S.1.2.2.2.2 ⟨by decide, by decide⟩) (by decide) en_Model rfl rfl hl.1 rfl (lv_room (Nat.le_of_ble_eq_true rfl)) ⟨Nat.zero_le _, Nat.zero_le _⟩ dm_Model_inverse_99 (fun σ8 H locs hp8 hW => ?_)
              obtain ⟨w8, e8, s8⟩ := hp8
              have k8_24 : σ8 (300 + (24)) = σ (300 + (24)) := by rw [s8 _ (by simp only [List.mem_cons, List.not_mem_nil, or_false]; omega)]; exact k7_24
              have k8_25 : σ8 (300 + (25)) = sp_rest P (σ (300 + (x0))) (σ (300 + (24))) := by rw [s8 _ (by simp only [List.mem_cons, List.not_mem_nil, or_false]; omega)]; exact k7_25
              have k8_29 : σ8 (300 + (29)) = σ4 (300 + 28) := by rw [s8 _ (by simp only [List.mem_cons, List.not_mem_nil, or_false]; omega)]; exact k7_29
              have k8_27 : σ8 (300 + (27)) = σ6 (300 + 27) := by rw [s8 _ (by simp only [List.mem_cons, List.not_mem_nil, or_false]; omega)]; exact k7_27
              have k8_26 : σ8 (300 + (26)) = sp_rest P (sp_mul P (σ6 (300 + 27)) (sp_rest P (σ (300 + (x0))) (σ (300 + (24))))) (σ (300 + (24))) := by rw [e8, k7_26, k7_25, k7_24]
              have m8 : md_sm [300 + (25), 300 + (32), 300 + (28), 300 + (31), 300 + (29), 300 + (26), 300 + (27)] σ σ8 := md_sm_tr m7 s8 (by intro x9 hx9; simp only [List.mem_cons, List.not_mem_nil, or_false] at hx9 ⊢; omega) (by intro x9 hx9; simp only [List.mem_cons, List.not_mem_nil, or_false] at hx9 ⊢; omega)
              have hB := sp_mr hP e6.1 dx.1 hMo (by omega) (by omega) e6.2.2 (@ag_rf pz_T pz_R _ hI _)
              have hB2 := sp_mr hP e6.1 dx.1 hMo (by omega) (by omega) (@ag_rf pz_T pz_R _ hI _) (@ag_rf pz_T pz_R _ hI _)
              have hnm := @ag_nm_c pz_T pz_R _ hI (pe_f (sp_rest P (σ (300 + x0)) (σ (300 + 24)))) (pe_f (σ4 (300 + 28))) P e4.2.2 (sp_sz (σ (300 + 24)) 31 - 1 - 1)
              rw [show sp_sz (σ (300 + 24)) 31 - 1 - 1 + 1 = sp_sz (σ (300 + 24)) 31 - 1 by omega] at hnm
              obtain ⟨c9, hc0, hcP, hcq⟩ := iv_norm hP hir (iv_no hP hMo dx.1 zx (by omega))
              have hBc := sp_is_uni hP hMo (sp_is_q (sp_is_q hB hnm) hcq) (sp_is_ct hcP f1)
              have hB1 : sp_sz (sp_rest P (sp_mul P (σ6 (300 + 27)) (sp_rest P (σ (300 + (x0))) (σ (300 + (24))))) (σ (300 + (24)))) 31 = 1 := by rw [hBc]; exact ct_sz1 hc0
              have hend := iv_end hP hB2.1 e6.1 hB1 zc hB2.2.2
              have hB0 := (hB2.1 0).1
              refine lv_aload_n hx hb dm_Model_inverse_102 rfl (lv_at hl 0 rfl) ?_
              refine lv_aload_n hx hb dm_Model_inverse_103 rfl (lv_at hl 0 rfl) ?_
              refine lv_bipush (v := nI (26)) hx hb dm_Model_inverse_104 (by decide) ?_
              refine lv_iconst (v := nI (0)) hx hb dm_Model_inverse_106 (by decide) ?_
              refine pw_callVI (rest := [.ref (g (149))]) S hW (mm_Model_get l D k g σ8 (s0 := 26) (n := 0) (by omega) (by omega)) (cv_Model_31 S.1.2.2.2.2 ⟨by decide, by decide⟩) (by decide) en_Model rfl rfl hl.1 rfl (lv_room (Nat.le_of_ble_eq_true rfl)) ⟨Nat.zero_le _, Nat.zero_le _⟩ dm_Model_inverse_107 (fun r σ1 H locs hp hW => ?_)
              obtain ⟨hr, hp⟩ := hp
              rw [hp] at hW
              subst hr
              rw [k8_26]
              refine lv_aload_n hx hb dm_Model_inverse_110 rfl (lv_at hl 0 rfl) ?_
              refine md_p S hW (wa_in 561 (by decide +kernel) rfl) dm_Model_inverse_111 ?_
              rw [w8.1]
              refine lv_iconst (v := nI (2)) hx hb dm_Model_inverse_114 (by decide) ?_
              refine wn_isub S (by omega) dm_Model_inverse_115 ?_
              refine pw_callVI (rest := []) S hW (mm_Model_raise l D k g σ8 (P := P) w8.1 (by omega) hP31 (a := (sp_rest P (sp_mul P (σ6 (300 + 27)) (sp_rest P (σ (300 + (x0))) (σ (300 + (24))))) (σ (300 + (24)))) 0) (n0 := P - 2) (by omega) (by omega)) (cv_Model_46 S.1.2.2.2.2 ⟨by decide, by decide⟩) (by decide) en_Model rfl rfl hl.1 rfl (lv_room (Nat.le_of_ble_eq_true rfl)) ⟨Nat.zero_le _, Nat.zero_le _⟩ dm_Model_inverse_116 (fun r σ1 H locs hp hW => ?_)
              obtain ⟨hr, hp⟩ := hp
              rw [hp] at hW
              subst hr
              rw [show (sp_rest P (sp_mul P (σ6 (300 + 27)) (sp_rest P (σ (300 + (x0))) (σ (300 + (24))))) (σ (300 + (24)))) 0 ^ (P - 2) % P = sp_inv P ((sp_rest P (sp_mul P (σ6 (300 + 27)) (sp_rest P (σ (300 + (x0))) (σ (300 + (24))))) (σ (300 + (24)))) 0) from rfl]
              have hivl : sp_inv P ((sp_rest P (sp_mul P (σ6 (300 + 27)) (sp_rest P (σ (300 + (x0))) (σ (300 + (24))))) (σ (300 + (24)))) 0) < P := Nat.mod_lt _ (by omega)
              generalize hiv : sp_inv P ((sp_rest P (sp_mul P (σ6 (300 + 27)) (sp_rest P (σ (300 + (x0))) (σ (300 + (24))))) (σ (300 + (24)))) 0) = iv at hend hivl ⊢
              refine lv_istore_n hx hb dm_Model_inverse_119 rfl hl (by decide) rfl (fun ls hl => ?_)
              have hl : lv_has ls 5 [(3, .int (nI (iv))), (0, .ref (g (149))), (1, .int (nI (d0))), (2, .int (nI (x0)))] := hl
              refine lv_iconst (v := nI (0)) hx hb dm_Model_inverse_120 (by decide) ?_
              refine lv_istore hx hb dm_Model_inverse_121 hl (by decide) rfl (fun ls hl => ?_)
              have hl : lv_has ls 5 [(4, .int (nI (0))), (3, .int (nI (iv))), (0, .ref (g (149))), (1, .int (nI (d0))), (2, .int (nI (x0)))] := hl
              have hl : lv_has ls 5 [(4, .int (nI (0))), (3, .int (nI (iv))), (0, .ref (g (149))), (1, .int (nI (d0)))] := lv_sub hl [0, 1, 2, 3] rfl
              have loop : ∀ d i, i + d = 32 → ∀ (ls : Array Slot) (H : Heap) (locs : List Loc), lv_has ls 5 [(4, .int (nI (i))), (3, .int (nI (iv))), (0, .ref (g (149))), (1, .int (nI (d0)))] → pw_H D cl_s A s.heap g 153 (en_s k g (st_cp σ8 (300 + d0) i (sp_sc P (σ6 (300 + 27)) iv))) H locs → W p l e rm_Model_inverse s m args below meth c H locs 0 0 Q (F0 m 123 ls []) := by
                intro d
                induction d with
                | zero =>
                  intro i hi ls H locs hl hW
                  refine lv_iload hx hb dm_Model_inverse_123 (lv_at hl 0 rfl) ?_
                  refine lv_bipush (v := nI (32)) hx hb dm_Model_inverse_125 (by decide) ?_
                  refine wi_icmp_ge (tgt := 156) S (nn_T (by omega)) (nn_T (by omega)) dm_Model_inverse_127 (by decide) (fun hc => ?_) (fun hc => ?_)
                  · have hi : i = 32 := by omega
                    subst hi
                    have h9 := md_cp (s := d0) w8 (by omega) hend.1
                    refine lv_aload_n hx hb dm_Model_inverse_156 rfl (lv_at hl 2 rfl) ?_
                    refine lv_iload_n hx hb dm_Model_inverse_157 rfl (lv_at hl 3 rfl) ?_
                    refine pw_callVI (rest := []) S hW (mm_Model_size2 l D k g (st_cp σ8 (300 + d0) 32 (sp_sc P (σ6 (300 + 27)) iv)) h9.1 hP31 (s0 := d0) (by omega)) (cv_Model_75 S.1.2.2.2.2 ⟨by decide, by decide⟩) (by decide) en_Model rfl rfl hl.1 rfl (lv_room (Nat.le_of_ble_eq_true rfl)) ⟨Nat.zero_le _, Nat.zero_le _⟩ dm_Model_inverse_158 (fun r σ1 H locs hp hW => ?_)
                    obtain ⟨hr, hp⟩ := hp
                    rw [hp] at hW
                    subst hr
                    exact hret _ _ _ _ _ _ dm_Model_inverse_161 (Or.inr ⟨d0, x0, ⟨hd0, rfl⟩, ⟨hx0, rfl⟩, Or.inr ⟨by omega, ⟨h9.1, md_sm_tr m8 h9.2.2 (by intro x9 hx9; simp only [List.mem_cons, List.not_mem_nil, or_false] at hx9 ⊢; omega) (by intro x9 hx9; simp only [List.mem_cons, List.not_mem_nil, or_false] at hx9 ⊢; omega)⟩, Or.inr ⟨by omega, rfl, by rw [h9.2.1]; exact hend.2.1, by rw [h9.2.1]; exact hend.2.2⟩⟩⟩) hW
                  · exfalso
                    omega
                | succ d ih =>
                  intro i hi ls H locs hl hW
                  refine lv_iload hx hb dm_Model_inverse_123 (lv_at hl 0 rfl) ?_
                  refine lv_bipush (v := nI (32)) hx hb dm_Model_inverse_125 (by decide) ?_
                  refine wi_icmp_ge (tgt := 156) S (nn_T (by omega)) (nn_T (by omega)) dm_Model_inverse_127 (by decide) (fun hc => ?_) (fun hc => ?_)
                  · exfalso
                    omega
                  · have e1 := (e6.1 i).1
                    refine lv_aload_n hx hb dm_Model_inverse_130 rfl (lv_at hl 2 rfl) ?_
                    refine lv_iload_n hx hb dm_Model_inverse_131 rfl (lv_at hl 3 rfl) ?_
                    refine lv_iload hx hb dm_Model_inverse_132 (lv_at hl 0 rfl) ?_
                    refine lv_aload_n hx hb dm_Model_inverse_134 rfl (lv_at hl 2 rfl) ?_
                    refine lv_aload_n hx hb dm_Model_inverse_135 rfl (lv_at hl 2 rfl) ?_
                    refine lv_bipush (v := nI (27)) hx hb dm_Model_inverse_136 (by decide) ?_
                    refine lv_iload hx hb dm_Model_inverse_138 (lv_at hl 0 rfl) ?_
                    refine pw_callVI (rest := [.ref (g (149)), .int (nI (i)), .int (nI (d0)), .ref (g (149))]) S hW (mm_Model_get l D k g (st_cp σ8 (300 + d0) i (sp_sc P (σ6 (300 + 27)) iv)) (s0 := 27) (n := i) (by omega) (by omega)) (cv_Model_31 S.1.2.2.2.2 ⟨by decide, by decide⟩) (by decide) en_Model rfl rfl hl.1 rfl (lv_room (Nat.le_of_ble_eq_true rfl)) ⟨Nat.zero_le _, Nat.zero_le _⟩ dm_Model_inverse_140 (fun r σ1 H locs hp hW => ?_)
                    obtain ⟨hr, hp⟩ := hp
                    rw [hp] at hW
                    subst hr
                    rw [st_cp_row (by omega), k8_27]
                    refine lv_iload_n hx hb dm_Model_inverse_143 rfl (lv_at hl 1 rfl) ?_
                    refine pw_callVI (rest := [.int (nI (i)), .int (nI (d0)), .ref (g (149))]) S hW (mm_Model_times2 l D k g (st_cp σ8 (300 + d0) i (sp_sc P (σ6 (300 + 27)) iv)) (P := P) (by rw [st_cp_row (by omega)]; exact w8.1) (by omega) (by omega) (a := (σ6 (300 + 27)) (i)) (b := iv) (by omega) (by omega)) (cv_Model_27 S.1.2.2.2.2 ⟨by decide, by decide⟩) (by decide) en_Model rfl rfl hl.1 rfl (lv_room (Nat.le_of_ble_eq_true rfl)) ⟨Nat.zero_le _, Nat.zero_le _⟩ dm_Model_inverse_144 (fun r σ1 H locs hp hW => ?_)
                    obtain ⟨hr, hp⟩ := hp
                    rw [hp] at hW
                    subst hr
                    refine pw_callV (rest := []) S hW (mm_Model_put l D k g (st_cp σ8 (300 + d0) i (sp_sc P (σ6 (300 + 27)) iv)) (s0 := d0) (n := i) (v := ((σ6 (300 + 27)) (i)) * (iv) % P) (by omega) (by omega)) (cv_Model_34 S.1.2.2.2.2 ⟨by decide, by decide⟩) (by decide) en_Model rfl rfl hl.1 rfl (lv_room (Nat.le_of_ble_eq_true rfl)) ⟨Nat.zero_le _, Nat.zero_le _⟩ dm_Model_inverse_147 (fun σ1 H locs hp hW => ?_)
                    rw [hp] at hW
                    refine lv_iinc (k := 0) (v := nI (i + 1)) hx hb dm_Model_inverse_150 hl rfl (by rw [show Int32.ofInt 1 = nI 1 from rfl, nI_add]) (by decide) rfl (fun ls hl => ?_)
                    have hl : lv_has ls 5 [(4, .int (nI (i + 1))), (3, .int (nI (iv))), (0, .ref (g (149))), (1, .int (nI (d0)))] := hl
                    refine lv_goto (tgt := 123) hx hb dm_Model_inverse_153 (by decide) ?_
                    exact ih (i + 1) (by omega) ls _ _ hl (by rw [← st_cp_s σ8 (300 + d0) i (sp_sc P (σ6 (300 + 27)) iv) rfl]; exact hW)
              exact loop 32 0 (by omega) ls _ _ hl (by rw [st_cp_0]; exact hW)
            · refine lv_iconst (v := -1) hx hb dm_Model_inverse_47 (by decide) ?_
              exact hret _ _ _ _ _ _ dm_Model_inverse_48 (Or.inr ⟨d0, x0, ⟨hd0, rfl⟩, ⟨hx0, rfl⟩, Or.inr ⟨by omega, ⟨w3, md_sm_mo m3 (by intro x9 hx9; simp only [List.mem_cons, List.not_mem_nil, or_false] at hx9 ⊢; omega)⟩, Or.inl ⟨by omega, rfl, by rw [m3 _ (by simp only [List.mem_cons, List.not_mem_nil, or_false]; omega)]⟩⟩⟩) hW
          · refine lv_iconst (v := -1) hx hb dm_Model_inverse_21 (by decide) ?_
            exact hret _ _ _ _ _ _ dm_Model_inverse_22 (Or.inr ⟨d0, x0, ⟨hd0, rfl⟩, ⟨hx0, rfl⟩, Or.inl ⟨by omega, rfl, rfl⟩⟩) hW
      · subst hr
        refine wi_if_eq (tgt := 21) S (nn_T (by omega)) dm_Model_inverse_11 (by decide) (fun hc => ?_) (fun hc => ?_)
        · refine lv_iconst (v := -1) hx hb dm_Model_inverse_21 (by decide) ?_
          exact hret _ _ _ _ _ _ dm_Model_inverse_22 (Or.inl ⟨fun z => hno z.2, rfl, rfl⟩) hW
        · exfalso
          omega
  · subst hr
    refine wi_if_eq (tgt := 21) S (nn_T (by omega)) dm_Model_inverse_4 (by decide) (fun hc => ?_) (fun hc => ?_)
    · refine lv_iconst (v := -1) hx hb dm_Model_inverse_21 (by decide) ?_
      exact hret _ _ _ _ _ _ dm_Model_inverse_22 (Or.inl ⟨fun z => hno z.1, rfl, rfl⟩) hW
    · exfalso
      omega
theorem dm_Model_trace_0 : decode bm_Model_trace 0 = .ok (.iload_n 1, 1) := by decide +kernel
theorem dm_Model_trace_1 : decode bm_Model_trace 1 = .ok (.invokestatic 69, 3) := by decide +kernel
theorem dm_Model_trace_4 : decode bm_Model_trace 4 = .ok (.ifCond .eq 10, 3) := by decide +kernel
theorem dm_Model_trace_7 : decode bm_Model_trace 7 = .ok (.aload_n 0, 1) := by decide +kernel
theorem dm_Model_trace_8 : decode bm_Model_trace 8 = .ok (.getfield 113, 3) := by decide +kernel
theorem dm_Model_trace_11 : decode bm_Model_trace 11 = .ok (.ifCond .ne 5, 3) := by decide +kernel
theorem dm_Model_trace_14 : decode bm_Model_trace 14 = .ok (.iconst (-1), 1) := by decide +kernel
theorem dm_Model_trace_15 : decode bm_Model_trace 15 = .ok (.ireturn, 1) := by decide +kernel
theorem dm_Model_trace_16 : decode bm_Model_trace 16 = .ok (.iload_n 2, 1) := by decide +kernel
theorem dm_Model_trace_17 : decode bm_Model_trace 17 = .ok (.ifCond .eq 22, 3) := by decide +kernel
theorem dm_Model_trace_20 : decode bm_Model_trace 20 = .ok (.aload_n 0, 1) := by decide +kernel
theorem dm_Model_trace_21 : decode bm_Model_trace 21 = .ok (.iload_n 1, 1) := by decide +kernel
theorem dm_Model_trace_22 : decode bm_Model_trace 22 = .ok (.aload_n 0, 1) := by decide +kernel
theorem dm_Model_trace_23 : decode bm_Model_trace 23 = .ok (.getfield 113, 3) := by decide +kernel
theorem dm_Model_trace_26 : decode bm_Model_trace 26 = .ok (.bipush 24, 2) := by decide +kernel
theorem dm_Model_trace_28 : decode bm_Model_trace 28 = .ok (.invokevirtual 110, 3) := by decide +kernel
theorem dm_Model_trace_31 : decode bm_Model_trace 31 = .ok (.aload_n 0, 1) := by decide +kernel
theorem dm_Model_trace_32 : decode bm_Model_trace 32 = .ok (.bipush 27, 2) := by decide +kernel
theorem dm_Model_trace_34 : decode bm_Model_trace 34 = .ok (.iconst 0, 1) := by decide +kernel
theorem dm_Model_trace_35 : decode bm_Model_trace 35 = .ok (.invokevirtual 31, 3) := by decide +kernel
theorem dm_Model_trace_38 : decode bm_Model_trace 38 = .ok (.ireturn, 1) := by decide +kernel
theorem dm_Model_trace_39 : decode bm_Model_trace 39 = .ok (.aload_n 0, 1) := by decide +kernel
theorem dm_Model_trace_40 : decode bm_Model_trace 40 = .ok (.iload_n 1, 1) := by decide +kernel
theorem dm_Model_trace_41 : decode bm_Model_trace 41 = .ok (.bipush 26, 2) := by decide +kernel
theorem dm_Model_trace_43 : decode bm_Model_trace 43 = .ok (.invokevirtual 55, 3) := by decide +kernel
theorem dm_Model_trace_46 : decode bm_Model_trace 46 = .ok (.aload_n 0, 1) := by decide +kernel
theorem dm_Model_trace_47 : decode bm_Model_trace 47 = .ok (.bipush 26, 2) := by decide +kernel
theorem dm_Model_trace_49 : decode bm_Model_trace 49 = .ok (.bipush 24, 2) := by decide +kernel
theorem dm_Model_trace_51 : decode bm_Model_trace 51 = .ok (.invokevirtual 52, 3) := by decide +kernel
theorem dm_Model_trace_54 : decode bm_Model_trace 54 = .ok (.aload_n 0, 1) := by decide +kernel
theorem dm_Model_trace_55 : decode bm_Model_trace 55 = .ok (.bipush 25, 2) := by decide +kernel
theorem dm_Model_trace_57 : decode bm_Model_trace 57 = .ok (.iconst 0, 1) := by decide +kernel
theorem dm_Model_trace_58 : decode bm_Model_trace 58 = .ok (.invokevirtual 38, 3) := by decide +kernel
theorem dm_Model_trace_61 : decode bm_Model_trace 61 = .ok (.iconst 0, 1) := by decide +kernel
theorem dm_Model_trace_62 : decode bm_Model_trace 62 = .ok (.istore_n 3, 1) := by decide +kernel
theorem dm_Model_trace_63 : decode bm_Model_trace 63 = .ok (.iload_n 3, 1) := by decide +kernel
theorem dm_Model_trace_64 : decode bm_Model_trace 64 = .ok (.aload_n 0, 1) := by decide +kernel
theorem dm_Model_trace_65 : decode bm_Model_trace 65 = .ok (.getfield 113, 3) := by decide +kernel
theorem dm_Model_trace_68 : decode bm_Model_trace 68 = .ok (.if_icmp .ge 39, 3) := by decide +kernel
theorem dm_Model_trace_71 : decode bm_Model_trace 71 = .ok (.aload_n 0, 1) := by decide +kernel
theorem dm_Model_trace_72 : decode bm_Model_trace 72 = .ok (.bipush 25, 2) := by decide +kernel
theorem dm_Model_trace_74 : decode bm_Model_trace 74 = .ok (.bipush 26, 2) := by decide +kernel
theorem dm_Model_trace_76 : decode bm_Model_trace 76 = .ok (.iconst 1, 1) := by decide +kernel
theorem dm_Model_trace_77 : decode bm_Model_trace 77 = .ok (.invokevirtual 78, 3) := by decide +kernel
theorem dm_Model_trace_80 : decode bm_Model_trace 80 = .ok (.aload_n 0, 1) := by decide +kernel
theorem dm_Model_trace_81 : decode bm_Model_trace 81 = .ok (.bipush 26, 2) := by decide +kernel
theorem dm_Model_trace_83 : decode bm_Model_trace 83 = .ok (.aload_n 0, 1) := by decide +kernel
theorem dm_Model_trace_84 : decode bm_Model_trace 84 = .ok (.getfield 23, 3) := by decide +kernel
theorem dm_Model_trace_87 : decode bm_Model_trace 87 = .ok (.i2l, 1) := by decide +kernel
theorem dm_Model_trace_88 : decode bm_Model_trace 88 = .ok (.bipush 24, 2) := by decide +kernel
theorem dm_Model_trace_90 : decode bm_Model_trace 90 = .ok (.invokevirtual 65, 3) := by decide +kernel
theorem dm_Model_trace_93 : decode bm_Model_trace 93 = .ok (.aload_n 0, 1) := by decide +kernel
theorem dm_Model_trace_94 : decode bm_Model_trace 94 = .ok (.bipush 28, 2) := by decide +kernel
theorem dm_Model_trace_96 : decode bm_Model_trace 96 = .ok (.bipush 26, 2) := by decide +kernel
theorem dm_Model_trace_98 : decode bm_Model_trace 98 = .ok (.invokevirtual 55, 3) := by decide +kernel
theorem dm_Model_trace_101 : decode bm_Model_trace 101 = .ok (.iinc 3 1, 3) := by decide +kernel
theorem dm_Model_trace_104 : decode bm_Model_trace 104 = .ok (.goto (-41), 3) := by decide +kernel
theorem dm_Model_trace_107 : decode bm_Model_trace 107 = .ok (.aload_n 0, 1) := by decide +kernel
theorem dm_Model_trace_108 : decode bm_Model_trace 108 = .ok (.bipush 25, 2) := by decide +kernel
theorem dm_Model_trace_110 : decode bm_Model_trace 110 = .ok (.iconst 0, 1) := by decide +kernel
theorem dm_Model_trace_111 : decode bm_Model_trace 111 = .ok (.invokevirtual 31, 3) := by decide +kernel
theorem dm_Model_trace_114 : decode bm_Model_trace 114 = .ok (.ireturn, 1) := by decide +kernel
set_option maxHeartbeats 4000000 in
set_option maxRecDepth 100000 in
theorem mm_Model_trace (l : Launch) (D : va_G) (k : ClassId × ClassId × ClassId) (g : Nat → Nat) (σ : st_T) {P b0 : Nat} (hw : md_wf P σ) (hP : ag_pr P) (hP31 : P < 2147483648) (hrg : ∀ n, n < 8 → sp_sz (σ (300 + n)) 31 ≤ 16) (hk : σ 205 4 < 2147483648) (hfd : σ 205 4 ≠ 0 → 1 < sp_sz (σ (300 + 24)) 31 ∧ sp_sz (σ (300 + 24)) 31 ≤ 16 ∧ σ 205 4 = sp_sz (σ (300 + 24)) 31 - 1) (hb0 : b0 < 2) {a : Int32} : mt_I l D k g ym_Model_trace wm_Model_trace rm_Model_trace [.ref (g 149), .int a, .int (nI b0)] σ (fun r σ1 => (¬ (rk_r a) ∧ r = -1 ∧ σ1 = σ) ∨ ∃ a0, (a0 < 8 ∧ a = nI a0) ∧ ((σ 205 4 = 0 ∧ r = -1 ∧ σ1 = σ) ∨ (σ 205 4 ≠ 0 ∧ (md_wf P σ1 ∧ md_sm mk_W σ σ1) ∧ ∃ U, sp_is P (σ (300 + 24)) U (fb_acc P b0 (pe_f (σ (300 + a0))) (sp_sz (σ (300 + 24)) 31 - 1)) ∧ r = nI (U 0)))) := by
  refine ct_I_in (cc := bm_Model_trace) (maxL := 4) (by decide) rfl (Nat.le_of_ble_eq_true rfl) ?_
  intro p e s m args below meth c A ls Q S hl hW hret
  have S : pw_S p m c bm_Model_trace 4 s args wa_g rc_Model D cl_s (ty_s k) := S
  have hx := S.1.1
  have hb := S.1.2.1
  have hl : lv_has ls 4 [(0, .ref (g (149))), (1, .int (a)), (2, .int (nI (b0)))] := hl
  have hP2 := hP.1
  refine lv_iload_n hx hb dm_Model_trace_0 rfl (lv_at hl 1 rfl) ?_
  refine pw_callSI (rest := []) S hW (mm_Model_isRegister l D k g σ (x := a)) (cv_Model_69 S.1.2.2.2.2 ⟨by decide, by decide⟩) rfl hl.1 rfl (lv_room (Nat.le_of_ble_eq_true rfl)) ⟨Nat.zero_le _, Nat.zero_le _⟩ dm_Model_trace_1 (fun r σ1 H locs hp hW => ?_)
  obtain ⟨hp, h9⟩ := hp
  rw [h9] at hW
  rcases hp with ⟨hr, a0, ha0, rfl⟩ | ⟨hr, hno⟩
  · subst hr
    have hl : lv_has ls 4 [(0, .ref (g (149))), (1, .int (nI (a0))), (2, .int (nI (b0)))] := hl
    refine wi_if_eq (tgt := 14) S (nn_T (by omega)) dm_Model_trace_4 (by decide) (fun hc => ?_) (fun hc => ?_)
    · exfalso
      omega
    · refine lv_aload_n hx hb dm_Model_trace_7 rfl (lv_at hl 0 rfl) ?_
      refine md_k S hW (wa_in 568 (by decide +kernel) rfl) dm_Model_trace_8 ?_
      refine wi_if_ne (tgt := 16) S (nn_T (by omega)) dm_Model_trace_11 (by decide) (fun hc => ?_) (fun hc => ?_)
      · obtain ⟨f1, f16, fk⟩ := hfd (by omega)
        have hMo := hw.2 24 (by omega)
        have hI := pz_I_ok P (pe_f (σ (300 + 24)))
        refine lv_iload_n hx hb dm_Model_trace_16 rfl (lv_at hl 2 rfl) ?_
        refine wi_if_eq (tgt := 39) S (nn_T (by omega)) dm_Model_trace_17 (by decide) (fun hc => ?_) (fun hc => ?_)
        · refine lv_aload_n hx hb dm_Model_trace_39 rfl (lv_at hl 0 rfl) ?_
          refine lv_iload_n hx hb dm_Model_trace_40 rfl (lv_at hl 1 rfl) ?_
          refine lv_bipush (v := nI (26)) hx hb dm_Model_trace_41 (by decide) ?_
          refine pw_callV (rest := []) S hW (mm_Model_copy l D k g σ hw (a := a0) (b := 26) (by omega) (by omega)) (cv_Model_55 S.1.2.2.2.2 ⟨by decide, by decide⟩) (by decide) en_Model rfl rfl hl.1 rfl (lv_room (Nat.le_of_ble_eq_true rfl)) ⟨Nat.zero_le _, Nat.zero_le _⟩ dm_Model_trace_43 (fun σ2 H locs hp2 hW => ?_)
          obtain ⟨w2, e2, s2⟩ := hp2
          have k2_24 : σ2 (300 + (24)) = σ (300 + (24)) := by rw [s2 _ (by simp only [List.mem_cons, List.not_mem_nil, or_false]; omega)]
          have k2_26 : σ2 (300 + (26)) = σ (300 + (a0)) := by rw [e2]
          refine lv_aload_n hx hb dm_Model_trace_46 rfl (lv_at hl 0 rfl) ?_
          refine lv_bipush (v := nI (26)) hx hb dm_Model_trace_47 (by decide) ?_
          refine lv_bipush (v := nI (24)) hx hb dm_Model_trace_49 (by decide) ?_
          refine pw_callV (rest := []) S hW (mm_Model_rest l D k g σ2 w2 hP hP31 (a := 26) (b := 24) (by omega) (by omega) (by omega) (by omega) (by omega) (by rw [k2_24]; omega)) (cv_Model_52 S.1.2.2.2.2 ⟨by decide, by decide⟩) (by decide) en_Model rfl rfl hl.1 rfl (lv_room (Nat.le_of_ble_eq_true rfl)) ⟨Nat.zero_le _, Nat.zero_le _⟩ dm_Model_trace_51 (fun σ3 H locs hp3 hW => ?_)
          obtain ⟨w3, e3, s3⟩ := hp3
          have k3_24 : σ3 (300 + (24)) = σ (300 + (24)) := by rw [s3 _ (by simp only [List.mem_cons, List.not_mem_nil, or_false]; omega)]; exact k2_24
          have k3_26 : σ3 (300 + (26)) = sp_rest P (σ (300 + (a0))) (σ (300 + (24))) := by rw [e3.1, k2_26, k2_24]
          have k3_32 : σ3 (300 + (32)) = sp_quo P (σ (300 + (a0))) (σ (300 + (24))) := by rw [e3.2, k2_26, k2_24]
          have m3 : md_sm [300 + (26), 300 + (32)] σ σ3 := md_sm_tr s2 s3 (by intro x9 hx9; simp only [List.mem_cons, List.not_mem_nil, or_false] at hx9 ⊢; omega) (by intro x9 hx9; simp only [List.mem_cons, List.not_mem_nil, or_false] at hx9 ⊢; omega)
          refine lv_aload_n hx hb dm_Model_trace_54 rfl (lv_at hl 0 rfl) ?_
          refine lv_bipush (v := nI (25)) hx hb dm_Model_trace_55 (by decide) ?_
          refine lv_iconst (v := nI (0)) hx hb dm_Model_trace_57 (by decide) ?_
          refine pw_callV (rest := []) S hW (mm_Model_number l D k g σ3 w3 (s0 := 25) (v := 0) (by omega) (by omega)) (cv_Model_38 S.1.2.2.2.2 ⟨by decide, by decide⟩) (by decide) en_Model rfl rfl hl.1 rfl (lv_room (Nat.le_of_ble_eq_true rfl)) ⟨Nat.zero_le _, Nat.zero_le _⟩ dm_Model_trace_58 (fun σ4 H locs hp4 hW => ?_)
          obtain ⟨w4, e4, s4⟩ := hp4
          have k4_24 : σ4 (300 + (24)) = σ (300 + (24)) := by rw [s4 _ (by simp only [List.mem_cons, List.not_mem_nil, or_false]; omega)]; exact k3_24
          have k4_26 : σ4 (300 + (26)) = sp_rest P (σ (300 + (a0))) (σ (300 + (24))) := by rw [s4 _ (by simp only [List.mem_cons, List.not_mem_nil, or_false]; omega)]; exact k3_26
          have k4_32 : σ4 (300 + (32)) = sp_quo P (σ (300 + (a0))) (σ (300 + (24))) := by rw [s4 _ (by simp only [List.mem_cons, List.not_mem_nil, or_false]; omega)]; exact k3_32
          have k4_25 : σ4 (300 + (25)) = va_up (fun _ => 0) 0 (0) := by rw [e4]
          have m4 : md_sm [300 + (26), 300 + (32), 300 + (25)] σ σ4 := md_sm_tr m3 s4 (by intro x9 hx9; simp only [List.mem_cons, List.not_mem_nil, or_false] at hx9 ⊢; omega) (by intro x9 hx9; simp only [List.mem_cons, List.not_mem_nil, or_false] at hx9 ⊢; omega)
          refine lv_iconst (v := nI (0)) hx hb dm_Model_trace_61 (by decide) ?_
          refine lv_istore_n hx hb dm_Model_trace_62 rfl hl (by decide) rfl (fun ls hl => ?_)
          have hl : lv_has ls 4 [(3, .int (nI (0))), (0, .ref (g (149))), (1, .int (nI (a0))), (2, .int (nI (b0)))] := hl
          have hl : lv_has ls 4 [(3, .int (nI (0))), (0, .ref (g (149)))] := lv_sub hl [0, 1] rfl
          have loop : ∀ (q9 i : Nat) (τ : st_T), i + q9 = sp_sz (σ (300 + 24)) 31 - 1 → md_wf P τ → md_sm [300 + 25, 300 + 26, 300 + 28, 300 + 31, 300 + 32] σ τ → sp_is P (σ (300 + 24)) (τ (300 + 25)) (@ag_sm pz_T pz_R (fun j => pz_pw (pe_f (σ (300 + a0))) (P ^ j)) i) → sp_is P (σ (300 + 24)) (τ (300 + 26)) (pz_pw (pe_f (σ (300 + a0))) (P ^ i)) → ∀ (ls : Array Slot) (H : Heap) (locs : List Loc), lv_has ls 4 [(3, .int (nI (i))), (0, .ref (g (149)))] → pw_H D cl_s A s.heap g 153 (en_s k g (τ)) H locs → W p l e rm_Model_trace s m args below meth c H locs 0 0 Q (F0 m 63 ls []) := by
            intro q9
            induction q9 with
            | zero =>
              intro i τ hi wτ sτ h25 h26 ls H locs hl hW
              have t24 : τ (300 + 24) = σ (300 + 24) := sτ _ (by simp only [List.mem_cons, List.not_mem_nil, or_false]; omega)
              refine lv_iload_n hx hb dm_Model_trace_63 rfl (lv_at hl 0 rfl) ?_
              refine lv_aload_n hx hb dm_Model_trace_64 rfl (lv_at hl 1 rfl) ?_
              refine md_k S hW (wa_in 568 (by decide +kernel) rfl) dm_Model_trace_65 ?_
              rw [show τ 205 = σ 205 from sτ 205 (by simp only [List.mem_cons, List.not_mem_nil, or_false]; omega), fk]
              refine wi_icmp_ge (tgt := 107) S (nn_T (by omega)) (nn_T (by omega)) dm_Model_trace_68 (by decide) (fun hc => ?_) (fun hc => ?_)
              · refine lv_aload_n hx hb dm_Model_trace_107 rfl (lv_at hl 1 rfl) ?_
                refine lv_bipush (v := nI (25)) hx hb dm_Model_trace_108 (by decide) ?_
                refine lv_iconst (v := nI (0)) hx hb dm_Model_trace_110 (by decide) ?_
                refine pw_callVI (rest := []) S hW (mm_Model_get l D k g τ (s0 := 25) (n := 0) (by omega) (by omega)) (cv_Model_31 S.1.2.2.2.2 ⟨by decide, by decide⟩) (by decide) en_Model rfl rfl hl.1 rfl (lv_room (Nat.le_of_ble_eq_true rfl)) ⟨Nat.zero_le _, Nat.zero_le _⟩ dm_Model_trace_111 (fun r σ1 H locs hp hW => ?_)
                obtain ⟨hr, hp⟩ := hp
                rw [hp] at hW
                subst hr
                have hi : i = sp_sz (σ (300 + 24)) 31 - 1 := by omega
                rw [hi] at h25
                exact hret _ _ _ _ _ _ dm_Model_trace_114 (Or.inr ⟨a0, ⟨ha0, rfl⟩, Or.inr ⟨by omega, ⟨wτ, md_sm_mo sτ (by intro x9 hx9; simp only [List.mem_cons, List.not_mem_nil, or_false] at hx9 ⊢; omega)⟩, _, by unfold fb_acc; rw [if_neg (by omega)]; exact h25, rfl⟩⟩) hW
              · exfalso
                omega
            | succ q9 ih =>
              intro i τ hi wτ sτ h25 h26 ls H locs hl hW
              have t24 : τ (300 + 24) = σ (300 + 24) := sτ _ (by simp only [List.mem_cons, List.not_mem_nil, or_false]; omega)
              refine lv_iload_n hx hb dm_Model_trace_63 rfl (lv_at hl 0 rfl) ?_
              refine lv_aload_n hx hb dm_Model_trace_64 rfl (lv_at hl 1 rfl) ?_
              refine md_k S hW (wa_in 568 (by decide +kernel) rfl) dm_Model_trace_65 ?_
              rw [show τ 205 = σ 205 from sτ 205 (by simp only [List.mem_cons, List.not_mem_nil, or_false]; omega), fk]
              refine wi_icmp_ge (tgt := 107) S (nn_T (by omega)) (nn_T (by omega)) dm_Model_trace_68 (by decide) (fun hc => ?_) (fun hc => ?_)
              · exfalso
                omega
              · have z26 := h26.2.1
                refine lv_aload_n hx hb dm_Model_trace_71 rfl (lv_at hl 1 rfl) ?_
                refine lv_bipush (v := nI (25)) hx hb dm_Model_trace_72 (by decide) ?_
                refine lv_bipush (v := nI (26)) hx hb dm_Model_trace_74 (by decide) ?_
                refine lv_iconst (v := nI (1)) hx hb dm_Model_trace_76 (by decide) ?_
                refine pw_callV (rest := []) S hW (mm_Model_plus l D k g τ wτ (by omega) hP31 (a := 25) (b := 26) (K := 1) (by omega) (by omega) (by omega)) (cv_Model_78 S.1.2.2.2.2 ⟨by decide, by decide⟩) (by decide) en_Model rfl rfl hl.1 rfl (lv_room (Nat.le_of_ble_eq_true rfl)) ⟨Nat.zero_le _, Nat.zero_le _⟩ dm_Model_trace_77 (fun σ11 H locs hp11 hW => ?_)
                obtain ⟨w11, e11, s11⟩ := hp11
                have k11_26 : σ11 (300 + (26)) = τ (300 + 26) := by rw [s11 _ (by simp only [List.mem_cons, List.not_mem_nil, or_false]; omega)]
                have k11_24 : σ11 (300 + (24)) = σ (300 + 24) := by rw [s11 _ (by simp only [List.mem_cons, List.not_mem_nil, or_false]; omega)]; exact t24
                have k11_25 : σ11 (300 + (25)) = sp_add P (τ (300 + 25)) (τ (300 + 26)) (1) := by rw [e11]
                refine lv_aload_n hx hb dm_Model_trace_80 rfl (lv_at hl 1 rfl) ?_
                refine lv_bipush (v := nI (26)) hx hb dm_Model_trace_81 (by decide) ?_
                refine lv_aload_n hx hb dm_Model_trace_83 rfl (lv_at hl 1 rfl) ?_
                refine md_p S hW (wa_in 561 (by decide +kernel) rfl) dm_Model_trace_84 ?_
                rw [w11.1]
                refine wn_i2l S (by omega) dm_Model_trace_87 ?_
                refine lv_bipush (v := nI (24)) hx hb dm_Model_trace_88 (by decide) ?_
                refine pw_callV (rest := []) S hW (mm_Model_power2 l D k g σ11 w11 hP hP31 (a := 26) (m0 := 24) (n0 := P) (by omega) (by omega) (by omega) (by omega) (by omega) (by omega) (by omega) (by omega) (by rw [k11_24]; omega) (by rw [k11_24]; omega) (by rw [k11_24, k11_26]; omega) (by omega)) (cv_Model_65 S.1.2.2.2.2 ⟨by decide, by decide⟩) (by decide) en_Model rfl rfl hl.1 rfl (lv_room (Nat.le_of_ble_eq_true rfl)) ⟨Nat.zero_le _, Nat.zero_le _⟩ dm_Model_trace_90 (fun σ12 H locs hp12 hW => ?_)
                obtain ⟨w12, e12, s12⟩ := hp12
                have k12_26 : σ12 (300 + (26)) = τ (300 + 26) := by rw [s12 _ (by simp only [List.mem_cons, List.not_mem_nil, or_false]; omega)]; exact k11_26
                have k12_24 : σ12 (300 + (24)) = σ (300 + 24) := by rw [s12 _ (by simp only [List.mem_cons, List.not_mem_nil, or_false]; omega)]; exact k11_24
                have k12_25 : σ12 (300 + (25)) = sp_add P (τ (300 + 25)) (τ (300 + 26)) (1) := by rw [s12 _ (by simp only [List.mem_cons, List.not_mem_nil, or_false]; omega)]; exact k11_25
                have m12 : md_sm [300 + (25), 300 + (28), 300 + (31), 300 + (32)] τ σ12 := md_sm_tr s11 s12 (by intro x9 hx9; simp only [List.mem_cons, List.not_mem_nil, or_false] at hx9 ⊢; omega) (by intro x9 hx9; simp only [List.mem_cons, List.not_mem_nil, or_false] at hx9 ⊢; omega)
                rw [k11_24, k11_26] at e12
                refine lv_aload_n hx hb dm_Model_trace_93 rfl (lv_at hl 1 rfl) ?_
                refine lv_bipush (v := nI (28)) hx hb dm_Model_trace_94 (by decide) ?_
                refine lv_bipush (v := nI (26)) hx hb dm_Model_trace_96 (by decide) ?_
                refine pw_callV (rest := []) S hW (mm_Model_copy l D k g σ12 w12 (a := 28) (b := 26) (by omega) (by omega)) (cv_Model_55 S.1.2.2.2.2 ⟨by decide, by decide⟩) (by decide) en_Model rfl rfl hl.1 rfl (lv_room (Nat.le_of_ble_eq_true rfl)) ⟨Nat.zero_le _, Nat.zero_le _⟩ dm_Model_trace_98 (fun σ13 H locs hp13 hW => ?_)
                obtain ⟨w13, e13, s13⟩ := hp13
                have k13_24 : σ13 (300 + (24)) = σ (300 + 24) := by rw [s13 _ (by simp only [List.mem_cons, List.not_mem_nil, or_false]; omega)]; exact k12_24
                have k13_25 : σ13 (300 + (25)) = sp_add P (τ (300 + 25)) (τ (300 + 26)) (1) := by rw [s13 _ (by simp only [List.mem_cons, List.not_mem_nil, or_false]; omega)]; exact k12_25
                have k13_28 : σ13 (300 + (28)) = σ12 (300 + 28) := by rw [s13 _ (by simp only [List.mem_cons, List.not_mem_nil, or_false]; omega)]
                have k13_26 : σ13 (300 + (26)) = σ12 (300 + 28) := by rw [e13]
                have m13 : md_sm [300 + (25), 300 + (28), 300 + (31), 300 + (32), 300 + (26)] τ σ13 := md_sm_tr m12 s13 (by intro x9 hx9; simp only [List.mem_cons, List.not_mem_nil, or_false] at hx9 ⊢; omega) (by intro x9 hx9; simp only [List.mem_cons, List.not_mem_nil, or_false] at hx9 ⊢; omega)
                refine lv_iinc (k := 0) (v := nI (i + 1)) hx hb dm_Model_trace_101 hl rfl (by rw [show Int32.ofInt 1 = nI 1 from rfl, nI_add]) (by decide) rfl (fun ls hl => ?_)
                have hl : lv_has ls 4 [(3, .int (nI (i + 1))), (0, .ref (g (149)))] := hl
                refine lv_goto (tgt := 63) hx hb dm_Model_trace_104 (by decide) ?_
                have hl : lv_has ls 4 [(3, .int (nI (i + 1))), (0, .ref (g (149)))] := lv_sub hl [0, 1] rfl
                refine ih (i + 1) σ13 (by omega) w13 (md_sm_tr sτ m13 (fun _ h => h) (by intro x9 hx9; simp only [List.mem_cons, List.not_mem_nil, or_false] at hx9 ⊢; omega)) ?_ ?_ ls _ _ hl hW
                · rw [k13_25]
                  exact sp_is_add1 hP2 h25 h26
                · rw [k13_26]
                  refine sp_is_q e12 (@ag_tr pz_T pz_R _ hI _ _ _ (@ag_pw pz_T pz_R _ hI _ _ h26.2.2 P) (@ag_of_eq pz_T pz_R _ hI _ _ ?_))
                  rw [Nat.pow_succ]
                  exact (@ag_pow_mul pz_T pz_R _ _ _).symm
          have hr := sp_rest_is hP (hw.2 a0 (by omega)) hMo (by omega)
          refine loop (sp_sz (σ (300 + 24)) 31 - 1) 0 σ4 (by omega) w4 (md_sm_mo m4 (by intro x9 hx9; simp only [List.mem_cons, List.not_mem_nil, or_false] at hx9 ⊢; omega)) ?_ ?_ ls _ _ hl hW
          · rw [k4_25]
            exact sp_is_ct (v := 0) (by omega) f1
          · rw [k4_26, Nat.pow_zero]
            have e1 : pz_pw (pe_f (σ (300 + a0))) 1 = pe_f (σ (300 + a0)) := pz_R.one_mul _
            rw [e1]
            exact hr
        · refine lv_aload_n hx hb dm_Model_trace_20 rfl (lv_at hl 0 rfl) ?_
          refine lv_iload_n hx hb dm_Model_trace_21 rfl (lv_at hl 1 rfl) ?_
          refine lv_aload_n hx hb dm_Model_trace_22 rfl (lv_at hl 0 rfl) ?_
          refine md_k S hW (wa_in 568 (by decide +kernel) rfl) dm_Model_trace_23 ?_
          rw [fk]
          refine lv_bipush (v := nI (24)) hx hb dm_Model_trace_26 (by decide) ?_
          refine pw_callV (rest := []) S hW (mm_Model_chain l D k g σ hw hP hP31 (a := a0) (m0 := 24) (n0 := sp_sz (σ (300 + 24)) 31 - 1) (by omega) (by omega) (by omega) (by omega) (by omega) (by omega) (by omega) (by omega) (by omega) (by omega)) (cv_Model_110 S.1.2.2.2.2 ⟨by decide, by decide⟩) (by decide) en_Model rfl rfl hl.1 rfl (lv_room (Nat.le_of_ble_eq_true rfl)) ⟨Nat.zero_le _, Nat.zero_le _⟩ dm_Model_trace_28 (fun σ2 H locs hp2 hW => ?_)
          obtain ⟨w2, ⟨e2, -⟩, s2⟩ := hp2
          have k2_24 : σ2 (300 + (24)) = σ (300 + (24)) := by rw [s2 _ (by simp only [List.mem_cons, List.not_mem_nil, or_false]; omega)]
          refine lv_aload_n hx hb dm_Model_trace_31 rfl (lv_at hl 0 rfl) ?_
          refine lv_bipush (v := nI (27)) hx hb dm_Model_trace_32 (by decide) ?_
          refine lv_iconst (v := nI (0)) hx hb dm_Model_trace_34 (by decide) ?_
          refine pw_callVI (rest := []) S hW (mm_Model_get l D k g σ2 (s0 := 27) (n := 0) (by omega) (by omega)) (cv_Model_31 S.1.2.2.2.2 ⟨by decide, by decide⟩) (by decide) en_Model rfl rfl hl.1 rfl (lv_room (Nat.le_of_ble_eq_true rfl)) ⟨Nat.zero_le _, Nat.zero_le _⟩ dm_Model_trace_35 (fun r σ1 H locs hp hW => ?_)
          obtain ⟨hr, hp⟩ := hp
          rw [hp] at hW
          subst hr
          exact hret _ _ _ _ _ _ dm_Model_trace_38 (Or.inr ⟨a0, ⟨ha0, rfl⟩, Or.inr ⟨by omega, ⟨w2, md_sm_mo s2 (by intro x9 hx9; simp only [List.mem_cons, List.not_mem_nil, or_false] at hx9 ⊢; omega)⟩, _, by unfold fb_acc; rw [if_pos (by omega)]; exact e2, rfl⟩⟩) hW
      · refine lv_iconst (v := -1) hx hb dm_Model_trace_14 (by decide) ?_
        exact hret _ _ _ _ _ _ dm_Model_trace_15 (Or.inr ⟨a0, ⟨ha0, rfl⟩, Or.inl ⟨by omega, rfl, rfl⟩⟩) hW
  · subst hr
    refine wi_if_eq (tgt := 14) S (nn_T (by omega)) dm_Model_trace_4 (by decide) (fun hc => ?_) (fun hc => ?_)
    · refine lv_iconst (v := -1) hx hb dm_Model_trace_14 (by decide) ?_
      exact hret _ _ _ _ _ _ dm_Model_trace_15 (Or.inl ⟨fun z => hno z, rfl, rfl⟩) hW
    · exfalso
      omega
