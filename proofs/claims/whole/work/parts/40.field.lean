/-! Field: isMade, numberOf, inverseInto -/
theorem dm_Field_isMade_0 : decode bm_Field_isMade 0 = .ok (.aload_n 0, 1) := by decide +kernel
theorem dm_Field_isMade_1 : decode bm_Field_isMade 1 = .ok (.getfield 12, 3) := by decide +kernel
theorem dm_Field_isMade_4 : decode bm_Field_isMade 4 = .ok (.invokevirtual 44, 3) := by decide +kernel
theorem dm_Field_isMade_7 : decode bm_Field_isMade 7 = .ok (.ifCond .ne 7, 3) := by decide +kernel
theorem dm_Field_isMade_10 : decode bm_Field_isMade 10 = .ok (.iconst 1, 1) := by decide +kernel
theorem dm_Field_isMade_11 : decode bm_Field_isMade 11 = .ok (.goto 4, 3) := by decide +kernel
theorem dm_Field_isMade_14 : decode bm_Field_isMade 14 = .ok (.iconst 0, 1) := by decide +kernel
theorem dm_Field_isMade_15 : decode bm_Field_isMade 15 = .ok (.ireturn, 1) := by decide +kernel
set_option maxHeartbeats 4000000 in
set_option maxRecDepth 100000 in
theorem mm_Field_isMade (l : Launch) (D : va_G) (k : ClassId × ClassId × ClassId) (g : Nat → Nat) (σ : st_T) (hs : σ 200 118 ≤ 31) : mt_I l D k g ym_Field_isMade wm_Field_isMade rm_Field_isMade [.ref (g 117)] σ (fun r σ1 => r = nI (if σ 200 118 = 0 then 0 else 1) ∧ σ1 = σ) := by
  refine ct_Z_in (cc := bm_Field_isMade) (maxL := 1) (by decide) rfl (Nat.le_of_ble_eq_true rfl) ?_
  intro p e s m args below meth c A ls Q S hl hW hret
  have S : pw_S p m c bm_Field_isMade 1 s args wa_g rc_Field D cl_s (ty_s k) := S
  have hx := S.1.1
  have hb := S.1.2.1
  have hl : lv_has ls 1 [(0, .ref (g (117)))] := hl
  refine lv_aload_n hx hb dm_Field_isMade_0 rfl (lv_at hl 0 rfl) ?_
  refine fd_base S hW (wa_in 216 (by decide +kernel) rfl) dm_Field_isMade_1 ?_
  refine pw_callVI (rest := []) S hW (mm_Poly_isZero l D k g σ (j := 118) rfl hs) (cv_Field_44 S.1.2.2.2.2 ⟨by decide, by decide⟩) (kd_p1 rfl) (en_k0 rfl) rfl rfl hl.1 rfl (lv_room (Nat.le_of_ble_eq_true rfl)) ⟨Nat.zero_le _, Nat.zero_le _⟩ dm_Field_isMade_4 (fun r σ1 H locs hp hW => ?_)
  obtain ⟨hr, hp⟩ := hp
  rw [hp] at hW
  subst hr
  by_cases hz : σ 200 118 = 0
  · rw [if_pos hz]
    refine wi_if_ne (tgt := 14) S (nn_T (by omega)) dm_Field_isMade_7 (by decide) (fun hc => ?_) (fun hc => ?_)
    · refine lv_iconst (v := nI (0)) hx hb dm_Field_isMade_14 (by decide) ?_
      exact hret _ _ _ _ _ _ dm_Field_isMade_15 (by decide) ⟨by rw [if_pos hz], rfl⟩ hW
    · exfalso
      omega
  · rw [if_neg hz]
    refine wi_if_ne (tgt := 14) S (nn_T (by omega)) dm_Field_isMade_7 (by decide) (fun hc => ?_) (fun hc => ?_)
    · exfalso
      omega
    · refine lv_iconst (v := nI (1)) hx hb dm_Field_isMade_10 (by decide) ?_
      refine lv_goto (tgt := 15) hx hb dm_Field_isMade_11 (by decide) ?_
      exact hret _ _ _ _ _ _ dm_Field_isMade_15 (by decide) ⟨by rw [if_neg hz], rfl⟩ hW
theorem dm_Field_numberOf_0 : decode bm_Field_numberOf 0 = .ok (.aload_n 0, 1) := by decide +kernel
theorem dm_Field_numberOf_1 : decode bm_Field_numberOf 1 = .ok (.getfield 40, 3) := by decide +kernel
theorem dm_Field_numberOf_4 : decode bm_Field_numberOf 4 = .ok (.aload_n 0, 1) := by decide +kernel
theorem dm_Field_numberOf_5 : decode bm_Field_numberOf 5 = .ok (.getfield 12, 3) := by decide +kernel
theorem dm_Field_numberOf_8 : decode bm_Field_numberOf 8 = .ok (.invokevirtual 95, 3) := by decide +kernel
theorem dm_Field_numberOf_11 : decode bm_Field_numberOf 11 = .ok (.aload_n 0, 1) := by decide +kernel
theorem dm_Field_numberOf_12 : decode bm_Field_numberOf 12 = .ok (.getfield 40, 3) := by decide +kernel
theorem dm_Field_numberOf_15 : decode bm_Field_numberOf 15 = .ok (.aload_n 0, 1) := by decide +kernel
theorem dm_Field_numberOf_16 : decode bm_Field_numberOf 16 = .ok (.getfield 21, 3) := by decide +kernel
theorem dm_Field_numberOf_19 : decode bm_Field_numberOf 19 = .ok (.aload_n 1, 1) := by decide +kernel
theorem dm_Field_numberOf_20 : decode bm_Field_numberOf 20 = .ok (.aload_n 0, 1) := by decide +kernel
theorem dm_Field_numberOf_21 : decode bm_Field_numberOf 21 = .ok (.getfield 12, 3) := by decide +kernel
theorem dm_Field_numberOf_24 : decode bm_Field_numberOf 24 = .ok (.getfield 65, 3) := by decide +kernel
theorem dm_Field_numberOf_27 : decode bm_Field_numberOf 27 = .ok (.iload_n 2, 1) := by decide +kernel
theorem dm_Field_numberOf_28 : decode bm_Field_numberOf 28 = .ok (.invokevirtual 100, 3) := by decide +kernel
theorem dm_Field_numberOf_31 : decode bm_Field_numberOf 31 = .ok (.aload_n 0, 1) := by decide +kernel
theorem dm_Field_numberOf_32 : decode bm_Field_numberOf 32 = .ok (.getfield 21, 3) := by decide +kernel
theorem dm_Field_numberOf_35 : decode bm_Field_numberOf 35 = .ok (.getfield 104, 3) := by decide +kernel
theorem dm_Field_numberOf_38 : decode bm_Field_numberOf 38 = .ok (.iconst 0, 1) := by decide +kernel
theorem dm_Field_numberOf_39 : decode bm_Field_numberOf 39 = .ok (.iaload, 1) := by decide +kernel
theorem dm_Field_numberOf_40 : decode bm_Field_numberOf 40 = .ok (.ireturn, 1) := by decide +kernel
set_option maxHeartbeats 4000000 in
set_option maxRecDepth 100000 in
theorem mm_Field_numberOf (l : Launch) (D : va_G) (k : ClassId × ClassId × ClassId) (g : Nat → Nat) (σ : st_T) {P a b0 : Nat} (hw : st_wf P σ) (hP : ag_pr P) (hP31 : P < 2147483648) (ha_ : kd_k a = 0) (hx21 : σ 21 = sp_x) (hb1 : 1 < σ 200 118) (hb16 : σ 200 118 ≤ 16) (haY : a ∉ fb_X) (hb0 : b0 < 2) : mt_I l D k g ym_Field_numberOf wm_Field_numberOf rm_Field_numberOf [.ref (g 117), .ref (g a), .int (nI b0)] σ (fun r σ1 => r = nI (σ1 122 0) ∧ sp_is P (σ 118) (σ1 122) (fb_acc P b0 (pe_f (σ a)) (σ 200 118 - 1)) ∧ st_wf P σ1 ∧ st_sm (122 :: fb_Y) σ σ1) := by
  refine ct_I_in (cc := bm_Field_numberOf) (maxL := 3) (by decide) rfl (Nat.le_of_ble_eq_true rfl) ?_
  intro p e s m args below meth c A ls Q S hl hW hret
  have S : pw_S p m c bm_Field_numberOf 3 s args wa_g rc_Field D cl_s (ty_s k) := S
  have hx := S.1.1
  have hb := S.1.2.1
  have hl : lv_has ls 3 [(0, .ref (g (117))), (1, .ref (g (a))), (2, .int (nI (b0)))] := hl
  have ka := kd_po ha_
  have hzb := (hw.2 118 rfl).2
  have hob := (hw.2 118 rfl).1
  refine lv_aload_n hx hb dm_Field_numberOf_0 rfl (lv_at hl 0 rfl) ?_
  refine fd_frobenius S hW (wa_in 215 (by decide +kernel) rfl) dm_Field_numberOf_1 ?_
  refine lv_aload_n hx hb dm_Field_numberOf_4 rfl (lv_at hl 0 rfl) ?_
  refine fd_base S hW (wa_in 216 (by decide +kernel) rfl) dm_Field_numberOf_5 ?_
  refine pw_callV (rest := []) S hW (mm_Frob_prepareFor l D k g σ hw hP hP31 (m0 := 118) rfl hb1 hb16 hx21) (cv_Field_95 S.1.2.2.2.2 ⟨by decide, by decide⟩) (by decide) en_Frob rfl rfl hl.1 rfl (lv_room (Nat.le_of_ble_eq_true rfl)) ⟨Nat.zero_le _, Nat.zero_le _⟩ dm_Field_numberOf_8 (fun σ2 H locs hp2 hW => ?_)
  obtain ⟨w2, ⟨t2, c2⟩, s2⟩ := hp2
  have e2a : σ2 a = σ a := s2 a haY (by omega)
  have z2 : σ2 200 118 = σ 200 118 := st_sm_sz hw w2 s2 (j := 118) rfl (by decide)
  refine lv_aload_n hx hb dm_Field_numberOf_11 rfl (lv_at hl 0 rfl) ?_
  refine fd_frobenius S hW (wa_in 215 (by decide +kernel) rfl) dm_Field_numberOf_12 ?_
  refine lv_aload_n hx hb dm_Field_numberOf_15 rfl (lv_at hl 0 rfl) ?_
  refine fd_change S hW (wa_in 219 (by decide +kernel) rfl) dm_Field_numberOf_16 ?_
  refine lv_aload_n hx hb dm_Field_numberOf_19 rfl (lv_at hl 1 rfl) ?_
  refine lv_aload_n hx hb dm_Field_numberOf_20 rfl (lv_at hl 0 rfl) ?_
  refine fd_base S hW (wa_in 216 (by decide +kernel) rfl) dm_Field_numberOf_21 ?_
  refine po_getd S hW rfl (wa_in 52 (by decide +kernel) rfl) dm_Field_numberOf_24 ?_
  rw [z2]
  rw [sd_n (show 0 < σ 200 118 by omega)]
  refine lv_iload_n hx hb dm_Field_numberOf_27 rfl (lv_at hl 2 rfl) ?_
  refine pw_callV (rest := []) S hW (mm_Frob_gatherInto l D k g σ2 hob (by omega) (by omega) w2 hP hP31 (x := 122) rfl ha_ t2 (fun z => haY (by rw [z]; decide)) (fun z => haY (by rw [z]; decide)) (by decide) (by omega) (by omega) hb0) (cv_Field_100 S.1.2.2.2.2 ⟨by decide, by decide⟩) (by decide) en_Frob rfl rfl hl.1 rfl (lv_room (Nat.le_of_ble_eq_true rfl)) ⟨Nat.zero_le _, Nat.zero_le _⟩ dm_Field_numberOf_28 (fun σ3 H locs hp3 hW => ?_)
  obtain ⟨w3, e3, s3⟩ := hp3
  rw [e2a] at e3
  refine lv_aload_n hx hb dm_Field_numberOf_31 rfl (lv_at hl 0 rfl) ?_
  refine fd_change S hW (wa_in 219 (by decide +kernel) rfl) dm_Field_numberOf_32 ?_
  refine po_getc S hW rfl (wa_in 43 (by decide +kernel) rfl) dm_Field_numberOf_35 ?_
  refine lv_iconst (v := nI (0)) hx hb dm_Field_numberOf_38 (by decide) ?_
  refine po_ald S hW rfl (by omega) dm_Field_numberOf_39 ?_
  exact hret _ _ _ _ _ _ dm_Field_numberOf_40 ⟨rfl, e3, w3, st_sm_tr s2 s3 (by decide) (by decide)⟩ hW
theorem dm_Field_inverseInto_0 : decode bm_Field_inverseInto 0 = .ok (.aload_n 0, 1) := by decide +kernel
theorem dm_Field_inverseInto_1 : decode bm_Field_inverseInto 1 = .ok (.getfield 24, 3) := by decide +kernel
theorem dm_Field_inverseInto_4 : decode bm_Field_inverseInto 4 = .ok (.astore_n 3, 1) := by decide +kernel
theorem dm_Field_inverseInto_5 : decode bm_Field_inverseInto 5 = .ok (.aload_n 0, 1) := by decide +kernel
theorem dm_Field_inverseInto_6 : decode bm_Field_inverseInto 6 = .ok (.getfield 27, 3) := by decide +kernel
theorem dm_Field_inverseInto_9 : decode bm_Field_inverseInto 9 = .ok (.astore 4, 2) := by decide +kernel
theorem dm_Field_inverseInto_11 : decode bm_Field_inverseInto 11 = .ok (.aload_n 0, 1) := by decide +kernel
theorem dm_Field_inverseInto_12 : decode bm_Field_inverseInto 12 = .ok (.getfield 30, 3) := by decide +kernel
theorem dm_Field_inverseInto_15 : decode bm_Field_inverseInto 15 = .ok (.astore 5, 2) := by decide +kernel
theorem dm_Field_inverseInto_17 : decode bm_Field_inverseInto 17 = .ok (.aload_n 0, 1) := by decide +kernel
theorem dm_Field_inverseInto_18 : decode bm_Field_inverseInto 18 = .ok (.getfield 33, 3) := by decide +kernel
theorem dm_Field_inverseInto_21 : decode bm_Field_inverseInto 21 = .ok (.astore 6, 2) := by decide +kernel
theorem dm_Field_inverseInto_23 : decode bm_Field_inverseInto 23 = .ok (.aload_n 3, 1) := by decide +kernel
theorem dm_Field_inverseInto_24 : decode bm_Field_inverseInto 24 = .ok (.aload_n 0, 1) := by decide +kernel
theorem dm_Field_inverseInto_25 : decode bm_Field_inverseInto 25 = .ok (.getfield 12, 3) := by decide +kernel
theorem dm_Field_inverseInto_28 : decode bm_Field_inverseInto 28 = .ok (.invokevirtual 48, 3) := by decide +kernel
theorem dm_Field_inverseInto_31 : decode bm_Field_inverseInto 31 = .ok (.aload_n 0, 1) := by decide +kernel
theorem dm_Field_inverseInto_32 : decode bm_Field_inverseInto 32 = .ok (.getfield 36, 3) := by decide +kernel
theorem dm_Field_inverseInto_35 : decode bm_Field_inverseInto 35 = .ok (.aload 4, 2) := by decide +kernel
theorem dm_Field_inverseInto_37 : decode bm_Field_inverseInto 37 = .ok (.aload_n 2, 1) := by decide +kernel
theorem dm_Field_inverseInto_38 : decode bm_Field_inverseInto 38 = .ok (.aload_n 0, 1) := by decide +kernel
theorem dm_Field_inverseInto_39 : decode bm_Field_inverseInto 39 = .ok (.getfield 12, 3) := by decide +kernel
theorem dm_Field_inverseInto_42 : decode bm_Field_inverseInto 42 = .ok (.invokevirtual 52, 3) := by decide +kernel
theorem dm_Field_inverseInto_45 : decode bm_Field_inverseInto 45 = .ok (.aload 4, 2) := by decide +kernel
theorem dm_Field_inverseInto_47 : decode bm_Field_inverseInto 47 = .ok (.invokevirtual 44, 3) := by decide +kernel
theorem dm_Field_inverseInto_50 : decode bm_Field_inverseInto 50 = .ok (.ifCond .eq 5, 3) := by decide +kernel
theorem dm_Field_inverseInto_53 : decode bm_Field_inverseInto 53 = .ok (.iconst 0, 1) := by decide +kernel
theorem dm_Field_inverseInto_54 : decode bm_Field_inverseInto 54 = .ok (.ireturn, 1) := by decide +kernel
theorem dm_Field_inverseInto_55 : decode bm_Field_inverseInto 55 = .ok (.aload 5, 2) := by decide +kernel
theorem dm_Field_inverseInto_57 : decode bm_Field_inverseInto 57 = .ok (.invokevirtual 58, 3) := by decide +kernel
theorem dm_Field_inverseInto_60 : decode bm_Field_inverseInto 60 = .ok (.aload 6, 2) := by decide +kernel
theorem dm_Field_inverseInto_62 : decode bm_Field_inverseInto 62 = .ok (.iconst 1, 1) := by decide +kernel
theorem dm_Field_inverseInto_63 : decode bm_Field_inverseInto 63 = .ok (.iconst 0, 1) := by decide +kernel
theorem dm_Field_inverseInto_64 : decode bm_Field_inverseInto 64 = .ok (.invokevirtual 61, 3) := by decide +kernel
theorem dm_Field_inverseInto_67 : decode bm_Field_inverseInto 67 = .ok (.iconst 0, 1) := by decide +kernel
theorem dm_Field_inverseInto_68 : decode bm_Field_inverseInto 68 = .ok (.istore 7, 2) := by decide +kernel
theorem dm_Field_inverseInto_70 : decode bm_Field_inverseInto 70 = .ok (.iload 7, 2) := by decide +kernel
theorem dm_Field_inverseInto_72 : decode bm_Field_inverseInto 72 = .ok (.bipush 15, 2) := by decide +kernel
theorem dm_Field_inverseInto_74 : decode bm_Field_inverseInto 74 = .ok (.if_icmp .gt 95, 3) := by decide +kernel
theorem dm_Field_inverseInto_77 : decode bm_Field_inverseInto 77 = .ok (.aload 4, 2) := by decide +kernel
theorem dm_Field_inverseInto_79 : decode bm_Field_inverseInto 79 = .ok (.getfield 65, 3) := by decide +kernel
theorem dm_Field_inverseInto_82 : decode bm_Field_inverseInto 82 = .ok (.ifCond .le 87, 3) := by decide +kernel
theorem dm_Field_inverseInto_85 : decode bm_Field_inverseInto 85 = .ok (.aload_n 0, 1) := by decide +kernel
theorem dm_Field_inverseInto_86 : decode bm_Field_inverseInto 86 = .ok (.getfield 36, 3) := by decide +kernel
theorem dm_Field_inverseInto_89 : decode bm_Field_inverseInto 89 = .ok (.aload_n 0, 1) := by decide +kernel
theorem dm_Field_inverseInto_90 : decode bm_Field_inverseInto 90 = .ok (.getfield 18, 3) := by decide +kernel
theorem dm_Field_inverseInto_93 : decode bm_Field_inverseInto 93 = .ok (.aload_n 3, 1) := by decide +kernel
theorem dm_Field_inverseInto_94 : decode bm_Field_inverseInto 94 = .ok (.aload_n 3, 1) := by decide +kernel
theorem dm_Field_inverseInto_95 : decode bm_Field_inverseInto 95 = .ok (.aload 4, 2) := by decide +kernel
theorem dm_Field_inverseInto_97 : decode bm_Field_inverseInto 97 = .ok (.invokevirtual 69, 3) := by decide +kernel
theorem dm_Field_inverseInto_100 : decode bm_Field_inverseInto 100 = .ok (.aload_n 0, 1) := by decide +kernel
theorem dm_Field_inverseInto_101 : decode bm_Field_inverseInto 101 = .ok (.getfield 36, 3) := by decide +kernel
theorem dm_Field_inverseInto_104 : decode bm_Field_inverseInto 104 = .ok (.aload_n 0, 1) := by decide +kernel
theorem dm_Field_inverseInto_105 : decode bm_Field_inverseInto 105 = .ok (.getfield 21, 3) := by decide +kernel
theorem dm_Field_inverseInto_108 : decode bm_Field_inverseInto 108 = .ok (.aload_n 0, 1) := by decide +kernel
theorem dm_Field_inverseInto_109 : decode bm_Field_inverseInto 109 = .ok (.getfield 18, 3) := by decide +kernel
theorem dm_Field_inverseInto_112 : decode bm_Field_inverseInto 112 = .ok (.aload 6, 2) := by decide +kernel
theorem dm_Field_inverseInto_114 : decode bm_Field_inverseInto 114 = .ok (.invokevirtual 73, 3) := by decide +kernel
theorem dm_Field_inverseInto_117 : decode bm_Field_inverseInto 117 = .ok (.aload_n 0, 1) := by decide +kernel
theorem dm_Field_inverseInto_118 : decode bm_Field_inverseInto 118 = .ok (.getfield 36, 3) := by decide +kernel
theorem dm_Field_inverseInto_121 : decode bm_Field_inverseInto 121 = .ok (.aload 5, 2) := by decide +kernel
theorem dm_Field_inverseInto_123 : decode bm_Field_inverseInto 123 = .ok (.aload 5, 2) := by decide +kernel
theorem dm_Field_inverseInto_125 : decode bm_Field_inverseInto 125 = .ok (.aload_n 0, 1) := by decide +kernel
theorem dm_Field_inverseInto_126 : decode bm_Field_inverseInto 126 = .ok (.getfield 21, 3) := by decide +kernel
theorem dm_Field_inverseInto_129 : decode bm_Field_inverseInto 129 = .ok (.aload_n 0, 1) := by decide +kernel
theorem dm_Field_inverseInto_130 : decode bm_Field_inverseInto 130 = .ok (.getfield 36, 3) := by decide +kernel
theorem dm_Field_inverseInto_133 : decode bm_Field_inverseInto 133 = .ok (.getfield 76, 3) := by decide +kernel
theorem dm_Field_inverseInto_136 : decode bm_Field_inverseInto 136 = .ok (.iconst 1, 1) := by decide +kernel
theorem dm_Field_inverseInto_137 : decode bm_Field_inverseInto 137 = .ok (.isub, 1) := by decide +kernel
theorem dm_Field_inverseInto_138 : decode bm_Field_inverseInto 138 = .ok (.invokevirtual 79, 3) := by decide +kernel
theorem dm_Field_inverseInto_141 : decode bm_Field_inverseInto 141 = .ok (.aload_n 3, 1) := by decide +kernel
theorem dm_Field_inverseInto_142 : decode bm_Field_inverseInto 142 = .ok (.astore 8, 2) := by decide +kernel
theorem dm_Field_inverseInto_144 : decode bm_Field_inverseInto 144 = .ok (.aload 4, 2) := by decide +kernel
theorem dm_Field_inverseInto_146 : decode bm_Field_inverseInto 146 = .ok (.astore_n 3, 1) := by decide +kernel
theorem dm_Field_inverseInto_147 : decode bm_Field_inverseInto 147 = .ok (.aload 8, 2) := by decide +kernel
theorem dm_Field_inverseInto_149 : decode bm_Field_inverseInto 149 = .ok (.astore 4, 2) := by decide +kernel
theorem dm_Field_inverseInto_151 : decode bm_Field_inverseInto 151 = .ok (.aload 5, 2) := by decide +kernel
theorem dm_Field_inverseInto_153 : decode bm_Field_inverseInto 153 = .ok (.astore 8, 2) := by decide +kernel
theorem dm_Field_inverseInto_155 : decode bm_Field_inverseInto 155 = .ok (.aload 6, 2) := by decide +kernel
theorem dm_Field_inverseInto_157 : decode bm_Field_inverseInto 157 = .ok (.astore 5, 2) := by decide +kernel
theorem dm_Field_inverseInto_159 : decode bm_Field_inverseInto 159 = .ok (.aload 8, 2) := by decide +kernel
theorem dm_Field_inverseInto_161 : decode bm_Field_inverseInto 161 = .ok (.astore 6, 2) := by decide +kernel
theorem dm_Field_inverseInto_163 : decode bm_Field_inverseInto 163 = .ok (.iinc 7 1, 3) := by decide +kernel
theorem dm_Field_inverseInto_166 : decode bm_Field_inverseInto 166 = .ok (.goto (-96), 3) := by decide +kernel
theorem dm_Field_inverseInto_169 : decode bm_Field_inverseInto 169 = .ok (.aload_n 0, 1) := by decide +kernel
theorem dm_Field_inverseInto_170 : decode bm_Field_inverseInto 170 = .ok (.getfield 36, 3) := by decide +kernel
theorem dm_Field_inverseInto_173 : decode bm_Field_inverseInto 173 = .ok (.aload_n 1, 1) := by decide +kernel
theorem dm_Field_inverseInto_174 : decode bm_Field_inverseInto 174 = .ok (.aload 6, 2) := by decide +kernel
theorem dm_Field_inverseInto_176 : decode bm_Field_inverseInto 176 = .ok (.aload_n 0, 1) := by decide +kernel
theorem dm_Field_inverseInto_177 : decode bm_Field_inverseInto 177 = .ok (.getfield 36, 3) := by decide +kernel
theorem dm_Field_inverseInto_180 : decode bm_Field_inverseInto 180 = .ok (.aload 4, 2) := by decide +kernel
theorem dm_Field_inverseInto_182 : decode bm_Field_inverseInto 182 = .ok (.invokevirtual 83, 3) := by decide +kernel
theorem dm_Field_inverseInto_185 : decode bm_Field_inverseInto 185 = .ok (.invokevirtual 87, 3) := by decide +kernel
theorem dm_Field_inverseInto_188 : decode bm_Field_inverseInto 188 = .ok (.invokevirtual 91, 3) := by decide +kernel
theorem dm_Field_inverseInto_191 : decode bm_Field_inverseInto 191 = .ok (.iconst 1, 1) := by decide +kernel
theorem dm_Field_inverseInto_192 : decode bm_Field_inverseInto 192 = .ok (.ireturn, 1) := by decide +kernel
set_option maxHeartbeats 4000000 in
set_option maxRecDepth 100000 in
theorem mm_Field_inverseInto (l : Launch) (D : va_G) (k : ClassId × ClassId × ClassId) (g : Nat → Nat) (σ : st_T) {P x a : Nat} (hw : st_wf P σ) (hP : ag_pr P) (hP31 : P < 2147483648) (hx_ : kd_k x = 0) (ha_ : kd_k a = 0) (hir : pz_ir P (sp_sz (σ 118) 31 - 1) (pe_f (σ 118))) (hb1 : 1 < σ 200 118) (hb16 : σ 200 118 ≤ 16) (haX : a ∉ [4, 6, 124, 126]) (hxX : x ∉ [2, 4, 6, 118, 120, 122, 124, 126, 128, 130]) : mt_I l D k g ym_Field_inverseInto wm_Field_inverseInto rm_Field_inverseInto [.ref (g 117), .ref (g x), .ref (g a)] σ (fun r σ1 => (st_wf P σ1 ∧ st_sm [x, 2, 4, 6, 120, 122, 124, 126, 128, 130] σ σ1) ∧ ((sp_sz (sp_rest P (σ a) (σ 118)) 31 = 0 ∧ r = nI 0 ∧ σ1 x = σ x) ∨ (0 < sp_sz (sp_rest P (σ a) (σ 118)) 31 ∧ r = nI 1 ∧ sp_sz (σ1 x) 31 < sp_sz (σ 118) 31 ∧ @ag_q pz_T pz_R (pz_I P (pe_f (σ 118))) (pz_ml (pe_f (σ1 x)) (pe_f (sp_rest P (σ a) (σ 118)))) (pz_ct 1)))) := by
  refine ct_Z_in (cc := bm_Field_inverseInto) (maxL := 9) (by decide) rfl (Nat.le_of_ble_eq_true rfl) ?_
  intro p e s m args below meth c A ls Q S hl hW hret
  have S : pw_S p m c bm_Field_inverseInto 9 s args wa_g rc_Field D cl_s (ty_s k) := S
  have hx := S.1.1
  have hb := S.1.2.1
  have hl : lv_has ls 9 [(0, .ref (g (117))), (1, .ref (g (x))), (2, .ref (g (a)))] := hl
  have hP2 := hP.1
  have hp0 : 0 < P := by omega
  have ka := kd_po ha_
  have kx := kd_po hx_
  have hzb := (hw.2 118 rfl).2
  have hob := (hw.2 118 rfl).1
  have han : a ≠ 4 ∧ a ≠ 6 ∧ a ≠ 124 ∧ a ≠ 126 := ⟨fun z => haX (by rw [z]; decide), fun z => haX (by rw [z]; decide), fun z => haX (by rw [z]; decide), fun z => haX (by rw [z]; decide)⟩
  have hdv0 := sp_dv_ok hP (hw.2 a ha_).1 hob (by omega)
  have hr0 := sp_rest_is hP (hw.2 a ha_).1 hob (by omega)
  have w1 : st_wf P (st_po σ 124 (σ 118)) := st_wf_po hw (j := 124) rfl hob
  refine lv_aload_n hx hb dm_Field_inverseInto_0 rfl (lv_at hl 0 rfl) ?_
  refine fd_first S hW (wa_in 220 (by decide +kernel) rfl) dm_Field_inverseInto_1 ?_
  refine lv_astore_n hx hb dm_Field_inverseInto_4 rfl hl (by decide) rfl (fun ls hl => ?_)
  have hl : lv_has ls 9 [(3, .ref (g (124))), (0, .ref (g (117))), (1, .ref (g (x))), (2, .ref (g (a)))] := hl
  refine lv_aload_n hx hb dm_Field_inverseInto_5 rfl (lv_at hl 1 rfl) ?_
  refine fd_second S hW (wa_in 221 (by decide +kernel) rfl) dm_Field_inverseInto_6 ?_
  refine lv_astore hx hb dm_Field_inverseInto_9 hl (by decide) rfl (fun ls hl => ?_)
  have hl : lv_has ls 9 [(4, .ref (g (126))), (3, .ref (g (124))), (0, .ref (g (117))), (1, .ref (g (x))), (2, .ref (g (a)))] := hl
  refine lv_aload_n hx hb dm_Field_inverseInto_11 rfl (lv_at hl 2 rfl) ?_
  refine fd_firstFactor S hW (wa_in 222 (by decide +kernel) rfl) dm_Field_inverseInto_12 ?_
  refine lv_astore hx hb dm_Field_inverseInto_15 hl (by decide) rfl (fun ls hl => ?_)
  have hl : lv_has ls 9 [(5, .ref (g (128))), (4, .ref (g (126))), (3, .ref (g (124))), (0, .ref (g (117))), (1, .ref (g (x))), (2, .ref (g (a)))] := hl
  refine lv_aload_n hx hb dm_Field_inverseInto_17 rfl (lv_at hl 3 rfl) ?_
  refine fd_secondFactor S hW (wa_in 223 (by decide +kernel) rfl) dm_Field_inverseInto_18 ?_
  refine lv_astore hx hb dm_Field_inverseInto_21 hl (by decide) rfl (fun ls hl => ?_)
  have hl : lv_has ls 9 [(6, .ref (g (130))), (5, .ref (g (128))), (4, .ref (g (126))), (3, .ref (g (124))), (0, .ref (g (117))), (1, .ref (g (x))), (2, .ref (g (a)))] := hl
  refine lv_aload_n hx hb dm_Field_inverseInto_23 rfl (lv_at hl 3 rfl) ?_
  refine lv_aload_n hx hb dm_Field_inverseInto_24 rfl (lv_at hl 4 rfl) ?_
  refine fd_base S hW (wa_in 216 (by decide +kernel) rfl) dm_Field_inverseInto_25 ?_
  refine pw_callV (rest := []) S hW (mm_Poly_copyFrom l D k g σ hw (i := 118) rfl (j := 124) rfl) (cv_Field_48 S.1.2.2.2.2 ⟨by decide, by decide⟩) (kd_p1 rfl) (en_k0 rfl) rfl rfl hl.1 rfl (lv_room (Nat.le_of_ble_eq_true rfl)) ⟨Nat.zero_le _, Nat.zero_le _⟩ dm_Field_inverseInto_28 (fun σ1 H locs hp hW => ?_)
  rw [hp] at hW
  refine lv_aload_n hx hb dm_Field_inverseInto_31 rfl (lv_at hl 4 rfl) ?_
  refine fd_ring S hW (wa_in 214 (by decide +kernel) rfl) dm_Field_inverseInto_32 ?_
  refine lv_aload hx hb dm_Field_inverseInto_35 (lv_at hl 2 rfl) ?_
  refine lv_aload_n hx hb dm_Field_inverseInto_37 rfl (lv_at hl 6 rfl) ?_
  refine lv_aload_n hx hb dm_Field_inverseInto_38 rfl (lv_at hl 4 rfl) ?_
  refine fd_base S hW (wa_in 216 (by decide +kernel) rfl) dm_Field_inverseInto_39 ?_
  refine pw_callV (rest := []) S hW (mm_Ring_restInto l D k g (st_po σ 124 (σ 118)) w1 hP hP31 (x := 126) rfl ha_ (b := 118) rfl han.1 han.2.1 (by decide) (by decide) (by rw [st_po_sz2 (by decide) (by decide)]; omega)) (cv_Field_52 S.1.2.2.2.2 ⟨by decide, by decide⟩) (by decide) en_Ring rfl rfl hl.1 rfl (lv_room (Nat.le_of_ble_eq_true rfl)) ⟨Nat.zero_le _, Nat.zero_le _⟩ dm_Field_inverseInto_42 (fun σ2 H locs hp2 hW => ?_)
  obtain ⟨w2, e2, s2⟩ := hp2
  rw [st_po_row han.2.2.1 (by omega), st_po_row (by decide) (by decide)] at e2
  have e2124 : σ2 124 = σ 118 := by rw [s2 124 (by decide) (by decide), st_po_at]
  have e2118 : σ2 118 = σ 118 := by rw [s2 118 (by decide) (by decide), st_po_row (by decide) (by decide)]
  have sm2 : st_sm [x, 2, 4, 6, 120, 122, 124, 126, 128, 130] σ σ2 := st_sm_tr (st_sm_po σ 124 _) s2 (by intro a ha; simp only [List.mem_cons, List.not_mem_nil, or_false] at ha ⊢; omega) (by intro a ha; simp only [List.mem_cons, List.not_mem_nil, or_false] at ha ⊢; omega)
  have z126 := (w2.2 126 rfl).2
  have z126b := st_wf_sz w2 (j := 126) rfl
  rw [e2] at z126
  refine lv_aload hx hb dm_Field_inverseInto_45 (lv_at hl 2 rfl) ?_
  refine pw_callVI (rest := []) S hW (mm_Poly_isZero l D k g σ2 (j := 126) rfl z126b) (cv_Field_44 S.1.2.2.2.2 ⟨by decide, by decide⟩) (kd_p1 rfl) (en_k0 rfl) rfl rfl hl.1 rfl (lv_room (Nat.le_of_ble_eq_true rfl)) ⟨Nat.zero_le _, Nat.zero_le _⟩ dm_Field_inverseInto_47 (fun r σ9 H locs hp hW => ?_)
  obtain ⟨hr, hp⟩ := hp
  rw [hp] at hW
  subst hr
  by_cases hz : σ2 200 126 = 0
  · rw [if_pos hz]
    refine wi_if_eq (tgt := 55) S (nn_T (by omega)) dm_Field_inverseInto_50 (by decide) (fun hc => ?_) (fun hc => ?_)
    · exfalso
      omega
    · refine lv_iconst (v := nI (0)) hx hb dm_Field_inverseInto_53 (by decide) ?_
      exact hret _ _ _ _ _ _ dm_Field_inverseInto_54 (by decide) ⟨⟨w2, sm2⟩, Or.inl ⟨by omega, rfl, by rw [s2 x (fun z => hxX (by simp only [List.mem_cons, List.not_mem_nil, or_false] at z ⊢; omega)) (by omega), st_po_row (fun z => hxX (by rw [z]; decide)) (by omega)]⟩⟩ hW
  · rw [if_neg hz]
    refine wi_if_eq (tgt := 55) S (nn_T (by omega)) dm_Field_inverseInto_50 (by decide) (fun hc => ?_) (fun hc => ?_)
    · refine lv_aload hx hb dm_Field_inverseInto_55 (lv_at hl 1 rfl) ?_
      refine pw_callV (rest := []) S hW (mm_Poly_clear l D k g σ2 (j := 128) rfl) (cv_Field_58 S.1.2.2.2.2 ⟨by decide, by decide⟩) (kd_p1 rfl) (en_k0 rfl) rfl rfl hl.1 rfl (lv_room (Nat.le_of_ble_eq_true rfl)) ⟨Nat.zero_le _, Nat.zero_le _⟩ dm_Field_inverseInto_57 (fun σ3 H locs hp3 hW => ?_)
      rw [hp3, st_cl_po w2 (j := 128) rfl] at hW
      have w3 : st_wf P (st_po σ2 128 (fun _ => 0)) := st_wf_po w2 (j := 128) rfl (sp_z_ok hp0)
      refine lv_aload hx hb dm_Field_inverseInto_60 (lv_at hl 0 rfl) ?_
      refine lv_iconst (v := nI (1)) hx hb dm_Field_inverseInto_62 (by decide) ?_
      refine lv_iconst (v := nI (0)) hx hb dm_Field_inverseInto_63 (by decide) ?_
      refine pw_callV (rest := []) S hW (mm_Poly_becomeTerm l D k g (st_po σ2 128 (fun _ => 0)) w3 (j := 130) rfl (v := 1) (n := 0) (by omega) (by omega)) (cv_Field_61 S.1.2.2.2.2 ⟨by decide, by decide⟩) (kd_p1 rfl) (en_k0 rfl) rfl rfl hl.1 rfl (lv_room (Nat.le_of_ble_eq_true rfl)) ⟨Nat.zero_le _, Nat.zero_le _⟩ dm_Field_inverseInto_64 (fun σ4 H locs hp4 hW => ?_)
      rw [hp4] at hW
      have w4 : st_wf P (st_po (st_po σ2 128 (fun _ => 0)) 130 (va_up (fun _ => 0) 0 1)) := st_wf_po w3 (j := 130) rfl (sp_one_ok hP2)
      refine lv_iconst (v := nI (0)) hx hb dm_Field_inverseInto_67 (by decide) ?_
      refine lv_istore hx hb dm_Field_inverseInto_68 hl (by decide) rfl (fun ls hl => ?_)
      have hl : lv_has ls 9 [(7, .int (nI (0))), (6, .ref (g (130))), (5, .ref (g (128))), (4, .ref (g (126))), (3, .ref (g (124))), (0, .ref (g (117))), (1, .ref (g (x))), (2, .ref (g (a)))] := hl
      have hl : lv_has ls 9 [(7, .int (nI (0))), (3, .ref (g (124))), (4, .ref (g (126))), (5, .ref (g (128))), (6, .ref (g (130))), (0, .ref (g (117))), (1, .ref (g (x)))] := lv_sub hl [0, 4, 3, 2, 1, 5, 6] rfl
      have fin : ∀ (h0 l0 f0 e0 : Nat) (τ : st_T), kd_k l0 = 0 → kd_k e0 = 0 → st_wf P τ → st_sm [x, 2, 4, 6, 120, 122, 124, 126, 128, 130] σ τ → xe_ok P (σ 118) (pe_f (sp_rest P (σ a) (σ 118))) (τ h0) (τ l0) (τ f0) (τ e0) → sp_sz (τ l0) 31 = 1 → ∀ (ls : Array Slot) (H : Heap) (locs : List Loc), lv_has ls 9 [(4, .ref (g (l0))), (6, .ref (g (e0))), (0, .ref (g (117))), (1, .ref (g (x)))] → pw_H D cl_s A s.heap g 153 (en_s k g (τ)) H locs → W p l e rm_Field_inverseInto s m args below meth c H locs 0 0 Q (F0 m 169 ls []) := by
        intro h0 l0 f0 e0 τ kl0 ke0 wτ sτ hx1 hl1 ls H locs hl hW
        have zl := (wτ.2 l0 kl0).2
        have hld : st_ld τ l0 = τ l0 0 := by unfold st_ld; rw [zl, hl1, if_neg (by omega)]
        have hend := xe_end hP hx1 hl1
        refine lv_aload_n hx hb dm_Field_inverseInto_169 rfl (lv_at hl 2 rfl) ?_
        refine fd_ring S hW (wa_in 214 (by decide +kernel) rfl) dm_Field_inverseInto_170 ?_
        refine lv_aload_n hx hb dm_Field_inverseInto_173 rfl (lv_at hl 3 rfl) ?_
        refine lv_aload hx hb dm_Field_inverseInto_174 (lv_at hl 1 rfl) ?_
        refine lv_aload_n hx hb dm_Field_inverseInto_176 rfl (lv_at hl 2 rfl) ?_
        refine fd_ring S hW (wa_in 214 (by decide +kernel) rfl) dm_Field_inverseInto_177 ?_
        refine lv_aload hx hb dm_Field_inverseInto_180 (lv_at hl 0 rfl) ?_
        refine pw_callVI (rest := [.ref (g (1)), .ref (g (e0)), .ref (g (x)), .ref (g (1))]) S hW (mm_Poly_lead l D k g τ kl0 (st_wf_sz wτ kl0)) (cv_Field_83 S.1.2.2.2.2 ⟨by decide, by decide⟩) (kd_p1 kl0) (en_k0 kl0) rfl rfl hl.1 rfl (lv_room (Nat.le_of_ble_eq_true rfl)) ⟨Nat.zero_le _, Nat.zero_le _⟩ dm_Field_inverseInto_182 (fun r σ9 H locs hp hW => ?_)
        obtain ⟨hr, hp⟩ := hp
        rw [hp] at hW
        subst hr
        rw [hld]
        refine pw_callVI (rest := [.ref (g (e0)), .ref (g (x)), .ref (g (1))]) S hW (mm_Ring_reciprocal l D k g τ wτ hP2 hP31 (st_wf_lt wτ kl0 0)) (cv_Field_87 S.1.2.2.2.2 ⟨by decide, by decide⟩) (by decide) en_Ring rfl rfl hl.1 rfl (lv_room (Nat.le_of_ble_eq_true rfl)) ⟨Nat.zero_le _, Nat.zero_le _⟩ dm_Field_inverseInto_185 (fun r σ9 H locs hp hW => ?_)
        obtain ⟨hr, hp⟩ := hp
        rw [hp] at hW
        subst hr
        refine pw_callV (rest := []) S hW (mm_Ring_scaleInto l D k g τ wτ hP2 hP31 hx_ ke0 (show sp_inv P (τ l0 0) < P from Nat.mod_lt _ hp0)) (cv_Field_91 S.1.2.2.2.2 ⟨by decide, by decide⟩) (by decide) en_Ring rfl rfl hl.1 rfl (lv_room (Nat.le_of_ble_eq_true rfl)) ⟨Nat.zero_le _, Nat.zero_le _⟩ dm_Field_inverseInto_188 (fun σ9 H locs hp hW => ?_)
        rw [hp] at hW
        refine lv_iconst (v := nI (1)) hx hb dm_Field_inverseInto_191 (by decide) ?_
        exact hret _ _ _ _ _ _ dm_Field_inverseInto_192 (by decide) ⟨⟨st_wf_po wτ hx_ hend.1, st_sm_tr sτ (st_sm_po _ x _) (fun _ h => h) (by intro a ha; rw [List.mem_singleton.mp ha]; exact List.mem_cons_self)⟩, Or.inr ⟨by omega, rfl, by rw [st_po_at]; exact hend.2.1, by rw [st_po_at]; exact hend.2.2⟩⟩ hW
      have loop : ∀ (n i h0 l0 f0 e0 : Nat) (τ : st_T), i + n ≤ 15 → (h0 = 124 ∧ l0 = 126 ∧ f0 = 128 ∧ e0 = 130 ∨ h0 = 126 ∧ l0 = 124 ∧ f0 = 130 ∧ e0 = 128) → sp_sz (τ l0) 31 ≤ n → st_wf P τ → st_sm [x, 2, 4, 6, 120, 122, 124, 126, 128, 130] σ τ → τ 118 = σ 118 → xe_ok P (σ 118) (pe_f (sp_rest P (σ a) (σ 118))) (τ h0) (τ l0) (τ f0) (τ e0) → ∀ (ls : Array Slot) (H : Heap) (locs : List Loc), lv_has ls 9 [(7, .int (nI (i))), (3, .ref (g (h0))), (4, .ref (g (l0))), (5, .ref (g (f0))), (6, .ref (g (e0))), (0, .ref (g (117))), (1, .ref (g (x)))] → pw_H D cl_s A s.heap g 153 (en_s k g (τ)) H locs → W p l e rm_Field_inverseInto s m args below meth c H locs 0 0 Q (F0 m 70 ls []) := by
        intro n
        induction n with
        | zero =>
          intro i h0 l0 f0 e0 τ hi hpar hsz wτ sτ t118 hxe ls H locs hl hW
          have kh0 : kd_k h0 = 0 := by rcases hpar with h | h <;> rw [h.1] <;> rfl
          have kl0 : kd_k l0 = 0 := by rcases hpar with h | h <;> rw [h.2.1] <;> rfl
          have kf0 : kd_k f0 = 0 := by rcases hpar with h | h <;> rw [h.2.2.1] <;> rfl
          have ke0 : kd_k e0 = 0 := by rcases hpar with h | h <;> rw [h.2.2.2] <;> rfl
          have zl := (wτ.2 l0 kl0).2
          have zh := (wτ.2 h0 kh0).2
          have hpos := hxe.2.1.2.2.2.2
          have hlh := hxe.2.1.1
          have hhf := hxe.2.1.2.1
          exfalso
          omega
        | succ n ih =>
          intro i h0 l0 f0 e0 τ hi hpar hsz wτ sτ t118 hxe ls H locs hl hW
          have kh0 : kd_k h0 = 0 := by rcases hpar with h | h <;> rw [h.1] <;> rfl
          have kl0 : kd_k l0 = 0 := by rcases hpar with h | h <;> rw [h.2.1] <;> rfl
          have kf0 : kd_k f0 = 0 := by rcases hpar with h | h <;> rw [h.2.2.1] <;> rfl
          have ke0 : kd_k e0 = 0 := by rcases hpar with h | h <;> rw [h.2.2.2] <;> rfl
          have zl := (wτ.2 l0 kl0).2
          have zh := (wτ.2 h0 kh0).2
          have hpos := hxe.2.1.2.2.2.2
          have hlh := hxe.2.1.1
          have hhf := hxe.2.1.2.1
          refine lv_iload hx hb dm_Field_inverseInto_70 (lv_at hl 0 rfl) ?_
          refine lv_bipush (v := nI (15)) hx hb dm_Field_inverseInto_72 (by decide) ?_
          refine wi_icmp_gt (tgt := 169) S (nn_T (by omega)) (nn_T (by omega)) dm_Field_inverseInto_74 (by decide) (fun hc => ?_) (fun hc => ?_)
          · exfalso
            omega
          · refine lv_aload hx hb dm_Field_inverseInto_77 (lv_at hl 2 rfl) ?_
            refine po_getd S hW kl0 (wa_in 52 (by decide +kernel) rfl) dm_Field_inverseInto_79 ?_
            refine wi_if_le (tgt := 169) S (sd_T (by omega)) dm_Field_inverseInto_82 (by decide) (fun hc => ?_) (fun hc => ?_)
            · exact fin h0 l0 f0 e0 τ kl0 ke0 wτ sτ hxe (by omega) ls H locs (lv_sub hl [2, 4, 5, 6] rfl) hW
            · have hst := xe_step hP hob hir (by omega) hxe (by omega) (by omega)
              refine lv_aload_n hx hb dm_Field_inverseInto_85 rfl (lv_at hl 5 rfl) ?_
              refine fd_ring S hW (wa_in 214 (by decide +kernel) rfl) dm_Field_inverseInto_86 ?_
              refine lv_aload_n hx hb dm_Field_inverseInto_89 rfl (lv_at hl 5 rfl) ?_
              refine fd_quotient S hW (wa_in 218 (by decide +kernel) rfl) dm_Field_inverseInto_90 ?_
              refine lv_aload_n hx hb dm_Field_inverseInto_93 rfl (lv_at hl 1 rfl) ?_
              refine lv_aload_n hx hb dm_Field_inverseInto_94 rfl (lv_at hl 1 rfl) ?_
              refine lv_aload hx hb dm_Field_inverseInto_95 (lv_at hl 2 rfl) ?_
              refine pw_callV (rest := []) S hW (mm_Ring_quotientAndRestInto l D k g τ wτ hP hP31 (q0 := 120) rfl kh0 kh0 kl0 (by omega) (by omega) (by omega) (by omega) (by omega) (by decide)) (cv_Field_69 S.1.2.2.2.2 ⟨by decide, by decide⟩) (by decide) en_Ring rfl rfl hl.1 rfl (lv_room (Nat.le_of_ble_eq_true rfl)) ⟨Nat.zero_le _, Nat.zero_le _⟩ dm_Field_inverseInto_97 (fun σ5 H locs hp5 hW => ?_)
              obtain ⟨w5, ⟨e5h, e5q⟩, s5⟩ := hp5
              have e5q := e5q (by omega)
              have e5l : σ5 l0 = τ l0 := s5 l0 (by simp only [List.mem_cons, List.not_mem_nil, or_false]; omega) (by omega)
              have e5f : σ5 f0 = τ f0 := s5 f0 (by simp only [List.mem_cons, List.not_mem_nil, or_false]; omega) (by omega)
              have e5e : σ5 e0 = τ e0 := s5 e0 (by simp only [List.mem_cons, List.not_mem_nil, or_false]; omega) (by omega)
              have z5q := (w5.2 120 rfl).2
              have z5e := (w5.2 e0 ke0).2
              rw [e5q] at z5q
              rw [e5e] at z5e
              refine lv_aload_n hx hb dm_Field_inverseInto_100 rfl (lv_at hl 5 rfl) ?_
              refine fd_ring S hW (wa_in 214 (by decide +kernel) rfl) dm_Field_inverseInto_101 ?_
              refine lv_aload_n hx hb dm_Field_inverseInto_104 rfl (lv_at hl 5 rfl) ?_
              refine fd_change S hW (wa_in 219 (by decide +kernel) rfl) dm_Field_inverseInto_105 ?_
              refine lv_aload_n hx hb dm_Field_inverseInto_108 rfl (lv_at hl 5 rfl) ?_
              refine fd_quotient S hW (wa_in 218 (by decide +kernel) rfl) dm_Field_inverseInto_109 ?_
              refine lv_aload hx hb dm_Field_inverseInto_112 (lv_at hl 4 rfl) ?_
              refine pw_callV (rest := []) S hW (mm_Ring_productInto l D k g σ5 w5 hP2 hP31 (x := 122) rfl (a := 120) rfl ke0 (by decide) (by omega) (by have := hst.1; omega)) (cv_Field_73 S.1.2.2.2.2 ⟨by decide, by decide⟩) (by decide) en_Ring rfl rfl hl.1 rfl (lv_room (Nat.le_of_ble_eq_true rfl)) ⟨Nat.zero_le _, Nat.zero_le _⟩ dm_Field_inverseInto_114 (fun σ6 H locs hp6 hW => ?_)
              obtain ⟨w6, e6, s6⟩ := hp6
              rw [e5q, e5e] at e6
              have e6h : σ6 h0 = sp_rest P (τ h0) (τ l0) := by rw [s6 h0 (by simp only [List.mem_cons, List.not_mem_nil, or_false]; omega) (by omega), e5h]
              have e6l : σ6 l0 = τ l0 := by rw [s6 l0 (by simp only [List.mem_cons, List.not_mem_nil, or_false]; omega) (by omega), e5l]
              have e6f : σ6 f0 = τ f0 := by rw [s6 f0 (by simp only [List.mem_cons, List.not_mem_nil, or_false]; omega) (by omega), e5f]
              have e6e : σ6 e0 = τ e0 := by rw [s6 e0 (by simp only [List.mem_cons, List.not_mem_nil, or_false]; omega) (by omega), e5e]
              refine lv_aload_n hx hb dm_Field_inverseInto_117 rfl (lv_at hl 5 rfl) ?_
              refine fd_ring S hW (wa_in 214 (by decide +kernel) rfl) dm_Field_inverseInto_118 ?_
              refine lv_aload hx hb dm_Field_inverseInto_121 (lv_at hl 3 rfl) ?_
              refine lv_aload hx hb dm_Field_inverseInto_123 (lv_at hl 3 rfl) ?_
              refine lv_aload_n hx hb dm_Field_inverseInto_125 rfl (lv_at hl 5 rfl) ?_
              refine fd_change S hW (wa_in 219 (by decide +kernel) rfl) dm_Field_inverseInto_126 ?_
              refine lv_aload_n hx hb dm_Field_inverseInto_129 rfl (lv_at hl 5 rfl) ?_
              refine fd_ring S hW (wa_in 214 (by decide +kernel) rfl) dm_Field_inverseInto_130 ?_
              refine rg_p S hW (wa_in 62 (by decide +kernel) rfl) dm_Field_inverseInto_133 ?_
              rw [w6.1]
              refine lv_iconst (v := nI (1)) hx hb dm_Field_inverseInto_136 (by decide) ?_
              refine wn_isub S (by omega) dm_Field_inverseInto_137 ?_
              refine pw_callV (rest := []) S hW (mm_Ring_sumInto l D k g σ6 w6 hP2 hP31 kf0 kf0 (b := 122) rfl (K := P - 1) (by omega)) (cv_Field_79 S.1.2.2.2.2 ⟨by decide, by decide⟩) (by decide) en_Ring rfl rfl hl.1 rfl (lv_room (Nat.le_of_ble_eq_true rfl)) ⟨Nat.zero_le _, Nat.zero_le _⟩ dm_Field_inverseInto_138 (fun σ7 H locs hp7 hW => ?_)
              rw [hp7, e6f, e6] at hW
              refine lv_aload_n hx hb dm_Field_inverseInto_141 rfl (lv_at hl 1 rfl) ?_
              refine lv_astore hx hb dm_Field_inverseInto_142 hl (by decide) rfl (fun ls hl => ?_)
              have hl : lv_has ls 9 [(8, .ref (g (h0))), (7, .int (nI (i))), (3, .ref (g (h0))), (4, .ref (g (l0))), (5, .ref (g (f0))), (6, .ref (g (e0))), (0, .ref (g (117))), (1, .ref (g (x)))] := hl
              refine lv_aload hx hb dm_Field_inverseInto_144 (lv_at hl 3 rfl) ?_
              refine lv_astore_n hx hb dm_Field_inverseInto_146 rfl hl (by decide) rfl (fun ls hl => ?_)
              have hl : lv_has ls 9 [(3, .ref (g (l0))), (8, .ref (g (h0))), (7, .int (nI (i))), (4, .ref (g (l0))), (5, .ref (g (f0))), (6, .ref (g (e0))), (0, .ref (g (117))), (1, .ref (g (x)))] := hl
              refine lv_aload hx hb dm_Field_inverseInto_147 (lv_at hl 1 rfl) ?_
              refine lv_astore hx hb dm_Field_inverseInto_149 hl (by decide) rfl (fun ls hl => ?_)
              have hl : lv_has ls 9 [(4, .ref (g (h0))), (3, .ref (g (l0))), (8, .ref (g (h0))), (7, .int (nI (i))), (5, .ref (g (f0))), (6, .ref (g (e0))), (0, .ref (g (117))), (1, .ref (g (x)))] := hl
              refine lv_aload hx hb dm_Field_inverseInto_151 (lv_at hl 4 rfl) ?_
              refine lv_astore hx hb dm_Field_inverseInto_153 hl (by decide) rfl (fun ls hl => ?_)
              have hl : lv_has ls 9 [(8, .ref (g (f0))), (4, .ref (g (h0))), (3, .ref (g (l0))), (7, .int (nI (i))), (5, .ref (g (f0))), (6, .ref (g (e0))), (0, .ref (g (117))), (1, .ref (g (x)))] := hl
              refine lv_aload hx hb dm_Field_inverseInto_155 (lv_at hl 5 rfl) ?_
              refine lv_astore hx hb dm_Field_inverseInto_157 hl (by decide) rfl (fun ls hl => ?_)
              have hl : lv_has ls 9 [(5, .ref (g (e0))), (8, .ref (g (f0))), (4, .ref (g (h0))), (3, .ref (g (l0))), (7, .int (nI (i))), (6, .ref (g (e0))), (0, .ref (g (117))), (1, .ref (g (x)))] := hl
              refine lv_aload hx hb dm_Field_inverseInto_159 (lv_at hl 1 rfl) ?_
              refine lv_astore hx hb dm_Field_inverseInto_161 hl (by decide) rfl (fun ls hl => ?_)
              have hl : lv_has ls 9 [(6, .ref (g (f0))), (5, .ref (g (e0))), (8, .ref (g (f0))), (4, .ref (g (h0))), (3, .ref (g (l0))), (7, .int (nI (i))), (0, .ref (g (117))), (1, .ref (g (x)))] := hl
              refine lv_iinc (k := 5) (v := nI (i + 1)) hx hb dm_Field_inverseInto_163 hl rfl (by rw [show Int32.ofInt 1 = nI 1 from rfl, nI_add]) (by decide) rfl (fun ls hl => ?_)
              have hl : lv_has ls 9 [(7, .int (nI (i + 1))), (6, .ref (g (f0))), (5, .ref (g (e0))), (8, .ref (g (f0))), (4, .ref (g (h0))), (3, .ref (g (l0))), (0, .ref (g (117))), (1, .ref (g (x)))] := hl
              refine lv_goto (tgt := 70) hx hb dm_Field_inverseInto_166 (by decide) ?_
              have hl : lv_has ls 9 [(7, .int (nI (i + 1))), (3, .ref (g (l0))), (4, .ref (g (h0))), (5, .ref (g (e0))), (6, .ref (g (f0))), (0, .ref (g (117))), (1, .ref (g (x)))] := lv_sub hl [0, 5, 4, 2, 1, 6, 7] rfl
              have hne : h0 ≠ f0 ∧ l0 ≠ f0 ∧ e0 ≠ f0 ∧ f0 < 148 := by omega
              have w7 : st_wf P (st_po σ6 f0 (sp_add P (τ f0) (sp_mul P (sp_quo P (τ h0) (τ l0)) (τ e0)) (P - 1))) := st_wf_po w6 kf0 hst.2.1.2.2.2
              refine ih (i + 1) l0 h0 e0 f0 (st_po σ6 f0 (sp_add P (τ f0) (sp_mul P (sp_quo P (τ h0) (τ l0)) (τ e0)) (P - 1))) (by omega) (by omega) ?_ w7 ?_ ?_ ?_ ls H locs hl hW
              · rw [st_po_row hne.1 (by omega), e6h]
                have := hst.2.2.1.1
                omega
              · refine st_sm_tr (st_sm_tr (st_sm_tr sτ s5 (Z := [x, 2, 4, 6, 120, 122, 124, 126, 128, 130]) (fun _ h => h) ?_) s6 (Z := [x, 2, 4, 6, 120, 122, 124, 126, 128, 130]) (fun _ h => h) (by intro a ha; simp only [List.mem_cons, List.not_mem_nil, or_false] at ha ⊢; omega)) (st_sm_po _ f0 _) (fun _ h => h) ?_
                · intro a ha
                  simp only [List.mem_cons, List.not_mem_nil, or_false] at ha ⊢
                  omega
                · intro a ha
                  simp only [List.mem_cons, List.not_mem_nil, or_false] at ha ⊢
                  omega
              · rw [st_po_row (by omega) (by decide), s6 118 (by decide) (by decide), s5 118 (by simp only [List.mem_cons, List.not_mem_nil, or_false]; omega) (by decide), t118]
              · rw [st_po_row hne.2.1 (by omega), e6l, st_po_row hne.1 (by omega), e6h, st_po_row hne.2.2.1 (by omega), e6e, st_po_at]
                exact hst.2
      have hI := pz_I_ok P (pe_f (σ 118))
      have d124 : (st_po (st_po σ2 128 (fun _ => 0)) 130 (va_up (fun _ => 0) 0 1)) 124 = σ 118 := by rw [st_po_row (by decide) (by decide), st_po_row (by decide) (by decide), e2124]
      have d126 : (st_po (st_po σ2 128 (fun _ => 0)) 130 (va_up (fun _ => 0) 0 1)) 126 = sp_rest P (σ a) (σ 118) := by rw [st_po_row (by decide) (by decide), st_po_row (by decide) (by decide), e2]
      have d128 : (st_po (st_po σ2 128 (fun _ => 0)) 130 (va_up (fun _ => 0) 0 1)) 128 = fun _ => 0 := by rw [st_po_row (by decide) (by decide), st_po_at]
      have d130 : (st_po (st_po σ2 128 (fun _ => 0)) 130 (va_up (fun _ => 0) 0 1)) 130 = va_up (fun _ => 0) 0 1 := st_po_at
      have hlt := hr0.2.1
      refine loop 15 0 124 126 128 130 (st_po (st_po σ2 128 (fun _ => 0)) 130 (va_up (fun _ => 0) 0 1)) (by omega) (Or.inl ⟨rfl, rfl, rfl, rfl⟩) ?_ w4 ?_ ?_ ?_ ls _ _ hl hW
      · rw [d126]
        omega
      · exact st_sm_tr (st_sm_tr sm2 (st_sm_po _ 128 _) (Z := [x, 2, 4, 6, 120, 122, 124, 126, 128, 130]) (fun _ h => h) (by intro a ha; simp only [List.mem_cons, List.not_mem_nil, or_false] at ha ⊢; omega)) (st_sm_po _ 130 _) (fun _ h => h) (by intro a ha; simp only [List.mem_cons, List.not_mem_nil, or_false] at ha ⊢; omega)
      · rw [st_po_row (by decide) (by decide), st_po_row (by decide) (by decide), e2118]
      · rw [d124, d126, d128, d130]
        have h0 : sp_sz (fun _ => 0) 31 ≤ 0 := sp_sz_lt (fun _ _ => rfl)
        have h1 : sp_sz (va_up (fun _ => 0) 0 1) 31 ≤ 1 := sp_sz_lt (fun i hi => by rw [va_up_ne _ _ (by omega)])
        refine ⟨⟨hob, hr0.1, sp_z_ok hp0, sp_one_ok hP2⟩, ⟨hlt, Nat.le_refl _, by omega, by omega, by omega⟩, ?_, ?_, fun d h _ => h⟩
        · rw [pe_z]
          refine @ag_tr pz_T pz_R _ hI _ _ _ (@ag_to0 pz_T pz_R _ _ (@ag_If_f pz_T pz_R (pz_E P) (pz_E_ok P) _)) (@ag_of_eq pz_T pz_R _ hI _ _ (pz_R.zero_mul _).symm)
        · rw [sp_one_pe]
          exact @ag_of_eq pz_T pz_R _ hI _ _ (pz_R.one_mul _).symm
    · exfalso
      omega
