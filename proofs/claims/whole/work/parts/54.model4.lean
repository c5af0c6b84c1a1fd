/-! The reference: its face, first half -/
theorem dm_Model_isRegister_0 : decode bm_Model_isRegister 0 = .ok (.iload_n 0, 1) := by decide +kernel
theorem dm_Model_isRegister_1 : decode bm_Model_isRegister 1 = .ok (.ifCond .lt 13, 3) := by decide +kernel
theorem dm_Model_isRegister_4 : decode bm_Model_isRegister 4 = .ok (.iload_n 0, 1) := by decide +kernel
theorem dm_Model_isRegister_5 : decode bm_Model_isRegister 5 = .ok (.bipush 8, 2) := by decide +kernel
theorem dm_Model_isRegister_7 : decode bm_Model_isRegister 7 = .ok (.if_icmp .ge 7, 3) := by decide +kernel
theorem dm_Model_isRegister_10 : decode bm_Model_isRegister 10 = .ok (.iconst 1, 1) := by decide +kernel
theorem dm_Model_isRegister_11 : decode bm_Model_isRegister 11 = .ok (.goto 4, 3) := by decide +kernel
theorem dm_Model_isRegister_14 : decode bm_Model_isRegister 14 = .ok (.iconst 0, 1) := by decide +kernel
theorem dm_Model_isRegister_15 : decode bm_Model_isRegister 15 = .ok (.ireturn, 1) := by decide +kernel
set_option maxHeartbeats 4000000 in
set_option maxRecDepth 100000 in
theorem mm_Model_isRegister (l : Launch) (D : va_G) (k : ClassId × ClassId × ClassId) (g : Nat → Nat) (σ : st_T) {x : Int32} : mt_I l D k g ym_Model_isRegister wm_Model_isRegister rm_Model_isRegister [.int x] σ (fun r σ1 => ((r = nI 1 ∧ rk_r x) ∨ (r = nI 0 ∧ ¬ rk_r x)) ∧ σ1 = σ) := by
  refine ct_Z_in (cc := bm_Model_isRegister) (maxL := 1) (by decide) rfl (Nat.le_of_ble_eq_true rfl) ?_
  intro p e s m args below meth c A ls Q S hl hW hret
  have S : pw_S p m c bm_Model_isRegister 1 s args wa_g rc_Model D cl_s (ty_s k) := S
  have hx := S.1.1
  have hb := S.1.2.1
  have hl : lv_has ls 1 [(0, .int (x))] := hl
  refine lv_iload_n hx hb dm_Model_isRegister_0 rfl (lv_at hl 0 rfl) ?_
  refine wi_if_lt (tgt := 14) S rfl dm_Model_isRegister_1 (by decide) (fun hc => ?_) (fun hc => ?_)
  · refine lv_iconst (v := nI (0)) hx hb dm_Model_isRegister_14 (by decide) ?_
    exact hret _ _ _ _ _ _ dm_Model_isRegister_15 (by decide) ⟨Or.inr ⟨rfl, rk_no (by omega) (by omega)⟩, rfl⟩ hW
  · refine lv_iload_n hx hb dm_Model_isRegister_4 rfl (lv_at hl 0 rfl) ?_
    refine lv_bipush (v := nI (8)) hx hb dm_Model_isRegister_5 (by decide) ?_
    refine wi_icmp_ge (tgt := 14) S rfl (nn_T (by omega)) dm_Model_isRegister_7 (by decide) (fun hc => ?_) (fun hc => ?_)
    · refine lv_iconst (v := nI (0)) hx hb dm_Model_isRegister_14 (by decide) ?_
      exact hret _ _ _ _ _ _ dm_Model_isRegister_15 (by decide) ⟨Or.inr ⟨rfl, rk_no (by omega) (by omega)⟩, rfl⟩ hW
    · refine lv_iconst (v := nI (1)) hx hb dm_Model_isRegister_10 (by decide) ?_
      refine lv_goto (tgt := 15) hx hb dm_Model_isRegister_11 (by decide) ?_
      exact hret _ _ _ _ _ _ dm_Model_isRegister_15 (by decide) ⟨Or.inl ⟨rfl, rk_of (by omega) (by omega) (by omega)⟩, rfl⟩ hW
theorem dm_Model_isPart_0 : decode bm_Model_isPart 0 = .ok (.iload_n 1, 1) := by decide +kernel
theorem dm_Model_isPart_1 : decode bm_Model_isPart 1 = .ok (.ifCond .lt 15, 3) := by decide +kernel
theorem dm_Model_isPart_4 : decode bm_Model_isPart 4 = .ok (.iload_n 1, 1) := by decide +kernel
theorem dm_Model_isPart_5 : decode bm_Model_isPart 5 = .ok (.aload_n 0, 1) := by decide +kernel
theorem dm_Model_isPart_6 : decode bm_Model_isPart 6 = .ok (.getfield 88, 3) := by decide +kernel
theorem dm_Model_isPart_9 : decode bm_Model_isPart 9 = .ok (.if_icmp .ge 7, 3) := by decide +kernel
theorem dm_Model_isPart_12 : decode bm_Model_isPart 12 = .ok (.iconst 1, 1) := by decide +kernel
theorem dm_Model_isPart_13 : decode bm_Model_isPart 13 = .ok (.goto 4, 3) := by decide +kernel
theorem dm_Model_isPart_16 : decode bm_Model_isPart 16 = .ok (.iconst 0, 1) := by decide +kernel
theorem dm_Model_isPart_17 : decode bm_Model_isPart 17 = .ok (.ireturn, 1) := by decide +kernel
set_option maxHeartbeats 4000000 in
set_option maxRecDepth 100000 in
theorem mm_Model_isPart (l : Launch) (D : va_G) (k : ClassId × ClassId × ClassId) (g : Nat → Nat) (σ : st_T) {x : Int32} (hcc : σ 205 1 ≤ 15) : mt_I l D k g ym_Model_isPart wm_Model_isPart rm_Model_isPart [.ref (g 149), .int x] σ (fun r σ1 => ((r = nI 1 ∧ ∃ n, n < σ 205 1 ∧ x = nI n) ∨ (r = nI 0 ∧ ¬ ∃ n, n < σ 205 1 ∧ x = nI n)) ∧ σ1 = σ) := by
  refine ct_Z_in (cc := bm_Model_isPart) (maxL := 2) (by decide) rfl (Nat.le_of_ble_eq_true rfl) ?_
  intro p e s m args below meth c A ls Q S hl hW hret
  have S : pw_S p m c bm_Model_isPart 2 s args wa_g rc_Model D cl_s (ty_s k) := S
  have hx := S.1.1
  have hb := S.1.2.1
  have hl : lv_has ls 2 [(0, .ref (g (149))), (1, .int (x))] := hl
  refine lv_iload_n hx hb dm_Model_isPart_0 rfl (lv_at hl 1 rfl) ?_
  refine wi_if_lt (tgt := 16) S rfl dm_Model_isPart_1 (by decide) (fun hc => ?_) (fun hc => ?_)
  · refine lv_iconst (v := nI (0)) hx hb dm_Model_isPart_16 (by decide) ?_
    exact hret _ _ _ _ _ _ dm_Model_isPart_17 (by decide) ⟨Or.inr ⟨rfl, rk_no (by omega) (by omega)⟩, rfl⟩ hW
  · refine lv_iload_n hx hb dm_Model_isPart_4 rfl (lv_at hl 1 rfl) ?_
    refine lv_aload_n hx hb dm_Model_isPart_5 rfl (lv_at hl 0 rfl) ?_
    refine md_parts S hW (wa_in 563 (by decide +kernel) rfl) dm_Model_isPart_6 ?_
    refine wi_icmp_ge (tgt := 16) S rfl (nn_T (by omega)) dm_Model_isPart_9 (by decide) (fun hc => ?_) (fun hc => ?_)
    · refine lv_iconst (v := nI (0)) hx hb dm_Model_isPart_16 (by decide) ?_
      exact hret _ _ _ _ _ _ dm_Model_isPart_17 (by decide) ⟨Or.inr ⟨rfl, rk_no (by omega) (by omega)⟩, rfl⟩ hW
    · refine lv_iconst (v := nI (1)) hx hb dm_Model_isPart_12 (by decide) ?_
      refine lv_goto (tgt := 17) hx hb dm_Model_isPart_13 (by decide) ?_
      exact hret _ _ _ _ _ _ dm_Model_isPart_17 (by decide) ⟨Or.inl ⟨rfl, rk_of (by omega) (by omega) (by omega)⟩, rfl⟩ hW
theorem dm_Model_size2_0 : decode bm_Model_size2 0 = .ok (.aload_n 0, 1) := by decide +kernel
theorem dm_Model_size2_1 : decode bm_Model_size2 1 = .ok (.iload_n 1, 1) := by decide +kernel
theorem dm_Model_size2_2 : decode bm_Model_size2 2 = .ok (.invokevirtual 42, 3) := by decide +kernel
theorem dm_Model_size2_5 : decode bm_Model_size2 5 = .ok (.iconst 1, 1) := by decide +kernel
theorem dm_Model_size2_6 : decode bm_Model_size2 6 = .ok (.iadd, 1) := by decide +kernel
theorem dm_Model_size2_7 : decode bm_Model_size2 7 = .ok (.ireturn, 1) := by decide +kernel
set_option maxHeartbeats 4000000 in
set_option maxRecDepth 100000 in
theorem mm_Model_size2 (l : Launch) (D : va_G) (k : ClassId × ClassId × ClassId) (g : Nat → Nat) (σ : st_T) {P s0 : Nat} (hw : md_wf P σ) (hP31 : P < 2147483648) (hs : s0 < 33) : mt_I l D k g ym_Model_size2 wm_Model_size2 rm_Model_size2 [.ref (g 149), .int (nI s0)] σ (fun r σ1 => r = nI (sp_sz (σ (300 + s0)) 31) ∧ σ1 = σ) := by
  refine ct_I_in (cc := bm_Model_size2) (maxL := 2) (by decide) rfl (Nat.le_of_ble_eq_true rfl) ?_
  intro p e s m args below meth c A ls Q S hl hW hret
  have S : pw_S p m c bm_Model_size2 2 s args wa_g rc_Model D cl_s (ty_s k) := S
  have hx := S.1.1
  have hb := S.1.2.1
  have hl : lv_has ls 2 [(0, .ref (g (149))), (1, .int (nI (s0)))] := hl
  refine lv_aload_n hx hb dm_Model_size2_0 rfl (lv_at hl 0 rfl) ?_
  refine lv_iload_n hx hb dm_Model_size2_1 rfl (lv_at hl 1 rfl) ?_
  refine pw_callVI (rest := []) S hW (mm_Model_degree l D k g σ (s0 := s0) (P := P) (by omega) (hw.2 (s0) (by omega)) hP31) (cv_Model_42 S.1.2.2.2.2 ⟨by decide, by decide⟩) (by decide) en_Model rfl rfl hl.1 rfl (lv_room (Nat.le_of_ble_eq_true rfl)) ⟨Nat.zero_le _, Nat.zero_le _⟩ dm_Model_size2_2 (fun r σ1 H locs hp hW => ?_)
  obtain ⟨hr, hp⟩ := hp
  rw [hp] at hW
  subst hr
  refine lv_iconst (v := nI (1)) hx hb dm_Model_size2_5 (by decide) ?_
  refine wn_sd1 S dm_Model_size2_6 ?_
  exact hret _ _ _ _ _ _ dm_Model_size2_7 ⟨rfl, rfl⟩ hW
theorem dm_Model_set_0 : decode bm_Model_set 0 = .ok (.iload_n 1, 1) := by decide +kernel
theorem dm_Model_set_1 : decode bm_Model_set 1 = .ok (.invokestatic 69, 3) := by decide +kernel
theorem dm_Model_set_4 : decode bm_Model_set 4 = .ok (.ifCond .eq 13, 3) := by decide +kernel
theorem dm_Model_set_7 : decode bm_Model_set 7 = .ok (.iload_n 2, 1) := by decide +kernel
theorem dm_Model_set_8 : decode bm_Model_set 8 = .ok (.ifCond .lt 9, 3) := by decide +kernel
theorem dm_Model_set_11 : decode bm_Model_set 11 = .ok (.iload_n 2, 1) := by decide +kernel
theorem dm_Model_set_12 : decode bm_Model_set 12 = .ok (.bipush 15, 2) := by decide +kernel
theorem dm_Model_set_14 : decode bm_Model_set 14 = .ok (.if_icmp .le 5, 3) := by decide +kernel
theorem dm_Model_set_17 : decode bm_Model_set 17 = .ok (.iconst (-1), 1) := by decide +kernel
theorem dm_Model_set_18 : decode bm_Model_set 18 = .ok (.ireturn, 1) := by decide +kernel
theorem dm_Model_set_19 : decode bm_Model_set 19 = .ok (.aload_n 0, 1) := by decide +kernel
theorem dm_Model_set_20 : decode bm_Model_set 20 = .ok (.iload_n 1, 1) := by decide +kernel
theorem dm_Model_set_21 : decode bm_Model_set 21 = .ok (.iload_n 2, 1) := by decide +kernel
theorem dm_Model_set_22 : decode bm_Model_set 22 = .ok (.aload_n 0, 1) := by decide +kernel
theorem dm_Model_set_23 : decode bm_Model_set 23 = .ok (.iload_n 3, 1) := by decide +kernel
theorem dm_Model_set_24 : decode bm_Model_set 24 = .ok (.invokevirtual 72, 3) := by decide +kernel
theorem dm_Model_set_27 : decode bm_Model_set 27 = .ok (.invokevirtual 34, 3) := by decide +kernel
theorem dm_Model_set_30 : decode bm_Model_set 30 = .ok (.aload_n 0, 1) := by decide +kernel
theorem dm_Model_set_31 : decode bm_Model_set 31 = .ok (.iload_n 1, 1) := by decide +kernel
theorem dm_Model_set_32 : decode bm_Model_set 32 = .ok (.invokevirtual 42, 3) := by decide +kernel
theorem dm_Model_set_35 : decode bm_Model_set 35 = .ok (.istore 4, 2) := by decide +kernel
theorem dm_Model_set_37 : decode bm_Model_set 37 = .ok (.iload 4, 2) := by decide +kernel
theorem dm_Model_set_39 : decode bm_Model_set 39 = .ok (.ifCond .ge 7, 3) := by decide +kernel
theorem dm_Model_set_42 : decode bm_Model_set 42 = .ok (.iconst 0, 1) := by decide +kernel
theorem dm_Model_set_43 : decode bm_Model_set 43 = .ok (.goto 5, 3) := by decide +kernel
theorem dm_Model_set_46 : decode bm_Model_set 46 = .ok (.iload 4, 2) := by decide +kernel
theorem dm_Model_set_48 : decode bm_Model_set 48 = .ok (.ireturn, 1) := by decide +kernel
set_option maxHeartbeats 4000000 in
set_option maxRecDepth 100000 in
theorem mm_Model_set (l : Launch) (D : va_G) (k : ClassId × ClassId × ClassId) (g : Nat → Nat) (σ : st_T) {P : Nat} (hw : md_wf P σ) (hP : ag_pr P) (hP31 : P < 2147483648) (hrg : ∀ n, n < 8 → sp_sz (σ (300 + n)) 31 ≤ 16) {a b c0 : Int32} : mt_I l D k g ym_Model_set wm_Model_set rm_Model_set [.ref (g 149), .int a, .int b, .int c0] σ (fun r σ1 => (¬ (rk_r a ∧ rk_i b) ∧ r = -1 ∧ σ1 = σ) ∨ ∃ a0 b0, (a0 < 8 ∧ a = nI a0) ∧ (b0 < 16 ∧ b = nI b0) ∧ r = nI (sp_sz (va_up (σ (300 + a0)) b0 (fm_n c0 P)) 31 - 1) ∧ md_wf P σ1 ∧ σ1 (300 + a0) = va_up (σ (300 + a0)) b0 (fm_n c0 P) ∧ md_sm [300 + a0] σ σ1) := by
  refine ct_I_in (cc := bm_Model_set) (maxL := 5) (by decide) rfl (Nat.le_of_ble_eq_true rfl) ?_
  intro p e s m args below meth c A ls Q S hl hW hret
  have S : pw_S p m c bm_Model_set 5 s args wa_g rc_Model D cl_s (ty_s k) := S
  have hx := S.1.1
  have hb := S.1.2.1
  have hl : lv_has ls 5 [(0, .ref (g (149))), (1, .int (a)), (2, .int (b)), (3, .int (c0))] := hl
  have hP2 := hP.1
  refine lv_iload_n hx hb dm_Model_set_0 rfl (lv_at hl 1 rfl) ?_
  refine pw_callSI (rest := []) S hW (mm_Model_isRegister l D k g σ (x := a)) (cv_Model_69 S.1.2.2.2.2 ⟨by decide, by decide⟩) rfl hl.1 rfl (lv_room (Nat.le_of_ble_eq_true rfl)) ⟨Nat.zero_le _, Nat.zero_le _⟩ dm_Model_set_1 (fun r σ1 H locs hp hW => ?_)
  obtain ⟨hp, h9⟩ := hp
  rw [h9] at hW
  rcases hp with ⟨hr, a0, ha0, rfl⟩ | ⟨hr, hno⟩
  · subst hr
    have hl : lv_has ls 5 [(0, .ref (g (149))), (1, .int (nI (a0))), (2, .int (b)), (3, .int (c0))] := hl
    refine wi_if_eq (tgt := 17) S (nn_T (by omega)) dm_Model_set_4 (by decide) (fun hc => ?_) (fun hc => ?_)
    · exfalso
      omega
    · refine lv_iload_n hx hb dm_Model_set_7 rfl (lv_at hl 2 rfl) ?_
      refine wi_if_lt (tgt := 17) S rfl dm_Model_set_8 (by decide) (fun hc => ?_) (fun hc => ?_)
      · refine lv_iconst (v := -1) hx hb dm_Model_set_17 (by decide) ?_
        exact hret _ _ _ _ _ _ dm_Model_set_18 (Or.inl ⟨fun z => rk_no (c := 16) (by omega) (by omega) z.2, rfl, rfl⟩) hW
      · refine lv_iload_n hx hb dm_Model_set_11 rfl (lv_at hl 2 rfl) ?_
        refine lv_bipush (v := nI (15)) hx hb dm_Model_set_12 (by decide) ?_
        refine wi_icmp_le (tgt := 19) S rfl (nn_T (by omega)) dm_Model_set_14 (by decide) (fun hc => ?_) (fun hc => ?_)
        · obtain ⟨b0, hb0, rfl⟩ := rk_of (x := b) (c := 16) (by omega) (by omega) (by omega)
          have hl : lv_has ls 5 [(0, .ref (g (149))), (1, .int (nI (a0))), (2, .int (nI (b0))), (3, .int (c0))] := hl
          refine lv_aload_n hx hb dm_Model_set_19 rfl (lv_at hl 0 rfl) ?_
          refine lv_iload_n hx hb dm_Model_set_20 rfl (lv_at hl 1 rfl) ?_
          refine lv_iload_n hx hb dm_Model_set_21 rfl (lv_at hl 2 rfl) ?_
          refine lv_aload_n hx hb dm_Model_set_22 rfl (lv_at hl 0 rfl) ?_
          refine lv_iload_n hx hb dm_Model_set_23 rfl (lv_at hl 3 rfl) ?_
          refine pw_callVI (rest := [.int (nI (b0)), .int (nI (a0)), .ref (g (149))]) S hW (mm_Model_reduce l D k g σ (x := c0) (P := P) hw.1 (by omega) hP31) (cv_Model_72 S.1.2.2.2.2 ⟨by decide, by decide⟩) (by decide) en_Model rfl rfl hl.1 rfl (lv_room (Nat.le_of_ble_eq_true rfl)) ⟨Nat.zero_le _, Nat.zero_le _⟩ dm_Model_set_24 (fun r σ1 H locs hp hW => ?_)
          obtain ⟨hr, hp⟩ := hp
          rw [hp] at hW
          subst hr
          have hfm : fm_n c0 P < P := fm_lt (by omega)
          refine pw_callV (rest := []) S hW (mm_Model_put l D k g σ (s0 := a0) (n := b0) (v := fm_n c0 P) (by omega) (by omega)) (cv_Model_34 S.1.2.2.2.2 ⟨by decide, by decide⟩) (by decide) en_Model rfl rfl hl.1 rfl (lv_room (Nat.le_of_ble_eq_true rfl)) ⟨Nat.zero_le _, Nat.zero_le _⟩ dm_Model_set_27 (fun σ1 H locs hp hW => ?_)
          rw [hp] at hW
          have hnok : sp_ok P (va_up (σ (300 + a0)) b0 (fm_n c0 P)) := fun i => by
            have h := hw.2 a0 (by omega) i
            unfold va_up
            split
            · exact ⟨hfm, fun h => by omega⟩
            · exact h
          have hrow : (st_up σ (300 + a0) b0 (fm_n c0 P)) (300 + a0) = va_up (σ (300 + a0)) b0 (fm_n c0 P) := st_up_at
          have wS : md_wf P (st_up σ (300 + a0) b0 (fm_n c0 P)) := md_wf_rw (s := a0) hw (fun a ha => st_up_row ha) (by rw [hrow]; exact hnok)
          refine lv_aload_n hx hb dm_Model_set_30 rfl (lv_at hl 0 rfl) ?_
          refine lv_iload_n hx hb dm_Model_set_31 rfl (lv_at hl 1 rfl) ?_
          refine pw_callVI (rest := []) S hW (mm_Model_degree l D k g (st_up σ (300 + a0) b0 (fm_n c0 P)) (s0 := a0) (P := P) (by omega) (wS.2 (a0) (by omega)) hP31) (cv_Model_42 S.1.2.2.2.2 ⟨by decide, by decide⟩) (by decide) en_Model rfl rfl hl.1 rfl (lv_room (Nat.le_of_ble_eq_true rfl)) ⟨Nat.zero_le _, Nat.zero_le _⟩ dm_Model_set_32 (fun r σ1 H locs hp hW => ?_)
          obtain ⟨hr, hp⟩ := hp
          rw [hp] at hW
          subst hr
          rw [hrow]
          refine lv_istore hx hb dm_Model_set_35 hl (by decide) rfl (fun ls hl => ?_)
          have hl : lv_has ls 5 [(4, .int (sd_i (sp_sz (va_up (σ (300 + a0)) b0 (fm_n c0 P)) 31))), (0, .ref (g (149))), (1, .int (nI (a0))), (2, .int (nI (b0))), (3, .int (c0))] := hl
          refine lv_iload hx hb dm_Model_set_37 (lv_at hl 0 rfl) ?_
          have hz31 := sp_sz_le (va_up (σ (300 + a0)) b0 (fm_n c0 P)) 31
          refine wi_if_ge (tgt := 46) S (sd_T (by omega)) dm_Model_set_39 (by decide) (fun hc => ?_) (fun hc => ?_)
          · refine lv_iload hx hb dm_Model_set_46 (lv_at hl 0 rfl) ?_
            exact hret _ _ _ _ _ _ dm_Model_set_48 (Or.inr ⟨a0, b0, ⟨ha0, rfl⟩, ⟨hb0, rfl⟩, by rw [sd_n (by omega)], wS, hrow, fun a ha => st_up_row (fun z => ha (by rw [z]; exact List.mem_singleton.mpr rfl))⟩) hW
          · refine lv_iconst (v := nI (0)) hx hb dm_Model_set_42 (by decide) ?_
            refine lv_goto (tgt := 48) hx hb dm_Model_set_43 (by decide) ?_
            exact hret _ _ _ _ _ _ dm_Model_set_48 (Or.inr ⟨a0, b0, ⟨ha0, rfl⟩, ⟨hb0, rfl⟩, by rw [show sp_sz (va_up (σ (300 + a0)) b0 (fm_n c0 P)) 31 - 1 = 0 by omega], wS, hrow, fun a ha => st_up_row (fun z => ha (by rw [z]; exact List.mem_singleton.mpr rfl))⟩) hW
        · refine lv_iconst (v := -1) hx hb dm_Model_set_17 (by decide) ?_
          exact hret _ _ _ _ _ _ dm_Model_set_18 (Or.inl ⟨fun z => rk_no (c := 16) (by omega) (by omega) z.2, rfl, rfl⟩) hW
  · subst hr
    refine wi_if_eq (tgt := 17) S (nn_T (by omega)) dm_Model_set_4 (by decide) (fun hc => ?_) (fun hc => ?_)
    · refine lv_iconst (v := -1) hx hb dm_Model_set_17 (by decide) ?_
      exact hret _ _ _ _ _ _ dm_Model_set_18 (Or.inl ⟨fun z => hno z.1, rfl, rfl⟩) hW
    · exfalso
      omega
theorem dm_Model_coefficient_0 : decode bm_Model_coefficient 0 = .ok (.iload_n 1, 1) := by decide +kernel
theorem dm_Model_coefficient_1 : decode bm_Model_coefficient 1 = .ok (.invokestatic 69, 3) := by decide +kernel
theorem dm_Model_coefficient_4 : decode bm_Model_coefficient 4 = .ok (.ifCond .eq 22, 3) := by decide +kernel
theorem dm_Model_coefficient_7 : decode bm_Model_coefficient 7 = .ok (.iload_n 2, 1) := by decide +kernel
theorem dm_Model_coefficient_8 : decode bm_Model_coefficient 8 = .ok (.ifCond .lt 18, 3) := by decide +kernel
theorem dm_Model_coefficient_11 : decode bm_Model_coefficient 11 = .ok (.iload_n 2, 1) := by decide +kernel
theorem dm_Model_coefficient_12 : decode bm_Model_coefficient 12 = .ok (.bipush 15, 2) := by decide +kernel
theorem dm_Model_coefficient_14 : decode bm_Model_coefficient 14 = .ok (.if_icmp .gt 12, 3) := by decide +kernel
theorem dm_Model_coefficient_17 : decode bm_Model_coefficient 17 = .ok (.aload_n 0, 1) := by decide +kernel
theorem dm_Model_coefficient_18 : decode bm_Model_coefficient 18 = .ok (.iload_n 1, 1) := by decide +kernel
theorem dm_Model_coefficient_19 : decode bm_Model_coefficient 19 = .ok (.iload_n 2, 1) := by decide +kernel
theorem dm_Model_coefficient_20 : decode bm_Model_coefficient 20 = .ok (.invokevirtual 31, 3) := by decide +kernel
theorem dm_Model_coefficient_23 : decode bm_Model_coefficient 23 = .ok (.goto 4, 3) := by decide +kernel
theorem dm_Model_coefficient_26 : decode bm_Model_coefficient 26 = .ok (.iconst (-1), 1) := by decide +kernel
theorem dm_Model_coefficient_27 : decode bm_Model_coefficient 27 = .ok (.ireturn, 1) := by decide +kernel
set_option maxHeartbeats 4000000 in
set_option maxRecDepth 100000 in
theorem mm_Model_coefficient (l : Launch) (D : va_G) (k : ClassId × ClassId × ClassId) (g : Nat → Nat) (σ : st_T) {a b : Int32} : mt_I l D k g ym_Model_coefficient wm_Model_coefficient rm_Model_coefficient [.ref (g 149), .int a, .int b] σ (fun r σ1 => (¬ (rk_r a ∧ rk_i b) ∧ r = -1 ∧ σ1 = σ) ∨ ∃ a0 b0, (a0 < 8 ∧ a = nI a0) ∧ (b0 < 16 ∧ b = nI b0) ∧ r = nI (σ (300 + a0) b0) ∧ σ1 = σ) := by
  refine ct_I_in (cc := bm_Model_coefficient) (maxL := 3) (by decide) rfl (Nat.le_of_ble_eq_true rfl) ?_
  intro p e s m args below meth c A ls Q S hl hW hret
  have S : pw_S p m c bm_Model_coefficient 3 s args wa_g rc_Model D cl_s (ty_s k) := S
  have hx := S.1.1
  have hb := S.1.2.1
  have hl : lv_has ls 3 [(0, .ref (g (149))), (1, .int (a)), (2, .int (b))] := hl
  refine lv_iload_n hx hb dm_Model_coefficient_0 rfl (lv_at hl 1 rfl) ?_
  refine pw_callSI (rest := []) S hW (mm_Model_isRegister l D k g σ (x := a)) (cv_Model_69 S.1.2.2.2.2 ⟨by decide, by decide⟩) rfl hl.1 rfl (lv_room (Nat.le_of_ble_eq_true rfl)) ⟨Nat.zero_le _, Nat.zero_le _⟩ dm_Model_coefficient_1 (fun r σ1 H locs hp hW => ?_)
  obtain ⟨hp, h9⟩ := hp
  rw [h9] at hW
  rcases hp with ⟨hr, a0, ha0, rfl⟩ | ⟨hr, hno⟩
  · subst hr
    have hl : lv_has ls 3 [(0, .ref (g (149))), (1, .int (nI (a0))), (2, .int (b))] := hl
    refine wi_if_eq (tgt := 26) S (nn_T (by omega)) dm_Model_coefficient_4 (by decide) (fun hc => ?_) (fun hc => ?_)
    · exfalso
      omega
    · refine lv_iload_n hx hb dm_Model_coefficient_7 rfl (lv_at hl 2 rfl) ?_
      refine wi_if_lt (tgt := 26) S rfl dm_Model_coefficient_8 (by decide) (fun hc => ?_) (fun hc => ?_)
      · refine lv_iconst (v := -1) hx hb dm_Model_coefficient_26 (by decide) ?_
        exact hret _ _ _ _ _ _ dm_Model_coefficient_27 (Or.inl ⟨fun z => rk_no (c := 16) (by omega) (by omega) z.2, rfl, rfl⟩) hW
      · refine lv_iload_n hx hb dm_Model_coefficient_11 rfl (lv_at hl 2 rfl) ?_
        refine lv_bipush (v := nI (15)) hx hb dm_Model_coefficient_12 (by decide) ?_
        refine wi_icmp_gt (tgt := 26) S rfl (nn_T (by omega)) dm_Model_coefficient_14 (by decide) (fun hc => ?_) (fun hc => ?_)
        · refine lv_iconst (v := -1) hx hb dm_Model_coefficient_26 (by decide) ?_
          exact hret _ _ _ _ _ _ dm_Model_coefficient_27 (Or.inl ⟨fun z => rk_no (c := 16) (by omega) (by omega) z.2, rfl, rfl⟩) hW
        · obtain ⟨b0, hb0, rfl⟩ := rk_of (x := b) (c := 16) (by omega) (by omega) (by omega)
          have hl : lv_has ls 3 [(0, .ref (g (149))), (1, .int (nI (a0))), (2, .int (nI (b0)))] := hl
          refine lv_aload_n hx hb dm_Model_coefficient_17 rfl (lv_at hl 0 rfl) ?_
          refine lv_iload_n hx hb dm_Model_coefficient_18 rfl (lv_at hl 1 rfl) ?_
          refine lv_iload_n hx hb dm_Model_coefficient_19 rfl (lv_at hl 2 rfl) ?_
          refine pw_callVI (rest := []) S hW (mm_Model_get l D k g σ (s0 := a0) (n := b0) (by omega) (by omega)) (cv_Model_31 S.1.2.2.2.2 ⟨by decide, by decide⟩) (by decide) en_Model rfl rfl hl.1 rfl (lv_room (Nat.le_of_ble_eq_true rfl)) ⟨Nat.zero_le _, Nat.zero_le _⟩ dm_Model_coefficient_20 (fun r σ1 H locs hp hW => ?_)
          obtain ⟨hr, hp⟩ := hp
          rw [hp] at hW
          subst hr
          refine lv_goto (tgt := 27) hx hb dm_Model_coefficient_23 (by decide) ?_
          exact hret _ _ _ _ _ _ dm_Model_coefficient_27 (Or.inr ⟨a0, b0, ⟨ha0, rfl⟩, ⟨hb0, rfl⟩, rfl, rfl⟩) hW
  · subst hr
    refine wi_if_eq (tgt := 26) S (nn_T (by omega)) dm_Model_coefficient_4 (by decide) (fun hc => ?_) (fun hc => ?_)
    · refine lv_iconst (v := -1) hx hb dm_Model_coefficient_26 (by decide) ?_
      exact hret _ _ _ _ _ _ dm_Model_coefficient_27 (Or.inl ⟨fun z => hno z.1, rfl, rfl⟩) hW
    · exfalso
      omega
theorem dm_Model_size_0 : decode bm_Model_size 0 = .ok (.iload_n 1, 1) := by decide +kernel
theorem dm_Model_size_1 : decode bm_Model_size 1 = .ok (.invokestatic 69, 3) := by decide +kernel
theorem dm_Model_size_4 : decode bm_Model_size 4 = .ok (.ifCond .eq 11, 3) := by decide +kernel
theorem dm_Model_size_7 : decode bm_Model_size 7 = .ok (.aload_n 0, 1) := by decide +kernel
theorem dm_Model_size_8 : decode bm_Model_size 8 = .ok (.iload_n 1, 1) := by decide +kernel
theorem dm_Model_size_9 : decode bm_Model_size 9 = .ok (.invokevirtual 75, 3) := by decide +kernel
theorem dm_Model_size_12 : decode bm_Model_size 12 = .ok (.goto 4, 3) := by decide +kernel
theorem dm_Model_size_15 : decode bm_Model_size 15 = .ok (.iconst (-1), 1) := by decide +kernel
theorem dm_Model_size_16 : decode bm_Model_size 16 = .ok (.ireturn, 1) := by decide +kernel
set_option maxHeartbeats 4000000 in
set_option maxRecDepth 100000 in
theorem mm_Model_size (l : Launch) (D : va_G) (k : ClassId × ClassId × ClassId) (g : Nat → Nat) (σ : st_T) {P : Nat} (hw : md_wf P σ) (hP : ag_pr P) (hP31 : P < 2147483648) (hrg : ∀ n, n < 8 → sp_sz (σ (300 + n)) 31 ≤ 16) {a : Int32} : mt_I l D k g ym_Model_size wm_Model_size rm_Model_size [.ref (g 149), .int a] σ (fun r σ1 => (¬ (rk_r a) ∧ r = -1 ∧ σ1 = σ) ∨ ∃ a0, (a0 < 8 ∧ a = nI a0) ∧ r = nI (sp_sz (σ (300 + a0)) 31) ∧ σ1 = σ) := by
  refine ct_I_in (cc := bm_Model_size) (maxL := 2) (by decide) rfl (Nat.le_of_ble_eq_true rfl) ?_
  intro p e s m args below meth c A ls Q S hl hW hret
  have S : pw_S p m c bm_Model_size 2 s args wa_g rc_Model D cl_s (ty_s k) := S
  have hx := S.1.1
  have hb := S.1.2.1
  have hl : lv_has ls 2 [(0, .ref (g (149))), (1, .int (a))] := hl
  refine lv_iload_n hx hb dm_Model_size_0 rfl (lv_at hl 1 rfl) ?_
  refine pw_callSI (rest := []) S hW (mm_Model_isRegister l D k g σ (x := a)) (cv_Model_69 S.1.2.2.2.2 ⟨by decide, by decide⟩) rfl hl.1 rfl (lv_room (Nat.le_of_ble_eq_true rfl)) ⟨Nat.zero_le _, Nat.zero_le _⟩ dm_Model_size_1 (fun r σ1 H locs hp hW => ?_)
  obtain ⟨hp, h9⟩ := hp
  rw [h9] at hW
  rcases hp with ⟨hr, a0, ha0, rfl⟩ | ⟨hr, hno⟩
  · subst hr
    have hl : lv_has ls 2 [(0, .ref (g (149))), (1, .int (nI (a0)))] := hl
    refine wi_if_eq (tgt := 15) S (nn_T (by omega)) dm_Model_size_4 (by decide) (fun hc => ?_) (fun hc => ?_)
    · exfalso
      omega
    · refine lv_aload_n hx hb dm_Model_size_7 rfl (lv_at hl 0 rfl) ?_
      refine lv_iload_n hx hb dm_Model_size_8 rfl (lv_at hl 1 rfl) ?_
      refine pw_callVI (rest := []) S hW (mm_Model_size2 l D k g σ hw hP31 (s0 := a0) (by omega)) (cv_Model_75 S.1.2.2.2.2 ⟨by decide, by decide⟩) (by decide) en_Model rfl rfl hl.1 rfl (lv_room (Nat.le_of_ble_eq_true rfl)) ⟨Nat.zero_le _, Nat.zero_le _⟩ dm_Model_size_9 (fun r σ1 H locs hp hW => ?_)
      obtain ⟨hr, hp⟩ := hp
      rw [hp] at hW
      subst hr
      refine lv_goto (tgt := 16) hx hb dm_Model_size_12 (by decide) ?_
      exact hret _ _ _ _ _ _ dm_Model_size_16 (Or.inr ⟨a0, ⟨ha0, rfl⟩, rfl, rfl⟩) hW
  · subst hr
    refine wi_if_eq (tgt := 15) S (nn_T (by omega)) dm_Model_size_4 (by decide) (fun hc => ?_) (fun hc => ?_)
    · refine lv_iconst (v := -1) hx hb dm_Model_size_15 (by decide) ?_
      exact hret _ _ _ _ _ _ dm_Model_size_16 (Or.inl ⟨fun z => hno z, rfl, rfl⟩) hW
    · exfalso
      omega
theorem dm_Model_value_0 : decode bm_Model_value 0 = .ok (.iload_n 1, 1) := by decide +kernel
theorem dm_Model_value_1 : decode bm_Model_value 1 = .ok (.invokestatic 69, 3) := by decide +kernel
theorem dm_Model_value_4 : decode bm_Model_value 4 = .ok (.ifCond .ne 5, 3) := by decide +kernel
theorem dm_Model_value_7 : decode bm_Model_value 7 = .ok (.iconst (-1), 1) := by decide +kernel
theorem dm_Model_value_8 : decode bm_Model_value 8 = .ok (.ireturn, 1) := by decide +kernel
theorem dm_Model_value_9 : decode bm_Model_value 9 = .ok (.aload_n 0, 1) := by decide +kernel
theorem dm_Model_value_10 : decode bm_Model_value 10 = .ok (.iload_n 2, 1) := by decide +kernel
theorem dm_Model_value_11 : decode bm_Model_value 11 = .ok (.invokevirtual 72, 3) := by decide +kernel
theorem dm_Model_value_14 : decode bm_Model_value 14 = .ok (.istore_n 3, 1) := by decide +kernel
theorem dm_Model_value_15 : decode bm_Model_value 15 = .ok (.iconst 0, 1) := by decide +kernel
theorem dm_Model_value_16 : decode bm_Model_value 16 = .ok (.istore 4, 2) := by decide +kernel
theorem dm_Model_value_18 : decode bm_Model_value 18 = .ok (.bipush 15, 2) := by decide +kernel
theorem dm_Model_value_20 : decode bm_Model_value 20 = .ok (.istore 5, 2) := by decide +kernel
theorem dm_Model_value_22 : decode bm_Model_value 22 = .ok (.iload 5, 2) := by decide +kernel
theorem dm_Model_value_24 : decode bm_Model_value 24 = .ok (.ifCond .lt 33, 3) := by decide +kernel
theorem dm_Model_value_27 : decode bm_Model_value 27 = .ok (.iload 4, 2) := by decide +kernel
theorem dm_Model_value_29 : decode bm_Model_value 29 = .ok (.i2l, 1) := by decide +kernel
theorem dm_Model_value_30 : decode bm_Model_value 30 = .ok (.iload_n 3, 1) := by decide +kernel
theorem dm_Model_value_31 : decode bm_Model_value 31 = .ok (.i2l, 1) := by decide +kernel
theorem dm_Model_value_32 : decode bm_Model_value 32 = .ok (.lmul, 1) := by decide +kernel
theorem dm_Model_value_33 : decode bm_Model_value 33 = .ok (.aload_n 0, 1) := by decide +kernel
theorem dm_Model_value_34 : decode bm_Model_value 34 = .ok (.iload_n 1, 1) := by decide +kernel
theorem dm_Model_value_35 : decode bm_Model_value 35 = .ok (.iload 5, 2) := by decide +kernel
theorem dm_Model_value_37 : decode bm_Model_value 37 = .ok (.invokevirtual 31, 3) := by decide +kernel
theorem dm_Model_value_40 : decode bm_Model_value 40 = .ok (.i2l, 1) := by decide +kernel
theorem dm_Model_value_41 : decode bm_Model_value 41 = .ok (.ladd, 1) := by decide +kernel
theorem dm_Model_value_42 : decode bm_Model_value 42 = .ok (.aload_n 0, 1) := by decide +kernel
theorem dm_Model_value_43 : decode bm_Model_value 43 = .ok (.getfield 23, 3) := by decide +kernel
theorem dm_Model_value_46 : decode bm_Model_value 46 = .ok (.i2l, 1) := by decide +kernel
theorem dm_Model_value_47 : decode bm_Model_value 47 = .ok (.lrem, 1) := by decide +kernel
theorem dm_Model_value_48 : decode bm_Model_value 48 = .ok (.l2i, 1) := by decide +kernel
theorem dm_Model_value_49 : decode bm_Model_value 49 = .ok (.istore 4, 2) := by decide +kernel
theorem dm_Model_value_51 : decode bm_Model_value 51 = .ok (.iinc 5 (-1), 3) := by decide +kernel
theorem dm_Model_value_54 : decode bm_Model_value 54 = .ok (.goto (-32), 3) := by decide +kernel
theorem dm_Model_value_57 : decode bm_Model_value 57 = .ok (.iload 4, 2) := by decide +kernel
theorem dm_Model_value_59 : decode bm_Model_value 59 = .ok (.ireturn, 1) := by decide +kernel
set_option maxHeartbeats 4000000 in
set_option maxRecDepth 100000 in
theorem mm_Model_value (l : Launch) (D : va_G) (k : ClassId × ClassId × ClassId) (g : Nat → Nat) (σ : st_T) {P : Nat} (hw : md_wf P σ) (hP : ag_pr P) (hP31 : P < 2147483648) (hrg : ∀ n, n < 8 → sp_sz (σ (300 + n)) 31 ≤ 16) {a c0 : Int32} : mt_I l D k g ym_Model_value wm_Model_value rm_Model_value [.ref (g 149), .int a, .int c0] σ (fun r σ1 => (¬ (rk_r a) ∧ r = -1 ∧ σ1 = σ) ∨ ∃ a0, (a0 < 8 ∧ a = nI a0) ∧ r = nI (lp_val P (σ (300 + a0)) (fm_n c0 P) (sp_sz (σ (300 + a0)) 31) 0) ∧ σ1 = σ) := by
  refine ct_I_in (cc := bm_Model_value) (maxL := 6) (by decide) rfl (Nat.le_of_ble_eq_true rfl) ?_
  intro p e s m args below meth c A ls Q S hl hW hret
  have S : pw_S p m c bm_Model_value 6 s args wa_g rc_Model D cl_s (ty_s k) := S
  have hx := S.1.1
  have hb := S.1.2.1
  have hl : lv_has ls 6 [(0, .ref (g (149))), (1, .int (a)), (2, .int (c0))] := hl
  have hP2 := hP.1
  refine lv_iload_n hx hb dm_Model_value_0 rfl (lv_at hl 1 rfl) ?_
  refine pw_callSI (rest := []) S hW (mm_Model_isRegister l D k g σ (x := a)) (cv_Model_69 S.1.2.2.2.2 ⟨by decide, by decide⟩) rfl hl.1 rfl (lv_room (Nat.le_of_ble_eq_true rfl)) ⟨Nat.zero_le _, Nat.zero_le _⟩ dm_Model_value_1 (fun r σ1 H locs hp hW => ?_)
  obtain ⟨hp, h9⟩ := hp
  rw [h9] at hW
  rcases hp with ⟨hr, a0, ha0, rfl⟩ | ⟨hr, hno⟩
  · subst hr
    have hl : lv_has ls 6 [(0, .ref (g (149))), (1, .int (nI (a0))), (2, .int (c0))] := hl
    refine wi_if_ne (tgt := 9) S (nn_T (by omega)) dm_Model_value_4 (by decide) (fun hc => ?_) (fun hc => ?_)
    · refine lv_aload_n hx hb dm_Model_value_9 rfl (lv_at hl 0 rfl) ?_
      refine lv_iload_n hx hb dm_Model_value_10 rfl (lv_at hl 2 rfl) ?_
      refine pw_callVI (rest := []) S hW (mm_Model_reduce l D k g σ (x := c0) (P := P) hw.1 (by omega) hP31) (cv_Model_72 S.1.2.2.2.2 ⟨by decide, by decide⟩) (by decide) en_Model rfl rfl hl.1 rfl (lv_room (Nat.le_of_ble_eq_true rfl)) ⟨Nat.zero_le _, Nat.zero_le _⟩ dm_Model_value_11 (fun r σ1 H locs hp hW => ?_)
      obtain ⟨hr, hp⟩ := hp
      rw [hp] at hW
      subst hr
      have hfm : fm_n c0 P < P := fm_lt (by omega)
      refine lv_istore_n hx hb dm_Model_value_14 rfl hl (by decide) rfl (fun ls hl => ?_)
      have hl : lv_has ls 6 [(3, .int (nI (fm_n c0 P))), (0, .ref (g (149))), (1, .int (nI (a0))), (2, .int (c0))] := hl
      refine lv_iconst (v := nI (0)) hx hb dm_Model_value_15 (by decide) ?_
      refine lv_istore hx hb dm_Model_value_16 hl (by decide) rfl (fun ls hl => ?_)
      have hl : lv_has ls 6 [(4, .int (nI (0))), (3, .int (nI (fm_n c0 P))), (0, .ref (g (149))), (1, .int (nI (a0))), (2, .int (c0))] := hl
      refine lv_bipush (v := nI (15)) hx hb dm_Model_value_18 (by decide) ?_
      refine lv_istore hx hb dm_Model_value_20 hl (by decide) rfl (fun ls hl => ?_)
      have hl : lv_has ls 6 [(5, .int (nI (15))), (4, .int (nI (0))), (3, .int (nI (fm_n c0 P))), (0, .ref (g (149))), (1, .int (nI (a0))), (2, .int (c0))] := hl
      have hl : lv_has ls 6 [(5, .int (nI (15))), (4, .int (nI (0))), (3, .int (nI (fm_n c0 P))), (0, .ref (g (149))), (1, .int (nI (a0)))] := lv_sub hl [0, 1, 2, 3, 4] rfl
      have hl : lv_has ls 6 [(5, .int (sd_i 16)), (4, .int (nI 0)), (3, .int (nI (fm_n c0 P))), (0, .ref (g 149)), (1, .int (nI a0))] := by
        rw [sd_s]
        exact hl
      have loop : ∀ n, n ≤ 16 → ∀ v, v < P → lp_val P (σ (300 + a0)) (fm_n c0 P) n v = lp_val P (σ (300 + a0)) (fm_n c0 P) 16 0 → ∀ (ls : Array Slot) (H : Heap) (locs : List Loc), lv_has ls 6 [(5, .int (sd_i (n))), (4, .int (nI (v))), (3, .int (nI (fm_n c0 P))), (0, .ref (g (149))), (1, .int (nI (a0)))] → pw_H D cl_s A s.heap g 153 (en_s k g (σ)) H locs → W p l e rm_Model_value s m args below meth c H locs 0 0 Q (F0 m 22 ls []) := by
        intro n
        induction n with
        | zero =>
          intro hn v hv hinv ls H locs hl hW
          refine lv_iload hx hb dm_Model_value_22 (lv_at hl 0 rfl) ?_
          refine wi_if_lt (tgt := 57) S (sd_T (by omega)) dm_Model_value_24 (by decide) (fun hc => ?_) (fun hc => ?_)
          · refine lv_iload hx hb dm_Model_value_57 (lv_at hl 1 rfl) ?_
            have h16 := hrg a0 ha0
            have h1 := lp_val_hi (P := P) (a := σ (300 + a0)) (fm_n c0 P) (sp_sz (σ (300 + a0)) 31) (16 - sp_sz (σ (300 + a0)) 31) (fun i h1 h2 => sp_hi (hw.2 a0 (by omega)) h1)
            rw [show sp_sz (σ (300 + a0)) 31 + (16 - sp_sz (σ (300 + a0)) 31) = 16 by omega] at h1
            exact hret _ _ _ _ _ _ dm_Model_value_59 (Or.inr ⟨a0, ⟨ha0, rfl⟩, by rw [← h1, ← hinv]; rfl, rfl⟩) hW
          · exfalso
            omega
        | succ n ih =>
          intro hn v hv hinv ls H locs hl hW
          refine lv_iload hx hb dm_Model_value_22 (lv_at hl 0 rfl) ?_
          refine wi_if_lt (tgt := 57) S (sd_T (by omega)) dm_Model_value_24 (by decide) (fun hc => ?_) (fun hc => ?_)
          · exfalso
            omega
          · rw [sd_s] at hl
            have hm := nn_mul (show v < 2147483648 by omega) (show fm_n c0 P < 2147483648 by omega)
            have hc2 := md_lt hw (show a0 < 33 by omega) n
            refine lv_iload hx hb dm_Model_value_27 (lv_at hl 1 rfl) ?_
            refine wn_i2l S (by omega) dm_Model_value_29 ?_
            refine lv_iload_n hx hb dm_Model_value_30 rfl (lv_at hl 2 rfl) ?_
            refine wn_i2l S (by omega) dm_Model_value_31 ?_
            refine wn_lmul S dm_Model_value_32 ?_
            refine lv_aload_n hx hb dm_Model_value_33 rfl (lv_at hl 3 rfl) ?_
            refine lv_iload_n hx hb dm_Model_value_34 rfl (lv_at hl 4 rfl) ?_
            refine lv_iload hx hb dm_Model_value_35 (lv_at hl 0 rfl) ?_
            refine pw_callVI (rest := [.long (lN ((v) * (fm_n c0 P)))]) S hW (mm_Model_get l D k g σ (s0 := a0) (n := n) (by omega) (by omega)) (cv_Model_31 S.1.2.2.2.2 ⟨by decide, by decide⟩) (by decide) en_Model rfl rfl hl.1 rfl (lv_room (Nat.le_of_ble_eq_true rfl)) ⟨Nat.zero_le _, Nat.zero_le _⟩ dm_Model_value_37 (fun r σ1 H locs hp hW => ?_)
            obtain ⟨hr, hp⟩ := hp
            rw [hp] at hW
            subst hr
            refine wn_i2l S (by omega) dm_Model_value_40 ?_
            refine wn_ladd S dm_Model_value_41 ?_
            refine lv_aload_n hx hb dm_Model_value_42 rfl (lv_at hl 3 rfl) ?_
            refine md_p S hW (wa_in 561 (by decide +kernel) rfl) dm_Model_value_43 ?_
            rw [hw.1]
            refine wn_i2l S (by omega) dm_Model_value_46 ?_
            refine wn_lrem S (by omega) (by omega) (by omega) dm_Model_value_47 ?_
            refine wn_l2i S dm_Model_value_48 ?_
            refine lv_istore hx hb dm_Model_value_49 hl (by decide) rfl (fun ls hl => ?_)
            have hl : lv_has ls 6 [(4, .int (nI ((((v) * (fm_n c0 P)) + (σ (300 + (a0)) (n))) % (P)))), (5, .int (nI (n))), (3, .int (nI (fm_n c0 P))), (0, .ref (g (149))), (1, .int (nI (a0)))] := hl
            refine lv_iinc (k := 1) (v := sd_i n) hx hb dm_Model_value_51 hl rfl (by rw [← sd_s]; exact sd_m1 n) (by decide) rfl (fun ls hl => ?_)
            have hl : lv_has ls 6 [(5, .int (sd_i (n))), (4, .int (nI ((((v) * (fm_n c0 P)) + (σ (300 + (a0)) (n))) % (P)))), (3, .int (nI (fm_n c0 P))), (0, .ref (g (149))), (1, .int (nI (a0)))] := hl
            refine lv_goto (tgt := 22) hx hb dm_Model_value_54 (by decide) ?_
            have hl : lv_has ls 6 [(5, .int (sd_i (n))), (4, .int (nI ((((v) * (fm_n c0 P)) + (σ (300 + (a0)) (n))) % (P)))), (3, .int (nI (fm_n c0 P))), (0, .ref (g (149))), (1, .int (nI (a0)))] := lv_sub hl [0, 1, 2, 3, 4] rfl
            exact ih (by omega) _ (Nat.mod_lt _ (by omega)) hinv ls _ _ hl hW
      exact loop 16 (by omega) 0 (by omega) rfl ls _ _ hl hW
    · exfalso
      omega
  · subst hr
    refine wi_if_ne (tgt := 9) S (nn_T (by omega)) dm_Model_value_4 (by decide) (fun hc => ?_) (fun hc => ?_)
    · exfalso
      omega
    · refine lv_iconst (v := -1) hx hb dm_Model_value_7 (by decide) ?_
      exact hret _ _ _ _ _ _ dm_Model_value_8 (Or.inl ⟨fun z => hno z, rfl, rfl⟩) hW
theorem dm_Model_add_0 : decode bm_Model_add 0 = .ok (.iload_n 1, 1) := by decide +kernel
theorem dm_Model_add_1 : decode bm_Model_add 1 = .ok (.invokestatic 69, 3) := by decide +kernel
theorem dm_Model_add_4 : decode bm_Model_add 4 = .ok (.ifCond .eq 17, 3) := by decide +kernel
theorem dm_Model_add_7 : decode bm_Model_add 7 = .ok (.iload_n 2, 1) := by decide +kernel
theorem dm_Model_add_8 : decode bm_Model_add 8 = .ok (.invokestatic 69, 3) := by decide +kernel
theorem dm_Model_add_11 : decode bm_Model_add 11 = .ok (.ifCond .eq 10, 3) := by decide +kernel
theorem dm_Model_add_14 : decode bm_Model_add 14 = .ok (.iload_n 3, 1) := by decide +kernel
theorem dm_Model_add_15 : decode bm_Model_add 15 = .ok (.invokestatic 69, 3) := by decide +kernel
theorem dm_Model_add_18 : decode bm_Model_add 18 = .ok (.ifCond .ne 5, 3) := by decide +kernel
theorem dm_Model_add_21 : decode bm_Model_add 21 = .ok (.iconst (-1), 1) := by decide +kernel
theorem dm_Model_add_22 : decode bm_Model_add 22 = .ok (.ireturn, 1) := by decide +kernel
theorem dm_Model_add_23 : decode bm_Model_add 23 = .ok (.aload_n 0, 1) := by decide +kernel
theorem dm_Model_add_24 : decode bm_Model_add 24 = .ok (.iload_n 2, 1) := by decide +kernel
theorem dm_Model_add_25 : decode bm_Model_add 25 = .ok (.bipush 25, 2) := by decide +kernel
theorem dm_Model_add_27 : decode bm_Model_add 27 = .ok (.invokevirtual 55, 3) := by decide +kernel
theorem dm_Model_add_30 : decode bm_Model_add 30 = .ok (.aload_n 0, 1) := by decide +kernel
theorem dm_Model_add_31 : decode bm_Model_add 31 = .ok (.bipush 25, 2) := by decide +kernel
theorem dm_Model_add_33 : decode bm_Model_add 33 = .ok (.iload_n 3, 1) := by decide +kernel
theorem dm_Model_add_34 : decode bm_Model_add 34 = .ok (.aload_n 0, 1) := by decide +kernel
theorem dm_Model_add_35 : decode bm_Model_add 35 = .ok (.iload 4, 2) := by decide +kernel
theorem dm_Model_add_37 : decode bm_Model_add 37 = .ok (.invokevirtual 72, 3) := by decide +kernel
theorem dm_Model_add_40 : decode bm_Model_add 40 = .ok (.invokevirtual 78, 3) := by decide +kernel
theorem dm_Model_add_43 : decode bm_Model_add 43 = .ok (.aload_n 0, 1) := by decide +kernel
theorem dm_Model_add_44 : decode bm_Model_add 44 = .ok (.bipush 25, 2) := by decide +kernel
theorem dm_Model_add_46 : decode bm_Model_add 46 = .ok (.iload_n 1, 1) := by decide +kernel
theorem dm_Model_add_47 : decode bm_Model_add 47 = .ok (.invokevirtual 55, 3) := by decide +kernel
theorem dm_Model_add_50 : decode bm_Model_add 50 = .ok (.aload_n 0, 1) := by decide +kernel
theorem dm_Model_add_51 : decode bm_Model_add 51 = .ok (.iload_n 1, 1) := by decide +kernel
theorem dm_Model_add_52 : decode bm_Model_add 52 = .ok (.invokevirtual 75, 3) := by decide +kernel
theorem dm_Model_add_55 : decode bm_Model_add 55 = .ok (.ireturn, 1) := by decide +kernel
set_option maxHeartbeats 4000000 in
set_option maxRecDepth 100000 in
theorem mm_Model_add (l : Launch) (D : va_G) (k : ClassId × ClassId × ClassId) (g : Nat → Nat) (σ : st_T) {P : Nat} (hw : md_wf P σ) (hP : ag_pr P) (hP31 : P < 2147483648) (hrg : ∀ n, n < 8 → sp_sz (σ (300 + n)) 31 ≤ 16) {d x y c0 : Int32} : mt_I l D k g ym_Model_add wm_Model_add rm_Model_add [.ref (g 149), .int d, .int x, .int y, .int c0] σ (fun r σ1 => (¬ (rk_r d ∧ rk_r x ∧ rk_r y) ∧ r = -1 ∧ σ1 = σ) ∨ ∃ d0 x0 y0, (d0 < 8 ∧ d = nI d0) ∧ (x0 < 8 ∧ x = nI x0) ∧ (y0 < 8 ∧ y = nI y0) ∧ r = nI (sp_sz (σ1 (300 + d0)) 31) ∧ md_wf P σ1 ∧ σ1 (300 + d0) = sp_add P (σ (300 + x0)) (σ (300 + y0)) (fm_n c0 P) ∧ md_sm [(300 + d0), 300 + 25] σ σ1) := by
  refine ct_I_in (cc := bm_Model_add) (maxL := 5) (by decide) rfl (Nat.le_of_ble_eq_true rfl) ?_
  intro p e s m args below meth c A ls Q S hl hW hret
  have S : pw_S p m c bm_Model_add 5 s args wa_g rc_Model D cl_s (ty_s k) := S
  have hx := S.1.1
  have hb := S.1.2.1
  have hl : lv_has ls 5 [(0, .ref (g (149))), (1, .int (d)), (2, .int (x)), (3, .int (y)), (4, .int (c0))] := hl
  have hP2 := hP.1
  refine lv_iload_n hx hb dm_Model_add_0 rfl (lv_at hl 1 rfl) ?_
  refine pw_callSI (rest := []) S hW (mm_Model_isRegister l D k g σ (x := d)) (cv_Model_69 S.1.2.2.2.2 ⟨by decide, by decide⟩) rfl hl.1 rfl (lv_room (Nat.le_of_ble_eq_true rfl)) ⟨Nat.zero_le _, Nat.zero_le _⟩ dm_Model_add_1 (fun r σ1 H locs hp hW => ?_)
  obtain ⟨hp, h9⟩ := hp
  rw [h9] at hW
  rcases hp with ⟨hr, d0, hd0, rfl⟩ | ⟨hr, hno⟩
  · subst hr
    have hl : lv_has ls 5 [(0, .ref (g (149))), (1, .int (nI (d0))), (2, .int (x)), (3, .int (y)), (4, .int (c0))] := hl
    refine wi_if_eq (tgt := 21) S (nn_T (by omega)) dm_Model_add_4 (by decide) (fun hc => ?_) (fun hc => ?_)
    · exfalso
      omega
    · refine lv_iload_n hx hb dm_Model_add_7 rfl (lv_at hl 2 rfl) ?_
      refine pw_callSI (rest := []) S hW (mm_Model_isRegister l D k g σ (x := x)) (cv_Model_69 S.1.2.2.2.2 ⟨by decide, by decide⟩) rfl hl.1 rfl (lv_room (Nat.le_of_ble_eq_true rfl)) ⟨Nat.zero_le _, Nat.zero_le _⟩ dm_Model_add_8 (fun r σ1 H locs hp hW => ?_)
      obtain ⟨hp, h9⟩ := hp
      rw [h9] at hW
      rcases hp with ⟨hr, x0, hx0, rfl⟩ | ⟨hr, hno⟩
      · subst hr
        have hl : lv_has ls 5 [(0, .ref (g (149))), (1, .int (nI (d0))), (2, .int (nI (x0))), (3, .int (y)), (4, .int (c0))] := hl
        refine wi_if_eq (tgt := 21) S (nn_T (by omega)) dm_Model_add_11 (by decide) (fun hc => ?_) (fun hc => ?_)
        · exfalso
          omega
        · refine lv_iload_n hx hb dm_Model_add_14 rfl (lv_at hl 3 rfl) ?_
          refine pw_callSI (rest := []) S hW (mm_Model_isRegister l D k g σ (x := y)) (cv_Model_69 S.1.2.2.2.2 ⟨by decide, by decide⟩) rfl hl.1 rfl (lv_room (Nat.le_of_ble_eq_true rfl)) ⟨Nat.zero_le _, Nat.zero_le _⟩ dm_Model_add_15 (fun r σ1 H locs hp hW => ?_)
          obtain ⟨hp, h9⟩ := hp
          rw [h9] at hW
          rcases hp with ⟨hr, y0, hy0, rfl⟩ | ⟨hr, hno⟩
          · subst hr
            have hl : lv_has ls 5 [(0, .ref (g (149))), (1, .int (nI (d0))), (2, .int (nI (x0))), (3, .int (nI (y0))), (4, .int (c0))] := hl
            refine wi_if_ne (tgt := 23) S (nn_T (by omega)) dm_Model_add_18 (by decide) (fun hc => ?_) (fun hc => ?_)
            · refine lv_aload_n hx hb dm_Model_add_23 rfl (lv_at hl 0 rfl) ?_
              refine lv_iload_n hx hb dm_Model_add_24 rfl (lv_at hl 2 rfl) ?_
              refine lv_bipush (v := nI (25)) hx hb dm_Model_add_25 (by decide) ?_
              refine pw_callV (rest := []) S hW (mm_Model_copy l D k g σ hw (a := x0) (b := 25) (by omega) (by omega)) (cv_Model_55 S.1.2.2.2.2 ⟨by decide, by decide⟩) (by decide) en_Model rfl rfl hl.1 rfl (lv_room (Nat.le_of_ble_eq_true rfl)) ⟨Nat.zero_le _, Nat.zero_le _⟩ dm_Model_add_27 (fun σ2 H locs hp2 hW => ?_)
              obtain ⟨w2, e2, s2⟩ := hp2
              have k2_y0 : σ2 (300 + (y0)) = σ (300 + (y0)) := by rw [s2 _ (by simp only [List.mem_cons, List.not_mem_nil, or_false]; omega)]
              have k2_25 : σ2 (300 + (25)) = σ (300 + (x0)) := by rw [e2]
              refine lv_aload_n hx hb dm_Model_add_30 rfl (lv_at hl 0 rfl) ?_
              refine lv_bipush (v := nI (25)) hx hb dm_Model_add_31 (by decide) ?_
              refine lv_iload_n hx hb dm_Model_add_33 rfl (lv_at hl 3 rfl) ?_
              refine lv_aload_n hx hb dm_Model_add_34 rfl (lv_at hl 0 rfl) ?_
              refine lv_iload hx hb dm_Model_add_35 (lv_at hl 4 rfl) ?_
              refine pw_callVI (rest := [.int (nI (y0)), .int (nI (25)), .ref (g (149))]) S hW (mm_Model_reduce l D k g σ2 (x := c0) (P := P) w2.1 (by omega) hP31) (cv_Model_72 S.1.2.2.2.2 ⟨by decide, by decide⟩) (by decide) en_Model rfl rfl hl.1 rfl (lv_room (Nat.le_of_ble_eq_true rfl)) ⟨Nat.zero_le _, Nat.zero_le _⟩ dm_Model_add_37 (fun r σ1 H locs hp hW => ?_)
              obtain ⟨hr, hp⟩ := hp
              rw [hp] at hW
              subst hr
              have hfm : fm_n c0 P < P := fm_lt (by omega)
              refine pw_callV (rest := []) S hW (mm_Model_plus l D k g σ2 w2 (by omega) hP31 (a := 25) (b := y0) (K := fm_n c0 P) (by omega) (by omega) (by omega)) (cv_Model_78 S.1.2.2.2.2 ⟨by decide, by decide⟩) (by decide) en_Model rfl rfl hl.1 rfl (lv_room (Nat.le_of_ble_eq_true rfl)) ⟨Nat.zero_le _, Nat.zero_le _⟩ dm_Model_add_40 (fun σ3 H locs hp3 hW => ?_)
              obtain ⟨w3, e3, s3⟩ := hp3
              have k3_y0 : σ3 (300 + (y0)) = σ (300 + (y0)) := by rw [s3 _ (by simp only [List.mem_cons, List.not_mem_nil, or_false]; omega)]; exact k2_y0
              have k3_25 : σ3 (300 + (25)) = sp_add P (σ (300 + (x0))) (σ (300 + (y0))) (fm_n c0 P) := by rw [e3, k2_25, k2_y0]
              have m3 : md_sm [300 + (25)] σ σ3 := md_sm_tr s2 s3 (by intro x9 hx9; simp only [List.mem_cons, List.not_mem_nil, or_false] at hx9 ⊢; omega) (by intro x9 hx9; simp only [List.mem_cons, List.not_mem_nil, or_false] at hx9 ⊢; omega)
              refine lv_aload_n hx hb dm_Model_add_43 rfl (lv_at hl 0 rfl) ?_
              refine lv_bipush (v := nI (25)) hx hb dm_Model_add_44 (by decide) ?_
              refine lv_iload_n hx hb dm_Model_add_46 rfl (lv_at hl 1 rfl) ?_
              refine pw_callV (rest := []) S hW (mm_Model_copy l D k g σ3 w3 (a := 25) (b := d0) (by omega) (by omega)) (cv_Model_55 S.1.2.2.2.2 ⟨by decide, by decide⟩) (by decide) en_Model rfl rfl hl.1 rfl (lv_room (Nat.le_of_ble_eq_true rfl)) ⟨Nat.zero_le _, Nat.zero_le _⟩ dm_Model_add_47 (fun σ4 H locs hp4 hW => ?_)
              obtain ⟨w4, e4, s4⟩ := hp4
              have k4_25 : σ4 (300 + (25)) = sp_add P (σ (300 + (x0))) (σ (300 + (y0))) (fm_n c0 P) := by rw [s4 _ (by simp only [List.mem_cons, List.not_mem_nil, or_false]; omega)]; exact k3_25
              have k4_d0 : σ4 (300 + (d0)) = sp_add P (σ (300 + (x0))) (σ (300 + (y0))) (fm_n c0 P) := by rw [e4, k3_25]
              have m4 : md_sm [300 + (25), 300 + (d0)] σ σ4 := md_sm_tr m3 s4 (by intro x9 hx9; simp only [List.mem_cons, List.not_mem_nil, or_false] at hx9 ⊢; omega) (by intro x9 hx9; simp only [List.mem_cons, List.not_mem_nil, or_false] at hx9 ⊢; omega)
              refine lv_aload_n hx hb dm_Model_add_50 rfl (lv_at hl 0 rfl) ?_
              refine lv_iload_n hx hb dm_Model_add_51 rfl (lv_at hl 1 rfl) ?_
              refine pw_callVI (rest := []) S hW (mm_Model_size2 l D k g σ4 w4 hP31 (s0 := d0) (by omega)) (cv_Model_75 S.1.2.2.2.2 ⟨by decide, by decide⟩) (by decide) en_Model rfl rfl hl.1 rfl (lv_room (Nat.le_of_ble_eq_true rfl)) ⟨Nat.zero_le _, Nat.zero_le _⟩ dm_Model_add_52 (fun r σ1 H locs hp hW => ?_)
              obtain ⟨hr, hp⟩ := hp
              rw [hp] at hW
              subst hr
              exact hret _ _ _ _ _ _ dm_Model_add_55 (Or.inr ⟨d0, x0, y0, ⟨hd0, rfl⟩, ⟨hx0, rfl⟩, ⟨hy0, rfl⟩, rfl, w4, k4_d0, md_sm_mo m4 (by intro x9 hx9; simp only [List.mem_cons, List.not_mem_nil, or_false] at hx9 ⊢; omega)⟩) hW
            · exfalso
              omega
          · subst hr
            refine wi_if_ne (tgt := 23) S (nn_T (by omega)) dm_Model_add_18 (by decide) (fun hc => ?_) (fun hc => ?_)
            · exfalso
              omega
            · refine lv_iconst (v := -1) hx hb dm_Model_add_21 (by decide) ?_
              exact hret _ _ _ _ _ _ dm_Model_add_22 (Or.inl ⟨fun z => hno z.2.2, rfl, rfl⟩) hW
      · subst hr
        refine wi_if_eq (tgt := 21) S (nn_T (by omega)) dm_Model_add_11 (by decide) (fun hc => ?_) (fun hc => ?_)
        · refine lv_iconst (v := -1) hx hb dm_Model_add_21 (by decide) ?_
          exact hret _ _ _ _ _ _ dm_Model_add_22 (Or.inl ⟨fun z => hno z.2.1, rfl, rfl⟩) hW
        · exfalso
          omega
  · subst hr
    refine wi_if_eq (tgt := 21) S (nn_T (by omega)) dm_Model_add_4 (by decide) (fun hc => ?_) (fun hc => ?_)
    · refine lv_iconst (v := -1) hx hb dm_Model_add_21 (by decide) ?_
      exact hret _ _ _ _ _ _ dm_Model_add_22 (Or.inl ⟨fun z => hno z.1, rfl, rfl⟩) hW
    · exfalso
      omega
theorem dm_Model_multiply_0 : decode bm_Model_multiply 0 = .ok (.iload_n 1, 1) := by decide +kernel
theorem dm_Model_multiply_1 : decode bm_Model_multiply 1 = .ok (.invokestatic 69, 3) := by decide +kernel
theorem dm_Model_multiply_4 : decode bm_Model_multiply 4 = .ok (.ifCond .eq 17, 3) := by decide +kernel
theorem dm_Model_multiply_7 : decode bm_Model_multiply 7 = .ok (.iload_n 2, 1) := by decide +kernel
theorem dm_Model_multiply_8 : decode bm_Model_multiply 8 = .ok (.invokestatic 69, 3) := by decide +kernel
theorem dm_Model_multiply_11 : decode bm_Model_multiply 11 = .ok (.ifCond .eq 10, 3) := by decide +kernel
theorem dm_Model_multiply_14 : decode bm_Model_multiply 14 = .ok (.iload_n 3, 1) := by decide +kernel
theorem dm_Model_multiply_15 : decode bm_Model_multiply 15 = .ok (.invokestatic 69, 3) := by decide +kernel
theorem dm_Model_multiply_18 : decode bm_Model_multiply 18 = .ok (.ifCond .ne 5, 3) := by decide +kernel
theorem dm_Model_multiply_21 : decode bm_Model_multiply 21 = .ok (.iconst (-1), 1) := by decide +kernel
theorem dm_Model_multiply_22 : decode bm_Model_multiply 22 = .ok (.ireturn, 1) := by decide +kernel
theorem dm_Model_multiply_23 : decode bm_Model_multiply 23 = .ok (.aload_n 0, 1) := by decide +kernel
theorem dm_Model_multiply_24 : decode bm_Model_multiply 24 = .ok (.iload_n 2, 1) := by decide +kernel
theorem dm_Model_multiply_25 : decode bm_Model_multiply 25 = .ok (.invokevirtual 42, 3) := by decide +kernel
theorem dm_Model_multiply_28 : decode bm_Model_multiply 28 = .ok (.ifCond .lt 30, 3) := by decide +kernel
theorem dm_Model_multiply_31 : decode bm_Model_multiply 31 = .ok (.aload_n 0, 1) := by decide +kernel
theorem dm_Model_multiply_32 : decode bm_Model_multiply 32 = .ok (.iload_n 3, 1) := by decide +kernel
theorem dm_Model_multiply_33 : decode bm_Model_multiply 33 = .ok (.invokevirtual 42, 3) := by decide +kernel
theorem dm_Model_multiply_36 : decode bm_Model_multiply 36 = .ok (.ifCond .lt 22, 3) := by decide +kernel
theorem dm_Model_multiply_39 : decode bm_Model_multiply 39 = .ok (.aload_n 0, 1) := by decide +kernel
theorem dm_Model_multiply_40 : decode bm_Model_multiply 40 = .ok (.iload_n 2, 1) := by decide +kernel
theorem dm_Model_multiply_41 : decode bm_Model_multiply 41 = .ok (.invokevirtual 42, 3) := by decide +kernel
theorem dm_Model_multiply_44 : decode bm_Model_multiply 44 = .ok (.aload_n 0, 1) := by decide +kernel
theorem dm_Model_multiply_45 : decode bm_Model_multiply 45 = .ok (.iload_n 3, 1) := by decide +kernel
theorem dm_Model_multiply_46 : decode bm_Model_multiply 46 = .ok (.invokevirtual 42, 3) := by decide +kernel
theorem dm_Model_multiply_49 : decode bm_Model_multiply 49 = .ok (.iadd, 1) := by decide +kernel
theorem dm_Model_multiply_50 : decode bm_Model_multiply 50 = .ok (.bipush 15, 2) := by decide +kernel
theorem dm_Model_multiply_52 : decode bm_Model_multiply 52 = .ok (.if_icmp .le 6, 3) := by decide +kernel
theorem dm_Model_multiply_55 : decode bm_Model_multiply 55 = .ok (.bipush (-2), 2) := by decide +kernel
theorem dm_Model_multiply_57 : decode bm_Model_multiply 57 = .ok (.ireturn, 1) := by decide +kernel
theorem dm_Model_multiply_58 : decode bm_Model_multiply 58 = .ok (.aload_n 0, 1) := by decide +kernel
theorem dm_Model_multiply_59 : decode bm_Model_multiply 59 = .ok (.iload_n 2, 1) := by decide +kernel
theorem dm_Model_multiply_60 : decode bm_Model_multiply 60 = .ok (.iload_n 3, 1) := by decide +kernel
theorem dm_Model_multiply_61 : decode bm_Model_multiply 61 = .ok (.invokevirtual 49, 3) := by decide +kernel
theorem dm_Model_multiply_64 : decode bm_Model_multiply 64 = .ok (.aload_n 0, 1) := by decide +kernel
theorem dm_Model_multiply_65 : decode bm_Model_multiply 65 = .ok (.bipush 31, 2) := by decide +kernel
theorem dm_Model_multiply_67 : decode bm_Model_multiply 67 = .ok (.iload_n 1, 1) := by decide +kernel
theorem dm_Model_multiply_68 : decode bm_Model_multiply 68 = .ok (.invokevirtual 55, 3) := by decide +kernel
theorem dm_Model_multiply_71 : decode bm_Model_multiply 71 = .ok (.aload_n 0, 1) := by decide +kernel
theorem dm_Model_multiply_72 : decode bm_Model_multiply 72 = .ok (.iload_n 1, 1) := by decide +kernel
theorem dm_Model_multiply_73 : decode bm_Model_multiply 73 = .ok (.invokevirtual 75, 3) := by decide +kernel
theorem dm_Model_multiply_76 : decode bm_Model_multiply 76 = .ok (.ireturn, 1) := by decide +kernel
set_option maxHeartbeats 4000000 in
set_option maxRecDepth 100000 in
theorem mm_Model_multiply (l : Launch) (D : va_G) (k : ClassId × ClassId × ClassId) (g : Nat → Nat) (σ : st_T) {P : Nat} (hw : md_wf P σ) (hP : ag_pr P) (hP31 : P < 2147483648) (hrg : ∀ n, n < 8 → sp_sz (σ (300 + n)) 31 ≤ 16) {d x y : Int32} : mt_I l D k g ym_Model_multiply wm_Model_multiply rm_Model_multiply [.ref (g 149), .int d, .int x, .int y] σ (fun r σ1 => (¬ (rk_r d ∧ rk_r x ∧ rk_r y) ∧ r = -1 ∧ σ1 = σ) ∨ ∃ d0 x0 y0, (d0 < 8 ∧ d = nI d0) ∧ (x0 < 8 ∧ x = nI x0) ∧ (y0 < 8 ∧ y = nI y0) ∧ ((17 < sp_sz (σ (300 + x0)) 31 + sp_sz (σ (300 + y0)) 31 ∧ r = -2 ∧ σ1 = σ) ∨ (sp_sz (σ (300 + x0)) 31 + sp_sz (σ (300 + y0)) 31 ≤ 17 ∧ r = nI (sp_sz (σ1 (300 + d0)) 31) ∧ md_wf P σ1 ∧ σ1 (300 + d0) = sp_mul P (σ (300 + x0)) (σ (300 + y0)) ∧ md_sm [(300 + d0), 300 + 31] σ σ1))) := by
  refine ct_I_in (cc := bm_Model_multiply) (maxL := 4) (by decide) rfl (Nat.le_of_ble_eq_true rfl) ?_
  intro p e s m args below meth c A ls Q S hl hW hret
  have S : pw_S p m c bm_Model_multiply 4 s args wa_g rc_Model D cl_s (ty_s k) := S
  have hx := S.1.1
  have hb := S.1.2.1
  have hl : lv_has ls 4 [(0, .ref (g (149))), (1, .int (d)), (2, .int (x)), (3, .int (y))] := hl
  have hP2 := hP.1
  refine lv_iload_n hx hb dm_Model_multiply_0 rfl (lv_at hl 1 rfl) ?_
  refine pw_callSI (rest := []) S hW (mm_Model_isRegister l D k g σ (x := d)) (cv_Model_69 S.1.2.2.2.2 ⟨by decide, by decide⟩) rfl hl.1 rfl (lv_room (Nat.le_of_ble_eq_true rfl)) ⟨Nat.zero_le _, Nat.zero_le _⟩ dm_Model_multiply_1 (fun r σ1 H locs hp hW => ?_)
  obtain ⟨hp, h9⟩ := hp
  rw [h9] at hW
  rcases hp with ⟨hr, d0, hd0, rfl⟩ | ⟨hr, hno⟩
  · subst hr
    have hl : lv_has ls 4 [(0, .ref (g (149))), (1, .int (nI (d0))), (2, .int (x)), (3, .int (y))] := hl
    refine wi_if_eq (tgt := 21) S (nn_T (by omega)) dm_Model_multiply_4 (by decide) (fun hc => ?_) (fun hc => ?_)
    · exfalso
      omega
    · refine lv_iload_n hx hb dm_Model_multiply_7 rfl (lv_at hl 2 rfl) ?_
      refine pw_callSI (rest := []) S hW (mm_Model_isRegister l D k g σ (x := x)) (cv_Model_69 S.1.2.2.2.2 ⟨by decide, by decide⟩) rfl hl.1 rfl (lv_room (Nat.le_of_ble_eq_true rfl)) ⟨Nat.zero_le _, Nat.zero_le _⟩ dm_Model_multiply_8 (fun r σ1 H locs hp hW => ?_)
      obtain ⟨hp, h9⟩ := hp
      rw [h9] at hW
      rcases hp with ⟨hr, x0, hx0, rfl⟩ | ⟨hr, hno⟩
      · subst hr
        have hl : lv_has ls 4 [(0, .ref (g (149))), (1, .int (nI (d0))), (2, .int (nI (x0))), (3, .int (y))] := hl
        refine wi_if_eq (tgt := 21) S (nn_T (by omega)) dm_Model_multiply_11 (by decide) (fun hc => ?_) (fun hc => ?_)
        · exfalso
          omega
        · refine lv_iload_n hx hb dm_Model_multiply_14 rfl (lv_at hl 3 rfl) ?_
          refine pw_callSI (rest := []) S hW (mm_Model_isRegister l D k g σ (x := y)) (cv_Model_69 S.1.2.2.2.2 ⟨by decide, by decide⟩) rfl hl.1 rfl (lv_room (Nat.le_of_ble_eq_true rfl)) ⟨Nat.zero_le _, Nat.zero_le _⟩ dm_Model_multiply_15 (fun r σ1 H locs hp hW => ?_)
          obtain ⟨hp, h9⟩ := hp
          rw [h9] at hW
          rcases hp with ⟨hr, y0, hy0, rfl⟩ | ⟨hr, hno⟩
          · subst hr
            have hl : lv_has ls 4 [(0, .ref (g (149))), (1, .int (nI (d0))), (2, .int (nI (x0))), (3, .int (nI (y0)))] := hl
            refine wi_if_ne (tgt := 23) S (nn_T (by omega)) dm_Model_multiply_18 (by decide) (fun hc => ?_) (fun hc => ?_)
            · have hx16 := hrg x0 hx0
              have hy16 := hrg y0 hy0
              have prod : sp_sz (σ (300 + x0)) 31 + sp_sz (σ (300 + y0)) 31 ≤ 17 → ∀ (H : Heap) (locs : List Loc), pw_H D cl_s A s.heap g 153 (en_s k g (σ)) H locs → W p l e rm_Model_multiply s m args below meth c H locs 0 0 Q (F0 m 58 ls []) := by
                intro h17 H locs hW
                refine lv_aload_n hx hb dm_Model_multiply_58 rfl (lv_at hl 0 rfl) ?_
                refine lv_iload_n hx hb dm_Model_multiply_59 rfl (lv_at hl 2 rfl) ?_
                refine lv_iload_n hx hb dm_Model_multiply_60 rfl (lv_at hl 3 rfl) ?_
                refine pw_callV (rest := []) S hW (mm_Model_product2 l D k g σ hw (by omega) hP31 (a := x0) (b := y0) (by omega) (by omega) (by omega) (by omega) (by omega)) (cv_Model_49 S.1.2.2.2.2 ⟨by decide, by decide⟩) (by decide) en_Model rfl rfl hl.1 rfl (lv_room (Nat.le_of_ble_eq_true rfl)) ⟨Nat.zero_le _, Nat.zero_le _⟩ dm_Model_multiply_61 (fun σ2 H locs hp2 hW => ?_)
                obtain ⟨w2, e2, s2⟩ := hp2
                have k2_x0 : σ2 (300 + (x0)) = σ (300 + (x0)) := by rw [s2 _ (by simp only [List.mem_cons, List.not_mem_nil, or_false]; omega)]
                have k2_y0 : σ2 (300 + (y0)) = σ (300 + (y0)) := by rw [s2 _ (by simp only [List.mem_cons, List.not_mem_nil, or_false]; omega)]
                have k2_31 : σ2 (300 + (31)) = sp_mul P (σ (300 + (x0))) (σ (300 + (y0))) := by rw [e2]
                refine lv_aload_n hx hb dm_Model_multiply_64 rfl (lv_at hl 0 rfl) ?_
                refine lv_bipush (v := nI (31)) hx hb dm_Model_multiply_65 (by decide) ?_
                refine lv_iload_n hx hb dm_Model_multiply_67 rfl (lv_at hl 1 rfl) ?_
                refine pw_callV (rest := []) S hW (mm_Model_copy l D k g σ2 w2 (a := 31) (b := d0) (by omega) (by omega)) (cv_Model_55 S.1.2.2.2.2 ⟨by decide, by decide⟩) (by decide) en_Model rfl rfl hl.1 rfl (lv_room (Nat.le_of_ble_eq_true rfl)) ⟨Nat.zero_le _, Nat.zero_le _⟩ dm_Model_multiply_68 (fun σ3 H locs hp3 hW => ?_)
                obtain ⟨w3, e3, s3⟩ := hp3
                have k3_31 : σ3 (300 + (31)) = sp_mul P (σ (300 + (x0))) (σ (300 + (y0))) := by rw [s3 _ (by simp only [List.mem_cons, List.not_mem_nil, or_false]; omega)]; exact k2_31
                have k3_d0 : σ3 (300 + (d0)) = sp_mul P (σ (300 + (x0))) (σ (300 + (y0))) := by rw [e3, k2_31]
                have m3 : md_sm [300 + (31), 300 + (d0)] σ σ3 := md_sm_tr s2 s3 (by intro x9 hx9; simp only [List.mem_cons, List.not_mem_nil, or_false] at hx9 ⊢; omega) (by intro x9 hx9; simp only [List.mem_cons, List.not_mem_nil, or_false] at hx9 ⊢; omega)
                refine lv_aload_n hx hb dm_Model_multiply_71 rfl (lv_at hl 0 rfl) ?_
                refine lv_iload_n hx hb dm_Model_multiply_72 rfl (lv_at hl 1 rfl) ?_
                refine pw_callVI (rest := []) S hW (mm_Model_size2 l D k g σ3 w3 hP31 (s0 := d0) (by omega)) (cv_Model_75 S.1.2.2.2.2 ⟨by decide, by decide⟩) (by decide) en_Model rfl rfl hl.1 rfl (lv_room (Nat.le_of_ble_eq_true rfl)) ⟨Nat.zero_le _, Nat.zero_le _⟩ dm_Model_multiply_73 (fun r σ1 H locs hp hW => ?_)
                obtain ⟨hr, hp⟩ := hp
                rw [hp] at hW
                subst hr
                exact hret _ _ _ _ _ _ dm_Model_multiply_76 (Or.inr ⟨d0, x0, y0, ⟨hd0, rfl⟩, ⟨hx0, rfl⟩, ⟨hy0, rfl⟩, Or.inr ⟨h17, rfl, w3, k3_d0, md_sm_mo m3 (by intro x9 hx9; simp only [List.mem_cons, List.not_mem_nil, or_false] at hx9 ⊢; omega)⟩⟩) hW
              refine lv_aload_n hx hb dm_Model_multiply_23 rfl (lv_at hl 0 rfl) ?_
              refine lv_iload_n hx hb dm_Model_multiply_24 rfl (lv_at hl 2 rfl) ?_
              refine pw_callVI (rest := []) S hW (mm_Model_degree l D k g σ (s0 := x0) (P := P) (by omega) (hw.2 (x0) (by omega)) hP31) (cv_Model_42 S.1.2.2.2.2 ⟨by decide, by decide⟩) (by decide) en_Model rfl rfl hl.1 rfl (lv_room (Nat.le_of_ble_eq_true rfl)) ⟨Nat.zero_le _, Nat.zero_le _⟩ dm_Model_multiply_25 (fun r σ1 H locs hp hW => ?_)
              obtain ⟨hr, hp⟩ := hp
              rw [hp] at hW
              subst hr
              refine wi_if_lt (tgt := 58) S (sd_T (by omega)) dm_Model_multiply_28 (by decide) (fun hc => ?_) (fun hc => ?_)
              · exact prod (by omega) _ _ hW
              · refine lv_aload_n hx hb dm_Model_multiply_31 rfl (lv_at hl 0 rfl) ?_
                refine lv_iload_n hx hb dm_Model_multiply_32 rfl (lv_at hl 3 rfl) ?_
                refine pw_callVI (rest := []) S hW (mm_Model_degree l D k g σ (s0 := y0) (P := P) (by omega) (hw.2 (y0) (by omega)) hP31) (cv_Model_42 S.1.2.2.2.2 ⟨by decide, by decide⟩) (by decide) en_Model rfl rfl hl.1 rfl (lv_room (Nat.le_of_ble_eq_true rfl)) ⟨Nat.zero_le _, Nat.zero_le _⟩ dm_Model_multiply_33 (fun r σ1 H locs hp hW => ?_)
                obtain ⟨hr, hp⟩ := hp
                rw [hp] at hW
                subst hr
                refine wi_if_lt (tgt := 58) S (sd_T (by omega)) dm_Model_multiply_36 (by decide) (fun hc => ?_) (fun hc => ?_)
                · exact prod (by omega) _ _ hW
                · refine lv_aload_n hx hb dm_Model_multiply_39 rfl (lv_at hl 0 rfl) ?_
                  refine lv_iload_n hx hb dm_Model_multiply_40 rfl (lv_at hl 2 rfl) ?_
                  refine pw_callVI (rest := []) S hW (mm_Model_degree l D k g σ (s0 := x0) (P := P) (by omega) (hw.2 (x0) (by omega)) hP31) (cv_Model_42 S.1.2.2.2.2 ⟨by decide, by decide⟩) (by decide) en_Model rfl rfl hl.1 rfl (lv_room (Nat.le_of_ble_eq_true rfl)) ⟨Nat.zero_le _, Nat.zero_le _⟩ dm_Model_multiply_41 (fun r σ1 H locs hp hW => ?_)
                  obtain ⟨hr, hp⟩ := hp
                  rw [hp] at hW
                  subst hr
                  refine lv_aload_n hx hb dm_Model_multiply_44 rfl (lv_at hl 0 rfl) ?_
                  refine lv_iload_n hx hb dm_Model_multiply_45 rfl (lv_at hl 3 rfl) ?_
                  refine pw_callVI (rest := [.int (sd_i (sp_sz (σ (300 + (x0))) 31))]) S hW (mm_Model_degree l D k g σ (s0 := y0) (P := P) (by omega) (hw.2 (y0) (by omega)) hP31) (cv_Model_42 S.1.2.2.2.2 ⟨by decide, by decide⟩) (by decide) en_Model rfl rfl hl.1 rfl (lv_room (Nat.le_of_ble_eq_true rfl)) ⟨Nat.zero_le _, Nat.zero_le _⟩ dm_Model_multiply_46 (fun r σ1 H locs hp hW => ?_)
                  obtain ⟨hr, hp⟩ := hp
                  rw [hp] at hW
                  subst hr
                  refine lv_iadd hx hb dm_Model_multiply_49 ?_
                  refine lv_bipush (v := nI (15)) hx hb dm_Model_multiply_50 (by decide) ?_
                  refine wi_icmp_le (tgt := 58) S (sd_add hx16 hy16) (nn_T (by omega)) dm_Model_multiply_52 (by decide) (fun hc => ?_) (fun hc => ?_)
                  · exact prod (by omega) _ _ hW
                  · refine lv_bipush (v := -2) hx hb dm_Model_multiply_55 (by decide) ?_
                    exact hret _ _ _ _ _ _ dm_Model_multiply_57 (Or.inr ⟨d0, x0, y0, ⟨hd0, rfl⟩, ⟨hx0, rfl⟩, ⟨hy0, rfl⟩, Or.inl ⟨by omega, rfl, rfl⟩⟩) hW
            · exfalso
              omega
          · subst hr
            refine wi_if_ne (tgt := 23) S (nn_T (by omega)) dm_Model_multiply_18 (by decide) (fun hc => ?_) (fun hc => ?_)
            · exfalso
              omega
            · refine lv_iconst (v := -1) hx hb dm_Model_multiply_21 (by decide) ?_
              exact hret _ _ _ _ _ _ dm_Model_multiply_22 (Or.inl ⟨fun z => hno z.2.2, rfl, rfl⟩) hW
      · subst hr
        refine wi_if_eq (tgt := 21) S (nn_T (by omega)) dm_Model_multiply_11 (by decide) (fun hc => ?_) (fun hc => ?_)
        · refine lv_iconst (v := -1) hx hb dm_Model_multiply_21 (by decide) ?_
          exact hret _ _ _ _ _ _ dm_Model_multiply_22 (Or.inl ⟨fun z => hno z.2.1, rfl, rfl⟩) hW
        · exfalso
          omega
  · subst hr
    refine wi_if_eq (tgt := 21) S (nn_T (by omega)) dm_Model_multiply_4 (by decide) (fun hc => ?_) (fun hc => ?_)
    · refine lv_iconst (v := -1) hx hb dm_Model_multiply_21 (by decide) ?_
      exact hret _ _ _ _ _ _ dm_Model_multiply_22 (Or.inl ⟨fun z => hno z.1, rfl, rfl⟩) hW
    · exfalso
      omega
theorem dm_Model_divide_0 : decode bm_Model_divide 0 = .ok (.iload_n 1, 1) := by decide +kernel
theorem dm_Model_divide_1 : decode bm_Model_divide 1 = .ok (.invokestatic 69, 3) := by decide +kernel
theorem dm_Model_divide_4 : decode bm_Model_divide 4 = .ok (.ifCond .eq 34, 3) := by decide +kernel
theorem dm_Model_divide_7 : decode bm_Model_divide 7 = .ok (.iload_n 2, 1) := by decide +kernel
theorem dm_Model_divide_8 : decode bm_Model_divide 8 = .ok (.invokestatic 69, 3) := by decide +kernel
theorem dm_Model_divide_11 : decode bm_Model_divide 11 = .ok (.ifCond .eq 27, 3) := by decide +kernel
theorem dm_Model_divide_14 : decode bm_Model_divide 14 = .ok (.iload_n 3, 1) := by decide +kernel
theorem dm_Model_divide_15 : decode bm_Model_divide 15 = .ok (.invokestatic 69, 3) := by decide +kernel
theorem dm_Model_divide_18 : decode bm_Model_divide 18 = .ok (.ifCond .eq 20, 3) := by decide +kernel
theorem dm_Model_divide_21 : decode bm_Model_divide 21 = .ok (.iload 4, 2) := by decide +kernel
theorem dm_Model_divide_23 : decode bm_Model_divide 23 = .ok (.invokestatic 69, 3) := by decide +kernel
theorem dm_Model_divide_26 : decode bm_Model_divide 26 = .ok (.ifCond .eq 12, 3) := by decide +kernel
theorem dm_Model_divide_29 : decode bm_Model_divide 29 = .ok (.aload_n 0, 1) := by decide +kernel
theorem dm_Model_divide_30 : decode bm_Model_divide 30 = .ok (.iload 4, 2) := by decide +kernel
theorem dm_Model_divide_32 : decode bm_Model_divide 32 = .ok (.invokevirtual 42, 3) := by decide +kernel
theorem dm_Model_divide_35 : decode bm_Model_divide 35 = .ok (.ifCond .ge 5, 3) := by decide +kernel
theorem dm_Model_divide_38 : decode bm_Model_divide 38 = .ok (.iconst (-1), 1) := by decide +kernel
theorem dm_Model_divide_39 : decode bm_Model_divide 39 = .ok (.ireturn, 1) := by decide +kernel
theorem dm_Model_divide_40 : decode bm_Model_divide 40 = .ok (.aload_n 0, 1) := by decide +kernel
theorem dm_Model_divide_41 : decode bm_Model_divide 41 = .ok (.iload_n 3, 1) := by decide +kernel
theorem dm_Model_divide_42 : decode bm_Model_divide 42 = .ok (.bipush 25, 2) := by decide +kernel
theorem dm_Model_divide_44 : decode bm_Model_divide 44 = .ok (.invokevirtual 55, 3) := by decide +kernel
theorem dm_Model_divide_47 : decode bm_Model_divide 47 = .ok (.aload_n 0, 1) := by decide +kernel
theorem dm_Model_divide_48 : decode bm_Model_divide 48 = .ok (.bipush 25, 2) := by decide +kernel
theorem dm_Model_divide_50 : decode bm_Model_divide 50 = .ok (.iload 4, 2) := by decide +kernel
theorem dm_Model_divide_52 : decode bm_Model_divide 52 = .ok (.invokevirtual 52, 3) := by decide +kernel
theorem dm_Model_divide_55 : decode bm_Model_divide 55 = .ok (.aload_n 0, 1) := by decide +kernel
theorem dm_Model_divide_56 : decode bm_Model_divide 56 = .ok (.bipush 32, 2) := by decide +kernel
theorem dm_Model_divide_58 : decode bm_Model_divide 58 = .ok (.iload_n 1, 1) := by decide +kernel
theorem dm_Model_divide_59 : decode bm_Model_divide 59 = .ok (.invokevirtual 55, 3) := by decide +kernel
theorem dm_Model_divide_62 : decode bm_Model_divide 62 = .ok (.aload_n 0, 1) := by decide +kernel
theorem dm_Model_divide_63 : decode bm_Model_divide 63 = .ok (.bipush 25, 2) := by decide +kernel
theorem dm_Model_divide_65 : decode bm_Model_divide 65 = .ok (.iload_n 2, 1) := by decide +kernel
theorem dm_Model_divide_66 : decode bm_Model_divide 66 = .ok (.invokevirtual 55, 3) := by decide +kernel
theorem dm_Model_divide_69 : decode bm_Model_divide 69 = .ok (.aload_n 0, 1) := by decide +kernel
theorem dm_Model_divide_70 : decode bm_Model_divide 70 = .ok (.iload_n 2, 1) := by decide +kernel
theorem dm_Model_divide_71 : decode bm_Model_divide 71 = .ok (.invokevirtual 75, 3) := by decide +kernel
theorem dm_Model_divide_74 : decode bm_Model_divide 74 = .ok (.ireturn, 1) := by decide +kernel
set_option maxHeartbeats 4000000 in
set_option maxRecDepth 100000 in
theorem mm_Model_divide (l : Launch) (D : va_G) (k : ClassId × ClassId × ClassId) (g : Nat → Nat) (σ : st_T) {P : Nat} (hw : md_wf P σ) (hP : ag_pr P) (hP31 : P < 2147483648) (hrg : ∀ n, n < 8 → sp_sz (σ (300 + n)) 31 ≤ 16) {q d x y : Int32} : mt_I l D k g ym_Model_divide wm_Model_divide rm_Model_divide [.ref (g 149), .int q, .int d, .int x, .int y] σ (fun r σ1 => (¬ (rk_r q ∧ rk_r d ∧ rk_r x ∧ rk_r y) ∧ r = -1 ∧ σ1 = σ) ∨ ∃ q0 d0 x0 y0, (q0 < 8 ∧ q = nI q0) ∧ (d0 < 8 ∧ d = nI d0) ∧ (x0 < 8 ∧ x = nI x0) ∧ (y0 < 8 ∧ y = nI y0) ∧ ((sp_sz (σ (300 + y0)) 31 = 0 ∧ r = -1 ∧ σ1 = σ) ∨ (0 < sp_sz (σ (300 + y0)) 31 ∧ r = nI (sp_sz (σ1 (300 + d0)) 31) ∧ md_wf P σ1 ∧ (σ1 (300 + d0) = sp_rest P (σ (300 + x0)) (σ (300 + y0)) ∧ (q0 ≠ d0 → σ1 (300 + q0) = sp_quo P (σ (300 + x0)) (σ (300 + y0)))) ∧ md_sm [(300 + q0), (300 + d0), 300 + 25, 300 + 32] σ σ1))) := by
  refine ct_I_in (cc := bm_Model_divide) (maxL := 5) (by decide) rfl (Nat.le_of_ble_eq_true rfl) ?_
  intro p e s m args below meth c A ls Q S hl hW hret
  have S : pw_S p m c bm_Model_divide 5 s args wa_g rc_Model D cl_s (ty_s k) := S
  have hx := S.1.1
  have hb := S.1.2.1
  have hl : lv_has ls 5 [(0, .ref (g (149))), (1, .int (q)), (2, .int (d)), (3, .int (x)), (4, .int (y))] := hl
  have hP2 := hP.1
  refine lv_iload_n hx hb dm_Model_divide_0 rfl (lv_at hl 1 rfl) ?_
  refine pw_callSI (rest := []) S hW (mm_Model_isRegister l D k g σ (x := q)) (cv_Model_69 S.1.2.2.2.2 ⟨by decide, by decide⟩) rfl hl.1 rfl (lv_room (Nat.le_of_ble_eq_true rfl)) ⟨Nat.zero_le _, Nat.zero_le _⟩ dm_Model_divide_1 (fun r σ1 H locs hp hW => ?_)
  obtain ⟨hp, h9⟩ := hp
  rw [h9] at hW
  rcases hp with ⟨hr, q0, hq0, rfl⟩ | ⟨hr, hno⟩
  · subst hr
    have hl : lv_has ls 5 [(0, .ref (g (149))), (1, .int (nI (q0))), (2, .int (d)), (3, .int (x)), (4, .int (y))] := hl
    refine wi_if_eq (tgt := 38) S (nn_T (by omega)) dm_Model_divide_4 (by decide) (fun hc => ?_) (fun hc => ?_)
    · exfalso
      omega
    · refine lv_iload_n hx hb dm_Model_divide_7 rfl (lv_at hl 2 rfl) ?_
      refine pw_callSI (rest := []) S hW (mm_Model_isRegister l D k g σ (x := d)) (cv_Model_69 S.1.2.2.2.2 ⟨by decide, by decide⟩) rfl hl.1 rfl (lv_room (Nat.le_of_ble_eq_true rfl)) ⟨Nat.zero_le _, Nat.zero_le _⟩ dm_Model_divide_8 (fun r σ1 H locs hp hW => ?_)
      obtain ⟨hp, h9⟩ := hp
      rw [h9] at hW
      rcases hp with ⟨hr, d0, hd0, rfl⟩ | ⟨hr, hno⟩
      · subst hr
        have hl : lv_has ls 5 [(0, .ref (g (149))), (1, .int (nI (q0))), (2, .int (nI (d0))), (3, .int (x)), (4, .int (y))] := hl
        refine wi_if_eq (tgt := 38) S (nn_T (by omega)) dm_Model_divide_11 (by decide) (fun hc => ?_) (fun hc => ?_)
        · exfalso
          omega
        · refine lv_iload_n hx hb dm_Model_divide_14 rfl (lv_at hl 3 rfl) ?_
          refine pw_callSI (rest := []) S hW (mm_Model_isRegister l D k g σ (x := x)) (cv_Model_69 S.1.2.2.2.2 ⟨by decide, by decide⟩) rfl hl.1 rfl (lv_room (Nat.le_of_ble_eq_true rfl)) ⟨Nat.zero_le _, Nat.zero_le _⟩ dm_Model_divide_15 (fun r σ1 H locs hp hW => ?_)
          obtain ⟨hp, h9⟩ := hp
          rw [h9] at hW
          rcases hp with ⟨hr, x0, hx0, rfl⟩ | ⟨hr, hno⟩
          · subst hr
            have hl : lv_has ls 5 [(0, .ref (g (149))), (1, .int (nI (q0))), (2, .int (nI (d0))), (3, .int (nI (x0))), (4, .int (y))] := hl
            refine wi_if_eq (tgt := 38) S (nn_T (by omega)) dm_Model_divide_18 (by decide) (fun hc => ?_) (fun hc => ?_)
            · exfalso
              omega
            · refine lv_iload hx hb dm_Model_divide_21 (lv_at hl 4 rfl) ?_
              refine pw_callSI (rest := []) S hW (mm_Model_isRegister l D k g σ (x := y)) (cv_Model_69 S.1.2.2.2.2 ⟨by decide, by decide⟩) rfl hl.1 rfl (lv_room (Nat.le_of_ble_eq_true rfl)) ⟨Nat.zero_le _, Nat.zero_le _⟩ dm_Model_divide_23 (fun r σ1 H locs hp hW => ?_)
              obtain ⟨hp, h9⟩ := hp
              rw [h9] at hW
              rcases hp with ⟨hr, y0, hy0, rfl⟩ | ⟨hr, hno⟩
              · subst hr
                have hl : lv_has ls 5 [(0, .ref (g (149))), (1, .int (nI (q0))), (2, .int (nI (d0))), (3, .int (nI (x0))), (4, .int (nI (y0)))] := hl
                refine wi_if_eq (tgt := 38) S (nn_T (by omega)) dm_Model_divide_26 (by decide) (fun hc => ?_) (fun hc => ?_)
                · exfalso
                  omega
                · refine lv_aload_n hx hb dm_Model_divide_29 rfl (lv_at hl 0 rfl) ?_
                  refine lv_iload hx hb dm_Model_divide_30 (lv_at hl 4 rfl) ?_
                  refine pw_callVI (rest := []) S hW (mm_Model_degree l D k g σ (s0 := y0) (P := P) (by omega) (hw.2 (y0) (by omega)) hP31) (cv_Model_42 S.1.2.2.2.2 ⟨by decide, by decide⟩) (by decide) en_Model rfl rfl hl.1 rfl (lv_room (Nat.le_of_ble_eq_true rfl)) ⟨Nat.zero_le _, Nat.zero_le _⟩ dm_Model_divide_32 (fun r σ1 H locs hp hW => ?_)
                  obtain ⟨hr, hp⟩ := hp
                  rw [hp] at hW
                  subst hr
                  have zy := sp_sz_le (σ (300 + y0)) 31
                  refine wi_if_ge (tgt := 40) S (sd_T (by omega)) dm_Model_divide_35 (by decide) (fun hc => ?_) (fun hc => ?_)
                  · refine lv_aload_n hx hb dm_Model_divide_40 rfl (lv_at hl 0 rfl) ?_
                    refine lv_iload_n hx hb dm_Model_divide_41 rfl (lv_at hl 3 rfl) ?_
                    refine lv_bipush (v := nI (25)) hx hb dm_Model_divide_42 (by decide) ?_
                    refine pw_callV (rest := []) S hW (mm_Model_copy l D k g σ hw (a := x0) (b := 25) (by omega) (by omega)) (cv_Model_55 S.1.2.2.2.2 ⟨by decide, by decide⟩) (by decide) en_Model rfl rfl hl.1 rfl (lv_room (Nat.le_of_ble_eq_true rfl)) ⟨Nat.zero_le _, Nat.zero_le _⟩ dm_Model_divide_44 (fun σ2 H locs hp2 hW => ?_)
                    obtain ⟨w2, e2, s2⟩ := hp2
                    have k2_y0 : σ2 (300 + (y0)) = σ (300 + (y0)) := by rw [s2 _ (by simp only [List.mem_cons, List.not_mem_nil, or_false]; omega)]
                    have k2_25 : σ2 (300 + (25)) = σ (300 + (x0)) := by rw [e2]
                    refine lv_aload_n hx hb dm_Model_divide_47 rfl (lv_at hl 0 rfl) ?_
                    refine lv_bipush (v := nI (25)) hx hb dm_Model_divide_48 (by decide) ?_
                    refine lv_iload hx hb dm_Model_divide_50 (lv_at hl 4 rfl) ?_
                    refine pw_callV (rest := []) S hW (mm_Model_rest l D k g σ2 w2 hP hP31 (a := 25) (b := y0) (by omega) (by omega) (by omega) (by omega) (by omega) (by rw [k2_y0]; omega)) (cv_Model_52 S.1.2.2.2.2 ⟨by decide, by decide⟩) (by decide) en_Model rfl rfl hl.1 rfl (lv_room (Nat.le_of_ble_eq_true rfl)) ⟨Nat.zero_le _, Nat.zero_le _⟩ dm_Model_divide_52 (fun σ3 H locs hp3 hW => ?_)
                    obtain ⟨w3, e3, s3⟩ := hp3
                    have k3_y0 : σ3 (300 + (y0)) = σ (300 + (y0)) := by rw [s3 _ (by simp only [List.mem_cons, List.not_mem_nil, or_false]; omega)]; exact k2_y0
                    have k3_25 : σ3 (300 + (25)) = sp_rest P (σ (300 + (x0))) (σ (300 + (y0))) := by rw [e3.1, k2_25, k2_y0]
                    have k3_32 : σ3 (300 + (32)) = sp_quo P (σ (300 + (x0))) (σ (300 + (y0))) := by rw [e3.2, k2_25, k2_y0]
                    have m3 : md_sm [300 + (25), 300 + (32)] σ σ3 := md_sm_tr s2 s3 (by intro x9 hx9; simp only [List.mem_cons, List.not_mem_nil, or_false] at hx9 ⊢; omega) (by intro x9 hx9; simp only [List.mem_cons, List.not_mem_nil, or_false] at hx9 ⊢; omega)
                    refine lv_aload_n hx hb dm_Model_divide_55 rfl (lv_at hl 0 rfl) ?_
                    refine lv_bipush (v := nI (32)) hx hb dm_Model_divide_56 (by decide) ?_
                    refine lv_iload_n hx hb dm_Model_divide_58 rfl (lv_at hl 1 rfl) ?_
                    refine pw_callV (rest := []) S hW (mm_Model_copy l D k g σ3 w3 (a := 32) (b := q0) (by omega) (by omega)) (cv_Model_55 S.1.2.2.2.2 ⟨by decide, by decide⟩) (by decide) en_Model rfl rfl hl.1 rfl (lv_room (Nat.le_of_ble_eq_true rfl)) ⟨Nat.zero_le _, Nat.zero_le _⟩ dm_Model_divide_59 (fun σ4 H locs hp4 hW => ?_)
                    obtain ⟨w4, e4, s4⟩ := hp4
                    have k4_25 : σ4 (300 + (25)) = sp_rest P (σ (300 + (x0))) (σ (300 + (y0))) := by rw [s4 _ (by simp only [List.mem_cons, List.not_mem_nil, or_false]; omega)]; exact k3_25
                    have k4_32 : σ4 (300 + (32)) = sp_quo P (σ (300 + (x0))) (σ (300 + (y0))) := by rw [s4 _ (by simp only [List.mem_cons, List.not_mem_nil, or_false]; omega)]; exact k3_32
                    have k4_q0 : σ4 (300 + (q0)) = sp_quo P (σ (300 + (x0))) (σ (300 + (y0))) := by rw [e4, k3_32]
                    have m4 : md_sm [300 + (25), 300 + (32), 300 + (q0)] σ σ4 := md_sm_tr m3 s4 (by intro x9 hx9; simp only [List.mem_cons, List.not_mem_nil, or_false] at hx9 ⊢; omega) (by intro x9 hx9; simp only [List.mem_cons, List.not_mem_nil, or_false] at hx9 ⊢; omega)
                    refine lv_aload_n hx hb dm_Model_divide_62 rfl (lv_at hl 0 rfl) ?_
                    refine lv_bipush (v := nI (25)) hx hb dm_Model_divide_63 (by decide) ?_
                    refine lv_iload_n hx hb dm_Model_divide_65 rfl (lv_at hl 2 rfl) ?_
                    refine pw_callV (rest := []) S hW (mm_Model_copy l D k g σ4 w4 (a := 25) (b := d0) (by omega) (by omega)) (cv_Model_55 S.1.2.2.2.2 ⟨by decide, by decide⟩) (by decide) en_Model rfl rfl hl.1 rfl (lv_room (Nat.le_of_ble_eq_true rfl)) ⟨Nat.zero_le _, Nat.zero_le _⟩ dm_Model_divide_66 (fun σ5 H locs hp5 hW => ?_)
                    obtain ⟨w5, e5, s5⟩ := hp5
                    have k5_25 : σ5 (300 + (25)) = sp_rest P (σ (300 + (x0))) (σ (300 + (y0))) := by rw [s5 _ (by simp only [List.mem_cons, List.not_mem_nil, or_false]; omega)]; exact k4_25
                    have k5_d0 : σ5 (300 + (d0)) = sp_rest P (σ (300 + (x0))) (σ (300 + (y0))) := by rw [e5, k4_25]
                    have m5 : md_sm [300 + (25), 300 + (32), 300 + (q0), 300 + (d0)] σ σ5 := md_sm_tr m4 s5 (by intro x9 hx9; simp only [List.mem_cons, List.not_mem_nil, or_false] at hx9 ⊢; omega) (by intro x9 hx9; simp only [List.mem_cons, List.not_mem_nil, or_false] at hx9 ⊢; omega)
                    refine lv_aload_n hx hb dm_Model_divide_69 rfl (lv_at hl 0 rfl) ?_
                    refine lv_iload_n hx hb dm_Model_divide_70 rfl (lv_at hl 2 rfl) ?_
                    refine pw_callVI (rest := []) S hW (mm_Model_size2 l D k g σ5 w5 hP31 (s0 := d0) (by omega)) (cv_Model_75 S.1.2.2.2.2 ⟨by decide, by decide⟩) (by decide) en_Model rfl rfl hl.1 rfl (lv_room (Nat.le_of_ble_eq_true rfl)) ⟨Nat.zero_le _, Nat.zero_le _⟩ dm_Model_divide_71 (fun r σ1 H locs hp hW => ?_)
                    obtain ⟨hr, hp⟩ := hp
                    rw [hp] at hW
                    subst hr
                    exact hret _ _ _ _ _ _ dm_Model_divide_74 (Or.inr ⟨q0, d0, x0, y0, ⟨hq0, rfl⟩, ⟨hd0, rfl⟩, ⟨hx0, rfl⟩, ⟨hy0, rfl⟩, Or.inr ⟨by omega, rfl, w5, ⟨k5_d0, fun z => by rw [s5 _ (by simp only [List.mem_cons, List.not_mem_nil, or_false]; omega)]; exact k4_q0⟩, md_sm_mo m5 (by intro x9 hx9; simp only [List.mem_cons, List.not_mem_nil, or_false] at hx9 ⊢; omega)⟩⟩) hW
                  · refine lv_iconst (v := -1) hx hb dm_Model_divide_38 (by decide) ?_
                    exact hret _ _ _ _ _ _ dm_Model_divide_39 (Or.inr ⟨q0, d0, x0, y0, ⟨hq0, rfl⟩, ⟨hd0, rfl⟩, ⟨hx0, rfl⟩, ⟨hy0, rfl⟩, Or.inl ⟨by omega, rfl, rfl⟩⟩) hW
              · subst hr
                refine wi_if_eq (tgt := 38) S (nn_T (by omega)) dm_Model_divide_26 (by decide) (fun hc => ?_) (fun hc => ?_)
                · refine lv_iconst (v := -1) hx hb dm_Model_divide_38 (by decide) ?_
                  exact hret _ _ _ _ _ _ dm_Model_divide_39 (Or.inl ⟨fun z => hno z.2.2.2, rfl, rfl⟩) hW
                · exfalso
                  omega
          · subst hr
            refine wi_if_eq (tgt := 38) S (nn_T (by omega)) dm_Model_divide_18 (by decide) (fun hc => ?_) (fun hc => ?_)
            · refine lv_iconst (v := -1) hx hb dm_Model_divide_38 (by decide) ?_
              exact hret _ _ _ _ _ _ dm_Model_divide_39 (Or.inl ⟨fun z => hno z.2.2.1, rfl, rfl⟩) hW
            · exfalso
              omega
      · subst hr
        refine wi_if_eq (tgt := 38) S (nn_T (by omega)) dm_Model_divide_11 (by decide) (fun hc => ?_) (fun hc => ?_)
        · refine lv_iconst (v := -1) hx hb dm_Model_divide_38 (by decide) ?_
          exact hret _ _ _ _ _ _ dm_Model_divide_39 (Or.inl ⟨fun z => hno z.2.1, rfl, rfl⟩) hW
        · exfalso
          omega
  · subst hr
    refine wi_if_eq (tgt := 38) S (nn_T (by omega)) dm_Model_divide_4 (by decide) (fun hc => ?_) (fun hc => ?_)
    · refine lv_iconst (v := -1) hx hb dm_Model_divide_38 (by decide) ?_
      exact hret _ _ _ _ _ _ dm_Model_divide_39 (Or.inl ⟨fun z => hno z.1, rfl, rfl⟩) hW
    · exfalso
      omega
theorem dm_Model_common_0 : decode bm_Model_common 0 = .ok (.iload_n 1, 1) := by decide +kernel
theorem dm_Model_common_1 : decode bm_Model_common 1 = .ok (.invokestatic 69, 3) := by decide +kernel
theorem dm_Model_common_4 : decode bm_Model_common 4 = .ok (.ifCond .eq 17, 3) := by decide +kernel
theorem dm_Model_common_7 : decode bm_Model_common 7 = .ok (.iload_n 2, 1) := by decide +kernel
theorem dm_Model_common_8 : decode bm_Model_common 8 = .ok (.invokestatic 69, 3) := by decide +kernel
theorem dm_Model_common_11 : decode bm_Model_common 11 = .ok (.ifCond .eq 10, 3) := by decide +kernel
theorem dm_Model_common_14 : decode bm_Model_common 14 = .ok (.iload_n 3, 1) := by decide +kernel
theorem dm_Model_common_15 : decode bm_Model_common 15 = .ok (.invokestatic 69, 3) := by decide +kernel
theorem dm_Model_common_18 : decode bm_Model_common 18 = .ok (.ifCond .ne 5, 3) := by decide +kernel
theorem dm_Model_common_21 : decode bm_Model_common 21 = .ok (.iconst (-1), 1) := by decide +kernel
theorem dm_Model_common_22 : decode bm_Model_common 22 = .ok (.ireturn, 1) := by decide +kernel
theorem dm_Model_common_23 : decode bm_Model_common 23 = .ok (.aload_n 0, 1) := by decide +kernel
theorem dm_Model_common_24 : decode bm_Model_common 24 = .ok (.iload_n 2, 1) := by decide +kernel
theorem dm_Model_common_25 : decode bm_Model_common 25 = .ok (.iload_n 3, 1) := by decide +kernel
theorem dm_Model_common_26 : decode bm_Model_common 26 = .ok (.invokevirtual 81, 3) := by decide +kernel
theorem dm_Model_common_29 : decode bm_Model_common 29 = .ok (.aload_n 0, 1) := by decide +kernel
theorem dm_Model_common_30 : decode bm_Model_common 30 = .ok (.bipush 30, 2) := by decide +kernel
theorem dm_Model_common_32 : decode bm_Model_common 32 = .ok (.iload_n 1, 1) := by decide +kernel
theorem dm_Model_common_33 : decode bm_Model_common 33 = .ok (.invokevirtual 55, 3) := by decide +kernel
theorem dm_Model_common_36 : decode bm_Model_common 36 = .ok (.aload_n 0, 1) := by decide +kernel
theorem dm_Model_common_37 : decode bm_Model_common 37 = .ok (.iload_n 1, 1) := by decide +kernel
theorem dm_Model_common_38 : decode bm_Model_common 38 = .ok (.invokevirtual 75, 3) := by decide +kernel
theorem dm_Model_common_41 : decode bm_Model_common 41 = .ok (.ireturn, 1) := by decide +kernel
set_option maxHeartbeats 4000000 in
set_option maxRecDepth 100000 in
theorem mm_Model_common (l : Launch) (D : va_G) (k : ClassId × ClassId × ClassId) (g : Nat → Nat) (σ : st_T) {P : Nat} (hw : md_wf P σ) (hP : ag_pr P) (hP31 : P < 2147483648) (hrg : ∀ n, n < 8 → sp_sz (σ (300 + n)) 31 ≤ 16) {d x y : Int32} : mt_I l D k g ym_Model_common wm_Model_common rm_Model_common [.ref (g 149), .int d, .int x, .int y] σ (fun r σ1 => (¬ (rk_r d ∧ rk_r x ∧ rk_r y) ∧ r = -1 ∧ σ1 = σ) ∨ ∃ d0 x0 y0, (d0 < 8 ∧ d = nI d0) ∧ (x0 < 8 ∧ x = nI x0) ∧ (y0 < 8 ∧ y = nI y0) ∧ r = nI (sp_sz (σ1 (300 + d0)) 31) ∧ md_wf P σ1 ∧ σ1 (300 + d0) = sp_gcd P (σ (300 + x0)) (σ (300 + y0)) ∧ md_sm [(300 + d0), 300 + 29, 300 + 30, 300 + 31, 300 + 32] σ σ1) := by
  refine ct_I_in (cc := bm_Model_common) (maxL := 4) (by decide) rfl (Nat.le_of_ble_eq_true rfl) ?_
  intro p e s m args below meth c A ls Q S hl hW hret
  have S : pw_S p m c bm_Model_common 4 s args wa_g rc_Model D cl_s (ty_s k) := S
  have hx := S.1.1
  have hb := S.1.2.1
  have hl : lv_has ls 4 [(0, .ref (g (149))), (1, .int (d)), (2, .int (x)), (3, .int (y))] := hl
  have hP2 := hP.1
  refine lv_iload_n hx hb dm_Model_common_0 rfl (lv_at hl 1 rfl) ?_
  refine pw_callSI (rest := []) S hW (mm_Model_isRegister l D k g σ (x := d)) (cv_Model_69 S.1.2.2.2.2 ⟨by decide, by decide⟩) rfl hl.1 rfl (lv_room (Nat.le_of_ble_eq_true rfl)) ⟨Nat.zero_le _, Nat.zero_le _⟩ dm_Model_common_1 (fun r σ1 H locs hp hW => ?_)
  obtain ⟨hp, h9⟩ := hp
  rw [h9] at hW
  rcases hp with ⟨hr, d0, hd0, rfl⟩ | ⟨hr, hno⟩
  · subst hr
    have hl : lv_has ls 4 [(0, .ref (g (149))), (1, .int (nI (d0))), (2, .int (x)), (3, .int (y))] := hl
    refine wi_if_eq (tgt := 21) S (nn_T (by omega)) dm_Model_common_4 (by decide) (fun hc => ?_) (fun hc => ?_)
    · exfalso
      omega
    · refine lv_iload_n hx hb dm_Model_common_7 rfl (lv_at hl 2 rfl) ?_
      refine pw_callSI (rest := []) S hW (mm_Model_isRegister l D k g σ (x := x)) (cv_Model_69 S.1.2.2.2.2 ⟨by decide, by decide⟩) rfl hl.1 rfl (lv_room (Nat.le_of_ble_eq_true rfl)) ⟨Nat.zero_le _, Nat.zero_le _⟩ dm_Model_common_8 (fun r σ1 H locs hp hW => ?_)
      obtain ⟨hp, h9⟩ := hp
      rw [h9] at hW
      rcases hp with ⟨hr, x0, hx0, rfl⟩ | ⟨hr, hno⟩
      · subst hr
        have hl : lv_has ls 4 [(0, .ref (g (149))), (1, .int (nI (d0))), (2, .int (nI (x0))), (3, .int (y))] := hl
        refine wi_if_eq (tgt := 21) S (nn_T (by omega)) dm_Model_common_11 (by decide) (fun hc => ?_) (fun hc => ?_)
        · exfalso
          omega
        · refine lv_iload_n hx hb dm_Model_common_14 rfl (lv_at hl 3 rfl) ?_
          refine pw_callSI (rest := []) S hW (mm_Model_isRegister l D k g σ (x := y)) (cv_Model_69 S.1.2.2.2.2 ⟨by decide, by decide⟩) rfl hl.1 rfl (lv_room (Nat.le_of_ble_eq_true rfl)) ⟨Nat.zero_le _, Nat.zero_le _⟩ dm_Model_common_15 (fun r σ1 H locs hp hW => ?_)
          obtain ⟨hp, h9⟩ := hp
          rw [h9] at hW
          rcases hp with ⟨hr, y0, hy0, rfl⟩ | ⟨hr, hno⟩
          · subst hr
            have hl : lv_has ls 4 [(0, .ref (g (149))), (1, .int (nI (d0))), (2, .int (nI (x0))), (3, .int (nI (y0)))] := hl
            refine wi_if_ne (tgt := 23) S (nn_T (by omega)) dm_Model_common_18 (by decide) (fun hc => ?_) (fun hc => ?_)
            · refine lv_aload_n hx hb dm_Model_common_23 rfl (lv_at hl 0 rfl) ?_
              refine lv_iload_n hx hb dm_Model_common_24 rfl (lv_at hl 2 rfl) ?_
              refine lv_iload_n hx hb dm_Model_common_25 rfl (lv_at hl 3 rfl) ?_
              refine pw_callV (rest := []) S hW (mm_Model_commonOf l D k g σ hw hP hP31 (a := x0) (b := y0) (by omega) (by omega) (by omega)) (cv_Model_81 S.1.2.2.2.2 ⟨by decide, by decide⟩) (by decide) en_Model rfl rfl hl.1 rfl (lv_room (Nat.le_of_ble_eq_true rfl)) ⟨Nat.zero_le _, Nat.zero_le _⟩ dm_Model_common_26 (fun σ2 H locs hp2 hW => ?_)
              obtain ⟨w2, e2, s2⟩ := hp2
              have k2_30 : σ2 (300 + (30)) = sp_gcd P (σ (300 + (x0))) (σ (300 + (y0))) := by rw [e2]
              refine lv_aload_n hx hb dm_Model_common_29 rfl (lv_at hl 0 rfl) ?_
              refine lv_bipush (v := nI (30)) hx hb dm_Model_common_30 (by decide) ?_
              refine lv_iload_n hx hb dm_Model_common_32 rfl (lv_at hl 1 rfl) ?_
              refine pw_callV (rest := []) S hW (mm_Model_copy l D k g σ2 w2 (a := 30) (b := d0) (by omega) (by omega)) (cv_Model_55 S.1.2.2.2.2 ⟨by decide, by decide⟩) (by decide) en_Model rfl rfl hl.1 rfl (lv_room (Nat.le_of_ble_eq_true rfl)) ⟨Nat.zero_le _, Nat.zero_le _⟩ dm_Model_common_33 (fun σ3 H locs hp3 hW => ?_)
              obtain ⟨w3, e3, s3⟩ := hp3
              have k3_30 : σ3 (300 + (30)) = sp_gcd P (σ (300 + (x0))) (σ (300 + (y0))) := by rw [s3 _ (by simp only [List.mem_cons, List.not_mem_nil, or_false]; omega)]; exact k2_30
              have k3_d0 : σ3 (300 + (d0)) = sp_gcd P (σ (300 + (x0))) (σ (300 + (y0))) := by rw [e3, k2_30]
              have m3 : md_sm [300 + (29), 300 + (30), 300 + (31), 300 + (32), 300 + (d0)] σ σ3 := md_sm_tr s2 s3 (by intro x9 hx9; simp only [List.mem_cons, List.not_mem_nil, or_false] at hx9 ⊢; omega) (by intro x9 hx9; simp only [List.mem_cons, List.not_mem_nil, or_false] at hx9 ⊢; omega)
              refine lv_aload_n hx hb dm_Model_common_36 rfl (lv_at hl 0 rfl) ?_
              refine lv_iload_n hx hb dm_Model_common_37 rfl (lv_at hl 1 rfl) ?_
              refine pw_callVI (rest := []) S hW (mm_Model_size2 l D k g σ3 w3 hP31 (s0 := d0) (by omega)) (cv_Model_75 S.1.2.2.2.2 ⟨by decide, by decide⟩) (by decide) en_Model rfl rfl hl.1 rfl (lv_room (Nat.le_of_ble_eq_true rfl)) ⟨Nat.zero_le _, Nat.zero_le _⟩ dm_Model_common_38 (fun r σ1 H locs hp hW => ?_)
              obtain ⟨hr, hp⟩ := hp
              rw [hp] at hW
              subst hr
              exact hret _ _ _ _ _ _ dm_Model_common_41 (Or.inr ⟨d0, x0, y0, ⟨hd0, rfl⟩, ⟨hx0, rfl⟩, ⟨hy0, rfl⟩, rfl, w3, k3_d0, md_sm_mo m3 (by intro x9 hx9; simp only [List.mem_cons, List.not_mem_nil, or_false] at hx9 ⊢; omega)⟩) hW
            · exfalso
              omega
          · subst hr
            refine wi_if_ne (tgt := 23) S (nn_T (by omega)) dm_Model_common_18 (by decide) (fun hc => ?_) (fun hc => ?_)
            · exfalso
              omega
            · refine lv_iconst (v := -1) hx hb dm_Model_common_21 (by decide) ?_
              exact hret _ _ _ _ _ _ dm_Model_common_22 (Or.inl ⟨fun z => hno z.2.2, rfl, rfl⟩) hW
      · subst hr
        refine wi_if_eq (tgt := 21) S (nn_T (by omega)) dm_Model_common_11 (by decide) (fun hc => ?_) (fun hc => ?_)
        · refine lv_iconst (v := -1) hx hb dm_Model_common_21 (by decide) ?_
          exact hret _ _ _ _ _ _ dm_Model_common_22 (Or.inl ⟨fun z => hno z.2.1, rfl, rfl⟩) hW
        · exfalso
          omega
  · subst hr
    refine wi_if_eq (tgt := 21) S (nn_T (by omega)) dm_Model_common_4 (by decide) (fun hc => ?_) (fun hc => ?_)
    · refine lv_iconst (v := -1) hx hb dm_Model_common_21 (by decide) ?_
      exact hret _ _ _ _ _ _ dm_Model_common_22 (Or.inl ⟨fun z => hno z.1, rfl, rfl⟩) hW
    · exfalso
      omega
theorem dm_Model_power_0 : decode bm_Model_power 0 = .ok (.iload_n 1, 1) := by decide +kernel
theorem dm_Model_power_1 : decode bm_Model_power 1 = .ok (.invokestatic 69, 3) := by decide +kernel
theorem dm_Model_power_4 : decode bm_Model_power 4 = .ok (.ifCond .eq 33, 3) := by decide +kernel
theorem dm_Model_power_7 : decode bm_Model_power 7 = .ok (.iload_n 2, 1) := by decide +kernel
theorem dm_Model_power_8 : decode bm_Model_power 8 = .ok (.invokestatic 69, 3) := by decide +kernel
theorem dm_Model_power_11 : decode bm_Model_power 11 = .ok (.ifCond .eq 26, 3) := by decide +kernel
theorem dm_Model_power_14 : decode bm_Model_power 14 = .ok (.iload 5, 2) := by decide +kernel
theorem dm_Model_power_16 : decode bm_Model_power 16 = .ok (.invokestatic 69, 3) := by decide +kernel
theorem dm_Model_power_19 : decode bm_Model_power 19 = .ok (.ifCond .eq 18, 3) := by decide +kernel
theorem dm_Model_power_22 : decode bm_Model_power 22 = .ok (.aload_n 0, 1) := by decide +kernel
theorem dm_Model_power_23 : decode bm_Model_power 23 = .ok (.iload 5, 2) := by decide +kernel
theorem dm_Model_power_25 : decode bm_Model_power 25 = .ok (.invokevirtual 42, 3) := by decide +kernel
theorem dm_Model_power_28 : decode bm_Model_power 28 = .ok (.ifCond .lt 9, 3) := by decide +kernel
theorem dm_Model_power_31 : decode bm_Model_power 31 = .ok (.lload_n 3, 1) := by decide +kernel
theorem dm_Model_power_32 : decode bm_Model_power 32 = .ok (.lconst 0, 1) := by decide +kernel
theorem dm_Model_power_33 : decode bm_Model_power 33 = .ok (.lcmp, 1) := by decide +kernel
theorem dm_Model_power_34 : decode bm_Model_power 34 = .ok (.ifCond .ge 5, 3) := by decide +kernel
theorem dm_Model_power_37 : decode bm_Model_power 37 = .ok (.iconst (-1), 1) := by decide +kernel
theorem dm_Model_power_38 : decode bm_Model_power 38 = .ok (.ireturn, 1) := by decide +kernel
theorem dm_Model_power_39 : decode bm_Model_power 39 = .ok (.aload_n 0, 1) := by decide +kernel
theorem dm_Model_power_40 : decode bm_Model_power 40 = .ok (.iload_n 2, 1) := by decide +kernel
theorem dm_Model_power_41 : decode bm_Model_power 41 = .ok (.lload_n 3, 1) := by decide +kernel
theorem dm_Model_power_42 : decode bm_Model_power 42 = .ok (.iload 5, 2) := by decide +kernel
theorem dm_Model_power_44 : decode bm_Model_power 44 = .ok (.invokevirtual 65, 3) := by decide +kernel
theorem dm_Model_power_47 : decode bm_Model_power 47 = .ok (.aload_n 0, 1) := by decide +kernel
theorem dm_Model_power_48 : decode bm_Model_power 48 = .ok (.bipush 28, 2) := by decide +kernel
theorem dm_Model_power_50 : decode bm_Model_power 50 = .ok (.iload_n 1, 1) := by decide +kernel
theorem dm_Model_power_51 : decode bm_Model_power 51 = .ok (.invokevirtual 55, 3) := by decide +kernel
theorem dm_Model_power_54 : decode bm_Model_power 54 = .ok (.aload_n 0, 1) := by decide +kernel
theorem dm_Model_power_55 : decode bm_Model_power 55 = .ok (.iload_n 1, 1) := by decide +kernel
theorem dm_Model_power_56 : decode bm_Model_power 56 = .ok (.invokevirtual 75, 3) := by decide +kernel
theorem dm_Model_power_59 : decode bm_Model_power 59 = .ok (.ireturn, 1) := by decide +kernel
set_option maxHeartbeats 4000000 in
set_option maxRecDepth 100000 in
theorem mm_Model_power (l : Launch) (D : va_G) (k : ClassId × ClassId × ClassId) (g : Nat → Nat) (σ : st_T) {P : Nat} (hw : md_wf P σ) (hP : ag_pr P) (hP31 : P < 2147483648) (hrg : ∀ n, n < 8 → sp_sz (σ (300 + n)) 31 ≤ 16) {d x y : Int32} {z0 : Int64} : mt_I l D k g ym_Model_power wm_Model_power rm_Model_power [.ref (g 149), .int d, .int x, .long z0, .int y] σ (fun r σ1 => (¬ (rk_r d ∧ rk_r x ∧ rk_r y) ∧ r = -1 ∧ σ1 = σ) ∨ ∃ d0 x0 y0, (d0 < 8 ∧ d = nI d0) ∧ (x0 < 8 ∧ x = nI x0) ∧ (y0 < 8 ∧ y = nI y0) ∧ (((sp_sz (σ (300 + y0)) 31 = 0 ∨ ¬ lN 0 ≤ z0) ∧ r = -1 ∧ σ1 = σ) ∨ (0 < sp_sz (σ (300 + y0)) 31 ∧ lN 0 ≤ z0 ∧ r = nI (sp_sz (σ1 (300 + d0)) 31) ∧ md_wf P σ1 ∧ sp_is P (σ (300 + y0)) (σ1 (300 + d0)) (pz_pw (pe_f (σ (300 + x0))) z0.toInt.toNat) ∧ md_sm [(300 + d0), 300 + 28, 300 + 31, 300 + 32] σ σ1))) := by
  refine ct_I_in (cc := bm_Model_power) (maxL := 6) (by decide) rfl (Nat.le_of_ble_eq_true rfl) ?_
  intro p e s m args below meth c A ls Q S hl hW hret
  have S : pw_S p m c bm_Model_power 6 s args wa_g rc_Model D cl_s (ty_s k) := S
  have hx := S.1.1
  have hb := S.1.2.1
  have hl : lv_has ls 6 [(0, .ref (g (149))), (1, .int (d)), (2, .int (x)), (3, .long (z0)), (5, .int (y))] := hl
  have hP2 := hP.1
  refine lv_iload_n hx hb dm_Model_power_0 rfl (lv_at hl 1 rfl) ?_
  refine pw_callSI (rest := []) S hW (mm_Model_isRegister l D k g σ (x := d)) (cv_Model_69 S.1.2.2.2.2 ⟨by decide, by decide⟩) rfl hl.1 rfl (lv_room (Nat.le_of_ble_eq_true rfl)) ⟨Nat.zero_le _, Nat.zero_le _⟩ dm_Model_power_1 (fun r σ1 H locs hp hW => ?_)
  obtain ⟨hp, h9⟩ := hp
  rw [h9] at hW
  rcases hp with ⟨hr, d0, hd0, rfl⟩ | ⟨hr, hno⟩
  · subst hr
    have hl : lv_has ls 6 [(0, .ref (g (149))), (1, .int (nI (d0))), (2, .int (x)), (3, .long (z0)), (5, .int (y))] := hl
    refine wi_if_eq (tgt := 37) S (nn_T (by omega)) dm_Model_power_4 (by decide) (fun hc => ?_) (fun hc => ?_)
    · exfalso
      omega
    · refine lv_iload_n hx hb dm_Model_power_7 rfl (lv_at hl 2 rfl) ?_
      refine pw_callSI (rest := []) S hW (mm_Model_isRegister l D k g σ (x := x)) (cv_Model_69 S.1.2.2.2.2 ⟨by decide, by decide⟩) rfl hl.1 rfl (lv_room (Nat.le_of_ble_eq_true rfl)) ⟨Nat.zero_le _, Nat.zero_le _⟩ dm_Model_power_8 (fun r σ1 H locs hp hW => ?_)
      obtain ⟨hp, h9⟩ := hp
      rw [h9] at hW
      rcases hp with ⟨hr, x0, hx0, rfl⟩ | ⟨hr, hno⟩
      · subst hr
        have hl : lv_has ls 6 [(0, .ref (g (149))), (1, .int (nI (d0))), (2, .int (nI (x0))), (3, .long (z0)), (5, .int (y))] := hl
        refine wi_if_eq (tgt := 37) S (nn_T (by omega)) dm_Model_power_11 (by decide) (fun hc => ?_) (fun hc => ?_)
        · exfalso
          omega
        · refine lv_iload hx hb dm_Model_power_14 (lv_at hl 4 rfl) ?_
          refine pw_callSI (rest := []) S hW (mm_Model_isRegister l D k g σ (x := y)) (cv_Model_69 S.1.2.2.2.2 ⟨by decide, by decide⟩) rfl hl.1 rfl (lv_room (Nat.le_of_ble_eq_true rfl)) ⟨Nat.zero_le _, Nat.zero_le _⟩ dm_Model_power_16 (fun r σ1 H locs hp hW => ?_)
          obtain ⟨hp, h9⟩ := hp
          rw [h9] at hW
          rcases hp with ⟨hr, y0, hy0, rfl⟩ | ⟨hr, hno⟩
          · subst hr
            have hl : lv_has ls 6 [(0, .ref (g (149))), (1, .int (nI (d0))), (2, .int (nI (x0))), (3, .long (z0)), (5, .int (nI (y0)))] := hl
            refine wi_if_eq (tgt := 37) S (nn_T (by omega)) dm_Model_power_19 (by decide) (fun hc => ?_) (fun hc => ?_)
            · exfalso
              omega
            · refine lv_aload_n hx hb dm_Model_power_22 rfl (lv_at hl 0 rfl) ?_
              refine lv_iload hx hb dm_Model_power_23 (lv_at hl 4 rfl) ?_
              refine pw_callVI (rest := []) S hW (mm_Model_degree l D k g σ (s0 := y0) (P := P) (by omega) (hw.2 (y0) (by omega)) hP31) (cv_Model_42 S.1.2.2.2.2 ⟨by decide, by decide⟩) (by decide) en_Model rfl rfl hl.1 rfl (lv_room (Nat.le_of_ble_eq_true rfl)) ⟨Nat.zero_le _, Nat.zero_le _⟩ dm_Model_power_25 (fun r σ1 H locs hp hW => ?_)
              obtain ⟨hr, hp⟩ := hp
              rw [hp] at hW
              subst hr
              have zy := sp_sz_le (σ (300 + y0)) 31
              have hy16 := hrg y0 hy0
              have hx16 := hrg x0 hx0
              refine wi_if_lt (tgt := 37) S (sd_T (by omega)) dm_Model_power_28 (by decide) (fun hc => ?_) (fun hc => ?_)
              · refine lv_iconst (v := -1) hx hb dm_Model_power_37 (by decide) ?_
                exact hret _ _ _ _ _ _ dm_Model_power_38 (Or.inr ⟨d0, x0, y0, ⟨hd0, rfl⟩, ⟨hx0, rfl⟩, ⟨hy0, rfl⟩, Or.inl ⟨Or.inl (by omega), rfl, rfl⟩⟩) hW
              · refine lv_lload_n hx hb dm_Model_power_31 rfl (lv_at hl 3 rfl) ?_
                refine lv_lconst (v := lN (0)) hx hb dm_Model_power_32 (by decide) ?_
                refine W.lcmp hx hb dm_Model_power_33 ?_
                refine lv_if_ge (tgt := 39) hx hb dm_Model_power_34 (by decide) (fun hc => ?_) (fun hc => ?_)
                · have hc := (lg_cmp_ge _ _).mp hc
                  have hz63 : z0.toInt.toNat < 2 ^ 63 := lc_63 z0
                  rw [show (Value.long z0) = .long (lN z0.toInt.toNat) from congrArg _ (lc_nat hc)] at hl
                  have hl : lv_has ls 6 [(0, .ref (g (149))), (1, .int (nI (d0))), (2, .int (nI (x0))), (3, .long (lN (z0.toInt.toNat))), (5, .int (nI (y0)))] := hl
                  refine lv_aload_n hx hb dm_Model_power_39 rfl (lv_at hl 0 rfl) ?_
                  refine lv_iload_n hx hb dm_Model_power_40 rfl (lv_at hl 2 rfl) ?_
                  refine lv_lload_n hx hb dm_Model_power_41 rfl (lv_at hl 3 rfl) ?_
                  refine lv_iload hx hb dm_Model_power_42 (lv_at hl 4 rfl) ?_
                  refine pw_callV (rest := []) S hW (mm_Model_power2 l D k g σ hw hP hP31 (a := x0) (m0 := y0) (by omega) (by omega) (by omega) (by omega) (by omega) (by omega) (by omega) (by omega) (by omega) (by omega) (by omega) hz63) (cv_Model_65 S.1.2.2.2.2 ⟨by decide, by decide⟩) (by decide) en_Model rfl rfl hl.1 rfl (lv_room (Nat.le_of_ble_eq_true rfl)) ⟨Nat.zero_le _, Nat.zero_le _⟩ dm_Model_power_44 (fun σ2 H locs hp2 hW => ?_)
                  obtain ⟨w2, e2, s2⟩ := hp2
                  have k2_y0 : σ2 (300 + (y0)) = σ (300 + (y0)) := by rw [s2 _ (by simp only [List.mem_cons, List.not_mem_nil, or_false]; omega)]
                  refine lv_aload_n hx hb dm_Model_power_47 rfl (lv_at hl 0 rfl) ?_
                  refine lv_bipush (v := nI (28)) hx hb dm_Model_power_48 (by decide) ?_
                  refine lv_iload_n hx hb dm_Model_power_50 rfl (lv_at hl 1 rfl) ?_
                  refine pw_callV (rest := []) S hW (mm_Model_copy l D k g σ2 w2 (a := 28) (b := d0) (by omega) (by omega)) (cv_Model_55 S.1.2.2.2.2 ⟨by decide, by decide⟩) (by decide) en_Model rfl rfl hl.1 rfl (lv_room (Nat.le_of_ble_eq_true rfl)) ⟨Nat.zero_le _, Nat.zero_le _⟩ dm_Model_power_51 (fun σ3 H locs hp3 hW => ?_)
                  obtain ⟨w3, e3, s3⟩ := hp3
                  have k3_28 : σ3 (300 + (28)) = σ2 (300 + 28) := by rw [s3 _ (by simp only [List.mem_cons, List.not_mem_nil, or_false]; omega)]
                  have k3_d0 : σ3 (300 + (d0)) = σ2 (300 + 28) := by rw [e3]
                  have m3 : md_sm [300 + (28), 300 + (31), 300 + (32), 300 + (d0)] σ σ3 := md_sm_tr s2 s3 (by intro x9 hx9; simp only [List.mem_cons, List.not_mem_nil, or_false] at hx9 ⊢; omega) (by intro x9 hx9; simp only [List.mem_cons, List.not_mem_nil, or_false] at hx9 ⊢; omega)
                  refine lv_aload_n hx hb dm_Model_power_54 rfl (lv_at hl 0 rfl) ?_
                  refine lv_iload_n hx hb dm_Model_power_55 rfl (lv_at hl 1 rfl) ?_
                  refine pw_callVI (rest := []) S hW (mm_Model_size2 l D k g σ3 w3 hP31 (s0 := d0) (by omega)) (cv_Model_75 S.1.2.2.2.2 ⟨by decide, by decide⟩) (by decide) en_Model rfl rfl hl.1 rfl (lv_room (Nat.le_of_ble_eq_true rfl)) ⟨Nat.zero_le _, Nat.zero_le _⟩ dm_Model_power_56 (fun r σ1 H locs hp hW => ?_)
                  obtain ⟨hr, hp⟩ := hp
                  rw [hp] at hW
                  subst hr
                  exact hret _ _ _ _ _ _ dm_Model_power_59 (Or.inr ⟨d0, x0, y0, ⟨hd0, rfl⟩, ⟨hx0, rfl⟩, ⟨hy0, rfl⟩, Or.inr ⟨by omega, hc, rfl, w3, by rw [k3_d0]; exact e2, md_sm_mo m3 (by intro x9 hx9; simp only [List.mem_cons, List.not_mem_nil, or_false] at hx9 ⊢; omega)⟩⟩) hW
                · have hc : ¬ lN 0 ≤ z0 := fun z => hc ((lg_cmp_ge _ _).mpr z)
                  refine lv_iconst (v := -1) hx hb dm_Model_power_37 (by decide) ?_
                  exact hret _ _ _ _ _ _ dm_Model_power_38 (Or.inr ⟨d0, x0, y0, ⟨hd0, rfl⟩, ⟨hx0, rfl⟩, ⟨hy0, rfl⟩, Or.inl ⟨Or.inr hc, rfl, rfl⟩⟩) hW
          · subst hr
            refine wi_if_eq (tgt := 37) S (nn_T (by omega)) dm_Model_power_19 (by decide) (fun hc => ?_) (fun hc => ?_)
            · refine lv_iconst (v := -1) hx hb dm_Model_power_37 (by decide) ?_
              exact hret _ _ _ _ _ _ dm_Model_power_38 (Or.inl ⟨fun z => hno z.2.2, rfl, rfl⟩) hW
            · exfalso
              omega
      · subst hr
        refine wi_if_eq (tgt := 37) S (nn_T (by omega)) dm_Model_power_11 (by decide) (fun hc => ?_) (fun hc => ?_)
        · refine lv_iconst (v := -1) hx hb dm_Model_power_37 (by decide) ?_
          exact hret _ _ _ _ _ _ dm_Model_power_38 (Or.inl ⟨fun z => hno z.2.1, rfl, rfl⟩) hW
        · exfalso
          omega
  · subst hr
    refine wi_if_eq (tgt := 37) S (nn_T (by omega)) dm_Model_power_4 (by decide) (fun hc => ?_) (fun hc => ?_)
    · refine lv_iconst (v := -1) hx hb dm_Model_power_37 (by decide) ?_
      exact hret _ _ _ _ _ _ dm_Model_power_38 (Or.inl ⟨fun z => hno z.1, rfl, rfl⟩) hW
    · exfalso
      omega
theorem dm_Model_derive_0 : decode bm_Model_derive 0 = .ok (.iload_n 1, 1) := by decide +kernel
theorem dm_Model_derive_1 : decode bm_Model_derive 1 = .ok (.invokestatic 69, 3) := by decide +kernel
theorem dm_Model_derive_4 : decode bm_Model_derive 4 = .ok (.ifCond .eq 10, 3) := by decide +kernel
theorem dm_Model_derive_7 : decode bm_Model_derive 7 = .ok (.iload_n 2, 1) := by decide +kernel
theorem dm_Model_derive_8 : decode bm_Model_derive 8 = .ok (.invokestatic 69, 3) := by decide +kernel
theorem dm_Model_derive_11 : decode bm_Model_derive 11 = .ok (.ifCond .ne 5, 3) := by decide +kernel
theorem dm_Model_derive_14 : decode bm_Model_derive 14 = .ok (.iconst (-1), 1) := by decide +kernel
theorem dm_Model_derive_15 : decode bm_Model_derive 15 = .ok (.ireturn, 1) := by decide +kernel
theorem dm_Model_derive_16 : decode bm_Model_derive 16 = .ok (.aload_n 0, 1) := by decide +kernel
theorem dm_Model_derive_17 : decode bm_Model_derive 17 = .ok (.bipush 25, 2) := by decide +kernel
theorem dm_Model_derive_19 : decode bm_Model_derive 19 = .ok (.iconst 0, 1) := by decide +kernel
theorem dm_Model_derive_20 : decode bm_Model_derive 20 = .ok (.invokevirtual 38, 3) := by decide +kernel
theorem dm_Model_derive_23 : decode bm_Model_derive 23 = .ok (.iconst 1, 1) := by decide +kernel
theorem dm_Model_derive_24 : decode bm_Model_derive 24 = .ok (.istore_n 3, 1) := by decide +kernel
theorem dm_Model_derive_25 : decode bm_Model_derive 25 = .ok (.iload_n 3, 1) := by decide +kernel
theorem dm_Model_derive_26 : decode bm_Model_derive 26 = .ok (.bipush 16, 2) := by decide +kernel
theorem dm_Model_derive_28 : decode bm_Model_derive 28 = .ok (.if_icmp .ge 34, 3) := by decide +kernel
theorem dm_Model_derive_31 : decode bm_Model_derive 31 = .ok (.aload_n 0, 1) := by decide +kernel
theorem dm_Model_derive_32 : decode bm_Model_derive 32 = .ok (.bipush 25, 2) := by decide +kernel
theorem dm_Model_derive_34 : decode bm_Model_derive 34 = .ok (.iload_n 3, 1) := by decide +kernel
theorem dm_Model_derive_35 : decode bm_Model_derive 35 = .ok (.iconst 1, 1) := by decide +kernel
theorem dm_Model_derive_36 : decode bm_Model_derive 36 = .ok (.isub, 1) := by decide +kernel
theorem dm_Model_derive_37 : decode bm_Model_derive 37 = .ok (.aload_n 0, 1) := by decide +kernel
theorem dm_Model_derive_38 : decode bm_Model_derive 38 = .ok (.aload_n 0, 1) := by decide +kernel
theorem dm_Model_derive_39 : decode bm_Model_derive 39 = .ok (.iload_n 2, 1) := by decide +kernel
theorem dm_Model_derive_40 : decode bm_Model_derive 40 = .ok (.iload_n 3, 1) := by decide +kernel
theorem dm_Model_derive_41 : decode bm_Model_derive 41 = .ok (.invokevirtual 31, 3) := by decide +kernel
theorem dm_Model_derive_44 : decode bm_Model_derive 44 = .ok (.iload_n 3, 1) := by decide +kernel
theorem dm_Model_derive_45 : decode bm_Model_derive 45 = .ok (.aload_n 0, 1) := by decide +kernel
theorem dm_Model_derive_46 : decode bm_Model_derive 46 = .ok (.getfield 23, 3) := by decide +kernel
theorem dm_Model_derive_49 : decode bm_Model_derive 49 = .ok (.irem, 1) := by decide +kernel
theorem dm_Model_derive_50 : decode bm_Model_derive 50 = .ok (.invokevirtual 27, 3) := by decide +kernel
theorem dm_Model_derive_53 : decode bm_Model_derive 53 = .ok (.invokevirtual 34, 3) := by decide +kernel
theorem dm_Model_derive_56 : decode bm_Model_derive 56 = .ok (.iinc 3 1, 3) := by decide +kernel
theorem dm_Model_derive_59 : decode bm_Model_derive 59 = .ok (.goto (-34), 3) := by decide +kernel
theorem dm_Model_derive_62 : decode bm_Model_derive 62 = .ok (.aload_n 0, 1) := by decide +kernel
theorem dm_Model_derive_63 : decode bm_Model_derive 63 = .ok (.bipush 25, 2) := by decide +kernel
theorem dm_Model_derive_65 : decode bm_Model_derive 65 = .ok (.iload_n 1, 1) := by decide +kernel
theorem dm_Model_derive_66 : decode bm_Model_derive 66 = .ok (.invokevirtual 55, 3) := by decide +kernel
theorem dm_Model_derive_69 : decode bm_Model_derive 69 = .ok (.aload_n 0, 1) := by decide +kernel
theorem dm_Model_derive_70 : decode bm_Model_derive 70 = .ok (.iload_n 1, 1) := by decide +kernel
theorem dm_Model_derive_71 : decode bm_Model_derive 71 = .ok (.invokevirtual 75, 3) := by decide +kernel
theorem dm_Model_derive_74 : decode bm_Model_derive 74 = .ok (.ireturn, 1) := by decide +kernel
set_option maxHeartbeats 4000000 in
set_option maxRecDepth 100000 in
theorem mm_Model_derive (l : Launch) (D : va_G) (k : ClassId × ClassId × ClassId) (g : Nat → Nat) (σ : st_T) {P : Nat} (hw : md_wf P σ) (hP : ag_pr P) (hP31 : P < 2147483648) (hrg : ∀ n, n < 8 → sp_sz (σ (300 + n)) 31 ≤ 16) {d x : Int32} : mt_I l D k g ym_Model_derive wm_Model_derive rm_Model_derive [.ref (g 149), .int d, .int x] σ (fun r σ1 => (¬ (rk_r d ∧ rk_r x) ∧ r = -1 ∧ σ1 = σ) ∨ ∃ d0 x0, (d0 < 8 ∧ d = nI d0) ∧ (x0 < 8 ∧ x = nI x0) ∧ r = nI (sp_sz (σ1 (300 + d0)) 31) ∧ md_wf P σ1 ∧ σ1 (300 + d0) = lp_der P (σ (300 + x0)) ∧ md_sm [(300 + d0), 300 + 25] σ σ1) := by
  refine ct_I_in (cc := bm_Model_derive) (maxL := 4) (by decide) rfl (Nat.le_of_ble_eq_true rfl) ?_
  intro p e s m args below meth c A ls Q S hl hW hret
  have S : pw_S p m c bm_Model_derive 4 s args wa_g rc_Model D cl_s (ty_s k) := S
  have hx := S.1.1
  have hb := S.1.2.1
  have hl : lv_has ls 4 [(0, .ref (g (149))), (1, .int (d)), (2, .int (x))] := hl
  have hP2 := hP.1
  refine lv_iload_n hx hb dm_Model_derive_0 rfl (lv_at hl 1 rfl) ?_
  refine pw_callSI (rest := []) S hW (mm_Model_isRegister l D k g σ (x := d)) (cv_Model_69 S.1.2.2.2.2 ⟨by decide, by decide⟩) rfl hl.1 rfl (lv_room (Nat.le_of_ble_eq_true rfl)) ⟨Nat.zero_le _, Nat.zero_le _⟩ dm_Model_derive_1 (fun r σ1 H locs hp hW => ?_)
  obtain ⟨hp, h9⟩ := hp
  rw [h9] at hW
  rcases hp with ⟨hr, d0, hd0, rfl⟩ | ⟨hr, hno⟩
  · subst hr
    have hl : lv_has ls 4 [(0, .ref (g (149))), (1, .int (nI (d0))), (2, .int (x))] := hl
    refine wi_if_eq (tgt := 14) S (nn_T (by omega)) dm_Model_derive_4 (by decide) (fun hc => ?_) (fun hc => ?_)
    · exfalso
      omega
    · refine lv_iload_n hx hb dm_Model_derive_7 rfl (lv_at hl 2 rfl) ?_
      refine pw_callSI (rest := []) S hW (mm_Model_isRegister l D k g σ (x := x)) (cv_Model_69 S.1.2.2.2.2 ⟨by decide, by decide⟩) rfl hl.1 rfl (lv_room (Nat.le_of_ble_eq_true rfl)) ⟨Nat.zero_le _, Nat.zero_le _⟩ dm_Model_derive_8 (fun r σ1 H locs hp hW => ?_)
      obtain ⟨hp, h9⟩ := hp
      rw [h9] at hW
      rcases hp with ⟨hr, x0, hx0, rfl⟩ | ⟨hr, hno⟩
      · subst hr
        have hl : lv_has ls 4 [(0, .ref (g (149))), (1, .int (nI (d0))), (2, .int (nI (x0)))] := hl
        refine wi_if_ne (tgt := 16) S (nn_T (by omega)) dm_Model_derive_11 (by decide) (fun hc => ?_) (fun hc => ?_)
        · refine lv_aload_n hx hb dm_Model_derive_16 rfl (lv_at hl 0 rfl) ?_
          refine lv_bipush (v := nI (25)) hx hb dm_Model_derive_17 (by decide) ?_
          refine lv_iconst (v := nI (0)) hx hb dm_Model_derive_19 (by decide) ?_
          refine pw_callV (rest := []) S hW (mm_Model_number l D k g σ hw (s0 := 25) (v := 0) (by omega) (by omega)) (cv_Model_38 S.1.2.2.2.2 ⟨by decide, by decide⟩) (by decide) en_Model rfl rfl hl.1 rfl (lv_room (Nat.le_of_ble_eq_true rfl)) ⟨Nat.zero_le _, Nat.zero_le _⟩ dm_Model_derive_20 (fun σ2 H locs hp2 hW => ?_)
          obtain ⟨w2, e2, s2⟩ := hp2
          have k2_x0 : σ2 (300 + (x0)) = σ (300 + (x0)) := by rw [s2 _ (by simp only [List.mem_cons, List.not_mem_nil, or_false]; omega)]
          have k2_25 : σ2 (300 + (25)) = va_up (fun _ => 0) 0 (0) := by rw [e2]
          refine lv_iconst (v := nI (1)) hx hb dm_Model_derive_23 (by decide) ?_
          refine lv_istore_n hx hb dm_Model_derive_24 rfl hl (by decide) rfl (fun ls hl => ?_)
          have hl : lv_has ls 4 [(3, .int (nI (1))), (0, .ref (g (149))), (1, .int (nI (d0))), (2, .int (nI (x0)))] := hl
          have hl : lv_has ls 4 [(3, .int (nI (1))), (0, .ref (g (149))), (1, .int (nI (d0))), (2, .int (nI (x0)))] := lv_sub hl [0, 1, 2, 3] rfl
          have loop : ∀ q9 i, i + q9 = 15 → ∀ (ls : Array Slot) (H : Heap) (locs : List Loc), lv_has ls 4 [(3, .int (nI (i + 1))), (0, .ref (g (149))), (1, .int (nI (d0))), (2, .int (nI (x0)))] → pw_H D cl_s A s.heap g 153 (en_s k g (st_cp σ2 (300 + 25) i (lp_der P (σ (300 + x0))))) H locs → W p l e rm_Model_derive s m args below meth c H locs 0 0 Q (F0 m 25 ls []) := by
            intro q9
            induction q9 with
            | zero =>
              intro i hi ls H locs hl hW
              refine lv_iload_n hx hb dm_Model_derive_25 rfl (lv_at hl 0 rfl) ?_
              refine lv_bipush (v := nI (16)) hx hb dm_Model_derive_26 (by decide) ?_
              refine wi_icmp_ge (tgt := 62) S (nn_T (by omega)) (nn_T (by omega)) dm_Model_derive_28 (by decide) (fun hc => ?_) (fun hc => ?_)
              · have hi : i = 15 := by omega
                subst hi
                have hfo : sp_ok P (lp_der P (σ (300 + x0))) := lp_der_ok (by omega) (hw.2 x0 (by omega))
                have h16 := hrg x0 hx0
                have hall : st_cp σ2 (300 + 25) 15 (lp_der P (σ (300 + x0))) (300 + 25) = lp_der P (σ (300 + x0)) := funext (fun b => by
                  unfold st_cp
                  rw [if_pos rfl]
                  by_cases hb9 : b < 15
                  · rw [if_pos hb9]
                  · rw [if_neg hb9, k2_25, va_up_ne _ _ (by omega)]
                    show 0 = σ (300 + x0) (b + 1) * (b + 1) % P
                    rw [sp_hi (hw.2 x0 (by omega)) (by omega), Nat.zero_mul, Nat.zero_mod])
                have wS : md_wf P (st_cp σ2 (300 + 25) 15 (lp_der P (σ (300 + x0)))) := md_wf_rw (s := 25) w2 (fun a ha => st_cp_row ha) (by rw [hall]; exact hfo)
                have sS : md_sm [300 + 25] σ (st_cp σ2 (300 + 25) 15 (lp_der P (σ (300 + x0)))) := md_sm_tr s2 (fun a ha => st_cp_row (fun z => ha (by rw [z]; exact List.mem_singleton.mpr rfl))) (fun _ h => h) (fun _ h => h)
                refine lv_aload_n hx hb dm_Model_derive_62 rfl (lv_at hl 1 rfl) ?_
                refine lv_bipush (v := nI (25)) hx hb dm_Model_derive_63 (by decide) ?_
                refine lv_iload_n hx hb dm_Model_derive_65 rfl (lv_at hl 2 rfl) ?_
                refine pw_callV (rest := []) S hW (mm_Model_copy l D k g (st_cp σ2 (300 + 25) 15 (lp_der P (σ (300 + x0)))) wS (a := 25) (b := d0) (by omega) (by omega)) (cv_Model_55 S.1.2.2.2.2 ⟨by decide, by decide⟩) (by decide) en_Model rfl rfl hl.1 rfl (lv_room (Nat.le_of_ble_eq_true rfl)) ⟨Nat.zero_le _, Nat.zero_le _⟩ dm_Model_derive_66 (fun σ3 H locs hp3 hW => ?_)
                obtain ⟨w3, e3, s3⟩ := hp3
                have k3_25 : σ3 (300 + (25)) = lp_der P (σ (300 + x0)) := by rw [s3 _ (by simp only [List.mem_cons, List.not_mem_nil, or_false]; omega)]; exact hall
                have k3_d0 : σ3 (300 + (d0)) = lp_der P (σ (300 + x0)) := by rw [e3, hall]
                have m3 : md_sm [300 + 25, 300 + (d0)] σ σ3 := md_sm_tr sS s3 (by intro x9 hx9; simp only [List.mem_cons, List.not_mem_nil, or_false] at hx9 ⊢; omega) (by intro x9 hx9; simp only [List.mem_cons, List.not_mem_nil, or_false] at hx9 ⊢; omega)
                refine lv_aload_n hx hb dm_Model_derive_69 rfl (lv_at hl 1 rfl) ?_
                refine lv_iload_n hx hb dm_Model_derive_70 rfl (lv_at hl 2 rfl) ?_
                refine pw_callVI (rest := []) S hW (mm_Model_size2 l D k g σ3 w3 hP31 (s0 := d0) (by omega)) (cv_Model_75 S.1.2.2.2.2 ⟨by decide, by decide⟩) (by decide) en_Model rfl rfl hl.1 rfl (lv_room (Nat.le_of_ble_eq_true rfl)) ⟨Nat.zero_le _, Nat.zero_le _⟩ dm_Model_derive_71 (fun r σ1 H locs hp hW => ?_)
                obtain ⟨hr, hp⟩ := hp
                rw [hp] at hW
                subst hr
                exact hret _ _ _ _ _ _ dm_Model_derive_74 (Or.inr ⟨d0, x0, ⟨hd0, rfl⟩, ⟨hx0, rfl⟩, rfl, w3, k3_d0, md_sm_mo m3 (by intro x9 hx9; simp only [List.mem_cons, List.not_mem_nil, or_false] at hx9 ⊢; omega)⟩) hW
              · exfalso
                omega
            | succ q9 ih =>
              intro i hi ls H locs hl hW
              refine lv_iload_n hx hb dm_Model_derive_25 rfl (lv_at hl 0 rfl) ?_
              refine lv_bipush (v := nI (16)) hx hb dm_Model_derive_26 (by decide) ?_
              refine wi_icmp_ge (tgt := 62) S (nn_T (by omega)) (nn_T (by omega)) dm_Model_derive_28 (by decide) (fun hc => ?_) (fun hc => ?_)
              · exfalso
                omega
              · have e1 := md_lt hw (show x0 < 33 by omega) (i + 1)
                have e2 : (i + 1) % P < P := Nat.mod_lt _ (by omega)
                refine lv_aload_n hx hb dm_Model_derive_31 rfl (lv_at hl 1 rfl) ?_
                refine lv_bipush (v := nI (25)) hx hb dm_Model_derive_32 (by decide) ?_
                refine lv_iload_n hx hb dm_Model_derive_34 rfl (lv_at hl 0 rfl) ?_
                refine lv_iconst (v := nI (1)) hx hb dm_Model_derive_35 (by decide) ?_
                refine wn_isub S (by omega) dm_Model_derive_36 ?_
                rw [Nat.add_sub_cancel]
                refine lv_aload_n hx hb dm_Model_derive_37 rfl (lv_at hl 1 rfl) ?_
                refine lv_aload_n hx hb dm_Model_derive_38 rfl (lv_at hl 1 rfl) ?_
                refine lv_iload_n hx hb dm_Model_derive_39 rfl (lv_at hl 3 rfl) ?_
                refine lv_iload_n hx hb dm_Model_derive_40 rfl (lv_at hl 0 rfl) ?_
                refine pw_callVI (rest := [.ref (g (149)), .int (nI (i)), .int (nI (25)), .ref (g (149))]) S hW (mm_Model_get l D k g (st_cp σ2 (300 + 25) i (lp_der P (σ (300 + x0)))) (s0 := x0) (n := i + 1) (by omega) (by omega)) (cv_Model_31 S.1.2.2.2.2 ⟨by decide, by decide⟩) (by decide) en_Model rfl rfl hl.1 rfl (lv_room (Nat.le_of_ble_eq_true rfl)) ⟨Nat.zero_le _, Nat.zero_le _⟩ dm_Model_derive_41 (fun r σ1 H locs hp hW => ?_)
                obtain ⟨hr, hp⟩ := hp
                rw [hp] at hW
                subst hr
                rw [st_cp_row (by omega), k2_x0]
                refine lv_iload_n hx hb dm_Model_derive_44 rfl (lv_at hl 0 rfl) ?_
                refine lv_aload_n hx hb dm_Model_derive_45 rfl (lv_at hl 1 rfl) ?_
                refine md_p S hW (wa_in 561 (by decide +kernel) rfl) dm_Model_derive_46 ?_
                rw [(show st_cp σ2 (300 + 25) i (lp_der P (σ (300 + x0))) 205 0 = P by rw [st_cp_row (by omega)]; exact w2.1)]
                refine wn_irem S (by omega) (by omega) (by omega) dm_Model_derive_49 ?_
                refine pw_callVI (rest := [.int (nI (i)), .int (nI (25)), .ref (g (149))]) S hW (mm_Model_times2 l D k g (st_cp σ2 (300 + 25) i (lp_der P (σ (300 + x0)))) (P := P) (show st_cp σ2 (300 + 25) i (lp_der P (σ (300 + x0))) 205 0 = P by rw [st_cp_row (by omega)]; exact w2.1) (by omega) (by omega) (a := σ (300 + x0) (i + 1)) (b := (i + 1) % (P)) (by omega) (by omega)) (cv_Model_27 S.1.2.2.2.2 ⟨by decide, by decide⟩) (by decide) en_Model rfl rfl hl.1 rfl (lv_room (Nat.le_of_ble_eq_true rfl)) ⟨Nat.zero_le _, Nat.zero_le _⟩ dm_Model_derive_50 (fun r σ1 H locs hp hW => ?_)
                obtain ⟨hr, hp⟩ := hp
                rw [hp] at hW
                subst hr
                refine pw_callV (rest := []) S hW (mm_Model_put l D k g (st_cp σ2 (300 + 25) i (lp_der P (σ (300 + x0)))) (s0 := 25) (n := i) (v := (σ (300 + x0) (i + 1)) * ((i + 1) % (P)) % P) (by omega) (by omega)) (cv_Model_34 S.1.2.2.2.2 ⟨by decide, by decide⟩) (by decide) en_Model rfl rfl hl.1 rfl (lv_room (Nat.le_of_ble_eq_true rfl)) ⟨Nat.zero_le _, Nat.zero_le _⟩ dm_Model_derive_53 (fun σ1 H locs hp hW => ?_)
                rw [hp] at hW
                refine lv_iinc (k := 0) (v := nI (i + 1 + 1)) hx hb dm_Model_derive_56 hl rfl (by rw [show Int32.ofInt 1 = nI 1 from rfl, nI_add]) (by decide) rfl (fun ls hl => ?_)
                have hl : lv_has ls 4 [(3, .int (nI (i + 1 + 1))), (0, .ref (g (149))), (1, .int (nI (d0))), (2, .int (nI (x0)))] := hl
                refine lv_goto (tgt := 25) hx hb dm_Model_derive_59 (by decide) ?_
                exact ih (i + 1) (by omega) ls _ _ hl (by rw [← st_cp_s σ2 (300 + 25) i (lp_der P (σ (300 + x0))) (show σ (300 + x0) (i + 1) * ((i + 1) % P) % P = σ (300 + x0) (i + 1) * (i + 1) % P from Nat.mul_mod_mod _ _ _)]; exact hW)
          exact loop 15 0 (by omega) ls _ _ hl (by rw [st_cp_0]; exact hW)
        · exfalso
          omega
      · subst hr
        refine wi_if_ne (tgt := 16) S (nn_T (by omega)) dm_Model_derive_11 (by decide) (fun hc => ?_) (fun hc => ?_)
        · exfalso
          omega
        · refine lv_iconst (v := -1) hx hb dm_Model_derive_14 (by decide) ?_
          exact hret _ _ _ _ _ _ dm_Model_derive_15 (Or.inl ⟨fun z => hno z.2, rfl, rfl⟩) hW
  · subst hr
    refine wi_if_eq (tgt := 14) S (nn_T (by omega)) dm_Model_derive_4 (by decide) (fun hc => ?_) (fun hc => ?_)
    · refine lv_iconst (v := -1) hx hb dm_Model_derive_14 (by decide) ?_
      exact hret _ _ _ _ _ _ dm_Model_derive_15 (Or.inl ⟨fun z => hno z.1, rfl, rfl⟩) hW
    · exfalso
      omega
