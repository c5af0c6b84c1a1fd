/-! The reference: products, rests, common, powers -/
theorem dm_Model_product2_0 : decode bm_Model_product2 0 = .ok (.aload_n 0, 1) := by decide +kernel
theorem dm_Model_product2_1 : decode bm_Model_product2 1 = .ok (.bipush 31, 2) := by decide +kernel
theorem dm_Model_product2_3 : decode bm_Model_product2 3 = .ok (.iconst 0, 1) := by decide +kernel
theorem dm_Model_product2_4 : decode bm_Model_product2 4 = .ok (.invokevirtual 38, 3) := by decide +kernel
theorem dm_Model_product2_7 : decode bm_Model_product2 7 = .ok (.iconst 0, 1) := by decide +kernel
theorem dm_Model_product2_8 : decode bm_Model_product2 8 = .ok (.istore_n 3, 1) := by decide +kernel
theorem dm_Model_product2_9 : decode bm_Model_product2 9 = .ok (.iload_n 3, 1) := by decide +kernel
theorem dm_Model_product2_10 : decode bm_Model_product2 10 = .ok (.aload_n 0, 1) := by decide +kernel
theorem dm_Model_product2_11 : decode bm_Model_product2 11 = .ok (.iload_n 1, 1) := by decide +kernel
theorem dm_Model_product2_12 : decode bm_Model_product2 12 = .ok (.invokevirtual 42, 3) := by decide +kernel
theorem dm_Model_product2_15 : decode bm_Model_product2 15 = .ok (.if_icmp .gt 73, 3) := by decide +kernel
theorem dm_Model_product2_18 : decode bm_Model_product2 18 = .ok (.iconst 0, 1) := by decide +kernel
theorem dm_Model_product2_19 : decode bm_Model_product2 19 = .ok (.istore 4, 2) := by decide +kernel
theorem dm_Model_product2_21 : decode bm_Model_product2 21 = .ok (.iload 4, 2) := by decide +kernel
theorem dm_Model_product2_23 : decode bm_Model_product2 23 = .ok (.aload_n 0, 1) := by decide +kernel
theorem dm_Model_product2_24 : decode bm_Model_product2 24 = .ok (.iload_n 2, 1) := by decide +kernel
theorem dm_Model_product2_25 : decode bm_Model_product2 25 = .ok (.invokevirtual 42, 3) := by decide +kernel
theorem dm_Model_product2_28 : decode bm_Model_product2 28 = .ok (.if_icmp .gt 54, 3) := by decide +kernel
theorem dm_Model_product2_31 : decode bm_Model_product2 31 = .ok (.aload_n 0, 1) := by decide +kernel
theorem dm_Model_product2_32 : decode bm_Model_product2 32 = .ok (.bipush 31, 2) := by decide +kernel
theorem dm_Model_product2_34 : decode bm_Model_product2 34 = .ok (.iload_n 3, 1) := by decide +kernel
theorem dm_Model_product2_35 : decode bm_Model_product2 35 = .ok (.iload 4, 2) := by decide +kernel
theorem dm_Model_product2_37 : decode bm_Model_product2 37 = .ok (.iadd, 1) := by decide +kernel
theorem dm_Model_product2_38 : decode bm_Model_product2 38 = .ok (.aload_n 0, 1) := by decide +kernel
theorem dm_Model_product2_39 : decode bm_Model_product2 39 = .ok (.bipush 31, 2) := by decide +kernel
theorem dm_Model_product2_41 : decode bm_Model_product2 41 = .ok (.iload_n 3, 1) := by decide +kernel
theorem dm_Model_product2_42 : decode bm_Model_product2 42 = .ok (.iload 4, 2) := by decide +kernel
theorem dm_Model_product2_44 : decode bm_Model_product2 44 = .ok (.iadd, 1) := by decide +kernel
theorem dm_Model_product2_45 : decode bm_Model_product2 45 = .ok (.invokevirtual 31, 3) := by decide +kernel
theorem dm_Model_product2_48 : decode bm_Model_product2 48 = .ok (.i2l, 1) := by decide +kernel
theorem dm_Model_product2_49 : decode bm_Model_product2 49 = .ok (.aload_n 0, 1) := by decide +kernel
theorem dm_Model_product2_50 : decode bm_Model_product2 50 = .ok (.iload_n 1, 1) := by decide +kernel
theorem dm_Model_product2_51 : decode bm_Model_product2 51 = .ok (.iload_n 3, 1) := by decide +kernel
theorem dm_Model_product2_52 : decode bm_Model_product2 52 = .ok (.invokevirtual 31, 3) := by decide +kernel
theorem dm_Model_product2_55 : decode bm_Model_product2 55 = .ok (.i2l, 1) := by decide +kernel
theorem dm_Model_product2_56 : decode bm_Model_product2 56 = .ok (.aload_n 0, 1) := by decide +kernel
theorem dm_Model_product2_57 : decode bm_Model_product2 57 = .ok (.iload_n 2, 1) := by decide +kernel
theorem dm_Model_product2_58 : decode bm_Model_product2 58 = .ok (.iload 4, 2) := by decide +kernel
theorem dm_Model_product2_60 : decode bm_Model_product2 60 = .ok (.invokevirtual 31, 3) := by decide +kernel
theorem dm_Model_product2_63 : decode bm_Model_product2 63 = .ok (.i2l, 1) := by decide +kernel
theorem dm_Model_product2_64 : decode bm_Model_product2 64 = .ok (.lmul, 1) := by decide +kernel
theorem dm_Model_product2_65 : decode bm_Model_product2 65 = .ok (.ladd, 1) := by decide +kernel
theorem dm_Model_product2_66 : decode bm_Model_product2 66 = .ok (.aload_n 0, 1) := by decide +kernel
theorem dm_Model_product2_67 : decode bm_Model_product2 67 = .ok (.getfield 23, 3) := by decide +kernel
theorem dm_Model_product2_70 : decode bm_Model_product2 70 = .ok (.i2l, 1) := by decide +kernel
theorem dm_Model_product2_71 : decode bm_Model_product2 71 = .ok (.lrem, 1) := by decide +kernel
theorem dm_Model_product2_72 : decode bm_Model_product2 72 = .ok (.l2i, 1) := by decide +kernel
theorem dm_Model_product2_73 : decode bm_Model_product2 73 = .ok (.invokevirtual 34, 3) := by decide +kernel
theorem dm_Model_product2_76 : decode bm_Model_product2 76 = .ok (.iinc 4 1, 3) := by decide +kernel
theorem dm_Model_product2_79 : decode bm_Model_product2 79 = .ok (.goto (-58), 3) := by decide +kernel
theorem dm_Model_product2_82 : decode bm_Model_product2 82 = .ok (.iinc 3 1, 3) := by decide +kernel
theorem dm_Model_product2_85 : decode bm_Model_product2 85 = .ok (.goto (-76), 3) := by decide +kernel
theorem dm_Model_product2_88 : decode bm_Model_product2 88 = .ok (.return_, 1) := by decide +kernel
set_option maxHeartbeats 4000000 in
set_option maxRecDepth 100000 in
theorem mm_Model_product2 (l : Launch) (D : va_G) (k : ClassId × ClassId × ClassId) (g : Nat → Nat) (σ : st_T) {P a b : Nat} (hw : md_wf P σ) (hP : 2 ≤ P) (hP31 : P < 2147483648) (ha : a < 33) (hb0 : b < 33) (ha31 : a ≠ 31) (hb31 : b ≠ 31) (hsz : sp_sz (σ (300 + a)) 31 + sp_sz (σ (300 + b)) 31 ≤ 32) : mt_V l D k g ym_Model_product2 wm_Model_product2 rm_Model_product2 [.ref (g 149), .int (nI a), .int (nI b)] σ (fun σ1 => md_wf P σ1 ∧ σ1 (300 + 31) = sp_mul P (σ (300 + a)) (σ (300 + b)) ∧ md_sm [300 + 31] σ σ1) := by
  refine ct_V_in (cc := bm_Model_product2) (maxL := 5) (by decide) rfl (Nat.le_of_ble_eq_true rfl) ?_
  intro p e s m args below meth c A ls Q S hl hW hret
  have S : pw_S p m c bm_Model_product2 5 s args wa_g rc_Model D cl_s (ty_s k) := S
  have hx := S.1.1
  have hb := S.1.2.1
  have hl : lv_has ls 5 [(0, .ref (g (149))), (1, .int (nI (a))), (2, .int (nI (b)))] := hl
  refine lv_aload_n hx hb dm_Model_product2_0 rfl (lv_at hl 0 rfl) ?_
  refine lv_bipush (v := nI (31)) hx hb dm_Model_product2_1 (by decide) ?_
  refine lv_iconst (v := nI (0)) hx hb dm_Model_product2_3 (by decide) ?_
  refine pw_callV (rest := []) S hW (mm_Model_number l D k g σ hw (s0 := 31) (v := 0) (by omega) (by omega)) (cv_Model_38 S.1.2.2.2.2 ⟨by decide, by decide⟩) (by decide) en_Model rfl rfl hl.1 rfl (lv_room (Nat.le_of_ble_eq_true rfl)) ⟨Nat.zero_le _, Nat.zero_le _⟩ dm_Model_product2_4 (fun σ2 H locs hp2 hW => ?_)
  obtain ⟨w2, e2, s2⟩ := hp2
  have hp0 : 0 < P := by omega
  have e2 : σ2 (300 + 31) = fun _ => 0 := by rw [e2]; exact funext (fun i => by unfold va_up; split <;> rfl)
  have za := sp_sz_le (σ (300 + a)) 31
  have zb := sp_sz_le (σ (300 + b)) 31
  have qa : ∀ u, st_rw σ2 (300 + 31) u (300 + a) = σ (300 + a) := fun u => by rw [st_rw_row (by omega), s2 _ (by simp only [List.mem_cons, List.not_mem_nil, or_false]; omega)]
  have qb : ∀ u, st_rw σ2 (300 + 31) u (300 + b) = σ (300 + b) := fun u => by rw [st_rw_row (by omega), s2 _ (by simp only [List.mem_cons, List.not_mem_nil, or_false]; omega)]
  have qp : ∀ u, st_rw σ2 (300 + 31) u 205 0 = P := fun u => by rw [st_rw_row (by omega)]; exact w2.1
  refine lv_iconst (v := nI (0)) hx hb dm_Model_product2_7 (by decide) ?_
  refine lv_istore_n hx hb dm_Model_product2_8 rfl hl (by decide) rfl (fun ls hl => ?_)
  have hl : lv_has ls 5 [(3, .int (nI (0))), (0, .ref (g (149))), (1, .int (nI (a))), (2, .int (nI (b)))] := hl
  have loop : ∀ d i, i + d = sp_sz (σ (300 + a)) 31 → ∀ (ls : Array Slot) (H : Heap) (locs : List Loc), lv_has ls 5 [(3, .int (nI (i))), (0, .ref (g (149))), (1, .int (nI (a))), (2, .int (nI (b)))] → pw_H D cl_s A s.heap g 153 (en_s k g (st_rw σ2 (300 + 31) (lp_pm P (σ (300 + a)) (σ (300 + b)) (sp_sz (σ (300 + b)) 31) i))) H locs → W p l e rm_Model_product2 s m args below meth c H locs 0 0 Q (F0 m 9 ls []) := by
    intro d
    induction d with
    | zero =>
      intro i hi ls H locs hl hW
      refine lv_iload_n hx hb dm_Model_product2_9 rfl (lv_at hl 0 rfl) ?_
      refine lv_aload_n hx hb dm_Model_product2_10 rfl (lv_at hl 1 rfl) ?_
      refine lv_iload_n hx hb dm_Model_product2_11 rfl (lv_at hl 2 rfl) ?_
      refine pw_callVI (rest := [.int (nI (i))]) S hW (mm_Model_degree l D k g (st_rw σ2 (300 + 31) (lp_pm P (σ (300 + a)) (σ (300 + b)) (sp_sz (σ (300 + b)) 31) i)) (s0 := a) (by omega) (P := P) (by rw [qa]; exact hw.2 a (by omega)) hP31) (cv_Model_42 S.1.2.2.2.2 ⟨by decide, by decide⟩) (by decide) en_Model rfl rfl hl.1 rfl (lv_room (Nat.le_of_ble_eq_true rfl)) ⟨Nat.zero_le _, Nat.zero_le _⟩ dm_Model_product2_12 (fun r σ1 H locs hp hW => ?_)
      obtain ⟨hr, hp⟩ := hp
      rw [hp] at hW
      subst hr
      rw [qa]
      refine wi_icmp_gt (tgt := 88) S (nn_T (by omega)) (sd_T (by omega)) dm_Model_product2_15 (by decide) (fun hc => ?_) (fun hc => ?_)
      · have hmul : lp_pm P (σ (300 + a)) (σ (300 + b)) (sp_sz (σ (300 + b)) 31) i = sp_mul P (σ (300 + a)) (σ (300 + b)) := by rw [show i = sp_sz (σ (300 + a)) 31 by omega]; exact lp_pm_mul (hw.2 a ha) (hw.2 b hb0)
        rw [hmul] at hW
        have h9 := md_rw (s := 31) w2 (sp_mul_ok hp0 (hw.2 a ha) (hw.2 b hb0) hsz)
        exact hret _ _ _ _ _ dm_Model_product2_88 ⟨h9.1, h9.2.1, md_sm_tr s2 h9.2.2 (fun _ h => h) (fun _ h => h)⟩ hW
      · exfalso
        omega
    | succ d ih =>
      intro i hi ls H locs hl hW
      refine lv_iload_n hx hb dm_Model_product2_9 rfl (lv_at hl 0 rfl) ?_
      refine lv_aload_n hx hb dm_Model_product2_10 rfl (lv_at hl 1 rfl) ?_
      refine lv_iload_n hx hb dm_Model_product2_11 rfl (lv_at hl 2 rfl) ?_
      refine pw_callVI (rest := [.int (nI (i))]) S hW (mm_Model_degree l D k g (st_rw σ2 (300 + 31) (lp_pm P (σ (300 + a)) (σ (300 + b)) (sp_sz (σ (300 + b)) 31) i)) (s0 := a) (by omega) (P := P) (by rw [qa]; exact hw.2 a (by omega)) hP31) (cv_Model_42 S.1.2.2.2.2 ⟨by decide, by decide⟩) (by decide) en_Model rfl rfl hl.1 rfl (lv_room (Nat.le_of_ble_eq_true rfl)) ⟨Nat.zero_le _, Nat.zero_le _⟩ dm_Model_product2_12 (fun r σ1 H locs hp hW => ?_)
      obtain ⟨hr, hp⟩ := hp
      rw [hp] at hW
      subst hr
      rw [qa]
      refine wi_icmp_gt (tgt := 88) S (nn_T (by omega)) (sd_T (by omega)) dm_Model_product2_15 (by decide) (fun hc => ?_) (fun hc => ?_)
      · exfalso
        omega
      · have e1 := md_lt hw ha i
        refine lv_iconst (v := nI (0)) hx hb dm_Model_product2_18 (by decide) ?_
        refine lv_istore hx hb dm_Model_product2_19 hl (by decide) rfl (fun ls hl => ?_)
        have hl : lv_has ls 5 [(4, .int (nI (0))), (3, .int (nI (i))), (0, .ref (g (149))), (1, .int (nI (a))), (2, .int (nI (b)))] := hl
        have hl : lv_has ls 5 [(4, .int (nI (0))), (3, .int (nI (i))), (0, .ref (g (149))), (1, .int (nI (a))), (2, .int (nI (b)))] := lv_sub hl [0, 1, 2, 3, 4] rfl
        have inner : ∀ dj j, j + dj = sp_sz (σ (300 + b)) 31 → ∀ (ls : Array Slot) (H : Heap) (locs : List Loc), lv_has ls 5 [(4, .int (nI (j))), (3, .int (nI (i))), (0, .ref (g (149))), (1, .int (nI (a))), (2, .int (nI (b)))] → pw_H D cl_s A s.heap g 153 (en_s k g (st_rw σ2 (300 + 31) (lp_row P (lp_pm P (σ (300 + a)) (σ (300 + b)) (sp_sz (σ (300 + b)) 31) i) (σ (300 + b)) (σ (300 + a) i) i j))) H locs → W p l e rm_Model_product2 s m args below meth c H locs 0 0 Q (F0 m 21 ls []) := by
          intro dj
          induction dj with
          | zero =>
            intro j hj ls H locs hl hW
            refine lv_iload hx hb dm_Model_product2_21 (lv_at hl 0 rfl) ?_
            refine lv_aload_n hx hb dm_Model_product2_23 rfl (lv_at hl 2 rfl) ?_
            refine lv_iload_n hx hb dm_Model_product2_24 rfl (lv_at hl 4 rfl) ?_
            refine pw_callVI (rest := [.int (nI (j))]) S hW (mm_Model_degree l D k g (st_rw σ2 (300 + 31) (lp_row P (lp_pm P (σ (300 + a)) (σ (300 + b)) (sp_sz (σ (300 + b)) 31) i) (σ (300 + b)) (σ (300 + a) i) i j)) (s0 := b) (by omega) (P := P) (by rw [qb]; exact hw.2 b (by omega)) hP31) (cv_Model_42 S.1.2.2.2.2 ⟨by decide, by decide⟩) (by decide) en_Model rfl rfl hl.1 rfl (lv_room (Nat.le_of_ble_eq_true rfl)) ⟨Nat.zero_le _, Nat.zero_le _⟩ dm_Model_product2_25 (fun r σ1 H locs hp hW => ?_)
            obtain ⟨hr, hp⟩ := hp
            rw [hp] at hW
            subst hr
            rw [qb]
            refine wi_icmp_gt (tgt := 82) S (nn_T (by omega)) (sd_T (by omega)) dm_Model_product2_28 (by decide) (fun hc => ?_) (fun hc => ?_)
            · have hj2 : j = sp_sz (σ (300 + b)) 31 := by omega
              rw [hj2] at hW
              refine lv_iinc (k := 1) (v := nI (i + 1)) hx hb dm_Model_product2_82 hl rfl (by rw [show Int32.ofInt 1 = nI 1 from rfl, nI_add]) (by decide) rfl (fun ls hl => ?_)
              have hl : lv_has ls 5 [(3, .int (nI (i + 1))), (4, .int (nI (j))), (0, .ref (g (149))), (1, .int (nI (a))), (2, .int (nI (b)))] := hl
              refine lv_goto (tgt := 9) hx hb dm_Model_product2_85 (by decide) ?_
              have hl : lv_has ls 5 [(3, .int (nI (i + 1))), (0, .ref (g (149))), (1, .int (nI (a))), (2, .int (nI (b)))] := lv_sub hl [0, 2, 3, 4] rfl
              exact ih (i + 1) (by omega) ls _ _ hl hW
            · exfalso
              omega
          | succ dj ihj =>
            intro j hj ls H locs hl hW
            refine lv_iload hx hb dm_Model_product2_21 (lv_at hl 0 rfl) ?_
            refine lv_aload_n hx hb dm_Model_product2_23 rfl (lv_at hl 2 rfl) ?_
            refine lv_iload_n hx hb dm_Model_product2_24 rfl (lv_at hl 4 rfl) ?_
            refine pw_callVI (rest := [.int (nI (j))]) S hW (mm_Model_degree l D k g (st_rw σ2 (300 + 31) (lp_row P (lp_pm P (σ (300 + a)) (σ (300 + b)) (sp_sz (σ (300 + b)) 31) i) (σ (300 + b)) (σ (300 + a) i) i j)) (s0 := b) (by omega) (P := P) (by rw [qb]; exact hw.2 b (by omega)) hP31) (cv_Model_42 S.1.2.2.2.2 ⟨by decide, by decide⟩) (by decide) en_Model rfl rfl hl.1 rfl (lv_room (Nat.le_of_ble_eq_true rfl)) ⟨Nat.zero_le _, Nat.zero_le _⟩ dm_Model_product2_25 (fun r σ1 H locs hp hW => ?_)
            obtain ⟨hr, hp⟩ := hp
            rw [hp] at hW
            subst hr
            rw [qb]
            refine wi_icmp_gt (tgt := 82) S (nn_T (by omega)) (sd_T (by omega)) dm_Model_product2_28 (by decide) (fun hc => ?_) (fun hc => ?_)
            · exfalso
              omega
            · have e2 := md_lt hw hb0 j
              have hm := nn_mul (show σ (300 + a) i < 2147483648 by omega) (show σ (300 + b) j < 2147483648 by omega)
              have e3 := lp_row_lt hp0 (u := lp_pm P (σ (300 + a)) (σ (300 + b)) (sp_sz (σ (300 + b)) 31) i) (b := σ (300 + b)) (x := σ (300 + a) i) (i := i) (J := j) (fun k => lp_pm_lt hp0 i k) (i + j)
              refine lv_aload_n hx hb dm_Model_product2_31 rfl (lv_at hl 2 rfl) ?_
              refine lv_bipush (v := nI (31)) hx hb dm_Model_product2_32 (by decide) ?_
              refine lv_iload_n hx hb dm_Model_product2_34 rfl (lv_at hl 1 rfl) ?_
              refine lv_iload hx hb dm_Model_product2_35 (lv_at hl 0 rfl) ?_
              refine wn_iadd S dm_Model_product2_37 ?_
              refine lv_aload_n hx hb dm_Model_product2_38 rfl (lv_at hl 2 rfl) ?_
              refine lv_bipush (v := nI (31)) hx hb dm_Model_product2_39 (by decide) ?_
              refine lv_iload_n hx hb dm_Model_product2_41 rfl (lv_at hl 1 rfl) ?_
              refine lv_iload hx hb dm_Model_product2_42 (lv_at hl 0 rfl) ?_
              refine wn_iadd S dm_Model_product2_44 ?_
              refine pw_callVI (rest := [.int (nI ((i) + (j))), .int (nI (31)), .ref (g (149))]) S hW (mm_Model_get l D k g (st_rw σ2 (300 + 31) (lp_row P (lp_pm P (σ (300 + a)) (σ (300 + b)) (sp_sz (σ (300 + b)) 31) i) (σ (300 + b)) (σ (300 + a) i) i j)) (s0 := 31) (n := (i) + (j)) (by omega) (by omega)) (cv_Model_31 S.1.2.2.2.2 ⟨by decide, by decide⟩) (by decide) en_Model rfl rfl hl.1 rfl (lv_room (Nat.le_of_ble_eq_true rfl)) ⟨Nat.zero_le _, Nat.zero_le _⟩ dm_Model_product2_45 (fun r σ1 H locs hp hW => ?_)
              obtain ⟨hr, hp⟩ := hp
              rw [hp] at hW
              subst hr
              rw [st_rw_at]
              refine wn_i2l S (by omega) dm_Model_product2_48 ?_
              refine lv_aload_n hx hb dm_Model_product2_49 rfl (lv_at hl 2 rfl) ?_
              refine lv_iload_n hx hb dm_Model_product2_50 rfl (lv_at hl 3 rfl) ?_
              refine lv_iload_n hx hb dm_Model_product2_51 rfl (lv_at hl 1 rfl) ?_
              refine pw_callVI (rest := [.long (lN ((lp_row P (lp_pm P (σ (300 + a)) (σ (300 + b)) (sp_sz (σ (300 + b)) 31) i) (σ (300 + b)) (σ (300 + a) i) i j) ((i) + (j)))), .int (nI ((i) + (j))), .int (nI (31)), .ref (g (149))]) S hW (mm_Model_get l D k g (st_rw σ2 (300 + 31) (lp_row P (lp_pm P (σ (300 + a)) (σ (300 + b)) (sp_sz (σ (300 + b)) 31) i) (σ (300 + b)) (σ (300 + a) i) i j)) (s0 := a) (n := i) (by omega) (by omega)) (cv_Model_31 S.1.2.2.2.2 ⟨by decide, by decide⟩) (by decide) en_Model rfl rfl hl.1 rfl (lv_room (Nat.le_of_ble_eq_true rfl)) ⟨Nat.zero_le _, Nat.zero_le _⟩ dm_Model_product2_52 (fun r σ1 H locs hp hW => ?_)
              obtain ⟨hr, hp⟩ := hp
              rw [hp] at hW
              subst hr
              rw [qa]
              refine wn_i2l S (by omega) dm_Model_product2_55 ?_
              refine lv_aload_n hx hb dm_Model_product2_56 rfl (lv_at hl 2 rfl) ?_
              refine lv_iload_n hx hb dm_Model_product2_57 rfl (lv_at hl 4 rfl) ?_
              refine lv_iload hx hb dm_Model_product2_58 (lv_at hl 0 rfl) ?_
              refine pw_callVI (rest := [.long (lN (σ (300 + a) (i))), .long (lN ((lp_row P (lp_pm P (σ (300 + a)) (σ (300 + b)) (sp_sz (σ (300 + b)) 31) i) (σ (300 + b)) (σ (300 + a) i) i j) ((i) + (j)))), .int (nI ((i) + (j))), .int (nI (31)), .ref (g (149))]) S hW (mm_Model_get l D k g (st_rw σ2 (300 + 31) (lp_row P (lp_pm P (σ (300 + a)) (σ (300 + b)) (sp_sz (σ (300 + b)) 31) i) (σ (300 + b)) (σ (300 + a) i) i j)) (s0 := b) (n := j) (by omega) (by omega)) (cv_Model_31 S.1.2.2.2.2 ⟨by decide, by decide⟩) (by decide) en_Model rfl rfl hl.1 rfl (lv_room (Nat.le_of_ble_eq_true rfl)) ⟨Nat.zero_le _, Nat.zero_le _⟩ dm_Model_product2_60 (fun r σ1 H locs hp hW => ?_)
              obtain ⟨hr, hp⟩ := hp
              rw [hp] at hW
              subst hr
              rw [qb]
              refine wn_i2l S (by omega) dm_Model_product2_63 ?_
              refine wn_lmul S dm_Model_product2_64 ?_
              refine wn_ladd S dm_Model_product2_65 ?_
              refine lv_aload_n hx hb dm_Model_product2_66 rfl (lv_at hl 2 rfl) ?_
              refine md_p S hW (wa_in 561 (by decide +kernel) rfl) dm_Model_product2_67 ?_
              rw [qp]
              refine wn_i2l S (by omega) dm_Model_product2_70 ?_
              refine wn_lrem S (by omega) (by omega) (by omega) dm_Model_product2_71 ?_
              refine wn_l2i S dm_Model_product2_72 ?_
              refine pw_callV (rest := []) S hW (mm_Model_put l D k g (st_rw σ2 (300 + 31) (lp_row P (lp_pm P (σ (300 + a)) (σ (300 + b)) (sp_sz (σ (300 + b)) 31) i) (σ (300 + b)) (σ (300 + a) i) i j)) (s0 := 31) (n := (i) + (j)) (v := (((lp_row P (lp_pm P (σ (300 + a)) (σ (300 + b)) (sp_sz (σ (300 + b)) 31) i) (σ (300 + b)) (σ (300 + a) i) i j) ((i) + (j))) + ((σ (300 + a) (i)) * (σ (300 + b) (j)))) % (P)) (by omega) (by omega)) (cv_Model_34 S.1.2.2.2.2 ⟨by decide, by decide⟩) (by decide) en_Model rfl rfl hl.1 rfl (lv_room (Nat.le_of_ble_eq_true rfl)) ⟨Nat.zero_le _, Nat.zero_le _⟩ dm_Model_product2_73 (fun σ1 H locs hp hW => ?_)
              rw [hp] at hW
              refine lv_iinc (k := 0) (v := nI (j + 1)) hx hb dm_Model_product2_76 hl rfl (by rw [show Int32.ofInt 1 = nI 1 from rfl, nI_add]) (by decide) rfl (fun ls hl => ?_)
              have hl : lv_has ls 5 [(4, .int (nI (j + 1))), (3, .int (nI (i))), (0, .ref (g (149))), (1, .int (nI (a))), (2, .int (nI (b)))] := hl
              refine lv_goto (tgt := 21) hx hb dm_Model_product2_79 (by decide) ?_
              rw [st_rw_up, ← lp_row_s] at hW
              exact ihj (j + 1) (by omega) ls _ _ hl hW
        refine inner (sp_sz (σ (300 + b)) 31) 0 (by omega) ls _ _ hl ?_
        rw [lp_row_0]
        exact hW
  refine loop (sp_sz (σ (300 + a)) 31) 0 (by omega) ls _ _ hl ?_
  rw [show lp_pm P (σ (300 + a)) (σ (300 + b)) (sp_sz (σ (300 + b)) 31) 0 = (fun _ => 0) from rfl, st_rw_id e2]
  exact hW
theorem dm_Model_rest_0 : decode bm_Model_rest 0 = .ok (.aload_n 0, 1) := by decide +kernel
theorem dm_Model_rest_1 : decode bm_Model_rest 1 = .ok (.bipush 32, 2) := by decide +kernel
theorem dm_Model_rest_3 : decode bm_Model_rest 3 = .ok (.iconst 0, 1) := by decide +kernel
theorem dm_Model_rest_4 : decode bm_Model_rest 4 = .ok (.invokevirtual 38, 3) := by decide +kernel
theorem dm_Model_rest_7 : decode bm_Model_rest 7 = .ok (.aload_n 0, 1) := by decide +kernel
theorem dm_Model_rest_8 : decode bm_Model_rest 8 = .ok (.iload_n 2, 1) := by decide +kernel
theorem dm_Model_rest_9 : decode bm_Model_rest 9 = .ok (.invokevirtual 42, 3) := by decide +kernel
theorem dm_Model_rest_12 : decode bm_Model_rest 12 = .ok (.istore_n 3, 1) := by decide +kernel
theorem dm_Model_rest_13 : decode bm_Model_rest 13 = .ok (.aload_n 0, 1) := by decide +kernel
theorem dm_Model_rest_14 : decode bm_Model_rest 14 = .ok (.aload_n 0, 1) := by decide +kernel
theorem dm_Model_rest_15 : decode bm_Model_rest 15 = .ok (.iload_n 2, 1) := by decide +kernel
theorem dm_Model_rest_16 : decode bm_Model_rest 16 = .ok (.iload_n 3, 1) := by decide +kernel
theorem dm_Model_rest_17 : decode bm_Model_rest 17 = .ok (.invokevirtual 31, 3) := by decide +kernel
theorem dm_Model_rest_20 : decode bm_Model_rest 20 = .ok (.aload_n 0, 1) := by decide +kernel
theorem dm_Model_rest_21 : decode bm_Model_rest 21 = .ok (.getfield 23, 3) := by decide +kernel
theorem dm_Model_rest_24 : decode bm_Model_rest 24 = .ok (.iconst 2, 1) := by decide +kernel
theorem dm_Model_rest_25 : decode bm_Model_rest 25 = .ok (.isub, 1) := by decide +kernel
theorem dm_Model_rest_26 : decode bm_Model_rest 26 = .ok (.invokevirtual 46, 3) := by decide +kernel
theorem dm_Model_rest_29 : decode bm_Model_rest 29 = .ok (.istore 4, 2) := by decide +kernel
theorem dm_Model_rest_31 : decode bm_Model_rest 31 = .ok (.aload_n 0, 1) := by decide +kernel
theorem dm_Model_rest_32 : decode bm_Model_rest 32 = .ok (.iload_n 1, 1) := by decide +kernel
theorem dm_Model_rest_33 : decode bm_Model_rest 33 = .ok (.invokevirtual 42, 3) := by decide +kernel
theorem dm_Model_rest_36 : decode bm_Model_rest 36 = .ok (.istore 5, 2) := by decide +kernel
theorem dm_Model_rest_38 : decode bm_Model_rest 38 = .ok (.iload 5, 2) := by decide +kernel
theorem dm_Model_rest_40 : decode bm_Model_rest 40 = .ok (.iload_n 3, 1) := by decide +kernel
theorem dm_Model_rest_41 : decode bm_Model_rest 41 = .ok (.if_icmp .lt 101, 3) := by decide +kernel
theorem dm_Model_rest_44 : decode bm_Model_rest 44 = .ok (.aload_n 0, 1) := by decide +kernel
theorem dm_Model_rest_45 : decode bm_Model_rest 45 = .ok (.aload_n 0, 1) := by decide +kernel
theorem dm_Model_rest_46 : decode bm_Model_rest 46 = .ok (.iload_n 1, 1) := by decide +kernel
theorem dm_Model_rest_47 : decode bm_Model_rest 47 = .ok (.iload 5, 2) := by decide +kernel
theorem dm_Model_rest_49 : decode bm_Model_rest 49 = .ok (.invokevirtual 31, 3) := by decide +kernel
theorem dm_Model_rest_52 : decode bm_Model_rest 52 = .ok (.iload 4, 2) := by decide +kernel
theorem dm_Model_rest_54 : decode bm_Model_rest 54 = .ok (.invokevirtual 27, 3) := by decide +kernel
theorem dm_Model_rest_57 : decode bm_Model_rest 57 = .ok (.istore 6, 2) := by decide +kernel
theorem dm_Model_rest_59 : decode bm_Model_rest 59 = .ok (.aload_n 0, 1) := by decide +kernel
theorem dm_Model_rest_60 : decode bm_Model_rest 60 = .ok (.bipush 32, 2) := by decide +kernel
theorem dm_Model_rest_62 : decode bm_Model_rest 62 = .ok (.iload 5, 2) := by decide +kernel
theorem dm_Model_rest_64 : decode bm_Model_rest 64 = .ok (.iload_n 3, 1) := by decide +kernel
theorem dm_Model_rest_65 : decode bm_Model_rest 65 = .ok (.isub, 1) := by decide +kernel
theorem dm_Model_rest_66 : decode bm_Model_rest 66 = .ok (.iload 6, 2) := by decide +kernel
theorem dm_Model_rest_68 : decode bm_Model_rest 68 = .ok (.invokevirtual 34, 3) := by decide +kernel
theorem dm_Model_rest_71 : decode bm_Model_rest 71 = .ok (.iconst 0, 1) := by decide +kernel
theorem dm_Model_rest_72 : decode bm_Model_rest 72 = .ok (.istore 7, 2) := by decide +kernel
theorem dm_Model_rest_74 : decode bm_Model_rest 74 = .ok (.iload 7, 2) := by decide +kernel
theorem dm_Model_rest_76 : decode bm_Model_rest 76 = .ok (.iload_n 3, 1) := by decide +kernel
theorem dm_Model_rest_77 : decode bm_Model_rest 77 = .ok (.if_icmp .gt 59, 3) := by decide +kernel
theorem dm_Model_rest_80 : decode bm_Model_rest 80 = .ok (.aload_n 0, 1) := by decide +kernel
theorem dm_Model_rest_81 : decode bm_Model_rest 81 = .ok (.iload_n 1, 1) := by decide +kernel
theorem dm_Model_rest_82 : decode bm_Model_rest 82 = .ok (.iload 5, 2) := by decide +kernel
theorem dm_Model_rest_84 : decode bm_Model_rest 84 = .ok (.iload_n 3, 1) := by decide +kernel
theorem dm_Model_rest_85 : decode bm_Model_rest 85 = .ok (.isub, 1) := by decide +kernel
theorem dm_Model_rest_86 : decode bm_Model_rest 86 = .ok (.iload 7, 2) := by decide +kernel
theorem dm_Model_rest_88 : decode bm_Model_rest 88 = .ok (.iadd, 1) := by decide +kernel
theorem dm_Model_rest_89 : decode bm_Model_rest 89 = .ok (.aload_n 0, 1) := by decide +kernel
theorem dm_Model_rest_90 : decode bm_Model_rest 90 = .ok (.iload_n 1, 1) := by decide +kernel
theorem dm_Model_rest_91 : decode bm_Model_rest 91 = .ok (.iload 5, 2) := by decide +kernel
theorem dm_Model_rest_93 : decode bm_Model_rest 93 = .ok (.iload_n 3, 1) := by decide +kernel
theorem dm_Model_rest_94 : decode bm_Model_rest 94 = .ok (.isub, 1) := by decide +kernel
theorem dm_Model_rest_95 : decode bm_Model_rest 95 = .ok (.iload 7, 2) := by decide +kernel
theorem dm_Model_rest_97 : decode bm_Model_rest 97 = .ok (.iadd, 1) := by decide +kernel
theorem dm_Model_rest_98 : decode bm_Model_rest 98 = .ok (.invokevirtual 31, 3) := by decide +kernel
theorem dm_Model_rest_101 : decode bm_Model_rest 101 = .ok (.i2l, 1) := by decide +kernel
theorem dm_Model_rest_102 : decode bm_Model_rest 102 = .ok (.aload_n 0, 1) := by decide +kernel
theorem dm_Model_rest_103 : decode bm_Model_rest 103 = .ok (.getfield 23, 3) := by decide +kernel
theorem dm_Model_rest_106 : decode bm_Model_rest 106 = .ok (.iload 6, 2) := by decide +kernel
theorem dm_Model_rest_108 : decode bm_Model_rest 108 = .ok (.isub, 1) := by decide +kernel
theorem dm_Model_rest_109 : decode bm_Model_rest 109 = .ok (.i2l, 1) := by decide +kernel
theorem dm_Model_rest_110 : decode bm_Model_rest 110 = .ok (.aload_n 0, 1) := by decide +kernel
theorem dm_Model_rest_111 : decode bm_Model_rest 111 = .ok (.iload_n 2, 1) := by decide +kernel
theorem dm_Model_rest_112 : decode bm_Model_rest 112 = .ok (.iload 7, 2) := by decide +kernel
theorem dm_Model_rest_114 : decode bm_Model_rest 114 = .ok (.invokevirtual 31, 3) := by decide +kernel
theorem dm_Model_rest_117 : decode bm_Model_rest 117 = .ok (.i2l, 1) := by decide +kernel
theorem dm_Model_rest_118 : decode bm_Model_rest 118 = .ok (.lmul, 1) := by decide +kernel
theorem dm_Model_rest_119 : decode bm_Model_rest 119 = .ok (.ladd, 1) := by decide +kernel
theorem dm_Model_rest_120 : decode bm_Model_rest 120 = .ok (.aload_n 0, 1) := by decide +kernel
theorem dm_Model_rest_121 : decode bm_Model_rest 121 = .ok (.getfield 23, 3) := by decide +kernel
theorem dm_Model_rest_124 : decode bm_Model_rest 124 = .ok (.i2l, 1) := by decide +kernel
theorem dm_Model_rest_125 : decode bm_Model_rest 125 = .ok (.lrem, 1) := by decide +kernel
theorem dm_Model_rest_126 : decode bm_Model_rest 126 = .ok (.l2i, 1) := by decide +kernel
theorem dm_Model_rest_127 : decode bm_Model_rest 127 = .ok (.invokevirtual 34, 3) := by decide +kernel
theorem dm_Model_rest_130 : decode bm_Model_rest 130 = .ok (.iinc 7 1, 3) := by decide +kernel
theorem dm_Model_rest_133 : decode bm_Model_rest 133 = .ok (.goto (-59), 3) := by decide +kernel
theorem dm_Model_rest_136 : decode bm_Model_rest 136 = .ok (.iinc 5 (-1), 3) := by decide +kernel
theorem dm_Model_rest_139 : decode bm_Model_rest 139 = .ok (.goto (-101), 3) := by decide +kernel
theorem dm_Model_rest_142 : decode bm_Model_rest 142 = .ok (.return_, 1) := by decide +kernel
set_option maxHeartbeats 4000000 in
set_option maxRecDepth 100000 in
theorem mm_Model_rest (l : Launch) (D : va_G) (k : ClassId × ClassId × ClassId) (g : Nat → Nat) (σ : st_T) {P a b : Nat} (hw : md_wf P σ) (hP : ag_pr P) (hP31 : P < 2147483648) (ha : a < 33) (hb0 : b < 33) (ha32 : a ≠ 32) (hb32 : b ≠ 32) (hab : a ≠ b) (hs : 0 < sp_sz (σ (300 + b)) 31) : mt_V l D k g ym_Model_rest wm_Model_rest rm_Model_rest [.ref (g 149), .int (nI a), .int (nI b)] σ (fun σ1 => md_wf P σ1 ∧ (σ1 (300 + a) = sp_rest P (σ (300 + a)) (σ (300 + b)) ∧ σ1 (300 + 32) = sp_quo P (σ (300 + a)) (σ (300 + b))) ∧ md_sm [300 + a, 300 + 32] σ σ1) := by
  refine ct_V_in (cc := bm_Model_rest) (maxL := 8) (by decide) rfl (Nat.le_of_ble_eq_true rfl) ?_
  intro p e s m args below meth c A ls Q S hl hW hret
  have S : pw_S p m c bm_Model_rest 8 s args wa_g rc_Model D cl_s (ty_s k) := S
  have hx := S.1.1
  have hb := S.1.2.1
  have hl : lv_has ls 8 [(0, .ref (g (149))), (1, .int (nI (a))), (2, .int (nI (b)))] := hl
  refine lv_aload_n hx hb dm_Model_rest_0 rfl (lv_at hl 0 rfl) ?_
  refine lv_bipush (v := nI (32)) hx hb dm_Model_rest_1 (by decide) ?_
  refine lv_iconst (v := nI (0)) hx hb dm_Model_rest_3 (by decide) ?_
  refine pw_callV (rest := []) S hW (mm_Model_number l D k g σ hw (s0 := 32) (v := 0) (by omega) (by have := hP.1; omega)) (cv_Model_38 S.1.2.2.2.2 ⟨by decide, by decide⟩) (by decide) en_Model rfl rfl hl.1 rfl (lv_room (Nat.le_of_ble_eq_true rfl)) ⟨Nat.zero_le _, Nat.zero_le _⟩ dm_Model_rest_4 (fun σ2 H locs hp2 hW => ?_)
  obtain ⟨w2, e2, s2⟩ := hp2
  have hP2 := hP.1
  have hp0 : 0 < P := by omega
  have e2 : σ2 (300 + 32) = fun _ => 0 := by rw [e2]; exact funext (fun i => by unfold va_up; split <;> rfl)
  have za := sp_sz_le (σ (300 + a)) 31
  have zb := sp_sz_le (σ (300 + b)) 31
  have ka : σ2 (300 + a) = σ (300 + a) := s2 _ (by simp only [List.mem_cons, List.not_mem_nil, or_false]; omega)
  have kb : σ2 (300 + b) = σ (300 + b) := s2 _ (by simp only [List.mem_cons, List.not_mem_nil, or_false]; omega)
  have qb : ∀ L O, st_rw (st_rw σ2 (300 + a) L) (300 + 32) O (300 + b) = σ (300 + b) := fun L O => by rw [st_rw_row (by omega), st_rw_row (by omega), kb]
  have qa : ∀ L O, st_rw (st_rw σ2 (300 + a) L) (300 + 32) O (300 + a) = L := fun L O => by rw [st_rw_row (by omega), st_rw_at]
  have qp : ∀ L O, st_rw (st_rw σ2 (300 + a) L) (300 + 32) O 205 0 = P := fun L O => by rw [st_rw_row (by omega), st_rw_row (by omega)]; exact w2.1
  have hX0 : st_rw (st_rw σ2 (300 + a) (σ (300 + a))) (300 + 32) (fun _ => 0) = σ2 := by rw [st_rw_id ka, st_rw_id e2]
  obtain ⟨n, hn⟩ : ∃ n, sp_sz (σ (300 + b)) 31 = n + 1 := ⟨sp_sz (σ (300 + b)) 31 - 1, by omega⟩
  have hlt := md_lt hw hb0 n
  have hivl : sp_inv P (σ (300 + b) n) < P := Nat.mod_lt _ hp0
  refine lv_aload_n hx hb dm_Model_rest_7 rfl (lv_at hl 0 rfl) ?_
  refine lv_iload_n hx hb dm_Model_rest_8 rfl (lv_at hl 2 rfl) ?_
  refine pw_callVI (rest := []) S hW (mm_Model_degree l D k g σ2 (s0 := b) (by omega) (P := P) (w2.2 b (by omega)) hP31) (cv_Model_42 S.1.2.2.2.2 ⟨by decide, by decide⟩) (by decide) en_Model rfl rfl hl.1 rfl (lv_room (Nat.le_of_ble_eq_true rfl)) ⟨Nat.zero_le _, Nat.zero_le _⟩ dm_Model_rest_9 (fun r σ1 H locs hp hW => ?_)
  obtain ⟨hr, hp⟩ := hp
  rw [hp] at hW
  subst hr
  rw [kb]
  rw [hn, sd_s]
  refine lv_istore_n hx hb dm_Model_rest_12 rfl hl (by decide) rfl (fun ls hl => ?_)
  have hl : lv_has ls 8 [(3, .int (nI (n))), (0, .ref (g (149))), (1, .int (nI (a))), (2, .int (nI (b)))] := hl
  refine lv_aload_n hx hb dm_Model_rest_13 rfl (lv_at hl 1 rfl) ?_
  refine lv_aload_n hx hb dm_Model_rest_14 rfl (lv_at hl 1 rfl) ?_
  refine lv_iload_n hx hb dm_Model_rest_15 rfl (lv_at hl 3 rfl) ?_
  refine lv_iload_n hx hb dm_Model_rest_16 rfl (lv_at hl 0 rfl) ?_
  refine pw_callVI (rest := [.ref (g (149))]) S hW (mm_Model_get l D k g σ2 (s0 := b) (n := n) (by omega) (by omega)) (cv_Model_31 S.1.2.2.2.2 ⟨by decide, by decide⟩) (by decide) en_Model rfl rfl hl.1 rfl (lv_room (Nat.le_of_ble_eq_true rfl)) ⟨Nat.zero_le _, Nat.zero_le _⟩ dm_Model_rest_17 (fun r σ1 H locs hp hW => ?_)
  obtain ⟨hr, hp⟩ := hp
  rw [hp] at hW
  subst hr
  rw [kb]
  refine lv_aload_n hx hb dm_Model_rest_20 rfl (lv_at hl 1 rfl) ?_
  refine md_p S hW (wa_in 561 (by decide +kernel) rfl) dm_Model_rest_21 ?_
  rw [w2.1]
  refine lv_iconst (v := nI (2)) hx hb dm_Model_rest_24 (by decide) ?_
  refine wn_isub S (by omega) dm_Model_rest_25 ?_
  refine pw_callVI (rest := []) S hW (mm_Model_raise l D k g σ2 (P := P) w2.1 hp0 hP31 (a := σ (300 + b) n) (n0 := P - 2) (by omega) (by omega)) (cv_Model_46 S.1.2.2.2.2 ⟨by decide, by decide⟩) (by decide) en_Model rfl rfl hl.1 rfl (lv_room (Nat.le_of_ble_eq_true rfl)) ⟨Nat.zero_le _, Nat.zero_le _⟩ dm_Model_rest_26 (fun r σ1 H locs hp hW => ?_)
  obtain ⟨hr, hp⟩ := hp
  rw [hp] at hW
  subst hr
  rw [show σ (300 + b) n ^ (P - 2) % P = sp_inv P (σ (300 + b) n) from rfl]
  refine lv_istore hx hb dm_Model_rest_29 hl (by decide) rfl (fun ls hl => ?_)
  have hl : lv_has ls 8 [(4, .int (nI (sp_inv P (σ (300 + b) n)))), (3, .int (nI (n))), (0, .ref (g (149))), (1, .int (nI (a))), (2, .int (nI (b)))] := hl
  refine lv_aload_n hx hb dm_Model_rest_31 rfl (lv_at hl 2 rfl) ?_
  refine lv_iload_n hx hb dm_Model_rest_32 rfl (lv_at hl 3 rfl) ?_
  refine pw_callVI (rest := []) S hW (mm_Model_degree l D k g σ2 (s0 := a) (by omega) (P := P) (w2.2 a (by omega)) hP31) (cv_Model_42 S.1.2.2.2.2 ⟨by decide, by decide⟩) (by decide) en_Model rfl rfl hl.1 rfl (lv_room (Nat.le_of_ble_eq_true rfl)) ⟨Nat.zero_le _, Nat.zero_le _⟩ dm_Model_rest_33 (fun r σ1 H locs hp hW => ?_)
  obtain ⟨hr, hp⟩ := hp
  rw [hp] at hW
  subst hr
  rw [ka]
  refine lv_istore hx hb dm_Model_rest_36 hl (by decide) rfl (fun ls hl => ?_)
  have hl : lv_has ls 8 [(5, .int (sd_i (sp_sz (σ (300 + a)) 31))), (4, .int (nI (sp_inv P (σ (300 + b) n)))), (3, .int (nI (n))), (0, .ref (g (149))), (1, .int (nI (a))), (2, .int (nI (b)))] := hl
  have hl : lv_has ls 8 [(5, .int (sd_i (sp_sz (σ (300 + a)) 31))), (4, .int (nI (sp_inv P (σ (300 + b) n)))), (3, .int (nI (n))), (0, .ref (g (149))), (1, .int (nI (a))), (2, .int (nI (b)))] := lv_sub hl [0, 1, 2, 3, 4, 5] rfl
  have hdv : sp_div P (σ (300 + b)) n (sp_inv P (σ (300 + b) n)) (sp_sz (σ (300 + a)) 31 + 1 - sp_sz (σ (300 + b)) 31) (σ (300 + a)) (fun _ => 0) = sp_dv P (σ (300 + a)) (σ (300 + b)) := by unfold sp_dv; rw [hn]; rfl
  have fin : ∀ L O, (L, O) = sp_dv P (σ (300 + a)) (σ (300 + b)) → ∀ (ls : Array Slot) (H : Heap) (locs : List Loc), pw_H D cl_s A s.heap g 153 (en_s k g (st_rw (st_rw σ2 (300 + a) (L)) (300 + 32) (O))) H locs → W p l e rm_Model_rest s m args below meth c H locs 0 0 Q (F0 m 142 ls []) := by
    intro L O hLO ls H locs hW
    have hdo := sp_dv_ok hP (hw.2 a ha) (hw.2 b hb0) hs
    have eL : L = sp_rest P (σ (300 + a)) (σ (300 + b)) := by unfold sp_rest; rw [← hLO]
    have eO : O = sp_quo P (σ (300 + a)) (σ (300 + b)) := by unfold sp_quo; rw [← hLO]
    have h8 := md_rw (s := a) w2 hdo.1
    have h9 := md_rw (s := 32) h8.1 hdo.2.1
    rw [eL, eO] at hW
    exact hret _ _ _ _ _ dm_Model_rest_142 ⟨h9.1, ⟨qa _ _, h9.2.1⟩, md_sm_tr (md_sm_tr s2 h8.2.2 (Z := [300 + a, 300 + 32]) (by intro x9 hx9; simp only [List.mem_cons, List.not_mem_nil, or_false] at hx9 ⊢; omega) (by intro x9 hx9; simp only [List.mem_cons, List.not_mem_nil, or_false] at hx9 ⊢; omega)) h9.2.2 (by intro x9 hx9; simp only [List.mem_cons, List.not_mem_nil, or_false] at hx9 ⊢; omega) (by intro x9 hx9; simp only [List.mem_cons, List.not_mem_nil, or_false] at hx9 ⊢; omega)⟩ hW
  have loop : ∀ q9 L O, q9 + n ≤ 31 → (∀ i, L i < P) → (∀ i, O i < P) → sp_div P (σ (300 + b)) n (sp_inv P (σ (300 + b) n)) q9 L O = sp_dv P (σ (300 + a)) (σ (300 + b)) → ∀ (ls : Array Slot) (H : Heap) (locs : List Loc), lv_has ls 8 [(5, .int (sd_i (q9 + n))), (4, .int (nI (sp_inv P (σ (300 + b) n)))), (3, .int (nI (n))), (0, .ref (g (149))), (1, .int (nI (a))), (2, .int (nI (b)))] → pw_H D cl_s A s.heap g 153 (en_s k g (st_rw (st_rw σ2 (300 + a) (L)) (300 + 32) (O))) H locs → W p l e rm_Model_rest s m args below meth c H locs 0 0 Q (F0 m 38 ls []) := by
    intro q9
    induction q9 with
    | zero =>
      intro L O hn9 hL hO hinv ls H locs hl hW
      refine lv_iload hx hb dm_Model_rest_38 (lv_at hl 0 rfl) ?_
      refine lv_iload_n hx hb dm_Model_rest_40 rfl (lv_at hl 2 rfl) ?_
      refine wi_icmp_lt (tgt := 142) S (sd_T (by omega)) (nn_T (by omega)) dm_Model_rest_41 (by decide) (fun hc => ?_) (fun hc => ?_)
      · exact fin L O hinv ls H locs hW
      · exfalso
        omega
    | succ q9 ih =>
      intro L O hn9 hL hO hinv ls H locs hl hW
      refine lv_iload hx hb dm_Model_rest_38 (lv_at hl 0 rfl) ?_
      refine lv_iload_n hx hb dm_Model_rest_40 rfl (lv_at hl 2 rfl) ?_
      refine wi_icmp_lt (tgt := 142) S (sd_T (by omega)) (nn_T (by omega)) dm_Model_rest_41 (by decide) (fun hc => ?_) (fun hc => ?_)
      · exfalso
        omega
      · rw [show q9 + 1 + n = q9 + n + 1 by omega, sd_s] at hl
        have e1 := hL (q9 + n)
        refine lv_aload_n hx hb dm_Model_rest_44 rfl (lv_at hl 3 rfl) ?_
        refine lv_aload_n hx hb dm_Model_rest_45 rfl (lv_at hl 3 rfl) ?_
        refine lv_iload_n hx hb dm_Model_rest_46 rfl (lv_at hl 4 rfl) ?_
        refine lv_iload hx hb dm_Model_rest_47 (lv_at hl 0 rfl) ?_
        refine pw_callVI (rest := [.ref (g (149))]) S hW (mm_Model_get l D k g (st_rw (st_rw σ2 (300 + a) (L)) (300 + 32) (O)) (s0 := a) (n := q9 + n) (by omega) (by omega)) (cv_Model_31 S.1.2.2.2.2 ⟨by decide, by decide⟩) (by decide) en_Model rfl rfl hl.1 rfl (lv_room (Nat.le_of_ble_eq_true rfl)) ⟨Nat.zero_le _, Nat.zero_le _⟩ dm_Model_rest_49 (fun r σ1 H locs hp hW => ?_)
        obtain ⟨hr, hp⟩ := hp
        rw [hp] at hW
        subst hr
        rw [qa]
        refine lv_iload hx hb dm_Model_rest_52 (lv_at hl 1 rfl) ?_
        refine pw_callVI (rest := []) S hW (mm_Model_times2 l D k g (st_rw (st_rw σ2 (300 + a) (L)) (300 + 32) (O)) (P := P) (qp _ _) (by omega) (by omega) (a := (L) (q9 + n)) (b := sp_inv P (σ (300 + b) n)) (by omega) (by omega)) (cv_Model_27 S.1.2.2.2.2 ⟨by decide, by decide⟩) (by decide) en_Model rfl rfl hl.1 rfl (lv_room (Nat.le_of_ble_eq_true rfl)) ⟨Nat.zero_le _, Nat.zero_le _⟩ dm_Model_rest_54 (fun r σ1 H locs hp hW => ?_)
        obtain ⟨hr, hp⟩ := hp
        rw [hp] at hW
        subst hr
        have hqe : ∃ q, q = L (q9 + n) * sp_inv P (σ (300 + b) n) % P := ⟨_, rfl⟩
        obtain ⟨q, hq⟩ := hqe
        have hqP : q < P := by rw [hq]; exact Nat.mod_lt _ hp0
        rw [← hq]
        have hinv2 : sp_div P (σ (300 + b)) n (sp_inv P (σ (300 + b) n)) q9 (sp_st1 P (σ (300 + b)) n q9 q L) (va_up O q9 q) = sp_dv P (σ (300 + a)) (σ (300 + b)) := by rw [hq]; exact hinv
        have hO2 : ∀ i, va_up O q9 q i < P := fun i => by unfold va_up; split; exact hqP; exact hO i
        refine lv_istore hx hb dm_Model_rest_57 hl (by decide) rfl (fun ls hl => ?_)
        have hl : lv_has ls 8 [(6, .int (nI (q))), (5, .int (nI (q9 + n))), (4, .int (nI (sp_inv P (σ (300 + b) n)))), (3, .int (nI (n))), (0, .ref (g (149))), (1, .int (nI (a))), (2, .int (nI (b)))] := hl
        refine lv_aload_n hx hb dm_Model_rest_59 rfl (lv_at hl 4 rfl) ?_
        refine lv_bipush (v := nI (32)) hx hb dm_Model_rest_60 (by decide) ?_
        refine lv_iload hx hb dm_Model_rest_62 (lv_at hl 1 rfl) ?_
        refine lv_iload_n hx hb dm_Model_rest_64 rfl (lv_at hl 3 rfl) ?_
        refine wn_isub S (by omega) dm_Model_rest_65 ?_
        rw [Nat.add_sub_cancel]
        refine lv_iload hx hb dm_Model_rest_66 (lv_at hl 0 rfl) ?_
        refine pw_callV (rest := []) S hW (mm_Model_put l D k g (st_rw (st_rw σ2 (300 + a) (L)) (300 + 32) (O)) (s0 := 32) (n := q9) (v := q) (by omega) (by omega)) (cv_Model_34 S.1.2.2.2.2 ⟨by decide, by decide⟩) (by decide) en_Model rfl rfl hl.1 rfl (lv_room (Nat.le_of_ble_eq_true rfl)) ⟨Nat.zero_le _, Nat.zero_le _⟩ dm_Model_rest_68 (fun σ1 H locs hp hW => ?_)
        rw [hp] at hW
        rw [st_rw_up] at hW
        refine lv_iconst (v := nI (0)) hx hb dm_Model_rest_71 (by decide) ?_
        refine lv_istore hx hb dm_Model_rest_72 hl (by decide) rfl (fun ls hl => ?_)
        have hl : lv_has ls 8 [(7, .int (nI (0))), (6, .int (nI (q))), (5, .int (nI (q9 + n))), (4, .int (nI (sp_inv P (σ (300 + b) n)))), (3, .int (nI (n))), (0, .ref (g (149))), (1, .int (nI (a))), (2, .int (nI (b)))] := hl
        have hl : lv_has ls 8 [(7, .int (nI (0))), (6, .int (nI (q))), (5, .int (nI (q9 + n))), (4, .int (nI (sp_inv P (σ (300 + b) n)))), (3, .int (nI (n))), (0, .ref (g (149))), (1, .int (nI (a))), (2, .int (nI (b)))] := lv_sub hl [0, 1, 2, 3, 4, 5, 6, 7] rfl
        have inner : ∀ dj j, j + dj = n + 1 → ∀ (ls : Array Slot) (H : Heap) (locs : List Loc), lv_has ls 8 [(7, .int (nI (j))), (6, .int (nI (q))), (5, .int (nI (q9 + n))), (4, .int (nI (sp_inv P (σ (300 + b) n)))), (3, .int (nI (n))), (0, .ref (g (149))), (1, .int (nI (a))), (2, .int (nI (b)))] → pw_H D cl_s A s.heap g 153 (en_s k g (st_rw (st_rw σ2 (300 + a) (lp_row P L (σ (300 + b)) (P - q) q9 j)) (300 + 32) (va_up O q9 q))) H locs → W p l e rm_Model_rest s m args below meth c H locs 0 0 Q (F0 m 74 ls []) := by
          intro dj
          induction dj with
          | zero =>
            intro j hj ls H locs hl hW
            refine lv_iload hx hb dm_Model_rest_74 (lv_at hl 0 rfl) ?_
            refine lv_iload_n hx hb dm_Model_rest_76 rfl (lv_at hl 4 rfl) ?_
            refine wi_icmp_gt (tgt := 136) S (nn_T (by omega)) (nn_T (by omega)) dm_Model_rest_77 (by decide) (fun hc => ?_) (fun hc => ?_)
            · rw [show j = n + 1 by omega, ← sp_st1_row] at hW
              refine lv_iinc (k := 2) (v := sd_i (q9 + n)) hx hb dm_Model_rest_136 hl rfl (by rw [← sd_s]; exact sd_m1 (q9 + n)) (by decide) rfl (fun ls hl => ?_)
              have hl : lv_has ls 8 [(5, .int (sd_i (q9 + n))), (7, .int (nI (j))), (6, .int (nI (q))), (4, .int (nI (sp_inv P (σ (300 + b) n)))), (3, .int (nI (n))), (0, .ref (g (149))), (1, .int (nI (a))), (2, .int (nI (b)))] := hl
              refine lv_goto (tgt := 38) hx hb dm_Model_rest_139 (by decide) ?_
              have hl : lv_has ls 8 [(5, .int (sd_i (q9 + n))), (4, .int (nI (sp_inv P (σ (300 + b) n)))), (3, .int (nI (n))), (0, .ref (g (149))), (1, .int (nI (a))), (2, .int (nI (b)))] := lv_sub hl [0, 3, 4, 5, 6, 7] rfl
              exact ih _ _ (by omega) (fun i => by rw [sp_st1_row]; exact lp_row_lt hp0 hL i) hO2 hinv2 ls _ _ hl hW
            · exfalso
              omega
          | succ dj ihj =>
            intro j hj ls H locs hl hW
            refine lv_iload hx hb dm_Model_rest_74 (lv_at hl 0 rfl) ?_
            refine lv_iload_n hx hb dm_Model_rest_76 rfl (lv_at hl 4 rfl) ?_
            refine wi_icmp_gt (tgt := 136) S (nn_T (by omega)) (nn_T (by omega)) dm_Model_rest_77 (by decide) (fun hc => ?_) (fun hc => ?_)
            · exfalso
              omega
            · have e2 := md_lt hw hb0 j
              have hm2 := nn_mul (show P - q < 2147483648 by omega) (show σ (300 + b) j < 2147483648 by omega)
              have e3 := lp_row_lt hp0 (u := L) (b := σ (300 + b)) (x := P - q) (i := q9) (J := j) hL (q9 + j)
              refine lv_aload_n hx hb dm_Model_rest_80 rfl (lv_at hl 5 rfl) ?_
              refine lv_iload_n hx hb dm_Model_rest_81 rfl (lv_at hl 6 rfl) ?_
              refine lv_iload hx hb dm_Model_rest_82 (lv_at hl 2 rfl) ?_
              refine lv_iload_n hx hb dm_Model_rest_84 rfl (lv_at hl 4 rfl) ?_
              refine wn_isub S (by omega) dm_Model_rest_85 ?_
              rw [Nat.add_sub_cancel]
              refine lv_iload hx hb dm_Model_rest_86 (lv_at hl 0 rfl) ?_
              refine wn_iadd S dm_Model_rest_88 ?_
              refine lv_aload_n hx hb dm_Model_rest_89 rfl (lv_at hl 5 rfl) ?_
              refine lv_iload_n hx hb dm_Model_rest_90 rfl (lv_at hl 6 rfl) ?_
              refine lv_iload hx hb dm_Model_rest_91 (lv_at hl 2 rfl) ?_
              refine lv_iload_n hx hb dm_Model_rest_93 rfl (lv_at hl 4 rfl) ?_
              refine wn_isub S (by omega) dm_Model_rest_94 ?_
              rw [Nat.add_sub_cancel]
              refine lv_iload hx hb dm_Model_rest_95 (lv_at hl 0 rfl) ?_
              refine wn_iadd S dm_Model_rest_97 ?_
              refine pw_callVI (rest := [.int (nI ((q9) + (j))), .int (nI (a)), .ref (g (149))]) S hW (mm_Model_get l D k g (st_rw (st_rw σ2 (300 + a) (lp_row P L (σ (300 + b)) (P - q) q9 j)) (300 + 32) (va_up O q9 q)) (s0 := a) (n := (q9) + (j)) (by omega) (by omega)) (cv_Model_31 S.1.2.2.2.2 ⟨by decide, by decide⟩) (by decide) en_Model rfl rfl hl.1 rfl (lv_room (Nat.le_of_ble_eq_true rfl)) ⟨Nat.zero_le _, Nat.zero_le _⟩ dm_Model_rest_98 (fun r σ1 H locs hp hW => ?_)
              obtain ⟨hr, hp⟩ := hp
              rw [hp] at hW
              subst hr
              rw [qa]
              refine wn_i2l S (by omega) dm_Model_rest_101 ?_
              refine lv_aload_n hx hb dm_Model_rest_102 rfl (lv_at hl 5 rfl) ?_
              refine md_p S hW (wa_in 561 (by decide +kernel) rfl) dm_Model_rest_103 ?_
              rw [qp]
              refine lv_iload hx hb dm_Model_rest_106 (lv_at hl 1 rfl) ?_
              refine wn_isub S (by omega) dm_Model_rest_108 ?_
              refine wn_i2l S (by omega) dm_Model_rest_109 ?_
              refine lv_aload_n hx hb dm_Model_rest_110 rfl (lv_at hl 5 rfl) ?_
              refine lv_iload_n hx hb dm_Model_rest_111 rfl (lv_at hl 7 rfl) ?_
              refine lv_iload hx hb dm_Model_rest_112 (lv_at hl 0 rfl) ?_
              refine pw_callVI (rest := [.long (lN ((P) - (q))), .long (lN ((lp_row P L (σ (300 + b)) (P - q) q9 j) ((q9) + (j)))), .int (nI ((q9) + (j))), .int (nI (a)), .ref (g (149))]) S hW (mm_Model_get l D k g (st_rw (st_rw σ2 (300 + a) (lp_row P L (σ (300 + b)) (P - q) q9 j)) (300 + 32) (va_up O q9 q)) (s0 := b) (n := j) (by omega) (by omega)) (cv_Model_31 S.1.2.2.2.2 ⟨by decide, by decide⟩) (by decide) en_Model rfl rfl hl.1 rfl (lv_room (Nat.le_of_ble_eq_true rfl)) ⟨Nat.zero_le _, Nat.zero_le _⟩ dm_Model_rest_114 (fun r σ1 H locs hp hW => ?_)
              obtain ⟨hr, hp⟩ := hp
              rw [hp] at hW
              subst hr
              rw [qb]
              refine wn_i2l S (by omega) dm_Model_rest_117 ?_
              refine wn_lmul S dm_Model_rest_118 ?_
              refine wn_ladd S dm_Model_rest_119 ?_
              refine lv_aload_n hx hb dm_Model_rest_120 rfl (lv_at hl 5 rfl) ?_
              refine md_p S hW (wa_in 561 (by decide +kernel) rfl) dm_Model_rest_121 ?_
              rw [qp]
              refine wn_i2l S (by omega) dm_Model_rest_124 ?_
              refine wn_lrem S (by omega) (by omega) (by omega) dm_Model_rest_125 ?_
              refine wn_l2i S dm_Model_rest_126 ?_
              refine pw_callV (rest := []) S hW (mm_Model_put l D k g (st_rw (st_rw σ2 (300 + a) (lp_row P L (σ (300 + b)) (P - q) q9 j)) (300 + 32) (va_up O q9 q)) (s0 := a) (n := (q9) + (j)) (v := (((lp_row P L (σ (300 + b)) (P - q) q9 j) ((q9) + (j))) + (((P) - (q)) * (σ (300 + b) (j)))) % (P)) (by omega) (by omega)) (cv_Model_34 S.1.2.2.2.2 ⟨by decide, by decide⟩) (by decide) en_Model rfl rfl hl.1 rfl (lv_room (Nat.le_of_ble_eq_true rfl)) ⟨Nat.zero_le _, Nat.zero_le _⟩ dm_Model_rest_127 (fun σ1 H locs hp hW => ?_)
              rw [hp] at hW
              refine lv_iinc (k := 0) (v := nI (j + 1)) hx hb dm_Model_rest_130 hl rfl (by rw [show Int32.ofInt 1 = nI 1 from rfl, nI_add]) (by decide) rfl (fun ls hl => ?_)
              have hl : lv_has ls 8 [(7, .int (nI (j + 1))), (6, .int (nI (q))), (5, .int (nI (q9 + n))), (4, .int (nI (sp_inv P (σ (300 + b) n)))), (3, .int (nI (n))), (0, .ref (g (149))), (1, .int (nI (a))), (2, .int (nI (b)))] := hl
              refine lv_goto (tgt := 74) hx hb dm_Model_rest_133 (by decide) ?_
              rw [st_up_rw (by omega), st_rw_up, ← lp_row_s] at hW
              exact ihj (j + 1) (by omega) ls _ _ hl hW
        refine inner (n + 1) 0 (by omega) ls _ _ hl ?_
        rw [lp_row_0]
        exact hW
  by_cases hcnt : n ≤ sp_sz (σ (300 + a)) 31
  · refine loop (sp_sz (σ (300 + a)) 31 + 1 - sp_sz (σ (300 + b)) 31) (σ (300 + a)) (fun _ => 0) (by omega) (fun i => md_lt hw ha i) (fun _ => hp0) hdv ls _ _ ?_ ?_
    · rw [show sp_sz (σ (300 + a)) 31 + 1 - sp_sz (σ (300 + b)) 31 + n = sp_sz (σ (300 + a)) 31 by omega]
      exact hl
    · rw [hX0]
      exact hW
  · refine lv_iload hx hb dm_Model_rest_38 (lv_at hl 0 rfl) ?_
    refine lv_iload_n hx hb dm_Model_rest_40 rfl (lv_at hl 2 rfl) ?_
    refine wi_icmp_lt (tgt := 142) S (sd_T (by omega)) (nn_T (by omega)) dm_Model_rest_41 (by decide) (fun hc => ?_) (fun hc => ?_)
    · refine fin (σ (300 + a)) (fun _ => 0) ?_ ls _ _ ?_
      · rw [← hdv, show sp_sz (σ (300 + a)) 31 + 1 - sp_sz (σ (300 + b)) 31 = 0 by omega]
        rfl
      · rw [hX0]
        exact hW
    · exfalso
      omega
theorem dm_Model_monic_0 : decode bm_Model_monic 0 = .ok (.aload_n 0, 1) := by decide +kernel
theorem dm_Model_monic_1 : decode bm_Model_monic 1 = .ok (.iload_n 1, 1) := by decide +kernel
theorem dm_Model_monic_2 : decode bm_Model_monic 2 = .ok (.invokevirtual 42, 3) := by decide +kernel
theorem dm_Model_monic_5 : decode bm_Model_monic 5 = .ok (.istore_n 2, 1) := by decide +kernel
theorem dm_Model_monic_6 : decode bm_Model_monic 6 = .ok (.iload_n 2, 1) := by decide +kernel
theorem dm_Model_monic_7 : decode bm_Model_monic 7 = .ok (.ifCond .ge 7, 3) := by decide +kernel
theorem dm_Model_monic_10 : decode bm_Model_monic 10 = .ok (.iconst 0, 1) := by decide +kernel
theorem dm_Model_monic_11 : decode bm_Model_monic 11 = .ok (.goto 19, 3) := by decide +kernel
theorem dm_Model_monic_14 : decode bm_Model_monic 14 = .ok (.aload_n 0, 1) := by decide +kernel
theorem dm_Model_monic_15 : decode bm_Model_monic 15 = .ok (.aload_n 0, 1) := by decide +kernel
theorem dm_Model_monic_16 : decode bm_Model_monic 16 = .ok (.iload_n 1, 1) := by decide +kernel
theorem dm_Model_monic_17 : decode bm_Model_monic 17 = .ok (.iload_n 2, 1) := by decide +kernel
theorem dm_Model_monic_18 : decode bm_Model_monic 18 = .ok (.invokevirtual 31, 3) := by decide +kernel
theorem dm_Model_monic_21 : decode bm_Model_monic 21 = .ok (.aload_n 0, 1) := by decide +kernel
theorem dm_Model_monic_22 : decode bm_Model_monic 22 = .ok (.getfield 23, 3) := by decide +kernel
theorem dm_Model_monic_25 : decode bm_Model_monic 25 = .ok (.iconst 2, 1) := by decide +kernel
theorem dm_Model_monic_26 : decode bm_Model_monic 26 = .ok (.isub, 1) := by decide +kernel
theorem dm_Model_monic_27 : decode bm_Model_monic 27 = .ok (.invokevirtual 46, 3) := by decide +kernel
theorem dm_Model_monic_30 : decode bm_Model_monic 30 = .ok (.istore_n 3, 1) := by decide +kernel
theorem dm_Model_monic_31 : decode bm_Model_monic 31 = .ok (.iconst 0, 1) := by decide +kernel
theorem dm_Model_monic_32 : decode bm_Model_monic 32 = .ok (.istore 4, 2) := by decide +kernel
theorem dm_Model_monic_34 : decode bm_Model_monic 34 = .ok (.iload 4, 2) := by decide +kernel
theorem dm_Model_monic_36 : decode bm_Model_monic 36 = .ok (.iload_n 2, 1) := by decide +kernel
theorem dm_Model_monic_37 : decode bm_Model_monic 37 = .ok (.if_icmp .gt 28, 3) := by decide +kernel
theorem dm_Model_monic_40 : decode bm_Model_monic 40 = .ok (.aload_n 0, 1) := by decide +kernel
theorem dm_Model_monic_41 : decode bm_Model_monic 41 = .ok (.iload_n 1, 1) := by decide +kernel
theorem dm_Model_monic_42 : decode bm_Model_monic 42 = .ok (.iload 4, 2) := by decide +kernel
theorem dm_Model_monic_44 : decode bm_Model_monic 44 = .ok (.aload_n 0, 1) := by decide +kernel
theorem dm_Model_monic_45 : decode bm_Model_monic 45 = .ok (.aload_n 0, 1) := by decide +kernel
theorem dm_Model_monic_46 : decode bm_Model_monic 46 = .ok (.iload_n 1, 1) := by decide +kernel
theorem dm_Model_monic_47 : decode bm_Model_monic 47 = .ok (.iload 4, 2) := by decide +kernel
theorem dm_Model_monic_49 : decode bm_Model_monic 49 = .ok (.invokevirtual 31, 3) := by decide +kernel
theorem dm_Model_monic_52 : decode bm_Model_monic 52 = .ok (.iload_n 3, 1) := by decide +kernel
theorem dm_Model_monic_53 : decode bm_Model_monic 53 = .ok (.invokevirtual 27, 3) := by decide +kernel
theorem dm_Model_monic_56 : decode bm_Model_monic 56 = .ok (.invokevirtual 34, 3) := by decide +kernel
theorem dm_Model_monic_59 : decode bm_Model_monic 59 = .ok (.iinc 4 1, 3) := by decide +kernel
theorem dm_Model_monic_62 : decode bm_Model_monic 62 = .ok (.goto (-28), 3) := by decide +kernel
theorem dm_Model_monic_65 : decode bm_Model_monic 65 = .ok (.return_, 1) := by decide +kernel
set_option maxHeartbeats 4000000 in
set_option maxRecDepth 100000 in
theorem mm_Model_monic (l : Launch) (D : va_G) (k : ClassId × ClassId × ClassId) (g : Nat → Nat) (σ : st_T) {P s0 : Nat} (hw : md_wf P σ) (hP : ag_pr P) (hP31 : P < 2147483648) (hs : s0 < 33) : mt_V l D k g ym_Model_monic wm_Model_monic rm_Model_monic [.ref (g 149), .int (nI s0)] σ (fun σ1 => md_wf P σ1 ∧ σ1 (300 + s0) = sp_mon P (σ (300 + s0)) ∧ md_sm [300 + s0] σ σ1) := by
  refine ct_V_in (cc := bm_Model_monic) (maxL := 5) (by decide) rfl (Nat.le_of_ble_eq_true rfl) ?_
  intro p e s m args below meth c A ls Q S hl hW hret
  have S : pw_S p m c bm_Model_monic 5 s args wa_g rc_Model D cl_s (ty_s k) := S
  have hx := S.1.1
  have hb := S.1.2.1
  have hl : lv_has ls 5 [(0, .ref (g (149))), (1, .int (nI (s0)))] := hl
  have hP2 := hP.1
  have hp0 : 0 < P := by omega
  have zs := sp_sz_le (σ (300 + s0)) 31
  refine lv_aload_n hx hb dm_Model_monic_0 rfl (lv_at hl 0 rfl) ?_
  refine lv_iload_n hx hb dm_Model_monic_1 rfl (lv_at hl 1 rfl) ?_
  refine pw_callVI (rest := []) S hW (mm_Model_degree l D k g σ (s0 := s0) (by omega) (P := P) (hw.2 s0 hs) hP31) (cv_Model_42 S.1.2.2.2.2 ⟨by decide, by decide⟩) (by decide) en_Model rfl rfl hl.1 rfl (lv_room (Nat.le_of_ble_eq_true rfl)) ⟨Nat.zero_le _, Nat.zero_le _⟩ dm_Model_monic_2 (fun r σ1 H locs hp hW => ?_)
  obtain ⟨hr, hp⟩ := hp
  rw [hp] at hW
  subst hr
  refine lv_istore_n hx hb dm_Model_monic_5 rfl hl (by decide) rfl (fun ls hl => ?_)
  have hl : lv_has ls 5 [(2, .int (sd_i (sp_sz (σ (300 + s0)) 31))), (0, .ref (g (149))), (1, .int (nI (s0)))] := hl
  refine lv_iload_n hx hb dm_Model_monic_6 rfl (lv_at hl 0 rfl) ?_
  refine wi_if_ge (tgt := 14) S (sd_T (by omega)) dm_Model_monic_7 (by decide) (fun hc => ?_) (fun hc => ?_)
  · obtain ⟨n, hn⟩ : ∃ n, sp_sz (σ (300 + s0)) 31 = n + 1 := ⟨sp_sz (σ (300 + s0)) 31 - 1, by omega⟩
    rw [hn, sd_s] at hl
    have hlt := md_lt hw hs n
    have hl : lv_has ls 5 [(2, .int (nI (n))), (0, .ref (g (149))), (1, .int (nI (s0)))] := hl
    refine lv_aload_n hx hb dm_Model_monic_14 rfl (lv_at hl 1 rfl) ?_
    refine lv_aload_n hx hb dm_Model_monic_15 rfl (lv_at hl 1 rfl) ?_
    refine lv_iload_n hx hb dm_Model_monic_16 rfl (lv_at hl 2 rfl) ?_
    refine lv_iload_n hx hb dm_Model_monic_17 rfl (lv_at hl 0 rfl) ?_
    refine pw_callVI (rest := [.ref (g (149))]) S hW (mm_Model_get l D k g σ (s0 := s0) (n := n) (by omega) (by omega)) (cv_Model_31 S.1.2.2.2.2 ⟨by decide, by decide⟩) (by decide) en_Model rfl rfl hl.1 rfl (lv_room (Nat.le_of_ble_eq_true rfl)) ⟨Nat.zero_le _, Nat.zero_le _⟩ dm_Model_monic_18 (fun r σ1 H locs hp hW => ?_)
    obtain ⟨hr, hp⟩ := hp
    rw [hp] at hW
    subst hr
    refine lv_aload_n hx hb dm_Model_monic_21 rfl (lv_at hl 1 rfl) ?_
    refine md_p S hW (wa_in 561 (by decide +kernel) rfl) dm_Model_monic_22 ?_
    rw [hw.1]
    refine lv_iconst (v := nI (2)) hx hb dm_Model_monic_25 (by decide) ?_
    refine wn_isub S (by omega) dm_Model_monic_26 ?_
    refine pw_callVI (rest := []) S hW (mm_Model_raise l D k g σ (P := P) hw.1 hp0 hP31 (a := σ (300 + s0) n) (n0 := P - 2) (by omega) (by omega)) (cv_Model_46 S.1.2.2.2.2 ⟨by decide, by decide⟩) (by decide) en_Model rfl rfl hl.1 rfl (lv_room (Nat.le_of_ble_eq_true rfl)) ⟨Nat.zero_le _, Nat.zero_le _⟩ dm_Model_monic_27 (fun r σ1 H locs hp hW => ?_)
    obtain ⟨hr, hp⟩ := hp
    rw [hp] at hW
    subst hr
    rw [show σ (300 + s0) n ^ (P - 2) % P = sp_inv P (σ (300 + s0) n) from rfl]
    have hivl : sp_inv P (σ (300 + s0) n) < P := Nat.mod_lt _ hp0
    refine lv_istore_n hx hb dm_Model_monic_30 rfl hl (by decide) rfl (fun ls hl => ?_)
    have hl : lv_has ls 5 [(3, .int (nI (sp_inv P (σ (300 + s0) n)))), (2, .int (nI (n))), (0, .ref (g (149))), (1, .int (nI (s0)))] := hl
    refine lv_iconst (v := nI (0)) hx hb dm_Model_monic_31 (by decide) ?_
    refine lv_istore hx hb dm_Model_monic_32 hl (by decide) rfl (fun ls hl => ?_)
    have hl : lv_has ls 5 [(4, .int (nI (0))), (3, .int (nI (sp_inv P (σ (300 + s0) n)))), (2, .int (nI (n))), (0, .ref (g (149))), (1, .int (nI (s0)))] := hl
    have hl : lv_has ls 5 [(4, .int (nI (0))), (3, .int (nI (sp_inv P (σ (300 + s0) n)))), (2, .int (nI (n))), (0, .ref (g (149))), (1, .int (nI (s0)))] := lv_sub hl [0, 1, 2, 3, 4] rfl
    have loop : ∀ d i, i + d = n + 1 → ∀ (ls : Array Slot) (H : Heap) (locs : List Loc), lv_has ls 5 [(4, .int (nI (i))), (3, .int (nI (sp_inv P (σ (300 + s0) n)))), (2, .int (nI (n))), (0, .ref (g (149))), (1, .int (nI (s0)))] → pw_H D cl_s A s.heap g 153 (en_s k g (st_cp σ (300 + s0) i (sp_sc P (σ (300 + s0)) (sp_inv P (σ (300 + s0) n))))) H locs → W p l e rm_Model_monic s m args below meth c H locs 0 0 Q (F0 m 34 ls []) := by
      intro d
      induction d with
      | zero =>
        intro i hi ls H locs hl hW
        refine lv_iload hx hb dm_Model_monic_34 (lv_at hl 0 rfl) ?_
        refine lv_iload_n hx hb dm_Model_monic_36 rfl (lv_at hl 2 rfl) ?_
        refine wi_icmp_gt (tgt := 65) S (nn_T (by omega)) (nn_T (by omega)) dm_Model_monic_37 (by decide) (fun hc => ?_) (fun hc => ?_)
        · have hi : i = n + 1 := by omega
          subst hi
          have hfo : sp_ok P (sp_sc P (σ (300 + s0)) (sp_inv P (σ (300 + s0) n))) := sp_sc_ok hp0 (hw.2 s0 hs) _
          have hall : st_cp σ (300 + s0) (n + 1) (sp_sc P (σ (300 + s0)) (sp_inv P (σ (300 + s0) n))) (300 + s0) = sp_sc P (σ (300 + s0)) (sp_inv P (σ (300 + s0) n)) := funext (fun b => by
            unfold st_cp
            rw [if_pos rfl]
            by_cases hb9 : b < n + 1
            · rw [if_pos hb9]
            · rw [if_neg hb9]
              show σ (300 + s0) b = σ (300 + s0) b * _ % P
              rw [sp_hi (hw.2 s0 hs) (by omega), Nat.zero_mul, Nat.zero_mod])
          exact hret _ _ _ _ _ dm_Model_monic_65 ⟨md_wf_rw (s := s0) hw (fun a ha => st_cp_row ha) (by rw [hall]; exact hfo), by rw [hall]; unfold sp_mon; rw [if_neg (by omega), hn]; rfl, fun a ha => st_cp_row (fun z => ha (by rw [z]; exact List.mem_singleton.mpr rfl))⟩ hW
        · exfalso
          omega
      | succ d ih =>
        intro i hi ls H locs hl hW
        refine lv_iload hx hb dm_Model_monic_34 (lv_at hl 0 rfl) ?_
        refine lv_iload_n hx hb dm_Model_monic_36 rfl (lv_at hl 2 rfl) ?_
        refine wi_icmp_gt (tgt := 65) S (nn_T (by omega)) (nn_T (by omega)) dm_Model_monic_37 (by decide) (fun hc => ?_) (fun hc => ?_)
        · exfalso
          omega
        · have e1 := md_lt hw hs i
          refine lv_aload_n hx hb dm_Model_monic_40 rfl (lv_at hl 3 rfl) ?_
          refine lv_iload_n hx hb dm_Model_monic_41 rfl (lv_at hl 4 rfl) ?_
          refine lv_iload hx hb dm_Model_monic_42 (lv_at hl 0 rfl) ?_
          refine lv_aload_n hx hb dm_Model_monic_44 rfl (lv_at hl 3 rfl) ?_
          refine lv_aload_n hx hb dm_Model_monic_45 rfl (lv_at hl 3 rfl) ?_
          refine lv_iload_n hx hb dm_Model_monic_46 rfl (lv_at hl 4 rfl) ?_
          refine lv_iload hx hb dm_Model_monic_47 (lv_at hl 0 rfl) ?_
          refine pw_callVI (rest := [.ref (g (149)), .int (nI (i)), .int (nI (s0)), .ref (g (149))]) S hW (mm_Model_get l D k g (st_cp σ (300 + s0) i (sp_sc P (σ (300 + s0)) (sp_inv P (σ (300 + s0) n)))) (s0 := s0) (n := i) (by omega) (by omega)) (cv_Model_31 S.1.2.2.2.2 ⟨by decide, by decide⟩) (by decide) en_Model rfl rfl hl.1 rfl (lv_room (Nat.le_of_ble_eq_true rfl)) ⟨Nat.zero_le _, Nat.zero_le _⟩ dm_Model_monic_49 (fun r σ1 H locs hp hW => ?_)
          obtain ⟨hr, hp⟩ := hp
          rw [hp] at hW
          subst hr
          rw [st_cp_rd (by omega)]
          refine lv_iload_n hx hb dm_Model_monic_52 rfl (lv_at hl 1 rfl) ?_
          refine pw_callVI (rest := [.int (nI (i)), .int (nI (s0)), .ref (g (149))]) S hW (mm_Model_times2 l D k g (st_cp σ (300 + s0) i (sp_sc P (σ (300 + s0)) (sp_inv P (σ (300 + s0) n)))) (P := P) (by rw [st_cp_row (by omega)]; exact hw.1) (by omega) (by omega) (a := σ (300 + s0) (i)) (b := sp_inv P (σ (300 + s0) n)) (by omega) (by omega)) (cv_Model_27 S.1.2.2.2.2 ⟨by decide, by decide⟩) (by decide) en_Model rfl rfl hl.1 rfl (lv_room (Nat.le_of_ble_eq_true rfl)) ⟨Nat.zero_le _, Nat.zero_le _⟩ dm_Model_monic_53 (fun r σ1 H locs hp hW => ?_)
          obtain ⟨hr, hp⟩ := hp
          rw [hp] at hW
          subst hr
          refine pw_callV (rest := []) S hW (mm_Model_put l D k g (st_cp σ (300 + s0) i (sp_sc P (σ (300 + s0)) (sp_inv P (σ (300 + s0) n)))) (s0 := s0) (n := i) (v := (σ (300 + s0) (i)) * (sp_inv P (σ (300 + s0) n)) % P) (by omega) (by omega)) (cv_Model_34 S.1.2.2.2.2 ⟨by decide, by decide⟩) (by decide) en_Model rfl rfl hl.1 rfl (lv_room (Nat.le_of_ble_eq_true rfl)) ⟨Nat.zero_le _, Nat.zero_le _⟩ dm_Model_monic_56 (fun σ1 H locs hp hW => ?_)
          rw [hp] at hW
          refine lv_iinc (k := 0) (v := nI (i + 1)) hx hb dm_Model_monic_59 hl rfl (by rw [show Int32.ofInt 1 = nI 1 from rfl, nI_add]) (by decide) rfl (fun ls hl => ?_)
          have hl : lv_has ls 5 [(4, .int (nI (i + 1))), (3, .int (nI (sp_inv P (σ (300 + s0) n)))), (2, .int (nI (n))), (0, .ref (g (149))), (1, .int (nI (s0)))] := hl
          refine lv_goto (tgt := 34) hx hb dm_Model_monic_62 (by decide) ?_
          exact ih (i + 1) (by omega) ls _ _ hl (by rw [← st_cp_s σ (300 + s0) i (sp_sc P (σ (300 + s0)) (sp_inv P (σ (300 + s0) n))) rfl]; exact hW)
    exact loop (n + 1) 0 (by omega) ls _ _ hl (by rw [st_cp_0]; exact hW)
  · refine lv_iconst (v := nI (0)) hx hb dm_Model_monic_10 (by decide) ?_
    refine lv_goto (tgt := 30) hx hb dm_Model_monic_11 (by decide) ?_
    refine lv_istore_n hx hb dm_Model_monic_30 rfl hl (by decide) rfl (fun ls hl => ?_)
    have hl : lv_has ls 5 [(3, .int (nI (0))), (2, .int (sd_i (sp_sz (σ (300 + s0)) 31))), (0, .ref (g (149))), (1, .int (nI (s0)))] := hl
    refine lv_iconst (v := nI (0)) hx hb dm_Model_monic_31 (by decide) ?_
    refine lv_istore hx hb dm_Model_monic_32 hl (by decide) rfl (fun ls hl => ?_)
    have hl : lv_has ls 5 [(4, .int (nI (0))), (3, .int (nI (0))), (2, .int (sd_i (sp_sz (σ (300 + s0)) 31))), (0, .ref (g (149))), (1, .int (nI (s0)))] := hl
    refine lv_iload hx hb dm_Model_monic_34 (lv_at hl 0 rfl) ?_
    refine lv_iload_n hx hb dm_Model_monic_36 rfl (lv_at hl 2 rfl) ?_
    refine wi_icmp_gt (tgt := 65) S (nn_T (by omega)) (sd_T (by omega)) dm_Model_monic_37 (by decide) (fun hc => ?_) (fun hc => ?_)
    · exact hret _ _ _ _ _ dm_Model_monic_65 ⟨hw, by unfold sp_mon; rw [if_pos (by omega)], md_sm_rf _ _⟩ hW
    · exfalso
      omega
