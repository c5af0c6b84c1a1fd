/-! Ring: commonInto -/
theorem dm_Ring_commonInto_0 : decode bm_Ring_commonInto 0 = .ok (.aload_n 0, 1) := by decide +kernel
theorem dm_Ring_commonInto_1 : decode bm_Ring_commonInto 1 = .ok (.getfield 24, 3) := by decide +kernel
theorem dm_Ring_commonInto_4 : decode bm_Ring_commonInto 4 = .ok (.astore 4, 2) := by decide +kernel
theorem dm_Ring_commonInto_6 : decode bm_Ring_commonInto 6 = .ok (.aload_n 0, 1) := by decide +kernel
theorem dm_Ring_commonInto_7 : decode bm_Ring_commonInto 7 = .ok (.getfield 27, 3) := by decide +kernel
theorem dm_Ring_commonInto_10 : decode bm_Ring_commonInto 10 = .ok (.astore 5, 2) := by decide +kernel
theorem dm_Ring_commonInto_12 : decode bm_Ring_commonInto 12 = .ok (.aload 4, 2) := by decide +kernel
theorem dm_Ring_commonInto_14 : decode bm_Ring_commonInto 14 = .ok (.aload_n 2, 1) := by decide +kernel
theorem dm_Ring_commonInto_15 : decode bm_Ring_commonInto 15 = .ok (.invokevirtual 76, 3) := by decide +kernel
theorem dm_Ring_commonInto_18 : decode bm_Ring_commonInto 18 = .ok (.aload 5, 2) := by decide +kernel
theorem dm_Ring_commonInto_20 : decode bm_Ring_commonInto 20 = .ok (.aload_n 3, 1) := by decide +kernel
theorem dm_Ring_commonInto_21 : decode bm_Ring_commonInto 21 = .ok (.invokevirtual 76, 3) := by decide +kernel
theorem dm_Ring_commonInto_24 : decode bm_Ring_commonInto 24 = .ok (.iconst 0, 1) := by decide +kernel
theorem dm_Ring_commonInto_25 : decode bm_Ring_commonInto 25 = .ok (.istore 6, 2) := by decide +kernel
theorem dm_Ring_commonInto_27 : decode bm_Ring_commonInto 27 = .ok (.iload 6, 2) := by decide +kernel
theorem dm_Ring_commonInto_29 : decode bm_Ring_commonInto 29 = .ok (.bipush 31, 2) := by decide +kernel
theorem dm_Ring_commonInto_31 : decode bm_Ring_commonInto 31 = .ok (.if_icmp .gt 39, 3) := by decide +kernel
theorem dm_Ring_commonInto_34 : decode bm_Ring_commonInto 34 = .ok (.aload 5, 2) := by decide +kernel
theorem dm_Ring_commonInto_36 : decode bm_Ring_commonInto 36 = .ok (.invokevirtual 53, 3) := by decide +kernel
theorem dm_Ring_commonInto_39 : decode bm_Ring_commonInto 39 = .ok (.ifCond .ne 31, 3) := by decide +kernel
theorem dm_Ring_commonInto_42 : decode bm_Ring_commonInto 42 = .ok (.aload_n 0, 1) := by decide +kernel
theorem dm_Ring_commonInto_43 : decode bm_Ring_commonInto 43 = .ok (.aload 4, 2) := by decide +kernel
theorem dm_Ring_commonInto_45 : decode bm_Ring_commonInto 45 = .ok (.aload 4, 2) := by decide +kernel
theorem dm_Ring_commonInto_47 : decode bm_Ring_commonInto 47 = .ok (.aload 5, 2) := by decide +kernel
theorem dm_Ring_commonInto_49 : decode bm_Ring_commonInto 49 = .ok (.invokevirtual 83, 3) := by decide +kernel
theorem dm_Ring_commonInto_52 : decode bm_Ring_commonInto 52 = .ok (.aload 4, 2) := by decide +kernel
theorem dm_Ring_commonInto_54 : decode bm_Ring_commonInto 54 = .ok (.astore 7, 2) := by decide +kernel
theorem dm_Ring_commonInto_56 : decode bm_Ring_commonInto 56 = .ok (.aload 5, 2) := by decide +kernel
theorem dm_Ring_commonInto_58 : decode bm_Ring_commonInto 58 = .ok (.astore 4, 2) := by decide +kernel
theorem dm_Ring_commonInto_60 : decode bm_Ring_commonInto 60 = .ok (.aload 7, 2) := by decide +kernel
theorem dm_Ring_commonInto_62 : decode bm_Ring_commonInto 62 = .ok (.astore 5, 2) := by decide +kernel
theorem dm_Ring_commonInto_64 : decode bm_Ring_commonInto 64 = .ok (.iinc 6 1, 3) := by decide +kernel
theorem dm_Ring_commonInto_67 : decode bm_Ring_commonInto 67 = .ok (.goto (-40), 3) := by decide +kernel
theorem dm_Ring_commonInto_70 : decode bm_Ring_commonInto 70 = .ok (.aload_n 0, 1) := by decide +kernel
theorem dm_Ring_commonInto_71 : decode bm_Ring_commonInto 71 = .ok (.aload 4, 2) := by decide +kernel
theorem dm_Ring_commonInto_73 : decode bm_Ring_commonInto 73 = .ok (.invokevirtual 87, 3) := by decide +kernel
theorem dm_Ring_commonInto_76 : decode bm_Ring_commonInto 76 = .ok (.aload_n 1, 1) := by decide +kernel
theorem dm_Ring_commonInto_77 : decode bm_Ring_commonInto 77 = .ok (.aload 4, 2) := by decide +kernel
theorem dm_Ring_commonInto_79 : decode bm_Ring_commonInto 79 = .ok (.invokevirtual 76, 3) := by decide +kernel
theorem dm_Ring_commonInto_82 : decode bm_Ring_commonInto 82 = .ok (.return_, 1) := by decide +kernel
set_option maxHeartbeats 4000000 in
set_option maxRecDepth 100000 in
theorem mm_Ring_commonInto (l : Launch) (D : va_G) (k : ClassId × ClassId × ClassId) (g : Nat → Nat) (σ : st_T) {P x a b : Nat} (hw : st_wf P σ) (hP : ag_pr P) (hP31 : P < 2147483648) (hx_ : kd_k x = 0) (ha_ : kd_k a = 0) (hb_ : kd_k b = 0) (hb8 : b ≠ 8) : mt_V l D k g ym_Ring_commonInto wm_Ring_commonInto rm_Ring_commonInto [.ref (g 1), .ref (g x), .ref (g a), .ref (g b)] σ (fun σ1 => st_wf P σ1 ∧ σ1 x = sp_gcd P (σ a) (σ b) ∧ st_sm [x, 4, 6, 8, 10] σ σ1) := by
  refine ct_V_in (cc := bm_Ring_commonInto) (maxL := 8) (by decide) rfl (Nat.le_of_ble_eq_true rfl) ?_
  intro p e s m args below meth c A ls Q S hl hW hret
  have S : pw_S p m c bm_Ring_commonInto 8 s args wa_g rc_Ring D cl_s (ty_s k) := S
  have hx := S.1.1
  have hb := S.1.2.1
  have hl : lv_has ls 8 [(0, .ref (g (1))), (1, .ref (g (x))), (2, .ref (g (a))), (3, .ref (g (b)))] := hl
  have hP2 := hP.1
  have kb := kd_po hb_
  have kx := kd_po hx_
  refine lv_aload_n hx hb dm_Ring_commonInto_0 rfl (lv_at hl 0 rfl) ?_
  refine rg_first S hW (wa_in 67 (by decide +kernel) rfl) dm_Ring_commonInto_1 ?_
  refine lv_astore hx hb dm_Ring_commonInto_4 hl (by decide) rfl (fun ls hl => ?_)
  have hl : lv_has ls 8 [(4, .ref (g (8))), (0, .ref (g (1))), (1, .ref (g (x))), (2, .ref (g (a))), (3, .ref (g (b)))] := hl
  refine lv_aload_n hx hb dm_Ring_commonInto_6 rfl (lv_at hl 1 rfl) ?_
  refine rg_second S hW (wa_in 68 (by decide +kernel) rfl) dm_Ring_commonInto_7 ?_
  refine lv_astore hx hb dm_Ring_commonInto_10 hl (by decide) rfl (fun ls hl => ?_)
  have hl : lv_has ls 8 [(5, .ref (g (10))), (4, .ref (g (8))), (0, .ref (g (1))), (1, .ref (g (x))), (2, .ref (g (a))), (3, .ref (g (b)))] := hl
  refine lv_aload hx hb dm_Ring_commonInto_12 (lv_at hl 1 rfl) ?_
  refine lv_aload_n hx hb dm_Ring_commonInto_14 rfl (lv_at hl 4 rfl) ?_
  refine pw_callV (rest := []) S hW (mm_Poly_copyFrom l D k g σ hw ha_ (j := 8) rfl) (cv_Ring_76 S.1.2.2.2.2 ⟨by decide, by decide⟩) (kd_p1 rfl) (en_k0 rfl) rfl rfl hl.1 rfl (lv_room (Nat.le_of_ble_eq_true rfl)) ⟨Nat.zero_le _, Nat.zero_le _⟩ dm_Ring_commonInto_15 (fun σ1 H locs hp hW => ?_)
  rw [hp] at hW
  have w1 : st_wf P (st_po σ 8 (σ a)) := st_wf_po hw (j := 8) rfl (hw.2 a ha_).1
  have e1 : (st_po σ 8 (σ a)) b = σ b := st_po_row hb8 (by omega)
  refine lv_aload hx hb dm_Ring_commonInto_18 (lv_at hl 0 rfl) ?_
  refine lv_aload_n hx hb dm_Ring_commonInto_20 rfl (lv_at hl 5 rfl) ?_
  refine pw_callV (rest := []) S hW (mm_Poly_copyFrom l D k g (st_po σ 8 (σ a)) w1 hb_ (j := 10) rfl) (cv_Ring_76 S.1.2.2.2.2 ⟨by decide, by decide⟩) (kd_p1 rfl) (en_k0 rfl) rfl rfl hl.1 rfl (lv_room (Nat.le_of_ble_eq_true rfl)) ⟨Nat.zero_le _, Nat.zero_le _⟩ dm_Ring_commonInto_21 (fun σ2 H locs hp2 hW => ?_)
  rw [hp2, e1] at hW
  have wZ : st_wf P (st_po (st_po σ 8 (σ a)) 10 (σ b)) := st_wf_po w1 (j := 10) rfl (hw.2 b hb_).1
  refine lv_iconst (v := nI (0)) hx hb dm_Ring_commonInto_24 (by decide) ?_
  refine lv_istore hx hb dm_Ring_commonInto_25 hl (by decide) rfl (fun ls hl => ?_)
  have hl : lv_has ls 8 [(6, .int (nI (0))), (5, .ref (g (10))), (4, .ref (g (8))), (0, .ref (g (1))), (1, .ref (g (x))), (2, .ref (g (a))), (3, .ref (g (b)))] := hl
  have hl : lv_has ls 8 [(6, .int (nI (0))), (4, .ref (g (8))), (5, .ref (g (10))), (0, .ref (g (1))), (1, .ref (g (x)))] := lv_sub hl [0, 2, 1, 3, 4] rfl
  have fin : ∀ (u0 : Nat) (τ : st_T), kd_k u0 = 0 → u0 ∈ [4, 6, 8, 10] → st_wf P τ → st_sm [4, 6, 8, 10] σ τ → τ u0 = sp_gl P 32 (σ a) (σ b) → ∀ (ls : Array Slot) (H : Heap) (locs : List Loc), lv_has ls 8 [(4, .ref (g (u0))), (0, .ref (g (1))), (1, .ref (g (x)))] → pw_H D cl_s A s.heap g 153 (en_s k g (τ)) H locs → W p l e rm_Ring_commonInto s m args below meth c H locs 0 0 Q (F0 m 70 ls []) := by
    intro u0 τ hu hum wτ sτ hG ls H locs hl hW
    refine lv_aload_n hx hb dm_Ring_commonInto_70 rfl (lv_at hl 1 rfl) ?_
    refine lv_aload hx hb dm_Ring_commonInto_71 (lv_at hl 0 rfl) ?_
    refine pw_callV (rest := []) S hW (mm_Ring_makeMonic l D k g τ wτ hP hP31 hu) (cv_Ring_87 S.1.2.2.2.2 ⟨by decide, by decide⟩) (by decide) en_Ring rfl rfl hl.1 rfl (lv_room (Nat.le_of_ble_eq_true rfl)) ⟨Nat.zero_le _, Nat.zero_le _⟩ dm_Ring_commonInto_73 (fun σ1 H locs hp hW => ?_)
    rw [hp] at hW
    have w3 : st_wf P (st_po τ u0 (sp_mon P (τ u0))) := st_wf_po wτ hu (sp_mon_ok hP (wτ.2 u0 hu).1)
    refine lv_aload_n hx hb dm_Ring_commonInto_76 rfl (lv_at hl 2 rfl) ?_
    refine lv_aload hx hb dm_Ring_commonInto_77 (lv_at hl 0 rfl) ?_
    refine pw_callV (rest := []) S hW (mm_Poly_copyFrom l D k g (st_po τ u0 (sp_mon P (τ u0))) w3 hu hx_) (cv_Ring_76 S.1.2.2.2.2 ⟨by decide, by decide⟩) (kd_p1 hx_) (en_k0 hx_) rfl rfl hl.1 rfl (lv_room (Nat.le_of_ble_eq_true rfl)) ⟨Nat.zero_le _, Nat.zero_le _⟩ dm_Ring_commonInto_79 (fun σ3 H locs hp3 hW => ?_)
    rw [hp3, st_po_at] at hW
    exact hret _ _ _ _ _ dm_Ring_commonInto_82 ⟨st_wf_po w3 hx_ (sp_mon_ok hP (wτ.2 u0 hu).1), by rw [st_po_at, hG]; rfl, st_sm_tr (st_sm_tr sτ (st_sm_po _ u0 _) (Z := [4, 6, 8, 10]) (fun _ h => h) (fun a ha => by rw [List.mem_singleton.mp ha]; exact hum)) (st_sm_po _ x _) (by intro a ha; simp only [List.mem_cons, List.not_mem_nil, or_false] at ha ⊢; omega) (by intro a ha; simp only [List.mem_cons, List.not_mem_nil, or_false] at ha ⊢; omega)⟩ hW
  have loop : ∀ (n i u0 v0 : Nat) (τ : st_T), i + n ≤ 31 → (u0 = 8 ∧ v0 = 10 ∨ u0 = 10 ∧ v0 = 8) → sp_sz (τ v0) 31 ≤ n → st_wf P τ → st_sm [4, 6, 8, 10] σ τ → sp_gl P (32 - i) (τ u0) (τ v0) = sp_gl P 32 (σ a) (σ b) → ∀ (ls : Array Slot) (H : Heap) (locs : List Loc), lv_has ls 8 [(6, .int (nI (i))), (4, .ref (g (u0))), (5, .ref (g (v0))), (0, .ref (g (1))), (1, .ref (g (x)))] → pw_H D cl_s A s.heap g 153 (en_s k g (τ)) H locs → W p l e rm_Ring_commonInto s m args below meth c H locs 0 0 Q (F0 m 27 ls []) := by
    intro n
    induction n with
    | zero =>
      intro i u0 v0 τ hi huv hsz wτ sτ hgl ls H locs hl hW
      have hu : kd_k u0 = 0 := by rcases huv with h | h <;> rw [h.1] <;> rfl
      have hv : kd_k v0 = 0 := by rcases huv with h | h <;> rw [h.2] <;> rfl
      have hum : u0 ∈ [4, 6, 8, 10] := by rcases huv with h | h <;> rw [h.1] <;> decide
      have hgs : ∀ F E : Nat → Nat, sp_gl P (32 - i) F E = if sp_sz E 31 = 0 then F else sp_gl P (32 - (i + 1)) E (sp_rest P F E) := fun F E => by
        rw [show 32 - i = 32 - (i + 1) + 1 by omega]
        rfl
      have hsv := (wτ.2 v0 hv).2
      refine lv_iload hx hb dm_Ring_commonInto_27 (lv_at hl 0 rfl) ?_
      refine lv_bipush (v := nI (31)) hx hb dm_Ring_commonInto_29 (by decide) ?_
      refine wi_icmp_gt (tgt := 70) S (nn_T (by omega)) (nn_T (by omega)) dm_Ring_commonInto_31 (by decide) (fun hc => ?_) (fun hc => ?_)
      · exfalso
        omega
      · refine lv_aload hx hb dm_Ring_commonInto_34 (lv_at hl 2 rfl) ?_
        refine pw_callVI (rest := []) S hW (mm_Poly_isZero l D k g τ hv (st_wf_sz wτ hv)) (cv_Ring_53 S.1.2.2.2.2 ⟨by decide, by decide⟩) (kd_p1 hv) (en_k0 hv) rfl rfl hl.1 rfl (lv_room (Nat.le_of_ble_eq_true rfl)) ⟨Nat.zero_le _, Nat.zero_le _⟩ dm_Ring_commonInto_36 (fun r σ1 H locs hp hW => ?_)
        obtain ⟨hr, hp⟩ := hp
        rw [hp] at hW
        subst hr
        by_cases hz : τ 200 v0 = 0
        · rw [if_pos hz]
          refine wi_if_ne (tgt := 70) S (nn_T (by omega)) dm_Ring_commonInto_39 (by decide) (fun hc => ?_) (fun hc => ?_)
          · rw [hgs, if_pos (by omega)] at hgl
            exact fin u0 τ hu hum wτ sτ hgl ls H locs (lv_sub hl [1, 3, 4] rfl) hW
          · exfalso
            omega
        · rw [if_neg hz]
          exfalso
          omega
    | succ n ih =>
      intro i u0 v0 τ hi huv hsz wτ sτ hgl ls H locs hl hW
      have hu : kd_k u0 = 0 := by rcases huv with h | h <;> rw [h.1] <;> rfl
      have hv : kd_k v0 = 0 := by rcases huv with h | h <;> rw [h.2] <;> rfl
      have hum : u0 ∈ [4, 6, 8, 10] := by rcases huv with h | h <;> rw [h.1] <;> decide
      have hgs : ∀ F E : Nat → Nat, sp_gl P (32 - i) F E = if sp_sz E 31 = 0 then F else sp_gl P (32 - (i + 1)) E (sp_rest P F E) := fun F E => by
        rw [show 32 - i = 32 - (i + 1) + 1 by omega]
        rfl
      have hsv := (wτ.2 v0 hv).2
      refine lv_iload hx hb dm_Ring_commonInto_27 (lv_at hl 0 rfl) ?_
      refine lv_bipush (v := nI (31)) hx hb dm_Ring_commonInto_29 (by decide) ?_
      refine wi_icmp_gt (tgt := 70) S (nn_T (by omega)) (nn_T (by omega)) dm_Ring_commonInto_31 (by decide) (fun hc => ?_) (fun hc => ?_)
      · exfalso
        omega
      · refine lv_aload hx hb dm_Ring_commonInto_34 (lv_at hl 2 rfl) ?_
        refine pw_callVI (rest := []) S hW (mm_Poly_isZero l D k g τ hv (st_wf_sz wτ hv)) (cv_Ring_53 S.1.2.2.2.2 ⟨by decide, by decide⟩) (kd_p1 hv) (en_k0 hv) rfl rfl hl.1 rfl (lv_room (Nat.le_of_ble_eq_true rfl)) ⟨Nat.zero_le _, Nat.zero_le _⟩ dm_Ring_commonInto_36 (fun r σ1 H locs hp hW => ?_)
        obtain ⟨hr, hp⟩ := hp
        rw [hp] at hW
        subst hr
        by_cases hz : τ 200 v0 = 0
        · rw [if_pos hz]
          refine wi_if_ne (tgt := 70) S (nn_T (by omega)) dm_Ring_commonInto_39 (by decide) (fun hc => ?_) (fun hc => ?_)
          · rw [hgs, if_pos (by omega)] at hgl
            exact fin u0 τ hu hum wτ sτ hgl ls H locs (lv_sub hl [1, 3, 4] rfl) hW
          · exfalso
            omega
        · rw [if_neg hz]
          refine wi_if_ne (tgt := 70) S (nn_T (by omega)) dm_Ring_commonInto_39 (by decide) (fun hc => ?_) (fun hc => ?_)
          · exfalso
            omega
          · rw [hgs, if_neg (by omega)] at hgl
            refine lv_aload_n hx hb dm_Ring_commonInto_42 rfl (lv_at hl 3 rfl) ?_
            refine lv_aload hx hb dm_Ring_commonInto_43 (lv_at hl 1 rfl) ?_
            refine lv_aload hx hb dm_Ring_commonInto_45 (lv_at hl 1 rfl) ?_
            refine lv_aload hx hb dm_Ring_commonInto_47 (lv_at hl 2 rfl) ?_
            refine pw_callV (rest := []) S hW (mm_Ring_restInto l D k g τ wτ hP hP31 hu hu hv (by omega) (by omega) (by omega) (by omega) (by omega)) (cv_Ring_83 S.1.2.2.2.2 ⟨by decide, by decide⟩) (by decide) en_Ring rfl rfl hl.1 rfl (lv_room (Nat.le_of_ble_eq_true rfl)) ⟨Nat.zero_le _, Nat.zero_le _⟩ dm_Ring_commonInto_49 (fun σ3 H locs hp3 hW => ?_)
            obtain ⟨w3, e3, s3⟩ := hp3
            have ev : σ3 v0 = τ v0 := s3 v0 (by simp only [List.mem_cons, List.not_mem_nil, or_false]; omega) (by omega)
            have hdv := sp_dv_ok hP (wτ.2 u0 hu).1 (wτ.2 v0 hv).1 (by omega)
            refine lv_aload hx hb dm_Ring_commonInto_52 (lv_at hl 1 rfl) ?_
            refine lv_astore hx hb dm_Ring_commonInto_54 hl (by decide) rfl (fun ls hl => ?_)
            have hl : lv_has ls 8 [(7, .ref (g (u0))), (6, .int (nI (i))), (4, .ref (g (u0))), (5, .ref (g (v0))), (0, .ref (g (1))), (1, .ref (g (x)))] := hl
            refine lv_aload hx hb dm_Ring_commonInto_56 (lv_at hl 3 rfl) ?_
            refine lv_astore hx hb dm_Ring_commonInto_58 hl (by decide) rfl (fun ls hl => ?_)
            have hl : lv_has ls 8 [(4, .ref (g (v0))), (7, .ref (g (u0))), (6, .int (nI (i))), (5, .ref (g (v0))), (0, .ref (g (1))), (1, .ref (g (x)))] := hl
            refine lv_aload hx hb dm_Ring_commonInto_60 (lv_at hl 1 rfl) ?_
            refine lv_astore hx hb dm_Ring_commonInto_62 hl (by decide) rfl (fun ls hl => ?_)
            have hl : lv_has ls 8 [(5, .ref (g (u0))), (4, .ref (g (v0))), (7, .ref (g (u0))), (6, .int (nI (i))), (0, .ref (g (1))), (1, .ref (g (x)))] := hl
            refine lv_iinc (k := 3) (v := nI (i + 1)) hx hb dm_Ring_commonInto_64 hl rfl (by rw [show Int32.ofInt 1 = nI 1 from rfl, nI_add]) (by decide) rfl (fun ls hl => ?_)
            have hl : lv_has ls 8 [(6, .int (nI (i + 1))), (5, .ref (g (u0))), (4, .ref (g (v0))), (7, .ref (g (u0))), (0, .ref (g (1))), (1, .ref (g (x)))] := hl
            refine lv_goto (tgt := 27) hx hb dm_Ring_commonInto_67 (by decide) ?_
            have hl : lv_has ls 8 [(6, .int (nI (i + 1))), (4, .ref (g (v0))), (5, .ref (g (u0))), (0, .ref (g (1))), (1, .ref (g (x)))] := lv_sub hl [0, 2, 1, 4, 5] rfl
            refine ih (i + 1) v0 u0 σ3 (by omega) (by omega) ?_ w3 (st_sm_tr sτ s3 (fun _ h => h) (fun a ha => ?_)) ?_ ls H locs hl hW
            · rw [e3]
              have := hdv.2.2.1
              omega
            · simp only [List.mem_cons, List.not_mem_nil, or_false] at ha ⊢
              omega
            · rw [ev, e3]
              exact hgl
  refine loop 31 0 8 10 (st_po (st_po σ 8 (σ a)) 10 (σ b)) (by omega) (Or.inl ⟨rfl, rfl⟩) ?_ wZ ?_ ?_ ls _ _ hl hW
  · exact sp_sz_le _ _
  · exact st_sm_tr (st_sm_po σ 8 _) (st_sm_po _ 10 _) (by decide) (by decide)
  · rw [st_po_at, st_po_row (by decide) (by decide), st_po_at]
