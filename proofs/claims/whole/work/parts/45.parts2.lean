/-! Parts: takeOutFound, makeFrom -/
theorem pl_v_sm {X : List Nat} {τ υ : st_T} (hpl : pl_ok τ) (hs : st_sm X τ υ) (hX : ∀ a ∈ X, a ∉ pt_X) (hc : τ 203 1 ≤ 15) : (pl_ok υ ∧ pl_v υ = pl_v τ) ∧ υ 203 1 = τ 203 1 ∧ υ 203 2 = τ 203 2 ∧ ∀ t, t < τ 203 1 → pv_t υ t = pv_t τ t := by
  have e201 : υ 201 = τ 201 := hs 201 (fun z => hX _ z (by decide)) (by decide)
  have e202 : υ 202 = τ 202 := hs 202 (fun z => hX _ z (by decide)) (by decide)
  have e203 : υ 203 = τ 203 := hs 203 (fun z => hX _ z (by decide)) (by decide)
  have e204 : υ 204 = τ 204 := hs 204 (fun z => hX _ z (by decide)) (by decide)
  have hv : ∀ t, t < τ 203 1 → pv_t υ t = pv_t τ t := fun t ht => by
    have h1 := hpl.1 t (by omega)
    have h2 := kd_pa h1
    unfold pv_t
    rw [e201, e202, e204, hs (τ 204 t + 1) (fun z => hX _ z (List.mem_append_right _ (pt_in h1))) (by omega)]
  refine ⟨⟨?_, ?_⟩, by rw [e203], by rw [e203], hv⟩
  · unfold pl_ok
    rw [e204]
    exact hpl
  · unfold pl_v
    rw [e203]
    exact List.map_congr_left (fun t ht => hv t (List.mem_range.mp ht))
abbrev tk_X : List Nat := [4, 6, 8, 10, 64, 66, 68, 70] ++ pt_X
abbrev mk_X : List Nat := fb_Y ++ ([64, 66, 68, 70] ++ pt_X)
theorem tk_sub : ∀ a ∈ tk_X, a ∈ mk_X := by decide +kernel
theorem tk_fb : ∀ a ∈ tk_X, a ≠ 19 ∧ (a < 32 ∨ 60 < a) := by decide +kernel
noncomputable def mk_l (P : Nat) (f : Nat → Nat) : List pv_T := if 1 < sp_sz (mk_f P 16 1 (sp_mon P f) []).1 31 then pi_in (1, sp_sz (mk_f P 16 1 (sp_mon P f) []).1 31 - 1, (mk_f P 16 1 (sp_mon P f) []).1) (mk_f P 16 1 (sp_mon P f) []).2 else (mk_f P 16 1 (sp_mon P f) []).2
theorem pl_of {σ : st_T} {b : Nat} (h : ∀ t, t < σ 203 1 → (pv_t σ t).1 ≤ b) {τ : st_T} {x : pv_T} (hx : x.1 ≤ b) (e : pl_v τ = pi_in x (pl_v σ)) : ∀ t, t < τ 203 1 → (pv_t τ t).1 ≤ b := fun t ht => by
  have h1 := pl_v_at τ ht
  rw [e] at h1
  rcases pi_in_mem (List.mem_of_getElem? h1) with h2 | h2
  · rw [h2]
    exact hx
  · obtain ⟨s, hs, h3⟩ := List.mem_map.mp h2
    rw [← h3]
    exact h s (List.mem_range.mp hs)
theorem dm_Parts_takeOutFound_0 : decode bm_Parts_takeOutFound 0 = .ok (.iconst 1, 1) := by decide +kernel
theorem dm_Parts_takeOutFound_1 : decode bm_Parts_takeOutFound 1 = .ok (.istore_n 2, 1) := by decide +kernel
theorem dm_Parts_takeOutFound_2 : decode bm_Parts_takeOutFound 2 = .ok (.iload_n 2, 1) := by decide +kernel
theorem dm_Parts_takeOutFound_3 : decode bm_Parts_takeOutFound 3 = .ok (.bipush 15, 2) := by decide +kernel
theorem dm_Parts_takeOutFound_5 : decode bm_Parts_takeOutFound 5 = .ok (.if_icmp .gt 107, 3) := by decide +kernel
theorem dm_Parts_takeOutFound_8 : decode bm_Parts_takeOutFound 8 = .ok (.aload_n 0, 1) := by decide +kernel
theorem dm_Parts_takeOutFound_9 : decode bm_Parts_takeOutFound 9 = .ok (.getfield 24, 3) := by decide +kernel
theorem dm_Parts_takeOutFound_12 : decode bm_Parts_takeOutFound 12 = .ok (.getfield 61, 3) := by decide +kernel
theorem dm_Parts_takeOutFound_15 : decode bm_Parts_takeOutFound 15 = .ok (.ifCond .le 97, 3) := by decide +kernel
theorem dm_Parts_takeOutFound_18 : decode bm_Parts_takeOutFound 18 = .ok (.aload_n 0, 1) := by decide +kernel
theorem dm_Parts_takeOutFound_19 : decode bm_Parts_takeOutFound 19 = .ok (.getfield 33, 3) := by decide +kernel
theorem dm_Parts_takeOutFound_22 : decode bm_Parts_takeOutFound 22 = .ok (.aload_n 0, 1) := by decide +kernel
theorem dm_Parts_takeOutFound_23 : decode bm_Parts_takeOutFound 23 = .ok (.getfield 20, 3) := by decide +kernel
theorem dm_Parts_takeOutFound_26 : decode bm_Parts_takeOutFound 26 = .ok (.aload_n 0, 1) := by decide +kernel
theorem dm_Parts_takeOutFound_27 : decode bm_Parts_takeOutFound 27 = .ok (.getfield 20, 3) := by decide +kernel
theorem dm_Parts_takeOutFound_30 : decode bm_Parts_takeOutFound 30 = .ok (.aload_n 0, 1) := by decide +kernel
theorem dm_Parts_takeOutFound_31 : decode bm_Parts_takeOutFound 31 = .ok (.getfield 24, 3) := by decide +kernel
theorem dm_Parts_takeOutFound_34 : decode bm_Parts_takeOutFound 34 = .ok (.invokevirtual 81, 3) := by decide +kernel
theorem dm_Parts_takeOutFound_37 : decode bm_Parts_takeOutFound 37 = .ok (.aload_n 0, 1) := by decide +kernel
theorem dm_Parts_takeOutFound_38 : decode bm_Parts_takeOutFound 38 = .ok (.getfield 33, 3) := by decide +kernel
theorem dm_Parts_takeOutFound_41 : decode bm_Parts_takeOutFound 41 = .ok (.aload_n 0, 1) := by decide +kernel
theorem dm_Parts_takeOutFound_42 : decode bm_Parts_takeOutFound 42 = .ok (.getfield 27, 3) := by decide +kernel
theorem dm_Parts_takeOutFound_45 : decode bm_Parts_takeOutFound 45 = .ok (.aload_n 0, 1) := by decide +kernel
theorem dm_Parts_takeOutFound_46 : decode bm_Parts_takeOutFound 46 = .ok (.getfield 24, 3) := by decide +kernel
theorem dm_Parts_takeOutFound_49 : decode bm_Parts_takeOutFound 49 = .ok (.aload_n 0, 1) := by decide +kernel
theorem dm_Parts_takeOutFound_50 : decode bm_Parts_takeOutFound 50 = .ok (.getfield 20, 3) := by decide +kernel
theorem dm_Parts_takeOutFound_53 : decode bm_Parts_takeOutFound 53 = .ok (.invokevirtual 85, 3) := by decide +kernel
theorem dm_Parts_takeOutFound_56 : decode bm_Parts_takeOutFound 56 = .ok (.aload_n 0, 1) := by decide +kernel
theorem dm_Parts_takeOutFound_57 : decode bm_Parts_takeOutFound 57 = .ok (.getfield 33, 3) := by decide +kernel
theorem dm_Parts_takeOutFound_60 : decode bm_Parts_takeOutFound 60 = .ok (.aload_n 0, 1) := by decide +kernel
theorem dm_Parts_takeOutFound_61 : decode bm_Parts_takeOutFound 61 = .ok (.getfield 30, 3) := by decide +kernel
theorem dm_Parts_takeOutFound_64 : decode bm_Parts_takeOutFound 64 = .ok (.aload_n 0, 1) := by decide +kernel
theorem dm_Parts_takeOutFound_65 : decode bm_Parts_takeOutFound 65 = .ok (.getfield 24, 3) := by decide +kernel
theorem dm_Parts_takeOutFound_68 : decode bm_Parts_takeOutFound 68 = .ok (.aload_n 0, 1) := by decide +kernel
theorem dm_Parts_takeOutFound_69 : decode bm_Parts_takeOutFound 69 = .ok (.getfield 27, 3) := by decide +kernel
theorem dm_Parts_takeOutFound_72 : decode bm_Parts_takeOutFound 72 = .ok (.invokevirtual 81, 3) := by decide +kernel
theorem dm_Parts_takeOutFound_75 : decode bm_Parts_takeOutFound 75 = .ok (.aload_n 0, 1) := by decide +kernel
theorem dm_Parts_takeOutFound_76 : decode bm_Parts_takeOutFound 76 = .ok (.getfield 30, 3) := by decide +kernel
theorem dm_Parts_takeOutFound_79 : decode bm_Parts_takeOutFound 79 = .ok (.getfield 61, 3) := by decide +kernel
theorem dm_Parts_takeOutFound_82 : decode bm_Parts_takeOutFound 82 = .ok (.ifCond .le 13, 3) := by decide +kernel
theorem dm_Parts_takeOutFound_85 : decode bm_Parts_takeOutFound 85 = .ok (.aload_n 0, 1) := by decide +kernel
theorem dm_Parts_takeOutFound_86 : decode bm_Parts_takeOutFound 86 = .ok (.iload_n 2, 1) := by decide +kernel
theorem dm_Parts_takeOutFound_87 : decode bm_Parts_takeOutFound 87 = .ok (.iload_n 1, 1) := by decide +kernel
theorem dm_Parts_takeOutFound_88 : decode bm_Parts_takeOutFound 88 = .ok (.aload_n 0, 1) := by decide +kernel
theorem dm_Parts_takeOutFound_89 : decode bm_Parts_takeOutFound 89 = .ok (.getfield 30, 3) := by decide +kernel
theorem dm_Parts_takeOutFound_92 : decode bm_Parts_takeOutFound 92 = .ok (.invokevirtual 77, 3) := by decide +kernel
theorem dm_Parts_takeOutFound_95 : decode bm_Parts_takeOutFound 95 = .ok (.aload_n 0, 1) := by decide +kernel
theorem dm_Parts_takeOutFound_96 : decode bm_Parts_takeOutFound 96 = .ok (.getfield 24, 3) := by decide +kernel
theorem dm_Parts_takeOutFound_99 : decode bm_Parts_takeOutFound 99 = .ok (.aload_n 0, 1) := by decide +kernel
theorem dm_Parts_takeOutFound_100 : decode bm_Parts_takeOutFound 100 = .ok (.getfield 27, 3) := by decide +kernel
theorem dm_Parts_takeOutFound_103 : decode bm_Parts_takeOutFound 103 = .ok (.invokevirtual 52, 3) := by decide +kernel
theorem dm_Parts_takeOutFound_106 : decode bm_Parts_takeOutFound 106 = .ok (.iinc 2 1, 3) := by decide +kernel
theorem dm_Parts_takeOutFound_109 : decode bm_Parts_takeOutFound 109 = .ok (.goto (-107), 3) := by decide +kernel
theorem dm_Parts_takeOutFound_112 : decode bm_Parts_takeOutFound 112 = .ok (.return_, 1) := by decide +kernel
set_option maxHeartbeats 4000000 in
set_option maxRecDepth 100000 in
theorem mm_Parts_takeOutFound (l : Launch) (D : va_G) (k : ClassId × ClassId × ClassId) (g : Nat → Nat) (σ : st_T) {P d0 : Nat} (hw : st_wf P σ) (hP : ag_pr P) (hP31 : P < 2147483648) (hpl : pl_ok σ) (hC0 : 0 < sp_sz (σ 66) 31) (hA0 : 0 < sp_sz (σ 64) 31) (hdv : pz_I P (pe_f (σ 66)) (pe_f (σ 64))) (hcnt : σ 203 1 + sp_sz (σ 64) 31 ≤ 16) (hoft : ∀ t, t < σ 203 1 → (pv_t σ t).1 ≤ 15) : mt_V l D k g ym_Parts_takeOutFound wm_Parts_takeOutFound rm_Parts_takeOutFound [.ref (g 62), .int (nI d0)] σ (fun σ1 => (st_wf P σ1 ∧ pl_ok σ1) ∧ (σ1 64, pl_v σ1) = tk_f P d0 15 1 (σ 64) (σ 66) (pl_v σ) ∧ σ1 203 1 + sp_sz (σ1 64) 31 ≤ 16 ∧ (∀ t, t < σ1 203 1 → (pv_t σ1 t).1 ≤ 15) ∧ σ1 203 2 = σ 203 2 ∧ st_sm tk_X σ σ1) := by
  refine ct_V_in (cc := bm_Parts_takeOutFound) (maxL := 3) (by decide) rfl (Nat.le_of_ble_eq_true rfl) ?_
  intro p e s m args below meth c A ls Q S hl hW hret
  have S : pw_S p m c bm_Parts_takeOutFound 3 s args wa_g rc_Parts D cl_s (ty_s k) := S
  have hx := S.1.1
  have hb := S.1.2.1
  have hl : lv_has ls 3 [(0, .ref (g (62))), (1, .int (nI (d0)))] := hl
  have hP2 := hP.1
  refine lv_iconst (v := nI (1)) hx hb dm_Parts_takeOutFound_0 (by decide) ?_
  refine lv_istore_n hx hb dm_Parts_takeOutFound_1 rfl hl (by decide) rfl (fun ls hl => ?_)
  have hl : lv_has ls 3 [(2, .int (nI (1))), (0, .ref (g (62))), (1, .int (nI (d0)))] := hl
  have loop : ∀ (n i : Nat) (τ : st_T), i + n = 16 → st_wf P τ → pl_ok τ → 0 < sp_sz (τ 66) 31 → 0 < sp_sz (τ 64) 31 → pz_I P (pe_f (τ 66)) (pe_f (τ 64)) → τ 203 1 + sp_sz (τ 64) 31 ≤ 16 → (∀ t, t < τ 203 1 → (pv_t τ t).1 ≤ 15) → tk_f P d0 n i (τ 64) (τ 66) (pl_v τ) = tk_f P d0 15 1 (σ 64) (σ 66) (pl_v σ) → τ 203 2 = σ 203 2 → st_sm tk_X σ τ → ∀ (ls : Array Slot) (H : Heap) (locs : List Loc), lv_has ls 3 [(2, .int (nI (i))), (0, .ref (g (62))), (1, .int (nI (d0)))] → pw_H D cl_s A s.heap g 153 (en_s k g (τ)) H locs → W p l e rm_Parts_takeOutFound s m args below meth c H locs 0 0 Q (F0 m 2 ls []) := by
    intro n
    induction n with
    | zero =>
      intro i τ hi wτ pτ c0 a0 dτ kτ oτ fτ l2 sτ ls H locs hl hW
      have z66 := (wτ.2 66 rfl).2
      have z64 := (wτ.2 64 rfl).2
      have z31 := sp_sz_le (τ 66) 31
      refine lv_iload_n hx hb dm_Parts_takeOutFound_2 rfl (lv_at hl 0 rfl) ?_
      refine lv_bipush (v := nI (15)) hx hb dm_Parts_takeOutFound_3 (by decide) ?_
      refine wi_icmp_gt (tgt := 112) S (nn_T (by omega)) (nn_T (by omega)) dm_Parts_takeOutFound_5 (by decide) (fun hc => ?_) (fun hc => ?_)
      · exact hret _ _ _ _ _ dm_Parts_takeOutFound_112 ⟨⟨wτ, pτ⟩, fτ, kτ, oτ, l2, sτ⟩ hW
      · exfalso
        omega
    | succ n ih =>
      intro i τ hi wτ pτ c0 a0 dτ kτ oτ fτ l2 sτ ls H locs hl hW
      have z66 := (wτ.2 66 rfl).2
      have z64 := (wτ.2 64 rfl).2
      have z31 := sp_sz_le (τ 66) 31
      refine lv_iload_n hx hb dm_Parts_takeOutFound_2 rfl (lv_at hl 0 rfl) ?_
      refine lv_bipush (v := nI (15)) hx hb dm_Parts_takeOutFound_3 (by decide) ?_
      refine wi_icmp_gt (tgt := 112) S (nn_T (by omega)) (nn_T (by omega)) dm_Parts_takeOutFound_5 (by decide) (fun hc => ?_) (fun hc => ?_)
      · exfalso
        omega
      · refine lv_aload_n hx hb dm_Parts_takeOutFound_8 rfl (lv_at hl 1 rfl) ?_
        refine ps_found S hW (wa_in 184 (by decide +kernel) rfl) dm_Parts_takeOutFound_9 ?_
        refine po_getd S hW rfl (wa_in 50 (by decide +kernel) rfl) dm_Parts_takeOutFound_12 ?_
        refine wi_if_le (tgt := 112) S (sd_T (by omega)) dm_Parts_takeOutFound_15 (by decide) (fun hc => ?_) (fun hc => ?_)
        · rw [tk_s, if_pos (by omega)] at fτ
          exact hret _ _ _ _ _ dm_Parts_takeOutFound_112 ⟨⟨wτ, pτ⟩, fτ, kτ, oτ, l2, sτ⟩ hW
        · rw [tk_s, if_neg (by omega)] at fτ
          obtain ⟨⟨a1, a2, a3, a4⟩, ⟨b1, b2, b3, b4, b5⟩, x1, x2⟩ := tk_it hP (wτ.2 64 rfl).1 (wτ.2 66 rfl).1 c0 a0 dτ
          refine lv_aload_n hx hb dm_Parts_takeOutFound_18 rfl (lv_at hl 1 rfl) ?_
          refine ps_ring S hW (wa_in 176 (by decide +kernel) rfl) dm_Parts_takeOutFound_19 ?_
          refine lv_aload_n hx hb dm_Parts_takeOutFound_22 rfl (lv_at hl 1 rfl) ?_
          refine ps_rest S hW (wa_in 183 (by decide +kernel) rfl) dm_Parts_takeOutFound_23 ?_
          refine lv_aload_n hx hb dm_Parts_takeOutFound_26 rfl (lv_at hl 1 rfl) ?_
          refine ps_rest S hW (wa_in 183 (by decide +kernel) rfl) dm_Parts_takeOutFound_27 ?_
          refine lv_aload_n hx hb dm_Parts_takeOutFound_30 rfl (lv_at hl 1 rfl) ?_
          refine ps_found S hW (wa_in 184 (by decide +kernel) rfl) dm_Parts_takeOutFound_31 ?_
          refine pw_callV (rest := []) S hW (mm_Ring_quotientInto l D k g τ wτ hP hP31 (x := 64) rfl (a := 64) rfl (b := 66) rfl (by decide) (by decide) (by decide) (by decide) (by omega)) (cv_Parts_81 S.1.2.2.2.2 ⟨by decide, by decide⟩) (by decide) en_Ring rfl rfl hl.1 rfl (lv_room (Nat.le_of_ble_eq_true rfl)) ⟨Nat.zero_le _, Nat.zero_le _⟩ dm_Parts_takeOutFound_34 (fun σ2 H locs hp2 hW => ?_)
          obtain ⟨w2, e2, s2⟩ := hp2
          have e266 : σ2 66 = τ 66 := s2 66 (by decide) (by decide)
          refine lv_aload_n hx hb dm_Parts_takeOutFound_37 rfl (lv_at hl 1 rfl) ?_
          refine ps_ring S hW (wa_in 176 (by decide +kernel) rfl) dm_Parts_takeOutFound_38 ?_
          refine lv_aload_n hx hb dm_Parts_takeOutFound_41 rfl (lv_at hl 1 rfl) ?_
          refine ps_again S hW (wa_in 185 (by decide +kernel) rfl) dm_Parts_takeOutFound_42 ?_
          refine lv_aload_n hx hb dm_Parts_takeOutFound_45 rfl (lv_at hl 1 rfl) ?_
          refine ps_found S hW (wa_in 184 (by decide +kernel) rfl) dm_Parts_takeOutFound_46 ?_
          refine lv_aload_n hx hb dm_Parts_takeOutFound_49 rfl (lv_at hl 1 rfl) ?_
          refine ps_rest S hW (wa_in 183 (by decide +kernel) rfl) dm_Parts_takeOutFound_50 ?_
          refine pw_callV (rest := []) S hW (mm_Ring_commonInto l D k g σ2 w2 hP hP31 (x := 68) rfl (a := 66) rfl (b := 64) rfl (by decide)) (cv_Parts_85 S.1.2.2.2.2 ⟨by decide, by decide⟩) (by decide) en_Ring rfl rfl hl.1 rfl (lv_room (Nat.le_of_ble_eq_true rfl)) ⟨Nat.zero_le _, Nat.zero_le _⟩ dm_Parts_takeOutFound_53 (fun σ3 H locs hp3 hW => ?_)
          obtain ⟨w3, e3, s3⟩ := hp3
          rw [e266, e2] at e3
          have e366 : σ3 66 = τ 66 := by rw [s3 66 (by decide) (by decide), e266]
          have e364 : σ3 64 = sp_quo P (τ 64) (τ 66) := by rw [s3 64 (by decide) (by decide), e2]
          have z368 := (w3.2 68 rfl).2
          rw [e3] at z368
          refine lv_aload_n hx hb dm_Parts_takeOutFound_56 rfl (lv_at hl 1 rfl) ?_
          refine ps_ring S hW (wa_in 176 (by decide +kernel) rfl) dm_Parts_takeOutFound_57 ?_
          refine lv_aload_n hx hb dm_Parts_takeOutFound_60 rfl (lv_at hl 1 rfl) ?_
          refine ps_exact S hW (wa_in 186 (by decide +kernel) rfl) dm_Parts_takeOutFound_61 ?_
          refine lv_aload_n hx hb dm_Parts_takeOutFound_64 rfl (lv_at hl 1 rfl) ?_
          refine ps_found S hW (wa_in 184 (by decide +kernel) rfl) dm_Parts_takeOutFound_65 ?_
          refine lv_aload_n hx hb dm_Parts_takeOutFound_68 rfl (lv_at hl 1 rfl) ?_
          refine ps_again S hW (wa_in 185 (by decide +kernel) rfl) dm_Parts_takeOutFound_69 ?_
          refine pw_callV (rest := []) S hW (mm_Ring_quotientInto l D k g σ3 w3 hP hP31 (x := 70) rfl (a := 66) rfl (b := 68) rfl (by decide) (by decide) (by decide) (by decide) (by omega)) (cv_Parts_81 S.1.2.2.2.2 ⟨by decide, by decide⟩) (by decide) en_Ring rfl rfl hl.1 rfl (lv_room (Nat.le_of_ble_eq_true rfl)) ⟨Nat.zero_le _, Nat.zero_le _⟩ dm_Parts_takeOutFound_72 (fun σ4 H locs hp4 hW => ?_)
          obtain ⟨w4, e4, s4⟩ := hp4
          rw [e366, e3] at e4
          have e464 : σ4 64 = sp_quo P (τ 64) (τ 66) := by rw [s4 64 (by decide) (by decide), e364]
          have e468 : σ4 68 = sp_gcd P (τ 66) (sp_quo P (τ 64) (τ 66)) := by rw [s4 68 (by decide) (by decide), e3]
          have s24 : st_sm [4, 6, 8, 10, 64, 66, 68, 70] τ σ4 := st_sm_tr (st_sm_tr s2 s3 (Z := [4, 6, 8, 10, 64, 66, 68, 70]) (by decide) (by decide)) s4 (fun _ h => h) (by decide)
          have hv4 := pl_v_sm pτ s24 (by decide +kernel) (by omega)
          have z470 := (w4.2 70 rfl).2
          rw [e4] at z470
          have z470b := sp_sz_le (sp_quo P (τ 66) (sp_gcd P (τ 66) (sp_quo P (τ 64) (τ 66)))) 31
          have sm4 : st_sm tk_X σ σ4 := st_sm_tr sτ s24 (fun _ h => h) (by decide +kernel)
          have tail : ∀ (υ : st_T), st_wf P υ → pl_ok υ → pl_v υ = (if 1 < sp_sz (sp_quo P (τ 66) (sp_gcd P (τ 66) (sp_quo P (τ 64) (τ 66)))) 31 then pi_in (i, d0, sp_quo P (τ 66) (sp_gcd P (τ 66) (sp_quo P (τ 64) (τ 66)))) (pl_v τ) else pl_v τ) → υ 203 1 ≤ τ 203 1 + 1 → (∀ t, t < υ 203 1 → (pv_t υ t).1 ≤ 15) → υ 203 2 = σ 203 2 → υ 64 = sp_quo P (τ 64) (τ 66) → υ 68 = sp_gcd P (τ 66) (sp_quo P (τ 64) (τ 66)) → st_sm tk_X σ υ → ∀ (ls : Array Slot) (H : Heap) (locs : List Loc), lv_has ls 3 [(2, .int (nI (i))), (0, .ref (g (62))), (1, .int (nI (d0)))] → pw_H D cl_s A s.heap g 153 (en_s k g (υ)) H locs → W p l e rm_Parts_takeOutFound s m args below meth c H locs 0 0 Q (F0 m 95 ls []) := by
            intro υ wυ pυ vυ cυ oυ l2υ u64 u68 sυ ls H locs hl hW
            refine lv_aload_n hx hb dm_Parts_takeOutFound_95 rfl (lv_at hl 1 rfl) ?_
            refine ps_found S hW (wa_in 184 (by decide +kernel) rfl) dm_Parts_takeOutFound_96 ?_
            refine lv_aload_n hx hb dm_Parts_takeOutFound_99 rfl (lv_at hl 1 rfl) ?_
            refine ps_again S hW (wa_in 185 (by decide +kernel) rfl) dm_Parts_takeOutFound_100 ?_
            refine pw_callV (rest := []) S hW (mm_Poly_copyFrom l D k g υ wυ (i := 68) rfl (j := 66) rfl) (cv_Parts_52 S.1.2.2.2.2 ⟨by decide, by decide⟩) (kd_p1 rfl) (en_k0 rfl) rfl rfl hl.1 rfl (lv_room (Nat.le_of_ble_eq_true rfl)) ⟨Nat.zero_le _, Nat.zero_le _⟩ dm_Parts_takeOutFound_103 (fun σ6 H locs hp6 hW => ?_)
            rw [hp6, u68] at hW
            refine lv_iinc (k := 0) (v := nI (i + 1)) hx hb dm_Parts_takeOutFound_106 hl rfl (by rw [show Int32.ofInt 1 = nI 1 from rfl, nI_add]) (by decide) rfl (fun ls hl => ?_)
            have hl : lv_has ls 3 [(2, .int (nI (i + 1))), (0, .ref (g (62))), (1, .int (nI (d0)))] := hl
            refine lv_goto (tgt := 2) hx hb dm_Parts_takeOutFound_109 (by decide) ?_
            have hv6 := pl_v_sm pυ (st_sm_po υ 66 (sp_gcd P (τ 66) (sp_quo P (τ 64) (τ 66)))) (by decide +kernel) (by omega)
            refine ih (i + 1) _ (by omega) (st_wf_po wυ (j := 66) rfl b1) hv6.1.1 ?_ ?_ ?_ ?_ ?_ ?_ ?_ ?_ ls H locs hl hW
            · rw [st_po_at]
              exact b2
            · rw [st_po_row (by decide) (by decide), u64]
              omega
            · rw [st_po_at, st_po_row (by decide) (by decide), u64]
              exact b4
            · rw [hv6.2.1, st_po_row (by decide) (by decide), u64]
              omega
            · intro t ht
              rw [hv6.2.1] at ht
              rw [hv6.2.2.2 t ht]
              exact oυ t ht
            · rw [st_po_at, st_po_row (by decide) (by decide), u64, hv6.1.2, vυ]
              exact fτ
            · rw [hv6.2.2.1, l2υ]
            · exact st_sm_tr sυ (st_sm_po _ 66 _) (fun _ h => h) (by decide +kernel)
          refine lv_aload_n hx hb dm_Parts_takeOutFound_75 rfl (lv_at hl 1 rfl) ?_
          refine ps_exact S hW (wa_in 186 (by decide +kernel) rfl) dm_Parts_takeOutFound_76 ?_
          refine po_getd S hW rfl (wa_in 50 (by decide +kernel) rfl) dm_Parts_takeOutFound_79 ?_
          refine wi_if_le (tgt := 95) S (sd_T (by omega)) dm_Parts_takeOutFound_82 (by decide) (fun hc => ?_) (fun hc => ?_)
          · refine tail σ4 w4 hv4.1.1 (by rw [if_neg (by omega)]; exact hv4.1.2) (by rw [hv4.2.1]; omega) (fun t ht => ?_) (by rw [hv4.2.2.1, l2]) e464 e468 sm4 ls H locs hl hW
            rw [hv4.2.1] at ht
            rw [hv4.2.2.2 t ht]
            exact oτ t ht
          · refine lv_aload_n hx hb dm_Parts_takeOutFound_85 rfl (lv_at hl 1 rfl) ?_
            refine lv_iload_n hx hb dm_Parts_takeOutFound_86 rfl (lv_at hl 0 rfl) ?_
            refine lv_iload_n hx hb dm_Parts_takeOutFound_87 rfl (lv_at hl 2 rfl) ?_
            refine lv_aload_n hx hb dm_Parts_takeOutFound_88 rfl (lv_at hl 1 rfl) ?_
            refine ps_exact S hW (wa_in 186 (by decide +kernel) rfl) dm_Parts_takeOutFound_89 ?_
            refine pw_callV (rest := []) S hW (mm_Parts_insertInOrder l D k g σ4 (o0 := i) (e0 := d0) (y := 70) w4 hv4.1.1 (by rw [hv4.2.1]; omega) rfl (by decide) (by omega) (fun t ht => by rw [hv4.2.1] at ht; rw [hv4.2.2.2 t ht]; have := oτ t ht; omega)) (cv_Parts_77 S.1.2.2.2.2 ⟨by decide, by decide⟩) (by decide) en_Parts rfl rfl hl.1 rfl (lv_room (Nat.le_of_ble_eq_true rfl)) ⟨Nat.zero_le _, Nat.zero_le _⟩ dm_Parts_takeOutFound_92 (fun σ5 H locs hp5 hW => ?_)
            obtain ⟨at0, h1, h2, h3, h4⟩ := hp5
            have e5 := pi_vo h4 h1 h2 h3
            rw [e4, hv4.1.2] at e5
            obtain ⟨⟨w5, p5, c5, l5, s5⟩, -⟩ := h4
            refine tail σ5 w5 p5 (by rw [if_pos (by omega)]; exact e5) (by rw [c5, hv4.2.1]; omega) (pl_of (σ := τ) oτ (by show i ≤ 15; omega) e5) (by rw [l5, hv4.2.2.1, l2]) (by rw [s5 64 (by decide +kernel) (by decide), e464]) (by rw [s5 68 (by decide +kernel) (by decide), e468]) (st_sm_tr sm4 s5 (fun _ h => h) (by decide +kernel)) ls H locs hl hW
  exact loop 15 1 σ (by omega) hw hpl hC0 hA0 hdv hcnt hoft rfl rfl (st_sm_rf _ _) ls _ _ hl hW
theorem dm_Parts_makeFrom_0 : decode bm_Parts_makeFrom 0 = .ok (.aload_n 0, 1) := by decide +kernel
theorem dm_Parts_makeFrom_1 : decode bm_Parts_makeFrom 1 = .ok (.iconst 0, 1) := by decide +kernel
theorem dm_Parts_makeFrom_2 : decode bm_Parts_makeFrom 2 = .ok (.putfield 46, 3) := by decide +kernel
theorem dm_Parts_makeFrom_5 : decode bm_Parts_makeFrom 5 = .ok (.aload_n 0, 1) := by decide +kernel
theorem dm_Parts_makeFrom_6 : decode bm_Parts_makeFrom 6 = .ok (.aload_n 1, 1) := by decide +kernel
theorem dm_Parts_makeFrom_7 : decode bm_Parts_makeFrom 7 = .ok (.invokevirtual 49, 3) := by decide +kernel
theorem dm_Parts_makeFrom_10 : decode bm_Parts_makeFrom 10 = .ok (.putfield 42, 3) := by decide +kernel
theorem dm_Parts_makeFrom_13 : decode bm_Parts_makeFrom 13 = .ok (.aload_n 0, 1) := by decide +kernel
theorem dm_Parts_makeFrom_14 : decode bm_Parts_makeFrom 14 = .ok (.getfield 20, 3) := by decide +kernel
theorem dm_Parts_makeFrom_17 : decode bm_Parts_makeFrom 17 = .ok (.aload_n 1, 1) := by decide +kernel
theorem dm_Parts_makeFrom_18 : decode bm_Parts_makeFrom 18 = .ok (.invokevirtual 52, 3) := by decide +kernel
theorem dm_Parts_makeFrom_21 : decode bm_Parts_makeFrom 21 = .ok (.aload_n 0, 1) := by decide +kernel
theorem dm_Parts_makeFrom_22 : decode bm_Parts_makeFrom 22 = .ok (.getfield 33, 3) := by decide +kernel
theorem dm_Parts_makeFrom_25 : decode bm_Parts_makeFrom 25 = .ok (.aload_n 0, 1) := by decide +kernel
theorem dm_Parts_makeFrom_26 : decode bm_Parts_makeFrom 26 = .ok (.getfield 20, 3) := by decide +kernel
theorem dm_Parts_makeFrom_29 : decode bm_Parts_makeFrom 29 = .ok (.invokevirtual 56, 3) := by decide +kernel
theorem dm_Parts_makeFrom_32 : decode bm_Parts_makeFrom 32 = .ok (.aload_n 0, 1) := by decide +kernel
theorem dm_Parts_makeFrom_33 : decode bm_Parts_makeFrom 33 = .ok (.getfield 20, 3) := by decide +kernel
theorem dm_Parts_makeFrom_36 : decode bm_Parts_makeFrom 36 = .ok (.getfield 61, 3) := by decide +kernel
theorem dm_Parts_makeFrom_39 : decode bm_Parts_makeFrom 39 = .ok (.iconst 1, 1) := by decide +kernel
theorem dm_Parts_makeFrom_40 : decode bm_Parts_makeFrom 40 = .ok (.if_icmp .le 14, 3) := by decide +kernel
theorem dm_Parts_makeFrom_43 : decode bm_Parts_makeFrom 43 = .ok (.aload_n 0, 1) := by decide +kernel
theorem dm_Parts_makeFrom_44 : decode bm_Parts_makeFrom 44 = .ok (.getfield 37, 3) := by decide +kernel
theorem dm_Parts_makeFrom_47 : decode bm_Parts_makeFrom 47 = .ok (.aload_n 0, 1) := by decide +kernel
theorem dm_Parts_makeFrom_48 : decode bm_Parts_makeFrom 48 = .ok (.getfield 20, 3) := by decide +kernel
theorem dm_Parts_makeFrom_51 : decode bm_Parts_makeFrom 51 = .ok (.invokevirtual 64, 3) := by decide +kernel
theorem dm_Parts_makeFrom_54 : decode bm_Parts_makeFrom 54 = .ok (.iconst 1, 1) := by decide +kernel
theorem dm_Parts_makeFrom_55 : decode bm_Parts_makeFrom 55 = .ok (.istore_n 2, 1) := by decide +kernel
theorem dm_Parts_makeFrom_56 : decode bm_Parts_makeFrom 56 = .ok (.iconst 2, 1) := by decide +kernel
theorem dm_Parts_makeFrom_57 : decode bm_Parts_makeFrom 57 = .ok (.iload_n 2, 1) := by decide +kernel
theorem dm_Parts_makeFrom_58 : decode bm_Parts_makeFrom 58 = .ok (.imul, 1) := by decide +kernel
theorem dm_Parts_makeFrom_59 : decode bm_Parts_makeFrom 59 = .ok (.aload_n 0, 1) := by decide +kernel
theorem dm_Parts_makeFrom_60 : decode bm_Parts_makeFrom 60 = .ok (.getfield 20, 3) := by decide +kernel
theorem dm_Parts_makeFrom_63 : decode bm_Parts_makeFrom 63 = .ok (.getfield 61, 3) := by decide +kernel
theorem dm_Parts_makeFrom_66 : decode bm_Parts_makeFrom 66 = .ok (.if_icmp .gt 29, 3) := by decide +kernel
theorem dm_Parts_makeFrom_69 : decode bm_Parts_makeFrom 69 = .ok (.aload_n 0, 1) := by decide +kernel
theorem dm_Parts_makeFrom_70 : decode bm_Parts_makeFrom 70 = .ok (.getfield 37, 3) := by decide +kernel
theorem dm_Parts_makeFrom_73 : decode bm_Parts_makeFrom 73 = .ok (.aload_n 0, 1) := by decide +kernel
theorem dm_Parts_makeFrom_74 : decode bm_Parts_makeFrom 74 = .ok (.getfield 24, 3) := by decide +kernel
theorem dm_Parts_makeFrom_77 : decode bm_Parts_makeFrom 77 = .ok (.aload_n 0, 1) := by decide +kernel
theorem dm_Parts_makeFrom_78 : decode bm_Parts_makeFrom 78 = .ok (.getfield 20, 3) := by decide +kernel
theorem dm_Parts_makeFrom_81 : decode bm_Parts_makeFrom 81 = .ok (.invokevirtual 69, 3) := by decide +kernel
theorem dm_Parts_makeFrom_84 : decode bm_Parts_makeFrom 84 = .ok (.aload_n 0, 1) := by decide +kernel
theorem dm_Parts_makeFrom_85 : decode bm_Parts_makeFrom 85 = .ok (.iload_n 2, 1) := by decide +kernel
theorem dm_Parts_makeFrom_86 : decode bm_Parts_makeFrom 86 = .ok (.invokevirtual 73, 3) := by decide +kernel
theorem dm_Parts_makeFrom_89 : decode bm_Parts_makeFrom 89 = .ok (.iinc 2 1, 3) := by decide +kernel
theorem dm_Parts_makeFrom_92 : decode bm_Parts_makeFrom 92 = .ok (.goto (-36), 3) := by decide +kernel
theorem dm_Parts_makeFrom_95 : decode bm_Parts_makeFrom 95 = .ok (.aload_n 0, 1) := by decide +kernel
theorem dm_Parts_makeFrom_96 : decode bm_Parts_makeFrom 96 = .ok (.getfield 20, 3) := by decide +kernel
theorem dm_Parts_makeFrom_99 : decode bm_Parts_makeFrom 99 = .ok (.getfield 61, 3) := by decide +kernel
theorem dm_Parts_makeFrom_102 : decode bm_Parts_makeFrom 102 = .ok (.ifCond .le 19, 3) := by decide +kernel
theorem dm_Parts_makeFrom_105 : decode bm_Parts_makeFrom 105 = .ok (.aload_n 0, 1) := by decide +kernel
theorem dm_Parts_makeFrom_106 : decode bm_Parts_makeFrom 106 = .ok (.iconst 1, 1) := by decide +kernel
theorem dm_Parts_makeFrom_107 : decode bm_Parts_makeFrom 107 = .ok (.aload_n 0, 1) := by decide +kernel
theorem dm_Parts_makeFrom_108 : decode bm_Parts_makeFrom 108 = .ok (.getfield 20, 3) := by decide +kernel
theorem dm_Parts_makeFrom_111 : decode bm_Parts_makeFrom 111 = .ok (.getfield 61, 3) := by decide +kernel
theorem dm_Parts_makeFrom_114 : decode bm_Parts_makeFrom 114 = .ok (.aload_n 0, 1) := by decide +kernel
theorem dm_Parts_makeFrom_115 : decode bm_Parts_makeFrom 115 = .ok (.getfield 20, 3) := by decide +kernel
theorem dm_Parts_makeFrom_118 : decode bm_Parts_makeFrom 118 = .ok (.invokevirtual 77, 3) := by decide +kernel
theorem dm_Parts_makeFrom_121 : decode bm_Parts_makeFrom 121 = .ok (.return_, 1) := by decide +kernel
set_option maxHeartbeats 4000000 in
set_option maxRecDepth 100000 in
theorem mm_Parts_makeFrom (l : Launch) (D : va_G) (k : ClassId × ClassId × ClassId) (g : Nat → Nat) (σ : st_T) {P f : Nat} (hw : st_wf P σ) (hP : ag_pr P) (hP31 : P < 2147483648) (hpl : pl_ok σ) (hf_ : kd_k f = 0) (hx21 : σ 21 = sp_x) (hf0 : 0 < σ 200 f) (hf16 : σ 200 f ≤ 16) : mt_V l D k g ym_Parts_makeFrom wm_Parts_makeFrom rm_Parts_makeFrom [.ref (g 62), .ref (g f)] σ (fun σ1 => (st_wf P σ1 ∧ pl_ok σ1) ∧ pl_v σ1 = mk_l P (σ f) ∧ σ1 203 1 ≤ 15 ∧ (∀ t, t < σ1 203 1 → (pv_t σ1 t).1 ≤ 15) ∧ σ1 203 2 = st_ld σ f ∧ st_sm mk_X σ σ1) := by
  refine ct_V_in (cc := bm_Parts_makeFrom) (maxL := 3) (by decide) rfl (Nat.le_of_ble_eq_true rfl) ?_
  intro p e s m args below meth c A ls Q S hl hW hret
  have S : pw_S p m c bm_Parts_makeFrom 3 s args wa_g rc_Parts D cl_s (ty_s k) := S
  have hx := S.1.1
  have hb := S.1.2.1
  have hl : lv_has ls 3 [(0, .ref (g (62))), (1, .ref (g (f)))] := hl
  have hP2 := hP.1
  have kf := kd_po hf_
  have hof := (hw.2 f hf_).1
  have hzf := (hw.2 f hf_).2
  have hsf := st_wf_sz hw hf_
  refine lv_aload_n hx hb dm_Parts_makeFrom_0 rfl (lv_at hl 0 rfl) ?_
  refine lv_iconst (v := nI (0)) hx hb dm_Parts_makeFrom_1 (by decide) ?_
  refine ps_putc S hW (wa_in 180 (by decide +kernel) rfl) dm_Parts_makeFrom_2 (fun H locs hW => ?_)
  refine lv_aload_n hx hb dm_Parts_makeFrom_5 rfl (lv_at hl 0 rfl) ?_
  refine lv_aload_n hx hb dm_Parts_makeFrom_6 rfl (lv_at hl 1 rfl) ?_
  have e0 : st_ld (st_up σ 203 1 0) f = st_ld σ f := by unfold st_ld; rw [st_up_row (by omega), st_up_row (by omega)]
  have ldlt : st_ld σ f < P := by unfold st_ld; split; omega; exact (hof _).1
  refine pw_callVI (rest := [.ref (g (62))]) S hW (mm_Poly_lead l D k g (st_up σ 203 1 0) hf_ (by rw [st_up_row (by omega)]; exact hsf)) (cv_Parts_49 S.1.2.2.2.2 ⟨by decide, by decide⟩) (kd_p1 hf_) (en_k0 hf_) rfl rfl hl.1 rfl (lv_room (Nat.le_of_ble_eq_true rfl)) ⟨Nat.zero_le _, Nat.zero_le _⟩ dm_Parts_makeFrom_7 (fun r σ1 H locs hp hW => ?_)
  obtain ⟨hr, hp⟩ := hp
  rw [hp] at hW
  subst hr
  rw [e0]
  refine ps_putl S hW (wa_in 182 (by decide +kernel) rfl) dm_Parts_makeFrom_10 (fun H locs hW => ?_)
  have w1 : st_wf P (st_up (st_up σ 203 1 0) 203 2 (st_ld σ f)) := st_wf_of hw (by rw [st_up_at, va_up_ne _ _ (by omega), st_up_at, va_up_ne _ _ (by omega)]) (fun a ha => by rw [st_up_row (by omega), st_up_row (by omega)])
  have e1f : (st_up (st_up σ 203 1 0) 203 2 (st_ld σ f)) f = σ f := by rw [st_up_row (by omega), st_up_row (by omega)]
  have sm1 : st_sm mk_X σ (st_up (st_up σ 203 1 0) 203 2 (st_ld σ f)) := fun a ha h200 => by
    have h203 : a ≠ 203 := fun z => ha (by rw [z]; decide +kernel)
    rw [st_up_row h203, st_up_row h203]
  have p1 : pl_ok (st_up (st_up σ 203 1 0) 203 2 (st_ld σ f)) := by
    unfold pl_ok
    rw [st_up_row (by omega), st_up_row (by omega)]
    exact hpl
  refine lv_aload_n hx hb dm_Parts_makeFrom_13 rfl (lv_at hl 0 rfl) ?_
  refine ps_rest S hW (wa_in 183 (by decide +kernel) rfl) dm_Parts_makeFrom_14 ?_
  refine lv_aload_n hx hb dm_Parts_makeFrom_17 rfl (lv_at hl 1 rfl) ?_
  refine pw_callV (rest := []) S hW (mm_Poly_copyFrom l D k g (st_up (st_up σ 203 1 0) 203 2 (st_ld σ f)) w1 hf_ (j := 64) rfl) (cv_Parts_52 S.1.2.2.2.2 ⟨by decide, by decide⟩) (kd_p1 rfl) (en_k0 rfl) rfl rfl hl.1 rfl (lv_room (Nat.le_of_ble_eq_true rfl)) ⟨Nat.zero_le _, Nat.zero_le _⟩ dm_Parts_makeFrom_18 (fun σ2 H locs hp2 hW => ?_)
  rw [hp2, e1f] at hW
  have w2 : st_wf P (st_po (st_up (st_up σ 203 1 0) 203 2 (st_ld σ f)) 64 (σ f)) := st_wf_po w1 (j := 64) rfl hof
  refine lv_aload_n hx hb dm_Parts_makeFrom_21 rfl (lv_at hl 0 rfl) ?_
  refine ps_ring S hW (wa_in 176 (by decide +kernel) rfl) dm_Parts_makeFrom_22 ?_
  refine lv_aload_n hx hb dm_Parts_makeFrom_25 rfl (lv_at hl 0 rfl) ?_
  refine ps_rest S hW (wa_in 183 (by decide +kernel) rfl) dm_Parts_makeFrom_26 ?_
  refine pw_callV (rest := []) S hW (mm_Ring_makeMonic l D k g (st_po (st_up (st_up σ 203 1 0) 203 2 (st_ld σ f)) 64 (σ f)) w2 hP hP31 (x := 64) rfl) (cv_Parts_56 S.1.2.2.2.2 ⟨by decide, by decide⟩) (by decide) en_Ring rfl rfl hl.1 rfl (lv_room (Nat.le_of_ble_eq_true rfl)) ⟨Nat.zero_le _, Nat.zero_le _⟩ dm_Parts_makeFrom_29 (fun σ3 H locs hp3 hW => ?_)
  rw [hp3, st_po_at, st_po_po (by decide)] at hW
  have okM := sp_mon_ok hP hof
  have w3 : st_wf P (st_po (st_up (st_up σ 203 1 0) 203 2 (st_ld σ f)) 64 (sp_mon P (σ f))) := st_wf_po w1 (j := 64) rfl okM
  have zM : sp_sz (sp_mon P (σ f)) 31 = σ 200 f := by rw [sp_mon_sz hP hof, hzf]
  have z3 : (st_po (st_up (st_up σ 203 1 0) 203 2 (st_ld σ f)) 64 (sp_mon P (σ f))) 200 64 = σ 200 f := by rw [st_po_sz (by decide), zM]
  have e321 : (st_po (st_up (st_up σ 203 1 0) 203 2 (st_ld σ f)) 64 (sp_mon P (σ f))) 21 = sp_x := by rw [st_po_row (by decide) (by decide), st_up_row (by decide), st_up_row (by decide), hx21]
  have sm3 : st_sm mk_X σ (st_po (st_up (st_up σ 203 1 0) 203 2 (st_ld σ f)) 64 (sp_mon P (σ f))) := st_sm_tr sm1 (st_sm_po _ 64 _) (fun _ h => h) (by decide +kernel)
  have c3 : (st_po (st_up (st_up σ 203 1 0) 203 2 (st_ld σ f)) 64 (sp_mon P (σ f))) 203 1 = 0 := by rw [st_po_row (by decide) (by decide), st_up_at, va_up_ne _ _ (by omega), st_up_at, va_up_self]
  have l3 : (st_po (st_up (st_up σ 203 1 0) 203 2 (st_ld σ f)) 64 (sp_mon P (σ f))) 203 2 = st_ld σ f := by rw [st_po_row (by decide) (by decide), st_up_at, va_up_self]
  have p3 : pl_ok (st_po (st_up (st_up σ 203 1 0) 203 2 (st_ld σ f)) 64 (sp_mon P (σ f))) := by
    unfold pl_ok
    rw [st_po_row (by decide) (by decide)]
    exact p1
  have v3 : pl_v (st_po (st_up (st_up σ 203 1 0) 203 2 (st_ld σ f)) 64 (sp_mon P (σ f))) = [] := by
    unfold pl_v
    rw [c3]
    rfl
  have e364 : (st_po (st_up (st_up σ 203 1 0) 203 2 (st_ld σ f)) 64 (sp_mon P (σ f))) 64 = sp_mon P (σ f) := st_po_at
  have fin : ∀ (τ : st_T), st_wf P τ → pl_ok τ → (τ 64, pl_v τ) = mk_f P 16 1 (sp_mon P (σ f)) [] → τ 203 1 + sp_sz (τ 64) 31 ≤ 16 → (∀ t, t < τ 203 1 → (pv_t τ t).1 ≤ 15) → τ 203 2 = st_ld σ f → st_sm mk_X σ τ → 0 < sp_sz (τ 64) 31 → ∀ (ls : Array Slot) (H : Heap) (locs : List Loc), lv_has ls 3 [(0, .ref (g (62)))] → pw_H D cl_s A s.heap g 153 (en_s k g (τ)) H locs → W p l e rm_Parts_makeFrom s m args below meth c H locs 0 0 Q (F0 m 95 ls []) := by
    intro τ wτ pτ fτ kτ oτ lτ sτ aτ ls H locs hl hW
    have z64 := (wτ.2 64 rfl).2
    have z31 := sp_sz_le (τ 64) 31
    have f1 : (mk_f P 16 1 (sp_mon P (σ f)) []).1 = τ 64 := by rw [← fτ]
    have f2 : (mk_f P 16 1 (sp_mon P (σ f)) []).2 = pl_v τ := by rw [← fτ]
    refine lv_aload_n hx hb dm_Parts_makeFrom_95 rfl (lv_at hl 0 rfl) ?_
    refine ps_rest S hW (wa_in 183 (by decide +kernel) rfl) dm_Parts_makeFrom_96 ?_
    refine po_getd S hW rfl (wa_in 50 (by decide +kernel) rfl) dm_Parts_makeFrom_99 ?_
    refine wi_if_le (tgt := 121) S (sd_T (by omega)) dm_Parts_makeFrom_102 (by decide) (fun hc => ?_) (fun hc => ?_)
    · exact hret _ _ _ _ _ dm_Parts_makeFrom_121 ⟨⟨wτ, pτ⟩, by unfold mk_l; rw [f1, f2, if_neg (by omega)], by omega, oτ, lτ, sτ⟩ hW
    · refine lv_aload_n hx hb dm_Parts_makeFrom_105 rfl (lv_at hl 0 rfl) ?_
      refine lv_iconst (v := nI (1)) hx hb dm_Parts_makeFrom_106 (by decide) ?_
      refine lv_aload_n hx hb dm_Parts_makeFrom_107 rfl (lv_at hl 0 rfl) ?_
      refine ps_rest S hW (wa_in 183 (by decide +kernel) rfl) dm_Parts_makeFrom_108 ?_
      refine po_getd S hW rfl (wa_in 50 (by decide +kernel) rfl) dm_Parts_makeFrom_111 ?_
      rw [sd_n (show 0 < τ 200 (64) by omega)]
      refine lv_aload_n hx hb dm_Parts_makeFrom_114 rfl (lv_at hl 0 rfl) ?_
      refine ps_rest S hW (wa_in 183 (by decide +kernel) rfl) dm_Parts_makeFrom_115 ?_
      refine pw_callV (rest := []) S hW (mm_Parts_insertInOrder l D k g τ (o0 := 1) (e0 := τ 200 64 - 1) (y := 64) wτ pτ (by omega) rfl (by decide) (by omega) (fun t ht => by have := oτ t ht; omega)) (cv_Parts_77 S.1.2.2.2.2 ⟨by decide, by decide⟩) (by decide) en_Parts rfl rfl hl.1 rfl (lv_room (Nat.le_of_ble_eq_true rfl)) ⟨Nat.zero_le _, Nat.zero_le _⟩ dm_Parts_makeFrom_118 (fun σ5 H locs hp5 hW => ?_)
      obtain ⟨at0, h1, h2, h3, h4⟩ := hp5
      have e5 := pi_vo h4 h1 h2 h3
      obtain ⟨⟨w5, p5, c5, l5, s5⟩, -⟩ := h4
      exact hret _ _ _ _ _ dm_Parts_makeFrom_121 ⟨⟨w5, p5⟩, by unfold mk_l; rw [f1, f2, if_pos (by omega), e5, z64], by omega, pl_of (σ := τ) oτ (by show 1 ≤ 15; omega) e5, by rw [l5, lτ], st_sm_tr sτ s5 (fun _ h => h) (by decide +kernel)⟩ hW
  refine lv_aload_n hx hb dm_Parts_makeFrom_32 rfl (lv_at hl 0 rfl) ?_
  refine ps_rest S hW (wa_in 183 (by decide +kernel) rfl) dm_Parts_makeFrom_33 ?_
  refine po_getd S hW rfl (wa_in 50 (by decide +kernel) rfl) dm_Parts_makeFrom_36 ?_
  refine lv_iconst (v := nI (1)) hx hb dm_Parts_makeFrom_39 (by decide) ?_
  rw [z3]
  refine wi_icmp_le (tgt := 54) S (sd_T (by omega)) (nn_T (by omega)) dm_Parts_makeFrom_40 (by decide) (fun hc => ?_) (fun hc => ?_)
  · refine lv_iconst (v := nI (1)) hx hb dm_Parts_makeFrom_54 (by decide) ?_
    refine lv_istore_n hx hb dm_Parts_makeFrom_55 rfl hl (by decide) rfl (fun ls hl => ?_)
    have hl : lv_has ls 3 [(2, .int (nI (1))), (0, .ref (g (62))), (1, .ref (g (f)))] := hl
    refine lv_iconst (v := nI (2)) hx hb dm_Parts_makeFrom_56 (by decide) ?_
    refine lv_iload_n hx hb dm_Parts_makeFrom_57 rfl (lv_at hl 0 rfl) ?_
    refine wn_imul S dm_Parts_makeFrom_58 ?_
    refine lv_aload_n hx hb dm_Parts_makeFrom_59 rfl (lv_at hl 1 rfl) ?_
    refine ps_rest S hW (wa_in 183 (by decide +kernel) rfl) dm_Parts_makeFrom_60 ?_
    refine po_getd S hW rfl (wa_in 50 (by decide +kernel) rfl) dm_Parts_makeFrom_63 ?_
    rw [z3]
    refine wi_icmp_gt (tgt := 95) S (nn_T (by omega)) (sd_T (by omega)) dm_Parts_makeFrom_66 (by decide) (fun hc => ?_) (fun hc => ?_)
    · refine fin (st_po (st_up (st_up σ 203 1 0) 203 2 (st_ld σ f)) 64 (sp_mon P (σ f))) w3 p3 ?_ (by rw [c3, e364, zM]; omega) (fun t ht => by rw [c3] at ht; omega) l3 sm3 (by rw [e364, zM]; exact hf0) ls _ _ (lv_sub hl [1] rfl) hW
      rw [e364, v3]
      show _ = (if 2 * 1 < sp_sz (sp_mon P (σ f)) 31 then _ else (sp_mon P (σ f), ([] : List pv_T)))
      rw [if_neg (by omega)]
    · exfalso
      omega
  · refine lv_aload_n hx hb dm_Parts_makeFrom_43 rfl (lv_at hl 0 rfl) ?_
    refine ps_frobenius S hW (wa_in 177 (by decide +kernel) rfl) dm_Parts_makeFrom_44 ?_
    refine lv_aload_n hx hb dm_Parts_makeFrom_47 rfl (lv_at hl 0 rfl) ?_
    refine ps_rest S hW (wa_in 183 (by decide +kernel) rfl) dm_Parts_makeFrom_48 ?_
    refine pw_callV (rest := []) S hW (mm_Frob_prepareFor l D k g (st_po (st_up (st_up σ 203 1 0) 203 2 (st_ld σ f)) 64 (sp_mon P (σ f))) w3 hP hP31 (m0 := 64) rfl (by rw [z3]; omega) (by rw [z3]; exact hf16) e321) (cv_Parts_64 S.1.2.2.2.2 ⟨by decide, by decide⟩) (by decide) en_Frob rfl rfl hl.1 rfl (lv_room (Nat.le_of_ble_eq_true rfl)) ⟨Nat.zero_le _, Nat.zero_le _⟩ dm_Parts_makeFrom_51 (fun σ4 H locs hp4 hW => ?_)
    obtain ⟨w4, ⟨t4, c4⟩, s4⟩ := hp4
    rw [e364] at t4 c4
    have hv4 := pl_v_sm p3 s4 (by decide +kernel) (by rw [c3]; omega)
    rw [c3] at hv4
    have e464 := s4 64 (by decide) (by decide)
    rw [e364] at e464
    refine lv_iconst (v := nI (1)) hx hb dm_Parts_makeFrom_54 (by decide) ?_
    refine lv_istore_n hx hb dm_Parts_makeFrom_55 rfl hl (by decide) rfl (fun ls hl => ?_)
    have hl : lv_has ls 3 [(2, .int (nI (1))), (0, .ref (g (62))), (1, .ref (g (f)))] := hl
    have hl : lv_has ls 3 [(2, .int (nI (1))), (0, .ref (g (62)))] := lv_sub hl [0, 1] rfl
    have loop : ∀ (n d : Nat) (τ : st_T), d + 1 + n = 17 → st_wf P τ → pl_ok τ → fb_t P (sp_mon P (σ f)) τ → sp_is P (sp_mon P (σ f)) (τ 28) (pz_pw pz_X (P ^ d)) → 0 < sp_sz (τ 64) 31 → pz_I P (pe_f (τ 64)) (pe_f (sp_mon P (σ f))) → τ 203 1 + sp_sz (τ 64) 31 ≤ 16 → (∀ t, t < τ 203 1 → (pv_t τ t).1 ≤ 15) → mk_f P n (d + 1) (τ 64) (pl_v τ) = mk_f P 16 1 (sp_mon P (σ f)) [] → τ 203 2 = st_ld σ f → st_sm mk_X σ τ → ∀ (ls : Array Slot) (H : Heap) (locs : List Loc), lv_has ls 3 [(2, .int (nI (d + 1))), (0, .ref (g (62)))] → pw_H D cl_s A s.heap g 153 (en_s k g (τ)) H locs → W p l e rm_Parts_makeFrom s m args below meth c H locs 0 0 Q (F0 m 56 ls []) := by
      intro n
      induction n with
      | zero =>
        intro d τ hd wτ pτ tT tc a0 dτ kτ oτ fτ lτ sτ ls H locs hl hW
        have z64 := (wτ.2 64 rfl).2
        refine lv_iconst (v := nI (2)) hx hb dm_Parts_makeFrom_56 (by decide) ?_
        refine lv_iload_n hx hb dm_Parts_makeFrom_57 rfl (lv_at hl 0 rfl) ?_
        refine wn_imul S dm_Parts_makeFrom_58 ?_
        refine lv_aload_n hx hb dm_Parts_makeFrom_59 rfl (lv_at hl 1 rfl) ?_
        refine ps_rest S hW (wa_in 183 (by decide +kernel) rfl) dm_Parts_makeFrom_60 ?_
        refine po_getd S hW rfl (wa_in 50 (by decide +kernel) rfl) dm_Parts_makeFrom_63 ?_
        refine wi_icmp_gt (tgt := 95) S (nn_T (by omega)) (sd_T (by omega)) dm_Parts_makeFrom_66 (by decide) (fun hc => ?_) (fun hc => ?_)
        · exact fin τ wτ pτ fτ kτ oτ lτ sτ a0 ls H locs (lv_sub hl [1] rfl) hW
        · exfalso
          omega
      | succ n ih =>
        intro d τ hd wτ pτ tT tc a0 dτ kτ oτ fτ lτ sτ ls H locs hl hW
        have z64 := (wτ.2 64 rfl).2
        refine lv_iconst (v := nI (2)) hx hb dm_Parts_makeFrom_56 (by decide) ?_
        refine lv_iload_n hx hb dm_Parts_makeFrom_57 rfl (lv_at hl 0 rfl) ?_
        refine wn_imul S dm_Parts_makeFrom_58 ?_
        refine lv_aload_n hx hb dm_Parts_makeFrom_59 rfl (lv_at hl 1 rfl) ?_
        refine ps_rest S hW (wa_in 183 (by decide +kernel) rfl) dm_Parts_makeFrom_60 ?_
        refine po_getd S hW rfl (wa_in 50 (by decide +kernel) rfl) dm_Parts_makeFrom_63 ?_
        refine wi_icmp_gt (tgt := 95) S (nn_T (by omega)) (sd_T (by omega)) dm_Parts_makeFrom_66 (by decide) (fun hc => ?_) (fun hc => ?_)
        · refine fin τ wτ pτ ?_ kτ oτ lτ sτ a0 ls H locs (lv_sub hl [1] rfl) hW
          have e9 : mk_f P (n + 1) (d + 1) (τ 64) (pl_v τ) = if 2 * (d + 1) < sp_sz (τ 64) 31 then _ else (τ 64, pl_v τ) := rfl
          rw [e9, if_neg (by omega)] at fτ
          exact fτ
        · refine lv_aload_n hx hb dm_Parts_makeFrom_69 rfl (lv_at hl 1 rfl) ?_
          refine ps_frobenius S hW (wa_in 177 (by decide +kernel) rfl) dm_Parts_makeFrom_70 ?_
          refine lv_aload_n hx hb dm_Parts_makeFrom_73 rfl (lv_at hl 1 rfl) ?_
          refine ps_found S hW (wa_in 184 (by decide +kernel) rfl) dm_Parts_makeFrom_74 ?_
          refine lv_aload_n hx hb dm_Parts_makeFrom_77 rfl (lv_at hl 1 rfl) ?_
          refine ps_rest S hW (wa_in 183 (by decide +kernel) rfl) dm_Parts_makeFrom_78 ?_
          refine pw_callV (rest := []) S hW (mm_Frob_nextDegreeInto l D k g τ okM (by omega) (by omega) wτ hP hP31 (x := 66) rfl (f := 64) rfl tT tc (by rw [sτ 21 (by decide +kernel) (by decide), hx21]) (by decide) (by decide) (by decide) (by decide) (by decide)) (cv_Parts_69 S.1.2.2.2.2 ⟨by decide, by decide⟩) (by decide) en_Frob rfl rfl hl.1 rfl (lv_room (Nat.le_of_ble_eq_true rfl)) ⟨Nat.zero_le _, Nat.zero_le _⟩ dm_Parts_makeFrom_81 (fun σ5 H locs hp5 hW => ?_)
          obtain ⟨w5, ⟨c5, e5⟩, s5⟩ := hp5
          have hz := fz_q hP2 c5
          have hzA : @ag_q pz_T pz_R (pz_I P (pe_f (τ 64))) (pe_f (sp_add P (σ5 28) sp_x (P - 1))) (dd_z P (d + 1)) := @ag_If_tr pz_T pz_R (pz_E P) (pz_E_ok P) _ _ _ dτ hz.2
          have gok := sp_gcd_ok hP hz.1 (wτ.2 64 rfl).1
          have gsz := sp_dvd_sz hP gok.1 (wτ.2 64 rfl).1 a0 gok.2.2.1
          have ge := dd_C_eq hP (wτ.2 64 rfl).1 a0 hz.1 hzA
          rw [← e5] at gok gsz
          rw [← e5] at ge
          have e564 : σ5 64 = τ 64 := s5 64 (by decide) (by decide)
          have hv5 := pl_v_sm pτ s5 (by decide +kernel) (by omega)
          have t5 := fb_t_sm tT s5 (by omega) (by decide)
          refine lv_aload_n hx hb dm_Parts_makeFrom_84 rfl (lv_at hl 1 rfl) ?_
          refine lv_iload_n hx hb dm_Parts_makeFrom_85 rfl (lv_at hl 0 rfl) ?_
          refine pw_callV (rest := []) S hW (mm_Parts_takeOutFound l D k g σ5 (d0 := d + 1) w5 hP hP31 hv5.1.1 gsz.1 (by rw [e564]; exact a0) (by rw [e564]; exact gok.2.2.1) (by rw [e564, hv5.2.1]; exact kτ) (fun t ht => by rw [hv5.2.1] at ht; rw [hv5.2.2.2 t ht]; exact oτ t ht)) (cv_Parts_73 S.1.2.2.2.2 ⟨by decide, by decide⟩) (by decide) en_Parts rfl rfl hl.1 rfl (lv_room (Nat.le_of_ble_eq_true rfl)) ⟨Nat.zero_le _, Nat.zero_le _⟩ dm_Parts_makeFrom_86 (fun σ6 H locs hp6 hW => ?_)
          obtain ⟨⟨w6, p6⟩, f6, k6, o6, l6, s6⟩ := hp6
          rw [e564, ge, hv5.1.2] at f6
          have f61 : σ6 64 = (tk_f P (d + 1) 15 1 (τ 64) (dd_C P (d + 1) (τ 64)) (pl_v τ)).1 := by rw [← f6]
          have f62 : pl_v σ6 = (tk_f P (d + 1) 15 1 (τ 64) (dd_C P (d + 1) (τ 64)) (pl_v τ)).2 := by rw [← f6]
          rw [ge] at gok gsz
          have htk := tk_ok hP (d := d + 1) 15 1 (τ 64) (dd_C P (d + 1) (τ 64)) (pl_v τ) (wτ.2 64 rfl).1 gok.1 gsz.1 a0 gok.2.2.1
          rw [← f61] at htk
          refine lv_iinc (k := 0) (v := nI (d + 1 + 1)) hx hb dm_Parts_makeFrom_89 hl rfl (by rw [show Int32.ofInt 1 = nI 1 from rfl, nI_add]) (by decide) rfl (fun ls hl => ?_)
          have hl : lv_has ls 3 [(2, .int (nI (d + 1 + 1))), (0, .ref (g (62)))] := hl
          refine lv_goto (tgt := 56) hx hb dm_Parts_makeFrom_92 (by decide) ?_
          have hl : lv_has ls 3 [(2, .int (nI (d + 1 + 1))), (0, .ref (g (62)))] := lv_sub hl [0, 1] rfl
          have e9 : mk_f P (n + 1) (d + 1) (τ 64) (pl_v τ) = if 2 * (d + 1) < sp_sz (τ 64) 31 then mk_f P n (d + 1 + 1) (tk_f P (d + 1) 15 1 (τ 64) (dd_C P (d + 1) (τ 64)) (pl_v τ)).1 (tk_f P (d + 1) 15 1 (τ 64) (dd_C P (d + 1) (τ 64)) (pl_v τ)).2 else (τ 64, pl_v τ) := rfl
          rw [e9, if_pos (by omega), ← f61, ← f62] at fτ
          refine ih (d + 1) σ6 (by omega) w6 p6 (fb_t_sm t5 s6 (by omega) tk_fb) (by rw [s6 28 (by decide +kernel) (by decide)]; exact c5) htk.2.1 (@ag_If_tr pz_T pz_R (pz_E P) (pz_E_ok P) _ _ _ htk.2.2.2 dτ) k6 o6 fτ (by rw [l6, hv5.2.2.1, lτ]) (st_sm_tr (st_sm_tr sτ s5 (Z := mk_X) (fun _ h => h) (by decide +kernel)) s6 (fun _ h => h) tk_sub) ls H locs hl hW
    refine loop 16 0 σ4 (by omega) w4 hv4.1.1 t4 ?_ (by rw [e464, zM]; exact hf0) (by rw [e464]; exact @ag_If_f pz_T pz_R (pz_E P) (pz_E_ok P) _) (by rw [hv4.2.1, e464, zM]; omega) (fun t ht => by rw [hv4.2.1] at ht; omega) (by rw [e464, hv4.1.2, v3]) (by rw [hv4.2.2.1, l3]) (st_sm_tr sm3 s4 (fun _ h => h) (by decide +kernel)) ls _ _ hl hW
    rw [Nat.pow_zero]
    have e1 : pz_pw pz_X 1 = pz_X := pz_R.one_mul _
    rw [e1]
    exact c4
