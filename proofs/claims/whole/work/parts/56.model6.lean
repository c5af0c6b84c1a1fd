/-! The reference: takeOut -/
theorem ml_sm {X : List Nat} {τ υ : st_T} (hs : md_sm X τ υ) (hX : ∀ a ∈ X, a ∉ mp_X) (hc : τ 205 1 ≤ 16) : ml_v υ = ml_v τ ∧ υ 205 = τ 205 ∧ ∀ t, t < 16 → mv_t υ t = mv_t τ t := by
  have e205 : υ 205 = τ 205 := hs 205 (fun z => hX _ z (by decide +kernel))
  have hv : ∀ t, t < 16 → mv_t υ t = mv_t τ t := fun t ht => by
    unfold mv_t
    rw [hs 206 (fun z => hX _ z (by decide +kernel)), hs 207 (fun z => hX _ z (by decide +kernel)), hs _ (fun z => hX _ z (List.mem_append_right _ (mp_in ht)))]
  refine ⟨?_, e205, hv⟩
  unfold ml_v
  rw [e205]
  exact List.map_congr_left (fun t ht => hv t (by have := List.mem_range.mp ht; omega))
abbrev mk_W : List Nat := [300 + 25, 300 + 26, 300 + 27, 300 + 28, 300 + 29, 300 + 30, 300 + 31, 300 + 32]
abbrev mt_X : List Nat := mp_X ++ mk_W
theorem mk_W_no : ∀ a ∈ mk_W, a ∉ mp_X := by decide +kernel
theorem mk_W_in {a : Nat} (h : a ∈ mk_W) : a ∈ mt_X := List.mem_append_right _ h
theorem mp_X_in {a : Nat} (h : a ∈ mp_X) : a ∈ mt_X := List.mem_append_left _ h
/-- what is known of the parts: how often, of which degree -/
def mj_ok (d e : Nat) (L : List pv_T) : Prop := ∀ p ∈ L, p.1 ≤ 15 ∧ p.2.1 ≤ 31 ∧ (p.2.1 < d ∨ (p.2.1 = d ∧ p.1 < e))
theorem mj_in {d e : Nat} {L : List pv_T} {f : Nat → Nat} (h : mj_ok d e L) (he : e ≤ 15) (hd : d ≤ 31) : mj_ok d (e + 1) (pi_in (e, d, f) L) := fun p hp => by
  rcases pi_in_mem hp with h1 | h1
  · rw [h1]
    exact ⟨he, hd, Or.inr ⟨rfl, Nat.lt_succ_self e⟩⟩
  · have h2 := h p h1
    omega
theorem mj_s {d e : Nat} {L : List pv_T} (h : mj_ok d e L) : mj_ok d (e + 1) L := fun p hp => by
  have h2 := h p hp
  omega
theorem dm_Model_takeOut_0 : decode bm_Model_takeOut 0 = .ok (.aload_n 0, 1) := by decide +kernel
theorem dm_Model_takeOut_1 : decode bm_Model_takeOut 1 = .ok (.bipush 30, 2) := by decide +kernel
theorem dm_Model_takeOut_3 : decode bm_Model_takeOut 3 = .ok (.bipush 27, 2) := by decide +kernel
theorem dm_Model_takeOut_5 : decode bm_Model_takeOut 5 = .ok (.invokevirtual 55, 3) := by decide +kernel
theorem dm_Model_takeOut_8 : decode bm_Model_takeOut 8 = .ok (.iconst 1, 1) := by decide +kernel
theorem dm_Model_takeOut_9 : decode bm_Model_takeOut 9 = .ok (.istore_n 2, 1) := by decide +kernel
theorem dm_Model_takeOut_10 : decode bm_Model_takeOut 10 = .ok (.aload_n 0, 1) := by decide +kernel
theorem dm_Model_takeOut_11 : decode bm_Model_takeOut 11 = .ok (.bipush 27, 2) := by decide +kernel
theorem dm_Model_takeOut_13 : decode bm_Model_takeOut 13 = .ok (.invokevirtual 42, 3) := by decide +kernel
theorem dm_Model_takeOut_16 : decode bm_Model_takeOut 16 = .ok (.ifCond .le 88, 3) := by decide +kernel
theorem dm_Model_takeOut_19 : decode bm_Model_takeOut 19 = .ok (.aload_n 0, 1) := by decide +kernel
theorem dm_Model_takeOut_20 : decode bm_Model_takeOut 20 = .ok (.bipush 25, 2) := by decide +kernel
theorem dm_Model_takeOut_22 : decode bm_Model_takeOut 22 = .ok (.bipush 27, 2) := by decide +kernel
theorem dm_Model_takeOut_24 : decode bm_Model_takeOut 24 = .ok (.invokevirtual 52, 3) := by decide +kernel
theorem dm_Model_takeOut_27 : decode bm_Model_takeOut 27 = .ok (.aload_n 0, 1) := by decide +kernel
theorem dm_Model_takeOut_28 : decode bm_Model_takeOut 28 = .ok (.bipush 32, 2) := by decide +kernel
theorem dm_Model_takeOut_30 : decode bm_Model_takeOut 30 = .ok (.bipush 25, 2) := by decide +kernel
theorem dm_Model_takeOut_32 : decode bm_Model_takeOut 32 = .ok (.invokevirtual 55, 3) := by decide +kernel
theorem dm_Model_takeOut_35 : decode bm_Model_takeOut 35 = .ok (.aload_n 0, 1) := by decide +kernel
theorem dm_Model_takeOut_36 : decode bm_Model_takeOut 36 = .ok (.bipush 27, 2) := by decide +kernel
theorem dm_Model_takeOut_38 : decode bm_Model_takeOut 38 = .ok (.bipush 25, 2) := by decide +kernel
theorem dm_Model_takeOut_40 : decode bm_Model_takeOut 40 = .ok (.invokevirtual 81, 3) := by decide +kernel
theorem dm_Model_takeOut_43 : decode bm_Model_takeOut 43 = .ok (.aload_n 0, 1) := by decide +kernel
theorem dm_Model_takeOut_44 : decode bm_Model_takeOut 44 = .ok (.bipush 30, 2) := by decide +kernel
theorem dm_Model_takeOut_46 : decode bm_Model_takeOut 46 = .ok (.bipush 26, 2) := by decide +kernel
theorem dm_Model_takeOut_48 : decode bm_Model_takeOut 48 = .ok (.invokevirtual 55, 3) := by decide +kernel
theorem dm_Model_takeOut_51 : decode bm_Model_takeOut 51 = .ok (.aload_n 0, 1) := by decide +kernel
theorem dm_Model_takeOut_52 : decode bm_Model_takeOut 52 = .ok (.bipush 27, 2) := by decide +kernel
theorem dm_Model_takeOut_54 : decode bm_Model_takeOut 54 = .ok (.bipush 28, 2) := by decide +kernel
theorem dm_Model_takeOut_56 : decode bm_Model_takeOut 56 = .ok (.invokevirtual 55, 3) := by decide +kernel
theorem dm_Model_takeOut_59 : decode bm_Model_takeOut 59 = .ok (.aload_n 0, 1) := by decide +kernel
theorem dm_Model_takeOut_60 : decode bm_Model_takeOut 60 = .ok (.bipush 28, 2) := by decide +kernel
theorem dm_Model_takeOut_62 : decode bm_Model_takeOut 62 = .ok (.bipush 26, 2) := by decide +kernel
theorem dm_Model_takeOut_64 : decode bm_Model_takeOut 64 = .ok (.invokevirtual 52, 3) := by decide +kernel
theorem dm_Model_takeOut_67 : decode bm_Model_takeOut 67 = .ok (.aload_n 0, 1) := by decide +kernel
theorem dm_Model_takeOut_68 : decode bm_Model_takeOut 68 = .ok (.bipush 32, 2) := by decide +kernel
theorem dm_Model_takeOut_70 : decode bm_Model_takeOut 70 = .ok (.bipush 27, 2) := by decide +kernel
theorem dm_Model_takeOut_72 : decode bm_Model_takeOut 72 = .ok (.invokevirtual 55, 3) := by decide +kernel
theorem dm_Model_takeOut_75 : decode bm_Model_takeOut 75 = .ok (.aload_n 0, 1) := by decide +kernel
theorem dm_Model_takeOut_76 : decode bm_Model_takeOut 76 = .ok (.bipush 27, 2) := by decide +kernel
theorem dm_Model_takeOut_78 : decode bm_Model_takeOut 78 = .ok (.invokevirtual 42, 3) := by decide +kernel
theorem dm_Model_takeOut_81 : decode bm_Model_takeOut 81 = .ok (.ifCond .le 9, 3) := by decide +kernel
theorem dm_Model_takeOut_84 : decode bm_Model_takeOut 84 = .ok (.aload_n 0, 1) := by decide +kernel
theorem dm_Model_takeOut_85 : decode bm_Model_takeOut 85 = .ok (.iload_n 2, 1) := by decide +kernel
theorem dm_Model_takeOut_86 : decode bm_Model_takeOut 86 = .ok (.iload_n 1, 1) := by decide +kernel
theorem dm_Model_takeOut_87 : decode bm_Model_takeOut 87 = .ok (.invokevirtual 94, 3) := by decide +kernel
theorem dm_Model_takeOut_90 : decode bm_Model_takeOut 90 = .ok (.aload_n 0, 1) := by decide +kernel
theorem dm_Model_takeOut_91 : decode bm_Model_takeOut 91 = .ok (.bipush 26, 2) := by decide +kernel
theorem dm_Model_takeOut_93 : decode bm_Model_takeOut 93 = .ok (.bipush 27, 2) := by decide +kernel
theorem dm_Model_takeOut_95 : decode bm_Model_takeOut 95 = .ok (.invokevirtual 55, 3) := by decide +kernel
theorem dm_Model_takeOut_98 : decode bm_Model_takeOut 98 = .ok (.iinc 2 1, 3) := by decide +kernel
theorem dm_Model_takeOut_101 : decode bm_Model_takeOut 101 = .ok (.goto (-91), 3) := by decide +kernel
theorem dm_Model_takeOut_104 : decode bm_Model_takeOut 104 = .ok (.return_, 1) := by decide +kernel
set_option maxHeartbeats 4000000 in
set_option maxRecDepth 100000 in
theorem mm_Model_takeOut (l : Launch) (D : va_G) (k : ClassId × ClassId × ClassId) (g : Nat → Nat) (σ : st_T) {P d0 : Nat} (hw : md_wf P σ) (hP : ag_pr P) (hP31 : P < 2147483648) (hd0 : d0 ≤ 31) (hC0 : 0 < sp_sz (σ (300 + 30)) 31) (hA0 : 0 < sp_sz (σ (300 + 25)) 31) (hdv : pz_I P (pe_f (σ (300 + 30))) (pe_f (σ (300 + 25)))) (hcnt : σ 205 1 + sp_sz (σ (300 + 25)) 31 ≤ 16) (hL : ∀ p ∈ ml_v σ, p.1 ≤ 15 ∧ p.2.1 ≤ 31 ∧ p.2.1 < d0) : mt_V l D k g ym_Model_takeOut wm_Model_takeOut rm_Model_takeOut [.ref (g 149), .int (nI d0)] σ (fun σ1 => md_wf P σ1 ∧ (σ1 (300 + 25), ml_v σ1) = tk_f P d0 15 1 (σ (300 + 25)) (σ (300 + 30)) (ml_v σ) ∧ σ1 205 1 + sp_sz (σ1 (300 + 25)) 31 ≤ 16 ∧ (∀ p ∈ ml_v σ1, p.1 ≤ 15 ∧ p.2.1 ≤ 31 ∧ p.2.1 ≤ d0) ∧ (∀ j, j ≠ 1 → σ1 205 j = σ 205 j) ∧ md_sm mt_X σ σ1) := by
  refine ct_V_in (cc := bm_Model_takeOut) (maxL := 3) (by decide) rfl (Nat.le_of_ble_eq_true rfl) ?_
  intro p e s m args below meth c A ls Q S hl hW hret
  have S : pw_S p m c bm_Model_takeOut 3 s args wa_g rc_Model D cl_s (ty_s k) := S
  have hx := S.1.1
  have hb := S.1.2.1
  have hl : lv_has ls 3 [(0, .ref (g (149))), (1, .int (nI (d0)))] := hl
  have hP2 := hP.1
  refine lv_aload_n hx hb dm_Model_takeOut_0 rfl (lv_at hl 0 rfl) ?_
  refine lv_bipush (v := nI (30)) hx hb dm_Model_takeOut_1 (by decide) ?_
  refine lv_bipush (v := nI (27)) hx hb dm_Model_takeOut_3 (by decide) ?_
  refine pw_callV (rest := []) S hW (mm_Model_copy l D k g σ hw (a := 30) (b := 27) (by omega) (by omega)) (cv_Model_55 S.1.2.2.2.2 ⟨by decide, by decide⟩) (by decide) en_Model rfl rfl hl.1 rfl (lv_room (Nat.le_of_ble_eq_true rfl)) ⟨Nat.zero_le _, Nat.zero_le _⟩ dm_Model_takeOut_5 (fun σ2 H locs hp2 hW => ?_)
  obtain ⟨w2, e2, s2⟩ := hp2
  have k2_25 : σ2 (300 + (25)) = σ (300 + (25)) := by rw [s2 _ (by simp only [List.mem_cons, List.not_mem_nil, or_false]; omega)]
  have k2_30 : σ2 (300 + (30)) = σ (300 + 30) := by rw [s2 _ (by simp only [List.mem_cons, List.not_mem_nil, or_false]; omega)]
  have k2_27 : σ2 (300 + (27)) = σ (300 + 30) := by rw [e2]
  refine lv_iconst (v := nI (1)) hx hb dm_Model_takeOut_8 (by decide) ?_
  refine lv_istore_n hx hb dm_Model_takeOut_9 rfl hl (by decide) rfl (fun ls hl => ?_)
  have hl : lv_has ls 3 [(2, .int (nI (1))), (0, .ref (g (149))), (1, .int (nI (d0)))] := hl
  have hl : lv_has ls 3 [(2, .int (nI (1))), (0, .ref (g (149))), (1, .int (nI (d0)))] := lv_sub hl [0, 1, 2] rfl
  have loop : ∀ (n i : Nat) (τ : st_T), i + n = 16 → md_wf P τ → 0 < sp_sz (τ (300 + 27)) 31 → 0 < sp_sz (τ (300 + 25)) 31 → pz_I P (pe_f (τ (300 + 27))) (pe_f (τ (300 + 25))) → sp_sz (τ (300 + 25)) 31 ≤ n + 1 → τ 205 1 + sp_sz (τ (300 + 25)) 31 ≤ 16 → mj_ok d0 i (ml_v τ) → tk_f P d0 n i (τ (300 + 25)) (τ (300 + 27)) (ml_v τ) = tk_f P d0 15 1 (σ (300 + 25)) (σ (300 + 30)) (ml_v σ) → (∀ j, j ≠ 1 → τ 205 j = σ 205 j) → md_sm mt_X σ τ → ∀ (ls : Array Slot) (H : Heap) (locs : List Loc), lv_has ls 3 [(2, .int (nI (i))), (0, .ref (g (149))), (1, .int (nI (d0)))] → pw_H D cl_s A s.heap g 153 (en_s k g (τ)) H locs → W p l e rm_Model_takeOut s m args below meth c H locs 0 0 Q (F0 m 10 ls []) := by
    intro n
    induction n with
    | zero =>
      intro i τ hi wτ c0 a0 dτ nτ kτ jτ fτ j2 sτ ls H locs hl hW
      have hCA := sp_dvd_sz hP (wτ.2 27 (by omega)) (wτ.2 25 (by omega)) a0 dτ
      refine lv_aload_n hx hb dm_Model_takeOut_10 rfl (lv_at hl 1 rfl) ?_
      refine lv_bipush (v := nI (27)) hx hb dm_Model_takeOut_11 (by decide) ?_
      refine pw_callVI (rest := []) S hW (mm_Model_degree l D k g τ (s0 := 27) (P := P) (by omega) (wτ.2 (27) (by omega)) hP31) (cv_Model_42 S.1.2.2.2.2 ⟨by decide, by decide⟩) (by decide) en_Model rfl rfl hl.1 rfl (lv_room (Nat.le_of_ble_eq_true rfl)) ⟨Nat.zero_le _, Nat.zero_le _⟩ dm_Model_takeOut_13 (fun r σ1 H locs hp hW => ?_)
      obtain ⟨hr, hp⟩ := hp
      rw [hp] at hW
      subst hr
      refine wi_if_le (tgt := 104) S (sd_T (by omega)) dm_Model_takeOut_16 (by decide) (fun hc => ?_) (fun hc => ?_)
      · have fτ : (τ (300 + 25), ml_v τ) = _ := fτ
        exact hret _ _ _ _ _ dm_Model_takeOut_104 ⟨wτ, fτ, kτ, fun p hp => by have := jτ p hp; omega, j2, sτ⟩ hW
      · exfalso
        omega
    | succ n ih =>
      intro i τ hi wτ c0 a0 dτ nτ kτ jτ fτ j2 sτ ls H locs hl hW
      have hCA := sp_dvd_sz hP (wτ.2 27 (by omega)) (wτ.2 25 (by omega)) a0 dτ
      refine lv_aload_n hx hb dm_Model_takeOut_10 rfl (lv_at hl 1 rfl) ?_
      refine lv_bipush (v := nI (27)) hx hb dm_Model_takeOut_11 (by decide) ?_
      refine pw_callVI (rest := []) S hW (mm_Model_degree l D k g τ (s0 := 27) (P := P) (by omega) (wτ.2 (27) (by omega)) hP31) (cv_Model_42 S.1.2.2.2.2 ⟨by decide, by decide⟩) (by decide) en_Model rfl rfl hl.1 rfl (lv_room (Nat.le_of_ble_eq_true rfl)) ⟨Nat.zero_le _, Nat.zero_le _⟩ dm_Model_takeOut_13 (fun r σ1 H locs hp hW => ?_)
      obtain ⟨hr, hp⟩ := hp
      rw [hp] at hW
      subst hr
      refine wi_if_le (tgt := 104) S (sd_T (by omega)) dm_Model_takeOut_16 (by decide) (fun hc => ?_) (fun hc => ?_)
      · rw [tk_s, if_pos (by omega)] at fτ
        exact hret _ _ _ _ _ dm_Model_takeOut_104 ⟨wτ, fτ, kτ, fun p hp => by have := jτ p hp; omega, j2, sτ⟩ hW
      · rw [tk_s, if_neg (by omega)] at fτ
        obtain ⟨⟨a1, a2, a3, a4⟩, ⟨b1, b2, b3, b4, b5⟩, x1, x2⟩ := tk_it hP (wτ.2 25 (by omega)) (wτ.2 27 (by omega)) c0 a0 dτ
        refine lv_aload_n hx hb dm_Model_takeOut_19 rfl (lv_at hl 1 rfl) ?_
        refine lv_bipush (v := nI (25)) hx hb dm_Model_takeOut_20 (by decide) ?_
        refine lv_bipush (v := nI (27)) hx hb dm_Model_takeOut_22 (by decide) ?_
        refine pw_callV (rest := []) S hW (mm_Model_rest l D k g τ wτ hP hP31 (a := 25) (b := 27) (by omega) (by omega) (by omega) (by omega) (by omega) (by omega)) (cv_Model_52 S.1.2.2.2.2 ⟨by decide, by decide⟩) (by decide) en_Model rfl rfl hl.1 rfl (lv_room (Nat.le_of_ble_eq_true rfl)) ⟨Nat.zero_le _, Nat.zero_le _⟩ dm_Model_takeOut_24 (fun σ3 H locs hp3 hW => ?_)
        obtain ⟨w3, e3, s3⟩ := hp3
        have k3_27 : σ3 (300 + (27)) = τ (300 + 27) := by rw [s3 _ (by simp only [List.mem_cons, List.not_mem_nil, or_false]; omega)]
        have k3_25 : σ3 (300 + (25)) = sp_rest P (τ (300 + 25)) (τ (300 + 27)) := by rw [e3.1]
        have k3_32 : σ3 (300 + (32)) = sp_quo P (τ (300 + 25)) (τ (300 + 27)) := by rw [e3.2]
        refine lv_aload_n hx hb dm_Model_takeOut_27 rfl (lv_at hl 1 rfl) ?_
        refine lv_bipush (v := nI (32)) hx hb dm_Model_takeOut_28 (by decide) ?_
        refine lv_bipush (v := nI (25)) hx hb dm_Model_takeOut_30 (by decide) ?_
        refine pw_callV (rest := []) S hW (mm_Model_copy l D k g σ3 w3 (a := 32) (b := 25) (by omega) (by omega)) (cv_Model_55 S.1.2.2.2.2 ⟨by decide, by decide⟩) (by decide) en_Model rfl rfl hl.1 rfl (lv_room (Nat.le_of_ble_eq_true rfl)) ⟨Nat.zero_le _, Nat.zero_le _⟩ dm_Model_takeOut_32 (fun σ4 H locs hp4 hW => ?_)
        obtain ⟨w4, e4, s4⟩ := hp4
        have k4_27 : σ4 (300 + (27)) = τ (300 + 27) := by rw [s4 _ (by simp only [List.mem_cons, List.not_mem_nil, or_false]; omega)]; exact k3_27
        have k4_32 : σ4 (300 + (32)) = sp_quo P (τ (300 + 25)) (τ (300 + 27)) := by rw [s4 _ (by simp only [List.mem_cons, List.not_mem_nil, or_false]; omega)]; exact k3_32
        have k4_25 : σ4 (300 + (25)) = sp_quo P (τ (300 + 25)) (τ (300 + 27)) := by rw [e4, k3_32]
        have m4 : md_sm [300 + (25), 300 + (32)] τ σ4 := md_sm_tr s3 s4 (by intro x9 hx9; simp only [List.mem_cons, List.not_mem_nil, or_false] at hx9 ⊢; omega) (by intro x9 hx9; simp only [List.mem_cons, List.not_mem_nil, or_false] at hx9 ⊢; omega)
        refine lv_aload_n hx hb dm_Model_takeOut_35 rfl (lv_at hl 1 rfl) ?_
        refine lv_bipush (v := nI (27)) hx hb dm_Model_takeOut_36 (by decide) ?_
        refine lv_bipush (v := nI (25)) hx hb dm_Model_takeOut_38 (by decide) ?_
        refine pw_callV (rest := []) S hW (mm_Model_commonOf l D k g σ4 w4 hP hP31 (a := 27) (b := 25) (by omega) (by omega) (by omega)) (cv_Model_81 S.1.2.2.2.2 ⟨by decide, by decide⟩) (by decide) en_Model rfl rfl hl.1 rfl (lv_room (Nat.le_of_ble_eq_true rfl)) ⟨Nat.zero_le _, Nat.zero_le _⟩ dm_Model_takeOut_40 (fun σ5 H locs hp5 hW => ?_)
        obtain ⟨w5, e5, s5⟩ := hp5
        have k5_27 : σ5 (300 + (27)) = τ (300 + 27) := by rw [s5 _ (by simp only [List.mem_cons, List.not_mem_nil, or_false]; omega)]; exact k4_27
        have k5_25 : σ5 (300 + (25)) = sp_quo P (τ (300 + 25)) (τ (300 + 27)) := by rw [s5 _ (by simp only [List.mem_cons, List.not_mem_nil, or_false]; omega)]; exact k4_25
        have k5_30 : σ5 (300 + (30)) = sp_gcd P (τ (300 + 27)) (sp_quo P (τ (300 + 25)) (τ (300 + 27))) := by rw [e5, k4_27, k4_25]
        have m5 : md_sm [300 + (25), 300 + (32), 300 + (29), 300 + (30), 300 + (31)] τ σ5 := md_sm_tr m4 s5 (by intro x9 hx9; simp only [List.mem_cons, List.not_mem_nil, or_false] at hx9 ⊢; omega) (by intro x9 hx9; simp only [List.mem_cons, List.not_mem_nil, or_false] at hx9 ⊢; omega)
        refine lv_aload_n hx hb dm_Model_takeOut_43 rfl (lv_at hl 1 rfl) ?_
        refine lv_bipush (v := nI (30)) hx hb dm_Model_takeOut_44 (by decide) ?_
        refine lv_bipush (v := nI (26)) hx hb dm_Model_takeOut_46 (by decide) ?_
        refine pw_callV (rest := []) S hW (mm_Model_copy l D k g σ5 w5 (a := 30) (b := 26) (by omega) (by omega)) (cv_Model_55 S.1.2.2.2.2 ⟨by decide, by decide⟩) (by decide) en_Model rfl rfl hl.1 rfl (lv_room (Nat.le_of_ble_eq_true rfl)) ⟨Nat.zero_le _, Nat.zero_le _⟩ dm_Model_takeOut_48 (fun σ6 H locs hp6 hW => ?_)
        obtain ⟨w6, e6, s6⟩ := hp6
        have k6_27 : σ6 (300 + (27)) = τ (300 + 27) := by rw [s6 _ (by simp only [List.mem_cons, List.not_mem_nil, or_false]; omega)]; exact k5_27
        have k6_25 : σ6 (300 + (25)) = sp_quo P (τ (300 + 25)) (τ (300 + 27)) := by rw [s6 _ (by simp only [List.mem_cons, List.not_mem_nil, or_false]; omega)]; exact k5_25
        have k6_30 : σ6 (300 + (30)) = sp_gcd P (τ (300 + 27)) (sp_quo P (τ (300 + 25)) (τ (300 + 27))) := by rw [s6 _ (by simp only [List.mem_cons, List.not_mem_nil, or_false]; omega)]; exact k5_30
        have k6_26 : σ6 (300 + (26)) = sp_gcd P (τ (300 + 27)) (sp_quo P (τ (300 + 25)) (τ (300 + 27))) := by rw [e6, k5_30]
        have m6 : md_sm [300 + (25), 300 + (32), 300 + (29), 300 + (30), 300 + (31), 300 + (26)] τ σ6 := md_sm_tr m5 s6 (by intro x9 hx9; simp only [List.mem_cons, List.not_mem_nil, or_false] at hx9 ⊢; omega) (by intro x9 hx9; simp only [List.mem_cons, List.not_mem_nil, or_false] at hx9 ⊢; omega)
        refine lv_aload_n hx hb dm_Model_takeOut_51 rfl (lv_at hl 1 rfl) ?_
        refine lv_bipush (v := nI (27)) hx hb dm_Model_takeOut_52 (by decide) ?_
        refine lv_bipush (v := nI (28)) hx hb dm_Model_takeOut_54 (by decide) ?_
        refine pw_callV (rest := []) S hW (mm_Model_copy l D k g σ6 w6 (a := 27) (b := 28) (by omega) (by omega)) (cv_Model_55 S.1.2.2.2.2 ⟨by decide, by decide⟩) (by decide) en_Model rfl rfl hl.1 rfl (lv_room (Nat.le_of_ble_eq_true rfl)) ⟨Nat.zero_le _, Nat.zero_le _⟩ dm_Model_takeOut_56 (fun σ7 H locs hp7 hW => ?_)
        obtain ⟨w7, e7, s7⟩ := hp7
        have k7_27 : σ7 (300 + (27)) = τ (300 + 27) := by rw [s7 _ (by simp only [List.mem_cons, List.not_mem_nil, or_false]; omega)]; exact k6_27
        have k7_25 : σ7 (300 + (25)) = sp_quo P (τ (300 + 25)) (τ (300 + 27)) := by rw [s7 _ (by simp only [List.mem_cons, List.not_mem_nil, or_false]; omega)]; exact k6_25
        have k7_30 : σ7 (300 + (30)) = sp_gcd P (τ (300 + 27)) (sp_quo P (τ (300 + 25)) (τ (300 + 27))) := by rw [s7 _ (by simp only [List.mem_cons, List.not_mem_nil, or_false]; omega)]; exact k6_30
        have k7_26 : σ7 (300 + (26)) = sp_gcd P (τ (300 + 27)) (sp_quo P (τ (300 + 25)) (τ (300 + 27))) := by rw [s7 _ (by simp only [List.mem_cons, List.not_mem_nil, or_false]; omega)]; exact k6_26
        have k7_28 : σ7 (300 + (28)) = τ (300 + 27) := by rw [e7, k6_27]
        have m7 : md_sm [300 + (25), 300 + (32), 300 + (29), 300 + (30), 300 + (31), 300 + (26), 300 + (28)] τ σ7 := md_sm_tr m6 s7 (by intro x9 hx9; simp only [List.mem_cons, List.not_mem_nil, or_false] at hx9 ⊢; omega) (by intro x9 hx9; simp only [List.mem_cons, List.not_mem_nil, or_false] at hx9 ⊢; omega)
        refine lv_aload_n hx hb dm_Model_takeOut_59 rfl (lv_at hl 1 rfl) ?_
        refine lv_bipush (v := nI (28)) hx hb dm_Model_takeOut_60 (by decide) ?_
        refine lv_bipush (v := nI (26)) hx hb dm_Model_takeOut_62 (by decide) ?_
        refine pw_callV (rest := []) S hW (mm_Model_rest l D k g σ7 w7 hP hP31 (a := 28) (b := 26) (by omega) (by omega) (by omega) (by omega) (by omega) (by rw [k7_26]; omega)) (cv_Model_52 S.1.2.2.2.2 ⟨by decide, by decide⟩) (by decide) en_Model rfl rfl hl.1 rfl (lv_room (Nat.le_of_ble_eq_true rfl)) ⟨Nat.zero_le _, Nat.zero_le _⟩ dm_Model_takeOut_64 (fun σ8 H locs hp8 hW => ?_)
        obtain ⟨w8, e8, s8⟩ := hp8
        have k8_27 : σ8 (300 + (27)) = τ (300 + 27) := by rw [s8 _ (by simp only [List.mem_cons, List.not_mem_nil, or_false]; omega)]; exact k7_27
        have k8_25 : σ8 (300 + (25)) = sp_quo P (τ (300 + 25)) (τ (300 + 27)) := by rw [s8 _ (by simp only [List.mem_cons, List.not_mem_nil, or_false]; omega)]; exact k7_25
        have k8_30 : σ8 (300 + (30)) = sp_gcd P (τ (300 + 27)) (sp_quo P (τ (300 + 25)) (τ (300 + 27))) := by rw [s8 _ (by simp only [List.mem_cons, List.not_mem_nil, or_false]; omega)]; exact k7_30
        have k8_26 : σ8 (300 + (26)) = sp_gcd P (τ (300 + 27)) (sp_quo P (τ (300 + 25)) (τ (300 + 27))) := by rw [s8 _ (by simp only [List.mem_cons, List.not_mem_nil, or_false]; omega)]; exact k7_26
        have k8_28 : σ8 (300 + (28)) = sp_rest P (τ (300 + 27)) (sp_gcd P (τ (300 + 27)) (sp_quo P (τ (300 + 25)) (τ (300 + 27)))) := by rw [e8.1, k7_28, k7_26]
        have k8_32 : σ8 (300 + (32)) = sp_quo P (τ (300 + 27)) (sp_gcd P (τ (300 + 27)) (sp_quo P (τ (300 + 25)) (τ (300 + 27)))) := by rw [e8.2, k7_28, k7_26]
        have m8 : md_sm [300 + (25), 300 + (32), 300 + (29), 300 + (30), 300 + (31), 300 + (26), 300 + (28)] τ σ8 := md_sm_tr m7 s8 (by intro x9 hx9; simp only [List.mem_cons, List.not_mem_nil, or_false] at hx9 ⊢; omega) (by intro x9 hx9; simp only [List.mem_cons, List.not_mem_nil, or_false] at hx9 ⊢; omega)
        refine lv_aload_n hx hb dm_Model_takeOut_67 rfl (lv_at hl 1 rfl) ?_
        refine lv_bipush (v := nI (32)) hx hb dm_Model_takeOut_68 (by decide) ?_
        refine lv_bipush (v := nI (27)) hx hb dm_Model_takeOut_70 (by decide) ?_
        refine pw_callV (rest := []) S hW (mm_Model_copy l D k g σ8 w8 (a := 32) (b := 27) (by omega) (by omega)) (cv_Model_55 S.1.2.2.2.2 ⟨by decide, by decide⟩) (by decide) en_Model rfl rfl hl.1 rfl (lv_room (Nat.le_of_ble_eq_true rfl)) ⟨Nat.zero_le _, Nat.zero_le _⟩ dm_Model_takeOut_72 (fun σ9 H locs hp9 hW => ?_)
        obtain ⟨w9, e9, s9⟩ := hp9
        have k9_25 : σ9 (300 + (25)) = sp_quo P (τ (300 + 25)) (τ (300 + 27)) := by rw [s9 _ (by simp only [List.mem_cons, List.not_mem_nil, or_false]; omega)]; exact k8_25
        have k9_30 : σ9 (300 + (30)) = sp_gcd P (τ (300 + 27)) (sp_quo P (τ (300 + 25)) (τ (300 + 27))) := by rw [s9 _ (by simp only [List.mem_cons, List.not_mem_nil, or_false]; omega)]; exact k8_30
        have k9_26 : σ9 (300 + (26)) = sp_gcd P (τ (300 + 27)) (sp_quo P (τ (300 + 25)) (τ (300 + 27))) := by rw [s9 _ (by simp only [List.mem_cons, List.not_mem_nil, or_false]; omega)]; exact k8_26
        have k9_28 : σ9 (300 + (28)) = sp_rest P (τ (300 + 27)) (sp_gcd P (τ (300 + 27)) (sp_quo P (τ (300 + 25)) (τ (300 + 27)))) := by rw [s9 _ (by simp only [List.mem_cons, List.not_mem_nil, or_false]; omega)]; exact k8_28
        have k9_32 : σ9 (300 + (32)) = sp_quo P (τ (300 + 27)) (sp_gcd P (τ (300 + 27)) (sp_quo P (τ (300 + 25)) (τ (300 + 27)))) := by rw [s9 _ (by simp only [List.mem_cons, List.not_mem_nil, or_false]; omega)]; exact k8_32
        have k9_27 : σ9 (300 + (27)) = sp_quo P (τ (300 + 27)) (sp_gcd P (τ (300 + 27)) (sp_quo P (τ (300 + 25)) (τ (300 + 27)))) := by rw [e9, k8_32]
        have m9 : md_sm [300 + (25), 300 + (32), 300 + (29), 300 + (30), 300 + (31), 300 + (26), 300 + (28), 300 + (27)] τ σ9 := md_sm_tr m8 s9 (by intro x9 hx9; simp only [List.mem_cons, List.not_mem_nil, or_false] at hx9 ⊢; omega) (by intro x9 hx9; simp only [List.mem_cons, List.not_mem_nil, or_false] at hx9 ⊢; omega)
        have smA : md_sm mk_W τ σ9 := md_sm_mo m9 (by decide +kernel)
        have hm4 := ml_sm smA mk_W_no (by omega)
        have smT : md_sm mt_X σ σ9 := md_sm_tr sτ smA (fun _ h => h) (fun _ h => mk_W_in h)
        have tail : ∀ (υ : st_T), md_wf P υ → ml_v υ = (if 1 < sp_sz (sp_quo P (τ (300 + 27)) (sp_gcd P (τ (300 + 27)) (sp_quo P (τ (300 + 25)) (τ (300 + 27))))) 31 then pi_in (i, d0, sp_quo P (τ (300 + 27)) (sp_gcd P (τ (300 + 27)) (sp_quo P (τ (300 + 25)) (τ (300 + 27))))) (ml_v τ) else ml_v τ) → υ 205 1 ≤ τ 205 1 + 1 → mj_ok d0 (i + 1) (ml_v υ) → (∀ j, j ≠ 1 → υ 205 j = σ 205 j) → υ (300 + 25) = sp_quo P (τ (300 + 25)) (τ (300 + 27)) → υ (300 + 26) = sp_gcd P (τ (300 + 27)) (sp_quo P (τ (300 + 25)) (τ (300 + 27))) → md_sm mt_X σ υ → ∀ (ls : Array Slot) (H : Heap) (locs : List Loc), lv_has ls 3 [(2, .int (nI (i))), (0, .ref (g (149))), (1, .int (nI (d0)))] → pw_H D cl_s A s.heap g 153 (en_s k g (υ)) H locs → W p l e rm_Model_takeOut s m args below meth c H locs 0 0 Q (F0 m 90 ls []) := by
          intro υ wυ vυ cυ jυ j3 u25 u26 sυ ls H locs hl hW
          refine lv_aload_n hx hb dm_Model_takeOut_90 rfl (lv_at hl 1 rfl) ?_
          refine lv_bipush (v := nI (26)) hx hb dm_Model_takeOut_91 (by decide) ?_
          refine lv_bipush (v := nI (27)) hx hb dm_Model_takeOut_93 (by decide) ?_
          refine pw_callV (rest := []) S hW (mm_Model_copy l D k g υ wυ (a := 26) (b := 27) (by omega) (by omega)) (cv_Model_55 S.1.2.2.2.2 ⟨by decide, by decide⟩) (by decide) en_Model rfl rfl hl.1 rfl (lv_room (Nat.le_of_ble_eq_true rfl)) ⟨Nat.zero_le _, Nat.zero_le _⟩ dm_Model_takeOut_95 (fun σ21 H locs hp21 hW => ?_)
          obtain ⟨w21, e21, s21⟩ := hp21
          have k21_25 : σ21 (300 + (25)) = sp_quo P (τ (300 + 25)) (τ (300 + 27)) := by rw [s21 _ (by simp only [List.mem_cons, List.not_mem_nil, or_false]; omega)]; exact u25
          have k21_26 : σ21 (300 + (26)) = sp_gcd P (τ (300 + 27)) (sp_quo P (τ (300 + 25)) (τ (300 + 27))) := by rw [s21 _ (by simp only [List.mem_cons, List.not_mem_nil, or_false]; omega)]; exact u26
          have k21_27 : σ21 (300 + (27)) = sp_gcd P (τ (300 + 27)) (sp_quo P (τ (300 + 25)) (τ (300 + 27))) := by rw [e21, u26]
          refine lv_iinc (k := 0) (v := nI (i + 1)) hx hb dm_Model_takeOut_98 hl rfl (by rw [show Int32.ofInt 1 = nI 1 from rfl, nI_add]) (by decide) rfl (fun ls hl => ?_)
          have hl : lv_has ls 3 [(2, .int (nI (i + 1))), (0, .ref (g (149))), (1, .int (nI (d0)))] := hl
          refine lv_goto (tgt := 10) hx hb dm_Model_takeOut_101 (by decide) ?_
          have hm6 := ml_sm s21 (by decide +kernel) (by omega)
          refine ih (i + 1) σ21 (by omega) w21 ?_ ?_ ?_ ?_ ?_ ?_ ?_ (fun j hj => by rw [hm6.2.1]; exact j3 j hj) (md_sm_tr sυ s21 (fun _ h => h) (by decide +kernel)) ls _ _ hl hW
          · rw [k21_27]
            exact b2
          · rw [k21_25]
            omega
          · rw [k21_27, k21_25]
            exact b4
          · rw [k21_25]
            omega
          · rw [k21_25, hm6.2.1]
            omega
          · rw [hm6.1]
            exact jυ
          · rw [k21_27, k21_25, hm6.1, vυ]
            exact fτ
        refine lv_aload_n hx hb dm_Model_takeOut_75 rfl (lv_at hl 1 rfl) ?_
        refine lv_bipush (v := nI (27)) hx hb dm_Model_takeOut_76 (by decide) ?_
        refine pw_callVI (rest := []) S hW (mm_Model_degree l D k g σ9 (s0 := 27) (P := P) (by omega) (w9.2 (27) (by omega)) hP31) (cv_Model_42 S.1.2.2.2.2 ⟨by decide, by decide⟩) (by decide) en_Model rfl rfl hl.1 rfl (lv_room (Nat.le_of_ble_eq_true rfl)) ⟨Nat.zero_le _, Nat.zero_le _⟩ dm_Model_takeOut_78 (fun r σ1 H locs hp hW => ?_)
        obtain ⟨hr, hp⟩ := hp
        rw [hp] at hW
        subst hr
        rw [k9_27]
        have zD31 := sp_sz_le (sp_quo P (τ (300 + 27)) (sp_gcd P (τ (300 + 27)) (sp_quo P (τ (300 + 25)) (τ (300 + 27))))) 31
        refine wi_if_le (tgt := 90) S (sd_T (by omega)) dm_Model_takeOut_81 (by decide) (fun hc => ?_) (fun hc => ?_)
        · refine tail σ9 w9 (by rw [if_neg (by omega)]; exact hm4.1) (by rw [hm4.2.1]; omega) (by rw [hm4.1]; exact mj_s jτ) (fun j hj => by rw [hm4.2.1]; exact j2 j hj) k9_25 k9_26 smT ls _ _ hl hW
        · refine lv_aload_n hx hb dm_Model_takeOut_84 rfl (lv_at hl 1 rfl) ?_
          refine lv_iload_n hx hb dm_Model_takeOut_85 rfl (lv_at hl 0 rfl) ?_
          refine lv_iload_n hx hb dm_Model_takeOut_86 rfl (lv_at hl 2 rfl) ?_
          have hof : ∀ t, t < σ9 205 1 → mv_t σ9 t ∈ ml_v τ := fun t ht => by
            rw [hm4.2.1] at ht
            rw [hm4.2.2 t (by omega)]
            exact ml_v_in ht
          refine pw_callV (rest := []) S hW (mm_Model_insert l D k g σ9 (e0 := i) (d0 := d0) w9 (by rw [hm4.2.1]; omega) (by omega) (by omega) (fun t ht => by have h9 : σ9 206 t ≤ 15 ∧ σ9 207 t ≤ 31 ∧ _ := jτ _ (hof t ht); omega) (fun t ht h9 => by have h8 : σ9 206 t ≤ 15 ∧ σ9 207 t ≤ 31 ∧ (σ9 207 t < d0 ∨ (σ9 207 t = d0 ∧ σ9 206 t < i)) := jτ _ (hof t ht); omega)) (cv_Model_94 S.1.2.2.2.2 ⟨by decide, by decide⟩) (by decide) en_Model rfl rfl hl.1 rfl (lv_room (Nat.le_of_ble_eq_true rfl)) ⟨Nat.zero_le _, Nat.zero_le _⟩ dm_Model_takeOut_87 (fun σ19 H locs hp19 hW => ?_)
          obtain ⟨w19, v19, ⟨c19, j19⟩, s19⟩ := hp19
          rw [hm4.1, k9_27] at v19
          refine tail σ19 w19 (by rw [if_pos (by omega)]; exact v19) (by rw [c19, hm4.2.1]; omega) (by rw [v19]; exact mj_in jτ (by omega) hd0) (fun j hj => by rw [j19 j hj, hm4.2.1]; exact j2 j hj) (by rw [s19 _ (by decide +kernel)]; exact k9_25) (by rw [s19 _ (by decide +kernel)]; exact k9_26) (md_sm_tr smT s19 (fun _ h => h) (fun _ h => mp_X_in h)) ls _ _ hl hW
  have hm1 := ml_sm s2 (by decide +kernel) (by omega)
  refine loop 15 1 σ2 (by omega) w2 ?_ ?_ ?_ ?_ ?_ ?_ ?_ (fun j hj => by rw [hm1.2.1]) (md_sm_mo s2 (by decide +kernel)) ls _ _ hl hW
  · rw [k2_27]
    exact hC0
  · rw [k2_25]
    exact hA0
  · rw [k2_27, k2_25]
    exact hdv
  · rw [k2_25]
    omega
  · rw [k2_25, hm1.2.1]
    exact hcnt
  · rw [hm1.1]
    exact fun p hp => by have := hL p hp; omega
  · rw [k2_27, k2_25, hm1.1]
