/-! Frobenius: nextDegreeInto, findsPrime, gatherInto -/
/-- x^(P^d) less x -/
theorem fz_q {P : Nat} (hP : 2 ≤ P) {M c : Nat → Nat} {d : Nat} (h : sp_is P M c (pz_pw pz_X (P ^ d))) : sp_ok P (sp_add P c sp_x (P - 1)) ∧ @ag_q pz_T pz_R (pz_I P (pe_f M)) (pe_f (sp_add P c sp_x (P - 1))) (dd_z P d) := by
  have hI := pz_I_ok P (pe_f M)
  have hx := sp_x_ok hP
  refine ⟨sp_add_ok (by omega) h.1 hx _, ?_⟩
  have h1 := sp_add_pe (show 0 < P by omega) h.1 hx (P - 1)
  rw [sp_x_pe] at h1
  refine @ag_tr pz_T pz_R _ hI _ _ _ (@ag_If_q pz_T pz_R (pz_E P) (pe_f M) _ _ h1) (@ag_ad pz_T pz_R _ hI _ _ _ _ h.2.2 ?_)
  refine @ag_If_q pz_T pz_R (pz_E P) (pe_f M) _ _ (fun i => ?_)
  show (P : Int) ∣ pz_mul (pz_mo 0 ((P - 1 : Nat) : Int)).1 pz_X.1 i + - -pz_X.1 i
  rw [pz_mul_ct, Int.natCast_sub (by omega), Int.sub_mul]
  rw [show (P : Int) * pz_X.1 i - ((1 : Nat) : Int) * pz_X.1 i + - -pz_X.1 i = (P : Int) * pz_X.1 i by omega]
  exact Int.dvd_mul_right _ _
theorem pw_PP (P d : Nat) : pz_pw (pz_pw pz_X (P ^ d)) P = pz_pw pz_X (P ^ (d + 1)) := by
  rw [Nat.pow_succ]
  exact (@ag_pow_mul pz_T pz_R pz_X (P ^ d) P).symm
/-- the test that both programs do -/
def fp_T (P : Nat) (f : Nat → Nat) : Prop := 1 < sp_sz f 31 ∧ ∀ (d : Nat) (F : Nat → Nat), 1 ≤ d → 2 * d < sp_sz f 31 → sp_ok P F → @ag_q pz_T pz_R (pz_I P (pe_f f)) (pe_f F) (dd_z P d) → sp_sz (sp_gcd P F f) 31 ≤ 1
abbrev fb_Y : List Nat := [2, 4, 6, 8, 10, 12, 14, 16, 19, 24, 26, 28, 30, 32, 34, 36, 38, 40, 42, 44, 46, 48, 50, 52, 54, 56, 58, 60]
/-- a a^P a^(P^2) .. or their sum -/
def fb_acc (P b : Nat) (z : pz_T) (c : Nat) : pz_T := if b = 1 then @ag_nm pz_T pz_R z P c else @ag_sm pz_T pz_R (fun j => pz_pw z (P ^ j)) c
theorem dm_Frob_nextDegreeInto_0 : decode bm_Frob_nextDegreeInto 0 = .ok (.aload_n 0, 1) := by decide +kernel
theorem dm_Frob_nextDegreeInto_1 : decode bm_Frob_nextDegreeInto 1 = .ok (.aload_n 0, 1) := by decide +kernel
theorem dm_Frob_nextDegreeInto_2 : decode bm_Frob_nextDegreeInto 2 = .ok (.getfield 31, 3) := by decide +kernel
theorem dm_Frob_nextDegreeInto_5 : decode bm_Frob_nextDegreeInto 5 = .ok (.invokevirtual 73, 3) := by decide +kernel
theorem dm_Frob_nextDegreeInto_8 : decode bm_Frob_nextDegreeInto 8 = .ok (.aload_n 0, 1) := by decide +kernel
theorem dm_Frob_nextDegreeInto_9 : decode bm_Frob_nextDegreeInto 9 = .ok (.getfield 37, 3) := by decide +kernel
theorem dm_Frob_nextDegreeInto_12 : decode bm_Frob_nextDegreeInto 12 = .ok (.aload_n 0, 1) := by decide +kernel
theorem dm_Frob_nextDegreeInto_13 : decode bm_Frob_nextDegreeInto 13 = .ok (.getfield 34, 3) := by decide +kernel
theorem dm_Frob_nextDegreeInto_16 : decode bm_Frob_nextDegreeInto 16 = .ok (.aload_n 0, 1) := by decide +kernel
theorem dm_Frob_nextDegreeInto_17 : decode bm_Frob_nextDegreeInto 17 = .ok (.getfield 31, 3) := by decide +kernel
theorem dm_Frob_nextDegreeInto_20 : decode bm_Frob_nextDegreeInto 20 = .ok (.aload_n 0, 1) := by decide +kernel
theorem dm_Frob_nextDegreeInto_21 : decode bm_Frob_nextDegreeInto 21 = .ok (.getfield 18, 3) := by decide +kernel
theorem dm_Frob_nextDegreeInto_24 : decode bm_Frob_nextDegreeInto 24 = .ok (.aload_n 0, 1) := by decide +kernel
theorem dm_Frob_nextDegreeInto_25 : decode bm_Frob_nextDegreeInto 25 = .ok (.getfield 37, 3) := by decide +kernel
theorem dm_Frob_nextDegreeInto_28 : decode bm_Frob_nextDegreeInto 28 = .ok (.getfield 54, 3) := by decide +kernel
theorem dm_Frob_nextDegreeInto_31 : decode bm_Frob_nextDegreeInto 31 = .ok (.iconst 1, 1) := by decide +kernel
theorem dm_Frob_nextDegreeInto_32 : decode bm_Frob_nextDegreeInto 32 = .ok (.isub, 1) := by decide +kernel
theorem dm_Frob_nextDegreeInto_33 : decode bm_Frob_nextDegreeInto 33 = .ok (.invokevirtual 76, 3) := by decide +kernel
theorem dm_Frob_nextDegreeInto_36 : decode bm_Frob_nextDegreeInto 36 = .ok (.aload_n 0, 1) := by decide +kernel
theorem dm_Frob_nextDegreeInto_37 : decode bm_Frob_nextDegreeInto 37 = .ok (.getfield 37, 3) := by decide +kernel
theorem dm_Frob_nextDegreeInto_40 : decode bm_Frob_nextDegreeInto 40 = .ok (.aload_n 1, 1) := by decide +kernel
theorem dm_Frob_nextDegreeInto_41 : decode bm_Frob_nextDegreeInto 41 = .ok (.aload_n 0, 1) := by decide +kernel
theorem dm_Frob_nextDegreeInto_42 : decode bm_Frob_nextDegreeInto 42 = .ok (.getfield 34, 3) := by decide +kernel
theorem dm_Frob_nextDegreeInto_45 : decode bm_Frob_nextDegreeInto 45 = .ok (.aload_n 2, 1) := by decide +kernel
theorem dm_Frob_nextDegreeInto_46 : decode bm_Frob_nextDegreeInto 46 = .ok (.invokevirtual 80, 3) := by decide +kernel
theorem dm_Frob_nextDegreeInto_49 : decode bm_Frob_nextDegreeInto 49 = .ok (.return_, 1) := by decide +kernel
set_option maxHeartbeats 4000000 in
set_option maxRecDepth 100000 in
theorem mm_Frob_nextDegreeInto (l : Launch) (D : va_G) (k : ClassId × ClassId × ClassId) (g : Nat → Nat) (σ : st_T) {P x f d : Nat} {M : Nat → Nat} (hM : sp_ok P M) (hM2 : 1 < sp_sz M 31) (hM16 : sp_sz M 31 ≤ 16) (hw : st_wf P σ) (hP : ag_pr P) (hP31 : P < 2147483648) (hx_ : kd_k x = 0) (hf_ : kd_k f = 0) (hT : fb_t P M σ) (hc : sp_is P M (σ 28) (pz_pw pz_X (P ^ d))) (hx21 : σ 21 = sp_x) (hx28 : x ≠ 28) (hf8 : f ≠ 8) (hf24 : f ≠ 24) (hf28 : f ≠ 28) (hf30 : f ≠ 30) : mt_V l D k g ym_Frob_nextDegreeInto wm_Frob_nextDegreeInto rm_Frob_nextDegreeInto [.ref (g 18), .ref (g x), .ref (g f)] σ (fun σ1 => st_wf P σ1 ∧ (sp_is P M (σ1 28) (pz_pw pz_X (P ^ (d + 1))) ∧ σ1 x = sp_gcd P (sp_add P (σ1 28) sp_x (P - 1)) (σ f)) ∧ st_sm [x, 24, 28, 30, 4, 6, 8, 10] σ σ1) := by
  refine ct_V_in (cc := bm_Frob_nextDegreeInto) (maxL := 3) (by decide) rfl (Nat.le_of_ble_eq_true rfl) ?_
  intro p e s m args below meth c A ls Q S hl hW hret
  have S : pw_S p m c bm_Frob_nextDegreeInto 3 s args wa_g rc_Frob D cl_s (ty_s k) := S
  have hx := S.1.1
  have hb := S.1.2.1
  have hl : lv_has ls 3 [(0, .ref (g (18))), (1, .ref (g (x))), (2, .ref (g (f)))] := hl
  have hP2 := hP.1
  have kf := kd_po hf_
  have hI := pz_I_ok P (pe_f M)
  refine lv_aload_n hx hb dm_Frob_nextDegreeInto_0 rfl (lv_at hl 0 rfl) ?_
  refine lv_aload_n hx hb dm_Frob_nextDegreeInto_1 rfl (lv_at hl 0 rfl) ?_
  refine fr_climbing S hW (wa_in 125 (by decide +kernel) rfl) dm_Frob_nextDegreeInto_2 ?_
  refine pw_callV (rest := []) S hW (mm_Frob_raise l D k g σ hM hM2 hM16 hw hP hP31 (a := 28) rfl hT (by decide) (by decide) hc.2.1) (cv_Frob_73 S.1.2.2.2.2 ⟨by decide, by decide⟩) (by decide) en_Frob rfl rfl hl.1 rfl (lv_room (Nat.le_of_ble_eq_true rfl)) ⟨Nat.zero_le _, Nat.zero_le _⟩ dm_Frob_nextDegreeInto_5 (fun σ2 H locs hp2 hW => ?_)
  obtain ⟨w2, e2, s2⟩ := hp2
  have e228 : sp_is P M (σ2 28) (pz_pw pz_X (P ^ (d + 1))) := sp_is_q e2 (by rw [← pw_PP]; exact @ag_pw pz_T pz_R _ hI _ _ hc.2.2 P)
  have e221 : σ2 21 = sp_x := by rw [s2 21 (by decide) (by decide), hx21]
  have e2f : σ2 f = σ f := s2 f (by simp only [List.mem_cons, List.not_mem_nil, or_false]; omega) (by omega)
  have hz := fz_q hP2 e228
  refine lv_aload_n hx hb dm_Frob_nextDegreeInto_8 rfl (lv_at hl 0 rfl) ?_
  refine fr_ring S hW (wa_in 119 (by decide +kernel) rfl) dm_Frob_nextDegreeInto_9 ?_
  refine lv_aload_n hx hb dm_Frob_nextDegreeInto_12 rfl (lv_at hl 0 rfl) ?_
  refine fr_difference S hW (wa_in 126 (by decide +kernel) rfl) dm_Frob_nextDegreeInto_13 ?_
  refine lv_aload_n hx hb dm_Frob_nextDegreeInto_16 rfl (lv_at hl 0 rfl) ?_
  refine fr_climbing S hW (wa_in 125 (by decide +kernel) rfl) dm_Frob_nextDegreeInto_17 ?_
  refine lv_aload_n hx hb dm_Frob_nextDegreeInto_20 rfl (lv_at hl 0 rfl) ?_
  refine fr_variable S hW (wa_in 121 (by decide +kernel) rfl) dm_Frob_nextDegreeInto_21 ?_
  refine lv_aload_n hx hb dm_Frob_nextDegreeInto_24 rfl (lv_at hl 0 rfl) ?_
  refine fr_ring S hW (wa_in 119 (by decide +kernel) rfl) dm_Frob_nextDegreeInto_25 ?_
  refine rg_p S hW (wa_in 61 (by decide +kernel) rfl) dm_Frob_nextDegreeInto_28 ?_
  rw [w2.1]
  refine lv_iconst (v := nI (1)) hx hb dm_Frob_nextDegreeInto_31 (by decide) ?_
  refine wn_isub S (by omega) dm_Frob_nextDegreeInto_32 ?_
  refine pw_callV (rest := []) S hW (mm_Ring_sumInto l D k g σ2 w2 hP2 hP31 (x := 30) rfl (a := 28) rfl (b := 21) rfl (K := P - 1) (by omega)) (cv_Frob_76 S.1.2.2.2.2 ⟨by decide, by decide⟩) (by decide) en_Ring rfl rfl hl.1 rfl (lv_room (Nat.le_of_ble_eq_true rfl)) ⟨Nat.zero_le _, Nat.zero_le _⟩ dm_Frob_nextDegreeInto_33 (fun σ3 H locs hp3 hW => ?_)
  rw [hp3, e221] at hW
  have w3 : st_wf P (st_po σ2 30 (sp_add P (σ2 28) sp_x (P - 1))) := st_wf_po w2 (j := 30) rfl hz.1
  refine lv_aload_n hx hb dm_Frob_nextDegreeInto_36 rfl (lv_at hl 0 rfl) ?_
  refine fr_ring S hW (wa_in 119 (by decide +kernel) rfl) dm_Frob_nextDegreeInto_37 ?_
  refine lv_aload_n hx hb dm_Frob_nextDegreeInto_40 rfl (lv_at hl 1 rfl) ?_
  refine lv_aload_n hx hb dm_Frob_nextDegreeInto_41 rfl (lv_at hl 0 rfl) ?_
  refine fr_difference S hW (wa_in 126 (by decide +kernel) rfl) dm_Frob_nextDegreeInto_42 ?_
  refine lv_aload_n hx hb dm_Frob_nextDegreeInto_45 rfl (lv_at hl 2 rfl) ?_
  refine pw_callV (rest := []) S hW (mm_Ring_commonInto l D k g (st_po σ2 30 (sp_add P (σ2 28) sp_x (P - 1))) w3 hP hP31 hx_ (a := 30) rfl hf_ hf8) (cv_Frob_80 S.1.2.2.2.2 ⟨by decide, by decide⟩) (by decide) en_Ring rfl rfl hl.1 rfl (lv_room (Nat.le_of_ble_eq_true rfl)) ⟨Nat.zero_le _, Nat.zero_le _⟩ dm_Frob_nextDegreeInto_46 (fun σ4 H locs hp4 hW => ?_)
  obtain ⟨w4, e4, s4⟩ := hp4
  rw [st_po_at, st_po_row hf30 (by omega), e2f] at e4
  have e428 : σ4 28 = σ2 28 := by rw [s4 28 (by simp only [List.mem_cons, List.not_mem_nil, or_false]; omega) (by decide), st_po_row (by decide) (by decide)]
  exact hret _ _ _ _ _ dm_Frob_nextDegreeInto_49 ⟨w4, ⟨by rw [e428]; exact e228, by rw [e428]; exact e4⟩, st_sm_tr (st_sm_tr s2 (st_sm_po _ 30 _) (Z := [x, 24, 28, 30, 4, 6, 8, 10]) (by intro a ha; simp only [List.mem_cons, List.not_mem_nil, or_false] at ha ⊢; omega) (by intro a ha; simp only [List.mem_cons, List.not_mem_nil, or_false] at ha ⊢; omega)) s4 (by intro a ha; simp only [List.mem_cons, List.not_mem_nil, or_false] at ha ⊢; omega) (by intro a ha; simp only [List.mem_cons, List.not_mem_nil, or_false] at ha ⊢; omega)⟩ hW
theorem dm_Frob_findsPrime_0 : decode bm_Frob_findsPrime 0 = .ok (.aload_n 1, 1) := by decide +kernel
theorem dm_Frob_findsPrime_1 : decode bm_Frob_findsPrime 1 = .ok (.getfield 62, 3) := by decide +kernel
theorem dm_Frob_findsPrime_4 : decode bm_Frob_findsPrime 4 = .ok (.iconst 1, 1) := by decide +kernel
theorem dm_Frob_findsPrime_5 : decode bm_Frob_findsPrime 5 = .ok (.if_icmp .ge 5, 3) := by decide +kernel
theorem dm_Frob_findsPrime_8 : decode bm_Frob_findsPrime 8 = .ok (.iconst 0, 1) := by decide +kernel
theorem dm_Frob_findsPrime_9 : decode bm_Frob_findsPrime 9 = .ok (.ireturn, 1) := by decide +kernel
theorem dm_Frob_findsPrime_10 : decode bm_Frob_findsPrime 10 = .ok (.aload_n 0, 1) := by decide +kernel
theorem dm_Frob_findsPrime_11 : decode bm_Frob_findsPrime 11 = .ok (.aload_n 1, 1) := by decide +kernel
theorem dm_Frob_findsPrime_12 : decode bm_Frob_findsPrime 12 = .ok (.invokevirtual 83, 3) := by decide +kernel
theorem dm_Frob_findsPrime_15 : decode bm_Frob_findsPrime 15 = .ok (.iconst 1, 1) := by decide +kernel
theorem dm_Frob_findsPrime_16 : decode bm_Frob_findsPrime 16 = .ok (.istore_n 2, 1) := by decide +kernel
theorem dm_Frob_findsPrime_17 : decode bm_Frob_findsPrime 17 = .ok (.iconst 2, 1) := by decide +kernel
theorem dm_Frob_findsPrime_18 : decode bm_Frob_findsPrime 18 = .ok (.iload_n 2, 1) := by decide +kernel
theorem dm_Frob_findsPrime_19 : decode bm_Frob_findsPrime 19 = .ok (.imul, 1) := by decide +kernel
theorem dm_Frob_findsPrime_20 : decode bm_Frob_findsPrime 20 = .ok (.aload_n 1, 1) := by decide +kernel
theorem dm_Frob_findsPrime_21 : decode bm_Frob_findsPrime 21 = .ok (.getfield 62, 3) := by decide +kernel
theorem dm_Frob_findsPrime_24 : decode bm_Frob_findsPrime 24 = .ok (.if_icmp .gt 30, 3) := by decide +kernel
theorem dm_Frob_findsPrime_27 : decode bm_Frob_findsPrime 27 = .ok (.aload_n 0, 1) := by decide +kernel
theorem dm_Frob_findsPrime_28 : decode bm_Frob_findsPrime 28 = .ok (.aload_n 0, 1) := by decide +kernel
theorem dm_Frob_findsPrime_29 : decode bm_Frob_findsPrime 29 = .ok (.getfield 28, 3) := by decide +kernel
theorem dm_Frob_findsPrime_32 : decode bm_Frob_findsPrime 32 = .ok (.aload_n 1, 1) := by decide +kernel
theorem dm_Frob_findsPrime_33 : decode bm_Frob_findsPrime 33 = .ok (.invokevirtual 86, 3) := by decide +kernel
theorem dm_Frob_findsPrime_36 : decode bm_Frob_findsPrime 36 = .ok (.aload_n 0, 1) := by decide +kernel
theorem dm_Frob_findsPrime_37 : decode bm_Frob_findsPrime 37 = .ok (.getfield 28, 3) := by decide +kernel
theorem dm_Frob_findsPrime_40 : decode bm_Frob_findsPrime 40 = .ok (.getfield 62, 3) := by decide +kernel
theorem dm_Frob_findsPrime_43 : decode bm_Frob_findsPrime 43 = .ok (.ifCond .le 5, 3) := by decide +kernel
theorem dm_Frob_findsPrime_46 : decode bm_Frob_findsPrime 46 = .ok (.iconst 0, 1) := by decide +kernel
theorem dm_Frob_findsPrime_47 : decode bm_Frob_findsPrime 47 = .ok (.ireturn, 1) := by decide +kernel
theorem dm_Frob_findsPrime_48 : decode bm_Frob_findsPrime 48 = .ok (.iinc 2 1, 3) := by decide +kernel
theorem dm_Frob_findsPrime_51 : decode bm_Frob_findsPrime 51 = .ok (.goto (-34), 3) := by decide +kernel
theorem dm_Frob_findsPrime_54 : decode bm_Frob_findsPrime 54 = .ok (.iconst 1, 1) := by decide +kernel
theorem dm_Frob_findsPrime_55 : decode bm_Frob_findsPrime 55 = .ok (.ireturn, 1) := by decide +kernel
set_option maxHeartbeats 4000000 in
set_option maxRecDepth 100000 in
theorem mm_Frob_findsPrime (l : Launch) (D : va_G) (k : ClassId × ClassId × ClassId) (g : Nat → Nat) (σ : st_T) {P f : Nat} (hw : st_wf P σ) (hP : ag_pr P) (hP31 : P < 2147483648) (hf_ : kd_k f = 0) (hx21 : σ 21 = sp_x) (hf16 : σ 200 f ≤ 16) (hfY : f ∉ fb_Y) : mt_I l D k g ym_Frob_findsPrime wm_Frob_findsPrime rm_Frob_findsPrime [.ref (g 18), .ref (g f)] σ (fun r σ1 => ((r = nI 1 ∧ fp_T P (σ f)) ∨ (r = nI 0 ∧ ¬ fp_T P (σ f))) ∧ st_wf P σ1 ∧ st_sm fb_Y σ σ1) := by
  refine ct_Z_in (cc := bm_Frob_findsPrime) (maxL := 3) (by decide) rfl (Nat.le_of_ble_eq_true rfl) ?_
  intro p e s m args below meth c A ls Q S hl hW hret
  have S : pw_S p m c bm_Frob_findsPrime 3 s args wa_g rc_Frob D cl_s (ty_s k) := S
  have hx := S.1.1
  have hb := S.1.2.1
  have hl : lv_has ls 3 [(0, .ref (g (18))), (1, .ref (g (f)))] := hl
  have hP2 := hP.1
  have kf := kd_po hf_
  have hzf := (hw.2 f hf_).2
  have hof := (hw.2 f hf_).1
  have hfn : f ≠ 8 ∧ f ≠ 24 ∧ f ≠ 28 ∧ f ≠ 30 ∧ f ≠ 26 := ⟨fun z => hfY (by rw [z]; decide), fun z => hfY (by rw [z]; decide), fun z => hfY (by rw [z]; decide), fun z => hfY (by rw [z]; decide), fun z => hfY (by rw [z]; decide)⟩
  refine lv_aload_n hx hb dm_Frob_findsPrime_0 rfl (lv_at hl 1 rfl) ?_
  refine po_getd S hW hf_ (wa_in 48 (by decide +kernel) rfl) dm_Frob_findsPrime_1 ?_
  refine lv_iconst (v := nI (1)) hx hb dm_Frob_findsPrime_4 (by decide) ?_
  refine wi_icmp_ge (tgt := 10) S (sd_T (by omega)) (nn_T (by omega)) dm_Frob_findsPrime_5 (by decide) (fun hc => ?_) (fun hc => ?_)
  · refine lv_aload_n hx hb dm_Frob_findsPrime_10 rfl (lv_at hl 0 rfl) ?_
    refine lv_aload_n hx hb dm_Frob_findsPrime_11 rfl (lv_at hl 1 rfl) ?_
    refine pw_callV (rest := []) S hW (mm_Frob_prepareFor l D k g σ hw hP hP31 hf_ (by omega) hf16 hx21) (cv_Frob_83 S.1.2.2.2.2 ⟨by decide, by decide⟩) (by decide) en_Frob rfl rfl hl.1 rfl (lv_room (Nat.le_of_ble_eq_true rfl)) ⟨Nat.zero_le _, Nat.zero_le _⟩ dm_Frob_findsPrime_12 (fun σ2 H locs hp2 hW => ?_)
    obtain ⟨w2, ⟨t2, c2⟩, s2⟩ := hp2
    have s2 : st_sm fb_Y σ σ2 := st_sm_mo s2 (by decide)
    refine lv_iconst (v := nI (1)) hx hb dm_Frob_findsPrime_15 (by decide) ?_
    refine lv_istore_n hx hb dm_Frob_findsPrime_16 rfl hl (by decide) rfl (fun ls hl => ?_)
    have hl : lv_has ls 3 [(2, .int (nI (1))), (0, .ref (g (18))), (1, .ref (g (f)))] := hl
    have loop : ∀ (n d : Nat) (τ : st_T), d + n = 16 → st_wf P τ → st_sm fb_Y σ τ → fb_t P (σ f) τ → sp_is P (σ f) (τ 28) (pz_pw pz_X (P ^ d)) → (∀ (e : Nat) (F : Nat → Nat), 1 ≤ e → e ≤ d → sp_ok P F → @ag_q pz_T pz_R (pz_I P (pe_f (σ f))) (pe_f F) (dd_z P e) → sp_sz (sp_gcd P F (σ f)) 31 ≤ 1) → ∀ (ls : Array Slot) (H : Heap) (locs : List Loc), lv_has ls 3 [(2, .int (nI (d + 1))), (0, .ref (g (18))), (1, .ref (g (f)))] → pw_H D cl_s A s.heap g 153 (en_s k g (τ)) H locs → W p l e rm_Frob_findsPrime s m args below meth c H locs 0 0 Q (F0 m 17 ls []) := by
      intro n
      induction n with
      | zero =>
        intro d τ hd wτ sτ tT tc tt ls H locs hl hW
        have tf : τ f = σ f := sτ f hfY (by omega)
        have tz : τ 200 f = σ 200 f := by rw [(wτ.2 f hf_).2, tf, hzf]
        refine lv_iconst (v := nI (2)) hx hb dm_Frob_findsPrime_17 (by decide) ?_
        refine lv_iload_n hx hb dm_Frob_findsPrime_18 rfl (lv_at hl 0 rfl) ?_
        refine wn_imul S dm_Frob_findsPrime_19 ?_
        refine lv_aload_n hx hb dm_Frob_findsPrime_20 rfl (lv_at hl 2 rfl) ?_
        refine po_getd S hW hf_ (wa_in 48 (by decide +kernel) rfl) dm_Frob_findsPrime_21 ?_
        rw [tz]
        refine wi_icmp_gt (tgt := 54) S (nn_T (by omega)) (sd_T (by omega)) dm_Frob_findsPrime_24 (by decide) (fun hc => ?_) (fun hc => ?_)
        · refine lv_iconst (v := nI (1)) hx hb dm_Frob_findsPrime_54 (by decide) ?_
          exact hret _ _ _ _ _ _ dm_Frob_findsPrime_55 (by decide) ⟨Or.inl ⟨rfl, by omega, fun e F h1 h2 h3 h4 => tt e F h1 (by omega) h3 h4⟩, wτ, sτ⟩ hW
        · exfalso
          omega
      | succ n ih =>
        intro d τ hd wτ sτ tT tc tt ls H locs hl hW
        have tf : τ f = σ f := sτ f hfY (by omega)
        have tz : τ 200 f = σ 200 f := by rw [(wτ.2 f hf_).2, tf, hzf]
        refine lv_iconst (v := nI (2)) hx hb dm_Frob_findsPrime_17 (by decide) ?_
        refine lv_iload_n hx hb dm_Frob_findsPrime_18 rfl (lv_at hl 0 rfl) ?_
        refine wn_imul S dm_Frob_findsPrime_19 ?_
        refine lv_aload_n hx hb dm_Frob_findsPrime_20 rfl (lv_at hl 2 rfl) ?_
        refine po_getd S hW hf_ (wa_in 48 (by decide +kernel) rfl) dm_Frob_findsPrime_21 ?_
        rw [tz]
        refine wi_icmp_gt (tgt := 54) S (nn_T (by omega)) (sd_T (by omega)) dm_Frob_findsPrime_24 (by decide) (fun hc => ?_) (fun hc => ?_)
        · refine lv_iconst (v := nI (1)) hx hb dm_Frob_findsPrime_54 (by decide) ?_
          exact hret _ _ _ _ _ _ dm_Frob_findsPrime_55 (by decide) ⟨Or.inl ⟨rfl, by omega, fun e F h1 h2 h3 h4 => tt e F h1 (by omega) h3 h4⟩, wτ, sτ⟩ hW
        · refine lv_aload_n hx hb dm_Frob_findsPrime_27 rfl (lv_at hl 1 rfl) ?_
          refine lv_aload_n hx hb dm_Frob_findsPrime_28 rfl (lv_at hl 1 rfl) ?_
          refine fr_current S hW (wa_in 124 (by decide +kernel) rfl) dm_Frob_findsPrime_29 ?_
          refine lv_aload_n hx hb dm_Frob_findsPrime_32 rfl (lv_at hl 2 rfl) ?_
          refine pw_callV (rest := []) S hW (mm_Frob_nextDegreeInto l D k g τ hof (by omega) (by omega) wτ hP hP31 (x := 26) rfl hf_ tT tc (by rw [sτ 21 (by decide) (by decide), hx21]) (by decide) (by omega) (by omega) (by omega) (by omega)) (cv_Frob_86 S.1.2.2.2.2 ⟨by decide, by decide⟩) (by decide) en_Frob rfl rfl hl.1 rfl (lv_room (Nat.le_of_ble_eq_true rfl)) ⟨Nat.zero_le _, Nat.zero_le _⟩ dm_Frob_findsPrime_33 (fun σ4 H locs hp4 hW => ?_)
          obtain ⟨w4, ⟨c4, e4⟩, s4⟩ := hp4
          rw [tf] at e4
          have hz := fz_q hP2 c4
          have z26 := (w4.2 26 rfl).2
          have z31 := st_wf_sz w4 (j := 26) rfl
          rw [e4] at z26
          refine lv_aload_n hx hb dm_Frob_findsPrime_36 rfl (lv_at hl 1 rfl) ?_
          refine fr_current S hW (wa_in 124 (by decide +kernel) rfl) dm_Frob_findsPrime_37 ?_
          refine po_getd S hW rfl (wa_in 48 (by decide +kernel) rfl) dm_Frob_findsPrime_40 ?_
          refine wi_if_le (tgt := 48) S (sd_T (by omega)) dm_Frob_findsPrime_43 (by decide) (fun hc => ?_) (fun hc => ?_)
          · refine lv_iinc (k := 0) (v := nI (d + 1 + 1)) hx hb dm_Frob_findsPrime_48 hl rfl (by rw [show Int32.ofInt 1 = nI 1 from rfl, nI_add]) (by decide) rfl (fun ls hl => ?_)
            have hl : lv_has ls 3 [(2, .int (nI (d + 1 + 1))), (0, .ref (g (18))), (1, .ref (g (f)))] := hl
            refine lv_goto (tgt := 17) hx hb dm_Frob_findsPrime_51 (by decide) ?_
            refine ih (d + 1) σ4 (by omega) w4 (st_sm_tr sτ s4 (fun _ h => h) (by decide)) (fb_t_sm tT s4 (by omega) (by decide)) c4 (fun e F h1 h2 h3 h4 => ?_) ls H locs hl hW
            by_cases he : e = d + 1
            · have e5 : sp_gcd P F (σ f) = sp_gcd P (sp_add P (σ4 28) sp_x (P - 1)) (σ f) := sp_gcd_cg hP h3 hz.1 hof (by omega) (@ag_tr pz_T pz_R _ (pz_I_ok P _) _ _ _ h4 (by rw [he]; exact @ag_sy pz_T pz_R _ (pz_I_ok P _) _ _ hz.2))
              rw [e5]
              omega
            · exact tt e F h1 (by omega) h3 h4
          · refine lv_iconst (v := nI (0)) hx hb dm_Frob_findsPrime_46 (by decide) ?_
            exact hret _ _ _ _ _ _ dm_Frob_findsPrime_47 (by decide) ⟨Or.inr ⟨rfl, fun q => by have := q.2 (d + 1) _ (by omega) (by omega) hz.1 hz.2; omega⟩, w4, st_sm_tr sτ s4 (fun _ h => h) (by decide)⟩ hW
    refine loop 16 0 σ2 (by omega) w2 s2 t2 ?_ (fun e F h1 h2 _ _ => by omega) ls _ _ hl hW
    rw [Nat.pow_zero]
    have e1 : pz_pw pz_X 1 = pz_X := pz_R.one_mul _
    rw [e1]
    exact c2
  · refine lv_iconst (v := nI (0)) hx hb dm_Frob_findsPrime_8 (by decide) ?_
    exact hret _ _ _ _ _ _ dm_Frob_findsPrime_9 (by decide) ⟨Or.inr ⟨rfl, fun z => by have := z.1; omega⟩, hw, st_sm_rf _ _⟩ hW
theorem dm_Frob_gatherInto_0 : decode bm_Frob_gatherInto 0 = .ok (.aload_n 0, 1) := by decide +kernel
theorem dm_Frob_gatherInto_1 : decode bm_Frob_gatherInto 1 = .ok (.getfield 37, 3) := by decide +kernel
theorem dm_Frob_gatherInto_4 : decode bm_Frob_gatherInto 4 = .ok (.aload_n 0, 1) := by decide +kernel
theorem dm_Frob_gatherInto_5 : decode bm_Frob_gatherInto 5 = .ok (.getfield 28, 3) := by decide +kernel
theorem dm_Frob_gatherInto_8 : decode bm_Frob_gatherInto 8 = .ok (.aload_n 2, 1) := by decide +kernel
theorem dm_Frob_gatherInto_9 : decode bm_Frob_gatherInto 9 = .ok (.aload_n 0, 1) := by decide +kernel
theorem dm_Frob_gatherInto_10 : decode bm_Frob_gatherInto 10 = .ok (.getfield 12, 3) := by decide +kernel
theorem dm_Frob_gatherInto_13 : decode bm_Frob_gatherInto 13 = .ok (.invokevirtual 69, 3) := by decide +kernel
theorem dm_Frob_gatherInto_16 : decode bm_Frob_gatherInto 16 = .ok (.aload_n 1, 1) := by decide +kernel
theorem dm_Frob_gatherInto_17 : decode bm_Frob_gatherInto 17 = .ok (.aload_n 0, 1) := by decide +kernel
theorem dm_Frob_gatherInto_18 : decode bm_Frob_gatherInto 18 = .ok (.getfield 28, 3) := by decide +kernel
theorem dm_Frob_gatherInto_21 : decode bm_Frob_gatherInto 21 = .ok (.invokevirtual 45, 3) := by decide +kernel
theorem dm_Frob_gatherInto_24 : decode bm_Frob_gatherInto 24 = .ok (.iconst 1, 1) := by decide +kernel
theorem dm_Frob_gatherInto_25 : decode bm_Frob_gatherInto 25 = .ok (.istore 5, 2) := by decide +kernel
theorem dm_Frob_gatherInto_27 : decode bm_Frob_gatherInto 27 = .ok (.iload 5, 2) := by decide +kernel
theorem dm_Frob_gatherInto_29 : decode bm_Frob_gatherInto 29 = .ok (.iload_n 3, 1) := by decide +kernel
theorem dm_Frob_gatherInto_30 : decode bm_Frob_gatherInto 30 = .ok (.if_icmp .ge 56, 3) := by decide +kernel
theorem dm_Frob_gatherInto_33 : decode bm_Frob_gatherInto 33 = .ok (.aload_n 0, 1) := by decide +kernel
theorem dm_Frob_gatherInto_34 : decode bm_Frob_gatherInto 34 = .ok (.aload_n 0, 1) := by decide +kernel
theorem dm_Frob_gatherInto_35 : decode bm_Frob_gatherInto 35 = .ok (.getfield 28, 3) := by decide +kernel
theorem dm_Frob_gatherInto_38 : decode bm_Frob_gatherInto 38 = .ok (.invokevirtual 73, 3) := by decide +kernel
theorem dm_Frob_gatherInto_41 : decode bm_Frob_gatherInto 41 = .ok (.iload 4, 2) := by decide +kernel
theorem dm_Frob_gatherInto_43 : decode bm_Frob_gatherInto 43 = .ok (.ifCond .eq 23, 3) := by decide +kernel
theorem dm_Frob_gatherInto_46 : decode bm_Frob_gatherInto 46 = .ok (.aload_n 0, 1) := by decide +kernel
theorem dm_Frob_gatherInto_47 : decode bm_Frob_gatherInto 47 = .ok (.getfield 37, 3) := by decide +kernel
theorem dm_Frob_gatherInto_50 : decode bm_Frob_gatherInto 50 = .ok (.aload_n 1, 1) := by decide +kernel
theorem dm_Frob_gatherInto_51 : decode bm_Frob_gatherInto 51 = .ok (.aload_n 1, 1) := by decide +kernel
theorem dm_Frob_gatherInto_52 : decode bm_Frob_gatherInto 52 = .ok (.aload_n 0, 1) := by decide +kernel
theorem dm_Frob_gatherInto_53 : decode bm_Frob_gatherInto 53 = .ok (.getfield 28, 3) := by decide +kernel
theorem dm_Frob_gatherInto_56 : decode bm_Frob_gatherInto 56 = .ok (.aload_n 0, 1) := by decide +kernel
theorem dm_Frob_gatherInto_57 : decode bm_Frob_gatherInto 57 = .ok (.getfield 12, 3) := by decide +kernel
theorem dm_Frob_gatherInto_60 : decode bm_Frob_gatherInto 60 = .ok (.invokevirtual 65, 3) := by decide +kernel
theorem dm_Frob_gatherInto_63 : decode bm_Frob_gatherInto 63 = .ok (.goto 17, 3) := by decide +kernel
theorem dm_Frob_gatherInto_66 : decode bm_Frob_gatherInto 66 = .ok (.aload_n 0, 1) := by decide +kernel
theorem dm_Frob_gatherInto_67 : decode bm_Frob_gatherInto 67 = .ok (.getfield 37, 3) := by decide +kernel
theorem dm_Frob_gatherInto_70 : decode bm_Frob_gatherInto 70 = .ok (.aload_n 1, 1) := by decide +kernel
theorem dm_Frob_gatherInto_71 : decode bm_Frob_gatherInto 71 = .ok (.aload_n 1, 1) := by decide +kernel
theorem dm_Frob_gatherInto_72 : decode bm_Frob_gatherInto 72 = .ok (.aload_n 0, 1) := by decide +kernel
theorem dm_Frob_gatherInto_73 : decode bm_Frob_gatherInto 73 = .ok (.getfield 28, 3) := by decide +kernel
theorem dm_Frob_gatherInto_76 : decode bm_Frob_gatherInto 76 = .ok (.iconst 1, 1) := by decide +kernel
theorem dm_Frob_gatherInto_77 : decode bm_Frob_gatherInto 77 = .ok (.invokevirtual 76, 3) := by decide +kernel
theorem dm_Frob_gatherInto_80 : decode bm_Frob_gatherInto 80 = .ok (.iinc 5 1, 3) := by decide +kernel
theorem dm_Frob_gatherInto_83 : decode bm_Frob_gatherInto 83 = .ok (.goto (-56), 3) := by decide +kernel
theorem dm_Frob_gatherInto_86 : decode bm_Frob_gatherInto 86 = .ok (.return_, 1) := by decide +kernel
set_option maxHeartbeats 4000000 in
set_option maxRecDepth 100000 in
theorem mm_Frob_gatherInto (l : Launch) (D : va_G) (k : ClassId × ClassId × ClassId) (g : Nat → Nat) (σ : st_T) {P x a c0 b0 : Nat} {M : Nat → Nat} (hM : sp_ok P M) (hM2 : 1 < sp_sz M 31) (hM16 : sp_sz M 31 ≤ 16) (hw : st_wf P σ) (hP : ag_pr P) (hP31 : P < 2147483648) (hx_ : kd_k x = 0) (ha_ : kd_k a = 0) (hT : fb_t P M σ) (ha4 : a ≠ 4) (ha6 : a ≠ 6) (hxn : x ≠ 2 ∧ x ≠ 4 ∧ x ≠ 6 ∧ x ≠ 19 ∧ x ≠ 24 ∧ x ≠ 26 ∧ (x < 32 ∨ 60 < x)) (hc1 : 1 ≤ c0) (hc2 : c0 ≤ 31) (hb0 : b0 < 2) : mt_V l D k g ym_Frob_gatherInto wm_Frob_gatherInto rm_Frob_gatherInto [.ref (g 18), .ref (g x), .ref (g a), .int (nI c0), .int (nI b0)] σ (fun σ1 => st_wf P σ1 ∧ sp_is P M (σ1 x) (fb_acc P b0 (pe_f (σ a)) c0) ∧ st_sm [x, 2, 4, 6, 24, 26] σ σ1) := by
  refine ct_V_in (cc := bm_Frob_gatherInto) (maxL := 6) (by decide) rfl (Nat.le_of_ble_eq_true rfl) ?_
  intro p e s m args below meth c A ls Q S hl hW hret
  have S : pw_S p m c bm_Frob_gatherInto 6 s args wa_g rc_Frob D cl_s (ty_s k) := S
  have hx := S.1.1
  have hb := S.1.2.1
  have hl : lv_has ls 6 [(0, .ref (g (18))), (1, .ref (g (x))), (2, .ref (g (a))), (3, .int (nI (c0))), (4, .int (nI (b0)))] := hl
  have hP2 := hP.1
  have hp0 : 0 < P := by omega
  have kx := kd_po hx_
  have hI := pz_I_ok P (pe_f M)
  have hok := sp_mon_ok hP hM
  have hsz := sp_mon_sz hP hM
  have z19 : σ 200 19 = sp_sz M 31 := by rw [(hw.2 19 rfl).2, hT.1, hsz]
  refine lv_aload_n hx hb dm_Frob_gatherInto_0 rfl (lv_at hl 0 rfl) ?_
  refine fr_ring S hW (wa_in 119 (by decide +kernel) rfl) dm_Frob_gatherInto_1 ?_
  refine lv_aload_n hx hb dm_Frob_gatherInto_4 rfl (lv_at hl 0 rfl) ?_
  refine fr_current S hW (wa_in 124 (by decide +kernel) rfl) dm_Frob_gatherInto_5 ?_
  refine lv_aload_n hx hb dm_Frob_gatherInto_8 rfl (lv_at hl 2 rfl) ?_
  refine lv_aload_n hx hb dm_Frob_gatherInto_9 rfl (lv_at hl 0 rfl) ?_
  refine fr_modulus S hW (wa_in 120 (by decide +kernel) rfl) dm_Frob_gatherInto_10 ?_
  refine pw_callV (rest := []) S hW (mm_Ring_restInto l D k g σ hw hP hP31 (x := 26) rfl ha_ (b := 19) rfl ha4 ha6 (by decide) (by decide) (by omega)) (cv_Frob_69 S.1.2.2.2.2 ⟨by decide, by decide⟩) (by decide) en_Ring rfl rfl hl.1 rfl (lv_room (Nat.le_of_ble_eq_true rfl)) ⟨Nat.zero_le _, Nat.zero_le _⟩ dm_Frob_gatherInto_13 (fun σ2 H locs hp2 hW => ?_)
  obtain ⟨w2, e2, s2⟩ := hp2
  rw [hT.1] at e2
  have hr := (sp_mon_is hP hM).mp (sp_rest_is hP (hw.2 a ha_).1 hok (by omega))
  rw [← e2] at hr
  refine lv_aload_n hx hb dm_Frob_gatherInto_16 rfl (lv_at hl 1 rfl) ?_
  refine lv_aload_n hx hb dm_Frob_gatherInto_17 rfl (lv_at hl 0 rfl) ?_
  refine fr_current S hW (wa_in 124 (by decide +kernel) rfl) dm_Frob_gatherInto_18 ?_
  refine pw_callV (rest := []) S hW (mm_Poly_copyFrom l D k g σ2 w2 (i := 26) rfl hx_) (cv_Frob_45 S.1.2.2.2.2 ⟨by decide, by decide⟩) (kd_p1 hx_) (en_k0 hx_) rfl rfl hl.1 rfl (lv_room (Nat.le_of_ble_eq_true rfl)) ⟨Nat.zero_le _, Nat.zero_le _⟩ dm_Frob_gatherInto_21 (fun σ3 H locs hp3 hW => ?_)
  rw [hp3] at hW
  refine lv_iconst (v := nI (1)) hx hb dm_Frob_gatherInto_24 (by decide) ?_
  refine lv_istore hx hb dm_Frob_gatherInto_25 hl (by decide) rfl (fun ls hl => ?_)
  have hl : lv_has ls 6 [(5, .int (nI (1))), (0, .ref (g (18))), (1, .ref (g (x))), (2, .ref (g (a))), (3, .int (nI (c0))), (4, .int (nI (b0)))] := hl
  have hl : lv_has ls 6 [(5, .int (nI (1))), (0, .ref (g (18))), (1, .ref (g (x))), (3, .int (nI (c0))), (4, .int (nI (b0)))] := lv_sub hl [0, 1, 2, 4, 5] rfl
  have loop : ∀ (n i : Nat) (τ : st_T), i + 1 + n = c0 → st_wf P τ → st_sm [x, 2, 4, 6, 24, 26] σ τ → sp_is P M (τ 26) (pz_pw (pe_f (σ a)) (P ^ i)) → sp_is P M (τ x) (fb_acc P b0 (pe_f (σ a)) (i + 1)) → ∀ (ls : Array Slot) (H : Heap) (locs : List Loc), lv_has ls 6 [(5, .int (nI (i + 1))), (0, .ref (g (18))), (1, .ref (g (x))), (3, .int (nI (c0))), (4, .int (nI (b0)))] → pw_H D cl_s A s.heap g 153 (en_s k g (τ)) H locs → W p l e rm_Frob_gatherInto s m args below meth c H locs 0 0 Q (F0 m 27 ls []) := by
    intro n
    induction n with
    | zero =>
      intro i τ hi wτ sτ t26 tx ls H locs hl hW
      have tT : fb_t P M τ := fb_t_sm hT sτ hM16 (by intro a ha; simp only [List.mem_cons, List.not_mem_nil, or_false] at ha; omega)
      refine lv_iload hx hb dm_Frob_gatherInto_27 (lv_at hl 0 rfl) ?_
      refine lv_iload_n hx hb dm_Frob_gatherInto_29 rfl (lv_at hl 3 rfl) ?_
      refine wi_icmp_ge (tgt := 86) S (nn_T (by omega)) (nn_T (by omega)) dm_Frob_gatherInto_30 (by decide) (fun hc => ?_) (fun hc => ?_)
      · exact hret _ _ _ _ _ dm_Frob_gatherInto_86 ⟨wτ, by rw [← hi]; exact tx, sτ⟩ hW
      · exfalso
        omega
    | succ n ih =>
      intro i τ hi wτ sτ t26 tx ls H locs hl hW
      have tT : fb_t P M τ := fb_t_sm hT sτ hM16 (by intro a ha; simp only [List.mem_cons, List.not_mem_nil, or_false] at ha; omega)
      refine lv_iload hx hb dm_Frob_gatherInto_27 (lv_at hl 0 rfl) ?_
      refine lv_iload_n hx hb dm_Frob_gatherInto_29 rfl (lv_at hl 3 rfl) ?_
      refine wi_icmp_ge (tgt := 86) S (nn_T (by omega)) (nn_T (by omega)) dm_Frob_gatherInto_30 (by decide) (fun hc => ?_) (fun hc => ?_)
      · exfalso
        omega
      · refine lv_aload_n hx hb dm_Frob_gatherInto_33 rfl (lv_at hl 1 rfl) ?_
        refine lv_aload_n hx hb dm_Frob_gatherInto_34 rfl (lv_at hl 1 rfl) ?_
        refine fr_current S hW (wa_in 124 (by decide +kernel) rfl) dm_Frob_gatherInto_35 ?_
        refine pw_callV (rest := []) S hW (mm_Frob_raise l D k g τ hM hM2 hM16 wτ hP hP31 (a := 26) rfl tT (by decide) (by decide) t26.2.1) (cv_Frob_73 S.1.2.2.2.2 ⟨by decide, by decide⟩) (by decide) en_Frob rfl rfl hl.1 rfl (lv_room (Nat.le_of_ble_eq_true rfl)) ⟨Nat.zero_le _, Nat.zero_le _⟩ dm_Frob_gatherInto_38 (fun σ4 H locs hp4 hW => ?_)
        obtain ⟨w4, e4, s4⟩ := hp4
        have e426 : sp_is P M (σ4 26) (pz_pw (pe_f (σ a)) (P ^ (i + 1))) := sp_is_q e4 (@ag_tr pz_T pz_R _ hI _ _ _ (@ag_pw pz_T pz_R _ hI _ _ t26.2.2 P) (@ag_of_eq pz_T pz_R _ hI _ _ (by rw [Nat.pow_succ]; exact (@ag_pow_mul pz_T pz_R (pe_f (σ a)) (P ^ i) P).symm)))
        have e4x : σ4 x = τ x := s4 x (by simp only [List.mem_cons, List.not_mem_nil, or_false]; omega) (by omega)
        have s4 : st_sm [x, 2, 4, 6, 24, 26] σ σ4 := st_sm_tr sτ s4 (fun _ h => h) (by intro a ha; simp only [List.mem_cons, List.not_mem_nil, or_false] at ha ⊢; omega)
        have t4 : fb_t P M σ4 := fb_t_sm hT s4 hM16 (by intro a ha; simp only [List.mem_cons, List.not_mem_nil, or_false] at ha; omega)
        have z426 := (w4.2 26 rfl).2
        have z4x := (w4.2 x hx_).2
        have z419 : σ4 200 19 = sp_sz M 31 := by rw [(w4.2 19 rfl).2, t4.1, hsz]
        have b1 := e426.2.1
        have b2 := tx.2.1
        rw [e4x] at z4x
        refine lv_iload hx hb dm_Frob_gatherInto_41 (lv_at hl 4 rfl) ?_
        refine wi_if_eq (tgt := 66) S (nn_T (by omega)) dm_Frob_gatherInto_43 (by decide) (fun hc => ?_) (fun hc => ?_)
        · refine lv_aload_n hx hb dm_Frob_gatherInto_66 rfl (lv_at hl 1 rfl) ?_
          refine fr_ring S hW (wa_in 119 (by decide +kernel) rfl) dm_Frob_gatherInto_67 ?_
          refine lv_aload_n hx hb dm_Frob_gatherInto_70 rfl (lv_at hl 2 rfl) ?_
          refine lv_aload_n hx hb dm_Frob_gatherInto_71 rfl (lv_at hl 2 rfl) ?_
          refine lv_aload_n hx hb dm_Frob_gatherInto_72 rfl (lv_at hl 1 rfl) ?_
          refine fr_current S hW (wa_in 124 (by decide +kernel) rfl) dm_Frob_gatherInto_73 ?_
          refine lv_iconst (v := nI (1)) hx hb dm_Frob_gatherInto_76 (by decide) ?_
          refine pw_callV (rest := []) S hW (mm_Ring_sumInto l D k g σ4 w4 hP2 hP31 hx_ hx_ (b := 26) rfl (K := 1) (by omega)) (cv_Frob_76 S.1.2.2.2.2 ⟨by decide, by decide⟩) (by decide) en_Ring rfl rfl hl.1 rfl (lv_room (Nat.le_of_ble_eq_true rfl)) ⟨Nat.zero_le _, Nat.zero_le _⟩ dm_Frob_gatherInto_77 (fun σ5 H locs hp5 hW => ?_)
          rw [hp5, e4x] at hW
          have hs5 := sp_is_add hp0 tx e426 1
          have hs5 : sp_is P M (sp_add P (τ x) (σ4 26) 1) (fb_acc P b0 (pe_f (σ a)) (i + 1 + 1)) := by
            refine sp_is_q hs5 (@ag_of_eq pz_T pz_R _ hI _ _ ?_)
            unfold fb_acc
            rw [if_neg (by omega), if_neg (by omega)]
            have e9 : pz_ml (pz_ct ((1 : Nat) : Int)) (pz_pw (pe_f (σ a)) (P ^ (i + 1))) = pz_pw (pe_f (σ a)) (P ^ (i + 1)) := pz_R.one_mul _
            rw [e9]
            rfl
          refine lv_iinc (k := 0) (v := nI (i + 1 + 1)) hx hb dm_Frob_gatherInto_80 hl rfl (by rw [show Int32.ofInt 1 = nI 1 from rfl, nI_add]) (by decide) rfl (fun ls hl => ?_)
          have hl : lv_has ls 6 [(5, .int (nI (i + 1 + 1))), (0, .ref (g (18))), (1, .ref (g (x))), (3, .int (nI (c0))), (4, .int (nI (b0)))] := hl
          refine lv_goto (tgt := 27) hx hb dm_Frob_gatherInto_83 (by decide) ?_
          refine ih (i + 1) _ (by omega) (st_wf_po w4 hx_ hs5.1) (st_sm_tr s4 (st_sm_po _ x _) (fun _ h => h) (by intro a ha; rw [List.mem_singleton.mp ha]; exact List.mem_cons_self)) ?_ ?_ ls H locs hl hW
          · rw [st_po_row (by omega) (by decide)]
            exact e426
          · rw [st_po_at]
            exact hs5
        · refine lv_aload_n hx hb dm_Frob_gatherInto_46 rfl (lv_at hl 1 rfl) ?_
          refine fr_ring S hW (wa_in 119 (by decide +kernel) rfl) dm_Frob_gatherInto_47 ?_
          refine lv_aload_n hx hb dm_Frob_gatherInto_50 rfl (lv_at hl 2 rfl) ?_
          refine lv_aload_n hx hb dm_Frob_gatherInto_51 rfl (lv_at hl 2 rfl) ?_
          refine lv_aload_n hx hb dm_Frob_gatherInto_52 rfl (lv_at hl 1 rfl) ?_
          refine fr_current S hW (wa_in 124 (by decide +kernel) rfl) dm_Frob_gatherInto_53 ?_
          refine lv_aload_n hx hb dm_Frob_gatherInto_56 rfl (lv_at hl 1 rfl) ?_
          refine fr_modulus S hW (wa_in 120 (by decide +kernel) rfl) dm_Frob_gatherInto_57 ?_
          refine pw_callV (rest := []) S hW (mm_Ring_productRestInto l D k g σ4 w4 hP hP31 hx_ hx_ (b := 26) rfl (m0 := 19) rfl (by omega) (by decide) (by decide) (by decide) (by decide) (by omega) (by omega)) (cv_Frob_65 S.1.2.2.2.2 ⟨by decide, by decide⟩) (by decide) en_Ring rfl rfl hl.1 rfl (lv_room (Nat.le_of_ble_eq_true rfl)) ⟨Nat.zero_le _, Nat.zero_le _⟩ dm_Frob_gatherInto_60 (fun σ5 H locs hp5 hW => ?_)
          obtain ⟨w5, e5, s5⟩ := hp5
          rw [e4x, t4.1] at e5
          have hm5 := (sp_mon_is hP hM).mp (sp_mr hP tx.1 e426.1 hok (by omega) (by omega) ((sp_mon_I hP hM _).mpr tx.2.2) ((sp_mon_I hP hM _).mpr e426.2.2))
          rw [← e5] at hm5
          have hm5 : sp_is P M (σ5 x) (fb_acc P b0 (pe_f (σ a)) (i + 1 + 1)) := by
            refine sp_is_q hm5 (@ag_of_eq pz_T pz_R _ hI _ _ ?_)
            unfold fb_acc
            rw [if_pos (by omega), if_pos (by omega)]
            rfl
          refine lv_goto (tgt := 80) hx hb dm_Frob_gatherInto_63 (by decide) ?_
          refine lv_iinc (k := 0) (v := nI (i + 1 + 1)) hx hb dm_Frob_gatherInto_80 hl rfl (by rw [show Int32.ofInt 1 = nI 1 from rfl, nI_add]) (by decide) rfl (fun ls hl => ?_)
          have hl : lv_has ls 6 [(5, .int (nI (i + 1 + 1))), (0, .ref (g (18))), (1, .ref (g (x))), (3, .int (nI (c0))), (4, .int (nI (b0)))] := hl
          refine lv_goto (tgt := 27) hx hb dm_Frob_gatherInto_83 (by decide) ?_
          refine ih (i + 1) σ5 (by omega) w5 (st_sm_tr s4 s5 (fun _ h => h) (by intro a ha; simp only [List.mem_cons, List.not_mem_nil, or_false] at ha ⊢; omega)) ?_ hm5 ls H locs hl hW
          rw [s5 26 (by simp only [List.mem_cons, List.not_mem_nil, or_false]; omega) (by decide)]
          exact e426
  refine loop (c0 - 1) 0 _ (by omega) (st_wf_po w2 hx_ (w2.2 26 rfl).1) (st_sm_tr s2 (st_sm_po _ x _) (by intro a ha; simp only [List.mem_cons, List.not_mem_nil, or_false] at ha ⊢; omega) (by intro a ha; simp only [List.mem_cons, List.not_mem_nil, or_false] at ha ⊢; omega)) ?_ ?_ ls _ _ hl hW
  · rw [st_po_row (by omega) (by decide), Nat.pow_zero]
    have e1 : pz_pw (pe_f (σ a)) 1 = pe_f (σ a) := pz_R.one_mul _
    rw [e1]
    exact hr
  · rw [st_po_at]
    refine sp_is_q hr (@ag_of_eq pz_T pz_R _ hI _ _ ?_)
    have e1 : pz_pw (pe_f (σ a)) (P ^ 0) = pe_f (σ a) := by rw [Nat.pow_zero]; exact pz_R.one_mul _
    unfold fb_acc
    split
    · show pe_f (σ a) = pz_ml (pz_ct ((1 : Nat) : Int)) (pz_pw (pe_f (σ a)) (P ^ 0))
      rw [e1]
      exact (pz_R.one_mul _).symm
    · show pe_f (σ a) = pz_ad (pz_ct ((0 : Nat) : Int)) (pz_pw (pe_f (σ a)) (P ^ 0))
      rw [e1]
      refine pz_ext (fun i => ?_)
      show (pe_f (σ a)).1 i = (if i = 0 then ((0 : Nat) : Int) else 0) + (pe_f (σ a)).1 i
      split <;> simp
