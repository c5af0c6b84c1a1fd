/-! Parts: separatorInto, splitAt -/
theorem fm_m1 {x P : Nat} (hx : x < P) (hP : P < 2147483648) : fm_n (nI x - nI 1) P = (x + 1 * (P - 1)) % P := by
  have h1 : (nI x - nI 1).toInt = (x : Int) - 1 := by
    rw [Int32.toInt_sub, nI_toInt (by omega), nI_toInt (by omega), Int.bmod_def]
    omega
  have h2 := fm_T (x := nI x - nI 1) (show 0 < P by omega)
  rw [h1] at h2
  by_cases h0 : x = 0
  · rw [h0] at h2 ⊢
    have h3 : ((0 : Nat) : Int) - 1 = ((P : Int) - 1) + (P : Int) * (-1) := by omega
    rw [h3, Int.add_mul_emod_self_left, Int.emod_eq_of_lt (by omega) (by omega)] at h2
    rw [Nat.zero_add, Nat.one_mul, Nat.mod_eq_of_lt (by omega)]
    omega
  · rw [Int.emod_eq_of_lt (by omega) (by omega)] at h2
    rw [show x + 1 * (P - 1) = x - 1 + P by omega, Nat.add_mod_right, Nat.mod_eq_of_lt (by omega)]
    omega
/-- what the document calls u -/
def sep_z (P : Nat) (z : pz_T) (c : Nat) : pz_T := if P = 2 then fb_acc P 0 z c else pz_ad (pz_pw (fb_acc P 1 z c) ((P - 1) / 2)) (pz_ml (pz_ct ((P - 1 : Nat) : Int)) (pz_ct 1))
theorem sep_m1 {P : Nat} (hP : 2 ≤ P) {M u : Nat → Nat} {z : pz_T} (hM : 1 < sp_sz M 31) (h : sp_is P M u z) : sp_is P M (va_up u 0 ((u 0 + 1 * (P - 1)) % P)) (pz_ad z (pz_ml (pz_ct ((P - 1 : Nat) : Int)) (pz_ct 1))) := by
  have h1 : sp_is P M (va_up (fun _ => 0) 0 1) (pz_ct 1) := by
    refine ⟨sp_one_ok hP, ?_, ?_⟩
    · have h2 : sp_sz (va_up (fun _ => 0) 0 1) 31 ≤ 1 := sp_sz_lt (fun i hi => by rw [va_up_ne _ _ (by omega)])
      omega
    · rw [sp_one_pe]
      exact @ag_rf pz_T pz_R _ (pz_I_ok P _) _
  have h2 := sp_is_add (show 0 < P by omega) h h1 (P - 1)
  have e : sp_add P u (va_up (fun _ => 0) 0 1) (P - 1) = va_up u 0 ((u 0 + 1 * (P - 1)) % P) := funext (fun i => by
    show (u i + va_up (fun _ => 0) 0 1 i * (P - 1)) % P = va_up u 0 ((u 0 + 1 * (P - 1)) % P) i
    by_cases hi : i = 0
    · rw [hi, va_up_self, va_up_self]
    · rw [va_up_ne _ _ hi, va_up_ne _ _ hi, Nat.zero_mul, Nat.add_zero, Nat.mod_eq_of_lt (h.1 i).1])
  rwa [e] at h2
theorem dm_Parts_separatorInto_0 : decode bm_Parts_separatorInto 0 = .ok (.aload_n 0, 1) := by decide +kernel
theorem dm_Parts_separatorInto_1 : decode bm_Parts_separatorInto 1 = .ok (.getfield 33, 3) := by decide +kernel
theorem dm_Parts_separatorInto_4 : decode bm_Parts_separatorInto 4 = .ok (.getfield 105, 3) := by decide +kernel
theorem dm_Parts_separatorInto_7 : decode bm_Parts_separatorInto 7 = .ok (.iconst 2, 1) := by decide +kernel
theorem dm_Parts_separatorInto_8 : decode bm_Parts_separatorInto 8 = .ok (.if_icmp .ne 18, 3) := by decide +kernel
theorem dm_Parts_separatorInto_11 : decode bm_Parts_separatorInto 11 = .ok (.aload_n 0, 1) := by decide +kernel
theorem dm_Parts_separatorInto_12 : decode bm_Parts_separatorInto 12 = .ok (.getfield 37, 3) := by decide +kernel
theorem dm_Parts_separatorInto_15 : decode bm_Parts_separatorInto 15 = .ok (.aload_n 1, 1) := by decide +kernel
theorem dm_Parts_separatorInto_16 : decode bm_Parts_separatorInto 16 = .ok (.aload_n 2, 1) := by decide +kernel
theorem dm_Parts_separatorInto_17 : decode bm_Parts_separatorInto 17 = .ok (.aload_n 3, 1) := by decide +kernel
theorem dm_Parts_separatorInto_18 : decode bm_Parts_separatorInto 18 = .ok (.getfield 95, 3) := by decide +kernel
theorem dm_Parts_separatorInto_21 : decode bm_Parts_separatorInto 21 = .ok (.iconst 0, 1) := by decide +kernel
theorem dm_Parts_separatorInto_22 : decode bm_Parts_separatorInto 22 = .ok (.invokevirtual 108, 3) := by decide +kernel
theorem dm_Parts_separatorInto_25 : decode bm_Parts_separatorInto 25 = .ok (.return_, 1) := by decide +kernel
theorem dm_Parts_separatorInto_26 : decode bm_Parts_separatorInto 26 = .ok (.aload_n 0, 1) := by decide +kernel
theorem dm_Parts_separatorInto_27 : decode bm_Parts_separatorInto 27 = .ok (.getfield 37, 3) := by decide +kernel
theorem dm_Parts_separatorInto_30 : decode bm_Parts_separatorInto 30 = .ok (.aload_n 1, 1) := by decide +kernel
theorem dm_Parts_separatorInto_31 : decode bm_Parts_separatorInto 31 = .ok (.aload_n 2, 1) := by decide +kernel
theorem dm_Parts_separatorInto_32 : decode bm_Parts_separatorInto 32 = .ok (.aload_n 3, 1) := by decide +kernel
theorem dm_Parts_separatorInto_33 : decode bm_Parts_separatorInto 33 = .ok (.getfield 95, 3) := by decide +kernel
theorem dm_Parts_separatorInto_36 : decode bm_Parts_separatorInto 36 = .ok (.iconst 1, 1) := by decide +kernel
theorem dm_Parts_separatorInto_37 : decode bm_Parts_separatorInto 37 = .ok (.invokevirtual 108, 3) := by decide +kernel
theorem dm_Parts_separatorInto_40 : decode bm_Parts_separatorInto 40 = .ok (.aload_n 0, 1) := by decide +kernel
theorem dm_Parts_separatorInto_41 : decode bm_Parts_separatorInto 41 = .ok (.getfield 33, 3) := by decide +kernel
theorem dm_Parts_separatorInto_44 : decode bm_Parts_separatorInto 44 = .ok (.aload_n 1, 1) := by decide +kernel
theorem dm_Parts_separatorInto_45 : decode bm_Parts_separatorInto 45 = .ok (.aload_n 1, 1) := by decide +kernel
theorem dm_Parts_separatorInto_46 : decode bm_Parts_separatorInto 46 = .ok (.aload_n 0, 1) := by decide +kernel
theorem dm_Parts_separatorInto_47 : decode bm_Parts_separatorInto 47 = .ok (.getfield 33, 3) := by decide +kernel
theorem dm_Parts_separatorInto_50 : decode bm_Parts_separatorInto 50 = .ok (.getfield 105, 3) := by decide +kernel
theorem dm_Parts_separatorInto_53 : decode bm_Parts_separatorInto 53 = .ok (.iconst 1, 1) := by decide +kernel
theorem dm_Parts_separatorInto_54 : decode bm_Parts_separatorInto 54 = .ok (.isub, 1) := by decide +kernel
theorem dm_Parts_separatorInto_55 : decode bm_Parts_separatorInto 55 = .ok (.iconst 2, 1) := by decide +kernel
theorem dm_Parts_separatorInto_56 : decode bm_Parts_separatorInto 56 = .ok (.idiv, 1) := by decide +kernel
theorem dm_Parts_separatorInto_57 : decode bm_Parts_separatorInto 57 = .ok (.i2l, 1) := by decide +kernel
theorem dm_Parts_separatorInto_58 : decode bm_Parts_separatorInto 58 = .ok (.aload_n 3, 1) := by decide +kernel
theorem dm_Parts_separatorInto_59 : decode bm_Parts_separatorInto 59 = .ok (.getfield 98, 3) := by decide +kernel
theorem dm_Parts_separatorInto_62 : decode bm_Parts_separatorInto 62 = .ok (.invokevirtual 112, 3) := by decide +kernel
theorem dm_Parts_separatorInto_65 : decode bm_Parts_separatorInto 65 = .ok (.aload_n 1, 1) := by decide +kernel
theorem dm_Parts_separatorInto_66 : decode bm_Parts_separatorInto 66 = .ok (.iconst 0, 1) := by decide +kernel
theorem dm_Parts_separatorInto_67 : decode bm_Parts_separatorInto 67 = .ok (.aload_n 1, 1) := by decide +kernel
theorem dm_Parts_separatorInto_68 : decode bm_Parts_separatorInto 68 = .ok (.getfield 116, 3) := by decide +kernel
theorem dm_Parts_separatorInto_71 : decode bm_Parts_separatorInto 71 = .ok (.iconst 0, 1) := by decide +kernel
theorem dm_Parts_separatorInto_72 : decode bm_Parts_separatorInto 72 = .ok (.iaload, 1) := by decide +kernel
theorem dm_Parts_separatorInto_73 : decode bm_Parts_separatorInto 73 = .ok (.iconst 1, 1) := by decide +kernel
theorem dm_Parts_separatorInto_74 : decode bm_Parts_separatorInto 74 = .ok (.isub, 1) := by decide +kernel
theorem dm_Parts_separatorInto_75 : decode bm_Parts_separatorInto 75 = .ok (.aload_n 0, 1) := by decide +kernel
theorem dm_Parts_separatorInto_76 : decode bm_Parts_separatorInto 76 = .ok (.getfield 33, 3) := by decide +kernel
theorem dm_Parts_separatorInto_79 : decode bm_Parts_separatorInto 79 = .ok (.getfield 105, 3) := by decide +kernel
theorem dm_Parts_separatorInto_82 : decode bm_Parts_separatorInto 82 = .ok (.invokestatic 120, 3) := by decide +kernel
theorem dm_Parts_separatorInto_85 : decode bm_Parts_separatorInto 85 = .ok (.invokevirtual 126, 3) := by decide +kernel
theorem dm_Parts_separatorInto_88 : decode bm_Parts_separatorInto 88 = .ok (.return_, 1) := by decide +kernel
set_option maxHeartbeats 4000000 in
set_option maxRecDepth 100000 in
theorem mm_Parts_separatorInto (l : Launch) (D : va_G) (k : ClassId × ClassId × ClassId) (g : Nat → Nat) (σ : st_T) {P a j : Nat} (hw : st_wf P σ) (hP : ag_pr P) (hP31 : P < 2147483648) (ha_ : kd_k a = 0) (hj : kd_k j = 10) (hM2 : 1 < sp_sz (σ (j + 1)) 31) (hM16 : sp_sz (σ (j + 1)) 31 ≤ 16) (hT : fb_t P (σ (j + 1)) σ) (ha4 : a ≠ 4) (ha6 : a ≠ 6) (hc1 : 1 ≤ σ 202 j) (hc2 : σ 202 j ≤ 31) : mt_V l D k g ym_Parts_separatorInto wm_Parts_separatorInto rm_Parts_separatorInto [.ref (g 62), .ref (g 66), .ref (g a), .ref (g j)] σ (fun σ1 => st_wf P σ1 ∧ sp_is P (σ (j + 1)) (σ1 66) (sep_z P (pe_f (σ a)) (σ 202 j)) ∧ st_sm [2, 4, 6, 12, 14, 16, 24, 26, 66] σ σ1) := by
  refine ct_V_in (cc := bm_Parts_separatorInto) (maxL := 4) (by decide) rfl (Nat.le_of_ble_eq_true rfl) ?_
  intro p e s m args below meth c A ls Q S hl hW hret
  have S : pw_S p m c bm_Parts_separatorInto 4 s args wa_g rc_Parts D cl_s (ty_s k) := S
  have hx := S.1.1
  have hb := S.1.2.1
  have hl : lv_has ls 4 [(0, .ref (g (62))), (1, .ref (g (66))), (2, .ref (g (a))), (3, .ref (g (j)))] := hl
  have hP2 := hP.1
  have kj := kd_pa hj
  have hokM := (hw.2 (j + 1) kj.1).1
  have hzM := (hw.2 (j + 1) kj.1).2
  refine lv_aload_n hx hb dm_Parts_separatorInto_0 rfl (lv_at hl 0 rfl) ?_
  refine ps_ring S hW (wa_in 176 (by decide +kernel) rfl) dm_Parts_separatorInto_1 ?_
  refine rg_p S hW (wa_in 63 (by decide +kernel) rfl) dm_Parts_separatorInto_4 ?_
  rw [hw.1]
  refine lv_iconst (v := nI (2)) hx hb dm_Parts_separatorInto_7 (by decide) ?_
  refine wi_icmp_ne (tgt := 26) S (nn_T (by omega)) (nn_T (by omega)) dm_Parts_separatorInto_8 (by decide) (fun hc => ?_) (fun hc => ?_)
  · refine lv_aload_n hx hb dm_Parts_separatorInto_26 rfl (lv_at hl 0 rfl) ?_
    refine ps_frobenius S hW (wa_in 177 (by decide +kernel) rfl) dm_Parts_separatorInto_27 ?_
    refine lv_aload_n hx hb dm_Parts_separatorInto_30 rfl (lv_at hl 1 rfl) ?_
    refine lv_aload_n hx hb dm_Parts_separatorInto_31 rfl (lv_at hl 2 rfl) ?_
    refine lv_aload_n hx hb dm_Parts_separatorInto_32 rfl (lv_at hl 3 rfl) ?_
    refine pt_each S hW hj (wa_in 167 (by decide +kernel) rfl) dm_Parts_separatorInto_33 ?_
    refine lv_iconst (v := nI (1)) hx hb dm_Parts_separatorInto_36 (by decide) ?_
    refine pw_callV (rest := []) S hW (mm_Frob_gatherInto l D k g σ hokM hM2 hM16 hw hP hP31 (x := 66) (b0 := 1) rfl ha_ hT ha4 ha6 (by decide) hc1 hc2 (by decide)) (cv_Parts_108 S.1.2.2.2.2 ⟨by decide, by decide⟩) (by decide) en_Frob rfl rfl hl.1 rfl (lv_room (Nat.le_of_ble_eq_true rfl)) ⟨Nat.zero_le _, Nat.zero_le _⟩ dm_Parts_separatorInto_37 (fun σ2 H locs hp2 hW => ?_)
    obtain ⟨w2, e2, s2⟩ := hp2
    have e2j : σ2 (j + 1) = σ (j + 1) := s2 (j + 1) (by simp only [List.mem_cons, List.not_mem_nil, or_false]; omega) (by omega)
    have z2j : σ2 200 (j + 1) = sp_sz (σ (j + 1)) 31 := by rw [(w2.2 (j + 1) kj.1).2, e2j]
    refine lv_aload_n hx hb dm_Parts_separatorInto_40 rfl (lv_at hl 0 rfl) ?_
    refine ps_ring S hW (wa_in 176 (by decide +kernel) rfl) dm_Parts_separatorInto_41 ?_
    refine lv_aload_n hx hb dm_Parts_separatorInto_44 rfl (lv_at hl 1 rfl) ?_
    refine lv_aload_n hx hb dm_Parts_separatorInto_45 rfl (lv_at hl 1 rfl) ?_
    refine lv_aload_n hx hb dm_Parts_separatorInto_46 rfl (lv_at hl 0 rfl) ?_
    refine ps_ring S hW (wa_in 176 (by decide +kernel) rfl) dm_Parts_separatorInto_47 ?_
    refine rg_p S hW (wa_in 63 (by decide +kernel) rfl) dm_Parts_separatorInto_50 ?_
    rw [w2.1]
    refine lv_iconst (v := nI (1)) hx hb dm_Parts_separatorInto_53 (by decide) ?_
    refine wn_isub S (by omega) dm_Parts_separatorInto_54 ?_
    refine lv_iconst (v := nI (2)) hx hb dm_Parts_separatorInto_55 (by decide) ?_
    refine wn_idiv S (by omega) (by omega) (by omega) dm_Parts_separatorInto_56 ?_
    refine wn_i2l S (by omega) dm_Parts_separatorInto_57 ?_
    refine lv_aload_n hx hb dm_Parts_separatorInto_58 rfl (lv_at hl 3 rfl) ?_
    refine pt_poly S hW hj (wa_in 162 (by decide +kernel) rfl) dm_Parts_separatorInto_59 ?_
    refine pw_callV (rest := []) S hW (mm_Ring_powerInto l D k g σ2 w2 hP hP31 (x := 66) rfl (a := 66) rfl (m0 := j + 1) kj.1 (n0 := (P - 1) / 2) (by decide) (by decide) (by decide) (by omega) (by omega) (by omega)) (cv_Parts_112 S.1.2.2.2.2 ⟨by decide, by decide⟩) (by decide) en_Ring rfl rfl hl.1 rfl (lv_room (Nat.le_of_ble_eq_true rfl)) ⟨Nat.zero_le _, Nat.zero_le _⟩ dm_Parts_separatorInto_62 (fun σ3 H locs hp3 hW => ?_)
    obtain ⟨w3, e3, s3⟩ := hp3
    rw [e2j] at e3
    have hI := pz_I_ok P (pe_f (σ (j + 1)))
    have e3 := sp_is_q e3 (@ag_pw pz_T pz_R _ hI _ _ e2.2.2 ((P - 1) / 2))
    refine lv_aload_n hx hb dm_Parts_separatorInto_65 rfl (lv_at hl 1 rfl) ?_
    refine lv_iconst (v := nI (0)) hx hb dm_Parts_separatorInto_66 (by decide) ?_
    refine lv_aload_n hx hb dm_Parts_separatorInto_67 rfl (lv_at hl 1 rfl) ?_
    refine po_getc S hW rfl (wa_in 45 (by decide +kernel) rfl) dm_Parts_separatorInto_68 ?_
    refine lv_iconst (v := nI (0)) hx hb dm_Parts_separatorInto_71 (by decide) ?_
    refine po_ald S hW rfl (by omega) dm_Parts_separatorInto_72 ?_
    refine lv_iconst (v := nI (1)) hx hb dm_Parts_separatorInto_73 (by decide) ?_
    refine lv_isub hx hb dm_Parts_separatorInto_74 ?_
    refine lv_aload_n hx hb dm_Parts_separatorInto_75 rfl (lv_at hl 0 rfl) ?_
    refine ps_ring S hW (wa_in 176 (by decide +kernel) rfl) dm_Parts_separatorInto_76 ?_
    refine rg_p S hW (wa_in 63 (by decide +kernel) rfl) dm_Parts_separatorInto_79 ?_
    rw [w3.1]
    refine pw_callSI (rest := [.int (nI (0)), .ref (g (66))]) S hW (mm_Math_floorMod l D k g σ3 (x := nI (σ3 66 0) - nI 1) (P := P) (by omega) hP31) (cv_Parts_120 S.1.2.2.2.2 ⟨by decide, by decide⟩) rfl hl.1 rfl (lv_room (Nat.le_of_ble_eq_true rfl)) ⟨Nat.zero_le _, Nat.zero_le _⟩ dm_Parts_separatorInto_82 (fun r σ9 H locs hp hW => ?_)
    obtain ⟨hr, hp⟩ := hp
    rw [hp] at hW
    subst hr
    rw [fm_m1 (st_wf_lt w3 (j := 66) rfl 0) hP31]
    have hml : (σ3 66 0 + 1 * (P - 1)) % P < P := Nat.mod_lt _ (by omega)
    refine pw_callV (rest := []) S hW (mm_Poly_put l D k g σ3 (j := 66) (n := 0) rfl (by omega) (fun i => by have := st_wf_lt w3 (j := 66) rfl i; omega) (v := (σ3 66 0 + 1 * (P - 1)) % P) (by omega)) (cv_Parts_126 S.1.2.2.2.2 ⟨by decide, by decide⟩) (kd_p1 rfl) (en_k0 rfl) rfl rfl hl.1 rfl (lv_room (Nat.le_of_ble_eq_true rfl)) ⟨Nat.zero_le _, Nat.zero_le _⟩ dm_Parts_separatorInto_85 (fun σ4 H locs hp4 hW => ?_)
    rw [hp4, st_pt_po (j := 66) rfl] at hW
    have e4 := sep_m1 hP2 hM2 e3
    exact hret _ _ _ _ _ dm_Parts_separatorInto_88 ⟨st_wf_po w3 (j := 66) rfl e4.1, by rw [st_po_at]; unfold sep_z; rw [if_neg (by omega)]; exact e4, st_sm_tr (st_sm_tr s2 s3 (Z := [2, 4, 6, 12, 14, 16, 24, 26, 66]) (by decide) (by decide)) (st_sm_po _ 66 _) (fun _ h => h) (by decide)⟩ hW
  · refine lv_aload_n hx hb dm_Parts_separatorInto_11 rfl (lv_at hl 0 rfl) ?_
    refine ps_frobenius S hW (wa_in 177 (by decide +kernel) rfl) dm_Parts_separatorInto_12 ?_
    refine lv_aload_n hx hb dm_Parts_separatorInto_15 rfl (lv_at hl 1 rfl) ?_
    refine lv_aload_n hx hb dm_Parts_separatorInto_16 rfl (lv_at hl 2 rfl) ?_
    refine lv_aload_n hx hb dm_Parts_separatorInto_17 rfl (lv_at hl 3 rfl) ?_
    refine pt_each S hW hj (wa_in 167 (by decide +kernel) rfl) dm_Parts_separatorInto_18 ?_
    refine lv_iconst (v := nI (0)) hx hb dm_Parts_separatorInto_21 (by decide) ?_
    refine pw_callV (rest := []) S hW (mm_Frob_gatherInto l D k g σ hokM hM2 hM16 hw hP hP31 (x := 66) (b0 := 0) rfl ha_ hT ha4 ha6 (by decide) hc1 hc2 (by decide)) (cv_Parts_108 S.1.2.2.2.2 ⟨by decide, by decide⟩) (by decide) en_Frob rfl rfl hl.1 rfl (lv_room (Nat.le_of_ble_eq_true rfl)) ⟨Nat.zero_le _, Nat.zero_le _⟩ dm_Parts_separatorInto_22 (fun σ2 H locs hp2 hW => ?_)
    obtain ⟨w2, e2, s2⟩ := hp2
    exact hret _ _ _ _ _ dm_Parts_separatorInto_25 ⟨w2, by unfold sep_z; rw [if_pos (by omega)]; exact e2, st_sm_mo s2 (by decide)⟩ hW
theorem pl_v_po {P : Nat} {τ : st_T} {q : Nat} {f : Nat → Nat} (hw : st_wf P τ) (hpl : pl_ok τ) (hq : q < τ 203 1) (hc : τ 203 1 ≤ 15) (hf : sp_ok P f) : st_wf P (st_po τ (τ 204 q + 1) f) ∧ pl_ok (st_po τ (τ 204 q + 1) f) ∧ pl_v (st_po τ (τ 204 q + 1) f) = (pl_v τ).set q (τ 201 (τ 204 q), τ 202 (τ 204 q), f) ∧ (∀ a, 201 ≤ a → st_po τ (τ 204 q + 1) f a = τ a) := by
  have h1 := kd_pa (hpl.1 q (by omega))
  have hr : ∀ a, 201 ≤ a → st_po τ (τ 204 q + 1) f a = τ a := fun a ha => st_po_row (by omega) (by omega)
  refine ⟨st_wf_po hw h1.1 hf, ?_, ?_, hr⟩
  · unfold pl_ok
    rw [hr 204 (by omega)]
    exact hpl
  · apply List.ext_getElem?
    intro t
    by_cases ht : t < τ 203 1
    · rw [pl_v_at _ (by rw [hr 203 (by omega)]; exact ht)]
      by_cases he : t = q
      · subst he
        rw [List.getElem?_set_self (by rw [pl_v_len]; exact ht)]
        unfold pv_t
        rw [hr 201 (by omega), hr 202 (by omega), hr 204 (by omega), st_po_at]
      · rw [List.getElem?_set_ne (Ne.symm he), pl_v_at _ ht]
        have h2 := kd_pa (hpl.1 t (by omega))
        have h3 : τ 204 t ≠ τ 204 q := fun z => he (hpl.2 _ _ (by omega) (by omega) z)
        unfold pv_t
        rw [hr 201 (by omega), hr 202 (by omega), hr 204 (by omega), st_po_row (by omega) (by omega)]
    · rw [List.getElem?_eq_none (by rw [pl_v_len, hr 203 (by omega)]; omega), List.getElem?_eq_none (by rw [List.length_set, pl_v_len]; omega)]
abbrev sl_X : List Nat := fb_Y ++ ([66, 70] ++ pt_X)
theorem dm_Parts_splitAt_0 : decode bm_Parts_splitAt 0 = .ok (.aload_n 0, 1) := by decide +kernel
theorem dm_Parts_splitAt_1 : decode bm_Parts_splitAt 1 = .ok (.getfield 11, 3) := by decide +kernel
theorem dm_Parts_splitAt_4 : decode bm_Parts_splitAt 4 = .ok (.iload_n 1, 1) := by decide +kernel
theorem dm_Parts_splitAt_5 : decode bm_Parts_splitAt 5 = .ok (.aaload, 1) := by decide +kernel
theorem dm_Parts_splitAt_6 : decode bm_Parts_splitAt 6 = .ok (.astore_n 3, 1) := by decide +kernel
theorem dm_Parts_splitAt_7 : decode bm_Parts_splitAt 7 = .ok (.aload_n 3, 1) := by decide +kernel
theorem dm_Parts_splitAt_8 : decode bm_Parts_splitAt 8 = .ok (.getfield 98, 3) := by decide +kernel
theorem dm_Parts_splitAt_11 : decode bm_Parts_splitAt 11 = .ok (.astore 4, 2) := by decide +kernel
theorem dm_Parts_splitAt_13 : decode bm_Parts_splitAt 13 = .ok (.aload_n 0, 1) := by decide +kernel
theorem dm_Parts_splitAt_14 : decode bm_Parts_splitAt 14 = .ok (.getfield 37, 3) := by decide +kernel
theorem dm_Parts_splitAt_17 : decode bm_Parts_splitAt 17 = .ok (.aload 4, 2) := by decide +kernel
theorem dm_Parts_splitAt_19 : decode bm_Parts_splitAt 19 = .ok (.invokevirtual 64, 3) := by decide +kernel
theorem dm_Parts_splitAt_22 : decode bm_Parts_splitAt 22 = .ok (.aload_n 0, 1) := by decide +kernel
theorem dm_Parts_splitAt_23 : decode bm_Parts_splitAt 23 = .ok (.aload_n 0, 1) := by decide +kernel
theorem dm_Parts_splitAt_24 : decode bm_Parts_splitAt 24 = .ok (.getfield 24, 3) := by decide +kernel
theorem dm_Parts_splitAt_27 : decode bm_Parts_splitAt 27 = .ok (.aload_n 2, 1) := by decide +kernel
theorem dm_Parts_splitAt_28 : decode bm_Parts_splitAt 28 = .ok (.aload_n 3, 1) := by decide +kernel
theorem dm_Parts_splitAt_29 : decode bm_Parts_splitAt 29 = .ok (.invokevirtual 101, 3) := by decide +kernel
theorem dm_Parts_splitAt_32 : decode bm_Parts_splitAt 32 = .ok (.aload_n 0, 1) := by decide +kernel
theorem dm_Parts_splitAt_33 : decode bm_Parts_splitAt 33 = .ok (.getfield 33, 3) := by decide +kernel
theorem dm_Parts_splitAt_36 : decode bm_Parts_splitAt 36 = .ok (.aload_n 0, 1) := by decide +kernel
theorem dm_Parts_splitAt_37 : decode bm_Parts_splitAt 37 = .ok (.getfield 24, 3) := by decide +kernel
theorem dm_Parts_splitAt_40 : decode bm_Parts_splitAt 40 = .ok (.aload_n 0, 1) := by decide +kernel
theorem dm_Parts_splitAt_41 : decode bm_Parts_splitAt 41 = .ok (.getfield 24, 3) := by decide +kernel
theorem dm_Parts_splitAt_44 : decode bm_Parts_splitAt 44 = .ok (.aload 4, 2) := by decide +kernel
theorem dm_Parts_splitAt_46 : decode bm_Parts_splitAt 46 = .ok (.invokevirtual 85, 3) := by decide +kernel
theorem dm_Parts_splitAt_49 : decode bm_Parts_splitAt 49 = .ok (.aload_n 0, 1) := by decide +kernel
theorem dm_Parts_splitAt_50 : decode bm_Parts_splitAt 50 = .ok (.getfield 24, 3) := by decide +kernel
theorem dm_Parts_splitAt_53 : decode bm_Parts_splitAt 53 = .ok (.getfield 61, 3) := by decide +kernel
theorem dm_Parts_splitAt_56 : decode bm_Parts_splitAt 56 = .ok (.iconst 1, 1) := by decide +kernel
theorem dm_Parts_splitAt_57 : decode bm_Parts_splitAt 57 = .ok (.if_icmp .lt 18, 3) := by decide +kernel
theorem dm_Parts_splitAt_60 : decode bm_Parts_splitAt 60 = .ok (.aload_n 0, 1) := by decide +kernel
theorem dm_Parts_splitAt_61 : decode bm_Parts_splitAt 61 = .ok (.getfield 24, 3) := by decide +kernel
theorem dm_Parts_splitAt_64 : decode bm_Parts_splitAt 64 = .ok (.getfield 61, 3) := by decide +kernel
theorem dm_Parts_splitAt_67 : decode bm_Parts_splitAt 67 = .ok (.aload 4, 2) := by decide +kernel
theorem dm_Parts_splitAt_69 : decode bm_Parts_splitAt 69 = .ok (.getfield 61, 3) := by decide +kernel
theorem dm_Parts_splitAt_72 : decode bm_Parts_splitAt 72 = .ok (.if_icmp .lt 5, 3) := by decide +kernel
theorem dm_Parts_splitAt_75 : decode bm_Parts_splitAt 75 = .ok (.iconst 0, 1) := by decide +kernel
theorem dm_Parts_splitAt_76 : decode bm_Parts_splitAt 76 = .ok (.ireturn, 1) := by decide +kernel
theorem dm_Parts_splitAt_77 : decode bm_Parts_splitAt 77 = .ok (.aload_n 0, 1) := by decide +kernel
theorem dm_Parts_splitAt_78 : decode bm_Parts_splitAt 78 = .ok (.getfield 33, 3) := by decide +kernel
theorem dm_Parts_splitAt_81 : decode bm_Parts_splitAt 81 = .ok (.aload_n 0, 1) := by decide +kernel
theorem dm_Parts_splitAt_82 : decode bm_Parts_splitAt 82 = .ok (.getfield 30, 3) := by decide +kernel
theorem dm_Parts_splitAt_85 : decode bm_Parts_splitAt 85 = .ok (.aload 4, 2) := by decide +kernel
theorem dm_Parts_splitAt_87 : decode bm_Parts_splitAt 87 = .ok (.aload_n 0, 1) := by decide +kernel
theorem dm_Parts_splitAt_88 : decode bm_Parts_splitAt 88 = .ok (.getfield 24, 3) := by decide +kernel
theorem dm_Parts_splitAt_91 : decode bm_Parts_splitAt 91 = .ok (.invokevirtual 81, 3) := by decide +kernel
theorem dm_Parts_splitAt_94 : decode bm_Parts_splitAt 94 = .ok (.aload 4, 2) := by decide +kernel
theorem dm_Parts_splitAt_96 : decode bm_Parts_splitAt 96 = .ok (.aload_n 0, 1) := by decide +kernel
theorem dm_Parts_splitAt_97 : decode bm_Parts_splitAt 97 = .ok (.getfield 24, 3) := by decide +kernel
theorem dm_Parts_splitAt_100 : decode bm_Parts_splitAt 100 = .ok (.invokevirtual 52, 3) := by decide +kernel
theorem dm_Parts_splitAt_103 : decode bm_Parts_splitAt 103 = .ok (.aload_n 0, 1) := by decide +kernel
theorem dm_Parts_splitAt_104 : decode bm_Parts_splitAt 104 = .ok (.iload_n 1, 1) := by decide +kernel
theorem dm_Parts_splitAt_105 : decode bm_Parts_splitAt 105 = .ok (.iconst 1, 1) := by decide +kernel
theorem dm_Parts_splitAt_106 : decode bm_Parts_splitAt 106 = .ok (.iadd, 1) := by decide +kernel
theorem dm_Parts_splitAt_107 : decode bm_Parts_splitAt 107 = .ok (.aload_n 3, 1) := by decide +kernel
theorem dm_Parts_splitAt_108 : decode bm_Parts_splitAt 108 = .ok (.getfield 88, 3) := by decide +kernel
theorem dm_Parts_splitAt_111 : decode bm_Parts_splitAt 111 = .ok (.aload_n 3, 1) := by decide +kernel
theorem dm_Parts_splitAt_112 : decode bm_Parts_splitAt 112 = .ok (.getfield 95, 3) := by decide +kernel
theorem dm_Parts_splitAt_115 : decode bm_Parts_splitAt 115 = .ok (.aload_n 0, 1) := by decide +kernel
theorem dm_Parts_splitAt_116 : decode bm_Parts_splitAt 116 = .ok (.getfield 30, 3) := by decide +kernel
theorem dm_Parts_splitAt_119 : decode bm_Parts_splitAt 119 = .ok (.invokevirtual 91, 3) := by decide +kernel
theorem dm_Parts_splitAt_122 : decode bm_Parts_splitAt 122 = .ok (.iconst 1, 1) := by decide +kernel
theorem dm_Parts_splitAt_123 : decode bm_Parts_splitAt 123 = .ok (.ireturn, 1) := by decide +kernel
set_option maxHeartbeats 4000000 in
set_option maxRecDepth 100000 in
theorem mm_Parts_splitAt (l : Launch) (D : va_G) (k : ClassId × ClassId × ClassId) (g : Nat → Nat) (σ : st_T) {P q a : Nat} (hw : st_wf P σ) (hP : ag_pr P) (hP31 : P < 2147483648) (hpl : pl_ok σ) (ha_ : kd_k a = 0) (hx21 : σ 21 = sp_x) (hq : q < σ 203 1) (hcc0 : σ 203 1 ≤ 15) (hcd : 2 < σ 200 ((σ 204 q) + 1) → σ 203 1 < 15) (hM2 : 1 < σ 200 ((σ 204 q) + 1)) (hM16 : σ 200 ((σ 204 q) + 1) ≤ 16) (haY : a ∉ fb_Y) (ha66 : a ≠ 66) (hc1 : 1 ≤ σ 202 (σ 204 q)) (hc2 : σ 202 (σ 204 q) ≤ 31) : mt_I l D k g ym_Parts_splitAt wm_Parts_splitAt rm_Parts_splitAt [.ref (g 62), .int (nI q), .ref (g a)] σ (fun r σ1 => (st_wf P σ1 ∧ pl_ok σ1 ∧ σ1 203 2 = σ 203 2 ∧ st_sm sl_X σ σ1) ∧ ∃ U, sp_is P (σ ((σ 204 q) + 1)) U (sep_z P (pe_f (σ a)) (σ 202 (σ 204 q))) ∧ ((r = nI 0 ∧ (sp_sz (sp_gcd P U (σ ((σ 204 q) + 1))) 31 ≤ 1 ∨ sp_sz (σ ((σ 204 q) + 1)) 31 ≤ sp_sz (sp_gcd P U (σ ((σ 204 q) + 1))) 31) ∧ pl_v σ1 = pl_v σ) ∨ (r = nI 1 ∧ 1 < sp_sz (sp_gcd P U (σ ((σ 204 q) + 1))) 31 ∧ sp_sz (sp_gcd P U (σ ((σ 204 q) + 1))) 31 < sp_sz (σ ((σ 204 q) + 1)) 31 ∧ pl_v σ1 = ((pl_v σ).set q (σ 201 (σ 204 q), σ 202 (σ 204 q), sp_gcd P U (σ ((σ 204 q) + 1)))).take (q + 1) ++ (σ 201 (σ 204 q), σ 202 (σ 204 q), sp_quo P (σ ((σ 204 q) + 1)) (sp_gcd P U (σ ((σ 204 q) + 1)))) :: ((pl_v σ).set q (σ 201 (σ 204 q), σ 202 (σ 204 q), sp_gcd P U (σ ((σ 204 q) + 1)))).drop (q + 1)))) := by
  refine ct_Z_in (cc := bm_Parts_splitAt) (maxL := 5) (by decide) rfl (Nat.le_of_ble_eq_true rfl) ?_
  intro p e s m args below meth c A ls Q S hl hW hret
  have S : pw_S p m c bm_Parts_splitAt 5 s args wa_g rc_Parts D cl_s (ty_s k) := S
  have hx := S.1.1
  have hb := S.1.2.1
  have hl : lv_has ls 5 [(0, .ref (g (62))), (1, .int (nI (q))), (2, .ref (g (a)))] := hl
  have hP2 := hP.1
  have ka := kd_po ha_
  have hj := hpl.1 q (by omega)
  have kj := kd_pa hj
  have hzM := (hw.2 ((σ 204 q) + 1) kj.1).2
  have hokM := (hw.2 ((σ 204 q) + 1) kj.1).1
  have han : a ≠ 4 ∧ a ≠ 6 ∧ a ∉ fb_X := ⟨fun z => haY (by rw [z]; decide), fun z => haY (by rw [z]; decide), fun z => haY ((by decide : ∀ x ∈ fb_X, x ∈ fb_Y) a z)⟩
  have hjY : ((σ 204 q) + 1) ∉ fb_Y ∧ ((σ 204 q) + 1) ∉ fb_X := ⟨fun z => by have h9 := (by decide : ∀ x ∈ fb_Y, x < 61) _ z; omega, fun z => by have h9 := (by decide : ∀ x ∈ fb_X, x < 61) _ z; omega⟩
  refine lv_aload_n hx hb dm_Parts_splitAt_0 rfl (lv_at hl 0 rfl) ?_
  refine ps_list S hW (wa_in 178 (by decide +kernel) rfl) dm_Parts_splitAt_1 ?_
  refine lv_iload_n hx hb dm_Parts_splitAt_4 rfl (lv_at hl 1 rfl) ?_
  refine li_ald S hW (by omega) dm_Parts_splitAt_5 ?_
  refine lv_astore_n hx hb dm_Parts_splitAt_6 rfl hl (by decide) rfl (fun ls hl => ?_)
  have hl : lv_has ls 5 [(3, .ref (g (σ 204 (q)))), (0, .ref (g (62))), (1, .int (nI (q))), (2, .ref (g (a)))] := hl
  refine lv_aload_n hx hb dm_Parts_splitAt_7 rfl (lv_at hl 0 rfl) ?_
  refine pt_poly S hW (hpl.1 (q) (by omega)) (wa_in 162 (by decide +kernel) rfl) dm_Parts_splitAt_8 ?_
  refine lv_astore hx hb dm_Parts_splitAt_11 hl (by decide) rfl (fun ls hl => ?_)
  have hl : lv_has ls 5 [(4, .ref (g (σ 204 (q) + 1))), (3, .ref (g (σ 204 (q)))), (0, .ref (g (62))), (1, .int (nI (q))), (2, .ref (g (a)))] := hl
  refine lv_aload_n hx hb dm_Parts_splitAt_13 rfl (lv_at hl 2 rfl) ?_
  refine ps_frobenius S hW (wa_in 177 (by decide +kernel) rfl) dm_Parts_splitAt_14 ?_
  refine lv_aload hx hb dm_Parts_splitAt_17 (lv_at hl 0 rfl) ?_
  refine pw_callV (rest := []) S hW (mm_Frob_prepareFor l D k g σ hw hP hP31 (m0 := (σ 204 q) + 1) kj.1 hM2 hM16 hx21) (cv_Parts_64 S.1.2.2.2.2 ⟨by decide, by decide⟩) (by decide) en_Frob rfl rfl hl.1 rfl (lv_room (Nat.le_of_ble_eq_true rfl)) ⟨Nat.zero_le _, Nat.zero_le _⟩ dm_Parts_splitAt_19 (fun σ2 H locs hp2 hW => ?_)
  obtain ⟨w2, ⟨t2, -⟩, s2⟩ := hp2
  have e2j : σ2 ((σ 204 q) + 1) = σ ((σ 204 q) + 1) := s2 _ hjY.2 (by omega)
  have e2a : σ2 a = σ a := s2 a han.2.2 (by omega)
  have e2c : σ2 202 = σ 202 := s2 202 (by decide) (by decide)
  rw [← e2j] at t2
  refine lv_aload_n hx hb dm_Parts_splitAt_22 rfl (lv_at hl 2 rfl) ?_
  refine lv_aload_n hx hb dm_Parts_splitAt_23 rfl (lv_at hl 2 rfl) ?_
  refine ps_found S hW (wa_in 184 (by decide +kernel) rfl) dm_Parts_splitAt_24 ?_
  refine lv_aload_n hx hb dm_Parts_splitAt_27 rfl (lv_at hl 4 rfl) ?_
  refine lv_aload_n hx hb dm_Parts_splitAt_28 rfl (lv_at hl 1 rfl) ?_
  refine pw_callV (rest := []) S hW (mm_Parts_separatorInto l D k g σ2 w2 hP hP31 ha_ (j := (σ 204 q)) hj (by rw [e2j]; omega) (by rw [e2j]; omega) t2 han.1 han.2.1 (by rw [e2c]; exact hc1) (by rw [e2c]; exact hc2)) (cv_Parts_101 S.1.2.2.2.2 ⟨by decide, by decide⟩) (by decide) en_Parts rfl rfl hl.1 rfl (lv_room (Nat.le_of_ble_eq_true rfl)) ⟨Nat.zero_le _, Nat.zero_le _⟩ dm_Parts_splitAt_29 (fun σ3 H locs hp3 hW => ?_)
  obtain ⟨w3, e3, s3⟩ := hp3
  rw [e2j, e2a, e2c] at e3
  have e3j : σ3 ((σ 204 q) + 1) = σ ((σ 204 q) + 1) := by rw [s3 _ (by simp only [List.mem_cons, List.not_mem_nil, or_false]; omega) (by omega), e2j]
  refine lv_aload_n hx hb dm_Parts_splitAt_32 rfl (lv_at hl 2 rfl) ?_
  refine ps_ring S hW (wa_in 176 (by decide +kernel) rfl) dm_Parts_splitAt_33 ?_
  refine lv_aload_n hx hb dm_Parts_splitAt_36 rfl (lv_at hl 2 rfl) ?_
  refine ps_found S hW (wa_in 184 (by decide +kernel) rfl) dm_Parts_splitAt_37 ?_
  refine lv_aload_n hx hb dm_Parts_splitAt_40 rfl (lv_at hl 2 rfl) ?_
  refine ps_found S hW (wa_in 184 (by decide +kernel) rfl) dm_Parts_splitAt_41 ?_
  refine lv_aload hx hb dm_Parts_splitAt_44 (lv_at hl 0 rfl) ?_
  refine pw_callV (rest := []) S hW (mm_Ring_commonInto l D k g σ3 w3 hP hP31 (x := 66) rfl (a := 66) rfl (b := (σ 204 q) + 1) kj.1 (by omega)) (cv_Parts_85 S.1.2.2.2.2 ⟨by decide, by decide⟩) (by decide) en_Ring rfl rfl hl.1 rfl (lv_room (Nat.le_of_ble_eq_true rfl)) ⟨Nat.zero_le _, Nat.zero_le _⟩ dm_Parts_splitAt_46 (fun σ4 H locs hp4 hW => ?_)
  obtain ⟨w4, e4, s4⟩ := hp4
  rw [e3j] at e4
  have e4j : σ4 ((σ 204 q) + 1) = σ ((σ 204 q) + 1) := by rw [s4 _ (by simp only [List.mem_cons, List.not_mem_nil, or_false]; omega) (by omega), e3j]
  have sm4 : st_sm (fb_Y ++ [66, 70]) σ σ4 := st_sm_tr (st_sm_tr s2 s3 (Z := fb_Y ++ [66, 70]) (by decide +kernel) (by decide +kernel)) s4 (fun _ h => h) (by decide +kernel)
  have hv4 := pl_v_sm hpl sm4 (by decide +kernel) (by omega)
  have z4g := (w4.2 66 rfl).2
  have z4j := (w4.2 ((σ 204 q) + 1) kj.1).2
  have z4g31 := sp_sz_le (σ4 66) 31
  rw [e4j] at z4j
  have e4l : σ4 204 = σ 204 := sm4 204 (by decide +kernel) (by decide)
  have e4o : σ4 201 = σ 201 := sm4 201 (by decide +kernel) (by decide)
  have e4e : σ4 202 = σ 202 := sm4 202 (by decide +kernel) (by decide)
  refine lv_aload_n hx hb dm_Parts_splitAt_49 rfl (lv_at hl 2 rfl) ?_
  refine ps_found S hW (wa_in 184 (by decide +kernel) rfl) dm_Parts_splitAt_50 ?_
  refine po_getd S hW rfl (wa_in 50 (by decide +kernel) rfl) dm_Parts_splitAt_53 ?_
  refine lv_iconst (v := nI (1)) hx hb dm_Parts_splitAt_56 (by decide) ?_
  refine wi_icmp_lt (tgt := 75) S (sd_T (by omega)) (nn_T (by omega)) dm_Parts_splitAt_57 (by decide) (fun hc => ?_) (fun hc => ?_)
  · refine lv_iconst (v := nI (0)) hx hb dm_Parts_splitAt_75 (by decide) ?_
    exact hret _ _ _ _ _ _ dm_Parts_splitAt_76 (by decide) ⟨⟨w4, hv4.1.1, hv4.2.2.1, st_sm_mo sm4 (by decide +kernel)⟩, _, e3, Or.inl ⟨rfl, by rw [← e4]; omega, hv4.1.2⟩⟩ hW
  · refine lv_aload_n hx hb dm_Parts_splitAt_60 rfl (lv_at hl 2 rfl) ?_
    refine ps_found S hW (wa_in 184 (by decide +kernel) rfl) dm_Parts_splitAt_61 ?_
    refine po_getd S hW rfl (wa_in 50 (by decide +kernel) rfl) dm_Parts_splitAt_64 ?_
    refine lv_aload hx hb dm_Parts_splitAt_67 (lv_at hl 0 rfl) ?_
    refine po_getd S hW (kd_p4 (hpl.1 (q) (by omega))) (wa_in 50 (by decide +kernel) rfl) dm_Parts_splitAt_69 ?_
    refine wi_icmp_lt (tgt := 77) S (sd_T (by omega)) (sd_T (by omega)) dm_Parts_splitAt_72 (by decide) (fun hc => ?_) (fun hc => ?_)
    · have hcc := hcd (by omega)
      have hg := sp_gcd_ok hP e3.1 hokM
      have okG : sp_ok P (σ4 66) := (w4.2 66 rfl).1
      have okX := (sp_dv_ok hP hokM okG (by omega)).2.1
      refine lv_aload_n hx hb dm_Parts_splitAt_77 rfl (lv_at hl 2 rfl) ?_
      refine ps_ring S hW (wa_in 176 (by decide +kernel) rfl) dm_Parts_splitAt_78 ?_
      refine lv_aload_n hx hb dm_Parts_splitAt_81 rfl (lv_at hl 2 rfl) ?_
      refine ps_exact S hW (wa_in 186 (by decide +kernel) rfl) dm_Parts_splitAt_82 ?_
      refine lv_aload hx hb dm_Parts_splitAt_85 (lv_at hl 0 rfl) ?_
      refine lv_aload_n hx hb dm_Parts_splitAt_87 rfl (lv_at hl 2 rfl) ?_
      refine ps_found S hW (wa_in 184 (by decide +kernel) rfl) dm_Parts_splitAt_88 ?_
      refine pw_callV (rest := []) S hW (mm_Ring_quotientInto l D k g σ4 w4 hP hP31 (x := 70) rfl (a := (σ 204 q) + 1) kj.1 (b := 66) rfl (by omega) (by omega) (by decide) (by decide) (by omega)) (cv_Parts_81 S.1.2.2.2.2 ⟨by decide, by decide⟩) (by decide) en_Ring rfl rfl hl.1 rfl (lv_room (Nat.le_of_ble_eq_true rfl)) ⟨Nat.zero_le _, Nat.zero_le _⟩ dm_Parts_splitAt_91 (fun σ5 H locs hp5 hW => ?_)
      obtain ⟨w5, e5, s5⟩ := hp5
      rw [e4j] at e5
      have hv5 := pl_v_sm hv4.1.1 s5 (by decide +kernel) (by rw [hv4.2.1]; omega)
      have e566 : σ5 66 = σ4 66 := s5 66 (by decide) (by decide)
      have e5l : σ5 204 = σ 204 := by rw [s5 204 (by decide) (by decide), e4l]
      have e5c : σ5 203 1 = σ 203 1 := by rw [hv5.2.1, hv4.2.1]
      have e5o : σ5 201 = σ 201 := by rw [s5 201 (by decide) (by decide), e4o]
      have e5e : σ5 202 = σ 202 := by rw [s5 202 (by decide) (by decide), e4e]
      have hp6 := pl_v_po (q := q) (f := σ4 66) w5 hv5.1.1 (by rw [e5c]; exact hq) (by rw [e5c]; omega) okG
      rw [e5l, e5o, e5e, hv5.1.2, hv4.1.2] at hp6
      refine lv_aload hx hb dm_Parts_splitAt_94 (lv_at hl 0 rfl) ?_
      refine lv_aload_n hx hb dm_Parts_splitAt_96 rfl (lv_at hl 2 rfl) ?_
      refine ps_found S hW (wa_in 184 (by decide +kernel) rfl) dm_Parts_splitAt_97 ?_
      refine pw_callV (rest := []) S hW (mm_Poly_copyFrom l D k g σ5 w5 (i := 66) rfl (j := (σ 204 q) + 1) kj.1) (cv_Parts_52 S.1.2.2.2.2 ⟨by decide, by decide⟩) (kd_p1 (kd_p4 (hpl.1 (q) (by omega)))) (en_k0 (kd_p4 (hpl.1 (q) (by omega)))) rfl rfl hl.1 rfl (lv_room (Nat.le_of_ble_eq_true rfl)) ⟨Nat.zero_le _, Nat.zero_le _⟩ dm_Parts_splitAt_100 (fun σ6 H locs hq6 hW => ?_)
      rw [hq6, e566] at hW
      obtain ⟨w6, p6, v6, r6⟩ := hp6
      have r61 : (st_po σ5 ((σ 204 q) + 1) (σ4 66)) 203 1 = σ 203 1 := by rw [r6 203 (by omega), e5c]
      have o6 : (st_po σ5 ((σ 204 q) + 1) (σ4 66)) 201 (σ 204 q) = σ 201 (σ 204 q) := by rw [r6 201 (by omega), e5o]
      have c6 : (st_po σ5 ((σ 204 q) + 1) (σ4 66)) 202 (σ 204 q) = σ 202 (σ 204 q) := by rw [r6 202 (by omega), e5e]
      have e670 : (st_po σ5 ((σ 204 q) + 1) (σ4 66)) 70 = sp_quo P (σ ((σ 204 q) + 1)) (σ4 66) := by rw [st_po_row (by omega) (by decide), e5]
      refine lv_aload_n hx hb dm_Parts_splitAt_103 rfl (lv_at hl 2 rfl) ?_
      refine lv_iload_n hx hb dm_Parts_splitAt_104 rfl (lv_at hl 3 rfl) ?_
      refine lv_iconst (v := nI (1)) hx hb dm_Parts_splitAt_105 (by decide) ?_
      refine wn_iadd S dm_Parts_splitAt_106 ?_
      refine lv_aload_n hx hb dm_Parts_splitAt_107 rfl (lv_at hl 1 rfl) ?_
      refine pt_often S hW (hpl.1 (q) (by omega)) (wa_in 164 (by decide +kernel) rfl) dm_Parts_splitAt_108 ?_
      rw [o6]
      refine lv_aload_n hx hb dm_Parts_splitAt_111 rfl (lv_at hl 1 rfl) ?_
      refine pt_each S hW (hpl.1 (q) (by omega)) (wa_in 167 (by decide +kernel) rfl) dm_Parts_splitAt_112 ?_
      rw [c6]
      refine lv_aload_n hx hb dm_Parts_splitAt_115 rfl (lv_at hl 2 rfl) ?_
      refine ps_exact S hW (wa_in 186 (by decide +kernel) rfl) dm_Parts_splitAt_116 ?_
      refine pw_callV (rest := []) S hW (mm_Parts_insert l D k g (st_po σ5 ((σ 204 q) + 1) (σ4 66)) (at0 := q + 1) (o0 := σ 201 (σ 204 q)) (e0 := σ 202 (σ 204 q)) (y := 70) w6 p6 (by rw [r61]; exact hcc) (by rw [r61]; omega) rfl (by decide)) (cv_Parts_91 S.1.2.2.2.2 ⟨by decide, by decide⟩) (by decide) en_Parts rfl rfl hl.1 rfl (lv_room (Nat.le_of_ble_eq_true rfl)) ⟨Nat.zero_le _, Nat.zero_le _⟩ dm_Parts_splitAt_119 (fun σ7 H locs hp7 hW => ?_)
      refine lv_iconst (v := nI (1)) hx hb dm_Parts_splitAt_122 (by decide) ?_
      have e7 := pi_v hp7 (by rw [r61]; omega)
      rw [v6, e670] at e7
      obtain ⟨⟨w7, p7, -, l7, s7⟩, -⟩ := hp7
      refine hret _ _ _ _ _ _ dm_Parts_splitAt_123 (by decide) ⟨⟨w7, p7, by rw [l7, r6 203 (by omega), hv5.2.2.1, hv4.2.2.1], ?_⟩, _, e3, Or.inr ⟨rfl, by rw [← e4]; omega, by rw [← e4]; omega, by rw [e7, e4]⟩⟩ hW
      refine st_sm_tr (st_sm_tr (st_sm_tr sm4 s5 (Z := sl_X) (by decide +kernel) (by decide +kernel)) (st_sm_po _ ((σ 204 q) + 1) _) (Z := sl_X) (fun _ h => h) ?_) s7 (fun _ h => h) (by decide +kernel)
      intro x hx9
      rw [List.mem_singleton.mp hx9]
      exact List.mem_append_right _ (List.mem_append_right _ (List.mem_append_right _ (pt_in hj)))
    · refine lv_iconst (v := nI (0)) hx hb dm_Parts_splitAt_75 (by decide) ?_
      exact hret _ _ _ _ _ _ dm_Parts_splitAt_76 (by decide) ⟨⟨w4, hv4.1.1, hv4.2.2.1, st_sm_mo sm4 (by decide +kernel)⟩, _, e3, Or.inl ⟨rfl, by rw [← e4]; omega, hv4.1.2⟩⟩ hW
