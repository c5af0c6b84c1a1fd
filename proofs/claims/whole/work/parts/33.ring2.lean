/-! Ring: derivativeInto, makeMonic, multiplyWide, products -/
theorem st_po_id {P : Nat} {σ : st_T} {j : Nat} (hw : st_wf P σ) (hj : kd_k j = 0) : st_po σ j (σ j) = σ := funext (fun a => funext (fun b => by
  unfold st_po
  by_cases h1 : a = j
  · rw [if_pos h1, h1]
  · rw [if_neg h1]
    by_cases h2 : a = 200 ∧ b = j
    · rw [if_pos h2, h2.1, h2.2, (hw.2 j hj).2]
    · rw [if_neg h2]))
/-- row j becomes f -/
def st_rw (σ : st_T) (j : Nat) (f : Nat → Nat) : st_T := fun a b => if a = j then f b else σ a b
theorem st_rw_at {σ : st_T} {j : Nat} {f : Nat → Nat} : st_rw σ j f j = f := funext (fun b => by unfold st_rw; rw [if_pos rfl])
theorem st_rw_row {σ : st_T} {j a : Nat} {f : Nat → Nat} (h : a ≠ j) : st_rw σ j f a = σ a := funext (fun b => by unfold st_rw; rw [if_neg h])
theorem st_rw_up {σ : st_T} {j n v : Nat} {f : Nat → Nat} : st_up (st_rw σ j f) j n v = st_rw σ j (va_up f n v) := funext (fun a => funext (fun b => by
  unfold st_up st_rw va_up
  by_cases h : a = j
  · rw [if_pos h, if_pos h, if_pos h]
  · rw [if_neg h, if_neg h, if_neg h]))
theorem st_rw_id {σ : st_T} {j : Nat} {f : Nat → Nat} (h : σ j = f) : st_rw σ j f = σ := funext (fun a => funext (fun b => by
  unfold st_rw
  split
  · rename_i ha
    rw [ha, h]
  · rfl))
theorem lp_row_lt {P : Nat} (hP : 0 < P) {u b : Nat → Nat} {x i J : Nat} (hu : ∀ k, u k < P) (k : Nat) : lp_row P u b x i J k < P := by
  unfold lp_row
  split
  · exact Nat.mod_lt _ hP
  · exact hu k
theorem lp_pm_lt {P : Nat} (hP : 0 < P) {a b : Nat → Nat} {n : Nat} (i k : Nat) : lp_pm P a b n i k < P := by
  induction i generalizing k with
  | zero => exact hP
  | succ i ih => exact lp_row_lt hP ih k
theorem dm_Ring_derivativeInto_0 : decode bm_Ring_derivativeInto 0 = .ok (.iconst 1, 1) := by decide +kernel
theorem dm_Ring_derivativeInto_1 : decode bm_Ring_derivativeInto 1 = .ok (.istore_n 3, 1) := by decide +kernel
theorem dm_Ring_derivativeInto_2 : decode bm_Ring_derivativeInto 2 = .ok (.iload_n 3, 1) := by decide +kernel
theorem dm_Ring_derivativeInto_3 : decode bm_Ring_derivativeInto 3 = .ok (.bipush 31, 2) := by decide +kernel
theorem dm_Ring_derivativeInto_5 : decode bm_Ring_derivativeInto 5 = .ok (.if_icmp .ge 34, 3) := by decide +kernel
theorem dm_Ring_derivativeInto_8 : decode bm_Ring_derivativeInto 8 = .ok (.aload_n 1, 1) := by decide +kernel
theorem dm_Ring_derivativeInto_9 : decode bm_Ring_derivativeInto 9 = .ok (.getfield 46, 3) := by decide +kernel
theorem dm_Ring_derivativeInto_12 : decode bm_Ring_derivativeInto 12 = .ok (.iload_n 3, 1) := by decide +kernel
theorem dm_Ring_derivativeInto_13 : decode bm_Ring_derivativeInto 13 = .ok (.iconst 1, 1) := by decide +kernel
theorem dm_Ring_derivativeInto_14 : decode bm_Ring_derivativeInto 14 = .ok (.isub, 1) := by decide +kernel
theorem dm_Ring_derivativeInto_15 : decode bm_Ring_derivativeInto 15 = .ok (.aload_n 2, 1) := by decide +kernel
theorem dm_Ring_derivativeInto_16 : decode bm_Ring_derivativeInto 16 = .ok (.getfield 46, 3) := by decide +kernel
theorem dm_Ring_derivativeInto_19 : decode bm_Ring_derivativeInto 19 = .ok (.iload_n 3, 1) := by decide +kernel
theorem dm_Ring_derivativeInto_20 : decode bm_Ring_derivativeInto 20 = .ok (.iaload, 1) := by decide +kernel
theorem dm_Ring_derivativeInto_21 : decode bm_Ring_derivativeInto 21 = .ok (.i2l, 1) := by decide +kernel
theorem dm_Ring_derivativeInto_22 : decode bm_Ring_derivativeInto 22 = .ok (.iload_n 3, 1) := by decide +kernel
theorem dm_Ring_derivativeInto_23 : decode bm_Ring_derivativeInto 23 = .ok (.i2l, 1) := by decide +kernel
theorem dm_Ring_derivativeInto_24 : decode bm_Ring_derivativeInto 24 = .ok (.lmul, 1) := by decide +kernel
theorem dm_Ring_derivativeInto_25 : decode bm_Ring_derivativeInto 25 = .ok (.aload_n 0, 1) := by decide +kernel
theorem dm_Ring_derivativeInto_26 : decode bm_Ring_derivativeInto 26 = .ok (.getfield 39, 3) := by decide +kernel
theorem dm_Ring_derivativeInto_29 : decode bm_Ring_derivativeInto 29 = .ok (.i2l, 1) := by decide +kernel
theorem dm_Ring_derivativeInto_30 : decode bm_Ring_derivativeInto 30 = .ok (.lrem, 1) := by decide +kernel
theorem dm_Ring_derivativeInto_31 : decode bm_Ring_derivativeInto 31 = .ok (.l2i, 1) := by decide +kernel
theorem dm_Ring_derivativeInto_32 : decode bm_Ring_derivativeInto 32 = .ok (.iastore, 1) := by decide +kernel
theorem dm_Ring_derivativeInto_33 : decode bm_Ring_derivativeInto 33 = .ok (.iinc 3 1, 3) := by decide +kernel
theorem dm_Ring_derivativeInto_36 : decode bm_Ring_derivativeInto 36 = .ok (.goto (-34), 3) := by decide +kernel
theorem dm_Ring_derivativeInto_39 : decode bm_Ring_derivativeInto 39 = .ok (.aload_n 1, 1) := by decide +kernel
theorem dm_Ring_derivativeInto_40 : decode bm_Ring_derivativeInto 40 = .ok (.getfield 46, 3) := by decide +kernel
theorem dm_Ring_derivativeInto_43 : decode bm_Ring_derivativeInto 43 = .ok (.bipush 30, 2) := by decide +kernel
theorem dm_Ring_derivativeInto_45 : decode bm_Ring_derivativeInto 45 = .ok (.iconst 0, 1) := by decide +kernel
theorem dm_Ring_derivativeInto_46 : decode bm_Ring_derivativeInto 46 = .ok (.iastore, 1) := by decide +kernel
theorem dm_Ring_derivativeInto_47 : decode bm_Ring_derivativeInto 47 = .ok (.aload_n 1, 1) := by decide +kernel
theorem dm_Ring_derivativeInto_48 : decode bm_Ring_derivativeInto 48 = .ok (.invokevirtual 50, 3) := by decide +kernel
theorem dm_Ring_derivativeInto_51 : decode bm_Ring_derivativeInto 51 = .ok (.return_, 1) := by decide +kernel
set_option maxHeartbeats 4000000 in
set_option maxRecDepth 100000 in
theorem mm_Ring_derivativeInto (l : Launch) (D : va_G) (k : ClassId × ClassId × ClassId) (g : Nat → Nat) (σ : st_T) {P x a : Nat} (hw : st_wf P σ) (hP : 2 ≤ P) (hP31 : P < 2147483648) (h1 : kd_k x = 0) (h2 : kd_k a = 0) : mt_V l D k g ym_Ring_derivativeInto wm_Ring_derivativeInto rm_Ring_derivativeInto [.ref (g 1), .ref (g x), .ref (g a)] σ (fun σ1 => σ1 = st_po σ x (lp_der P (σ a))) := by
  refine ct_V_in (cc := bm_Ring_derivativeInto) (maxL := 4) (by decide) rfl (Nat.le_of_ble_eq_true rfl) ?_
  intro p e s m args below meth c A ls Q S hl hW hret
  have S : pw_S p m c bm_Ring_derivativeInto 4 s args wa_g rc_Ring D cl_s (ty_s k) := S
  have hx := S.1.1
  have hb := S.1.2.1
  have hl : lv_has ls 4 [(0, .ref (g (1))), (1, .ref (g (x))), (2, .ref (g (a)))] := hl
  refine lv_iconst (v := nI (1)) hx hb dm_Ring_derivativeInto_0 (by decide) ?_
  refine lv_istore_n hx hb dm_Ring_derivativeInto_1 rfl hl (by decide) rfl (fun ls hl => ?_)
  have hl : lv_has ls 4 [(3, .int (nI (1))), (0, .ref (g (1))), (1, .ref (g (x))), (2, .ref (g (a)))] := hl
  have loop : ∀ d i, i + d = 30 → ∀ (ls : Array Slot) (H : Heap) (locs : List Loc), lv_has ls 4 [(3, .int (nI (i + 1))), (0, .ref (g (1))), (1, .ref (g (x))), (2, .ref (g (a)))] → pw_H D cl_s A s.heap g 153 (en_s k g (st_cp σ x i (lp_der P (σ a)))) H locs → W p l e rm_Ring_derivativeInto s m args below meth c H locs 0 0 Q (F0 m 2 ls []) := by
    intro d
    induction d with
    | zero =>
      intro i hi ls H locs hl hW
      have hi : i = 30 := by omega
      subst hi
      refine lv_iload_n hx hb dm_Ring_derivativeInto_2 rfl (lv_at hl 0 rfl) ?_
      refine lv_bipush (v := nI (31)) hx hb dm_Ring_derivativeInto_3 (by decide) ?_
      refine wi_icmp_ge (tgt := 39) S (nn_T (by omega)) (nn_T (by omega)) dm_Ring_derivativeInto_5 (by decide) (fun hc => ?_) (fun hc => ?_)
      · refine lv_aload_n hx hb dm_Ring_derivativeInto_39 rfl (lv_at hl 2 rfl) ?_
        refine po_getc S hW h1 (wa_in 41 (by decide +kernel) rfl) dm_Ring_derivativeInto_40 ?_
        refine lv_bipush (v := nI (30)) hx hb dm_Ring_derivativeInto_43 (by decide) ?_
        refine lv_iconst (v := nI (0)) hx hb dm_Ring_derivativeInto_45 (by decide) ?_
        refine po_ast S hW h1 (by omega) dm_Ring_derivativeInto_46 (fun H locs hW => ?_)
        rw [st_cp_s σ x 30 (lp_der P (σ a)) (show 0 = σ a 31 * 31 % P by rw [((hw.2 a h2).1 31).2 (by omega), Nat.zero_mul, Nat.zero_mod])] at hW
        refine lv_aload_n hx hb dm_Ring_derivativeInto_47 rfl (lv_at hl 2 rfl) ?_
        have hf : sp_ok P (lp_der P (σ a)) := lp_der_ok (by omega) (hw.2 a h2).1
        have hall : st_cp σ x 31 (lp_der P (σ a)) x = lp_der P (σ a) := st_cp_all (fun b hb => by rw [((hw.2 x h1).1 b).2 hb, (hf b).2 hb])
        refine pw_callV (rest := []) S hW (mm_Poly_settle l D k g (st_cp σ x 31 (lp_der P (σ a))) h1 (fun i => by rw [hall]; have := (hf i).1; omega)) (cv_Ring_50 S.1.2.2.2.2 ⟨by decide, by decide⟩) (kd_p1 h1) (en_k0 h1) rfl rfl hl.1 rfl (lv_room (Nat.le_of_ble_eq_true rfl)) ⟨Nat.zero_le _, Nat.zero_le _⟩ dm_Ring_derivativeInto_48 (fun σ1 H locs hp hW => ?_)
        rw [hp, st_se_po (σ := σ) h1 (fun a ha => st_cp_row ha), hall] at hW
        exact hret _ _ _ _ _ dm_Ring_derivativeInto_51 rfl hW
      · exfalso
        omega
    | succ d ih =>
      intro i hi ls H locs hl hW
      refine lv_iload_n hx hb dm_Ring_derivativeInto_2 rfl (lv_at hl 0 rfl) ?_
      refine lv_bipush (v := nI (31)) hx hb dm_Ring_derivativeInto_3 (by decide) ?_
      refine wi_icmp_ge (tgt := 39) S (nn_T (by omega)) (nn_T (by omega)) dm_Ring_derivativeInto_5 (by decide) (fun hc => ?_) (fun hc => ?_)
      · exfalso
        omega
      · have e1 := st_wf_lt hw h2 (i + 1)
        have hm := nn_mul (show σ a (i + 1) < 2147483648 by omega) (show i + 1 < 2147483648 by omega)
        refine lv_aload_n hx hb dm_Ring_derivativeInto_8 rfl (lv_at hl 2 rfl) ?_
        refine po_getc S hW h1 (wa_in 41 (by decide +kernel) rfl) dm_Ring_derivativeInto_9 ?_
        refine lv_iload_n hx hb dm_Ring_derivativeInto_12 rfl (lv_at hl 0 rfl) ?_
        refine lv_iconst (v := nI (1)) hx hb dm_Ring_derivativeInto_13 (by decide) ?_
        refine wn_isub S (by omega) dm_Ring_derivativeInto_14 ?_
        rw [Nat.add_sub_cancel]
        refine lv_aload_n hx hb dm_Ring_derivativeInto_15 rfl (lv_at hl 3 rfl) ?_
        refine po_getc S hW h2 (wa_in 41 (by decide +kernel) rfl) dm_Ring_derivativeInto_16 ?_
        refine lv_iload_n hx hb dm_Ring_derivativeInto_19 rfl (lv_at hl 0 rfl) ?_
        refine po_ald S hW h2 (by omega) dm_Ring_derivativeInto_20 ?_
        rw [st_cp_rd (by omega)]
        refine wn_i2l S (by omega) dm_Ring_derivativeInto_21 ?_
        refine lv_iload_n hx hb dm_Ring_derivativeInto_22 rfl (lv_at hl 0 rfl) ?_
        refine wn_i2l S (by omega) dm_Ring_derivativeInto_23 ?_
        refine wn_lmul S dm_Ring_derivativeInto_24 ?_
        refine lv_aload_n hx hb dm_Ring_derivativeInto_25 rfl (lv_at hl 1 rfl) ?_
        refine rg_p S hW (wa_in 59 (by decide +kernel) rfl) dm_Ring_derivativeInto_26 ?_
        rw [(show st_cp σ x i (lp_der P (σ a)) 203 0 = P by have := kd_po h1; rw [st_cp_row (by omega)]; exact hw.1)]
        refine wn_i2l S (by omega) dm_Ring_derivativeInto_29 ?_
        refine wn_lrem S (by omega) (by omega) (by omega) dm_Ring_derivativeInto_30 ?_
        refine wn_l2i S dm_Ring_derivativeInto_31 ?_
        refine po_ast S hW h1 (by omega) dm_Ring_derivativeInto_32 (fun H locs hW => ?_)
        refine lv_iinc (k := 0) (v := nI (i + 1 + 1)) hx hb dm_Ring_derivativeInto_33 hl rfl (by rw [show Int32.ofInt 1 = nI 1 from rfl, nI_add]) (by decide) rfl (fun ls hl => ?_)
        have hl : lv_has ls 4 [(3, .int (nI (i + 1 + 1))), (0, .ref (g (1))), (1, .ref (g (x))), (2, .ref (g (a)))] := hl
        refine lv_goto (tgt := 2) hx hb dm_Ring_derivativeInto_36 (by decide) ?_
        exact ih (i + 1) (by omega) ls H locs hl (by rw [← st_cp_s σ x i (lp_der P (σ a)) rfl]; exact hW)
  exact loop 30 0 (by omega) ls _ _ hl (by rw [st_cp_0]; exact hW)
theorem dm_Ring_makeMonic_0 : decode bm_Ring_makeMonic 0 = .ok (.aload_n 1, 1) := by decide +kernel
theorem dm_Ring_makeMonic_1 : decode bm_Ring_makeMonic 1 = .ok (.invokevirtual 53, 3) := by decide +kernel
theorem dm_Ring_makeMonic_4 : decode bm_Ring_makeMonic 4 = .ok (.ifCond .ne 24, 3) := by decide +kernel
theorem dm_Ring_makeMonic_7 : decode bm_Ring_makeMonic 7 = .ok (.aload_n 1, 1) := by decide +kernel
theorem dm_Ring_makeMonic_8 : decode bm_Ring_makeMonic 8 = .ok (.invokevirtual 57, 3) := by decide +kernel
theorem dm_Ring_makeMonic_11 : decode bm_Ring_makeMonic 11 = .ok (.ifCond .ne 17, 3) := by decide +kernel
theorem dm_Ring_makeMonic_14 : decode bm_Ring_makeMonic 14 = .ok (.aload_n 0, 1) := by decide +kernel
theorem dm_Ring_makeMonic_15 : decode bm_Ring_makeMonic 15 = .ok (.aload_n 1, 1) := by decide +kernel
theorem dm_Ring_makeMonic_16 : decode bm_Ring_makeMonic 16 = .ok (.aload_n 1, 1) := by decide +kernel
theorem dm_Ring_makeMonic_17 : decode bm_Ring_makeMonic 17 = .ok (.aload_n 0, 1) := by decide +kernel
theorem dm_Ring_makeMonic_18 : decode bm_Ring_makeMonic 18 = .ok (.aload_n 1, 1) := by decide +kernel
theorem dm_Ring_makeMonic_19 : decode bm_Ring_makeMonic 19 = .ok (.invokevirtual 60, 3) := by decide +kernel
theorem dm_Ring_makeMonic_22 : decode bm_Ring_makeMonic 22 = .ok (.invokevirtual 64, 3) := by decide +kernel
theorem dm_Ring_makeMonic_25 : decode bm_Ring_makeMonic 25 = .ok (.invokevirtual 68, 3) := by decide +kernel
theorem dm_Ring_makeMonic_28 : decode bm_Ring_makeMonic 28 = .ok (.return_, 1) := by decide +kernel
set_option maxHeartbeats 4000000 in
set_option maxRecDepth 100000 in
theorem mm_Ring_makeMonic (l : Launch) (D : va_G) (k : ClassId × ClassId × ClassId) (g : Nat → Nat) (σ : st_T) {P x : Nat} (hw : st_wf P σ) (hP : ag_pr P) (hP31 : P < 2147483648) (h1 : kd_k x = 0) : mt_V l D k g ym_Ring_makeMonic wm_Ring_makeMonic rm_Ring_makeMonic [.ref (g 1), .ref (g x)] σ (fun σ1 => σ1 = st_po σ x (sp_mon P (σ x))) := by
  refine ct_V_in (cc := bm_Ring_makeMonic) (maxL := 2) (by decide) rfl (Nat.le_of_ble_eq_true rfl) ?_
  intro p e s m args below meth c A ls Q S hl hW hret
  have S : pw_S p m c bm_Ring_makeMonic 2 s args wa_g rc_Ring D cl_s (ty_s k) := S
  have hx := S.1.1
  have hb := S.1.2.1
  have hl : lv_has ls 2 [(0, .ref (g (1))), (1, .ref (g (x)))] := hl
  have hP2 := hP.1
  have hsz := st_wf_sz hw h1
  have hsx := (hw.2 x h1).2
  have hok := (hw.2 x h1).1
  have hld : st_ld σ x = if sp_sz (σ x) 31 = 0 then 0 else σ x (sp_sz (σ x) 31 - 1) := by unfold st_ld; rw [hsx]
  refine lv_aload_n hx hb dm_Ring_makeMonic_0 rfl (lv_at hl 1 rfl) ?_
  refine pw_callVI (rest := []) S hW (mm_Poly_isZero l D k g σ h1 hsz) (cv_Ring_53 S.1.2.2.2.2 ⟨by decide, by decide⟩) (kd_p1 h1) (en_k0 h1) rfl rfl hl.1 rfl (lv_room (Nat.le_of_ble_eq_true rfl)) ⟨Nat.zero_le _, Nat.zero_le _⟩ dm_Ring_makeMonic_1 (fun r σ1 H locs hp hW => ?_)
  obtain ⟨hr, hp⟩ := hp
  rw [hp] at hW
  subst hr
  by_cases hz : σ 200 x = 0
  · rw [if_pos hz]
    refine wi_if_ne (tgt := 28) S (nn_T (by omega)) dm_Ring_makeMonic_4 (by decide) (fun hc => ?_) (fun hc => ?_)
    · exact hret _ _ _ _ _ dm_Ring_makeMonic_28 (by unfold sp_mon; rw [if_pos (by omega), st_po_id hw h1]) hW
    · exfalso
      omega
  · rw [if_neg hz]
    refine wi_if_ne (tgt := 28) S (nn_T (by omega)) dm_Ring_makeMonic_4 (by decide) (fun hc => ?_) (fun hc => ?_)
    · exfalso
      omega
    · refine lv_aload_n hx hb dm_Ring_makeMonic_7 rfl (lv_at hl 1 rfl) ?_
      refine pw_callVI (rest := []) S hW (mm_Poly_isMonic l D k g σ h1 hsz (fun i => by have := (hok i).1; omega)) (cv_Ring_57 S.1.2.2.2.2 ⟨by decide, by decide⟩) (kd_p1 h1) (en_k0 h1) rfl rfl hl.1 rfl (lv_room (Nat.le_of_ble_eq_true rfl)) ⟨Nat.zero_le _, Nat.zero_le _⟩ dm_Ring_makeMonic_8 (fun r σ1 H locs hp hW => ?_)
      obtain ⟨hr, hp⟩ := hp
      rw [hp] at hW
      subst hr
      by_cases hm1 : st_ld σ x = 1
      · rw [if_pos hm1]
        refine wi_if_ne (tgt := 28) S (nn_T (by omega)) dm_Ring_makeMonic_11 (by decide) (fun hc => ?_) (fun hc => ?_)
        · exact hret _ _ _ _ _ dm_Ring_makeMonic_28 (by rw [hld, if_neg (by omega)] at hm1; rw [sp_mon_id hP hok hm1, st_po_id hw h1]) hW
        · exfalso
          omega
      · rw [if_neg hm1]
        refine wi_if_ne (tgt := 28) S (nn_T (by omega)) dm_Ring_makeMonic_11 (by decide) (fun hc => ?_) (fun hc => ?_)
        · exfalso
          omega
        · refine lv_aload_n hx hb dm_Ring_makeMonic_14 rfl (lv_at hl 0 rfl) ?_
          refine lv_aload_n hx hb dm_Ring_makeMonic_15 rfl (lv_at hl 1 rfl) ?_
          refine lv_aload_n hx hb dm_Ring_makeMonic_16 rfl (lv_at hl 1 rfl) ?_
          refine lv_aload_n hx hb dm_Ring_makeMonic_17 rfl (lv_at hl 0 rfl) ?_
          refine lv_aload_n hx hb dm_Ring_makeMonic_18 rfl (lv_at hl 1 rfl) ?_
          refine pw_callVI (rest := [.ref (g (1)), .ref (g (x)), .ref (g (x)), .ref (g (1))]) S hW (mm_Poly_lead l D k g σ h1 hsz) (cv_Ring_60 S.1.2.2.2.2 ⟨by decide, by decide⟩) (kd_p1 h1) (en_k0 h1) rfl rfl hl.1 rfl (lv_room (Nat.le_of_ble_eq_true rfl)) ⟨Nat.zero_le _, Nat.zero_le _⟩ dm_Ring_makeMonic_19 (fun r σ1 H locs hp hW => ?_)
          obtain ⟨hr, hp⟩ := hp
          rw [hp] at hW
          subst hr
          have hlt : st_ld σ x < P := by rw [hld, if_neg (by omega)]; exact (hok _).1
          refine pw_callVI (rest := [.ref (g (x)), .ref (g (x)), .ref (g (1))]) S hW (mm_Ring_reciprocal l D k g σ hw hP2 hP31 hlt) (cv_Ring_64 S.1.2.2.2.2 ⟨by decide, by decide⟩) (by decide) en_Ring rfl rfl hl.1 rfl (lv_room (Nat.le_of_ble_eq_true rfl)) ⟨Nat.zero_le _, Nat.zero_le _⟩ dm_Ring_makeMonic_22 (fun r σ1 H locs hp hW => ?_)
          obtain ⟨hr, hp⟩ := hp
          rw [hp] at hW
          subst hr
          refine pw_callV (rest := []) S hW (mm_Ring_scaleInto l D k g σ hw hP2 hP31 h1 h1 (show sp_inv P (st_ld σ x) < P from Nat.mod_lt _ (by omega))) (cv_Ring_68 S.1.2.2.2.2 ⟨by decide, by decide⟩) (by decide) en_Ring rfl rfl hl.1 rfl (lv_room (Nat.le_of_ble_eq_true rfl)) ⟨Nat.zero_le _, Nat.zero_le _⟩ dm_Ring_makeMonic_25 (fun σ1 H locs hp hW => ?_)
          rw [hp] at hW
          exact hret _ _ _ _ _ dm_Ring_makeMonic_28 (by unfold sp_mon; rw [if_neg (by omega), hld, if_neg (by omega)]) hW
theorem dm_Ring_multiplyWide_0 : decode bm_Ring_multiplyWide 0 = .ok (.aload_n 0, 1) := by decide +kernel
theorem dm_Ring_multiplyWide_1 : decode bm_Ring_multiplyWide 1 = .ok (.getfield 12, 3) := by decide +kernel
theorem dm_Ring_multiplyWide_4 : decode bm_Ring_multiplyWide 4 = .ok (.invokevirtual 98, 3) := by decide +kernel
theorem dm_Ring_multiplyWide_7 : decode bm_Ring_multiplyWide 7 = .ok (.iconst 0, 1) := by decide +kernel
theorem dm_Ring_multiplyWide_8 : decode bm_Ring_multiplyWide 8 = .ok (.istore_n 3, 1) := by decide +kernel
theorem dm_Ring_multiplyWide_9 : decode bm_Ring_multiplyWide 9 = .ok (.iload_n 3, 1) := by decide +kernel
theorem dm_Ring_multiplyWide_10 : decode bm_Ring_multiplyWide 10 = .ok (.aload_n 1, 1) := by decide +kernel
theorem dm_Ring_multiplyWide_11 : decode bm_Ring_multiplyWide 11 = .ok (.getfield 43, 3) := by decide +kernel
theorem dm_Ring_multiplyWide_14 : decode bm_Ring_multiplyWide 14 = .ok (.if_icmp .gt 80, 3) := by decide +kernel
theorem dm_Ring_multiplyWide_17 : decode bm_Ring_multiplyWide 17 = .ok (.aload_n 1, 1) := by decide +kernel
theorem dm_Ring_multiplyWide_18 : decode bm_Ring_multiplyWide 18 = .ok (.getfield 46, 3) := by decide +kernel
theorem dm_Ring_multiplyWide_21 : decode bm_Ring_multiplyWide 21 = .ok (.iload_n 3, 1) := by decide +kernel
theorem dm_Ring_multiplyWide_22 : decode bm_Ring_multiplyWide 22 = .ok (.iaload, 1) := by decide +kernel
theorem dm_Ring_multiplyWide_23 : decode bm_Ring_multiplyWide 23 = .ok (.i2l, 1) := by decide +kernel
theorem dm_Ring_multiplyWide_24 : decode bm_Ring_multiplyWide 24 = .ok (.lstore 4, 2) := by decide +kernel
theorem dm_Ring_multiplyWide_26 : decode bm_Ring_multiplyWide 26 = .ok (.iconst 0, 1) := by decide +kernel
theorem dm_Ring_multiplyWide_27 : decode bm_Ring_multiplyWide 27 = .ok (.istore 6, 2) := by decide +kernel
theorem dm_Ring_multiplyWide_29 : decode bm_Ring_multiplyWide 29 = .ok (.iload 6, 2) := by decide +kernel
theorem dm_Ring_multiplyWide_31 : decode bm_Ring_multiplyWide 31 = .ok (.aload_n 2, 1) := by decide +kernel
theorem dm_Ring_multiplyWide_32 : decode bm_Ring_multiplyWide 32 = .ok (.getfield 43, 3) := by decide +kernel
theorem dm_Ring_multiplyWide_35 : decode bm_Ring_multiplyWide 35 = .ok (.if_icmp .gt 53, 3) := by decide +kernel
theorem dm_Ring_multiplyWide_38 : decode bm_Ring_multiplyWide 38 = .ok (.aload_n 0, 1) := by decide +kernel
theorem dm_Ring_multiplyWide_39 : decode bm_Ring_multiplyWide 39 = .ok (.getfield 12, 3) := by decide +kernel
theorem dm_Ring_multiplyWide_42 : decode bm_Ring_multiplyWide 42 = .ok (.getfield 46, 3) := by decide +kernel
theorem dm_Ring_multiplyWide_45 : decode bm_Ring_multiplyWide 45 = .ok (.iload_n 3, 1) := by decide +kernel
theorem dm_Ring_multiplyWide_46 : decode bm_Ring_multiplyWide 46 = .ok (.iload 6, 2) := by decide +kernel
theorem dm_Ring_multiplyWide_48 : decode bm_Ring_multiplyWide 48 = .ok (.iadd, 1) := by decide +kernel
theorem dm_Ring_multiplyWide_49 : decode bm_Ring_multiplyWide 49 = .ok (.aload_n 0, 1) := by decide +kernel
theorem dm_Ring_multiplyWide_50 : decode bm_Ring_multiplyWide 50 = .ok (.getfield 12, 3) := by decide +kernel
theorem dm_Ring_multiplyWide_53 : decode bm_Ring_multiplyWide 53 = .ok (.getfield 46, 3) := by decide +kernel
theorem dm_Ring_multiplyWide_56 : decode bm_Ring_multiplyWide 56 = .ok (.iload_n 3, 1) := by decide +kernel
theorem dm_Ring_multiplyWide_57 : decode bm_Ring_multiplyWide 57 = .ok (.iload 6, 2) := by decide +kernel
theorem dm_Ring_multiplyWide_59 : decode bm_Ring_multiplyWide 59 = .ok (.iadd, 1) := by decide +kernel
theorem dm_Ring_multiplyWide_60 : decode bm_Ring_multiplyWide 60 = .ok (.iaload, 1) := by decide +kernel
theorem dm_Ring_multiplyWide_61 : decode bm_Ring_multiplyWide 61 = .ok (.i2l, 1) := by decide +kernel
theorem dm_Ring_multiplyWide_62 : decode bm_Ring_multiplyWide 62 = .ok (.lload 4, 2) := by decide +kernel
theorem dm_Ring_multiplyWide_64 : decode bm_Ring_multiplyWide 64 = .ok (.aload_n 2, 1) := by decide +kernel
theorem dm_Ring_multiplyWide_65 : decode bm_Ring_multiplyWide 65 = .ok (.getfield 46, 3) := by decide +kernel
theorem dm_Ring_multiplyWide_68 : decode bm_Ring_multiplyWide 68 = .ok (.iload 6, 2) := by decide +kernel
theorem dm_Ring_multiplyWide_70 : decode bm_Ring_multiplyWide 70 = .ok (.iaload, 1) := by decide +kernel
theorem dm_Ring_multiplyWide_71 : decode bm_Ring_multiplyWide 71 = .ok (.i2l, 1) := by decide +kernel
theorem dm_Ring_multiplyWide_72 : decode bm_Ring_multiplyWide 72 = .ok (.lmul, 1) := by decide +kernel
theorem dm_Ring_multiplyWide_73 : decode bm_Ring_multiplyWide 73 = .ok (.ladd, 1) := by decide +kernel
theorem dm_Ring_multiplyWide_74 : decode bm_Ring_multiplyWide 74 = .ok (.aload_n 0, 1) := by decide +kernel
theorem dm_Ring_multiplyWide_75 : decode bm_Ring_multiplyWide 75 = .ok (.getfield 39, 3) := by decide +kernel
theorem dm_Ring_multiplyWide_78 : decode bm_Ring_multiplyWide 78 = .ok (.i2l, 1) := by decide +kernel
theorem dm_Ring_multiplyWide_79 : decode bm_Ring_multiplyWide 79 = .ok (.lrem, 1) := by decide +kernel
theorem dm_Ring_multiplyWide_80 : decode bm_Ring_multiplyWide 80 = .ok (.l2i, 1) := by decide +kernel
theorem dm_Ring_multiplyWide_81 : decode bm_Ring_multiplyWide 81 = .ok (.iastore, 1) := by decide +kernel
theorem dm_Ring_multiplyWide_82 : decode bm_Ring_multiplyWide 82 = .ok (.iinc 6 1, 3) := by decide +kernel
theorem dm_Ring_multiplyWide_85 : decode bm_Ring_multiplyWide 85 = .ok (.goto (-56), 3) := by decide +kernel
theorem dm_Ring_multiplyWide_88 : decode bm_Ring_multiplyWide 88 = .ok (.iinc 3 1, 3) := by decide +kernel
theorem dm_Ring_multiplyWide_91 : decode bm_Ring_multiplyWide 91 = .ok (.goto (-82), 3) := by decide +kernel
theorem dm_Ring_multiplyWide_94 : decode bm_Ring_multiplyWide 94 = .ok (.aload_n 0, 1) := by decide +kernel
theorem dm_Ring_multiplyWide_95 : decode bm_Ring_multiplyWide 95 = .ok (.getfield 12, 3) := by decide +kernel
theorem dm_Ring_multiplyWide_98 : decode bm_Ring_multiplyWide 98 = .ok (.invokevirtual 50, 3) := by decide +kernel
theorem dm_Ring_multiplyWide_101 : decode bm_Ring_multiplyWide 101 = .ok (.return_, 1) := by decide +kernel
set_option maxHeartbeats 4000000 in
set_option maxRecDepth 100000 in
theorem mm_Ring_multiplyWide (l : Launch) (D : va_G) (k : ClassId × ClassId × ClassId) (g : Nat → Nat) (σ : st_T) {P a b : Nat} (hw : st_wf P σ) (hP : 2 ≤ P) (hP31 : P < 2147483648) (h2 : kd_k a = 0) (h3 : kd_k b = 0) (ha2 : a ≠ 2) (hb2 : b ≠ 2) (hsz : σ 200 a + σ 200 b ≤ 32) : mt_V l D k g ym_Ring_multiplyWide wm_Ring_multiplyWide rm_Ring_multiplyWide [.ref (g 1), .ref (g a), .ref (g b)] σ (fun σ1 => σ1 = st_po σ 2 (sp_mul P (σ a) (σ b))) := by
  refine ct_V_in (cc := bm_Ring_multiplyWide) (maxL := 7) (by decide) rfl (Nat.le_of_ble_eq_true rfl) ?_
  intro p e s m args below meth c A ls Q S hl hW hret
  have S : pw_S p m c bm_Ring_multiplyWide 7 s args wa_g rc_Ring D cl_s (ty_s k) := S
  have hx := S.1.1
  have hb := S.1.2.1
  have hl : lv_has ls 7 [(0, .ref (g (1))), (1, .ref (g (a))), (2, .ref (g (b)))] := hl
  have k2 := kd_po h2
  have k3 := kd_po h3
  have qa : ∀ u i, st_rw (st_po σ 2 (fun _ => 0)) 2 u a i = σ a i := fun u i => by rw [st_rw_row ha2, st_po_row ha2 (by omega)]
  have qb : ∀ u i, st_rw (st_po σ 2 (fun _ => 0)) 2 u b i = σ b i := fun u i => by rw [st_rw_row hb2, st_po_row hb2 (by omega)]
  have sa : ∀ u, st_rw (st_po σ 2 (fun _ => 0)) 2 u 200 a = σ 200 a := fun u => by rw [st_rw_row (by omega), st_po_sz2 (by omega) ha2]
  have sb : ∀ u, st_rw (st_po σ 2 (fun _ => 0)) 2 u 200 b = σ 200 b := fun u => by rw [st_rw_row (by omega), st_po_sz2 (by omega) hb2]
  have qp : ∀ u, st_rw (st_po σ 2 (fun _ => 0)) 2 u 203 0 = P := fun u => by rw [st_rw_row (by omega), st_po_row (by omega) (by omega)]; exact hw.1
  have hp0 : 0 < P := by omega
  have za := st_wf_sz hw h2
  have zb := st_wf_sz hw h3
  refine lv_aload_n hx hb dm_Ring_multiplyWide_0 rfl (lv_at hl 0 rfl) ?_
  refine rg_wide S hW (wa_in 64 (by decide +kernel) rfl) dm_Ring_multiplyWide_1 ?_
  refine pw_callV (rest := []) S hW (mm_Poly_clear l D k g σ (j := 2) rfl) (cv_Ring_98 S.1.2.2.2.2 ⟨by decide, by decide⟩) (kd_p1 rfl) (en_k0 rfl) rfl rfl hl.1 rfl (lv_room (Nat.le_of_ble_eq_true rfl)) ⟨Nat.zero_le _, Nat.zero_le _⟩ dm_Ring_multiplyWide_4 (fun σ1 H locs hp hW => ?_)
  rw [hp, st_cl_po hw (j := 2) rfl] at hW
  refine lv_iconst (v := nI (0)) hx hb dm_Ring_multiplyWide_7 (by decide) ?_
  refine lv_istore_n hx hb dm_Ring_multiplyWide_8 rfl hl (by decide) rfl (fun ls hl => ?_)
  have hl : lv_has ls 7 [(3, .int (nI (0))), (0, .ref (g (1))), (1, .ref (g (a))), (2, .ref (g (b)))] := hl
  have loop : ∀ d i, i + d = σ 200 a → ∀ (ls : Array Slot) (H : Heap) (locs : List Loc), lv_has ls 7 [(3, .int (nI (i))), (0, .ref (g (1))), (1, .ref (g (a))), (2, .ref (g (b)))] → pw_H D cl_s A s.heap g 153 (en_s k g (st_rw (st_po σ 2 (fun _ => 0)) 2 (lp_pm P (σ a) (σ b) (σ 200 b) i))) H locs → W p l e rm_Ring_multiplyWide s m args below meth c H locs 0 0 Q (F0 m 9 ls []) := by
    intro d
    induction d with
    | zero =>
      intro i hi ls H locs hl hW
      refine lv_iload_n hx hb dm_Ring_multiplyWide_9 rfl (lv_at hl 0 rfl) ?_
      refine lv_aload_n hx hb dm_Ring_multiplyWide_10 rfl (lv_at hl 2 rfl) ?_
      refine po_getd S hW h2 (wa_in 49 (by decide +kernel) rfl) dm_Ring_multiplyWide_11 ?_
      rw [sa]
      refine wi_icmp_gt (tgt := 94) S (nn_T (by omega)) (sd_T (by omega)) dm_Ring_multiplyWide_14 (by decide) (fun hc => ?_) (fun hc => ?_)
      · have hi2 : i = σ 200 a := by omega
        subst hi2
        have hmul : lp_pm P (σ a) (σ b) (σ 200 b) (σ 200 a) = sp_mul P (σ a) (σ b) := by rw [(hw.2 a h2).2, (hw.2 b h3).2]; exact lp_pm_mul (hw.2 a h2).1 (hw.2 b h3).1
        refine lv_aload_n hx hb dm_Ring_multiplyWide_94 rfl (lv_at hl 1 rfl) ?_
        refine rg_wide S hW (wa_in 64 (by decide +kernel) rfl) dm_Ring_multiplyWide_95 ?_
        refine pw_callV (rest := []) S hW (mm_Poly_settle l D k g (st_rw (st_po σ 2 (fun _ => 0)) 2 (lp_pm P (σ a) (σ b) (σ 200 b) (σ 200 a))) (j := 2) rfl (fun i => by rw [st_rw_at]; have := lp_pm_lt hp0 (a := σ a) (b := σ b) (n := σ 200 b) (σ 200 a) i; omega)) (cv_Ring_50 S.1.2.2.2.2 ⟨by decide, by decide⟩) (kd_p1 rfl) (en_k0 rfl) rfl rfl hl.1 rfl (lv_room (Nat.le_of_ble_eq_true rfl)) ⟨Nat.zero_le _, Nat.zero_le _⟩ dm_Ring_multiplyWide_98 (fun σ1 H locs hp hW => ?_)
        rw [hp, st_se_po (σ := st_po σ 2 (fun _ => 0)) (j := 2) rfl (fun a ha => st_rw_row ha), st_rw_at, st_po_po (by omega), hmul] at hW
        exact hret _ _ _ _ _ dm_Ring_multiplyWide_101 rfl hW
      · exfalso
        omega
    | succ d ih =>
      intro i hi ls H locs hl hW
      refine lv_iload_n hx hb dm_Ring_multiplyWide_9 rfl (lv_at hl 0 rfl) ?_
      refine lv_aload_n hx hb dm_Ring_multiplyWide_10 rfl (lv_at hl 2 rfl) ?_
      refine po_getd S hW h2 (wa_in 49 (by decide +kernel) rfl) dm_Ring_multiplyWide_11 ?_
      rw [sa]
      refine wi_icmp_gt (tgt := 94) S (nn_T (by omega)) (sd_T (by omega)) dm_Ring_multiplyWide_14 (by decide) (fun hc => ?_) (fun hc => ?_)
      · exfalso
        omega
      · have e1 := st_wf_lt hw h2 i
        refine lv_aload_n hx hb dm_Ring_multiplyWide_17 rfl (lv_at hl 2 rfl) ?_
        refine po_getc S hW h2 (wa_in 41 (by decide +kernel) rfl) dm_Ring_multiplyWide_18 ?_
        refine lv_iload_n hx hb dm_Ring_multiplyWide_21 rfl (lv_at hl 0 rfl) ?_
        refine po_ald S hW h2 (by omega) dm_Ring_multiplyWide_22 ?_
        rw [qa]
        refine wn_i2l S (by omega) dm_Ring_multiplyWide_23 ?_
        refine lv_lstore hx hb dm_Ring_multiplyWide_24 hl (by decide) rfl (fun ls hl => ?_)
        have hl : lv_has ls 7 [(4, .long (lN (σ (a) (i)))), (3, .int (nI (i))), (0, .ref (g (1))), (1, .ref (g (a))), (2, .ref (g (b)))] := hl
        refine lv_iconst (v := nI (0)) hx hb dm_Ring_multiplyWide_26 (by decide) ?_
        refine lv_istore hx hb dm_Ring_multiplyWide_27 hl (by decide) rfl (fun ls hl => ?_)
        have hl : lv_has ls 7 [(6, .int (nI (0))), (4, .long (lN (σ (a) (i)))), (3, .int (nI (i))), (0, .ref (g (1))), (1, .ref (g (a))), (2, .ref (g (b)))] := hl
        have hl : lv_has ls 7 [(6, .int (nI (0))), (4, .long (lN (σ (a) (i)))), (3, .int (nI (i))), (0, .ref (g (1))), (1, .ref (g (a))), (2, .ref (g (b)))] := lv_sub hl [0, 1, 2, 3, 4, 5] rfl
        have inner : ∀ dj j, j + dj = σ 200 b → ∀ (ls : Array Slot) (H : Heap) (locs : List Loc), lv_has ls 7 [(6, .int (nI (j))), (4, .long (lN (σ a i))), (3, .int (nI (i))), (0, .ref (g (1))), (1, .ref (g (a))), (2, .ref (g (b)))] → pw_H D cl_s A s.heap g 153 (en_s k g (st_rw (st_po σ 2 (fun _ => 0)) 2 (lp_row P (lp_pm P (σ a) (σ b) (σ 200 b) i) (σ b) (σ a i) i j))) H locs → W p l e rm_Ring_multiplyWide s m args below meth c H locs 0 0 Q (F0 m 29 ls []) := by
          intro dj
          induction dj with
          | zero =>
            intro j hj ls H locs hl hW
            refine lv_iload hx hb dm_Ring_multiplyWide_29 (lv_at hl 0 rfl) ?_
            refine lv_aload_n hx hb dm_Ring_multiplyWide_31 rfl (lv_at hl 5 rfl) ?_
            refine po_getd S hW h3 (wa_in 49 (by decide +kernel) rfl) dm_Ring_multiplyWide_32 ?_
            rw [sb]
            refine wi_icmp_gt (tgt := 88) S (nn_T (by omega)) (sd_T (by omega)) dm_Ring_multiplyWide_35 (by decide) (fun hc => ?_) (fun hc => ?_)
            · have hj2 : j = σ 200 b := by omega
              subst hj2
              refine lv_iinc (k := 2) (v := nI (i + 1)) hx hb dm_Ring_multiplyWide_88 hl rfl (by rw [show Int32.ofInt 1 = nI 1 from rfl, nI_add]) (by decide) rfl (fun ls hl => ?_)
              have hl : lv_has ls 7 [(3, .int (nI (i + 1))), (6, .int (nI (σ 200 b))), (4, .long (lN (σ a i))), (0, .ref (g (1))), (1, .ref (g (a))), (2, .ref (g (b)))] := hl
              refine lv_goto (tgt := 9) hx hb dm_Ring_multiplyWide_91 (by decide) ?_
              have hl := lv_sub hl [0, 3, 4, 5] rfl
              exact ih (i + 1) (by omega) ls H locs hl hW
            · exfalso
              omega
          | succ dj ihj =>
            intro j hj ls H locs hl hW
            refine lv_iload hx hb dm_Ring_multiplyWide_29 (lv_at hl 0 rfl) ?_
            refine lv_aload_n hx hb dm_Ring_multiplyWide_31 rfl (lv_at hl 5 rfl) ?_
            refine po_getd S hW h3 (wa_in 49 (by decide +kernel) rfl) dm_Ring_multiplyWide_32 ?_
            rw [sb]
            refine wi_icmp_gt (tgt := 88) S (nn_T (by omega)) (sd_T (by omega)) dm_Ring_multiplyWide_35 (by decide) (fun hc => ?_) (fun hc => ?_)
            · exfalso
              omega
            · have e2 := st_wf_lt hw h3 j
              have hm := nn_mul (show σ a i < 2147483648 by omega) (show σ b j < 2147483648 by omega)
              have e3 := lp_row_lt hp0 (u := lp_pm P (σ a) (σ b) (σ 200 b) i) (b := σ b) (x := σ a i) (i := i) (J := j) (fun k => lp_pm_lt hp0 i k) (i + j)
              refine lv_aload_n hx hb dm_Ring_multiplyWide_38 rfl (lv_at hl 3 rfl) ?_
              refine rg_wide S hW (wa_in 64 (by decide +kernel) rfl) dm_Ring_multiplyWide_39 ?_
              refine po_getc S hW rfl (wa_in 41 (by decide +kernel) rfl) dm_Ring_multiplyWide_42 ?_
              refine lv_iload_n hx hb dm_Ring_multiplyWide_45 rfl (lv_at hl 2 rfl) ?_
              refine lv_iload hx hb dm_Ring_multiplyWide_46 (lv_at hl 0 rfl) ?_
              refine wn_iadd S dm_Ring_multiplyWide_48 ?_
              refine lv_aload_n hx hb dm_Ring_multiplyWide_49 rfl (lv_at hl 3 rfl) ?_
              refine rg_wide S hW (wa_in 64 (by decide +kernel) rfl) dm_Ring_multiplyWide_50 ?_
              refine po_getc S hW rfl (wa_in 41 (by decide +kernel) rfl) dm_Ring_multiplyWide_53 ?_
              refine lv_iload_n hx hb dm_Ring_multiplyWide_56 rfl (lv_at hl 2 rfl) ?_
              refine lv_iload hx hb dm_Ring_multiplyWide_57 (lv_at hl 0 rfl) ?_
              refine wn_iadd S dm_Ring_multiplyWide_59 ?_
              refine po_ald S hW rfl (by omega) dm_Ring_multiplyWide_60 ?_
              rw [st_rw_at]
              refine wn_i2l S (by omega) dm_Ring_multiplyWide_61 ?_
              refine lv_lload hx hb dm_Ring_multiplyWide_62 (lv_at hl 1 rfl) ?_
              refine lv_aload_n hx hb dm_Ring_multiplyWide_64 rfl (lv_at hl 5 rfl) ?_
              refine po_getc S hW h3 (wa_in 41 (by decide +kernel) rfl) dm_Ring_multiplyWide_65 ?_
              refine lv_iload hx hb dm_Ring_multiplyWide_68 (lv_at hl 0 rfl) ?_
              refine po_ald S hW h3 (by omega) dm_Ring_multiplyWide_70 ?_
              rw [qb]
              refine wn_i2l S (by omega) dm_Ring_multiplyWide_71 ?_
              refine wn_lmul S dm_Ring_multiplyWide_72 ?_
              refine wn_ladd S dm_Ring_multiplyWide_73 ?_
              refine lv_aload_n hx hb dm_Ring_multiplyWide_74 rfl (lv_at hl 3 rfl) ?_
              refine rg_p S hW (wa_in 59 (by decide +kernel) rfl) dm_Ring_multiplyWide_75 ?_
              rw [qp]
              refine wn_i2l S (by omega) dm_Ring_multiplyWide_78 ?_
              refine wn_lrem S (by omega) (by omega) (by omega) dm_Ring_multiplyWide_79 ?_
              refine wn_l2i S dm_Ring_multiplyWide_80 ?_
              refine po_ast S hW rfl (by omega) dm_Ring_multiplyWide_81 (fun H locs hW => ?_)
              refine lv_iinc (k := 0) (v := nI (j + 1)) hx hb dm_Ring_multiplyWide_82 hl rfl (by rw [show Int32.ofInt 1 = nI 1 from rfl, nI_add]) (by decide) rfl (fun ls hl => ?_)
              have hl : lv_has ls 7 [(6, .int (nI (j + 1))), (4, .long (lN (σ a i))), (3, .int (nI (i))), (0, .ref (g (1))), (1, .ref (g (a))), (2, .ref (g (b)))] := hl
              refine lv_goto (tgt := 29) hx hb dm_Ring_multiplyWide_85 (by decide) ?_
              rw [st_rw_up, ← lp_row_s] at hW
              exact ihj (j + 1) (by omega) ls H locs hl hW
        refine inner (σ 200 b) 0 (by omega) ls _ _ hl ?_
        rw [lp_row_0]
        exact hW
  refine loop (σ 200 a) 0 (by omega) ls _ _ hl ?_
  rw [show lp_pm P (σ a) (σ b) (σ 200 b) 0 = (fun _ => 0) from rfl, st_rw_id st_po_at]
  exact hW
