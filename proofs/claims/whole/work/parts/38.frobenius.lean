/-! Frobenius: raise, prepareFor -/
section PAR
variable {p : Program} {l : Launch} {e : Env} {R : Room} {s : State} {m : MethodId} {args : Array Value} {below : List Frame} {meth : Method} {c : Code} {H : Heap} {locs : List Loc} {cells slots : Nat} {Q : State → Prop}
variable {cc : ByteArray} {pc : Nat} {ls : Array Slot} {rest : List Value} {D : va_G} {A : Nat → Prop} {H0 : Heap} {g : Nat → Nat} {nL : Nat} {own : String} {k : ClassId × ClassId × ClassId} {σ : st_T}
theorem im_ald (S : pw_S p m c cc nL s args wa_g own D cl_s (ty_s k)) (hW : pw_H D cl_s A H0 g 153 (en_s k g σ) H locs) {n : Nat} (hn : n < 15) (hdg : decode cc pc = .ok (.aaload, 1)) (kk : W p l e R s m args below meth c H locs cells slots Q (F0 m (pc + 1) ls (.ref (g (32 + 2 * n)) :: rest))) : W p l e R s m args below meth c H locs cells slots Q (F0 m pc ls (.int (nI n) :: .ref (g 23) :: rest)) :=
  pw_aald S hW 1 rfl 23 (by decide) en_images (vp_in_nI hn (by decide)) (by rw [nI_clamp (by omega)]) hdg kk
theorem ra_ald (S : pw_S p m c cc nL s args wa_g own D cl_s (ty_s k)) (hW : pw_H D cl_s A H0 g 153 (en_s k g σ) H locs) {n : Nat} (hn : n < 8) (hdg : decode cc pc = .ok (.aaload, 1)) (kk : W p l e R s m args below meth c H locs cells slots Q (F0 m (pc + 1) ls (.ref (g (133 + 2 * n)) :: rest))) : W p l e R s m args below meth c H locs cells slots Q (F0 m pc ls (.int (nI n) :: .ref (g 132) :: rest)) :=
  pw_aald S hW 1 rfl 132 (by decide) en_registers (vp_in_nI hn (by decide)) (by rw [nI_clamp (by omega)]) hdg kk
theorem li_ald (S : pw_S p m c cc nL s args wa_g own D cl_s (ty_s k)) (hW : pw_H D cl_s A H0 g 153 (en_s k g σ) H locs) {n : Nat} (hn : n < 15) (hdg : decode cc pc = .ok (.aaload, 1)) (kk : W p l e R s m args below meth c H locs cells slots Q (F0 m (pc + 1) ls (.ref (g (σ 204 n)) :: rest))) : W p l e R s m args below meth c H locs cells slots Q (F0 m pc ls (.int (nI n) :: .ref (g 63) :: rest)) :=
  pw_aald S hW 2 rfl 63 (by decide) en_list (vp_in_nI hn (by decide)) (by rw [nI_clamp (by omega)]) hdg kk
end PAR
/-- the polynomial x -/
abbrev sp_x : Nat → Nat := va_up (fun _ => 0) 1 1
theorem sp_x_ok {P : Nat} (hP : 2 ≤ P) : sp_ok P sp_x := fun i => by unfold sp_x va_up; dsimp only; split <;> omega
theorem sp_x_pe : pe_f sp_x = pz_X := pz_ext (fun i => by
  rw [pe_at (P := 2) (sp_x_ok (by omega))]
  show ((if i = 1 then 1 else 0 : Nat) : Int) = if i = 1 then 1 else 0
  split <;> rfl)
/-- the table for M: the monic modulus, the powers x^(P i) -/
def fb_t (P : Nat) (M : Nat → Nat) (σ : st_T) : Prop := σ 19 = sp_mon P M ∧ ∀ i, i + 1 < sp_sz M 31 → sp_is P M (σ (32 + 2 * i)) (pz_pw pz_X (P * i))
theorem fb_t_sm {P : Nat} {M : Nat → Nat} {X : List Nat} {σ τ : st_T} (h : fb_t P M σ) (hs : st_sm X σ τ) (hM : sp_sz M 31 ≤ 16) (hX : ∀ a ∈ X, a ≠ 19 ∧ (a < 32 ∨ 60 < a)) : fb_t P M τ := by
  refine ⟨?_, fun i hi => ?_⟩
  · rw [hs 19 (fun z => (hX 19 z).1 rfl) (by decide)]
    exact h.1
  · rw [hs (32 + 2 * i) (fun z => by have := hX _ z; omega) (by omega)]
    exact h.2 i hi
theorem dm_Frob_raise_0 : decode bm_Frob_raise 0 = .ok (.aload_n 0, 1) := by decide +kernel
theorem dm_Frob_raise_1 : decode bm_Frob_raise 1 = .ok (.getfield 25, 3) := by decide +kernel
theorem dm_Frob_raise_4 : decode bm_Frob_raise 4 = .ok (.invokevirtual 90, 3) := by decide +kernel
theorem dm_Frob_raise_7 : decode bm_Frob_raise 7 = .ok (.iconst 0, 1) := by decide +kernel
theorem dm_Frob_raise_8 : decode bm_Frob_raise 8 = .ok (.istore_n 2, 1) := by decide +kernel
theorem dm_Frob_raise_9 : decode bm_Frob_raise 9 = .ok (.iload_n 2, 1) := by decide +kernel
theorem dm_Frob_raise_10 : decode bm_Frob_raise 10 = .ok (.aload_n 1, 1) := by decide +kernel
theorem dm_Frob_raise_11 : decode bm_Frob_raise 11 = .ok (.getfield 62, 3) := by decide +kernel
theorem dm_Frob_raise_14 : decode bm_Frob_raise 14 = .ok (.if_icmp .gt 45, 3) := by decide +kernel
theorem dm_Frob_raise_17 : decode bm_Frob_raise 17 = .ok (.aload_n 1, 1) := by decide +kernel
theorem dm_Frob_raise_18 : decode bm_Frob_raise 18 = .ok (.getfield 93, 3) := by decide +kernel
theorem dm_Frob_raise_21 : decode bm_Frob_raise 21 = .ok (.iload_n 2, 1) := by decide +kernel
theorem dm_Frob_raise_22 : decode bm_Frob_raise 22 = .ok (.iaload, 1) := by decide +kernel
theorem dm_Frob_raise_23 : decode bm_Frob_raise 23 = .ok (.ifCond .eq 30, 3) := by decide +kernel
theorem dm_Frob_raise_26 : decode bm_Frob_raise 26 = .ok (.aload_n 0, 1) := by decide +kernel
theorem dm_Frob_raise_27 : decode bm_Frob_raise 27 = .ok (.getfield 37, 3) := by decide +kernel
theorem dm_Frob_raise_30 : decode bm_Frob_raise 30 = .ok (.aload_n 0, 1) := by decide +kernel
theorem dm_Frob_raise_31 : decode bm_Frob_raise 31 = .ok (.getfield 25, 3) := by decide +kernel
theorem dm_Frob_raise_34 : decode bm_Frob_raise 34 = .ok (.aload_n 0, 1) := by decide +kernel
theorem dm_Frob_raise_35 : decode bm_Frob_raise 35 = .ok (.getfield 25, 3) := by decide +kernel
theorem dm_Frob_raise_38 : decode bm_Frob_raise 38 = .ok (.aload_n 0, 1) := by decide +kernel
theorem dm_Frob_raise_39 : decode bm_Frob_raise 39 = .ok (.getfield 21, 3) := by decide +kernel
theorem dm_Frob_raise_42 : decode bm_Frob_raise 42 = .ok (.iload_n 2, 1) := by decide +kernel
theorem dm_Frob_raise_43 : decode bm_Frob_raise 43 = .ok (.aaload, 1) := by decide +kernel
theorem dm_Frob_raise_44 : decode bm_Frob_raise 44 = .ok (.aload_n 1, 1) := by decide +kernel
theorem dm_Frob_raise_45 : decode bm_Frob_raise 45 = .ok (.getfield 93, 3) := by decide +kernel
theorem dm_Frob_raise_48 : decode bm_Frob_raise 48 = .ok (.iload_n 2, 1) := by decide +kernel
theorem dm_Frob_raise_49 : decode bm_Frob_raise 49 = .ok (.iaload, 1) := by decide +kernel
theorem dm_Frob_raise_50 : decode bm_Frob_raise 50 = .ok (.invokevirtual 76, 3) := by decide +kernel
theorem dm_Frob_raise_53 : decode bm_Frob_raise 53 = .ok (.iinc 2 1, 3) := by decide +kernel
theorem dm_Frob_raise_56 : decode bm_Frob_raise 56 = .ok (.goto (-47), 3) := by decide +kernel
theorem dm_Frob_raise_59 : decode bm_Frob_raise 59 = .ok (.aload_n 1, 1) := by decide +kernel
theorem dm_Frob_raise_60 : decode bm_Frob_raise 60 = .ok (.aload_n 0, 1) := by decide +kernel
theorem dm_Frob_raise_61 : decode bm_Frob_raise 61 = .ok (.getfield 25, 3) := by decide +kernel
theorem dm_Frob_raise_64 : decode bm_Frob_raise 64 = .ok (.invokevirtual 45, 3) := by decide +kernel
theorem dm_Frob_raise_67 : decode bm_Frob_raise 67 = .ok (.return_, 1) := by decide +kernel
set_option maxHeartbeats 4000000 in
set_option maxRecDepth 100000 in
theorem mm_Frob_raise (l : Launch) (D : va_G) (k : ClassId × ClassId × ClassId) (g : Nat → Nat) (σ : st_T) {P a : Nat} {M : Nat → Nat} (hM : sp_ok P M) (hM2 : 1 < sp_sz M 31) (hM16 : sp_sz M 31 ≤ 16) (hw : st_wf P σ) (hP : ag_pr P) (hP31 : P < 2147483648) (ha_ : kd_k a = 0) (hT : fb_t P M σ) (ha24 : a ≠ 24) (haI : a < 32 ∨ 60 < a) (hsa : sp_sz (σ a) 31 < sp_sz M 31) : mt_V l D k g ym_Frob_raise wm_Frob_raise rm_Frob_raise [.ref (g 18), .ref (g a)] σ (fun σ1 => st_wf P σ1 ∧ sp_is P M (σ1 a) (pz_pw (pe_f (σ a)) P) ∧ st_sm [a, 24] σ σ1) := by
  refine ct_V_in (cc := bm_Frob_raise) (maxL := 3) (by decide) rfl (Nat.le_of_ble_eq_true rfl) ?_
  intro p e s m args below meth c A ls Q S hl hW hret
  have S : pw_S p m c bm_Frob_raise 3 s args wa_g rc_Frob D cl_s (ty_s k) := S
  have hx := S.1.1
  have hb := S.1.2.1
  have hl : lv_has ls 3 [(0, .ref (g (18))), (1, .ref (g (a)))] := hl
  have hP2 := hP.1
  have hp0 : 0 < P := by omega
  have ka := kd_po ha_
  have hza := (hw.2 a ha_).2
  refine lv_aload_n hx hb dm_Frob_raise_0 rfl (lv_at hl 0 rfl) ?_
  refine fr_total S hW (wa_in 123 (by decide +kernel) rfl) dm_Frob_raise_1 ?_
  refine pw_callV (rest := []) S hW (mm_Poly_clear l D k g σ (j := 24) rfl) (cv_Frob_90 S.1.2.2.2.2 ⟨by decide, by decide⟩) (kd_p1 rfl) (en_k0 rfl) rfl rfl hl.1 rfl (lv_room (Nat.le_of_ble_eq_true rfl)) ⟨Nat.zero_le _, Nat.zero_le _⟩ dm_Frob_raise_4 (fun σ1 H locs hp hW => ?_)
  rw [hp, st_cl_po hw (j := 24) rfl] at hW
  refine lv_iconst (v := nI (0)) hx hb dm_Frob_raise_7 (by decide) ?_
  refine lv_istore_n hx hb dm_Frob_raise_8 rfl hl (by decide) rfl (fun ls hl => ?_)
  have hl : lv_has ls 3 [(2, .int (nI (0))), (0, .ref (g (18))), (1, .ref (g (a)))] := hl
  have loop : ∀ (d i : Nat) (τ : st_T), i + d = σ 200 a → st_wf P τ → st_sm [24] σ τ → sp_is P M (τ 24) (sp_ra (σ a) P i) → ∀ (ls : Array Slot) (H : Heap) (locs : List Loc), lv_has ls 3 [(2, .int (nI (i))), (0, .ref (g (18))), (1, .ref (g (a)))] → pw_H D cl_s A s.heap g 153 (en_s k g (τ)) H locs → W p l e rm_Frob_raise s m args below meth c H locs 0 0 Q (F0 m 9 ls []) := by
    intro d
    induction d with
    | zero =>
      intro i τ hi wτ sτ hsp ls H locs hl hW
      have ta : τ a = σ a := sτ a (by simp only [List.mem_singleton]; omega) (by omega)
      have tz : τ 200 a = σ 200 a := by rw [(wτ.2 a ha_).2, ta, hza]
      have hz31 := st_wf_sz hw ha_
      refine lv_iload_n hx hb dm_Frob_raise_9 rfl (lv_at hl 0 rfl) ?_
      refine lv_aload_n hx hb dm_Frob_raise_10 rfl (lv_at hl 2 rfl) ?_
      refine po_getd S hW ha_ (wa_in 48 (by decide +kernel) rfl) dm_Frob_raise_11 ?_
      rw [tz]
      refine wi_icmp_gt (tgt := 59) S (nn_T (by omega)) (sd_T (by omega)) dm_Frob_raise_14 (by decide) (fun hc => ?_) (fun hc => ?_)
      · refine lv_aload_n hx hb dm_Frob_raise_59 rfl (lv_at hl 2 rfl) ?_
        refine lv_aload_n hx hb dm_Frob_raise_60 rfl (lv_at hl 1 rfl) ?_
        refine fr_total S hW (wa_in 123 (by decide +kernel) rfl) dm_Frob_raise_61 ?_
        refine pw_callV (rest := []) S hW (mm_Poly_copyFrom l D k g τ wτ (i := 24) rfl ha_) (cv_Frob_45 S.1.2.2.2.2 ⟨by decide, by decide⟩) (kd_p1 ha_) (en_k0 ha_) rfl rfl hl.1 rfl (lv_room (Nat.le_of_ble_eq_true rfl)) ⟨Nat.zero_le _, Nat.zero_le _⟩ dm_Frob_raise_64 (fun σ3 H locs hp3 hW => ?_)
        rw [hp3] at hW
        refine hret _ _ _ _ _ dm_Frob_raise_67 ⟨st_wf_po wτ ha_ (wτ.2 24 rfl).1, ?_, st_sm_tr sτ (st_sm_po _ a _) (by intro a ha; simp only [List.mem_cons, List.not_mem_nil, or_false] at ha ⊢; omega) (by intro a ha; simp only [List.mem_cons, List.not_mem_nil, or_false] at ha ⊢; omega)⟩ hW
        rw [st_po_at]
        rw [show i = sp_sz (σ a) 31 by omega] at hsp
        exact sp_is_q hsp (sp_ra_pow hP (m := M) (hw.2 a ha_).1)
      · exfalso
        omega
    | succ d ih =>
      intro i τ hi wτ sτ hsp ls H locs hl hW
      have ta : τ a = σ a := sτ a (by simp only [List.mem_singleton]; omega) (by omega)
      have tz : τ 200 a = σ 200 a := by rw [(wτ.2 a ha_).2, ta, hza]
      have hz31 := st_wf_sz hw ha_
      refine lv_iload_n hx hb dm_Frob_raise_9 rfl (lv_at hl 0 rfl) ?_
      refine lv_aload_n hx hb dm_Frob_raise_10 rfl (lv_at hl 2 rfl) ?_
      refine po_getd S hW ha_ (wa_in 48 (by decide +kernel) rfl) dm_Frob_raise_11 ?_
      rw [tz]
      refine wi_icmp_gt (tgt := 59) S (nn_T (by omega)) (sd_T (by omega)) dm_Frob_raise_14 (by decide) (fun hc => ?_) (fun hc => ?_)
      · exfalso
        omega
      · have hai := st_wf_lt hw ha_ i
        refine lv_aload_n hx hb dm_Frob_raise_17 rfl (lv_at hl 2 rfl) ?_
        refine po_getc S hW ha_ (wa_in 44 (by decide +kernel) rfl) dm_Frob_raise_18 ?_
        refine lv_iload_n hx hb dm_Frob_raise_21 rfl (lv_at hl 0 rfl) ?_
        refine po_ald S hW ha_ (by omega) dm_Frob_raise_22 ?_
        rw [ta]
        refine wi_if_eq (tgt := 53) S (nn_T (by omega)) dm_Frob_raise_23 (by decide) (fun hc => ?_) (fun hc => ?_)
        · refine lv_iinc (k := 0) (v := nI (i + 1)) hx hb dm_Frob_raise_53 hl rfl (by rw [show Int32.ofInt 1 = nI 1 from rfl, nI_add]) (by decide) rfl (fun ls hl => ?_)
          have hl : lv_has ls 3 [(2, .int (nI (i + 1))), (0, .ref (g (18))), (1, .ref (g (a)))] := hl
          refine lv_goto (tgt := 9) hx hb dm_Frob_raise_56 (by decide) ?_
          refine ih (i + 1) τ (by omega) wτ sτ ?_ ls H locs hl hW
          rw [sp_ra_z (by omega)]
          exact hsp
        · refine lv_aload_n hx hb dm_Frob_raise_26 rfl (lv_at hl 1 rfl) ?_
          refine fr_ring S hW (wa_in 119 (by decide +kernel) rfl) dm_Frob_raise_27 ?_
          refine lv_aload_n hx hb dm_Frob_raise_30 rfl (lv_at hl 1 rfl) ?_
          refine fr_total S hW (wa_in 123 (by decide +kernel) rfl) dm_Frob_raise_31 ?_
          refine lv_aload_n hx hb dm_Frob_raise_34 rfl (lv_at hl 1 rfl) ?_
          refine fr_total S hW (wa_in 123 (by decide +kernel) rfl) dm_Frob_raise_35 ?_
          refine lv_aload_n hx hb dm_Frob_raise_38 rfl (lv_at hl 1 rfl) ?_
          refine fr_images S hW (wa_in 122 (by decide +kernel) rfl) dm_Frob_raise_39 ?_
          refine lv_iload_n hx hb dm_Frob_raise_42 rfl (lv_at hl 0 rfl) ?_
          refine im_ald S hW (by omega) dm_Frob_raise_43 ?_
          refine lv_aload_n hx hb dm_Frob_raise_44 rfl (lv_at hl 2 rfl) ?_
          refine po_getc S hW ha_ (wa_in 44 (by decide +kernel) rfl) dm_Frob_raise_45 ?_
          refine lv_iload_n hx hb dm_Frob_raise_48 rfl (lv_at hl 0 rfl) ?_
          refine po_ald S hW ha_ (by omega) dm_Frob_raise_49 ?_
          rw [ta]
          have him : τ (32 + 2 * i) = σ (32 + 2 * i) := sτ _ (by simp only [List.mem_singleton]; omega) (by omega)
          refine pw_callV (rest := []) S hW (mm_Ring_sumInto l D k g τ wτ hP2 hP31 (x := 24) rfl (a := 24) rfl (b := 32 + 2 * i) (kd_im (by omega)) hai) (cv_Frob_76 S.1.2.2.2.2 ⟨by decide, by decide⟩) (by decide) en_Ring rfl rfl hl.1 rfl (lv_room (Nat.le_of_ble_eq_true rfl)) ⟨Nat.zero_le _, Nat.zero_le _⟩ dm_Frob_raise_50 (fun σ3 H locs hp3 hW => ?_)
          rw [hp3, him] at hW
          refine lv_iinc (k := 0) (v := nI (i + 1)) hx hb dm_Frob_raise_53 hl rfl (by rw [show Int32.ofInt 1 = nI 1 from rfl, nI_add]) (by decide) rfl (fun ls hl => ?_)
          have hl : lv_has ls 3 [(2, .int (nI (i + 1))), (0, .ref (g (18))), (1, .ref (g (a)))] := hl
          refine lv_goto (tgt := 9) hx hb dm_Frob_raise_56 (by decide) ?_
          have hsp2 := sp_ra_s hp0 (a := σ a) hsp (hT.2 i (by omega))
          refine ih (i + 1) _ (by omega) (st_wf_po wτ (j := 24) rfl hsp2.1) (st_sm_tr sτ (st_sm_po _ 24 _) (fun _ h => h) (fun _ h => h)) ?_ ls H locs hl hW
          rw [st_po_at]
          exact hsp2
  refine loop (σ 200 a) 0 _ (by omega) (st_wf_po hw (j := 24) rfl (sp_z_ok hp0)) (st_sm_po σ 24 _) ?_ ls _ _ hl hW
  rw [st_po_at]
  refine ⟨sp_z_ok hp0, ?_, ?_⟩
  · have h : sp_sz (fun _ => 0) 31 ≤ 0 := sp_sz_lt (fun _ _ => rfl)
    omega
  · rw [pe_z]
    exact @ag_rf pz_T pz_R _ (pz_I_ok P _) _
theorem dm_Frob_prepareFor_0 : decode bm_Frob_prepareFor 0 = .ok (.aload_n 0, 1) := by decide +kernel
theorem dm_Frob_prepareFor_1 : decode bm_Frob_prepareFor 1 = .ok (.getfield 12, 3) := by decide +kernel
theorem dm_Frob_prepareFor_4 : decode bm_Frob_prepareFor 4 = .ok (.aload_n 1, 1) := by decide +kernel
theorem dm_Frob_prepareFor_5 : decode bm_Frob_prepareFor 5 = .ok (.invokevirtual 45, 3) := by decide +kernel
theorem dm_Frob_prepareFor_8 : decode bm_Frob_prepareFor 8 = .ok (.aload_n 0, 1) := by decide +kernel
theorem dm_Frob_prepareFor_9 : decode bm_Frob_prepareFor 9 = .ok (.getfield 37, 3) := by decide +kernel
theorem dm_Frob_prepareFor_12 : decode bm_Frob_prepareFor 12 = .ok (.aload_n 0, 1) := by decide +kernel
theorem dm_Frob_prepareFor_13 : decode bm_Frob_prepareFor 13 = .ok (.getfield 12, 3) := by decide +kernel
theorem dm_Frob_prepareFor_16 : decode bm_Frob_prepareFor 16 = .ok (.invokevirtual 49, 3) := by decide +kernel
theorem dm_Frob_prepareFor_19 : decode bm_Frob_prepareFor 19 = .ok (.aload_n 0, 1) := by decide +kernel
theorem dm_Frob_prepareFor_20 : decode bm_Frob_prepareFor 20 = .ok (.getfield 21, 3) := by decide +kernel
theorem dm_Frob_prepareFor_23 : decode bm_Frob_prepareFor 23 = .ok (.iconst 0, 1) := by decide +kernel
theorem dm_Frob_prepareFor_24 : decode bm_Frob_prepareFor 24 = .ok (.aaload, 1) := by decide +kernel
theorem dm_Frob_prepareFor_25 : decode bm_Frob_prepareFor 25 = .ok (.iconst 1, 1) := by decide +kernel
theorem dm_Frob_prepareFor_26 : decode bm_Frob_prepareFor 26 = .ok (.iconst 0, 1) := by decide +kernel
theorem dm_Frob_prepareFor_27 : decode bm_Frob_prepareFor 27 = .ok (.invokevirtual 41, 3) := by decide +kernel
theorem dm_Frob_prepareFor_30 : decode bm_Frob_prepareFor 30 = .ok (.aload_n 0, 1) := by decide +kernel
theorem dm_Frob_prepareFor_31 : decode bm_Frob_prepareFor 31 = .ok (.getfield 37, 3) := by decide +kernel
theorem dm_Frob_prepareFor_34 : decode bm_Frob_prepareFor 34 = .ok (.aload_n 0, 1) := by decide +kernel
theorem dm_Frob_prepareFor_35 : decode bm_Frob_prepareFor 35 = .ok (.getfield 28, 3) := by decide +kernel
theorem dm_Frob_prepareFor_38 : decode bm_Frob_prepareFor 38 = .ok (.aload_n 0, 1) := by decide +kernel
theorem dm_Frob_prepareFor_39 : decode bm_Frob_prepareFor 39 = .ok (.getfield 18, 3) := by decide +kernel
theorem dm_Frob_prepareFor_42 : decode bm_Frob_prepareFor 42 = .ok (.aload_n 0, 1) := by decide +kernel
theorem dm_Frob_prepareFor_43 : decode bm_Frob_prepareFor 43 = .ok (.getfield 37, 3) := by decide +kernel
theorem dm_Frob_prepareFor_46 : decode bm_Frob_prepareFor 46 = .ok (.getfield 54, 3) := by decide +kernel
theorem dm_Frob_prepareFor_49 : decode bm_Frob_prepareFor 49 = .ok (.i2l, 1) := by decide +kernel
theorem dm_Frob_prepareFor_50 : decode bm_Frob_prepareFor 50 = .ok (.aload_n 0, 1) := by decide +kernel
theorem dm_Frob_prepareFor_51 : decode bm_Frob_prepareFor 51 = .ok (.getfield 12, 3) := by decide +kernel
theorem dm_Frob_prepareFor_54 : decode bm_Frob_prepareFor 54 = .ok (.invokevirtual 58, 3) := by decide +kernel
theorem dm_Frob_prepareFor_57 : decode bm_Frob_prepareFor 57 = .ok (.iconst 1, 1) := by decide +kernel
theorem dm_Frob_prepareFor_58 : decode bm_Frob_prepareFor 58 = .ok (.istore_n 2, 1) := by decide +kernel
theorem dm_Frob_prepareFor_59 : decode bm_Frob_prepareFor 59 = .ok (.iload_n 2, 1) := by decide +kernel
theorem dm_Frob_prepareFor_60 : decode bm_Frob_prepareFor 60 = .ok (.aload_n 0, 1) := by decide +kernel
theorem dm_Frob_prepareFor_61 : decode bm_Frob_prepareFor 61 = .ok (.getfield 12, 3) := by decide +kernel
theorem dm_Frob_prepareFor_64 : decode bm_Frob_prepareFor 64 = .ok (.getfield 62, 3) := by decide +kernel
theorem dm_Frob_prepareFor_67 : decode bm_Frob_prepareFor 67 = .ok (.if_icmp .ge 38, 3) := by decide +kernel
theorem dm_Frob_prepareFor_70 : decode bm_Frob_prepareFor 70 = .ok (.aload_n 0, 1) := by decide +kernel
theorem dm_Frob_prepareFor_71 : decode bm_Frob_prepareFor 71 = .ok (.getfield 37, 3) := by decide +kernel
theorem dm_Frob_prepareFor_74 : decode bm_Frob_prepareFor 74 = .ok (.aload_n 0, 1) := by decide +kernel
theorem dm_Frob_prepareFor_75 : decode bm_Frob_prepareFor 75 = .ok (.getfield 21, 3) := by decide +kernel
theorem dm_Frob_prepareFor_78 : decode bm_Frob_prepareFor 78 = .ok (.iload_n 2, 1) := by decide +kernel
theorem dm_Frob_prepareFor_79 : decode bm_Frob_prepareFor 79 = .ok (.aaload, 1) := by decide +kernel
theorem dm_Frob_prepareFor_80 : decode bm_Frob_prepareFor 80 = .ok (.aload_n 0, 1) := by decide +kernel
theorem dm_Frob_prepareFor_81 : decode bm_Frob_prepareFor 81 = .ok (.getfield 21, 3) := by decide +kernel
theorem dm_Frob_prepareFor_84 : decode bm_Frob_prepareFor 84 = .ok (.iload_n 2, 1) := by decide +kernel
theorem dm_Frob_prepareFor_85 : decode bm_Frob_prepareFor 85 = .ok (.iconst 1, 1) := by decide +kernel
theorem dm_Frob_prepareFor_86 : decode bm_Frob_prepareFor 86 = .ok (.isub, 1) := by decide +kernel
theorem dm_Frob_prepareFor_87 : decode bm_Frob_prepareFor 87 = .ok (.aaload, 1) := by decide +kernel
theorem dm_Frob_prepareFor_88 : decode bm_Frob_prepareFor 88 = .ok (.aload_n 0, 1) := by decide +kernel
theorem dm_Frob_prepareFor_89 : decode bm_Frob_prepareFor 89 = .ok (.getfield 28, 3) := by decide +kernel
theorem dm_Frob_prepareFor_92 : decode bm_Frob_prepareFor 92 = .ok (.aload_n 0, 1) := by decide +kernel
theorem dm_Frob_prepareFor_93 : decode bm_Frob_prepareFor 93 = .ok (.getfield 12, 3) := by decide +kernel
theorem dm_Frob_prepareFor_96 : decode bm_Frob_prepareFor 96 = .ok (.invokevirtual 65, 3) := by decide +kernel
theorem dm_Frob_prepareFor_99 : decode bm_Frob_prepareFor 99 = .ok (.iinc 2 1, 3) := by decide +kernel
theorem dm_Frob_prepareFor_102 : decode bm_Frob_prepareFor 102 = .ok (.goto (-43), 3) := by decide +kernel
theorem dm_Frob_prepareFor_105 : decode bm_Frob_prepareFor 105 = .ok (.aload_n 0, 1) := by decide +kernel
theorem dm_Frob_prepareFor_106 : decode bm_Frob_prepareFor 106 = .ok (.getfield 37, 3) := by decide +kernel
theorem dm_Frob_prepareFor_109 : decode bm_Frob_prepareFor 109 = .ok (.aload_n 0, 1) := by decide +kernel
theorem dm_Frob_prepareFor_110 : decode bm_Frob_prepareFor 110 = .ok (.getfield 31, 3) := by decide +kernel
theorem dm_Frob_prepareFor_113 : decode bm_Frob_prepareFor 113 = .ok (.aload_n 0, 1) := by decide +kernel
theorem dm_Frob_prepareFor_114 : decode bm_Frob_prepareFor 114 = .ok (.getfield 18, 3) := by decide +kernel
theorem dm_Frob_prepareFor_117 : decode bm_Frob_prepareFor 117 = .ok (.aload_n 0, 1) := by decide +kernel
theorem dm_Frob_prepareFor_118 : decode bm_Frob_prepareFor 118 = .ok (.getfield 12, 3) := by decide +kernel
theorem dm_Frob_prepareFor_121 : decode bm_Frob_prepareFor 121 = .ok (.invokevirtual 69, 3) := by decide +kernel
theorem dm_Frob_prepareFor_124 : decode bm_Frob_prepareFor 124 = .ok (.return_, 1) := by decide +kernel
abbrev fb_X : List Nat := [2, 4, 6, 12, 14, 16, 19, 26, 28, 32, 34, 36, 38, 40, 42, 44, 46, 48, 50, 52, 54, 56, 58, 60]
theorem fb_im {i : Nat} (h : i < 15) : 32 + 2 * i ∈ fb_X := (by decide +kernel : ∀ i, i < 15 → 32 + 2 * i ∈ fb_X) i h
set_option maxHeartbeats 4000000 in
set_option maxRecDepth 100000 in
theorem mm_Frob_prepareFor (l : Launch) (D : va_G) (k : ClassId × ClassId × ClassId) (g : Nat → Nat) (σ : st_T) {P m0 : Nat} (hw : st_wf P σ) (hP : ag_pr P) (hP31 : P < 2147483648) (hm0_ : kd_k m0 = 0) (hms : 1 < σ 200 m0) (hms2 : σ 200 m0 ≤ 16) (hx21 : σ 21 = sp_x) : mt_V l D k g ym_Frob_prepareFor wm_Frob_prepareFor rm_Frob_prepareFor [.ref (g 18), .ref (g m0)] σ (fun σ1 => st_wf P σ1 ∧ (fb_t P (σ m0) σ1 ∧ sp_is P (σ m0) (σ1 28) pz_X) ∧ st_sm fb_X σ σ1) := by
  refine ct_V_in (cc := bm_Frob_prepareFor) (maxL := 3) (by decide) rfl (Nat.le_of_ble_eq_true rfl) ?_
  intro p e s m args below meth c A ls Q S hl hW hret
  have S : pw_S p m c bm_Frob_prepareFor 3 s args wa_g rc_Frob D cl_s (ty_s k) := S
  have hx := S.1.1
  have hb := S.1.2.1
  have hl : lv_has ls 3 [(0, .ref (g (18))), (1, .ref (g (m0)))] := hl
  have hP2 := hP.1
  have hp0 : 0 < P := by omega
  have hmo := (hw.2 m0 hm0_).1
  have hsm : sp_sz (σ m0) 31 = σ 200 m0 := ((hw.2 m0 hm0_).2).symm
  have hok := sp_mon_ok hP hmo
  have hsz : sp_sz (sp_mon P (σ m0)) 31 = σ 200 m0 := by rw [sp_mon_sz hP hmo, hsm]
  have hI := pz_I_ok P (pe_f (σ m0))
  have w1 : st_wf P (st_po σ 19 (σ m0)) := st_wf_po hw (j := 19) rfl hmo
  have w2 : st_wf P (st_po σ 19 (sp_mon P (σ m0))) := st_wf_po hw (j := 19) rfl hok
  refine lv_aload_n hx hb dm_Frob_prepareFor_0 rfl (lv_at hl 0 rfl) ?_
  refine fr_modulus S hW (wa_in 120 (by decide +kernel) rfl) dm_Frob_prepareFor_1 ?_
  refine lv_aload_n hx hb dm_Frob_prepareFor_4 rfl (lv_at hl 1 rfl) ?_
  refine pw_callV (rest := []) S hW (mm_Poly_copyFrom l D k g σ hw hm0_ (j := 19) rfl) (cv_Frob_45 S.1.2.2.2.2 ⟨by decide, by decide⟩) (kd_p1 rfl) (en_k0 rfl) rfl rfl hl.1 rfl (lv_room (Nat.le_of_ble_eq_true rfl)) ⟨Nat.zero_le _, Nat.zero_le _⟩ dm_Frob_prepareFor_5 (fun σ1 H locs hp hW => ?_)
  rw [hp] at hW
  refine lv_aload_n hx hb dm_Frob_prepareFor_8 rfl (lv_at hl 0 rfl) ?_
  refine fr_ring S hW (wa_in 119 (by decide +kernel) rfl) dm_Frob_prepareFor_9 ?_
  refine lv_aload_n hx hb dm_Frob_prepareFor_12 rfl (lv_at hl 0 rfl) ?_
  refine fr_modulus S hW (wa_in 120 (by decide +kernel) rfl) dm_Frob_prepareFor_13 ?_
  refine pw_callV (rest := []) S hW (mm_Ring_makeMonic l D k g (st_po σ 19 (σ m0)) w1 hP hP31 (x := 19) rfl) (cv_Frob_49 S.1.2.2.2.2 ⟨by decide, by decide⟩) (by decide) en_Ring rfl rfl hl.1 rfl (lv_room (Nat.le_of_ble_eq_true rfl)) ⟨Nat.zero_le _, Nat.zero_le _⟩ dm_Frob_prepareFor_16 (fun σ2 H locs hp2 hW => ?_)
  rw [hp2, st_po_at, st_po_po (by decide)] at hW
  refine lv_aload_n hx hb dm_Frob_prepareFor_19 rfl (lv_at hl 0 rfl) ?_
  refine fr_images S hW (wa_in 122 (by decide +kernel) rfl) dm_Frob_prepareFor_20 ?_
  refine lv_iconst (v := nI (0)) hx hb dm_Frob_prepareFor_23 (by decide) ?_
  refine im_ald S hW (by omega) dm_Frob_prepareFor_24 ?_
  refine lv_iconst (v := nI (1)) hx hb dm_Frob_prepareFor_25 (by decide) ?_
  refine lv_iconst (v := nI (0)) hx hb dm_Frob_prepareFor_26 (by decide) ?_
  refine pw_callV (rest := []) S hW (mm_Poly_becomeTerm l D k g (st_po σ 19 (sp_mon P (σ m0))) w2 (j := 32 + 2 * 0) rfl (v := 1) (n := 0) (by omega) (by omega)) (cv_Frob_41 S.1.2.2.2.2 ⟨by decide, by decide⟩) (kd_p1 (kd_im (r := 0) (by omega))) (en_k0 (kd_im (r := 0) (by omega))) rfl rfl hl.1 rfl (lv_room (Nat.le_of_ble_eq_true rfl)) ⟨Nat.zero_le _, Nat.zero_le _⟩ dm_Frob_prepareFor_27 (fun σ3 H locs hp3 hW => ?_)
  rw [hp3] at hW
  have w3 : st_wf P (st_po (st_po σ 19 (sp_mon P (σ m0))) 32 (va_up (fun _ => 0) 0 1)) := st_wf_po w2 (j := 32) rfl (sp_one_ok hP2)
  have e319 : (st_po (st_po σ 19 (sp_mon P (σ m0))) 32 (va_up (fun _ => 0) 0 1)) 19 = sp_mon P (σ m0) := by rw [st_po_row (by decide) (by decide), st_po_at]
  have e319z : (st_po (st_po σ 19 (sp_mon P (σ m0))) 32 (va_up (fun _ => 0) 0 1)) 200 19 = σ 200 m0 := by rw [(w3.2 19 rfl).2, e319, hsz]
  have e321 : (st_po (st_po σ 19 (sp_mon P (σ m0))) 32 (va_up (fun _ => 0) 0 1)) 21 = sp_x := by rw [st_po_row (by decide) (by decide), st_po_row (by decide) (by decide), hx21]
  refine lv_aload_n hx hb dm_Frob_prepareFor_30 rfl (lv_at hl 0 rfl) ?_
  refine fr_ring S hW (wa_in 119 (by decide +kernel) rfl) dm_Frob_prepareFor_31 ?_
  refine lv_aload_n hx hb dm_Frob_prepareFor_34 rfl (lv_at hl 0 rfl) ?_
  refine fr_current S hW (wa_in 124 (by decide +kernel) rfl) dm_Frob_prepareFor_35 ?_
  refine lv_aload_n hx hb dm_Frob_prepareFor_38 rfl (lv_at hl 0 rfl) ?_
  refine fr_variable S hW (wa_in 121 (by decide +kernel) rfl) dm_Frob_prepareFor_39 ?_
  refine lv_aload_n hx hb dm_Frob_prepareFor_42 rfl (lv_at hl 0 rfl) ?_
  refine fr_ring S hW (wa_in 119 (by decide +kernel) rfl) dm_Frob_prepareFor_43 ?_
  refine rg_p S hW (wa_in 61 (by decide +kernel) rfl) dm_Frob_prepareFor_46 ?_
  rw [(show (st_po (st_po σ 19 (sp_mon P (σ m0))) 32 (va_up (fun _ => 0) 0 1)) 203 0 = P from w3.1)]
  refine wn_i2l S (by omega) dm_Frob_prepareFor_49 ?_
  refine lv_aload_n hx hb dm_Frob_prepareFor_50 rfl (lv_at hl 0 rfl) ?_
  refine fr_modulus S hW (wa_in 120 (by decide +kernel) rfl) dm_Frob_prepareFor_51 ?_
  have hW : pw_H D cl_s A s.heap g 153 (en_s k g (st_po (st_po σ 19 (sp_mon P (σ m0))) 32 (va_up (fun _ => 0) 0 1))) H locs := hW
  refine pw_callV (rest := []) S hW (mm_Ring_powerInto l D k g (st_po (st_po σ 19 (sp_mon P (σ m0))) 32 (va_up (fun _ => 0) 0 1)) w3 hP hP31 (x := 26) rfl (a := 21) rfl (m0 := 19) rfl (n0 := P) (by decide) (by decide) (by decide) (by omega) (by omega) (by omega)) (cv_Frob_58 S.1.2.2.2.2 ⟨by decide, by decide⟩) (by decide) en_Ring rfl rfl hl.1 rfl (lv_room (Nat.le_of_ble_eq_true rfl)) ⟨Nat.zero_le _, Nat.zero_le _⟩ dm_Frob_prepareFor_54 (fun σ4 H locs hp4 hW => ?_)
  obtain ⟨w4, e4, s4⟩ := hp4
  rw [e319, e321, sp_x_pe, sp_mon_is hP hmo] at e4
  have e419 : σ4 19 = sp_mon P (σ m0) := by rw [s4 19 (by decide) (by decide), e319]
  have e432 : σ4 32 = va_up (fun _ => 0) 0 1 := by rw [s4 32 (by decide) (by decide), st_po_at]
  have sm4 : st_sm fb_X σ σ4 := st_sm_tr (st_sm_tr (st_sm_po σ 19 _) (st_sm_po _ 32 _) (Z := fb_X) (by decide) (by decide)) s4 (fun _ h => h) (by decide)
  refine lv_iconst (v := nI (1)) hx hb dm_Frob_prepareFor_57 (by decide) ?_
  refine lv_istore_n hx hb dm_Frob_prepareFor_58 rfl hl (by decide) rfl (fun ls hl => ?_)
  have hl : lv_has ls 3 [(2, .int (nI (1))), (0, .ref (g (18))), (1, .ref (g (m0)))] := hl
  have hl : lv_has ls 3 [(2, .int (nI (1))), (0, .ref (g (18)))] := lv_sub hl [0, 1] rfl
  have loop : ∀ (d i : Nat) (τ : st_T), i + d + 2 = σ 200 m0 → st_wf P τ → st_sm fb_X σ τ → τ 19 = sp_mon P (σ m0) → sp_is P (σ m0) (τ 26) (pz_pw pz_X P) → (∀ j, j ≤ i → sp_is P (σ m0) (τ (32 + 2 * j)) (pz_pw pz_X (P * j))) → ∀ (ls : Array Slot) (H : Heap) (locs : List Loc), lv_has ls 3 [(2, .int (nI (i + 1))), (0, .ref (g (18)))] → pw_H D cl_s A s.heap g 153 (en_s k g (τ)) H locs → W p l e rm_Frob_prepareFor s m args below meth c H locs 0 0 Q (F0 m 59 ls []) := by
    intro d
    induction d with
    | zero =>
      intro i τ hi wτ sτ t19 t26 tim ls H locs hl hW
      have tz : τ 200 19 = σ 200 m0 := by rw [(wτ.2 19 rfl).2, t19, hsz]
      refine lv_iload_n hx hb dm_Frob_prepareFor_59 rfl (lv_at hl 0 rfl) ?_
      refine lv_aload_n hx hb dm_Frob_prepareFor_60 rfl (lv_at hl 1 rfl) ?_
      refine fr_modulus S hW (wa_in 120 (by decide +kernel) rfl) dm_Frob_prepareFor_61 ?_
      refine po_getd S hW rfl (wa_in 48 (by decide +kernel) rfl) dm_Frob_prepareFor_64 ?_
      rw [tz]
      refine wi_icmp_ge (tgt := 105) S (nn_T (by omega)) (sd_T (by omega)) dm_Frob_prepareFor_67 (by decide) (fun hc => ?_) (fun hc => ?_)
      · have t21 : τ 21 = sp_x := by rw [sτ 21 (by decide) (by decide), hx21]
        refine lv_aload_n hx hb dm_Frob_prepareFor_105 rfl (lv_at hl 1 rfl) ?_
        refine fr_ring S hW (wa_in 119 (by decide +kernel) rfl) dm_Frob_prepareFor_106 ?_
        refine lv_aload_n hx hb dm_Frob_prepareFor_109 rfl (lv_at hl 1 rfl) ?_
        refine fr_climbing S hW (wa_in 125 (by decide +kernel) rfl) dm_Frob_prepareFor_110 ?_
        refine lv_aload_n hx hb dm_Frob_prepareFor_113 rfl (lv_at hl 1 rfl) ?_
        refine fr_variable S hW (wa_in 121 (by decide +kernel) rfl) dm_Frob_prepareFor_114 ?_
        refine lv_aload_n hx hb dm_Frob_prepareFor_117 rfl (lv_at hl 1 rfl) ?_
        refine fr_modulus S hW (wa_in 120 (by decide +kernel) rfl) dm_Frob_prepareFor_118 ?_
        refine pw_callV (rest := []) S hW (mm_Ring_restInto l D k g τ wτ hP hP31 (x := 28) rfl (a := 21) rfl (b := 19) rfl (by decide) (by decide) (by decide) (by decide) (by omega)) (cv_Frob_69 S.1.2.2.2.2 ⟨by decide, by decide⟩) (by decide) en_Ring rfl rfl hl.1 rfl (lv_room (Nat.le_of_ble_eq_true rfl)) ⟨Nat.zero_le _, Nat.zero_le _⟩ dm_Frob_prepareFor_121 (fun σ6 H locs hp6 hW => ?_)
        obtain ⟨w6, e6, s6⟩ := hp6
        rw [t21, t19] at e6
        have hr := (sp_mon_is hP hmo).mp (sp_rest_is hP (sp_x_ok hP2) hok (by omega))
        rw [sp_x_pe] at hr
        refine hret _ _ _ _ _ dm_Frob_prepareFor_124 ⟨w6, ⟨⟨by rw [s6 19 (by decide) (by decide), t19], fun j hj => ?_⟩, by rw [e6]; exact hr⟩, st_sm_tr sτ s6 (fun _ h => h) (by decide)⟩ hW
        rw [s6 (32 + 2 * j) (by simp only [List.mem_cons, List.not_mem_nil, or_false]; omega) (by omega)]
        exact tim j (by omega)
      · exfalso
        omega
    | succ d ih =>
      intro i τ hi wτ sτ t19 t26 tim ls H locs hl hW
      have tz : τ 200 19 = σ 200 m0 := by rw [(wτ.2 19 rfl).2, t19, hsz]
      refine lv_iload_n hx hb dm_Frob_prepareFor_59 rfl (lv_at hl 0 rfl) ?_
      refine lv_aload_n hx hb dm_Frob_prepareFor_60 rfl (lv_at hl 1 rfl) ?_
      refine fr_modulus S hW (wa_in 120 (by decide +kernel) rfl) dm_Frob_prepareFor_61 ?_
      refine po_getd S hW rfl (wa_in 48 (by decide +kernel) rfl) dm_Frob_prepareFor_64 ?_
      rw [tz]
      refine wi_icmp_ge (tgt := 105) S (nn_T (by omega)) (sd_T (by omega)) dm_Frob_prepareFor_67 (by decide) (fun hc => ?_) (fun hc => ?_)
      · exfalso
        omega
      · refine lv_aload_n hx hb dm_Frob_prepareFor_70 rfl (lv_at hl 1 rfl) ?_
        refine fr_ring S hW (wa_in 119 (by decide +kernel) rfl) dm_Frob_prepareFor_71 ?_
        refine lv_aload_n hx hb dm_Frob_prepareFor_74 rfl (lv_at hl 1 rfl) ?_
        refine fr_images S hW (wa_in 122 (by decide +kernel) rfl) dm_Frob_prepareFor_75 ?_
        refine lv_iload_n hx hb dm_Frob_prepareFor_78 rfl (lv_at hl 0 rfl) ?_
        refine im_ald S hW (by omega) dm_Frob_prepareFor_79 ?_
        refine lv_aload_n hx hb dm_Frob_prepareFor_80 rfl (lv_at hl 1 rfl) ?_
        refine fr_images S hW (wa_in 122 (by decide +kernel) rfl) dm_Frob_prepareFor_81 ?_
        refine lv_iload_n hx hb dm_Frob_prepareFor_84 rfl (lv_at hl 0 rfl) ?_
        refine lv_iconst (v := nI (1)) hx hb dm_Frob_prepareFor_85 (by decide) ?_
        refine wn_isub S (by omega) dm_Frob_prepareFor_86 ?_
        rw [Nat.add_sub_cancel]
        refine im_ald S hW (by omega) dm_Frob_prepareFor_87 ?_
        refine lv_aload_n hx hb dm_Frob_prepareFor_88 rfl (lv_at hl 1 rfl) ?_
        refine fr_current S hW (wa_in 124 (by decide +kernel) rfl) dm_Frob_prepareFor_89 ?_
        refine lv_aload_n hx hb dm_Frob_prepareFor_92 rfl (lv_at hl 1 rfl) ?_
        refine fr_modulus S hW (wa_in 120 (by decide +kernel) rfl) dm_Frob_prepareFor_93 ?_
        have ti := tim i (Nat.le_refl _)
        have zi := (wτ.2 (32 + 2 * i) (kd_im (by omega))).2
        have z26 := (wτ.2 26 rfl).2
        have ti1 := ti.2.1
        have t261 := t26.2.1
        refine pw_callV (rest := []) S hW (mm_Ring_productRestInto l D k g τ wτ hP hP31 (x := 32 + 2 * (i + 1)) (kd_im (by omega)) (a := 32 + 2 * i) (kd_im (by omega)) (b := 26) rfl (m0 := 19) rfl (by omega) (by decide) (by decide) (by decide) (by decide) (by omega) (by omega)) (cv_Frob_65 S.1.2.2.2.2 ⟨by decide, by decide⟩) (by decide) en_Ring rfl rfl hl.1 rfl (lv_room (Nat.le_of_ble_eq_true rfl)) ⟨Nat.zero_le _, Nat.zero_le _⟩ dm_Frob_prepareFor_96 (fun σ6 H locs hp6 hW => ?_)
        obtain ⟨w6, e6, s6⟩ := hp6
        rw [t19] at e6
        have hr := (sp_mon_is hP hmo).mp (sp_mr hP ti.1 t26.1 hok (by omega) (by omega) ((sp_mon_I hP hmo _).mpr ti.2.2) ((sp_mon_I hP hmo _).mpr t26.2.2))
        refine lv_iinc (k := 0) (v := nI (i + 1 + 1)) hx hb dm_Frob_prepareFor_99 hl rfl (by rw [show Int32.ofInt 1 = nI 1 from rfl, nI_add]) (by decide) rfl (fun ls hl => ?_)
        have hl : lv_has ls 3 [(2, .int (nI (i + 1 + 1))), (0, .ref (g (18)))] := hl
        refine lv_goto (tgt := 59) hx hb dm_Frob_prepareFor_102 (by decide) ?_
        refine ih (i + 1) σ6 (by omega) w6 (st_sm_tr sτ s6 (fun _ h => h) (fun a ha => ?_)) (by rw [s6 19 (by simp only [List.mem_cons, List.not_mem_nil, or_false]; omega) (by decide), t19]) (by rw [s6 26 (by simp only [List.mem_cons, List.not_mem_nil, or_false]; omega) (by decide)]; exact t26) (fun j hj => ?_) ls H locs hl hW
        · rcases List.mem_cons.mp ha with rfl | ha
          · exact fb_im (by omega)
          · exact (by decide : ∀ a ∈ [2, 4, 6], a ∈ fb_X) a ha
        · by_cases hj2 : j = i + 1
          · rw [hj2, e6]
            refine sp_is_q hr (@ag_of_eq pz_T pz_R _ hI _ _ ?_)
            have e7 : pz_pw pz_X (P * i + P) = pz_ml (pz_pw pz_X (P * i)) (pz_pw pz_X P) := @Lean.Grind.Semiring.pow_add pz_T pz_R.toSemiring pz_X (P * i) P
            rw [Nat.mul_add, Nat.mul_one]
            exact e7.symm
          · rw [s6 (32 + 2 * j) (by simp only [List.mem_cons, List.not_mem_nil, or_false]; omega) (by omega)]
            exact tim j (by omega)
  refine loop (σ 200 m0 - 2) 0 σ4 (by omega) w4 sm4 e419 e4 (fun j hj => ?_) ls _ _ hl hW
  rw [show j = 0 by omega, Nat.mul_zero, Nat.mul_zero]
  rw [show 32 + 0 = 32 from rfl, e432]
  refine ⟨sp_one_ok hP2, ?_, ?_⟩
  · have h : sp_sz (va_up (fun _ => 0) 0 1) 31 ≤ 1 := sp_sz_lt (fun i hi => by rw [va_up_ne _ _ (by omega)])
    omega
  · rw [sp_one_pe]
    exact @ag_rf pz_T pz_R _ hI _
