/-! The face, first half -/
/-- a register's number, a coefficient's -/
def rk_r (x : Int32) : Prop := ∃ n, n < 8 ∧ x = nI n
def rk_i (x : Int32) : Prop := ∃ n, n < 16 ∧ x = nI n
theorem rk_of {x : Int32} {c : Nat} (hc : c ≤ 16) (h0 : 0 ≤ x.toInt) (h1 : x.toInt < (c : Int)) : ∃ n, n < c ∧ x = nI n := ⟨x.toInt.toNat, by omega, Int32.toInt_inj.mp (by rw [nI_toInt (by omega)]; omega)⟩
theorem rk_no {x : Int32} {c : Nat} (hc : c ≤ 16) (h : x.toInt < 0 ∨ (c : Int) ≤ x.toInt) : ¬ ∃ n, n < c ∧ x = nI n := fun ⟨n, hn, e⟩ => by
  rw [e, nI_toInt (by omega)] at h
  omega
theorem st_pv_rg {P : Nat} {σ : st_T} {j n v : Nat} (hw : st_wf P σ) (hj : kd_k j = 0) (hn : n < 31) (hv : v < P) : st_wf P (st_po σ j (va_up (σ j) n v)) := st_wf_po hw hj (fun i => by
  have h := (hw.2 j hj).1 i
  unfold va_up
  split
  · exact ⟨hv, fun h => by omega⟩
  · exact h)
theorem dm_PP_isNoRegister_0 : decode bm_PP_isNoRegister 0 = .ok (.iload_n 0, 1) := by decide +kernel
theorem dm_PP_isNoRegister_1 : decode bm_PP_isNoRegister 1 = .ok (.ifCond .lt 9, 3) := by decide +kernel
theorem dm_PP_isNoRegister_4 : decode bm_PP_isNoRegister 4 = .ok (.iload_n 0, 1) := by decide +kernel
theorem dm_PP_isNoRegister_5 : decode bm_PP_isNoRegister 5 = .ok (.bipush 8, 2) := by decide +kernel
theorem dm_PP_isNoRegister_7 : decode bm_PP_isNoRegister 7 = .ok (.if_icmp .lt 7, 3) := by decide +kernel
theorem dm_PP_isNoRegister_10 : decode bm_PP_isNoRegister 10 = .ok (.iconst 1, 1) := by decide +kernel
theorem dm_PP_isNoRegister_11 : decode bm_PP_isNoRegister 11 = .ok (.goto 4, 3) := by decide +kernel
theorem dm_PP_isNoRegister_14 : decode bm_PP_isNoRegister 14 = .ok (.iconst 0, 1) := by decide +kernel
theorem dm_PP_isNoRegister_15 : decode bm_PP_isNoRegister 15 = .ok (.ireturn, 1) := by decide +kernel
set_option maxHeartbeats 4000000 in
set_option maxRecDepth 100000 in
theorem mm_PP_isNoRegister (l : Launch) (D : va_G) (k : ClassId × ClassId × ClassId) (g : Nat → Nat) (σ : st_T) {x : Int32} : mt_I l D k g ym_PP_isNoRegister wm_PP_isNoRegister rm_PP_isNoRegister [.int x] σ (fun r σ1 => ((r = nI 0 ∧ rk_r x) ∨ (r = nI 1 ∧ ¬ rk_r x)) ∧ σ1 = σ) := by
  refine ct_Z_in (cc := bm_PP_isNoRegister) (maxL := 1) (by decide) rfl (Nat.le_of_ble_eq_true rfl) ?_
  intro p e s m args below meth c A ls Q S hl hW hret
  have S : pw_S p m c bm_PP_isNoRegister 1 s args wa_g rc_PP D cl_s (ty_s k) := S
  have hx := S.1.1
  have hb := S.1.2.1
  have hl : lv_has ls 1 [(0, .int (x))] := hl
  refine lv_iload_n hx hb dm_PP_isNoRegister_0 rfl (lv_at hl 0 rfl) ?_
  refine wi_if_lt (tgt := 10) S rfl dm_PP_isNoRegister_1 (by decide) (fun hc => ?_) (fun hc => ?_)
  · refine lv_iconst (v := nI (1)) hx hb dm_PP_isNoRegister_10 (by decide) ?_
    refine lv_goto (tgt := 15) hx hb dm_PP_isNoRegister_11 (by decide) ?_
    exact hret _ _ _ _ _ _ dm_PP_isNoRegister_15 (by decide) ⟨Or.inr ⟨rfl, rk_no (by omega) (by omega)⟩, rfl⟩ hW
  · refine lv_iload_n hx hb dm_PP_isNoRegister_4 rfl (lv_at hl 0 rfl) ?_
    refine lv_bipush (v := nI (8)) hx hb dm_PP_isNoRegister_5 (by decide) ?_
    refine wi_icmp_lt (tgt := 14) S rfl (nn_T (by omega)) dm_PP_isNoRegister_7 (by decide) (fun hc => ?_) (fun hc => ?_)
    · refine lv_iconst (v := nI (0)) hx hb dm_PP_isNoRegister_14 (by decide) ?_
      exact hret _ _ _ _ _ _ dm_PP_isNoRegister_15 (by decide) ⟨Or.inl ⟨rfl, rk_of (by omega) (by omega) (by omega)⟩, rfl⟩ hW
    · refine lv_iconst (v := nI (1)) hx hb dm_PP_isNoRegister_10 (by decide) ?_
      refine lv_goto (tgt := 15) hx hb dm_PP_isNoRegister_11 (by decide) ?_
      exact hret _ _ _ _ _ _ dm_PP_isNoRegister_15 (by decide) ⟨Or.inr ⟨rfl, rk_no (by omega) (by omega)⟩, rfl⟩ hW
theorem dm_PP_isNoIndex_0 : decode bm_PP_isNoIndex 0 = .ok (.iload_n 0, 1) := by decide +kernel
theorem dm_PP_isNoIndex_1 : decode bm_PP_isNoIndex 1 = .ok (.ifCond .lt 9, 3) := by decide +kernel
theorem dm_PP_isNoIndex_4 : decode bm_PP_isNoIndex 4 = .ok (.iload_n 0, 1) := by decide +kernel
theorem dm_PP_isNoIndex_5 : decode bm_PP_isNoIndex 5 = .ok (.bipush 15, 2) := by decide +kernel
theorem dm_PP_isNoIndex_7 : decode bm_PP_isNoIndex 7 = .ok (.if_icmp .le 7, 3) := by decide +kernel
theorem dm_PP_isNoIndex_10 : decode bm_PP_isNoIndex 10 = .ok (.iconst 1, 1) := by decide +kernel
theorem dm_PP_isNoIndex_11 : decode bm_PP_isNoIndex 11 = .ok (.goto 4, 3) := by decide +kernel
theorem dm_PP_isNoIndex_14 : decode bm_PP_isNoIndex 14 = .ok (.iconst 0, 1) := by decide +kernel
theorem dm_PP_isNoIndex_15 : decode bm_PP_isNoIndex 15 = .ok (.ireturn, 1) := by decide +kernel
set_option maxHeartbeats 4000000 in
set_option maxRecDepth 100000 in
theorem mm_PP_isNoIndex (l : Launch) (D : va_G) (k : ClassId × ClassId × ClassId) (g : Nat → Nat) (σ : st_T) {x : Int32} : mt_I l D k g ym_PP_isNoIndex wm_PP_isNoIndex rm_PP_isNoIndex [.int x] σ (fun r σ1 => ((r = nI 0 ∧ rk_i x) ∨ (r = nI 1 ∧ ¬ rk_i x)) ∧ σ1 = σ) := by
  refine ct_Z_in (cc := bm_PP_isNoIndex) (maxL := 1) (by decide) rfl (Nat.le_of_ble_eq_true rfl) ?_
  intro p e s m args below meth c A ls Q S hl hW hret
  have S : pw_S p m c bm_PP_isNoIndex 1 s args wa_g rc_PP D cl_s (ty_s k) := S
  have hx := S.1.1
  have hb := S.1.2.1
  have hl : lv_has ls 1 [(0, .int (x))] := hl
  refine lv_iload_n hx hb dm_PP_isNoIndex_0 rfl (lv_at hl 0 rfl) ?_
  refine wi_if_lt (tgt := 10) S rfl dm_PP_isNoIndex_1 (by decide) (fun hc => ?_) (fun hc => ?_)
  · refine lv_iconst (v := nI (1)) hx hb dm_PP_isNoIndex_10 (by decide) ?_
    refine lv_goto (tgt := 15) hx hb dm_PP_isNoIndex_11 (by decide) ?_
    exact hret _ _ _ _ _ _ dm_PP_isNoIndex_15 (by decide) ⟨Or.inr ⟨rfl, rk_no (by omega) (by omega)⟩, rfl⟩ hW
  · refine lv_iload_n hx hb dm_PP_isNoIndex_4 rfl (lv_at hl 0 rfl) ?_
    refine lv_bipush (v := nI (15)) hx hb dm_PP_isNoIndex_5 (by decide) ?_
    refine wi_icmp_le (tgt := 14) S rfl (nn_T (by omega)) dm_PP_isNoIndex_7 (by decide) (fun hc => ?_) (fun hc => ?_)
    · refine lv_iconst (v := nI (0)) hx hb dm_PP_isNoIndex_14 (by decide) ?_
      exact hret _ _ _ _ _ _ dm_PP_isNoIndex_15 (by decide) ⟨Or.inl ⟨rfl, rk_of (by omega) (by omega) (by omega)⟩, rfl⟩ hW
    · refine lv_iconst (v := nI (1)) hx hb dm_PP_isNoIndex_10 (by decide) ?_
      refine lv_goto (tgt := 15) hx hb dm_PP_isNoIndex_11 (by decide) ?_
      exact hret _ _ _ _ _ _ dm_PP_isNoIndex_15 (by decide) ⟨Or.inr ⟨rfl, rk_no (by omega) (by omega)⟩, rfl⟩ hW
theorem dm_PP_isNoPart_0 : decode bm_PP_isNoPart 0 = .ok (.iload_n 1, 1) := by decide +kernel
theorem dm_PP_isNoPart_1 : decode bm_PP_isNoPart 1 = .ok (.ifCond .lt 14, 3) := by decide +kernel
theorem dm_PP_isNoPart_4 : decode bm_PP_isNoPart 4 = .ok (.iload_n 1, 1) := by decide +kernel
theorem dm_PP_isNoPart_5 : decode bm_PP_isNoPart 5 = .ok (.aload_n 0, 1) := by decide +kernel
theorem dm_PP_isNoPart_6 : decode bm_PP_isNoPart 6 = .ok (.getfield 36, 3) := by decide +kernel
theorem dm_PP_isNoPart_9 : decode bm_PP_isNoPart 9 = .ok (.getfield 127, 3) := by decide +kernel
theorem dm_PP_isNoPart_12 : decode bm_PP_isNoPart 12 = .ok (.if_icmp .lt 7, 3) := by decide +kernel
theorem dm_PP_isNoPart_15 : decode bm_PP_isNoPart 15 = .ok (.iconst 1, 1) := by decide +kernel
theorem dm_PP_isNoPart_16 : decode bm_PP_isNoPart 16 = .ok (.goto 4, 3) := by decide +kernel
theorem dm_PP_isNoPart_19 : decode bm_PP_isNoPart 19 = .ok (.iconst 0, 1) := by decide +kernel
theorem dm_PP_isNoPart_20 : decode bm_PP_isNoPart 20 = .ok (.ireturn, 1) := by decide +kernel
set_option maxHeartbeats 4000000 in
set_option maxRecDepth 100000 in
theorem mm_PP_isNoPart (l : Launch) (D : va_G) (k : ClassId × ClassId × ClassId) (g : Nat → Nat) (σ : st_T) {x : Int32} (hcc : σ 203 1 ≤ 15) : mt_I l D k g ym_PP_isNoPart wm_PP_isNoPart rm_PP_isNoPart [.ref (g 0), .int x] σ (fun r σ1 => ((r = nI 0 ∧ ∃ n, n < σ 203 1 ∧ x = nI n) ∨ (r = nI 1 ∧ ¬ ∃ n, n < σ 203 1 ∧ x = nI n)) ∧ σ1 = σ) := by
  refine ct_Z_in (cc := bm_PP_isNoPart) (maxL := 2) (by decide) rfl (Nat.le_of_ble_eq_true rfl) ?_
  intro p e s m args below meth c A ls Q S hl hW hret
  have S : pw_S p m c bm_PP_isNoPart 2 s args wa_g rc_PP D cl_s (ty_s k) := S
  have hx := S.1.1
  have hb := S.1.2.1
  have hl : lv_has ls 2 [(0, .ref (g (0))), (1, .int (x))] := hl
  refine lv_iload_n hx hb dm_PP_isNoPart_0 rfl (lv_at hl 1 rfl) ?_
  refine wi_if_lt (tgt := 15) S rfl dm_PP_isNoPart_1 (by decide) (fun hc => ?_) (fun hc => ?_)
  · refine lv_iconst (v := nI (1)) hx hb dm_PP_isNoPart_15 (by decide) ?_
    refine lv_goto (tgt := 20) hx hb dm_PP_isNoPart_16 (by decide) ?_
    exact hret _ _ _ _ _ _ dm_PP_isNoPart_20 (by decide) ⟨Or.inr ⟨rfl, rk_no (by omega) (by omega)⟩, rfl⟩ hW
  · refine lv_iload_n hx hb dm_PP_isNoPart_4 rfl (lv_at hl 1 rfl) ?_
    refine lv_aload_n hx hb dm_PP_isNoPart_5 rfl (lv_at hl 0 rfl) ?_
    refine pp_parts S hW (wa_in 247 (by decide +kernel) rfl) dm_PP_isNoPart_6 ?_
    refine ps_count S hW (wa_in 181 (by decide +kernel) rfl) dm_PP_isNoPart_9 ?_
    refine wi_icmp_lt (tgt := 19) S rfl (nn_T (by omega)) dm_PP_isNoPart_12 (by decide) (fun hc => ?_) (fun hc => ?_)
    · refine lv_iconst (v := nI (0)) hx hb dm_PP_isNoPart_19 (by decide) ?_
      exact hret _ _ _ _ _ _ dm_PP_isNoPart_20 (by decide) ⟨Or.inl ⟨rfl, rk_of (by omega) (by omega) (by omega)⟩, rfl⟩ hW
    · refine lv_iconst (v := nI (1)) hx hb dm_PP_isNoPart_15 (by decide) ?_
      refine lv_goto (tgt := 20) hx hb dm_PP_isNoPart_16 (by decide) ?_
      exact hret _ _ _ _ _ _ dm_PP_isNoPart_20 (by decide) ⟨Or.inr ⟨rfl, rk_no (by omega) (by omega)⟩, rfl⟩ hW
theorem dm_PP_sizeOf_0 : decode bm_PP_sizeOf 0 = .ok (.aload_n 0, 1) := by decide +kernel
theorem dm_PP_sizeOf_1 : decode bm_PP_sizeOf 1 = .ok (.getfield 49, 3) := by decide +kernel
theorem dm_PP_sizeOf_4 : decode bm_PP_sizeOf 4 = .ok (.iload_n 1, 1) := by decide +kernel
theorem dm_PP_sizeOf_5 : decode bm_PP_sizeOf 5 = .ok (.aaload, 1) := by decide +kernel
theorem dm_PP_sizeOf_6 : decode bm_PP_sizeOf 6 = .ok (.getfield 75, 3) := by decide +kernel
theorem dm_PP_sizeOf_9 : decode bm_PP_sizeOf 9 = .ok (.iconst 1, 1) := by decide +kernel
theorem dm_PP_sizeOf_10 : decode bm_PP_sizeOf 10 = .ok (.iadd, 1) := by decide +kernel
theorem dm_PP_sizeOf_11 : decode bm_PP_sizeOf 11 = .ok (.ireturn, 1) := by decide +kernel
set_option maxHeartbeats 4000000 in
set_option maxRecDepth 100000 in
theorem mm_PP_sizeOf (l : Launch) (D : va_G) (k : ClassId × ClassId × ClassId) (g : Nat → Nat) (σ : st_T) {n : Nat} (hn : n < 8) : mt_I l D k g ym_PP_sizeOf wm_PP_sizeOf rm_PP_sizeOf [.ref (g 0), .int (nI n)] σ (fun r σ1 => r = nI (σ 200 (133 + 2 * n)) ∧ σ1 = σ) := by
  refine ct_I_in (cc := bm_PP_sizeOf) (maxL := 2) (by decide) rfl (Nat.le_of_ble_eq_true rfl) ?_
  intro p e s m args below meth c A ls Q S hl hW hret
  have S : pw_S p m c bm_PP_sizeOf 2 s args wa_g rc_PP D cl_s (ty_s k) := S
  have hx := S.1.1
  have hb := S.1.2.1
  have hl : lv_has ls 2 [(0, .ref (g (0))), (1, .int (nI (n)))] := hl
  refine lv_aload_n hx hb dm_PP_sizeOf_0 rfl (lv_at hl 0 rfl) ?_
  refine pp_registers S hW (wa_in 249 (by decide +kernel) rfl) dm_PP_sizeOf_1 ?_
  refine lv_iload_n hx hb dm_PP_sizeOf_4 rfl (lv_at hl 1 rfl) ?_
  refine ra_ald S hW (by omega) dm_PP_sizeOf_5 ?_
  refine po_getd S hW (kd_rg (r := n) (by omega)) (wa_in 51 (by decide +kernel) rfl) dm_PP_sizeOf_6 ?_
  refine lv_iconst (v := nI (1)) hx hb dm_PP_sizeOf_9 (by decide) ?_
  refine wn_sd1 S dm_PP_sizeOf_10 ?_
  exact hret _ _ _ _ _ _ dm_PP_sizeOf_11 ⟨rfl, rfl⟩ hW
theorem dm_PP_prime_0 : decode bm_PP_prime 0 = .ok (.aload_n 0, 1) := by decide +kernel
theorem dm_PP_prime_1 : decode bm_PP_prime 1 = .ok (.getfield 18, 3) := by decide +kernel
theorem dm_PP_prime_4 : decode bm_PP_prime 4 = .ok (.getfield 54, 3) := by decide +kernel
theorem dm_PP_prime_7 : decode bm_PP_prime 7 = .ok (.ireturn, 1) := by decide +kernel
set_option maxHeartbeats 4000000 in
set_option maxRecDepth 100000 in
theorem mm_PP_prime (l : Launch) (D : va_G) (k : ClassId × ClassId × ClassId) (g : Nat → Nat) (σ : st_T)  : mt_I l D k g ym_PP_prime wm_PP_prime rm_PP_prime [.ref (g 0)] σ (fun r σ1 => r = nI (σ 203 0) ∧ σ1 = σ) := by
  refine ct_I_in (cc := bm_PP_prime) (maxL := 1) (by decide) rfl (Nat.le_of_ble_eq_true rfl) ?_
  intro p e s m args below meth c A ls Q S hl hW hret
  have S : pw_S p m c bm_PP_prime 1 s args wa_g rc_PP D cl_s (ty_s k) := S
  have hx := S.1.1
  have hb := S.1.2.1
  have hl : lv_has ls 1 [(0, .ref (g (0)))] := hl
  refine lv_aload_n hx hb dm_PP_prime_0 rfl (lv_at hl 0 rfl) ?_
  refine pp_ring S hW (wa_in 245 (by decide +kernel) rfl) dm_PP_prime_1 ?_
  refine rg_p S hW (wa_in 60 (by decide +kernel) rfl) dm_PP_prime_4 ?_
  exact hret _ _ _ _ _ _ dm_PP_prime_7 ⟨rfl, rfl⟩ hW
theorem dm_PP_set_0 : decode bm_PP_set 0 = .ok (.iload_n 1, 1) := by decide +kernel
theorem dm_PP_set_1 : decode bm_PP_set 1 = .ok (.invokestatic 58, 3) := by decide +kernel
theorem dm_PP_set_4 : decode bm_PP_set 4 = .ok (.ifCond .ne 10, 3) := by decide +kernel
theorem dm_PP_set_7 : decode bm_PP_set 7 = .ok (.iload_n 2, 1) := by decide +kernel
theorem dm_PP_set_8 : decode bm_PP_set 8 = .ok (.invokestatic 62, 3) := by decide +kernel
theorem dm_PP_set_11 : decode bm_PP_set 11 = .ok (.ifCond .eq 5, 3) := by decide +kernel
theorem dm_PP_set_14 : decode bm_PP_set 14 = .ok (.iconst (-1), 1) := by decide +kernel
theorem dm_PP_set_15 : decode bm_PP_set 15 = .ok (.ireturn, 1) := by decide +kernel
theorem dm_PP_set_16 : decode bm_PP_set 16 = .ok (.aload_n 0, 1) := by decide +kernel
theorem dm_PP_set_17 : decode bm_PP_set 17 = .ok (.getfield 49, 3) := by decide +kernel
theorem dm_PP_set_20 : decode bm_PP_set 20 = .ok (.iload_n 1, 1) := by decide +kernel
theorem dm_PP_set_21 : decode bm_PP_set 21 = .ok (.aaload, 1) := by decide +kernel
theorem dm_PP_set_22 : decode bm_PP_set 22 = .ok (.iload_n 2, 1) := by decide +kernel
theorem dm_PP_set_23 : decode bm_PP_set 23 = .ok (.iload_n 3, 1) := by decide +kernel
theorem dm_PP_set_24 : decode bm_PP_set 24 = .ok (.aload_n 0, 1) := by decide +kernel
theorem dm_PP_set_25 : decode bm_PP_set 25 = .ok (.getfield 18, 3) := by decide +kernel
theorem dm_PP_set_28 : decode bm_PP_set 28 = .ok (.getfield 54, 3) := by decide +kernel
theorem dm_PP_set_31 : decode bm_PP_set 31 = .ok (.invokestatic 65, 3) := by decide +kernel
theorem dm_PP_set_34 : decode bm_PP_set 34 = .ok (.invokevirtual 71, 3) := by decide +kernel
theorem dm_PP_set_37 : decode bm_PP_set 37 = .ok (.aload_n 0, 1) := by decide +kernel
theorem dm_PP_set_38 : decode bm_PP_set 38 = .ok (.getfield 49, 3) := by decide +kernel
theorem dm_PP_set_41 : decode bm_PP_set 41 = .ok (.iload_n 1, 1) := by decide +kernel
theorem dm_PP_set_42 : decode bm_PP_set 42 = .ok (.aaload, 1) := by decide +kernel
theorem dm_PP_set_43 : decode bm_PP_set 43 = .ok (.getfield 75, 3) := by decide +kernel
theorem dm_PP_set_46 : decode bm_PP_set 46 = .ok (.iconst 0, 1) := by decide +kernel
theorem dm_PP_set_47 : decode bm_PP_set 47 = .ok (.invokestatic 78, 3) := by decide +kernel
theorem dm_PP_set_50 : decode bm_PP_set 50 = .ok (.ireturn, 1) := by decide +kernel
theorem sd_max {n : Nat} (h : n < 2147483648) : (if sd_i n < nI 0 then nI 0 else sd_i n) = nI (n - 1) := by
  cases n with
  | zero => decide
  | succ n =>
    rw [sd_s, if_neg (fun z => by have h1 := Int32.lt_iff_toInt_lt.mp z; rw [nI_toInt (by omega), nI_toInt (by omega)] at h1; omega)]
    rfl
set_option maxHeartbeats 4000000 in
set_option maxRecDepth 100000 in
theorem mm_PP_set (l : Launch) (D : va_G) (k : ClassId × ClassId × ClassId) (g : Nat → Nat) (σ : st_T) {P : Nat} (hw : st_wf P σ) (hP : ag_pr P) (hP31 : P < 2147483648) (hrg : ∀ n, n < 8 → σ 200 (133 + 2 * n) ≤ 16) {a b c0 : Int32} : mt_I l D k g ym_PP_set wm_PP_set rm_PP_set [.ref (g 0), .int a, .int b, .int c0] σ (fun r σ1 => (¬ (rk_r a ∧ rk_i b) ∧ r = -1 ∧ σ1 = σ) ∨ ∃ a0 b0, (a0 < 8 ∧ a = nI a0) ∧ (b0 < 16 ∧ b = nI b0) ∧ r = nI (sp_sz (va_up (σ (133 + 2 * a0)) b0 (fm_n c0 P)) 31 - 1) ∧ σ1 = st_po σ (133 + 2 * a0) (va_up (σ (133 + 2 * a0)) b0 (fm_n c0 P))) := by
  refine ct_I_in (cc := bm_PP_set) (maxL := 4) (by decide) rfl (Nat.le_of_ble_eq_true rfl) ?_
  intro p e s m args below meth c A ls Q S hl hW hret
  have S : pw_S p m c bm_PP_set 4 s args wa_g rc_PP D cl_s (ty_s k) := S
  have hx := S.1.1
  have hb := S.1.2.1
  have hl : lv_has ls 4 [(0, .ref (g (0))), (1, .int (a)), (2, .int (b)), (3, .int (c0))] := hl
  have hP2 := hP.1
  refine lv_iload_n hx hb dm_PP_set_0 rfl (lv_at hl 1 rfl) ?_
  refine pw_callSI (rest := []) S hW (mm_PP_isNoRegister l D k g σ (x := a)) (cv_PP_58 S.1.2.2.2.2 ⟨by decide, by decide⟩) rfl hl.1 rfl (lv_room (Nat.le_of_ble_eq_true rfl)) ⟨Nat.zero_le _, Nat.zero_le _⟩ dm_PP_set_1 (fun r σ1 H locs hp hW => ?_)
  obtain ⟨hp, h9⟩ := hp
  rw [h9] at hW
  rcases hp with ⟨hr, a0, ha0, rfl⟩ | ⟨hr, hno⟩
  · subst hr
    have hl : lv_has ls 4 [(0, .ref (g (0))), (1, .int (nI (a0))), (2, .int (b)), (3, .int (c0))] := hl
    refine wi_if_ne (tgt := 14) S (nn_T (by omega)) dm_PP_set_4 (by decide) (fun hc => ?_) (fun hc => ?_)
    · exfalso
      omega
    · refine lv_iload_n hx hb dm_PP_set_7 rfl (lv_at hl 2 rfl) ?_
      refine pw_callSI (rest := []) S hW (mm_PP_isNoIndex l D k g σ (x := b)) (cv_PP_62 S.1.2.2.2.2 ⟨by decide, by decide⟩) rfl hl.1 rfl (lv_room (Nat.le_of_ble_eq_true rfl)) ⟨Nat.zero_le _, Nat.zero_le _⟩ dm_PP_set_8 (fun r σ1 H locs hp hW => ?_)
      obtain ⟨hp, h9⟩ := hp
      rw [h9] at hW
      rcases hp with ⟨hr, b0, hb0, rfl⟩ | ⟨hr, hno⟩
      · subst hr
        have hl : lv_has ls 4 [(0, .ref (g (0))), (1, .int (nI (a0))), (2, .int (nI (b0))), (3, .int (c0))] := hl
        refine wi_if_eq (tgt := 16) S (nn_T (by omega)) dm_PP_set_11 (by decide) (fun hc => ?_) (fun hc => ?_)
        · refine lv_aload_n hx hb dm_PP_set_16 rfl (lv_at hl 0 rfl) ?_
          refine pp_registers S hW (wa_in 249 (by decide +kernel) rfl) dm_PP_set_17 ?_
          refine lv_iload_n hx hb dm_PP_set_20 rfl (lv_at hl 1 rfl) ?_
          refine ra_ald S hW (by omega) dm_PP_set_21 ?_
          refine lv_iload_n hx hb dm_PP_set_22 rfl (lv_at hl 2 rfl) ?_
          refine lv_iload_n hx hb dm_PP_set_23 rfl (lv_at hl 3 rfl) ?_
          refine lv_aload_n hx hb dm_PP_set_24 rfl (lv_at hl 0 rfl) ?_
          refine pp_ring S hW (wa_in 245 (by decide +kernel) rfl) dm_PP_set_25 ?_
          refine rg_p S hW (wa_in 60 (by decide +kernel) rfl) dm_PP_set_28 ?_
          rw [hw.1]
          refine pw_callSI (rest := [.int (nI (b0)), .ref (g (133 + 2 * (a0)))]) S hW (mm_Math_floorMod l D k g σ (x := c0) (P := P) (by omega) hP31) (cv_PP_65 S.1.2.2.2.2 ⟨by decide, by decide⟩) rfl hl.1 rfl (lv_room (Nat.le_of_ble_eq_true rfl)) ⟨Nat.zero_le _, Nat.zero_le _⟩ dm_PP_set_31 (fun r σ9 H locs hp hW => ?_)
          obtain ⟨hr, hp⟩ := hp
          rw [hp] at hW
          subst hr
          have hfm : fm_n c0 P < P := fm_lt (by omega)
          refine pw_callV (rest := []) S hW (mm_Poly_put l D k g σ (j := (133 + 2 * a0)) (n := b0) (kd_rg ha0) (by omega) (fun i => by have := st_wf_lt hw (kd_rg ha0) i; omega) (v := fm_n c0 P) (by omega)) (cv_PP_71 S.1.2.2.2.2 ⟨by decide, by decide⟩) (kd_p1 (kd_rg (r := a0) (by omega))) (en_k0 (kd_rg (r := a0) (by omega))) rfl rfl hl.1 rfl (lv_room (Nat.le_of_ble_eq_true rfl)) ⟨Nat.zero_le _, Nat.zero_le _⟩ dm_PP_set_34 (fun σ4 H locs hp4 hW => ?_)
          rw [hp4, st_pt_po (kd_rg ha0)] at hW
          refine lv_aload_n hx hb dm_PP_set_37 rfl (lv_at hl 0 rfl) ?_
          refine pp_registers S hW (wa_in 249 (by decide +kernel) rfl) dm_PP_set_38 ?_
          refine lv_iload_n hx hb dm_PP_set_41 rfl (lv_at hl 1 rfl) ?_
          refine ra_ald S hW (by omega) dm_PP_set_42 ?_
          refine po_getd S hW (kd_rg (r := a0) (by omega)) (wa_in 51 (by decide +kernel) rfl) dm_PP_set_43 ?_
          refine lv_iconst (v := nI (0)) hx hb dm_PP_set_46 (by decide) ?_
          rw [st_po_sz (by omega)]
          refine va_mmax hx hb (by rw [S.1.2.2.1, hl.1]) S.1.2.2.2.1 (S.1.2.2.2.2 _ (wa_in 279 (by decide +kernel) rfl)) (S.1.2.2.2.2 _ (wa_in 280 (by decide +kernel) rfl)) (S.1.2.2.2.2 _ (wa_in 10 (by decide +kernel) rfl)) (S.1.2.2.2.2 _ (wa_in 281 (by decide +kernel) rfl)) (by decide) (by decide) (Nat.zero_le _) (Nat.zero_le _) dm_PP_set_47 ?_
          rw [sd_max (Nat.lt_of_le_of_lt (sp_sz_le _ 31) (by decide))]
          exact hret _ _ _ _ _ _ dm_PP_set_50 (Or.inr ⟨a0, b0, ⟨ha0, rfl⟩, ⟨hb0, rfl⟩, rfl, rfl⟩) hW
        · exfalso
          omega
      · subst hr
        refine wi_if_eq (tgt := 16) S (nn_T (by omega)) dm_PP_set_11 (by decide) (fun hc => ?_) (fun hc => ?_)
        · exfalso
          omega
        · refine lv_iconst (v := -1) hx hb dm_PP_set_14 (by decide) ?_
          exact hret _ _ _ _ _ _ dm_PP_set_15 (Or.inl ⟨fun z => hno z.2, rfl, rfl⟩) hW
  · subst hr
    refine wi_if_ne (tgt := 14) S (nn_T (by omega)) dm_PP_set_4 (by decide) (fun hc => ?_) (fun hc => ?_)
    · refine lv_iconst (v := -1) hx hb dm_PP_set_14 (by decide) ?_
      exact hret _ _ _ _ _ _ dm_PP_set_15 (Or.inl ⟨fun z => hno z.1, rfl, rfl⟩) hW
    · exfalso
      omega
theorem dm_PP_coefficient_0 : decode bm_PP_coefficient 0 = .ok (.iload_n 1, 1) := by decide +kernel
theorem dm_PP_coefficient_1 : decode bm_PP_coefficient 1 = .ok (.invokestatic 58, 3) := by decide +kernel
theorem dm_PP_coefficient_4 : decode bm_PP_coefficient 4 = .ok (.ifCond .ne 10, 3) := by decide +kernel
theorem dm_PP_coefficient_7 : decode bm_PP_coefficient 7 = .ok (.iload_n 2, 1) := by decide +kernel
theorem dm_PP_coefficient_8 : decode bm_PP_coefficient 8 = .ok (.invokestatic 62, 3) := by decide +kernel
theorem dm_PP_coefficient_11 : decode bm_PP_coefficient 11 = .ok (.ifCond .eq 5, 3) := by decide +kernel
theorem dm_PP_coefficient_14 : decode bm_PP_coefficient 14 = .ok (.iconst (-1), 1) := by decide +kernel
theorem dm_PP_coefficient_15 : decode bm_PP_coefficient 15 = .ok (.ireturn, 1) := by decide +kernel
theorem dm_PP_coefficient_16 : decode bm_PP_coefficient 16 = .ok (.aload_n 0, 1) := by decide +kernel
theorem dm_PP_coefficient_17 : decode bm_PP_coefficient 17 = .ok (.getfield 49, 3) := by decide +kernel
theorem dm_PP_coefficient_20 : decode bm_PP_coefficient 20 = .ok (.iload_n 1, 1) := by decide +kernel
theorem dm_PP_coefficient_21 : decode bm_PP_coefficient 21 = .ok (.aaload, 1) := by decide +kernel
theorem dm_PP_coefficient_22 : decode bm_PP_coefficient 22 = .ok (.getfield 81, 3) := by decide +kernel
theorem dm_PP_coefficient_25 : decode bm_PP_coefficient 25 = .ok (.iload_n 2, 1) := by decide +kernel
theorem dm_PP_coefficient_26 : decode bm_PP_coefficient 26 = .ok (.iaload, 1) := by decide +kernel
theorem dm_PP_coefficient_27 : decode bm_PP_coefficient 27 = .ok (.ireturn, 1) := by decide +kernel
set_option maxHeartbeats 4000000 in
set_option maxRecDepth 100000 in
theorem mm_PP_coefficient (l : Launch) (D : va_G) (k : ClassId × ClassId × ClassId) (g : Nat → Nat) (σ : st_T) {a b : Int32} : mt_I l D k g ym_PP_coefficient wm_PP_coefficient rm_PP_coefficient [.ref (g 0), .int a, .int b] σ (fun r σ1 => (¬ (rk_r a ∧ rk_i b) ∧ r = -1 ∧ σ1 = σ) ∨ ∃ a0 b0, (a0 < 8 ∧ a = nI a0) ∧ (b0 < 16 ∧ b = nI b0) ∧ r = nI (σ (133 + 2 * a0) b0) ∧ σ1 = σ) := by
  refine ct_I_in (cc := bm_PP_coefficient) (maxL := 3) (by decide) rfl (Nat.le_of_ble_eq_true rfl) ?_
  intro p e s m args below meth c A ls Q S hl hW hret
  have S : pw_S p m c bm_PP_coefficient 3 s args wa_g rc_PP D cl_s (ty_s k) := S
  have hx := S.1.1
  have hb := S.1.2.1
  have hl : lv_has ls 3 [(0, .ref (g (0))), (1, .int (a)), (2, .int (b))] := hl
  refine lv_iload_n hx hb dm_PP_coefficient_0 rfl (lv_at hl 1 rfl) ?_
  refine pw_callSI (rest := []) S hW (mm_PP_isNoRegister l D k g σ (x := a)) (cv_PP_58 S.1.2.2.2.2 ⟨by decide, by decide⟩) rfl hl.1 rfl (lv_room (Nat.le_of_ble_eq_true rfl)) ⟨Nat.zero_le _, Nat.zero_le _⟩ dm_PP_coefficient_1 (fun r σ1 H locs hp hW => ?_)
  obtain ⟨hp, h9⟩ := hp
  rw [h9] at hW
  rcases hp with ⟨hr, a0, ha0, rfl⟩ | ⟨hr, hno⟩
  · subst hr
    have hl : lv_has ls 3 [(0, .ref (g (0))), (1, .int (nI (a0))), (2, .int (b))] := hl
    refine wi_if_ne (tgt := 14) S (nn_T (by omega)) dm_PP_coefficient_4 (by decide) (fun hc => ?_) (fun hc => ?_)
    · exfalso
      omega
    · refine lv_iload_n hx hb dm_PP_coefficient_7 rfl (lv_at hl 2 rfl) ?_
      refine pw_callSI (rest := []) S hW (mm_PP_isNoIndex l D k g σ (x := b)) (cv_PP_62 S.1.2.2.2.2 ⟨by decide, by decide⟩) rfl hl.1 rfl (lv_room (Nat.le_of_ble_eq_true rfl)) ⟨Nat.zero_le _, Nat.zero_le _⟩ dm_PP_coefficient_8 (fun r σ1 H locs hp hW => ?_)
      obtain ⟨hp, h9⟩ := hp
      rw [h9] at hW
      rcases hp with ⟨hr, b0, hb0, rfl⟩ | ⟨hr, hno⟩
      · subst hr
        have hl : lv_has ls 3 [(0, .ref (g (0))), (1, .int (nI (a0))), (2, .int (nI (b0)))] := hl
        refine wi_if_eq (tgt := 16) S (nn_T (by omega)) dm_PP_coefficient_11 (by decide) (fun hc => ?_) (fun hc => ?_)
        · refine lv_aload_n hx hb dm_PP_coefficient_16 rfl (lv_at hl 0 rfl) ?_
          refine pp_registers S hW (wa_in 249 (by decide +kernel) rfl) dm_PP_coefficient_17 ?_
          refine lv_iload_n hx hb dm_PP_coefficient_20 rfl (lv_at hl 1 rfl) ?_
          refine ra_ald S hW (by omega) dm_PP_coefficient_21 ?_
          refine po_getc S hW (kd_rg (r := a0) (by omega)) (wa_in 42 (by decide +kernel) rfl) dm_PP_coefficient_22 ?_
          refine lv_iload_n hx hb dm_PP_coefficient_25 rfl (lv_at hl 2 rfl) ?_
          refine po_ald S hW (kd_rg (r := a0) (by omega)) (by omega) dm_PP_coefficient_26 ?_
          exact hret _ _ _ _ _ _ dm_PP_coefficient_27 (Or.inr ⟨a0, b0, ⟨ha0, rfl⟩, ⟨hb0, rfl⟩, rfl, rfl⟩) hW
        · exfalso
          omega
      · subst hr
        refine wi_if_eq (tgt := 16) S (nn_T (by omega)) dm_PP_coefficient_11 (by decide) (fun hc => ?_) (fun hc => ?_)
        · exfalso
          omega
        · refine lv_iconst (v := -1) hx hb dm_PP_coefficient_14 (by decide) ?_
          exact hret _ _ _ _ _ _ dm_PP_coefficient_15 (Or.inl ⟨fun z => hno z.2, rfl, rfl⟩) hW
  · subst hr
    refine wi_if_ne (tgt := 14) S (nn_T (by omega)) dm_PP_coefficient_4 (by decide) (fun hc => ?_) (fun hc => ?_)
    · refine lv_iconst (v := -1) hx hb dm_PP_coefficient_14 (by decide) ?_
      exact hret _ _ _ _ _ _ dm_PP_coefficient_15 (Or.inl ⟨fun z => hno z.1, rfl, rfl⟩) hW
    · exfalso
      omega
theorem dm_PP_size_0 : decode bm_PP_size 0 = .ok (.iload_n 1, 1) := by decide +kernel
theorem dm_PP_size_1 : decode bm_PP_size 1 = .ok (.invokestatic 58, 3) := by decide +kernel
theorem dm_PP_size_4 : decode bm_PP_size 4 = .ok (.ifCond .eq 7, 3) := by decide +kernel
theorem dm_PP_size_7 : decode bm_PP_size 7 = .ok (.iconst (-1), 1) := by decide +kernel
theorem dm_PP_size_8 : decode bm_PP_size 8 = .ok (.goto 8, 3) := by decide +kernel
theorem dm_PP_size_11 : decode bm_PP_size 11 = .ok (.aload_n 0, 1) := by decide +kernel
theorem dm_PP_size_12 : decode bm_PP_size 12 = .ok (.iload_n 1, 1) := by decide +kernel
theorem dm_PP_size_13 : decode bm_PP_size 13 = .ok (.invokevirtual 85, 3) := by decide +kernel
theorem dm_PP_size_16 : decode bm_PP_size 16 = .ok (.ireturn, 1) := by decide +kernel
set_option maxHeartbeats 4000000 in
set_option maxRecDepth 100000 in
theorem mm_PP_size (l : Launch) (D : va_G) (k : ClassId × ClassId × ClassId) (g : Nat → Nat) (σ : st_T) {a : Int32} : mt_I l D k g ym_PP_size wm_PP_size rm_PP_size [.ref (g 0), .int a] σ (fun r σ1 => (¬ (rk_r a) ∧ r = -1 ∧ σ1 = σ) ∨ ∃ a0, (a0 < 8 ∧ a = nI a0) ∧ r = nI (σ 200 (133 + 2 * a0)) ∧ σ1 = σ) := by
  refine ct_I_in (cc := bm_PP_size) (maxL := 2) (by decide) rfl (Nat.le_of_ble_eq_true rfl) ?_
  intro p e s m args below meth c A ls Q S hl hW hret
  have S : pw_S p m c bm_PP_size 2 s args wa_g rc_PP D cl_s (ty_s k) := S
  have hx := S.1.1
  have hb := S.1.2.1
  have hl : lv_has ls 2 [(0, .ref (g (0))), (1, .int (a))] := hl
  refine lv_iload_n hx hb dm_PP_size_0 rfl (lv_at hl 1 rfl) ?_
  refine pw_callSI (rest := []) S hW (mm_PP_isNoRegister l D k g σ (x := a)) (cv_PP_58 S.1.2.2.2.2 ⟨by decide, by decide⟩) rfl hl.1 rfl (lv_room (Nat.le_of_ble_eq_true rfl)) ⟨Nat.zero_le _, Nat.zero_le _⟩ dm_PP_size_1 (fun r σ1 H locs hp hW => ?_)
  obtain ⟨hp, h9⟩ := hp
  rw [h9] at hW
  rcases hp with ⟨hr, a0, ha0, rfl⟩ | ⟨hr, hno⟩
  · subst hr
    have hl : lv_has ls 2 [(0, .ref (g (0))), (1, .int (nI (a0)))] := hl
    refine wi_if_eq (tgt := 11) S (nn_T (by omega)) dm_PP_size_4 (by decide) (fun hc => ?_) (fun hc => ?_)
    · refine lv_aload_n hx hb dm_PP_size_11 rfl (lv_at hl 0 rfl) ?_
      refine lv_iload_n hx hb dm_PP_size_12 rfl (lv_at hl 1 rfl) ?_
      refine pw_callVI (rest := []) S hW (mm_PP_sizeOf l D k g σ (n := a0) ha0) (cv_PP_85 S.1.2.2.2.2 ⟨by decide, by decide⟩) (by decide) en_PP rfl rfl hl.1 rfl (lv_room (Nat.le_of_ble_eq_true rfl)) ⟨Nat.zero_le _, Nat.zero_le _⟩ dm_PP_size_13 (fun r σ9 H locs hp hW => ?_)
      obtain ⟨hr, hp⟩ := hp
      rw [hp] at hW
      subst hr
      exact hret _ _ _ _ _ _ dm_PP_size_16 (Or.inr ⟨a0, ⟨ha0, rfl⟩, rfl, rfl⟩) hW
    · exfalso
      omega
  · subst hr
    refine wi_if_eq (tgt := 11) S (nn_T (by omega)) dm_PP_size_4 (by decide) (fun hc => ?_) (fun hc => ?_)
    · exfalso
      omega
    · refine lv_iconst (v := -1) hx hb dm_PP_size_7 (by decide) ?_
      refine lv_goto (tgt := 16) hx hb dm_PP_size_8 (by decide) ?_
      exact hret _ _ _ _ _ _ dm_PP_size_16 (Or.inl ⟨fun z => hno z, rfl, rfl⟩) hW
theorem dm_PP_value_0 : decode bm_PP_value 0 = .ok (.iload_n 1, 1) := by decide +kernel
theorem dm_PP_value_1 : decode bm_PP_value 1 = .ok (.invokestatic 58, 3) := by decide +kernel
theorem dm_PP_value_4 : decode bm_PP_value 4 = .ok (.ifCond .eq 5, 3) := by decide +kernel
theorem dm_PP_value_7 : decode bm_PP_value 7 = .ok (.iconst (-1), 1) := by decide +kernel
theorem dm_PP_value_8 : decode bm_PP_value 8 = .ok (.ireturn, 1) := by decide +kernel
theorem dm_PP_value_9 : decode bm_PP_value 9 = .ok (.aload_n 0, 1) := by decide +kernel
theorem dm_PP_value_10 : decode bm_PP_value 10 = .ok (.getfield 18, 3) := by decide +kernel
theorem dm_PP_value_13 : decode bm_PP_value 13 = .ok (.aload_n 0, 1) := by decide +kernel
theorem dm_PP_value_14 : decode bm_PP_value 14 = .ok (.getfield 49, 3) := by decide +kernel
theorem dm_PP_value_17 : decode bm_PP_value 17 = .ok (.iload_n 1, 1) := by decide +kernel
theorem dm_PP_value_18 : decode bm_PP_value 18 = .ok (.aaload, 1) := by decide +kernel
theorem dm_PP_value_19 : decode bm_PP_value 19 = .ok (.iload_n 2, 1) := by decide +kernel
theorem dm_PP_value_20 : decode bm_PP_value 20 = .ok (.aload_n 0, 1) := by decide +kernel
theorem dm_PP_value_21 : decode bm_PP_value 21 = .ok (.getfield 18, 3) := by decide +kernel
theorem dm_PP_value_24 : decode bm_PP_value 24 = .ok (.getfield 54, 3) := by decide +kernel
theorem dm_PP_value_27 : decode bm_PP_value 27 = .ok (.invokestatic 65, 3) := by decide +kernel
theorem dm_PP_value_30 : decode bm_PP_value 30 = .ok (.invokevirtual 88, 3) := by decide +kernel
theorem dm_PP_value_33 : decode bm_PP_value 33 = .ok (.ireturn, 1) := by decide +kernel
set_option maxHeartbeats 4000000 in
set_option maxRecDepth 100000 in
theorem mm_PP_value (l : Launch) (D : va_G) (k : ClassId × ClassId × ClassId) (g : Nat → Nat) (σ : st_T) {P : Nat} (hw : st_wf P σ) (hP : ag_pr P) (hP31 : P < 2147483648) (hrg : ∀ n, n < 8 → σ 200 (133 + 2 * n) ≤ 16) {a c0 : Int32} : mt_I l D k g ym_PP_value wm_PP_value rm_PP_value [.ref (g 0), .int a, .int c0] σ (fun r σ1 => (¬ (rk_r a) ∧ r = -1 ∧ σ1 = σ) ∨ ∃ a0, (a0 < 8 ∧ a = nI a0) ∧ r = nI (lp_val P (σ (133 + 2 * a0)) (fm_n c0 P) (σ 200 (133 + 2 * a0)) 0) ∧ σ1 = σ) := by
  refine ct_I_in (cc := bm_PP_value) (maxL := 3) (by decide) rfl (Nat.le_of_ble_eq_true rfl) ?_
  intro p e s m args below meth c A ls Q S hl hW hret
  have S : pw_S p m c bm_PP_value 3 s args wa_g rc_PP D cl_s (ty_s k) := S
  have hx := S.1.1
  have hb := S.1.2.1
  have hl : lv_has ls 3 [(0, .ref (g (0))), (1, .int (a)), (2, .int (c0))] := hl
  have hP2 := hP.1
  refine lv_iload_n hx hb dm_PP_value_0 rfl (lv_at hl 1 rfl) ?_
  refine pw_callSI (rest := []) S hW (mm_PP_isNoRegister l D k g σ (x := a)) (cv_PP_58 S.1.2.2.2.2 ⟨by decide, by decide⟩) rfl hl.1 rfl (lv_room (Nat.le_of_ble_eq_true rfl)) ⟨Nat.zero_le _, Nat.zero_le _⟩ dm_PP_value_1 (fun r σ1 H locs hp hW => ?_)
  obtain ⟨hp, h9⟩ := hp
  rw [h9] at hW
  rcases hp with ⟨hr, a0, ha0, rfl⟩ | ⟨hr, hno⟩
  · subst hr
    have hl : lv_has ls 3 [(0, .ref (g (0))), (1, .int (nI (a0))), (2, .int (c0))] := hl
    refine wi_if_eq (tgt := 9) S (nn_T (by omega)) dm_PP_value_4 (by decide) (fun hc => ?_) (fun hc => ?_)
    · refine lv_aload_n hx hb dm_PP_value_9 rfl (lv_at hl 0 rfl) ?_
      refine pp_ring S hW (wa_in 245 (by decide +kernel) rfl) dm_PP_value_10 ?_
      refine lv_aload_n hx hb dm_PP_value_13 rfl (lv_at hl 0 rfl) ?_
      refine pp_registers S hW (wa_in 249 (by decide +kernel) rfl) dm_PP_value_14 ?_
      refine lv_iload_n hx hb dm_PP_value_17 rfl (lv_at hl 1 rfl) ?_
      refine ra_ald S hW (by omega) dm_PP_value_18 ?_
      refine lv_iload_n hx hb dm_PP_value_19 rfl (lv_at hl 2 rfl) ?_
      refine lv_aload_n hx hb dm_PP_value_20 rfl (lv_at hl 0 rfl) ?_
      refine pp_ring S hW (wa_in 245 (by decide +kernel) rfl) dm_PP_value_21 ?_
      refine rg_p S hW (wa_in 60 (by decide +kernel) rfl) dm_PP_value_24 ?_
      rw [hw.1]
      refine pw_callSI (rest := [.ref (g (133 + 2 * (a0))), .ref (g (1))]) S hW (mm_Math_floorMod l D k g σ (x := c0) (P := P) (by omega) hP31) (cv_PP_65 S.1.2.2.2.2 ⟨by decide, by decide⟩) rfl hl.1 rfl (lv_room (Nat.le_of_ble_eq_true rfl)) ⟨Nat.zero_le _, Nat.zero_le _⟩ dm_PP_value_27 (fun r σ9 H locs hp hW => ?_)
      obtain ⟨hr, hp⟩ := hp
      rw [hp] at hW
      subst hr
      have hfm : fm_n c0 P < P := fm_lt (by omega)
      refine pw_callVI (rest := []) S hW (mm_Ring_valueAt l D k g σ hw hP2 hP31 (kd_rg ha0) hfm) (cv_PP_88 S.1.2.2.2.2 ⟨by decide, by decide⟩) (by decide) en_Ring rfl rfl hl.1 rfl (lv_room (Nat.le_of_ble_eq_true rfl)) ⟨Nat.zero_le _, Nat.zero_le _⟩ dm_PP_value_30 (fun r σ1 H locs hp hW => ?_)
      obtain ⟨hr, hp⟩ := hp
      rw [hp] at hW
      subst hr
      exact hret _ _ _ _ _ _ dm_PP_value_33 (Or.inr ⟨a0, ⟨ha0, rfl⟩, rfl, rfl⟩) hW
    · exfalso
      omega
  · subst hr
    refine wi_if_eq (tgt := 9) S (nn_T (by omega)) dm_PP_value_4 (by decide) (fun hc => ?_) (fun hc => ?_)
    · exfalso
      omega
    · refine lv_iconst (v := -1) hx hb dm_PP_value_7 (by decide) ?_
      exact hret _ _ _ _ _ _ dm_PP_value_8 (Or.inl ⟨fun z => hno z, rfl, rfl⟩) hW
theorem dm_PP_add_0 : decode bm_PP_add 0 = .ok (.iload_n 1, 1) := by decide +kernel
theorem dm_PP_add_1 : decode bm_PP_add 1 = .ok (.invokestatic 58, 3) := by decide +kernel
theorem dm_PP_add_4 : decode bm_PP_add 4 = .ok (.ifCond .ne 17, 3) := by decide +kernel
theorem dm_PP_add_7 : decode bm_PP_add 7 = .ok (.iload_n 2, 1) := by decide +kernel
theorem dm_PP_add_8 : decode bm_PP_add 8 = .ok (.invokestatic 58, 3) := by decide +kernel
theorem dm_PP_add_11 : decode bm_PP_add 11 = .ok (.ifCond .ne 10, 3) := by decide +kernel
theorem dm_PP_add_14 : decode bm_PP_add 14 = .ok (.iload_n 3, 1) := by decide +kernel
theorem dm_PP_add_15 : decode bm_PP_add 15 = .ok (.invokestatic 58, 3) := by decide +kernel
theorem dm_PP_add_18 : decode bm_PP_add 18 = .ok (.ifCond .eq 5, 3) := by decide +kernel
theorem dm_PP_add_21 : decode bm_PP_add 21 = .ok (.iconst (-1), 1) := by decide +kernel
theorem dm_PP_add_22 : decode bm_PP_add 22 = .ok (.ireturn, 1) := by decide +kernel
theorem dm_PP_add_23 : decode bm_PP_add 23 = .ok (.aload_n 0, 1) := by decide +kernel
theorem dm_PP_add_24 : decode bm_PP_add 24 = .ok (.getfield 18, 3) := by decide +kernel
theorem dm_PP_add_27 : decode bm_PP_add 27 = .ok (.aload_n 0, 1) := by decide +kernel
theorem dm_PP_add_28 : decode bm_PP_add 28 = .ok (.getfield 49, 3) := by decide +kernel
theorem dm_PP_add_31 : decode bm_PP_add 31 = .ok (.iload_n 1, 1) := by decide +kernel
theorem dm_PP_add_32 : decode bm_PP_add 32 = .ok (.aaload, 1) := by decide +kernel
theorem dm_PP_add_33 : decode bm_PP_add 33 = .ok (.aload_n 0, 1) := by decide +kernel
theorem dm_PP_add_34 : decode bm_PP_add 34 = .ok (.getfield 49, 3) := by decide +kernel
theorem dm_PP_add_37 : decode bm_PP_add 37 = .ok (.iload_n 2, 1) := by decide +kernel
theorem dm_PP_add_38 : decode bm_PP_add 38 = .ok (.aaload, 1) := by decide +kernel
theorem dm_PP_add_39 : decode bm_PP_add 39 = .ok (.aload_n 0, 1) := by decide +kernel
theorem dm_PP_add_40 : decode bm_PP_add 40 = .ok (.getfield 49, 3) := by decide +kernel
theorem dm_PP_add_43 : decode bm_PP_add 43 = .ok (.iload_n 3, 1) := by decide +kernel
theorem dm_PP_add_44 : decode bm_PP_add 44 = .ok (.aaload, 1) := by decide +kernel
theorem dm_PP_add_45 : decode bm_PP_add 45 = .ok (.iload 4, 2) := by decide +kernel
theorem dm_PP_add_47 : decode bm_PP_add 47 = .ok (.aload_n 0, 1) := by decide +kernel
theorem dm_PP_add_48 : decode bm_PP_add 48 = .ok (.getfield 18, 3) := by decide +kernel
theorem dm_PP_add_51 : decode bm_PP_add 51 = .ok (.getfield 54, 3) := by decide +kernel
theorem dm_PP_add_54 : decode bm_PP_add 54 = .ok (.invokestatic 65, 3) := by decide +kernel
theorem dm_PP_add_57 : decode bm_PP_add 57 = .ok (.invokevirtual 92, 3) := by decide +kernel
theorem dm_PP_add_60 : decode bm_PP_add 60 = .ok (.aload_n 0, 1) := by decide +kernel
theorem dm_PP_add_61 : decode bm_PP_add 61 = .ok (.iload_n 1, 1) := by decide +kernel
theorem dm_PP_add_62 : decode bm_PP_add 62 = .ok (.invokevirtual 85, 3) := by decide +kernel
theorem dm_PP_add_65 : decode bm_PP_add 65 = .ok (.ireturn, 1) := by decide +kernel
set_option maxHeartbeats 4000000 in
set_option maxRecDepth 100000 in
theorem mm_PP_add (l : Launch) (D : va_G) (k : ClassId × ClassId × ClassId) (g : Nat → Nat) (σ : st_T) {P : Nat} (hw : st_wf P σ) (hP : ag_pr P) (hP31 : P < 2147483648) (hrg : ∀ n, n < 8 → σ 200 (133 + 2 * n) ≤ 16) {d x y c0 : Int32} : mt_I l D k g ym_PP_add wm_PP_add rm_PP_add [.ref (g 0), .int d, .int x, .int y, .int c0] σ (fun r σ1 => (¬ (rk_r d ∧ rk_r x ∧ rk_r y) ∧ r = -1 ∧ σ1 = σ) ∨ ∃ d0 x0 y0, (d0 < 8 ∧ d = nI d0) ∧ (x0 < 8 ∧ x = nI x0) ∧ (y0 < 8 ∧ y = nI y0) ∧ r = nI (sp_sz (σ1 (133 + 2 * d0)) 31) ∧ st_wf P σ1 ∧ σ1 (133 + 2 * d0) = sp_add P (σ (133 + 2 * x0)) (σ (133 + 2 * y0)) (fm_n c0 P) ∧ st_sm [(133 + 2 * d0)] σ σ1) := by
  refine ct_I_in (cc := bm_PP_add) (maxL := 5) (by decide) rfl (Nat.le_of_ble_eq_true rfl) ?_
  intro p e s m args below meth c A ls Q S hl hW hret
  have S : pw_S p m c bm_PP_add 5 s args wa_g rc_PP D cl_s (ty_s k) := S
  have hx := S.1.1
  have hb := S.1.2.1
  have hl : lv_has ls 5 [(0, .ref (g (0))), (1, .int (d)), (2, .int (x)), (3, .int (y)), (4, .int (c0))] := hl
  have hP2 := hP.1
  refine lv_iload_n hx hb dm_PP_add_0 rfl (lv_at hl 1 rfl) ?_
  refine pw_callSI (rest := []) S hW (mm_PP_isNoRegister l D k g σ (x := d)) (cv_PP_58 S.1.2.2.2.2 ⟨by decide, by decide⟩) rfl hl.1 rfl (lv_room (Nat.le_of_ble_eq_true rfl)) ⟨Nat.zero_le _, Nat.zero_le _⟩ dm_PP_add_1 (fun r σ1 H locs hp hW => ?_)
  obtain ⟨hp, h9⟩ := hp
  rw [h9] at hW
  rcases hp with ⟨hr, d0, hd0, rfl⟩ | ⟨hr, hno⟩
  · subst hr
    have hl : lv_has ls 5 [(0, .ref (g (0))), (1, .int (nI (d0))), (2, .int (x)), (3, .int (y)), (4, .int (c0))] := hl
    refine wi_if_ne (tgt := 21) S (nn_T (by omega)) dm_PP_add_4 (by decide) (fun hc => ?_) (fun hc => ?_)
    · exfalso
      omega
    · refine lv_iload_n hx hb dm_PP_add_7 rfl (lv_at hl 2 rfl) ?_
      refine pw_callSI (rest := []) S hW (mm_PP_isNoRegister l D k g σ (x := x)) (cv_PP_58 S.1.2.2.2.2 ⟨by decide, by decide⟩) rfl hl.1 rfl (lv_room (Nat.le_of_ble_eq_true rfl)) ⟨Nat.zero_le _, Nat.zero_le _⟩ dm_PP_add_8 (fun r σ1 H locs hp hW => ?_)
      obtain ⟨hp, h9⟩ := hp
      rw [h9] at hW
      rcases hp with ⟨hr, x0, hx0, rfl⟩ | ⟨hr, hno⟩
      · subst hr
        have hl : lv_has ls 5 [(0, .ref (g (0))), (1, .int (nI (d0))), (2, .int (nI (x0))), (3, .int (y)), (4, .int (c0))] := hl
        refine wi_if_ne (tgt := 21) S (nn_T (by omega)) dm_PP_add_11 (by decide) (fun hc => ?_) (fun hc => ?_)
        · exfalso
          omega
        · refine lv_iload_n hx hb dm_PP_add_14 rfl (lv_at hl 3 rfl) ?_
          refine pw_callSI (rest := []) S hW (mm_PP_isNoRegister l D k g σ (x := y)) (cv_PP_58 S.1.2.2.2.2 ⟨by decide, by decide⟩) rfl hl.1 rfl (lv_room (Nat.le_of_ble_eq_true rfl)) ⟨Nat.zero_le _, Nat.zero_le _⟩ dm_PP_add_15 (fun r σ1 H locs hp hW => ?_)
          obtain ⟨hp, h9⟩ := hp
          rw [h9] at hW
          rcases hp with ⟨hr, y0, hy0, rfl⟩ | ⟨hr, hno⟩
          · subst hr
            have hl : lv_has ls 5 [(0, .ref (g (0))), (1, .int (nI (d0))), (2, .int (nI (x0))), (3, .int (nI (y0))), (4, .int (c0))] := hl
            refine wi_if_eq (tgt := 23) S (nn_T (by omega)) dm_PP_add_18 (by decide) (fun hc => ?_) (fun hc => ?_)
            · refine lv_aload_n hx hb dm_PP_add_23 rfl (lv_at hl 0 rfl) ?_
              refine pp_ring S hW (wa_in 245 (by decide +kernel) rfl) dm_PP_add_24 ?_
              refine lv_aload_n hx hb dm_PP_add_27 rfl (lv_at hl 0 rfl) ?_
              refine pp_registers S hW (wa_in 249 (by decide +kernel) rfl) dm_PP_add_28 ?_
              refine lv_iload_n hx hb dm_PP_add_31 rfl (lv_at hl 1 rfl) ?_
              refine ra_ald S hW (by omega) dm_PP_add_32 ?_
              refine lv_aload_n hx hb dm_PP_add_33 rfl (lv_at hl 0 rfl) ?_
              refine pp_registers S hW (wa_in 249 (by decide +kernel) rfl) dm_PP_add_34 ?_
              refine lv_iload_n hx hb dm_PP_add_37 rfl (lv_at hl 2 rfl) ?_
              refine ra_ald S hW (by omega) dm_PP_add_38 ?_
              refine lv_aload_n hx hb dm_PP_add_39 rfl (lv_at hl 0 rfl) ?_
              refine pp_registers S hW (wa_in 249 (by decide +kernel) rfl) dm_PP_add_40 ?_
              refine lv_iload_n hx hb dm_PP_add_43 rfl (lv_at hl 3 rfl) ?_
              refine ra_ald S hW (by omega) dm_PP_add_44 ?_
              refine lv_iload hx hb dm_PP_add_45 (lv_at hl 4 rfl) ?_
              refine lv_aload_n hx hb dm_PP_add_47 rfl (lv_at hl 0 rfl) ?_
              refine pp_ring S hW (wa_in 245 (by decide +kernel) rfl) dm_PP_add_48 ?_
              refine rg_p S hW (wa_in 60 (by decide +kernel) rfl) dm_PP_add_51 ?_
              rw [hw.1]
              refine pw_callSI (rest := [.ref (g (133 + 2 * (y0))), .ref (g (133 + 2 * (x0))), .ref (g (133 + 2 * (d0))), .ref (g (1))]) S hW (mm_Math_floorMod l D k g σ (x := c0) (P := P) (by omega) hP31) (cv_PP_65 S.1.2.2.2.2 ⟨by decide, by decide⟩) rfl hl.1 rfl (lv_room (Nat.le_of_ble_eq_true rfl)) ⟨Nat.zero_le _, Nat.zero_le _⟩ dm_PP_add_54 (fun r σ9 H locs hp hW => ?_)
              obtain ⟨hr, hp⟩ := hp
              rw [hp] at hW
              subst hr
              have hfm : fm_n c0 P < P := fm_lt (by omega)
              refine pw_callV (rest := []) S hW (mm_Ring_sumInto l D k g σ hw hP2 hP31 (kd_rg hd0) (kd_rg hx0) (kd_rg hy0) hfm) (cv_PP_92 S.1.2.2.2.2 ⟨by decide, by decide⟩) (by decide) en_Ring rfl rfl hl.1 rfl (lv_room (Nat.le_of_ble_eq_true rfl)) ⟨Nat.zero_le _, Nat.zero_le _⟩ dm_PP_add_57 (fun σ2 H locs hp2 hW => ?_)
              rw [hp2] at hW
              have w2 : st_wf P (st_po σ (133 + 2 * d0) (sp_add P (σ (133 + 2 * x0)) (σ (133 + 2 * y0)) (fm_n c0 P))) := st_wf_po hw (kd_rg hd0) (sp_add_ok (by omega) (hw.2 _ (kd_rg hx0)).1 (hw.2 _ (kd_rg hy0)).1 _)
              refine lv_aload_n hx hb dm_PP_add_60 rfl (lv_at hl 0 rfl) ?_
              refine lv_iload_n hx hb dm_PP_add_61 rfl (lv_at hl 1 rfl) ?_
              refine pw_callVI (rest := []) S hW (mm_PP_sizeOf l D k g (st_po σ (133 + 2 * d0) (sp_add P (σ (133 + 2 * x0)) (σ (133 + 2 * y0)) (fm_n c0 P))) (n := d0) hd0) (cv_PP_85 S.1.2.2.2.2 ⟨by decide, by decide⟩) (by decide) en_PP rfl rfl hl.1 rfl (lv_room (Nat.le_of_ble_eq_true rfl)) ⟨Nat.zero_le _, Nat.zero_le _⟩ dm_PP_add_62 (fun r σ9 H locs hp hW => ?_)
              obtain ⟨hr, hp⟩ := hp
              rw [hp] at hW
              subst hr
              exact hret _ _ _ _ _ _ dm_PP_add_65 (Or.inr ⟨d0, x0, y0, ⟨hd0, rfl⟩, ⟨hx0, rfl⟩, ⟨hy0, rfl⟩, by rw [(w2.2 _ (kd_rg hd0)).2], w2, st_po_at, st_sm_po σ _ _⟩) hW
            · exfalso
              omega
          · subst hr
            refine wi_if_eq (tgt := 23) S (nn_T (by omega)) dm_PP_add_18 (by decide) (fun hc => ?_) (fun hc => ?_)
            · exfalso
              omega
            · refine lv_iconst (v := -1) hx hb dm_PP_add_21 (by decide) ?_
              exact hret _ _ _ _ _ _ dm_PP_add_22 (Or.inl ⟨fun z => hno z.2.2, rfl, rfl⟩) hW
      · subst hr
        refine wi_if_ne (tgt := 21) S (nn_T (by omega)) dm_PP_add_11 (by decide) (fun hc => ?_) (fun hc => ?_)
        · refine lv_iconst (v := -1) hx hb dm_PP_add_21 (by decide) ?_
          exact hret _ _ _ _ _ _ dm_PP_add_22 (Or.inl ⟨fun z => hno z.2.1, rfl, rfl⟩) hW
        · exfalso
          omega
  · subst hr
    refine wi_if_ne (tgt := 21) S (nn_T (by omega)) dm_PP_add_4 (by decide) (fun hc => ?_) (fun hc => ?_)
    · refine lv_iconst (v := -1) hx hb dm_PP_add_21 (by decide) ?_
      exact hret _ _ _ _ _ _ dm_PP_add_22 (Or.inl ⟨fun z => hno z.1, rfl, rfl⟩) hW
    · exfalso
      omega
theorem dm_PP_derive_0 : decode bm_PP_derive 0 = .ok (.iload_n 1, 1) := by decide +kernel
theorem dm_PP_derive_1 : decode bm_PP_derive 1 = .ok (.invokestatic 58, 3) := by decide +kernel
theorem dm_PP_derive_4 : decode bm_PP_derive 4 = .ok (.ifCond .ne 10, 3) := by decide +kernel
theorem dm_PP_derive_7 : decode bm_PP_derive 7 = .ok (.iload_n 2, 1) := by decide +kernel
theorem dm_PP_derive_8 : decode bm_PP_derive 8 = .ok (.invokestatic 58, 3) := by decide +kernel
theorem dm_PP_derive_11 : decode bm_PP_derive 11 = .ok (.ifCond .eq 5, 3) := by decide +kernel
theorem dm_PP_derive_14 : decode bm_PP_derive 14 = .ok (.iconst (-1), 1) := by decide +kernel
theorem dm_PP_derive_15 : decode bm_PP_derive 15 = .ok (.ireturn, 1) := by decide +kernel
theorem dm_PP_derive_16 : decode bm_PP_derive 16 = .ok (.aload_n 0, 1) := by decide +kernel
theorem dm_PP_derive_17 : decode bm_PP_derive 17 = .ok (.getfield 18, 3) := by decide +kernel
theorem dm_PP_derive_20 : decode bm_PP_derive 20 = .ok (.aload_n 0, 1) := by decide +kernel
theorem dm_PP_derive_21 : decode bm_PP_derive 21 = .ok (.getfield 49, 3) := by decide +kernel
theorem dm_PP_derive_24 : decode bm_PP_derive 24 = .ok (.iload_n 1, 1) := by decide +kernel
theorem dm_PP_derive_25 : decode bm_PP_derive 25 = .ok (.aaload, 1) := by decide +kernel
theorem dm_PP_derive_26 : decode bm_PP_derive 26 = .ok (.aload_n 0, 1) := by decide +kernel
theorem dm_PP_derive_27 : decode bm_PP_derive 27 = .ok (.getfield 49, 3) := by decide +kernel
theorem dm_PP_derive_30 : decode bm_PP_derive 30 = .ok (.iload_n 2, 1) := by decide +kernel
theorem dm_PP_derive_31 : decode bm_PP_derive 31 = .ok (.aaload, 1) := by decide +kernel
theorem dm_PP_derive_32 : decode bm_PP_derive 32 = .ok (.invokevirtual 115, 3) := by decide +kernel
theorem dm_PP_derive_35 : decode bm_PP_derive 35 = .ok (.aload_n 0, 1) := by decide +kernel
theorem dm_PP_derive_36 : decode bm_PP_derive 36 = .ok (.iload_n 1, 1) := by decide +kernel
theorem dm_PP_derive_37 : decode bm_PP_derive 37 = .ok (.invokevirtual 85, 3) := by decide +kernel
theorem dm_PP_derive_40 : decode bm_PP_derive 40 = .ok (.ireturn, 1) := by decide +kernel
set_option maxHeartbeats 4000000 in
set_option maxRecDepth 100000 in
theorem mm_PP_derive (l : Launch) (D : va_G) (k : ClassId × ClassId × ClassId) (g : Nat → Nat) (σ : st_T) {P : Nat} (hw : st_wf P σ) (hP : ag_pr P) (hP31 : P < 2147483648) (hrg : ∀ n, n < 8 → σ 200 (133 + 2 * n) ≤ 16) {d x : Int32} : mt_I l D k g ym_PP_derive wm_PP_derive rm_PP_derive [.ref (g 0), .int d, .int x] σ (fun r σ1 => (¬ (rk_r d ∧ rk_r x) ∧ r = -1 ∧ σ1 = σ) ∨ ∃ d0 x0, (d0 < 8 ∧ d = nI d0) ∧ (x0 < 8 ∧ x = nI x0) ∧ r = nI (sp_sz (σ1 (133 + 2 * d0)) 31) ∧ st_wf P σ1 ∧ σ1 (133 + 2 * d0) = lp_der P (σ (133 + 2 * x0)) ∧ st_sm [(133 + 2 * d0)] σ σ1) := by
  refine ct_I_in (cc := bm_PP_derive) (maxL := 3) (by decide) rfl (Nat.le_of_ble_eq_true rfl) ?_
  intro p e s m args below meth c A ls Q S hl hW hret
  have S : pw_S p m c bm_PP_derive 3 s args wa_g rc_PP D cl_s (ty_s k) := S
  have hx := S.1.1
  have hb := S.1.2.1
  have hl : lv_has ls 3 [(0, .ref (g (0))), (1, .int (d)), (2, .int (x))] := hl
  have hP2 := hP.1
  refine lv_iload_n hx hb dm_PP_derive_0 rfl (lv_at hl 1 rfl) ?_
  refine pw_callSI (rest := []) S hW (mm_PP_isNoRegister l D k g σ (x := d)) (cv_PP_58 S.1.2.2.2.2 ⟨by decide, by decide⟩) rfl hl.1 rfl (lv_room (Nat.le_of_ble_eq_true rfl)) ⟨Nat.zero_le _, Nat.zero_le _⟩ dm_PP_derive_1 (fun r σ1 H locs hp hW => ?_)
  obtain ⟨hp, h9⟩ := hp
  rw [h9] at hW
  rcases hp with ⟨hr, d0, hd0, rfl⟩ | ⟨hr, hno⟩
  · subst hr
    have hl : lv_has ls 3 [(0, .ref (g (0))), (1, .int (nI (d0))), (2, .int (x))] := hl
    refine wi_if_ne (tgt := 14) S (nn_T (by omega)) dm_PP_derive_4 (by decide) (fun hc => ?_) (fun hc => ?_)
    · exfalso
      omega
    · refine lv_iload_n hx hb dm_PP_derive_7 rfl (lv_at hl 2 rfl) ?_
      refine pw_callSI (rest := []) S hW (mm_PP_isNoRegister l D k g σ (x := x)) (cv_PP_58 S.1.2.2.2.2 ⟨by decide, by decide⟩) rfl hl.1 rfl (lv_room (Nat.le_of_ble_eq_true rfl)) ⟨Nat.zero_le _, Nat.zero_le _⟩ dm_PP_derive_8 (fun r σ1 H locs hp hW => ?_)
      obtain ⟨hp, h9⟩ := hp
      rw [h9] at hW
      rcases hp with ⟨hr, x0, hx0, rfl⟩ | ⟨hr, hno⟩
      · subst hr
        have hl : lv_has ls 3 [(0, .ref (g (0))), (1, .int (nI (d0))), (2, .int (nI (x0)))] := hl
        refine wi_if_eq (tgt := 16) S (nn_T (by omega)) dm_PP_derive_11 (by decide) (fun hc => ?_) (fun hc => ?_)
        · refine lv_aload_n hx hb dm_PP_derive_16 rfl (lv_at hl 0 rfl) ?_
          refine pp_ring S hW (wa_in 245 (by decide +kernel) rfl) dm_PP_derive_17 ?_
          refine lv_aload_n hx hb dm_PP_derive_20 rfl (lv_at hl 0 rfl) ?_
          refine pp_registers S hW (wa_in 249 (by decide +kernel) rfl) dm_PP_derive_21 ?_
          refine lv_iload_n hx hb dm_PP_derive_24 rfl (lv_at hl 1 rfl) ?_
          refine ra_ald S hW (by omega) dm_PP_derive_25 ?_
          refine lv_aload_n hx hb dm_PP_derive_26 rfl (lv_at hl 0 rfl) ?_
          refine pp_registers S hW (wa_in 249 (by decide +kernel) rfl) dm_PP_derive_27 ?_
          refine lv_iload_n hx hb dm_PP_derive_30 rfl (lv_at hl 2 rfl) ?_
          refine ra_ald S hW (by omega) dm_PP_derive_31 ?_
          refine pw_callV (rest := []) S hW (mm_Ring_derivativeInto l D k g σ hw hP2 hP31 (kd_rg hd0) (kd_rg hx0)) (cv_PP_115 S.1.2.2.2.2 ⟨by decide, by decide⟩) (by decide) en_Ring rfl rfl hl.1 rfl (lv_room (Nat.le_of_ble_eq_true rfl)) ⟨Nat.zero_le _, Nat.zero_le _⟩ dm_PP_derive_32 (fun σ2 H locs hp2 hW => ?_)
          rw [hp2] at hW
          have w2 : st_wf P (st_po σ (133 + 2 * d0) (lp_der P (σ (133 + 2 * x0)))) := st_wf_po hw (kd_rg hd0) (lp_der_ok (by omega) (hw.2 _ (kd_rg hx0)).1)
          refine lv_aload_n hx hb dm_PP_derive_35 rfl (lv_at hl 0 rfl) ?_
          refine lv_iload_n hx hb dm_PP_derive_36 rfl (lv_at hl 1 rfl) ?_
          refine pw_callVI (rest := []) S hW (mm_PP_sizeOf l D k g (st_po σ (133 + 2 * d0) (lp_der P (σ (133 + 2 * x0)))) (n := d0) hd0) (cv_PP_85 S.1.2.2.2.2 ⟨by decide, by decide⟩) (by decide) en_PP rfl rfl hl.1 rfl (lv_room (Nat.le_of_ble_eq_true rfl)) ⟨Nat.zero_le _, Nat.zero_le _⟩ dm_PP_derive_37 (fun r σ9 H locs hp hW => ?_)
          obtain ⟨hr, hp⟩ := hp
          rw [hp] at hW
          subst hr
          exact hret _ _ _ _ _ _ dm_PP_derive_40 (Or.inr ⟨d0, x0, ⟨hd0, rfl⟩, ⟨hx0, rfl⟩, by rw [(w2.2 _ (kd_rg hd0)).2], w2, st_po_at, st_sm_po σ _ _⟩) hW
        · exfalso
          omega
      · subst hr
        refine wi_if_eq (tgt := 16) S (nn_T (by omega)) dm_PP_derive_11 (by decide) (fun hc => ?_) (fun hc => ?_)
        · exfalso
          omega
        · refine lv_iconst (v := -1) hx hb dm_PP_derive_14 (by decide) ?_
          exact hret _ _ _ _ _ _ dm_PP_derive_15 (Or.inl ⟨fun z => hno z.2, rfl, rfl⟩) hW
  · subst hr
    refine wi_if_ne (tgt := 14) S (nn_T (by omega)) dm_PP_derive_4 (by decide) (fun hc => ?_) (fun hc => ?_)
    · refine lv_iconst (v := -1) hx hb dm_PP_derive_14 (by decide) ?_
      exact hret _ _ _ _ _ _ dm_PP_derive_15 (Or.inl ⟨fun z => hno z.1, rfl, rfl⟩) hW
    · exfalso
      omega
theorem dm_PP_common_0 : decode bm_PP_common 0 = .ok (.iload_n 1, 1) := by decide +kernel
theorem dm_PP_common_1 : decode bm_PP_common 1 = .ok (.invokestatic 58, 3) := by decide +kernel
theorem dm_PP_common_4 : decode bm_PP_common 4 = .ok (.ifCond .ne 17, 3) := by decide +kernel
theorem dm_PP_common_7 : decode bm_PP_common 7 = .ok (.iload_n 2, 1) := by decide +kernel
theorem dm_PP_common_8 : decode bm_PP_common 8 = .ok (.invokestatic 58, 3) := by decide +kernel
theorem dm_PP_common_11 : decode bm_PP_common 11 = .ok (.ifCond .ne 10, 3) := by decide +kernel
theorem dm_PP_common_14 : decode bm_PP_common 14 = .ok (.iload_n 3, 1) := by decide +kernel
theorem dm_PP_common_15 : decode bm_PP_common 15 = .ok (.invokestatic 58, 3) := by decide +kernel
theorem dm_PP_common_18 : decode bm_PP_common 18 = .ok (.ifCond .eq 5, 3) := by decide +kernel
theorem dm_PP_common_21 : decode bm_PP_common 21 = .ok (.iconst (-1), 1) := by decide +kernel
theorem dm_PP_common_22 : decode bm_PP_common 22 = .ok (.ireturn, 1) := by decide +kernel
theorem dm_PP_common_23 : decode bm_PP_common 23 = .ok (.aload_n 0, 1) := by decide +kernel
theorem dm_PP_common_24 : decode bm_PP_common 24 = .ok (.getfield 18, 3) := by decide +kernel
theorem dm_PP_common_27 : decode bm_PP_common 27 = .ok (.aload_n 0, 1) := by decide +kernel
theorem dm_PP_common_28 : decode bm_PP_common 28 = .ok (.getfield 49, 3) := by decide +kernel
theorem dm_PP_common_31 : decode bm_PP_common 31 = .ok (.iload_n 1, 1) := by decide +kernel
theorem dm_PP_common_32 : decode bm_PP_common 32 = .ok (.aaload, 1) := by decide +kernel
theorem dm_PP_common_33 : decode bm_PP_common 33 = .ok (.aload_n 0, 1) := by decide +kernel
theorem dm_PP_common_34 : decode bm_PP_common 34 = .ok (.getfield 49, 3) := by decide +kernel
theorem dm_PP_common_37 : decode bm_PP_common 37 = .ok (.iload_n 2, 1) := by decide +kernel
theorem dm_PP_common_38 : decode bm_PP_common 38 = .ok (.aaload, 1) := by decide +kernel
theorem dm_PP_common_39 : decode bm_PP_common 39 = .ok (.aload_n 0, 1) := by decide +kernel
theorem dm_PP_common_40 : decode bm_PP_common 40 = .ok (.getfield 49, 3) := by decide +kernel
theorem dm_PP_common_43 : decode bm_PP_common 43 = .ok (.iload_n 3, 1) := by decide +kernel
theorem dm_PP_common_44 : decode bm_PP_common 44 = .ok (.aaload, 1) := by decide +kernel
theorem dm_PP_common_45 : decode bm_PP_common 45 = .ok (.invokevirtual 108, 3) := by decide +kernel
theorem dm_PP_common_48 : decode bm_PP_common 48 = .ok (.aload_n 0, 1) := by decide +kernel
theorem dm_PP_common_49 : decode bm_PP_common 49 = .ok (.iload_n 1, 1) := by decide +kernel
theorem dm_PP_common_50 : decode bm_PP_common 50 = .ok (.invokevirtual 85, 3) := by decide +kernel
theorem dm_PP_common_53 : decode bm_PP_common 53 = .ok (.ireturn, 1) := by decide +kernel
set_option maxHeartbeats 4000000 in
set_option maxRecDepth 100000 in
theorem mm_PP_common (l : Launch) (D : va_G) (k : ClassId × ClassId × ClassId) (g : Nat → Nat) (σ : st_T) {P : Nat} (hw : st_wf P σ) (hP : ag_pr P) (hP31 : P < 2147483648) (hrg : ∀ n, n < 8 → σ 200 (133 + 2 * n) ≤ 16) {d x y : Int32} : mt_I l D k g ym_PP_common wm_PP_common rm_PP_common [.ref (g 0), .int d, .int x, .int y] σ (fun r σ1 => (¬ (rk_r d ∧ rk_r x ∧ rk_r y) ∧ r = -1 ∧ σ1 = σ) ∨ ∃ d0 x0 y0, (d0 < 8 ∧ d = nI d0) ∧ (x0 < 8 ∧ x = nI x0) ∧ (y0 < 8 ∧ y = nI y0) ∧ r = nI (sp_sz (σ1 (133 + 2 * d0)) 31) ∧ st_wf P σ1 ∧ σ1 (133 + 2 * d0) = sp_gcd P (σ (133 + 2 * x0)) (σ (133 + 2 * y0)) ∧ st_sm [(133 + 2 * d0), 4, 6, 8, 10] σ σ1) := by
  refine ct_I_in (cc := bm_PP_common) (maxL := 4) (by decide) rfl (Nat.le_of_ble_eq_true rfl) ?_
  intro p e s m args below meth c A ls Q S hl hW hret
  have S : pw_S p m c bm_PP_common 4 s args wa_g rc_PP D cl_s (ty_s k) := S
  have hx := S.1.1
  have hb := S.1.2.1
  have hl : lv_has ls 4 [(0, .ref (g (0))), (1, .int (d)), (2, .int (x)), (3, .int (y))] := hl
  have hP2 := hP.1
  refine lv_iload_n hx hb dm_PP_common_0 rfl (lv_at hl 1 rfl) ?_
  refine pw_callSI (rest := []) S hW (mm_PP_isNoRegister l D k g σ (x := d)) (cv_PP_58 S.1.2.2.2.2 ⟨by decide, by decide⟩) rfl hl.1 rfl (lv_room (Nat.le_of_ble_eq_true rfl)) ⟨Nat.zero_le _, Nat.zero_le _⟩ dm_PP_common_1 (fun r σ1 H locs hp hW => ?_)
  obtain ⟨hp, h9⟩ := hp
  rw [h9] at hW
  rcases hp with ⟨hr, d0, hd0, rfl⟩ | ⟨hr, hno⟩
  · subst hr
    have hl : lv_has ls 4 [(0, .ref (g (0))), (1, .int (nI (d0))), (2, .int (x)), (3, .int (y))] := hl
    refine wi_if_ne (tgt := 21) S (nn_T (by omega)) dm_PP_common_4 (by decide) (fun hc => ?_) (fun hc => ?_)
    · exfalso
      omega
    · refine lv_iload_n hx hb dm_PP_common_7 rfl (lv_at hl 2 rfl) ?_
      refine pw_callSI (rest := []) S hW (mm_PP_isNoRegister l D k g σ (x := x)) (cv_PP_58 S.1.2.2.2.2 ⟨by decide, by decide⟩) rfl hl.1 rfl (lv_room (Nat.le_of_ble_eq_true rfl)) ⟨Nat.zero_le _, Nat.zero_le _⟩ dm_PP_common_8 (fun r σ1 H locs hp hW => ?_)
      obtain ⟨hp, h9⟩ := hp
      rw [h9] at hW
      rcases hp with ⟨hr, x0, hx0, rfl⟩ | ⟨hr, hno⟩
      · subst hr
        have hl : lv_has ls 4 [(0, .ref (g (0))), (1, .int (nI (d0))), (2, .int (nI (x0))), (3, .int (y))] := hl
        refine wi_if_ne (tgt := 21) S (nn_T (by omega)) dm_PP_common_11 (by decide) (fun hc => ?_) (fun hc => ?_)
        · exfalso
          omega
        · refine lv_iload_n hx hb dm_PP_common_14 rfl (lv_at hl 3 rfl) ?_
          refine pw_callSI (rest := []) S hW (mm_PP_isNoRegister l D k g σ (x := y)) (cv_PP_58 S.1.2.2.2.2 ⟨by decide, by decide⟩) rfl hl.1 rfl (lv_room (Nat.le_of_ble_eq_true rfl)) ⟨Nat.zero_le _, Nat.zero_le _⟩ dm_PP_common_15 (fun r σ1 H locs hp hW => ?_)
          obtain ⟨hp, h9⟩ := hp
          rw [h9] at hW
          rcases hp with ⟨hr, y0, hy0, rfl⟩ | ⟨hr, hno⟩
          · subst hr
            have hl : lv_has ls 4 [(0, .ref (g (0))), (1, .int (nI (d0))), (2, .int (nI (x0))), (3, .int (nI (y0)))] := hl
            refine wi_if_eq (tgt := 23) S (nn_T (by omega)) dm_PP_common_18 (by decide) (fun hc => ?_) (fun hc => ?_)
            · refine lv_aload_n hx hb dm_PP_common_23 rfl (lv_at hl 0 rfl) ?_
              refine pp_ring S hW (wa_in 245 (by decide +kernel) rfl) dm_PP_common_24 ?_
              refine lv_aload_n hx hb dm_PP_common_27 rfl (lv_at hl 0 rfl) ?_
              refine pp_registers S hW (wa_in 249 (by decide +kernel) rfl) dm_PP_common_28 ?_
              refine lv_iload_n hx hb dm_PP_common_31 rfl (lv_at hl 1 rfl) ?_
              refine ra_ald S hW (by omega) dm_PP_common_32 ?_
              refine lv_aload_n hx hb dm_PP_common_33 rfl (lv_at hl 0 rfl) ?_
              refine pp_registers S hW (wa_in 249 (by decide +kernel) rfl) dm_PP_common_34 ?_
              refine lv_iload_n hx hb dm_PP_common_37 rfl (lv_at hl 2 rfl) ?_
              refine ra_ald S hW (by omega) dm_PP_common_38 ?_
              refine lv_aload_n hx hb dm_PP_common_39 rfl (lv_at hl 0 rfl) ?_
              refine pp_registers S hW (wa_in 249 (by decide +kernel) rfl) dm_PP_common_40 ?_
              refine lv_iload_n hx hb dm_PP_common_43 rfl (lv_at hl 3 rfl) ?_
              refine ra_ald S hW (by omega) dm_PP_common_44 ?_
              refine pw_callV (rest := []) S hW (mm_Ring_commonInto l D k g σ hw hP hP31 (kd_rg hd0) (kd_rg hx0) (kd_rg hy0) (by omega)) (cv_PP_108 S.1.2.2.2.2 ⟨by decide, by decide⟩) (by decide) en_Ring rfl rfl hl.1 rfl (lv_room (Nat.le_of_ble_eq_true rfl)) ⟨Nat.zero_le _, Nat.zero_le _⟩ dm_PP_common_45 (fun σ2 H locs hp2 hW => ?_)
              obtain ⟨w2, e2, s2⟩ := hp2
              refine lv_aload_n hx hb dm_PP_common_48 rfl (lv_at hl 0 rfl) ?_
              refine lv_iload_n hx hb dm_PP_common_49 rfl (lv_at hl 1 rfl) ?_
              refine pw_callVI (rest := []) S hW (mm_PP_sizeOf l D k g σ2 (n := d0) hd0) (cv_PP_85 S.1.2.2.2.2 ⟨by decide, by decide⟩) (by decide) en_PP rfl rfl hl.1 rfl (lv_room (Nat.le_of_ble_eq_true rfl)) ⟨Nat.zero_le _, Nat.zero_le _⟩ dm_PP_common_50 (fun r σ9 H locs hp hW => ?_)
              obtain ⟨hr, hp⟩ := hp
              rw [hp] at hW
              subst hr
              exact hret _ _ _ _ _ _ dm_PP_common_53 (Or.inr ⟨d0, x0, y0, ⟨hd0, rfl⟩, ⟨hx0, rfl⟩, ⟨hy0, rfl⟩, by rw [(w2.2 _ (kd_rg hd0)).2], w2, e2, s2⟩) hW
            · exfalso
              omega
          · subst hr
            refine wi_if_eq (tgt := 23) S (nn_T (by omega)) dm_PP_common_18 (by decide) (fun hc => ?_) (fun hc => ?_)
            · exfalso
              omega
            · refine lv_iconst (v := -1) hx hb dm_PP_common_21 (by decide) ?_
              exact hret _ _ _ _ _ _ dm_PP_common_22 (Or.inl ⟨fun z => hno z.2.2, rfl, rfl⟩) hW
      · subst hr
        refine wi_if_ne (tgt := 21) S (nn_T (by omega)) dm_PP_common_11 (by decide) (fun hc => ?_) (fun hc => ?_)
        · refine lv_iconst (v := -1) hx hb dm_PP_common_21 (by decide) ?_
          exact hret _ _ _ _ _ _ dm_PP_common_22 (Or.inl ⟨fun z => hno z.2.1, rfl, rfl⟩) hW
        · exfalso
          omega
  · subst hr
    refine wi_if_ne (tgt := 21) S (nn_T (by omega)) dm_PP_common_4 (by decide) (fun hc => ?_) (fun hc => ?_)
    · refine lv_iconst (v := -1) hx hb dm_PP_common_21 (by decide) ?_
      exact hret _ _ _ _ _ _ dm_PP_common_22 (Or.inl ⟨fun z => hno z.1, rfl, rfl⟩) hW
    · exfalso
      omega
theorem dm_PP_multiply_0 : decode bm_PP_multiply 0 = .ok (.iload_n 1, 1) := by decide +kernel
theorem dm_PP_multiply_1 : decode bm_PP_multiply 1 = .ok (.invokestatic 58, 3) := by decide +kernel
theorem dm_PP_multiply_4 : decode bm_PP_multiply 4 = .ok (.ifCond .ne 17, 3) := by decide +kernel
theorem dm_PP_multiply_7 : decode bm_PP_multiply 7 = .ok (.iload_n 2, 1) := by decide +kernel
theorem dm_PP_multiply_8 : decode bm_PP_multiply 8 = .ok (.invokestatic 58, 3) := by decide +kernel
theorem dm_PP_multiply_11 : decode bm_PP_multiply 11 = .ok (.ifCond .ne 10, 3) := by decide +kernel
theorem dm_PP_multiply_14 : decode bm_PP_multiply 14 = .ok (.iload_n 3, 1) := by decide +kernel
theorem dm_PP_multiply_15 : decode bm_PP_multiply 15 = .ok (.invokestatic 58, 3) := by decide +kernel
theorem dm_PP_multiply_18 : decode bm_PP_multiply 18 = .ok (.ifCond .eq 5, 3) := by decide +kernel
theorem dm_PP_multiply_21 : decode bm_PP_multiply 21 = .ok (.iconst (-1), 1) := by decide +kernel
theorem dm_PP_multiply_22 : decode bm_PP_multiply 22 = .ok (.ireturn, 1) := by decide +kernel
theorem dm_PP_multiply_23 : decode bm_PP_multiply 23 = .ok (.aload_n 0, 1) := by decide +kernel
theorem dm_PP_multiply_24 : decode bm_PP_multiply 24 = .ok (.getfield 49, 3) := by decide +kernel
theorem dm_PP_multiply_27 : decode bm_PP_multiply 27 = .ok (.iload_n 2, 1) := by decide +kernel
theorem dm_PP_multiply_28 : decode bm_PP_multiply 28 = .ok (.aaload, 1) := by decide +kernel
theorem dm_PP_multiply_29 : decode bm_PP_multiply 29 = .ok (.getfield 75, 3) := by decide +kernel
theorem dm_PP_multiply_32 : decode bm_PP_multiply 32 = .ok (.aload_n 0, 1) := by decide +kernel
theorem dm_PP_multiply_33 : decode bm_PP_multiply 33 = .ok (.getfield 49, 3) := by decide +kernel
theorem dm_PP_multiply_36 : decode bm_PP_multiply 36 = .ok (.iload_n 3, 1) := by decide +kernel
theorem dm_PP_multiply_37 : decode bm_PP_multiply 37 = .ok (.aaload, 1) := by decide +kernel
theorem dm_PP_multiply_38 : decode bm_PP_multiply 38 = .ok (.getfield 75, 3) := by decide +kernel
theorem dm_PP_multiply_41 : decode bm_PP_multiply 41 = .ok (.iadd, 1) := by decide +kernel
theorem dm_PP_multiply_42 : decode bm_PP_multiply 42 = .ok (.bipush 15, 2) := by decide +kernel
theorem dm_PP_multiply_44 : decode bm_PP_multiply 44 = .ok (.if_icmp .le 6, 3) := by decide +kernel
theorem dm_PP_multiply_47 : decode bm_PP_multiply 47 = .ok (.bipush (-2), 2) := by decide +kernel
theorem dm_PP_multiply_49 : decode bm_PP_multiply 49 = .ok (.ireturn, 1) := by decide +kernel
theorem dm_PP_multiply_50 : decode bm_PP_multiply 50 = .ok (.aload_n 0, 1) := by decide +kernel
theorem dm_PP_multiply_51 : decode bm_PP_multiply 51 = .ok (.getfield 18, 3) := by decide +kernel
theorem dm_PP_multiply_54 : decode bm_PP_multiply 54 = .ok (.aload_n 0, 1) := by decide +kernel
theorem dm_PP_multiply_55 : decode bm_PP_multiply 55 = .ok (.getfield 49, 3) := by decide +kernel
theorem dm_PP_multiply_58 : decode bm_PP_multiply 58 = .ok (.iload_n 1, 1) := by decide +kernel
theorem dm_PP_multiply_59 : decode bm_PP_multiply 59 = .ok (.aaload, 1) := by decide +kernel
theorem dm_PP_multiply_60 : decode bm_PP_multiply 60 = .ok (.aload_n 0, 1) := by decide +kernel
theorem dm_PP_multiply_61 : decode bm_PP_multiply 61 = .ok (.getfield 49, 3) := by decide +kernel
theorem dm_PP_multiply_64 : decode bm_PP_multiply 64 = .ok (.iload_n 2, 1) := by decide +kernel
theorem dm_PP_multiply_65 : decode bm_PP_multiply 65 = .ok (.aaload, 1) := by decide +kernel
theorem dm_PP_multiply_66 : decode bm_PP_multiply 66 = .ok (.aload_n 0, 1) := by decide +kernel
theorem dm_PP_multiply_67 : decode bm_PP_multiply 67 = .ok (.getfield 49, 3) := by decide +kernel
theorem dm_PP_multiply_70 : decode bm_PP_multiply 70 = .ok (.iload_n 3, 1) := by decide +kernel
theorem dm_PP_multiply_71 : decode bm_PP_multiply 71 = .ok (.aaload, 1) := by decide +kernel
theorem dm_PP_multiply_72 : decode bm_PP_multiply 72 = .ok (.invokevirtual 96, 3) := by decide +kernel
theorem dm_PP_multiply_75 : decode bm_PP_multiply 75 = .ok (.aload_n 0, 1) := by decide +kernel
theorem dm_PP_multiply_76 : decode bm_PP_multiply 76 = .ok (.iload_n 1, 1) := by decide +kernel
theorem dm_PP_multiply_77 : decode bm_PP_multiply 77 = .ok (.invokevirtual 85, 3) := by decide +kernel
theorem dm_PP_multiply_80 : decode bm_PP_multiply 80 = .ok (.ireturn, 1) := by decide +kernel
theorem sd_add {a b : Nat} (ha : a ≤ 16) (hb : b ≤ 16) : (sd_i a + sd_i b).toInt = (a : Int) + (b : Int) - 2 := by
  rw [Int32.toInt_add, sd_T (by omega), sd_T (by omega), Int.bmod_def]
  omega
set_option maxHeartbeats 4000000 in
set_option maxRecDepth 100000 in
theorem mm_PP_multiply (l : Launch) (D : va_G) (k : ClassId × ClassId × ClassId) (g : Nat → Nat) (σ : st_T) {P : Nat} (hw : st_wf P σ) (hP : ag_pr P) (hP31 : P < 2147483648) (hrg : ∀ n, n < 8 → σ 200 (133 + 2 * n) ≤ 16) {d x y : Int32} : mt_I l D k g ym_PP_multiply wm_PP_multiply rm_PP_multiply [.ref (g 0), .int d, .int x, .int y] σ (fun r σ1 => (¬ (rk_r d ∧ rk_r x ∧ rk_r y) ∧ r = -1 ∧ σ1 = σ) ∨ ∃ d0 x0 y0, (d0 < 8 ∧ d = nI d0) ∧ (x0 < 8 ∧ x = nI x0) ∧ (y0 < 8 ∧ y = nI y0) ∧ ((17 < σ 200 (133 + 2 * x0) + σ 200 (133 + 2 * y0) ∧ r = -2 ∧ σ1 = σ) ∨ (σ 200 (133 + 2 * x0) + σ 200 (133 + 2 * y0) ≤ 17 ∧ r = nI (sp_sz (σ1 (133 + 2 * d0)) 31) ∧ st_wf P σ1 ∧ σ1 (133 + 2 * d0) = sp_mul P (σ (133 + 2 * x0)) (σ (133 + 2 * y0)) ∧ st_sm [(133 + 2 * d0), 2] σ σ1))) := by
  refine ct_I_in (cc := bm_PP_multiply) (maxL := 4) (by decide) rfl (Nat.le_of_ble_eq_true rfl) ?_
  intro p e s m args below meth c A ls Q S hl hW hret
  have S : pw_S p m c bm_PP_multiply 4 s args wa_g rc_PP D cl_s (ty_s k) := S
  have hx := S.1.1
  have hb := S.1.2.1
  have hl : lv_has ls 4 [(0, .ref (g (0))), (1, .int (d)), (2, .int (x)), (3, .int (y))] := hl
  have hP2 := hP.1
  refine lv_iload_n hx hb dm_PP_multiply_0 rfl (lv_at hl 1 rfl) ?_
  refine pw_callSI (rest := []) S hW (mm_PP_isNoRegister l D k g σ (x := d)) (cv_PP_58 S.1.2.2.2.2 ⟨by decide, by decide⟩) rfl hl.1 rfl (lv_room (Nat.le_of_ble_eq_true rfl)) ⟨Nat.zero_le _, Nat.zero_le _⟩ dm_PP_multiply_1 (fun r σ1 H locs hp hW => ?_)
  obtain ⟨hp, h9⟩ := hp
  rw [h9] at hW
  rcases hp with ⟨hr, d0, hd0, rfl⟩ | ⟨hr, hno⟩
  · subst hr
    have hl : lv_has ls 4 [(0, .ref (g (0))), (1, .int (nI (d0))), (2, .int (x)), (3, .int (y))] := hl
    refine wi_if_ne (tgt := 21) S (nn_T (by omega)) dm_PP_multiply_4 (by decide) (fun hc => ?_) (fun hc => ?_)
    · exfalso
      omega
    · refine lv_iload_n hx hb dm_PP_multiply_7 rfl (lv_at hl 2 rfl) ?_
      refine pw_callSI (rest := []) S hW (mm_PP_isNoRegister l D k g σ (x := x)) (cv_PP_58 S.1.2.2.2.2 ⟨by decide, by decide⟩) rfl hl.1 rfl (lv_room (Nat.le_of_ble_eq_true rfl)) ⟨Nat.zero_le _, Nat.zero_le _⟩ dm_PP_multiply_8 (fun r σ1 H locs hp hW => ?_)
      obtain ⟨hp, h9⟩ := hp
      rw [h9] at hW
      rcases hp with ⟨hr, x0, hx0, rfl⟩ | ⟨hr, hno⟩
      · subst hr
        have hl : lv_has ls 4 [(0, .ref (g (0))), (1, .int (nI (d0))), (2, .int (nI (x0))), (3, .int (y))] := hl
        refine wi_if_ne (tgt := 21) S (nn_T (by omega)) dm_PP_multiply_11 (by decide) (fun hc => ?_) (fun hc => ?_)
        · exfalso
          omega
        · refine lv_iload_n hx hb dm_PP_multiply_14 rfl (lv_at hl 3 rfl) ?_
          refine pw_callSI (rest := []) S hW (mm_PP_isNoRegister l D k g σ (x := y)) (cv_PP_58 S.1.2.2.2.2 ⟨by decide, by decide⟩) rfl hl.1 rfl (lv_room (Nat.le_of_ble_eq_true rfl)) ⟨Nat.zero_le _, Nat.zero_le _⟩ dm_PP_multiply_15 (fun r σ1 H locs hp hW => ?_)
          obtain ⟨hp, h9⟩ := hp
          rw [h9] at hW
          rcases hp with ⟨hr, y0, hy0, rfl⟩ | ⟨hr, hno⟩
          · subst hr
            have hl : lv_has ls 4 [(0, .ref (g (0))), (1, .int (nI (d0))), (2, .int (nI (x0))), (3, .int (nI (y0)))] := hl
            refine wi_if_eq (tgt := 23) S (nn_T (by omega)) dm_PP_multiply_18 (by decide) (fun hc => ?_) (fun hc => ?_)
            · have hx16 := hrg x0 hx0
              have hy16 := hrg y0 hy0
              refine lv_aload_n hx hb dm_PP_multiply_23 rfl (lv_at hl 0 rfl) ?_
              refine pp_registers S hW (wa_in 249 (by decide +kernel) rfl) dm_PP_multiply_24 ?_
              refine lv_iload_n hx hb dm_PP_multiply_27 rfl (lv_at hl 2 rfl) ?_
              refine ra_ald S hW (by omega) dm_PP_multiply_28 ?_
              refine po_getd S hW (kd_rg (r := x0) (by omega)) (wa_in 51 (by decide +kernel) rfl) dm_PP_multiply_29 ?_
              refine lv_aload_n hx hb dm_PP_multiply_32 rfl (lv_at hl 0 rfl) ?_
              refine pp_registers S hW (wa_in 249 (by decide +kernel) rfl) dm_PP_multiply_33 ?_
              refine lv_iload_n hx hb dm_PP_multiply_36 rfl (lv_at hl 3 rfl) ?_
              refine ra_ald S hW (by omega) dm_PP_multiply_37 ?_
              refine po_getd S hW (kd_rg (r := y0) (by omega)) (wa_in 51 (by decide +kernel) rfl) dm_PP_multiply_38 ?_
              refine lv_iadd hx hb dm_PP_multiply_41 ?_
              refine lv_bipush (v := nI (15)) hx hb dm_PP_multiply_42 (by decide) ?_
              refine wi_icmp_le (tgt := 50) S (sd_add hx16 hy16) (nn_T (by omega)) dm_PP_multiply_44 (by decide) (fun hc => ?_) (fun hc => ?_)
              · refine lv_aload_n hx hb dm_PP_multiply_50 rfl (lv_at hl 0 rfl) ?_
                refine pp_ring S hW (wa_in 245 (by decide +kernel) rfl) dm_PP_multiply_51 ?_
                refine lv_aload_n hx hb dm_PP_multiply_54 rfl (lv_at hl 0 rfl) ?_
                refine pp_registers S hW (wa_in 249 (by decide +kernel) rfl) dm_PP_multiply_55 ?_
                refine lv_iload_n hx hb dm_PP_multiply_58 rfl (lv_at hl 1 rfl) ?_
                refine ra_ald S hW (by omega) dm_PP_multiply_59 ?_
                refine lv_aload_n hx hb dm_PP_multiply_60 rfl (lv_at hl 0 rfl) ?_
                refine pp_registers S hW (wa_in 249 (by decide +kernel) rfl) dm_PP_multiply_61 ?_
                refine lv_iload_n hx hb dm_PP_multiply_64 rfl (lv_at hl 2 rfl) ?_
                refine ra_ald S hW (by omega) dm_PP_multiply_65 ?_
                refine lv_aload_n hx hb dm_PP_multiply_66 rfl (lv_at hl 0 rfl) ?_
                refine pp_registers S hW (wa_in 249 (by decide +kernel) rfl) dm_PP_multiply_67 ?_
                refine lv_iload_n hx hb dm_PP_multiply_70 rfl (lv_at hl 3 rfl) ?_
                refine ra_ald S hW (by omega) dm_PP_multiply_71 ?_
                refine pw_callV (rest := []) S hW (mm_Ring_productInto l D k g σ hw hP2 hP31 (kd_rg hd0) (kd_rg hx0) (kd_rg hy0) (by omega) (by omega) (by omega)) (cv_PP_96 S.1.2.2.2.2 ⟨by decide, by decide⟩) (by decide) en_Ring rfl rfl hl.1 rfl (lv_room (Nat.le_of_ble_eq_true rfl)) ⟨Nat.zero_le _, Nat.zero_le _⟩ dm_PP_multiply_72 (fun σ2 H locs hp2 hW => ?_)
                obtain ⟨w2, e2, s2⟩ := hp2
                refine lv_aload_n hx hb dm_PP_multiply_75 rfl (lv_at hl 0 rfl) ?_
                refine lv_iload_n hx hb dm_PP_multiply_76 rfl (lv_at hl 1 rfl) ?_
                refine pw_callVI (rest := []) S hW (mm_PP_sizeOf l D k g σ2 (n := d0) hd0) (cv_PP_85 S.1.2.2.2.2 ⟨by decide, by decide⟩) (by decide) en_PP rfl rfl hl.1 rfl (lv_room (Nat.le_of_ble_eq_true rfl)) ⟨Nat.zero_le _, Nat.zero_le _⟩ dm_PP_multiply_77 (fun r σ9 H locs hp hW => ?_)
                obtain ⟨hr, hp⟩ := hp
                rw [hp] at hW
                subst hr
                exact hret _ _ _ _ _ _ dm_PP_multiply_80 (Or.inr ⟨d0, x0, y0, ⟨hd0, rfl⟩, ⟨hx0, rfl⟩, ⟨hy0, rfl⟩, Or.inr ⟨by omega, by rw [(w2.2 _ (kd_rg hd0)).2], w2, e2, s2⟩⟩) hW
              · refine lv_bipush (v := -2) hx hb dm_PP_multiply_47 (by decide) ?_
                exact hret _ _ _ _ _ _ dm_PP_multiply_49 (Or.inr ⟨d0, x0, y0, ⟨hd0, rfl⟩, ⟨hx0, rfl⟩, ⟨hy0, rfl⟩, Or.inl ⟨by omega, rfl, rfl⟩⟩) hW
            · exfalso
              omega
          · subst hr
            refine wi_if_eq (tgt := 23) S (nn_T (by omega)) dm_PP_multiply_18 (by decide) (fun hc => ?_) (fun hc => ?_)
            · exfalso
              omega
            · refine lv_iconst (v := -1) hx hb dm_PP_multiply_21 (by decide) ?_
              exact hret _ _ _ _ _ _ dm_PP_multiply_22 (Or.inl ⟨fun z => hno z.2.2, rfl, rfl⟩) hW
      · subst hr
        refine wi_if_ne (tgt := 21) S (nn_T (by omega)) dm_PP_multiply_11 (by decide) (fun hc => ?_) (fun hc => ?_)
        · refine lv_iconst (v := -1) hx hb dm_PP_multiply_21 (by decide) ?_
          exact hret _ _ _ _ _ _ dm_PP_multiply_22 (Or.inl ⟨fun z => hno z.2.1, rfl, rfl⟩) hW
        · exfalso
          omega
  · subst hr
    refine wi_if_ne (tgt := 21) S (nn_T (by omega)) dm_PP_multiply_4 (by decide) (fun hc => ?_) (fun hc => ?_)
    · refine lv_iconst (v := -1) hx hb dm_PP_multiply_21 (by decide) ?_
      exact hret _ _ _ _ _ _ dm_PP_multiply_22 (Or.inl ⟨fun z => hno z.1, rfl, rfl⟩) hW
    · exfalso
      omega
theorem dm_PP_divide_0 : decode bm_PP_divide 0 = .ok (.iload_n 1, 1) := by decide +kernel
theorem dm_PP_divide_1 : decode bm_PP_divide 1 = .ok (.invokestatic 58, 3) := by decide +kernel
theorem dm_PP_divide_4 : decode bm_PP_divide 4 = .ok (.ifCond .ne 25, 3) := by decide +kernel
theorem dm_PP_divide_7 : decode bm_PP_divide 7 = .ok (.iload_n 2, 1) := by decide +kernel
theorem dm_PP_divide_8 : decode bm_PP_divide 8 = .ok (.invokestatic 58, 3) := by decide +kernel
theorem dm_PP_divide_11 : decode bm_PP_divide 11 = .ok (.ifCond .ne 18, 3) := by decide +kernel
theorem dm_PP_divide_14 : decode bm_PP_divide 14 = .ok (.iload_n 3, 1) := by decide +kernel
theorem dm_PP_divide_15 : decode bm_PP_divide 15 = .ok (.invokestatic 58, 3) := by decide +kernel
theorem dm_PP_divide_18 : decode bm_PP_divide 18 = .ok (.ifCond .ne 11, 3) := by decide +kernel
theorem dm_PP_divide_21 : decode bm_PP_divide 21 = .ok (.iload 4, 2) := by decide +kernel
theorem dm_PP_divide_23 : decode bm_PP_divide 23 = .ok (.invokestatic 58, 3) := by decide +kernel
theorem dm_PP_divide_26 : decode bm_PP_divide 26 = .ok (.ifCond .eq 5, 3) := by decide +kernel
theorem dm_PP_divide_29 : decode bm_PP_divide 29 = .ok (.iconst (-1), 1) := by decide +kernel
theorem dm_PP_divide_30 : decode bm_PP_divide 30 = .ok (.ireturn, 1) := by decide +kernel
theorem dm_PP_divide_31 : decode bm_PP_divide 31 = .ok (.aload_n 0, 1) := by decide +kernel
theorem dm_PP_divide_32 : decode bm_PP_divide 32 = .ok (.getfield 49, 3) := by decide +kernel
theorem dm_PP_divide_35 : decode bm_PP_divide 35 = .ok (.iload 4, 2) := by decide +kernel
theorem dm_PP_divide_37 : decode bm_PP_divide 37 = .ok (.aaload, 1) := by decide +kernel
theorem dm_PP_divide_38 : decode bm_PP_divide 38 = .ok (.invokevirtual 100, 3) := by decide +kernel
theorem dm_PP_divide_41 : decode bm_PP_divide 41 = .ok (.ifCond .eq 5, 3) := by decide +kernel
theorem dm_PP_divide_44 : decode bm_PP_divide 44 = .ok (.iconst (-1), 1) := by decide +kernel
theorem dm_PP_divide_45 : decode bm_PP_divide 45 = .ok (.ireturn, 1) := by decide +kernel
theorem dm_PP_divide_46 : decode bm_PP_divide 46 = .ok (.aload_n 0, 1) := by decide +kernel
theorem dm_PP_divide_47 : decode bm_PP_divide 47 = .ok (.getfield 18, 3) := by decide +kernel
theorem dm_PP_divide_50 : decode bm_PP_divide 50 = .ok (.aload_n 0, 1) := by decide +kernel
theorem dm_PP_divide_51 : decode bm_PP_divide 51 = .ok (.getfield 49, 3) := by decide +kernel
theorem dm_PP_divide_54 : decode bm_PP_divide 54 = .ok (.iload_n 1, 1) := by decide +kernel
theorem dm_PP_divide_55 : decode bm_PP_divide 55 = .ok (.aaload, 1) := by decide +kernel
theorem dm_PP_divide_56 : decode bm_PP_divide 56 = .ok (.aload_n 0, 1) := by decide +kernel
theorem dm_PP_divide_57 : decode bm_PP_divide 57 = .ok (.getfield 49, 3) := by decide +kernel
theorem dm_PP_divide_60 : decode bm_PP_divide 60 = .ok (.iload_n 2, 1) := by decide +kernel
theorem dm_PP_divide_61 : decode bm_PP_divide 61 = .ok (.aaload, 1) := by decide +kernel
theorem dm_PP_divide_62 : decode bm_PP_divide 62 = .ok (.aload_n 0, 1) := by decide +kernel
theorem dm_PP_divide_63 : decode bm_PP_divide 63 = .ok (.getfield 49, 3) := by decide +kernel
theorem dm_PP_divide_66 : decode bm_PP_divide 66 = .ok (.iload_n 3, 1) := by decide +kernel
theorem dm_PP_divide_67 : decode bm_PP_divide 67 = .ok (.aaload, 1) := by decide +kernel
theorem dm_PP_divide_68 : decode bm_PP_divide 68 = .ok (.aload_n 0, 1) := by decide +kernel
theorem dm_PP_divide_69 : decode bm_PP_divide 69 = .ok (.getfield 49, 3) := by decide +kernel
theorem dm_PP_divide_72 : decode bm_PP_divide 72 = .ok (.iload 4, 2) := by decide +kernel
theorem dm_PP_divide_74 : decode bm_PP_divide 74 = .ok (.aaload, 1) := by decide +kernel
theorem dm_PP_divide_75 : decode bm_PP_divide 75 = .ok (.invokevirtual 104, 3) := by decide +kernel
theorem dm_PP_divide_78 : decode bm_PP_divide 78 = .ok (.aload_n 0, 1) := by decide +kernel
theorem dm_PP_divide_79 : decode bm_PP_divide 79 = .ok (.iload_n 2, 1) := by decide +kernel
theorem dm_PP_divide_80 : decode bm_PP_divide 80 = .ok (.invokevirtual 85, 3) := by decide +kernel
theorem dm_PP_divide_83 : decode bm_PP_divide 83 = .ok (.ireturn, 1) := by decide +kernel
set_option maxHeartbeats 4000000 in
set_option maxRecDepth 100000 in
theorem mm_PP_divide (l : Launch) (D : va_G) (k : ClassId × ClassId × ClassId) (g : Nat → Nat) (σ : st_T) {P : Nat} (hw : st_wf P σ) (hP : ag_pr P) (hP31 : P < 2147483648) (hrg : ∀ n, n < 8 → σ 200 (133 + 2 * n) ≤ 16) {q d x y : Int32} : mt_I l D k g ym_PP_divide wm_PP_divide rm_PP_divide [.ref (g 0), .int q, .int d, .int x, .int y] σ (fun r σ1 => (¬ (rk_r q ∧ rk_r d ∧ rk_r x ∧ rk_r y) ∧ r = -1 ∧ σ1 = σ) ∨ ∃ q0 d0 x0 y0, (q0 < 8 ∧ q = nI q0) ∧ (d0 < 8 ∧ d = nI d0) ∧ (x0 < 8 ∧ x = nI x0) ∧ (y0 < 8 ∧ y = nI y0) ∧ ((sp_sz (σ (133 + 2 * y0)) 31 = 0 ∧ r = -1 ∧ σ1 = σ) ∨ (0 < sp_sz (σ (133 + 2 * y0)) 31 ∧ r = nI (sp_sz (σ1 (133 + 2 * d0)) 31) ∧ st_wf P σ1 ∧ (σ1 (133 + 2 * d0) = sp_rest P (σ (133 + 2 * x0)) (σ (133 + 2 * y0)) ∧ (q0 ≠ d0 → σ1 (133 + 2 * q0) = sp_quo P (σ (133 + 2 * x0)) (σ (133 + 2 * y0)))) ∧ st_sm [(133 + 2 * q0), (133 + 2 * d0), 4, 6] σ σ1))) := by
  refine ct_I_in (cc := bm_PP_divide) (maxL := 5) (by decide) rfl (Nat.le_of_ble_eq_true rfl) ?_
  intro p e s m args below meth c A ls Q S hl hW hret
  have S : pw_S p m c bm_PP_divide 5 s args wa_g rc_PP D cl_s (ty_s k) := S
  have hx := S.1.1
  have hb := S.1.2.1
  have hl : lv_has ls 5 [(0, .ref (g (0))), (1, .int (q)), (2, .int (d)), (3, .int (x)), (4, .int (y))] := hl
  have hP2 := hP.1
  refine lv_iload_n hx hb dm_PP_divide_0 rfl (lv_at hl 1 rfl) ?_
  refine pw_callSI (rest := []) S hW (mm_PP_isNoRegister l D k g σ (x := q)) (cv_PP_58 S.1.2.2.2.2 ⟨by decide, by decide⟩) rfl hl.1 rfl (lv_room (Nat.le_of_ble_eq_true rfl)) ⟨Nat.zero_le _, Nat.zero_le _⟩ dm_PP_divide_1 (fun r σ1 H locs hp hW => ?_)
  obtain ⟨hp, h9⟩ := hp
  rw [h9] at hW
  rcases hp with ⟨hr, q0, hq0, rfl⟩ | ⟨hr, hno⟩
  · subst hr
    have hl : lv_has ls 5 [(0, .ref (g (0))), (1, .int (nI (q0))), (2, .int (d)), (3, .int (x)), (4, .int (y))] := hl
    refine wi_if_ne (tgt := 29) S (nn_T (by omega)) dm_PP_divide_4 (by decide) (fun hc => ?_) (fun hc => ?_)
    · exfalso
      omega
    · refine lv_iload_n hx hb dm_PP_divide_7 rfl (lv_at hl 2 rfl) ?_
      refine pw_callSI (rest := []) S hW (mm_PP_isNoRegister l D k g σ (x := d)) (cv_PP_58 S.1.2.2.2.2 ⟨by decide, by decide⟩) rfl hl.1 rfl (lv_room (Nat.le_of_ble_eq_true rfl)) ⟨Nat.zero_le _, Nat.zero_le _⟩ dm_PP_divide_8 (fun r σ1 H locs hp hW => ?_)
      obtain ⟨hp, h9⟩ := hp
      rw [h9] at hW
      rcases hp with ⟨hr, d0, hd0, rfl⟩ | ⟨hr, hno⟩
      · subst hr
        have hl : lv_has ls 5 [(0, .ref (g (0))), (1, .int (nI (q0))), (2, .int (nI (d0))), (3, .int (x)), (4, .int (y))] := hl
        refine wi_if_ne (tgt := 29) S (nn_T (by omega)) dm_PP_divide_11 (by decide) (fun hc => ?_) (fun hc => ?_)
        · exfalso
          omega
        · refine lv_iload_n hx hb dm_PP_divide_14 rfl (lv_at hl 3 rfl) ?_
          refine pw_callSI (rest := []) S hW (mm_PP_isNoRegister l D k g σ (x := x)) (cv_PP_58 S.1.2.2.2.2 ⟨by decide, by decide⟩) rfl hl.1 rfl (lv_room (Nat.le_of_ble_eq_true rfl)) ⟨Nat.zero_le _, Nat.zero_le _⟩ dm_PP_divide_15 (fun r σ1 H locs hp hW => ?_)
          obtain ⟨hp, h9⟩ := hp
          rw [h9] at hW
          rcases hp with ⟨hr, x0, hx0, rfl⟩ | ⟨hr, hno⟩
          · subst hr
            have hl : lv_has ls 5 [(0, .ref (g (0))), (1, .int (nI (q0))), (2, .int (nI (d0))), (3, .int (nI (x0))), (4, .int (y))] := hl
            refine wi_if_ne (tgt := 29) S (nn_T (by omega)) dm_PP_divide_18 (by decide) (fun hc => ?_) (fun hc => ?_)
            · exfalso
              omega
            · refine lv_iload hx hb dm_PP_divide_21 (lv_at hl 4 rfl) ?_
              refine pw_callSI (rest := []) S hW (mm_PP_isNoRegister l D k g σ (x := y)) (cv_PP_58 S.1.2.2.2.2 ⟨by decide, by decide⟩) rfl hl.1 rfl (lv_room (Nat.le_of_ble_eq_true rfl)) ⟨Nat.zero_le _, Nat.zero_le _⟩ dm_PP_divide_23 (fun r σ1 H locs hp hW => ?_)
              obtain ⟨hp, h9⟩ := hp
              rw [h9] at hW
              rcases hp with ⟨hr, y0, hy0, rfl⟩ | ⟨hr, hno⟩
              · subst hr
                have hl : lv_has ls 5 [(0, .ref (g (0))), (1, .int (nI (q0))), (2, .int (nI (d0))), (3, .int (nI (x0))), (4, .int (nI (y0)))] := hl
                refine wi_if_eq (tgt := 31) S (nn_T (by omega)) dm_PP_divide_26 (by decide) (fun hc => ?_) (fun hc => ?_)
                · have hzy := (hw.2 _ (kd_rg hy0)).2
                  have hy16 := hrg y0 hy0
                  refine lv_aload_n hx hb dm_PP_divide_31 rfl (lv_at hl 0 rfl) ?_
                  refine pp_registers S hW (wa_in 249 (by decide +kernel) rfl) dm_PP_divide_32 ?_
                  refine lv_iload hx hb dm_PP_divide_35 (lv_at hl 4 rfl) ?_
                  refine ra_ald S hW (by omega) dm_PP_divide_37 ?_
                  refine pw_callVI (rest := []) S hW (mm_Poly_isZero l D k g σ (kd_rg hy0) (by omega)) (cv_PP_100 S.1.2.2.2.2 ⟨by decide, by decide⟩) (kd_p1 (kd_rg (r := y0) (by omega))) (en_k0 (kd_rg (r := y0) (by omega))) rfl rfl hl.1 rfl (lv_room (Nat.le_of_ble_eq_true rfl)) ⟨Nat.zero_le _, Nat.zero_le _⟩ dm_PP_divide_38 (fun r σ1 H locs hp hW => ?_)
                  obtain ⟨hr, hp⟩ := hp
                  rw [hp] at hW
                  subst hr
                  by_cases hz : σ 200 (133 + 2 * y0) = 0
                  · rw [if_pos hz]
                    refine wi_if_eq (tgt := 46) S (nn_T (by omega)) dm_PP_divide_41 (by decide) (fun hc => ?_) (fun hc => ?_)
                    · exfalso
                      omega
                    · refine lv_iconst (v := -1) hx hb dm_PP_divide_44 (by decide) ?_
                      exact hret _ _ _ _ _ _ dm_PP_divide_45 (Or.inr ⟨q0, d0, x0, y0, ⟨hq0, rfl⟩, ⟨hd0, rfl⟩, ⟨hx0, rfl⟩, ⟨hy0, rfl⟩, Or.inl ⟨by omega, rfl, rfl⟩⟩) hW
                  · rw [if_neg hz]
                    refine wi_if_eq (tgt := 46) S (nn_T (by omega)) dm_PP_divide_41 (by decide) (fun hc => ?_) (fun hc => ?_)
                    · refine lv_aload_n hx hb dm_PP_divide_46 rfl (lv_at hl 0 rfl) ?_
                      refine pp_ring S hW (wa_in 245 (by decide +kernel) rfl) dm_PP_divide_47 ?_
                      refine lv_aload_n hx hb dm_PP_divide_50 rfl (lv_at hl 0 rfl) ?_
                      refine pp_registers S hW (wa_in 249 (by decide +kernel) rfl) dm_PP_divide_51 ?_
                      refine lv_iload_n hx hb dm_PP_divide_54 rfl (lv_at hl 1 rfl) ?_
                      refine ra_ald S hW (by omega) dm_PP_divide_55 ?_
                      refine lv_aload_n hx hb dm_PP_divide_56 rfl (lv_at hl 0 rfl) ?_
                      refine pp_registers S hW (wa_in 249 (by decide +kernel) rfl) dm_PP_divide_57 ?_
                      refine lv_iload_n hx hb dm_PP_divide_60 rfl (lv_at hl 2 rfl) ?_
                      refine ra_ald S hW (by omega) dm_PP_divide_61 ?_
                      refine lv_aload_n hx hb dm_PP_divide_62 rfl (lv_at hl 0 rfl) ?_
                      refine pp_registers S hW (wa_in 249 (by decide +kernel) rfl) dm_PP_divide_63 ?_
                      refine lv_iload_n hx hb dm_PP_divide_66 rfl (lv_at hl 3 rfl) ?_
                      refine ra_ald S hW (by omega) dm_PP_divide_67 ?_
                      refine lv_aload_n hx hb dm_PP_divide_68 rfl (lv_at hl 0 rfl) ?_
                      refine pp_registers S hW (wa_in 249 (by decide +kernel) rfl) dm_PP_divide_69 ?_
                      refine lv_iload hx hb dm_PP_divide_72 (lv_at hl 4 rfl) ?_
                      refine ra_ald S hW (by omega) dm_PP_divide_74 ?_
                      refine pw_callV (rest := []) S hW (mm_Ring_quotientAndRestInto l D k g σ hw hP hP31 (kd_rg hq0) (kd_rg hd0) (kd_rg hx0) (kd_rg hy0) (by omega) (by omega) (by omega) (by omega) (by omega) (by omega)) (cv_PP_104 S.1.2.2.2.2 ⟨by decide, by decide⟩) (by decide) en_Ring rfl rfl hl.1 rfl (lv_room (Nat.le_of_ble_eq_true rfl)) ⟨Nat.zero_le _, Nat.zero_le _⟩ dm_PP_divide_75 (fun σ2 H locs hp2 hW => ?_)
                      obtain ⟨w2, e2, s2⟩ := hp2
                      refine lv_aload_n hx hb dm_PP_divide_78 rfl (lv_at hl 0 rfl) ?_
                      refine lv_iload_n hx hb dm_PP_divide_79 rfl (lv_at hl 2 rfl) ?_
                      refine pw_callVI (rest := []) S hW (mm_PP_sizeOf l D k g σ2 (n := d0) hd0) (cv_PP_85 S.1.2.2.2.2 ⟨by decide, by decide⟩) (by decide) en_PP rfl rfl hl.1 rfl (lv_room (Nat.le_of_ble_eq_true rfl)) ⟨Nat.zero_le _, Nat.zero_le _⟩ dm_PP_divide_80 (fun r σ9 H locs hp hW => ?_)
                      obtain ⟨hr, hp⟩ := hp
                      rw [hp] at hW
                      subst hr
                      exact hret _ _ _ _ _ _ dm_PP_divide_83 (Or.inr ⟨q0, d0, x0, y0, ⟨hq0, rfl⟩, ⟨hd0, rfl⟩, ⟨hx0, rfl⟩, ⟨hy0, rfl⟩, Or.inr ⟨by omega, by rw [(w2.2 _ (kd_rg hd0)).2], w2, ⟨e2.1, fun z => e2.2 (by omega)⟩, s2⟩⟩) hW
                    · exfalso
                      omega
                · exfalso
                  omega
              · subst hr
                refine wi_if_eq (tgt := 31) S (nn_T (by omega)) dm_PP_divide_26 (by decide) (fun hc => ?_) (fun hc => ?_)
                · exfalso
                  omega
                · refine lv_iconst (v := -1) hx hb dm_PP_divide_29 (by decide) ?_
                  exact hret _ _ _ _ _ _ dm_PP_divide_30 (Or.inl ⟨fun z => hno z.2.2.2, rfl, rfl⟩) hW
          · subst hr
            refine wi_if_ne (tgt := 29) S (nn_T (by omega)) dm_PP_divide_18 (by decide) (fun hc => ?_) (fun hc => ?_)
            · refine lv_iconst (v := -1) hx hb dm_PP_divide_29 (by decide) ?_
              exact hret _ _ _ _ _ _ dm_PP_divide_30 (Or.inl ⟨fun z => hno z.2.2.1, rfl, rfl⟩) hW
            · exfalso
              omega
      · subst hr
        refine wi_if_ne (tgt := 29) S (nn_T (by omega)) dm_PP_divide_11 (by decide) (fun hc => ?_) (fun hc => ?_)
        · refine lv_iconst (v := -1) hx hb dm_PP_divide_29 (by decide) ?_
          exact hret _ _ _ _ _ _ dm_PP_divide_30 (Or.inl ⟨fun z => hno z.2.1, rfl, rfl⟩) hW
        · exfalso
          omega
  · subst hr
    refine wi_if_ne (tgt := 29) S (nn_T (by omega)) dm_PP_divide_4 (by decide) (fun hc => ?_) (fun hc => ?_)
    · refine lv_iconst (v := -1) hx hb dm_PP_divide_29 (by decide) ?_
      exact hret _ _ _ _ _ _ dm_PP_divide_30 (Or.inl ⟨fun z => hno z.1, rfl, rfl⟩) hW
    · exfalso
      omega
theorem dm_PP_power_0 : decode bm_PP_power 0 = .ok (.iload_n 1, 1) := by decide +kernel
theorem dm_PP_power_1 : decode bm_PP_power 1 = .ok (.invokestatic 58, 3) := by decide +kernel
theorem dm_PP_power_4 : decode bm_PP_power 4 = .ok (.ifCond .ne 18, 3) := by decide +kernel
theorem dm_PP_power_7 : decode bm_PP_power 7 = .ok (.iload_n 2, 1) := by decide +kernel
theorem dm_PP_power_8 : decode bm_PP_power 8 = .ok (.invokestatic 58, 3) := by decide +kernel
theorem dm_PP_power_11 : decode bm_PP_power 11 = .ok (.ifCond .ne 11, 3) := by decide +kernel
theorem dm_PP_power_14 : decode bm_PP_power 14 = .ok (.iload 5, 2) := by decide +kernel
theorem dm_PP_power_16 : decode bm_PP_power 16 = .ok (.invokestatic 58, 3) := by decide +kernel
theorem dm_PP_power_19 : decode bm_PP_power 19 = .ok (.ifCond .eq 5, 3) := by decide +kernel
theorem dm_PP_power_22 : decode bm_PP_power 22 = .ok (.iconst (-1), 1) := by decide +kernel
theorem dm_PP_power_23 : decode bm_PP_power 23 = .ok (.ireturn, 1) := by decide +kernel
theorem dm_PP_power_24 : decode bm_PP_power 24 = .ok (.aload_n 0, 1) := by decide +kernel
theorem dm_PP_power_25 : decode bm_PP_power 25 = .ok (.getfield 49, 3) := by decide +kernel
theorem dm_PP_power_28 : decode bm_PP_power 28 = .ok (.iload 5, 2) := by decide +kernel
theorem dm_PP_power_30 : decode bm_PP_power 30 = .ok (.aaload, 1) := by decide +kernel
theorem dm_PP_power_31 : decode bm_PP_power 31 = .ok (.invokevirtual 100, 3) := by decide +kernel
theorem dm_PP_power_34 : decode bm_PP_power 34 = .ok (.ifCond .ne 9, 3) := by decide +kernel
theorem dm_PP_power_37 : decode bm_PP_power 37 = .ok (.lload_n 3, 1) := by decide +kernel
theorem dm_PP_power_38 : decode bm_PP_power 38 = .ok (.lconst 0, 1) := by decide +kernel
theorem dm_PP_power_39 : decode bm_PP_power 39 = .ok (.lcmp, 1) := by decide +kernel
theorem dm_PP_power_40 : decode bm_PP_power 40 = .ok (.ifCond .ge 5, 3) := by decide +kernel
theorem dm_PP_power_43 : decode bm_PP_power 43 = .ok (.iconst (-1), 1) := by decide +kernel
theorem dm_PP_power_44 : decode bm_PP_power 44 = .ok (.ireturn, 1) := by decide +kernel
theorem dm_PP_power_45 : decode bm_PP_power 45 = .ok (.aload_n 0, 1) := by decide +kernel
theorem dm_PP_power_46 : decode bm_PP_power 46 = .ok (.getfield 18, 3) := by decide +kernel
theorem dm_PP_power_49 : decode bm_PP_power 49 = .ok (.aload_n 0, 1) := by decide +kernel
theorem dm_PP_power_50 : decode bm_PP_power 50 = .ok (.getfield 49, 3) := by decide +kernel
theorem dm_PP_power_53 : decode bm_PP_power 53 = .ok (.iload_n 1, 1) := by decide +kernel
theorem dm_PP_power_54 : decode bm_PP_power 54 = .ok (.aaload, 1) := by decide +kernel
theorem dm_PP_power_55 : decode bm_PP_power 55 = .ok (.aload_n 0, 1) := by decide +kernel
theorem dm_PP_power_56 : decode bm_PP_power 56 = .ok (.getfield 49, 3) := by decide +kernel
theorem dm_PP_power_59 : decode bm_PP_power 59 = .ok (.iload_n 2, 1) := by decide +kernel
theorem dm_PP_power_60 : decode bm_PP_power 60 = .ok (.aaload, 1) := by decide +kernel
theorem dm_PP_power_61 : decode bm_PP_power 61 = .ok (.lload_n 3, 1) := by decide +kernel
theorem dm_PP_power_62 : decode bm_PP_power 62 = .ok (.aload_n 0, 1) := by decide +kernel
theorem dm_PP_power_63 : decode bm_PP_power 63 = .ok (.getfield 49, 3) := by decide +kernel
theorem dm_PP_power_66 : decode bm_PP_power 66 = .ok (.iload 5, 2) := by decide +kernel
theorem dm_PP_power_68 : decode bm_PP_power 68 = .ok (.aaload, 1) := by decide +kernel
theorem dm_PP_power_69 : decode bm_PP_power 69 = .ok (.invokevirtual 111, 3) := by decide +kernel
theorem dm_PP_power_72 : decode bm_PP_power 72 = .ok (.aload_n 0, 1) := by decide +kernel
theorem dm_PP_power_73 : decode bm_PP_power 73 = .ok (.iload_n 1, 1) := by decide +kernel
theorem dm_PP_power_74 : decode bm_PP_power 74 = .ok (.invokevirtual 85, 3) := by decide +kernel
theorem dm_PP_power_77 : decode bm_PP_power 77 = .ok (.ireturn, 1) := by decide +kernel
theorem lc_63 (z : Int64) : z.toInt.toNat < 2 ^ 63 := by
  have h := Int64.toInt_lt z
  omega
theorem lc_nat {z : Int64} (h : lN 0 ≤ z) : z = lN z.toInt.toNat := by
  have h1 : 0 ≤ z.toInt := by
    have h2 := Int64.le_iff_toInt_le.mp h
    rwa [lN_toInt (by decide)] at h2
  have h2 := lc_63 z
  refine Int64.toInt_inj.mp ?_
  unfold lN
  rw [lg_ofNat_toInt h2]
  omega
set_option maxHeartbeats 4000000 in
set_option maxRecDepth 100000 in
theorem mm_PP_power (l : Launch) (D : va_G) (k : ClassId × ClassId × ClassId) (g : Nat → Nat) (σ : st_T) {P : Nat} (hw : st_wf P σ) (hP : ag_pr P) (hP31 : P < 2147483648) (hrg : ∀ n, n < 8 → σ 200 (133 + 2 * n) ≤ 16) {d x y : Int32} {z0 : Int64} : mt_I l D k g ym_PP_power wm_PP_power rm_PP_power [.ref (g 0), .int d, .int x, .long z0, .int y] σ (fun r σ1 => (¬ (rk_r d ∧ rk_r x ∧ rk_r y) ∧ r = -1 ∧ σ1 = σ) ∨ ∃ d0 x0 y0, (d0 < 8 ∧ d = nI d0) ∧ (x0 < 8 ∧ x = nI x0) ∧ (y0 < 8 ∧ y = nI y0) ∧ (((sp_sz (σ (133 + 2 * y0)) 31 = 0 ∨ ¬ lN 0 ≤ z0) ∧ r = -1 ∧ σ1 = σ) ∨ (0 < sp_sz (σ (133 + 2 * y0)) 31 ∧ lN 0 ≤ z0 ∧ r = nI (sp_sz (σ1 (133 + 2 * d0)) 31) ∧ st_wf P σ1 ∧ sp_is P (σ (133 + 2 * y0)) (σ1 (133 + 2 * d0)) (pz_pw (pe_f (σ (133 + 2 * x0))) z0.toInt.toNat) ∧ st_sm [(133 + 2 * d0), 2, 4, 6, 12, 14, 16] σ σ1))) := by
  refine ct_I_in (cc := bm_PP_power) (maxL := 6) (by decide) rfl (Nat.le_of_ble_eq_true rfl) ?_
  intro p e s m args below meth c A ls Q S hl hW hret
  have S : pw_S p m c bm_PP_power 6 s args wa_g rc_PP D cl_s (ty_s k) := S
  have hx := S.1.1
  have hb := S.1.2.1
  have hl : lv_has ls 6 [(0, .ref (g (0))), (1, .int (d)), (2, .int (x)), (3, .long (z0)), (5, .int (y))] := hl
  have hP2 := hP.1
  refine lv_iload_n hx hb dm_PP_power_0 rfl (lv_at hl 1 rfl) ?_
  refine pw_callSI (rest := []) S hW (mm_PP_isNoRegister l D k g σ (x := d)) (cv_PP_58 S.1.2.2.2.2 ⟨by decide, by decide⟩) rfl hl.1 rfl (lv_room (Nat.le_of_ble_eq_true rfl)) ⟨Nat.zero_le _, Nat.zero_le _⟩ dm_PP_power_1 (fun r σ1 H locs hp hW => ?_)
  obtain ⟨hp, h9⟩ := hp
  rw [h9] at hW
  rcases hp with ⟨hr, d0, hd0, rfl⟩ | ⟨hr, hno⟩
  · subst hr
    have hl : lv_has ls 6 [(0, .ref (g (0))), (1, .int (nI (d0))), (2, .int (x)), (3, .long (z0)), (5, .int (y))] := hl
    refine wi_if_ne (tgt := 22) S (nn_T (by omega)) dm_PP_power_4 (by decide) (fun hc => ?_) (fun hc => ?_)
    · exfalso
      omega
    · refine lv_iload_n hx hb dm_PP_power_7 rfl (lv_at hl 2 rfl) ?_
      refine pw_callSI (rest := []) S hW (mm_PP_isNoRegister l D k g σ (x := x)) (cv_PP_58 S.1.2.2.2.2 ⟨by decide, by decide⟩) rfl hl.1 rfl (lv_room (Nat.le_of_ble_eq_true rfl)) ⟨Nat.zero_le _, Nat.zero_le _⟩ dm_PP_power_8 (fun r σ1 H locs hp hW => ?_)
      obtain ⟨hp, h9⟩ := hp
      rw [h9] at hW
      rcases hp with ⟨hr, x0, hx0, rfl⟩ | ⟨hr, hno⟩
      · subst hr
        have hl : lv_has ls 6 [(0, .ref (g (0))), (1, .int (nI (d0))), (2, .int (nI (x0))), (3, .long (z0)), (5, .int (y))] := hl
        refine wi_if_ne (tgt := 22) S (nn_T (by omega)) dm_PP_power_11 (by decide) (fun hc => ?_) (fun hc => ?_)
        · exfalso
          omega
        · refine lv_iload hx hb dm_PP_power_14 (lv_at hl 4 rfl) ?_
          refine pw_callSI (rest := []) S hW (mm_PP_isNoRegister l D k g σ (x := y)) (cv_PP_58 S.1.2.2.2.2 ⟨by decide, by decide⟩) rfl hl.1 rfl (lv_room (Nat.le_of_ble_eq_true rfl)) ⟨Nat.zero_le _, Nat.zero_le _⟩ dm_PP_power_16 (fun r σ1 H locs hp hW => ?_)
          obtain ⟨hp, h9⟩ := hp
          rw [h9] at hW
          rcases hp with ⟨hr, y0, hy0, rfl⟩ | ⟨hr, hno⟩
          · subst hr
            have hl : lv_has ls 6 [(0, .ref (g (0))), (1, .int (nI (d0))), (2, .int (nI (x0))), (3, .long (z0)), (5, .int (nI (y0)))] := hl
            refine wi_if_eq (tgt := 24) S (nn_T (by omega)) dm_PP_power_19 (by decide) (fun hc => ?_) (fun hc => ?_)
            · have hzy := (hw.2 _ (kd_rg hy0)).2
              have hy16 := hrg y0 hy0
              refine lv_aload_n hx hb dm_PP_power_24 rfl (lv_at hl 0 rfl) ?_
              refine pp_registers S hW (wa_in 249 (by decide +kernel) rfl) dm_PP_power_25 ?_
              refine lv_iload hx hb dm_PP_power_28 (lv_at hl 4 rfl) ?_
              refine ra_ald S hW (by omega) dm_PP_power_30 ?_
              refine pw_callVI (rest := []) S hW (mm_Poly_isZero l D k g σ (kd_rg hy0) (by omega)) (cv_PP_100 S.1.2.2.2.2 ⟨by decide, by decide⟩) (kd_p1 (kd_rg (r := y0) (by omega))) (en_k0 (kd_rg (r := y0) (by omega))) rfl rfl hl.1 rfl (lv_room (Nat.le_of_ble_eq_true rfl)) ⟨Nat.zero_le _, Nat.zero_le _⟩ dm_PP_power_31 (fun r σ1 H locs hp hW => ?_)
              obtain ⟨hr, hp⟩ := hp
              rw [hp] at hW
              subst hr
              by_cases hz : σ 200 (133 + 2 * y0) = 0
              · rw [if_pos hz]
                refine wi_if_ne (tgt := 43) S (nn_T (by omega)) dm_PP_power_34 (by decide) (fun hc => ?_) (fun hc => ?_)
                · refine lv_iconst (v := -1) hx hb dm_PP_power_43 (by decide) ?_
                  exact hret _ _ _ _ _ _ dm_PP_power_44 (Or.inr ⟨d0, x0, y0, ⟨hd0, rfl⟩, ⟨hx0, rfl⟩, ⟨hy0, rfl⟩, Or.inl ⟨Or.inl (by omega), rfl, rfl⟩⟩) hW
                · exfalso
                  omega
              · rw [if_neg hz]
                refine wi_if_ne (tgt := 43) S (nn_T (by omega)) dm_PP_power_34 (by decide) (fun hc => ?_) (fun hc => ?_)
                · exfalso
                  omega
                · refine lv_lload_n hx hb dm_PP_power_37 rfl (lv_at hl 3 rfl) ?_
                  refine lv_lconst (v := lN (0)) hx hb dm_PP_power_38 (by decide) ?_
                  refine W.lcmp hx hb dm_PP_power_39 ?_
                  refine lv_if_ge (tgt := 45) hx hb dm_PP_power_40 (by decide) (fun hc => ?_) (fun hc => ?_)
                  · have hc := (lg_cmp_ge _ _).mp hc
                    have hz63 : z0.toInt.toNat < 2 ^ 63 := lc_63 z0
                    rw [show (Value.long z0) = .long (lN z0.toInt.toNat) from congrArg _ (lc_nat hc)] at hl
                    have hl : lv_has ls 6 [(0, .ref (g (0))), (1, .int (nI (d0))), (2, .int (nI (x0))), (3, .long (lN (z0.toInt.toNat))), (5, .int (nI (y0)))] := hl
                    refine lv_aload_n hx hb dm_PP_power_45 rfl (lv_at hl 0 rfl) ?_
                    refine pp_ring S hW (wa_in 245 (by decide +kernel) rfl) dm_PP_power_46 ?_
                    refine lv_aload_n hx hb dm_PP_power_49 rfl (lv_at hl 0 rfl) ?_
                    refine pp_registers S hW (wa_in 249 (by decide +kernel) rfl) dm_PP_power_50 ?_
                    refine lv_iload_n hx hb dm_PP_power_53 rfl (lv_at hl 1 rfl) ?_
                    refine ra_ald S hW (by omega) dm_PP_power_54 ?_
                    refine lv_aload_n hx hb dm_PP_power_55 rfl (lv_at hl 0 rfl) ?_
                    refine pp_registers S hW (wa_in 249 (by decide +kernel) rfl) dm_PP_power_56 ?_
                    refine lv_iload_n hx hb dm_PP_power_59 rfl (lv_at hl 2 rfl) ?_
                    refine ra_ald S hW (by omega) dm_PP_power_60 ?_
                    refine lv_lload_n hx hb dm_PP_power_61 rfl (lv_at hl 3 rfl) ?_
                    refine lv_aload_n hx hb dm_PP_power_62 rfl (lv_at hl 0 rfl) ?_
                    refine pp_registers S hW (wa_in 249 (by decide +kernel) rfl) dm_PP_power_63 ?_
                    refine lv_iload hx hb dm_PP_power_66 (lv_at hl 4 rfl) ?_
                    refine ra_ald S hW (by omega) dm_PP_power_68 ?_
                    refine pw_callV (rest := []) S hW (mm_Ring_powerInto l D k g σ hw hP hP31 (kd_rg hd0) (kd_rg hx0) (kd_rg hy0) (by omega) (by omega) (by omega) (by omega) (by omega) hz63) (cv_PP_111 S.1.2.2.2.2 ⟨by decide, by decide⟩) (by decide) en_Ring rfl rfl hl.1 rfl (lv_room (Nat.le_of_ble_eq_true rfl)) ⟨Nat.zero_le _, Nat.zero_le _⟩ dm_PP_power_69 (fun σ2 H locs hp2 hW => ?_)
                    obtain ⟨w2, e2, s2⟩ := hp2
                    refine lv_aload_n hx hb dm_PP_power_72 rfl (lv_at hl 0 rfl) ?_
                    refine lv_iload_n hx hb dm_PP_power_73 rfl (lv_at hl 1 rfl) ?_
                    refine pw_callVI (rest := []) S hW (mm_PP_sizeOf l D k g σ2 (n := d0) hd0) (cv_PP_85 S.1.2.2.2.2 ⟨by decide, by decide⟩) (by decide) en_PP rfl rfl hl.1 rfl (lv_room (Nat.le_of_ble_eq_true rfl)) ⟨Nat.zero_le _, Nat.zero_le _⟩ dm_PP_power_74 (fun r σ9 H locs hp hW => ?_)
                    obtain ⟨hr, hp⟩ := hp
                    rw [hp] at hW
                    subst hr
                    exact hret _ _ _ _ _ _ dm_PP_power_77 (Or.inr ⟨d0, x0, y0, ⟨hd0, rfl⟩, ⟨hx0, rfl⟩, ⟨hy0, rfl⟩, Or.inr ⟨by omega, hc, by rw [(w2.2 _ (kd_rg hd0)).2], w2, e2, s2⟩⟩) hW
                  · have hc : ¬ lN 0 ≤ z0 := fun z => hc ((lg_cmp_ge _ _).mpr z)
                    refine lv_iconst (v := -1) hx hb dm_PP_power_43 (by decide) ?_
                    exact hret _ _ _ _ _ _ dm_PP_power_44 (Or.inr ⟨d0, x0, y0, ⟨hd0, rfl⟩, ⟨hx0, rfl⟩, ⟨hy0, rfl⟩, Or.inl ⟨Or.inr hc, rfl, rfl⟩⟩) hW
            · exfalso
              omega
          · subst hr
            refine wi_if_eq (tgt := 24) S (nn_T (by omega)) dm_PP_power_19 (by decide) (fun hc => ?_) (fun hc => ?_)
            · exfalso
              omega
            · refine lv_iconst (v := -1) hx hb dm_PP_power_22 (by decide) ?_
              exact hret _ _ _ _ _ _ dm_PP_power_23 (Or.inl ⟨fun z => hno z.2.2, rfl, rfl⟩) hW
      · subst hr
        refine wi_if_ne (tgt := 22) S (nn_T (by omega)) dm_PP_power_11 (by decide) (fun hc => ?_) (fun hc => ?_)
        · refine lv_iconst (v := -1) hx hb dm_PP_power_22 (by decide) ?_
          exact hret _ _ _ _ _ _ dm_PP_power_23 (Or.inl ⟨fun z => hno z.2.1, rfl, rfl⟩) hW
        · exfalso
          omega
  · subst hr
    refine wi_if_ne (tgt := 22) S (nn_T (by omega)) dm_PP_power_4 (by decide) (fun hc => ?_) (fun hc => ?_)
    · refine lv_iconst (v := -1) hx hb dm_PP_power_22 (by decide) ?_
      exact hret _ _ _ _ _ _ dm_PP_power_23 (Or.inl ⟨fun z => hno z.1, rfl, rfl⟩) hW
    · exfalso
      omega
