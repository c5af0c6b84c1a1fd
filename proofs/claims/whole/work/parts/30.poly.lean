/-! Arrays.fill and the methods of Polynomial -/
theorem sd_m1 (n : Nat) : sd_i (n + 1) + Int32.ofInt (-1) = sd_i n := by
  rw [sd_s, show Int32.ofInt (-1) = -1 by decide]
  show nI n + -1 = nI n - 1
  rw [Int32.sub_eq_add_neg]
theorem sd_n {n : Nat} (h : 0 < n) : sd_i n = nI (n - 1) := by
  obtain ⟨q, rfl⟩ : ∃ q, n = q + 1 := ⟨n - 1, by omega⟩
  rw [sd_s, Nat.add_sub_cancel]
/-- the coefficient at the degree -/
def st_ld (σ : st_T) (j : Nat) : Nat := if σ 200 j = 0 then 0 else σ j (σ 200 j - 1)
theorem st_ld_lt {σ : st_T} {j : Nat} (h : ∀ i, σ j i < 2147483648) : st_ld σ j < 2147483648 := by
  unfold st_ld
  split
  · omega
  · exact h _
theorem dm_Arrays_fill_0 : decode bm_Arrays_fill 0 = .ok (.iconst 0, 1) := by decide +kernel
theorem dm_Arrays_fill_1 : decode bm_Arrays_fill 1 = .ok (.istore_n 2, 1) := by decide +kernel
theorem dm_Arrays_fill_2 : decode bm_Arrays_fill 2 = .ok (.aload_n 0, 1) := by decide +kernel
theorem dm_Arrays_fill_3 : decode bm_Arrays_fill 3 = .ok (.arraylength, 1) := by decide +kernel
theorem dm_Arrays_fill_4 : decode bm_Arrays_fill 4 = .ok (.istore_n 3, 1) := by decide +kernel
theorem dm_Arrays_fill_5 : decode bm_Arrays_fill 5 = .ok (.iload_n 2, 1) := by decide +kernel
theorem dm_Arrays_fill_6 : decode bm_Arrays_fill 6 = .ok (.iload_n 3, 1) := by decide +kernel
theorem dm_Arrays_fill_7 : decode bm_Arrays_fill 7 = .ok (.if_icmp .ge 13, 3) := by decide +kernel
theorem dm_Arrays_fill_10 : decode bm_Arrays_fill 10 = .ok (.aload_n 0, 1) := by decide +kernel
theorem dm_Arrays_fill_11 : decode bm_Arrays_fill 11 = .ok (.iload_n 2, 1) := by decide +kernel
theorem dm_Arrays_fill_12 : decode bm_Arrays_fill 12 = .ok (.iload_n 1, 1) := by decide +kernel
theorem dm_Arrays_fill_13 : decode bm_Arrays_fill 13 = .ok (.iastore, 1) := by decide +kernel
theorem dm_Arrays_fill_14 : decode bm_Arrays_fill 14 = .ok (.iinc 2 1, 3) := by decide +kernel
theorem dm_Arrays_fill_17 : decode bm_Arrays_fill 17 = .ok (.goto (-12), 3) := by decide +kernel
theorem dm_Arrays_fill_20 : decode bm_Arrays_fill 20 = .ok (.return_, 1) := by decide +kernel
set_option maxHeartbeats 4000000 in
set_option maxRecDepth 100000 in
theorem mm_Arrays_fill (l : Launch) (D : va_G) (k : ClassId × ClassId × ClassId) (g : Nat → Nat) (σ : st_T) {j v : Nat} (hj : kd_k j = 0) : mt_V l D k g ym_Arrays_fill wm_Arrays_fill rm_Arrays_fill [.ref (g (j + 1)), .int (nI v)] σ (fun σ1 => σ1 = st_fl σ j 31 v) := by
  refine ct_V_in (cc := bm_Arrays_fill) (maxL := 4) (by decide) rfl (Nat.le_of_ble_eq_true rfl) ?_
  intro p e s m args below meth c A ls Q S hl hW hret
  have S : pw_S p m c bm_Arrays_fill 4 s args wa_g rc_Arrays D cl_s (ty_s k) := S
  have hx := S.1.1
  have hb := S.1.2.1
  have hl : lv_has ls 4 [(0, .ref (g (j + 1))), (1, .int (nI (v)))] := hl
  refine lv_iconst (v := nI (0)) hx hb dm_Arrays_fill_0 (by decide) ?_
  refine lv_istore_n hx hb dm_Arrays_fill_1 rfl hl (by decide) rfl (fun ls hl => ?_)
  have hl : lv_has ls 4 [(2, .int (nI (0))), (0, .ref (g (j + 1))), (1, .int (nI (v)))] := hl
  refine lv_aload_n hx hb dm_Arrays_fill_2 rfl (lv_at hl 1 rfl) ?_
  refine pw_alen (v := nI 31) S hW 0 rfl (j + 1) (kd_p2 hj) (en_ar hj) rfl dm_Arrays_fill_3 ?_
  refine lv_istore_n hx hb dm_Arrays_fill_4 rfl hl (by decide) rfl (fun ls hl => ?_)
  have hl : lv_has ls 4 [(3, .int (nI (31))), (2, .int (nI (0))), (0, .ref (g (j + 1))), (1, .int (nI (v)))] := hl
  have hl : lv_has ls 4 [(2, .int (nI (0))), (3, .int (nI (31))), (0, .ref (g (j + 1))), (1, .int (nI (v)))] := lv_sub hl [1, 0, 2, 3] rfl
  have loop : ∀ d i, i + d = 31 → ∀ (ls : Array Slot) (H : Heap) (locs : List Loc), lv_has ls 4 [(2, .int (nI (i))), (3, .int (nI (31))), (0, .ref (g (j + 1))), (1, .int (nI (v)))] → pw_H D cl_s A s.heap g 153 (en_s k g (st_fl σ j i v)) H locs → W p l e rm_Arrays_fill s m args below meth c H locs 0 0 Q (F0 m 5 ls []) := by
    intro d
    induction d with
    | zero =>
      intro i hi ls H locs hl hW
      refine lv_iload_n hx hb dm_Arrays_fill_5 rfl (lv_at hl 0 rfl) ?_
      refine lv_iload_n hx hb dm_Arrays_fill_6 rfl (lv_at hl 1 rfl) ?_
      refine wi_icmp_ge (tgt := 20) S (nn_T (by omega)) (nn_T (by omega)) dm_Arrays_fill_7 (by decide) (fun hc => ?_) (fun hc => ?_)
      · have hi : i = 31 := by omega
        subst hi
        exact hret _ _ _ _ _ dm_Arrays_fill_20 rfl hW
      · exfalso
        omega
    | succ d ih =>
      intro i hi ls H locs hl hW
      refine lv_iload_n hx hb dm_Arrays_fill_5 rfl (lv_at hl 0 rfl) ?_
      refine lv_iload_n hx hb dm_Arrays_fill_6 rfl (lv_at hl 1 rfl) ?_
      refine wi_icmp_ge (tgt := 20) S (nn_T (by omega)) (nn_T (by omega)) dm_Arrays_fill_7 (by decide) (fun hc => ?_) (fun hc => ?_)
      · exfalso
        omega
      · refine lv_aload_n hx hb dm_Arrays_fill_10 rfl (lv_at hl 2 rfl) ?_
        refine lv_iload_n hx hb dm_Arrays_fill_11 rfl (lv_at hl 0 rfl) ?_
        refine lv_iload_n hx hb dm_Arrays_fill_12 rfl (lv_at hl 3 rfl) ?_
        refine po_ast S hW hj (by omega) dm_Arrays_fill_13 (fun H locs hW => ?_)
        refine lv_iinc (k := 0) (v := nI (i + 1)) hx hb dm_Arrays_fill_14 hl rfl (by rw [show Int32.ofInt 1 = nI 1 from rfl, nI_add]) (by decide) rfl (fun ls hl => ?_)
        have hl : lv_has ls 4 [(2, .int (nI (i + 1))), (3, .int (nI (31))), (0, .ref (g (j + 1))), (1, .int (nI (v)))] := hl
        refine lv_goto (tgt := 5) hx hb dm_Arrays_fill_17 (by decide) ?_
        refine ih (i + 1) (by omega) ls H locs hl ?_
        rw [← st_fl_s]
        exact hW
  refine loop 31 0 (by omega) ls _ _ hl ?_
  rw [st_fl_0]
  exact hW
theorem dm_Poly_isZero_0 : decode bm_Poly_isZero 0 = .ok (.aload_n 0, 1) := by decide +kernel
theorem dm_Poly_isZero_1 : decode bm_Poly_isZero 1 = .ok (.getfield 15, 3) := by decide +kernel
theorem dm_Poly_isZero_4 : decode bm_Poly_isZero 4 = .ok (.ifCond .ge 7, 3) := by decide +kernel
theorem dm_Poly_isZero_7 : decode bm_Poly_isZero 7 = .ok (.iconst 1, 1) := by decide +kernel
theorem dm_Poly_isZero_8 : decode bm_Poly_isZero 8 = .ok (.goto 4, 3) := by decide +kernel
theorem dm_Poly_isZero_11 : decode bm_Poly_isZero 11 = .ok (.iconst 0, 1) := by decide +kernel
theorem dm_Poly_isZero_12 : decode bm_Poly_isZero 12 = .ok (.ireturn, 1) := by decide +kernel
set_option maxHeartbeats 4000000 in
set_option maxRecDepth 100000 in
theorem mm_Poly_isZero (l : Launch) (D : va_G) (k : ClassId × ClassId × ClassId) (g : Nat → Nat) (σ : st_T) {j : Nat} (hj : kd_k j = 0) (hs : σ 200 j ≤ 31) : mt_I l D k g ym_Poly_isZero wm_Poly_isZero rm_Poly_isZero [.ref (g j)] σ (fun r σ1 => r = nI (if σ 200 j = 0 then 1 else 0) ∧ σ1 = σ) := by
  refine ct_Z_in (cc := bm_Poly_isZero) (maxL := 1) (by decide) rfl (Nat.le_of_ble_eq_true rfl) ?_
  intro p e s m args below meth c A ls Q S hl hW hret
  have S : pw_S p m c bm_Poly_isZero 1 s args wa_g rc_Poly D cl_s (ty_s k) := S
  have hx := S.1.1
  have hb := S.1.2.1
  have hl : lv_has ls 1 [(0, .ref (g (j)))] := hl
  refine lv_aload_n hx hb dm_Poly_isZero_0 rfl (lv_at hl 0 rfl) ?_
  refine po_getd S hW hj (wa_in 46 (by decide +kernel) rfl) dm_Poly_isZero_1 ?_
  refine wi_if_ge (tgt := 11) S (sd_T (by omega)) dm_Poly_isZero_4 (by decide) (fun hc => ?_) (fun hc => ?_)
  · refine lv_iconst (v := nI (0)) hx hb dm_Poly_isZero_11 (by decide) ?_
    exact hret _ _ _ _ _ _ dm_Poly_isZero_12 (by decide) ⟨by rw [if_neg (by omega)], rfl⟩ hW
  · refine lv_iconst (v := nI (1)) hx hb dm_Poly_isZero_7 (by decide) ?_
    refine lv_goto (tgt := 12) hx hb dm_Poly_isZero_8 (by decide) ?_
    exact hret _ _ _ _ _ _ dm_Poly_isZero_12 (by decide) ⟨by rw [if_pos (by omega)], rfl⟩ hW
theorem dm_Poly_lead_0 : decode bm_Poly_lead 0 = .ok (.aload_n 0, 1) := by decide +kernel
theorem dm_Poly_lead_1 : decode bm_Poly_lead 1 = .ok (.getfield 15, 3) := by decide +kernel
theorem dm_Poly_lead_4 : decode bm_Poly_lead 4 = .ok (.ifCond .ge 7, 3) := by decide +kernel
theorem dm_Poly_lead_7 : decode bm_Poly_lead 7 = .ok (.iconst 0, 1) := by decide +kernel
theorem dm_Poly_lead_8 : decode bm_Poly_lead 8 = .ok (.goto 12, 3) := by decide +kernel
theorem dm_Poly_lead_11 : decode bm_Poly_lead 11 = .ok (.aload_n 0, 1) := by decide +kernel
theorem dm_Poly_lead_12 : decode bm_Poly_lead 12 = .ok (.getfield 9, 3) := by decide +kernel
theorem dm_Poly_lead_15 : decode bm_Poly_lead 15 = .ok (.aload_n 0, 1) := by decide +kernel
theorem dm_Poly_lead_16 : decode bm_Poly_lead 16 = .ok (.getfield 15, 3) := by decide +kernel
theorem dm_Poly_lead_19 : decode bm_Poly_lead 19 = .ok (.iaload, 1) := by decide +kernel
theorem dm_Poly_lead_20 : decode bm_Poly_lead 20 = .ok (.ireturn, 1) := by decide +kernel
set_option maxHeartbeats 4000000 in
set_option maxRecDepth 100000 in
theorem mm_Poly_lead (l : Launch) (D : va_G) (k : ClassId × ClassId × ClassId) (g : Nat → Nat) (σ : st_T) {j : Nat} (hj : kd_k j = 0) (hs : σ 200 j ≤ 31) : mt_I l D k g ym_Poly_lead wm_Poly_lead rm_Poly_lead [.ref (g j)] σ (fun r σ1 => r = nI (st_ld σ j) ∧ σ1 = σ) := by
  refine ct_I_in (cc := bm_Poly_lead) (maxL := 1) (by decide) rfl (Nat.le_of_ble_eq_true rfl) ?_
  intro p e s m args below meth c A ls Q S hl hW hret
  have S : pw_S p m c bm_Poly_lead 1 s args wa_g rc_Poly D cl_s (ty_s k) := S
  have hx := S.1.1
  have hb := S.1.2.1
  have hl : lv_has ls 1 [(0, .ref (g (j)))] := hl
  refine lv_aload_n hx hb dm_Poly_lead_0 rfl (lv_at hl 0 rfl) ?_
  refine po_getd S hW hj (wa_in 46 (by decide +kernel) rfl) dm_Poly_lead_1 ?_
  refine wi_if_ge (tgt := 11) S (sd_T (by omega)) dm_Poly_lead_4 (by decide) (fun hc => ?_) (fun hc => ?_)
  · refine lv_aload_n hx hb dm_Poly_lead_11 rfl (lv_at hl 0 rfl) ?_
    refine po_getc S hW hj (wa_in 40 (by decide +kernel) rfl) dm_Poly_lead_12 ?_
    refine lv_aload_n hx hb dm_Poly_lead_15 rfl (lv_at hl 0 rfl) ?_
    refine po_getd S hW hj (wa_in 46 (by decide +kernel) rfl) dm_Poly_lead_16 ?_
    rw [sd_n (show 0 < σ 200 (j) by omega)]
    refine po_ald S hW hj (by omega) dm_Poly_lead_19 ?_
    exact hret _ _ _ _ _ _ dm_Poly_lead_20 ⟨by unfold st_ld; rw [if_neg (by omega)], rfl⟩ hW
  · refine lv_iconst (v := nI (0)) hx hb dm_Poly_lead_7 (by decide) ?_
    refine lv_goto (tgt := 20) hx hb dm_Poly_lead_8 (by decide) ?_
    exact hret _ _ _ _ _ _ dm_Poly_lead_20 ⟨by unfold st_ld; rw [if_pos (by omega)], rfl⟩ hW
theorem dm_Poly_isMonic_0 : decode bm_Poly_isMonic 0 = .ok (.aload_n 0, 1) := by decide +kernel
theorem dm_Poly_isMonic_1 : decode bm_Poly_isMonic 1 = .ok (.invokevirtual 19, 3) := by decide +kernel
theorem dm_Poly_isMonic_4 : decode bm_Poly_isMonic 4 = .ok (.iconst 1, 1) := by decide +kernel
theorem dm_Poly_isMonic_5 : decode bm_Poly_isMonic 5 = .ok (.if_icmp .ne 7, 3) := by decide +kernel
theorem dm_Poly_isMonic_8 : decode bm_Poly_isMonic 8 = .ok (.iconst 1, 1) := by decide +kernel
theorem dm_Poly_isMonic_9 : decode bm_Poly_isMonic 9 = .ok (.goto 4, 3) := by decide +kernel
theorem dm_Poly_isMonic_12 : decode bm_Poly_isMonic 12 = .ok (.iconst 0, 1) := by decide +kernel
theorem dm_Poly_isMonic_13 : decode bm_Poly_isMonic 13 = .ok (.ireturn, 1) := by decide +kernel
set_option maxHeartbeats 4000000 in
set_option maxRecDepth 100000 in
theorem mm_Poly_isMonic (l : Launch) (D : va_G) (k : ClassId × ClassId × ClassId) (g : Nat → Nat) (σ : st_T) {j : Nat} (hj : kd_k j = 0) (hs : σ 200 j ≤ 31) (hv : ∀ i, σ j i < 2147483648) : mt_I l D k g ym_Poly_isMonic wm_Poly_isMonic rm_Poly_isMonic [.ref (g j)] σ (fun r σ1 => r = nI (if st_ld σ j = 1 then 1 else 0) ∧ σ1 = σ) := by
  refine ct_Z_in (cc := bm_Poly_isMonic) (maxL := 1) (by decide) rfl (Nat.le_of_ble_eq_true rfl) ?_
  intro p e s m args below meth c A ls Q S hl hW hret
  have S : pw_S p m c bm_Poly_isMonic 1 s args wa_g rc_Poly D cl_s (ty_s k) := S
  have hx := S.1.1
  have hb := S.1.2.1
  have hl : lv_has ls 1 [(0, .ref (g (j)))] := hl
  refine lv_aload_n hx hb dm_Poly_isMonic_0 rfl (lv_at hl 0 rfl) ?_
  refine pw_callVI (rest := []) S hW (mm_Poly_lead l D k g σ hj hs) (cv_Poly_19 S.1.2.2.2.2 ⟨by decide, by decide⟩) (kd_p1 hj) (en_k0 hj) rfl rfl hl.1 rfl (lv_room (Nat.le_of_ble_eq_true rfl)) ⟨Nat.zero_le _, Nat.zero_le _⟩ dm_Poly_isMonic_1 (fun r σ1 H locs hp hW => ?_)
  obtain ⟨hr, hp⟩ := hp
  rw [hp] at hW
  subst hr
  have hlt := st_ld_lt hv
  refine lv_iconst (v := nI (1)) hx hb dm_Poly_isMonic_4 (by decide) ?_
  refine wi_icmp_ne (tgt := 12) S (nn_T (by omega)) (nn_T (by omega)) dm_Poly_isMonic_5 (by decide) (fun hc => ?_) (fun hc => ?_)
  · refine lv_iconst (v := nI (0)) hx hb dm_Poly_isMonic_12 (by decide) ?_
    exact hret _ _ _ _ _ _ dm_Poly_isMonic_13 (by decide) ⟨by rw [if_neg (by omega)], rfl⟩ hW
  · refine lv_iconst (v := nI (1)) hx hb dm_Poly_isMonic_8 (by decide) ?_
    refine lv_goto (tgt := 13) hx hb dm_Poly_isMonic_9 (by decide) ?_
    exact hret _ _ _ _ _ _ dm_Poly_isMonic_13 (by decide) ⟨by rw [if_pos (by omega)], rfl⟩ hW
theorem dm_Poly_settle_0 : decode bm_Poly_settle 0 = .ok (.bipush 30, 2) := by decide +kernel
theorem dm_Poly_settle_2 : decode bm_Poly_settle 2 = .ok (.istore_n 1, 1) := by decide +kernel
theorem dm_Poly_settle_3 : decode bm_Poly_settle 3 = .ok (.iload_n 1, 1) := by decide +kernel
theorem dm_Poly_settle_4 : decode bm_Poly_settle 4 = .ok (.ifCond .lt 18, 3) := by decide +kernel
theorem dm_Poly_settle_7 : decode bm_Poly_settle 7 = .ok (.aload_n 0, 1) := by decide +kernel
theorem dm_Poly_settle_8 : decode bm_Poly_settle 8 = .ok (.getfield 9, 3) := by decide +kernel
theorem dm_Poly_settle_11 : decode bm_Poly_settle 11 = .ok (.iload_n 1, 1) := by decide +kernel
theorem dm_Poly_settle_12 : decode bm_Poly_settle 12 = .ok (.iaload, 1) := by decide +kernel
theorem dm_Poly_settle_13 : decode bm_Poly_settle 13 = .ok (.ifCond .ne 9, 3) := by decide +kernel
theorem dm_Poly_settle_16 : decode bm_Poly_settle 16 = .ok (.iinc 1 (-1), 3) := by decide +kernel
theorem dm_Poly_settle_19 : decode bm_Poly_settle 19 = .ok (.goto (-16), 3) := by decide +kernel
theorem dm_Poly_settle_22 : decode bm_Poly_settle 22 = .ok (.aload_n 0, 1) := by decide +kernel
theorem dm_Poly_settle_23 : decode bm_Poly_settle 23 = .ok (.iload_n 1, 1) := by decide +kernel
theorem dm_Poly_settle_24 : decode bm_Poly_settle 24 = .ok (.putfield 15, 3) := by decide +kernel
theorem dm_Poly_settle_27 : decode bm_Poly_settle 27 = .ok (.return_, 1) := by decide +kernel
set_option maxHeartbeats 4000000 in
set_option maxRecDepth 100000 in
theorem mm_Poly_settle (l : Launch) (D : va_G) (k : ClassId × ClassId × ClassId) (g : Nat → Nat) (σ : st_T) {j : Nat} (hj : kd_k j = 0) (hv : ∀ i, σ j i < 2147483648) : mt_V l D k g ym_Poly_settle wm_Poly_settle rm_Poly_settle [.ref (g j)] σ (fun σ1 => σ1 = st_up σ 200 j (sp_sz (σ j) 31)) := by
  refine ct_V_in (cc := bm_Poly_settle) (maxL := 2) (by decide) rfl (Nat.le_of_ble_eq_true rfl) ?_
  intro p e s m args below meth c A ls Q S hl hW hret
  have S : pw_S p m c bm_Poly_settle 2 s args wa_g rc_Poly D cl_s (ty_s k) := S
  have hx := S.1.1
  have hb := S.1.2.1
  have hl : lv_has ls 2 [(0, .ref (g (j)))] := hl
  refine lv_bipush (v := nI (30)) hx hb dm_Poly_settle_0 (by decide) ?_
  refine lv_istore_n hx hb dm_Poly_settle_2 rfl hl (by decide) rfl (fun ls hl => ?_)
  have hl : lv_has ls 2 [(1, .int (nI (30))), (0, .ref (g (j)))] := hl
  have hl : lv_has ls 2 [(1, .int (sd_i 31)), (0, .ref (g (j)))] := by
    rw [sd_s]
    exact hl
  have fin : ∀ n, sp_sz (σ j) 31 = n → ∀ (ls : Array Slot), lv_has ls 2 [(1, .int (sd_i (n))), (0, .ref (g (j)))] → W p l e rm_Poly_settle s m args below meth c s.heap [] 0 0 Q (F0 m 22 ls []) := by
    intro n hn ls hl
    refine lv_aload_n hx hb dm_Poly_settle_22 rfl (lv_at hl 1 rfl) ?_
    refine lv_iload_n hx hb dm_Poly_settle_23 rfl (lv_at hl 0 rfl) ?_
    refine po_putd S hW hj (wa_in 46 (by decide +kernel) rfl) dm_Poly_settle_24 (fun H locs hW => ?_)
    exact hret _ _ _ _ _ dm_Poly_settle_27 (by rw [hn]) hW
  have loop : ∀ n, n ≤ 31 → sp_sz (σ j) 31 = sp_sz (σ j) n → ∀ (ls : Array Slot), lv_has ls 2 [(1, .int (sd_i (n))), (0, .ref (g (j)))] → W p l e rm_Poly_settle s m args below meth c s.heap [] 0 0 Q (F0 m 3 ls []) := by
    intro n
    induction n with
    | zero =>
      intro hn hz ls hl
      refine lv_iload_n hx hb dm_Poly_settle_3 rfl (lv_at hl 0 rfl) ?_
      refine wi_if_lt (tgt := 22) S (sd_T (by omega)) dm_Poly_settle_4 (by decide) (fun hc => ?_) (fun hc => ?_)
      · exact fin 0 hz ls hl
      · exfalso
        omega
    | succ n ih =>
      intro hn hz ls hl
      refine lv_iload_n hx hb dm_Poly_settle_3 rfl (lv_at hl 0 rfl) ?_
      refine wi_if_lt (tgt := 22) S (sd_T (by omega)) dm_Poly_settle_4 (by decide) (fun hc => ?_) (fun hc => ?_)
      · exfalso
        omega
      · refine lv_aload_n hx hb dm_Poly_settle_7 rfl (lv_at hl 1 rfl) ?_
        refine po_getc S hW hj (wa_in 40 (by decide +kernel) rfl) dm_Poly_settle_8 ?_
        refine lv_iload_n hx hb dm_Poly_settle_11 rfl (lv_at hl 0 rfl) ?_
        rw [sd_n (show 0 < n + 1 by omega)]
        rw [Nat.add_sub_cancel]
        refine po_ald S hW hj (by omega) dm_Poly_settle_12 ?_
        have hvn := hv n
        refine wi_if_ne (tgt := 22) S (nn_T (by omega)) dm_Poly_settle_13 (by decide) (fun hc => ?_) (fun hc => ?_)
        · refine fin (n + 1) ?_ ls hl
          rw [hz, sp_sz_s, if_neg (by omega)]
        · refine lv_iinc (k := 0) (v := sd_i n) hx hb dm_Poly_settle_16 hl rfl (sd_m1 n) (by decide) rfl (fun ls hl => ?_)
          have hl : lv_has ls 2 [(1, .int (sd_i (n))), (0, .ref (g (j)))] := hl
          refine lv_goto (tgt := 3) hx hb dm_Poly_settle_19 (by decide) ?_
          exact ih (by omega) (by rw [hz, sp_sz_s, if_pos (by omega)]) ls hl
  exact loop 31 (Nat.le_refl _) rfl ls hl
theorem dm_Poly_put_0 : decode bm_Poly_put 0 = .ok (.aload_n 0, 1) := by decide +kernel
theorem dm_Poly_put_1 : decode bm_Poly_put 1 = .ok (.getfield 9, 3) := by decide +kernel
theorem dm_Poly_put_4 : decode bm_Poly_put 4 = .ok (.iload_n 1, 1) := by decide +kernel
theorem dm_Poly_put_5 : decode bm_Poly_put 5 = .ok (.iload_n 2, 1) := by decide +kernel
theorem dm_Poly_put_6 : decode bm_Poly_put 6 = .ok (.iastore, 1) := by decide +kernel
theorem dm_Poly_put_7 : decode bm_Poly_put 7 = .ok (.aload_n 0, 1) := by decide +kernel
theorem dm_Poly_put_8 : decode bm_Poly_put 8 = .ok (.invokevirtual 29, 3) := by decide +kernel
theorem dm_Poly_put_11 : decode bm_Poly_put 11 = .ok (.return_, 1) := by decide +kernel
set_option maxHeartbeats 4000000 in
set_option maxRecDepth 100000 in
theorem mm_Poly_put (l : Launch) (D : va_G) (k : ClassId × ClassId × ClassId) (g : Nat → Nat) (σ : st_T) {j n v : Nat} (hj : kd_k j = 0) (hn : n < 31) (hv : ∀ i, σ j i < 2147483648) (hw : v < 2147483648) : mt_V l D k g ym_Poly_put wm_Poly_put rm_Poly_put [.ref (g j), .int (nI n), .int (nI v)] σ (fun σ1 => σ1 = st_up (st_up σ j n v) 200 j (sp_sz (va_up (σ j) n v) 31)) := by
  refine ct_V_in (cc := bm_Poly_put) (maxL := 3) (by decide) rfl (Nat.le_of_ble_eq_true rfl) ?_
  intro p e s m args below meth c A ls Q S hl hW hret
  have S : pw_S p m c bm_Poly_put 3 s args wa_g rc_Poly D cl_s (ty_s k) := S
  have hx := S.1.1
  have hb := S.1.2.1
  have hl : lv_has ls 3 [(0, .ref (g (j))), (1, .int (nI (n))), (2, .int (nI (v)))] := hl
  refine lv_aload_n hx hb dm_Poly_put_0 rfl (lv_at hl 0 rfl) ?_
  refine po_getc S hW hj (wa_in 40 (by decide +kernel) rfl) dm_Poly_put_1 ?_
  refine lv_iload_n hx hb dm_Poly_put_4 rfl (lv_at hl 1 rfl) ?_
  refine lv_iload_n hx hb dm_Poly_put_5 rfl (lv_at hl 2 rfl) ?_
  refine po_ast S hW hj (by omega) dm_Poly_put_6 (fun H locs hW => ?_)
  refine lv_aload_n hx hb dm_Poly_put_7 rfl (lv_at hl 0 rfl) ?_
  have hv2 : ∀ i, st_up σ j n v j i < 2147483648 := fun i => by
    rw [st_up_at]
    unfold va_up
    split
    · exact hw
    · exact hv i
  refine pw_callV (rest := []) S hW (mm_Poly_settle l D k g (st_up σ j n v) hj hv2) (cv_Poly_29 S.1.2.2.2.2 ⟨by decide, by decide⟩) (kd_p1 hj) (en_k0 hj) rfl rfl hl.1 rfl (lv_room (Nat.le_of_ble_eq_true rfl)) ⟨Nat.zero_le _, Nat.zero_le _⟩ dm_Poly_put_8 (fun σ1 H locs hp hW => ?_)
  rw [hp] at hW
  exact hret _ _ _ _ _ dm_Poly_put_11 (by rw [st_up_at]) hW
theorem dm_Poly_clear_0 : decode bm_Poly_clear 0 = .ok (.aload_n 0, 1) := by decide +kernel
theorem dm_Poly_clear_1 : decode bm_Poly_clear 1 = .ok (.getfield 9, 3) := by decide +kernel
theorem dm_Poly_clear_4 : decode bm_Poly_clear 4 = .ok (.iconst 0, 1) := by decide +kernel
theorem dm_Poly_clear_5 : decode bm_Poly_clear 5 = .ok (.invokestatic 23, 3) := by decide +kernel
theorem dm_Poly_clear_8 : decode bm_Poly_clear 8 = .ok (.aload_n 0, 1) := by decide +kernel
theorem dm_Poly_clear_9 : decode bm_Poly_clear 9 = .ok (.iconst (-1), 1) := by decide +kernel
theorem dm_Poly_clear_10 : decode bm_Poly_clear 10 = .ok (.putfield 15, 3) := by decide +kernel
theorem dm_Poly_clear_13 : decode bm_Poly_clear 13 = .ok (.return_, 1) := by decide +kernel
set_option maxHeartbeats 4000000 in
set_option maxRecDepth 100000 in
theorem mm_Poly_clear (l : Launch) (D : va_G) (k : ClassId × ClassId × ClassId) (g : Nat → Nat) (σ : st_T) {j : Nat} (hj : kd_k j = 0) : mt_V l D k g ym_Poly_clear wm_Poly_clear rm_Poly_clear [.ref (g j)] σ (fun σ1 => σ1 = st_up (st_fl σ j 31 0) 200 j 0) := by
  refine ct_V_in (cc := bm_Poly_clear) (maxL := 1) (by decide) rfl (Nat.le_of_ble_eq_true rfl) ?_
  intro p e s m args below meth c A ls Q S hl hW hret
  have S : pw_S p m c bm_Poly_clear 1 s args wa_g rc_Poly D cl_s (ty_s k) := S
  have hx := S.1.1
  have hb := S.1.2.1
  have hl : lv_has ls 1 [(0, .ref (g (j)))] := hl
  refine lv_aload_n hx hb dm_Poly_clear_0 rfl (lv_at hl 0 rfl) ?_
  refine po_getc S hW hj (wa_in 40 (by decide +kernel) rfl) dm_Poly_clear_1 ?_
  refine lv_iconst (v := nI (0)) hx hb dm_Poly_clear_4 (by decide) ?_
  refine pw_callSV (rest := []) S hW (mm_Arrays_fill l D k g σ (v := 0) hj) (cv_Poly_23 S.1.2.2.2.2 ⟨by decide, by decide⟩) rfl hl.1 rfl (lv_room (Nat.le_of_ble_eq_true rfl)) ⟨Nat.zero_le _, Nat.zero_le _⟩ dm_Poly_clear_5 (fun σ1 H locs hp hW => ?_)
  rw [hp] at hW
  refine lv_aload_n hx hb dm_Poly_clear_8 rfl (lv_at hl 0 rfl) ?_
  refine lv_iconst (v := -1) hx hb dm_Poly_clear_9 (by decide) ?_
  rw [show (-1 : Int32) = sd_i 0 from sd_0.symm]
  refine po_putd S hW hj (wa_in 46 (by decide +kernel) rfl) dm_Poly_clear_10 (fun H locs hW => ?_)
  exact hret _ _ _ _ _ dm_Poly_clear_13 rfl hW
