/-! Ring: reciprocal, valueAt, sumInto, scaleInto, derivativeInto, makeMonic -/
theorem st_cp_rd {σ : st_T} {j n a b : Nat} {f : Nat → Nat} (h : n ≤ b) : st_cp σ j n f a b = σ a b := by
  unfold st_cp
  split
  · rw [if_neg (by omega)]
  · rfl
theorem st_wf_lt {P : Nat} {σ : st_T} (hw : st_wf P σ) {j : Nat} (hj : kd_k j = 0) (i : Nat) : σ j i < P := ((hw.2 j hj).1 i).1
theorem st_wf_sz {P : Nat} {σ : st_T} (hw : st_wf P σ) {j : Nat} (hj : kd_k j = 0) : σ 200 j ≤ 31 := by
  rw [(hw.2 j hj).2]
  exact sp_sz_le _ _
theorem dm_Ring_reciprocal_0 : decode bm_Ring_reciprocal 0 = .ok (.iload_n 1, 1) := by decide +kernel
theorem dm_Ring_reciprocal_1 : decode bm_Ring_reciprocal 1 = .ok (.iconst 1, 1) := by decide +kernel
theorem dm_Ring_reciprocal_2 : decode bm_Ring_reciprocal 2 = .ok (.if_icmp .ne 5, 3) := by decide +kernel
theorem dm_Ring_reciprocal_5 : decode bm_Ring_reciprocal 5 = .ok (.iconst 1, 1) := by decide +kernel
theorem dm_Ring_reciprocal_6 : decode bm_Ring_reciprocal 6 = .ok (.ireturn, 1) := by decide +kernel
theorem dm_Ring_reciprocal_7 : decode bm_Ring_reciprocal 7 = .ok (.lconst 1, 1) := by decide +kernel
theorem dm_Ring_reciprocal_8 : decode bm_Ring_reciprocal 8 = .ok (.lstore_n 2, 1) := by decide +kernel
theorem dm_Ring_reciprocal_9 : decode bm_Ring_reciprocal 9 = .ok (.iload_n 1, 1) := by decide +kernel
theorem dm_Ring_reciprocal_10 : decode bm_Ring_reciprocal 10 = .ok (.i2l, 1) := by decide +kernel
theorem dm_Ring_reciprocal_11 : decode bm_Ring_reciprocal 11 = .ok (.lstore 4, 2) := by decide +kernel
theorem dm_Ring_reciprocal_13 : decode bm_Ring_reciprocal 13 = .ok (.aload_n 0, 1) := by decide +kernel
theorem dm_Ring_reciprocal_14 : decode bm_Ring_reciprocal 14 = .ok (.getfield 39, 3) := by decide +kernel
theorem dm_Ring_reciprocal_17 : decode bm_Ring_reciprocal 17 = .ok (.iconst 2, 1) := by decide +kernel
theorem dm_Ring_reciprocal_18 : decode bm_Ring_reciprocal 18 = .ok (.isub, 1) := by decide +kernel
theorem dm_Ring_reciprocal_19 : decode bm_Ring_reciprocal 19 = .ok (.istore 6, 2) := by decide +kernel
theorem dm_Ring_reciprocal_21 : decode bm_Ring_reciprocal 21 = .ok (.iload 6, 2) := by decide +kernel
theorem dm_Ring_reciprocal_23 : decode bm_Ring_reciprocal 23 = .ok (.ifCond .le 44, 3) := by decide +kernel
theorem dm_Ring_reciprocal_26 : decode bm_Ring_reciprocal 26 = .ok (.iload 6, 2) := by decide +kernel
theorem dm_Ring_reciprocal_28 : decode bm_Ring_reciprocal 28 = .ok (.iconst 1, 1) := by decide +kernel
theorem dm_Ring_reciprocal_29 : decode bm_Ring_reciprocal 29 = .ok (.iand, 1) := by decide +kernel
theorem dm_Ring_reciprocal_30 : decode bm_Ring_reciprocal 30 = .ok (.iconst 1, 1) := by decide +kernel
theorem dm_Ring_reciprocal_31 : decode bm_Ring_reciprocal 31 = .ok (.if_icmp .ne 14, 3) := by decide +kernel
theorem dm_Ring_reciprocal_34 : decode bm_Ring_reciprocal 34 = .ok (.lload_n 2, 1) := by decide +kernel
theorem dm_Ring_reciprocal_35 : decode bm_Ring_reciprocal 35 = .ok (.lload 4, 2) := by decide +kernel
theorem dm_Ring_reciprocal_37 : decode bm_Ring_reciprocal 37 = .ok (.lmul, 1) := by decide +kernel
theorem dm_Ring_reciprocal_38 : decode bm_Ring_reciprocal 38 = .ok (.aload_n 0, 1) := by decide +kernel
theorem dm_Ring_reciprocal_39 : decode bm_Ring_reciprocal 39 = .ok (.getfield 39, 3) := by decide +kernel
theorem dm_Ring_reciprocal_42 : decode bm_Ring_reciprocal 42 = .ok (.i2l, 1) := by decide +kernel
theorem dm_Ring_reciprocal_43 : decode bm_Ring_reciprocal 43 = .ok (.lrem, 1) := by decide +kernel
theorem dm_Ring_reciprocal_44 : decode bm_Ring_reciprocal 44 = .ok (.lstore_n 2, 1) := by decide +kernel
theorem dm_Ring_reciprocal_45 : decode bm_Ring_reciprocal 45 = .ok (.lload 4, 2) := by decide +kernel
theorem dm_Ring_reciprocal_47 : decode bm_Ring_reciprocal 47 = .ok (.lload 4, 2) := by decide +kernel
theorem dm_Ring_reciprocal_49 : decode bm_Ring_reciprocal 49 = .ok (.lmul, 1) := by decide +kernel
theorem dm_Ring_reciprocal_50 : decode bm_Ring_reciprocal 50 = .ok (.aload_n 0, 1) := by decide +kernel
theorem dm_Ring_reciprocal_51 : decode bm_Ring_reciprocal 51 = .ok (.getfield 39, 3) := by decide +kernel
theorem dm_Ring_reciprocal_54 : decode bm_Ring_reciprocal 54 = .ok (.i2l, 1) := by decide +kernel
theorem dm_Ring_reciprocal_55 : decode bm_Ring_reciprocal 55 = .ok (.lrem, 1) := by decide +kernel
theorem dm_Ring_reciprocal_56 : decode bm_Ring_reciprocal 56 = .ok (.lstore 4, 2) := by decide +kernel
theorem dm_Ring_reciprocal_58 : decode bm_Ring_reciprocal 58 = .ok (.iload 6, 2) := by decide +kernel
theorem dm_Ring_reciprocal_60 : decode bm_Ring_reciprocal 60 = .ok (.iconst 1, 1) := by decide +kernel
theorem dm_Ring_reciprocal_61 : decode bm_Ring_reciprocal 61 = .ok (.ishr, 1) := by decide +kernel
theorem dm_Ring_reciprocal_62 : decode bm_Ring_reciprocal 62 = .ok (.istore 6, 2) := by decide +kernel
theorem dm_Ring_reciprocal_64 : decode bm_Ring_reciprocal 64 = .ok (.goto (-43), 3) := by decide +kernel
theorem dm_Ring_reciprocal_67 : decode bm_Ring_reciprocal 67 = .ok (.lload_n 2, 1) := by decide +kernel
theorem dm_Ring_reciprocal_68 : decode bm_Ring_reciprocal 68 = .ok (.l2i, 1) := by decide +kernel
theorem dm_Ring_reciprocal_69 : decode bm_Ring_reciprocal 69 = .ok (.ireturn, 1) := by decide +kernel
set_option maxHeartbeats 4000000 in
set_option maxRecDepth 100000 in
theorem mm_Ring_reciprocal (l : Launch) (D : va_G) (k : ClassId × ClassId × ClassId) (g : Nat → Nat) (σ : st_T) {P a : Nat} (hw : st_wf P σ) (hP : 2 ≤ P) (hP31 : P < 2147483648) (ha : a < P) : mt_I l D k g ym_Ring_reciprocal wm_Ring_reciprocal rm_Ring_reciprocal [.ref (g 1), .int (nI a)] σ (fun r σ1 => r = nI (sp_inv P a) ∧ σ1 = σ) := by
  refine ct_I_in (cc := bm_Ring_reciprocal) (maxL := 7) (by decide) rfl (Nat.le_of_ble_eq_true rfl) ?_
  intro p e s m args below meth c A ls Q S hl hW hret
  have S : pw_S p m c bm_Ring_reciprocal 7 s args wa_g rc_Ring D cl_s (ty_s k) := S
  have hx := S.1.1
  have hb := S.1.2.1
  have hl : lv_has ls 7 [(0, .ref (g (1))), (1, .int (nI (a)))] := hl
  refine lv_iload_n hx hb dm_Ring_reciprocal_0 rfl (lv_at hl 1 rfl) ?_
  refine lv_iconst (v := nI (1)) hx hb dm_Ring_reciprocal_1 (by decide) ?_
  refine wi_icmp_ne (tgt := 7) S (nn_T (by omega)) (nn_T (by omega)) dm_Ring_reciprocal_2 (by decide) (fun hc => ?_) (fun hc => ?_)
  · refine lv_lconst (v := lN (1)) hx hb dm_Ring_reciprocal_7 (by decide) ?_
    refine lv_lstore_n hx hb dm_Ring_reciprocal_8 rfl hl (by decide) rfl (fun ls hl => ?_)
    have hl : lv_has ls 7 [(2, .long (lN (1))), (0, .ref (g (1))), (1, .int (nI (a)))] := hl
    refine lv_iload_n hx hb dm_Ring_reciprocal_9 rfl (lv_at hl 2 rfl) ?_
    refine wn_i2l S (by omega) dm_Ring_reciprocal_10 ?_
    refine lv_lstore hx hb dm_Ring_reciprocal_11 hl (by decide) rfl (fun ls hl => ?_)
    have hl : lv_has ls 7 [(4, .long (lN (a))), (2, .long (lN (1))), (0, .ref (g (1))), (1, .int (nI (a)))] := hl
    refine lv_aload_n hx hb dm_Ring_reciprocal_13 rfl (lv_at hl 2 rfl) ?_
    refine rg_p S hW (wa_in 59 (by decide +kernel) rfl) dm_Ring_reciprocal_14 ?_
    rw [hw.1]
    refine lv_iconst (v := nI (2)) hx hb dm_Ring_reciprocal_17 (by decide) ?_
    refine wn_isub S (by omega) dm_Ring_reciprocal_18 ?_
    refine lv_istore hx hb dm_Ring_reciprocal_19 hl (by decide) rfl (fun ls hl => ?_)
    have hl : lv_has ls 7 [(6, .int (nI ((P) - (2)))), (4, .long (lN (a))), (2, .long (lN (1))), (0, .ref (g (1))), (1, .int (nI (a)))] := hl
    have hl : lv_has ls 7 [(2, .long (lN (1))), (4, .long (lN (a))), (6, .int (nI ((P) - (2)))), (0, .ref (g (1))), (1, .int (nI (a)))] := lv_sub hl [2, 1, 0, 3, 4] rfl
    have loop : ∀ n, n < 2147483648 → ∀ t f, t < P → f < P → t * f ^ n % P = sp_inv P a → ∀ (ls : Array Slot), lv_has ls 7 [(2, .long (lN (t))), (4, .long (lN (f))), (6, .int (nI (n))), (0, .ref (g (1))), (1, .int (nI (a)))] → W p l e rm_Ring_reciprocal s m args below meth c s.heap [] 0 0 Q (F0 m 21 ls []) := by
      intro n
      induction n using Nat.strongRecOn with
      | ind n ih =>
        intro hn t f ht hf hinv ls hl
        refine lv_iload hx hb dm_Ring_reciprocal_21 (lv_at hl 2 rfl) ?_
        refine wi_if_le (tgt := 67) S (nn_T (by omega)) dm_Ring_reciprocal_23 (by decide) (fun hc => ?_) (fun hc => ?_)
        · refine lv_lload_n hx hb dm_Ring_reciprocal_67 rfl (lv_at hl 0 rfl) ?_
          refine wn_l2i S dm_Ring_reciprocal_68 ?_
          exact hret _ _ _ _ _ _ dm_Ring_reciprocal_69 ⟨by rw [← hinv, show n = 0 by omega, Nat.pow_zero, Nat.mul_one, Nat.mod_eq_of_lt ht], rfl⟩ hW
        · have tail : ∀ t2, t2 < P → t2 * (f * f % P) ^ (n / 2) % P = sp_inv P a → ∀ (ls : Array Slot), lv_has ls 7 [(2, .long (lN (t2))), (4, .long (lN (f))), (6, .int (nI (n))), (0, .ref (g (1))), (1, .int (nI (a)))] → W p l e rm_Ring_reciprocal s m args below meth c s.heap [] 0 0 Q (F0 m 45 ls []) := by
            intro t2 ht2 hinv2 ls hl
            have hm := nn_mul (show f < 2147483648 by omega) (show f < 2147483648 by omega)
            refine lv_lload hx hb dm_Ring_reciprocal_45 (lv_at hl 1 rfl) ?_
            refine lv_lload hx hb dm_Ring_reciprocal_47 (lv_at hl 1 rfl) ?_
            refine wn_lmul S dm_Ring_reciprocal_49 ?_
            refine lv_aload_n hx hb dm_Ring_reciprocal_50 rfl (lv_at hl 3 rfl) ?_
            refine rg_p S hW (wa_in 59 (by decide +kernel) rfl) dm_Ring_reciprocal_51 ?_
            rw [hw.1]
            refine wn_i2l S (by omega) dm_Ring_reciprocal_54 ?_
            refine wn_lrem S (by omega) (by omega) (by omega) dm_Ring_reciprocal_55 ?_
            refine lv_lstore hx hb dm_Ring_reciprocal_56 hl (by decide) rfl (fun ls hl => ?_)
            have hl : lv_has ls 7 [(4, .long (lN (((f) * (f)) % (P)))), (2, .long (lN (t2))), (6, .int (nI (n))), (0, .ref (g (1))), (1, .int (nI (a)))] := hl
            refine lv_iload hx hb dm_Ring_reciprocal_58 (lv_at hl 2 rfl) ?_
            refine lv_iconst (v := nI (1)) hx hb dm_Ring_reciprocal_60 (by decide) ?_
            refine wn_shr1 S (by omega) dm_Ring_reciprocal_61 ?_
            refine lv_istore hx hb dm_Ring_reciprocal_62 hl (by decide) rfl (fun ls hl => ?_)
            have hl : lv_has ls 7 [(6, .int (nI ((n) / 2))), (4, .long (lN (((f) * (f)) % (P)))), (2, .long (lN (t2))), (0, .ref (g (1))), (1, .int (nI (a)))] := hl
            refine lv_goto (tgt := 21) hx hb dm_Ring_reciprocal_64 (by decide) ?_
            have hl : lv_has ls 7 [(2, .long (lN (t2))), (4, .long (lN (((f) * (f)) % (P)))), (6, .int (nI ((n) / 2))), (0, .ref (g (1))), (1, .int (nI (a)))] := lv_sub hl [2, 1, 0, 3, 4] rfl
            exact ih (n / 2) (by omega) (by omega) t2 _ ht2 (Nat.mod_lt _ (by omega)) hinv2 ls hl
          have hrc := lp_rc (P := P) (t := t) (f := f) (e := n)
          rw [hinv] at hrc
          refine lv_iload hx hb dm_Ring_reciprocal_26 (lv_at hl 2 rfl) ?_
          refine lv_iconst (v := nI (1)) hx hb dm_Ring_reciprocal_28 (by decide) ?_
          refine wn_and1 S (by omega) dm_Ring_reciprocal_29 ?_
          refine lv_iconst (v := nI (1)) hx hb dm_Ring_reciprocal_30 (by decide) ?_
          refine wi_icmp_ne (tgt := 45) S (nn_T (by omega)) (nn_T (by omega)) dm_Ring_reciprocal_31 (by decide) (fun hc => ?_) (fun hc => ?_)
          · rw [if_neg (by omega)] at hrc
            exact tail t ht hrc ls hl
          · rw [if_pos (by omega)] at hrc
            have hm := nn_mul (show t < 2147483648 by omega) (show f < 2147483648 by omega)
            refine lv_lload_n hx hb dm_Ring_reciprocal_34 rfl (lv_at hl 0 rfl) ?_
            refine lv_lload hx hb dm_Ring_reciprocal_35 (lv_at hl 1 rfl) ?_
            refine wn_lmul S dm_Ring_reciprocal_37 ?_
            refine lv_aload_n hx hb dm_Ring_reciprocal_38 rfl (lv_at hl 3 rfl) ?_
            refine rg_p S hW (wa_in 59 (by decide +kernel) rfl) dm_Ring_reciprocal_39 ?_
            rw [hw.1]
            refine wn_i2l S (by omega) dm_Ring_reciprocal_42 ?_
            refine wn_lrem S (by omega) (by omega) (by omega) dm_Ring_reciprocal_43 ?_
            refine lv_lstore_n hx hb dm_Ring_reciprocal_44 rfl hl (by decide) rfl (fun ls hl => ?_)
            have hl : lv_has ls 7 [(2, .long (lN (((t) * (f)) % (P)))), (4, .long (lN (f))), (6, .int (nI (n))), (0, .ref (g (1))), (1, .int (nI (a)))] := hl
            have hl : lv_has ls 7 [(2, .long (lN (((t) * (f)) % (P)))), (4, .long (lN (f))), (6, .int (nI (n))), (0, .ref (g (1))), (1, .int (nI (a)))] := lv_sub hl [0, 1, 2, 3, 4] rfl
            exact tail _ (Nat.mod_lt _ (by omega)) hrc ls hl
    refine loop (P - 2) (by omega) 1 a (by omega) ha ?_ ls hl
    unfold sp_inv
    rw [Nat.one_mul]
  · refine lv_iconst (v := nI (1)) hx hb dm_Ring_reciprocal_5 (by decide) ?_
    exact hret _ _ _ _ _ _ dm_Ring_reciprocal_6 ⟨by unfold sp_inv; rw [show a = 1 by omega, Nat.one_pow, Nat.mod_eq_of_lt (by omega)], rfl⟩ hW
theorem dm_Ring_valueAt_0 : decode bm_Ring_valueAt 0 = .ok (.lconst 0, 1) := by decide +kernel
theorem dm_Ring_valueAt_1 : decode bm_Ring_valueAt 1 = .ok (.lstore_n 3, 1) := by decide +kernel
theorem dm_Ring_valueAt_2 : decode bm_Ring_valueAt 2 = .ok (.aload_n 1, 1) := by decide +kernel
theorem dm_Ring_valueAt_3 : decode bm_Ring_valueAt 3 = .ok (.getfield 43, 3) := by decide +kernel
theorem dm_Ring_valueAt_6 : decode bm_Ring_valueAt 6 = .ok (.istore 5, 2) := by decide +kernel
theorem dm_Ring_valueAt_8 : decode bm_Ring_valueAt 8 = .ok (.iload 5, 2) := by decide +kernel
theorem dm_Ring_valueAt_10 : decode bm_Ring_valueAt 10 = .ok (.ifCond .lt 29, 3) := by decide +kernel
theorem dm_Ring_valueAt_13 : decode bm_Ring_valueAt 13 = .ok (.lload_n 3, 1) := by decide +kernel
theorem dm_Ring_valueAt_14 : decode bm_Ring_valueAt 14 = .ok (.iload_n 2, 1) := by decide +kernel
theorem dm_Ring_valueAt_15 : decode bm_Ring_valueAt 15 = .ok (.i2l, 1) := by decide +kernel
theorem dm_Ring_valueAt_16 : decode bm_Ring_valueAt 16 = .ok (.lmul, 1) := by decide +kernel
theorem dm_Ring_valueAt_17 : decode bm_Ring_valueAt 17 = .ok (.aload_n 1, 1) := by decide +kernel
theorem dm_Ring_valueAt_18 : decode bm_Ring_valueAt 18 = .ok (.getfield 46, 3) := by decide +kernel
theorem dm_Ring_valueAt_21 : decode bm_Ring_valueAt 21 = .ok (.iload 5, 2) := by decide +kernel
theorem dm_Ring_valueAt_23 : decode bm_Ring_valueAt 23 = .ok (.iaload, 1) := by decide +kernel
theorem dm_Ring_valueAt_24 : decode bm_Ring_valueAt 24 = .ok (.i2l, 1) := by decide +kernel
theorem dm_Ring_valueAt_25 : decode bm_Ring_valueAt 25 = .ok (.ladd, 1) := by decide +kernel
theorem dm_Ring_valueAt_26 : decode bm_Ring_valueAt 26 = .ok (.aload_n 0, 1) := by decide +kernel
theorem dm_Ring_valueAt_27 : decode bm_Ring_valueAt 27 = .ok (.getfield 39, 3) := by decide +kernel
theorem dm_Ring_valueAt_30 : decode bm_Ring_valueAt 30 = .ok (.i2l, 1) := by decide +kernel
theorem dm_Ring_valueAt_31 : decode bm_Ring_valueAt 31 = .ok (.lrem, 1) := by decide +kernel
theorem dm_Ring_valueAt_32 : decode bm_Ring_valueAt 32 = .ok (.lstore_n 3, 1) := by decide +kernel
theorem dm_Ring_valueAt_33 : decode bm_Ring_valueAt 33 = .ok (.iinc 5 (-1), 3) := by decide +kernel
theorem dm_Ring_valueAt_36 : decode bm_Ring_valueAt 36 = .ok (.goto (-28), 3) := by decide +kernel
theorem dm_Ring_valueAt_39 : decode bm_Ring_valueAt 39 = .ok (.lload_n 3, 1) := by decide +kernel
theorem dm_Ring_valueAt_40 : decode bm_Ring_valueAt 40 = .ok (.l2i, 1) := by decide +kernel
theorem dm_Ring_valueAt_41 : decode bm_Ring_valueAt 41 = .ok (.ireturn, 1) := by decide +kernel
set_option maxHeartbeats 4000000 in
set_option maxRecDepth 100000 in
theorem mm_Ring_valueAt (l : Launch) (D : va_G) (k : ClassId × ClassId × ClassId) (g : Nat → Nat) (σ : st_T) {P a x : Nat} (hw : st_wf P σ) (hP : 2 ≤ P) (hP31 : P < 2147483648) (ha : kd_k a = 0) (hx0 : x < P) : mt_I l D k g ym_Ring_valueAt wm_Ring_valueAt rm_Ring_valueAt [.ref (g 1), .ref (g a), .int (nI x)] σ (fun r σ1 => r = nI (lp_val P (σ a) x (σ 200 a) 0) ∧ σ1 = σ) := by
  refine ct_I_in (cc := bm_Ring_valueAt) (maxL := 6) (by decide) rfl (Nat.le_of_ble_eq_true rfl) ?_
  intro p e s m args below meth c A ls Q S hl hW hret
  have S : pw_S p m c bm_Ring_valueAt 6 s args wa_g rc_Ring D cl_s (ty_s k) := S
  have hx := S.1.1
  have hb := S.1.2.1
  have hl : lv_has ls 6 [(0, .ref (g (1))), (1, .ref (g (a))), (2, .int (nI (x)))] := hl
  refine lv_lconst (v := lN (0)) hx hb dm_Ring_valueAt_0 (by decide) ?_
  refine lv_lstore_n hx hb dm_Ring_valueAt_1 rfl hl (by decide) rfl (fun ls hl => ?_)
  have hl : lv_has ls 6 [(3, .long (lN (0))), (0, .ref (g (1))), (1, .ref (g (a))), (2, .int (nI (x)))] := hl
  refine lv_aload_n hx hb dm_Ring_valueAt_2 rfl (lv_at hl 2 rfl) ?_
  refine po_getd S hW ha (wa_in 49 (by decide +kernel) rfl) dm_Ring_valueAt_3 ?_
  refine lv_istore hx hb dm_Ring_valueAt_6 hl (by decide) rfl (fun ls hl => ?_)
  have hl : lv_has ls 6 [(5, .int (sd_i (σ 200 (a)))), (3, .long (lN (0))), (0, .ref (g (1))), (1, .ref (g (a))), (2, .int (nI (x)))] := hl
  have hl : lv_has ls 6 [(3, .long (lN (0))), (5, .int (sd_i (σ 200 (a)))), (0, .ref (g (1))), (1, .ref (g (a))), (2, .int (nI (x)))] := lv_sub hl [1, 0, 2, 3, 4] rfl
  have hsz := st_wf_sz hw ha
  have loop : ∀ n, n ≤ 31 → ∀ v, v < P → lp_val P (σ a) x n v = lp_val P (σ a) x (σ 200 a) 0 → ∀ (ls : Array Slot), lv_has ls 6 [(3, .long (lN (v))), (5, .int (sd_i (n))), (0, .ref (g (1))), (1, .ref (g (a))), (2, .int (nI (x)))] → W p l e rm_Ring_valueAt s m args below meth c s.heap [] 0 0 Q (F0 m 8 ls []) := by
    intro n
    induction n with
    | zero =>
      intro hn v hv hinv ls hl
      refine lv_iload hx hb dm_Ring_valueAt_8 (lv_at hl 1 rfl) ?_
      refine wi_if_lt (tgt := 39) S (sd_T (by omega)) dm_Ring_valueAt_10 (by decide) (fun hc => ?_) (fun hc => ?_)
      · refine lv_lload_n hx hb dm_Ring_valueAt_39 rfl (lv_at hl 0 rfl) ?_
        refine wn_l2i S dm_Ring_valueAt_40 ?_
        exact hret _ _ _ _ _ _ dm_Ring_valueAt_41 ⟨by rw [← hinv]; rfl, rfl⟩ hW
      · exfalso
        omega
    | succ n ih =>
      intro hn v hv hinv ls hl
      refine lv_iload hx hb dm_Ring_valueAt_8 (lv_at hl 1 rfl) ?_
      refine wi_if_lt (tgt := 39) S (sd_T (by omega)) dm_Ring_valueAt_10 (by decide) (fun hc => ?_) (fun hc => ?_)
      · exfalso
        omega
      · have hm := nn_mul (show v < 2147483648 by omega) (show x < 2147483648 by omega)
        have hc2 := st_wf_lt hw ha n
        refine lv_lload_n hx hb dm_Ring_valueAt_13 rfl (lv_at hl 0 rfl) ?_
        refine lv_iload_n hx hb dm_Ring_valueAt_14 rfl (lv_at hl 4 rfl) ?_
        refine wn_i2l S (by omega) dm_Ring_valueAt_15 ?_
        refine wn_lmul S dm_Ring_valueAt_16 ?_
        refine lv_aload_n hx hb dm_Ring_valueAt_17 rfl (lv_at hl 3 rfl) ?_
        refine po_getc S hW ha (wa_in 41 (by decide +kernel) rfl) dm_Ring_valueAt_18 ?_
        refine lv_iload hx hb dm_Ring_valueAt_21 (lv_at hl 1 rfl) ?_
        rw [sd_n (show 0 < n + 1 by omega)]
        rw [Nat.add_sub_cancel]
        refine po_ald S hW ha (by omega) dm_Ring_valueAt_23 ?_
        refine wn_i2l S (by omega) dm_Ring_valueAt_24 ?_
        refine wn_ladd S dm_Ring_valueAt_25 ?_
        refine lv_aload_n hx hb dm_Ring_valueAt_26 rfl (lv_at hl 2 rfl) ?_
        refine rg_p S hW (wa_in 59 (by decide +kernel) rfl) dm_Ring_valueAt_27 ?_
        rw [hw.1]
        refine wn_i2l S (by omega) dm_Ring_valueAt_30 ?_
        refine wn_lrem S (by omega) (by omega) (by omega) dm_Ring_valueAt_31 ?_
        refine lv_lstore_n hx hb dm_Ring_valueAt_32 rfl hl (by decide) rfl (fun ls hl => ?_)
        have hl : lv_has ls 6 [(3, .long (lN ((((v) * (x)) + (σ (a) (n))) % (P)))), (5, .int (sd_i (n + 1))), (0, .ref (g (1))), (1, .ref (g (a))), (2, .int (nI (x)))] := hl
        refine lv_iinc (k := 1) (v := sd_i n) hx hb dm_Ring_valueAt_33 hl rfl (sd_m1 n) (by decide) rfl (fun ls hl => ?_)
        have hl : lv_has ls 6 [(5, .int (sd_i (n))), (3, .long (lN ((((v) * (x)) + (σ (a) (n))) % (P)))), (0, .ref (g (1))), (1, .ref (g (a))), (2, .int (nI (x)))] := hl
        refine lv_goto (tgt := 8) hx hb dm_Ring_valueAt_36 (by decide) ?_
        have hl : lv_has ls 6 [(3, .long (lN ((((v) * (x)) + (σ (a) (n))) % (P)))), (5, .int (sd_i (n))), (0, .ref (g (1))), (1, .ref (g (a))), (2, .int (nI (x)))] := lv_sub hl [1, 0, 2, 3, 4] rfl
        exact ih (by omega) _ (Nat.mod_lt _ (by omega)) hinv ls hl
  exact loop _ hsz 0 (by omega) rfl ls hl
theorem dm_Ring_sumInto_0 : decode bm_Ring_sumInto 0 = .ok (.iconst 0, 1) := by decide +kernel
theorem dm_Ring_sumInto_1 : decode bm_Ring_sumInto 1 = .ok (.istore 5, 2) := by decide +kernel
theorem dm_Ring_sumInto_3 : decode bm_Ring_sumInto 3 = .ok (.iload 5, 2) := by decide +kernel
theorem dm_Ring_sumInto_5 : decode bm_Ring_sumInto 5 = .ok (.bipush 31, 2) := by decide +kernel
theorem dm_Ring_sumInto_7 : decode bm_Ring_sumInto 7 = .ok (.if_icmp .ge 44, 3) := by decide +kernel
theorem dm_Ring_sumInto_10 : decode bm_Ring_sumInto 10 = .ok (.aload_n 1, 1) := by decide +kernel
theorem dm_Ring_sumInto_11 : decode bm_Ring_sumInto 11 = .ok (.getfield 46, 3) := by decide +kernel
theorem dm_Ring_sumInto_14 : decode bm_Ring_sumInto 14 = .ok (.iload 5, 2) := by decide +kernel
theorem dm_Ring_sumInto_16 : decode bm_Ring_sumInto 16 = .ok (.aload_n 2, 1) := by decide +kernel
theorem dm_Ring_sumInto_17 : decode bm_Ring_sumInto 17 = .ok (.getfield 46, 3) := by decide +kernel
theorem dm_Ring_sumInto_20 : decode bm_Ring_sumInto 20 = .ok (.iload 5, 2) := by decide +kernel
theorem dm_Ring_sumInto_22 : decode bm_Ring_sumInto 22 = .ok (.iaload, 1) := by decide +kernel
theorem dm_Ring_sumInto_23 : decode bm_Ring_sumInto 23 = .ok (.i2l, 1) := by decide +kernel
theorem dm_Ring_sumInto_24 : decode bm_Ring_sumInto 24 = .ok (.aload_n 3, 1) := by decide +kernel
theorem dm_Ring_sumInto_25 : decode bm_Ring_sumInto 25 = .ok (.getfield 46, 3) := by decide +kernel
theorem dm_Ring_sumInto_28 : decode bm_Ring_sumInto 28 = .ok (.iload 5, 2) := by decide +kernel
theorem dm_Ring_sumInto_30 : decode bm_Ring_sumInto 30 = .ok (.iaload, 1) := by decide +kernel
theorem dm_Ring_sumInto_31 : decode bm_Ring_sumInto 31 = .ok (.i2l, 1) := by decide +kernel
theorem dm_Ring_sumInto_32 : decode bm_Ring_sumInto 32 = .ok (.iload 4, 2) := by decide +kernel
theorem dm_Ring_sumInto_34 : decode bm_Ring_sumInto 34 = .ok (.i2l, 1) := by decide +kernel
theorem dm_Ring_sumInto_35 : decode bm_Ring_sumInto 35 = .ok (.lmul, 1) := by decide +kernel
theorem dm_Ring_sumInto_36 : decode bm_Ring_sumInto 36 = .ok (.ladd, 1) := by decide +kernel
theorem dm_Ring_sumInto_37 : decode bm_Ring_sumInto 37 = .ok (.aload_n 0, 1) := by decide +kernel
theorem dm_Ring_sumInto_38 : decode bm_Ring_sumInto 38 = .ok (.getfield 39, 3) := by decide +kernel
theorem dm_Ring_sumInto_41 : decode bm_Ring_sumInto 41 = .ok (.i2l, 1) := by decide +kernel
theorem dm_Ring_sumInto_42 : decode bm_Ring_sumInto 42 = .ok (.lrem, 1) := by decide +kernel
theorem dm_Ring_sumInto_43 : decode bm_Ring_sumInto 43 = .ok (.l2i, 1) := by decide +kernel
theorem dm_Ring_sumInto_44 : decode bm_Ring_sumInto 44 = .ok (.iastore, 1) := by decide +kernel
theorem dm_Ring_sumInto_45 : decode bm_Ring_sumInto 45 = .ok (.iinc 5 1, 3) := by decide +kernel
theorem dm_Ring_sumInto_48 : decode bm_Ring_sumInto 48 = .ok (.goto (-45), 3) := by decide +kernel
theorem dm_Ring_sumInto_51 : decode bm_Ring_sumInto 51 = .ok (.aload_n 1, 1) := by decide +kernel
theorem dm_Ring_sumInto_52 : decode bm_Ring_sumInto 52 = .ok (.invokevirtual 50, 3) := by decide +kernel
theorem dm_Ring_sumInto_55 : decode bm_Ring_sumInto 55 = .ok (.return_, 1) := by decide +kernel
set_option maxHeartbeats 4000000 in
set_option maxRecDepth 100000 in
theorem mm_Ring_sumInto (l : Launch) (D : va_G) (k : ClassId × ClassId × ClassId) (g : Nat → Nat) (σ : st_T) {P x a b K : Nat} (hw : st_wf P σ) (hP : 2 ≤ P) (hP31 : P < 2147483648) (h1 : kd_k x = 0) (h2 : kd_k a = 0) (h3 : kd_k b = 0) (hK : K < P) : mt_V l D k g ym_Ring_sumInto wm_Ring_sumInto rm_Ring_sumInto [.ref (g 1), .ref (g x), .ref (g a), .ref (g b), .int (nI K)] σ (fun σ1 => σ1 = st_po σ x (sp_add P (σ a) (σ b) K)) := by
  refine ct_V_in (cc := bm_Ring_sumInto) (maxL := 6) (by decide) rfl (Nat.le_of_ble_eq_true rfl) ?_
  intro p e s m args below meth c A ls Q S hl hW hret
  have S : pw_S p m c bm_Ring_sumInto 6 s args wa_g rc_Ring D cl_s (ty_s k) := S
  have hx := S.1.1
  have hb := S.1.2.1
  have hl : lv_has ls 6 [(0, .ref (g (1))), (1, .ref (g (x))), (2, .ref (g (a))), (3, .ref (g (b))), (4, .int (nI (K)))] := hl
  refine lv_iconst (v := nI (0)) hx hb dm_Ring_sumInto_0 (by decide) ?_
  refine lv_istore hx hb dm_Ring_sumInto_1 hl (by decide) rfl (fun ls hl => ?_)
  have hl : lv_has ls 6 [(5, .int (nI (0))), (0, .ref (g (1))), (1, .ref (g (x))), (2, .ref (g (a))), (3, .ref (g (b))), (4, .int (nI (K)))] := hl
  have loop : ∀ d i, i + d = 31 → ∀ (ls : Array Slot) (H : Heap) (locs : List Loc), lv_has ls 6 [(5, .int (nI (i))), (0, .ref (g (1))), (1, .ref (g (x))), (2, .ref (g (a))), (3, .ref (g (b))), (4, .int (nI (K)))] → pw_H D cl_s A s.heap g 153 (en_s k g (st_cp σ x i (sp_add P (σ a) (σ b) K))) H locs → W p l e rm_Ring_sumInto s m args below meth c H locs 0 0 Q (F0 m 3 ls []) := by
    intro d
    induction d with
    | zero =>
      intro i hi ls H locs hl hW
      have hi : i = 31 := by omega
      subst hi
      refine lv_iload hx hb dm_Ring_sumInto_3 (lv_at hl 0 rfl) ?_
      refine lv_bipush (v := nI (31)) hx hb dm_Ring_sumInto_5 (by decide) ?_
      refine wi_icmp_ge (tgt := 51) S (nn_T (by omega)) (nn_T (by omega)) dm_Ring_sumInto_7 (by decide) (fun hc => ?_) (fun hc => ?_)
      · refine lv_aload_n hx hb dm_Ring_sumInto_51 rfl (lv_at hl 2 rfl) ?_
        have hf : sp_ok P (sp_add P (σ a) (σ b) K) := sp_add_ok (by omega) (hw.2 a h2).1 (hw.2 b h3).1 K
        have hall : st_cp σ x 31 (sp_add P (σ a) (σ b) K) x = sp_add P (σ a) (σ b) K := st_cp_all (fun b hb => by rw [((hw.2 x h1).1 b).2 hb, (hf b).2 hb])
        refine pw_callV (rest := []) S hW (mm_Poly_settle l D k g (st_cp σ x 31 (sp_add P (σ a) (σ b) K)) h1 (fun i => by rw [hall]; have := (hf i).1; omega)) (cv_Ring_50 S.1.2.2.2.2 ⟨by decide, by decide⟩) (kd_p1 h1) (en_k0 h1) rfl rfl hl.1 rfl (lv_room (Nat.le_of_ble_eq_true rfl)) ⟨Nat.zero_le _, Nat.zero_le _⟩ dm_Ring_sumInto_52 (fun σ1 H locs hp hW => ?_)
        rw [hp, st_se_po (σ := σ) h1 (fun a ha => st_cp_row ha), hall] at hW
        exact hret _ _ _ _ _ dm_Ring_sumInto_55 rfl hW
      · exfalso
        omega
    | succ d ih =>
      intro i hi ls H locs hl hW
      refine lv_iload hx hb dm_Ring_sumInto_3 (lv_at hl 0 rfl) ?_
      refine lv_bipush (v := nI (31)) hx hb dm_Ring_sumInto_5 (by decide) ?_
      refine wi_icmp_ge (tgt := 51) S (nn_T (by omega)) (nn_T (by omega)) dm_Ring_sumInto_7 (by decide) (fun hc => ?_) (fun hc => ?_)
      · exfalso
        omega
      · have e1 := st_wf_lt hw h2 i
        have e2 := st_wf_lt hw h3 i
        have hm := nn_mul (show σ b i < 2147483648 by omega) (show K < 2147483648 by omega)
        refine lv_aload_n hx hb dm_Ring_sumInto_10 rfl (lv_at hl 2 rfl) ?_
        refine po_getc S hW h1 (wa_in 41 (by decide +kernel) rfl) dm_Ring_sumInto_11 ?_
        refine lv_iload hx hb dm_Ring_sumInto_14 (lv_at hl 0 rfl) ?_
        refine lv_aload_n hx hb dm_Ring_sumInto_16 rfl (lv_at hl 3 rfl) ?_
        refine po_getc S hW h2 (wa_in 41 (by decide +kernel) rfl) dm_Ring_sumInto_17 ?_
        refine lv_iload hx hb dm_Ring_sumInto_20 (lv_at hl 0 rfl) ?_
        refine po_ald S hW h2 (by omega) dm_Ring_sumInto_22 ?_
        rw [st_cp_rd (by omega)]
        refine wn_i2l S (by omega) dm_Ring_sumInto_23 ?_
        refine lv_aload_n hx hb dm_Ring_sumInto_24 rfl (lv_at hl 4 rfl) ?_
        refine po_getc S hW h3 (wa_in 41 (by decide +kernel) rfl) dm_Ring_sumInto_25 ?_
        refine lv_iload hx hb dm_Ring_sumInto_28 (lv_at hl 0 rfl) ?_
        refine po_ald S hW h3 (by omega) dm_Ring_sumInto_30 ?_
        rw [st_cp_rd (by omega)]
        refine wn_i2l S (by omega) dm_Ring_sumInto_31 ?_
        refine lv_iload hx hb dm_Ring_sumInto_32 (lv_at hl 5 rfl) ?_
        refine wn_i2l S (by omega) dm_Ring_sumInto_34 ?_
        refine wn_lmul S dm_Ring_sumInto_35 ?_
        refine wn_ladd S dm_Ring_sumInto_36 ?_
        refine lv_aload_n hx hb dm_Ring_sumInto_37 rfl (lv_at hl 1 rfl) ?_
        refine rg_p S hW (wa_in 59 (by decide +kernel) rfl) dm_Ring_sumInto_38 ?_
        rw [(show st_cp σ x i (sp_add P (σ a) (σ b) K) 203 0 = P by have := kd_po h1; rw [st_cp_row (by omega)]; exact hw.1)]
        refine wn_i2l S (by omega) dm_Ring_sumInto_41 ?_
        refine wn_lrem S (by omega) (by omega) (by omega) dm_Ring_sumInto_42 ?_
        refine wn_l2i S dm_Ring_sumInto_43 ?_
        refine po_ast S hW h1 (by omega) dm_Ring_sumInto_44 (fun H locs hW => ?_)
        refine lv_iinc (k := 0) (v := nI (i + 1)) hx hb dm_Ring_sumInto_45 hl rfl (by rw [show Int32.ofInt 1 = nI 1 from rfl, nI_add]) (by decide) rfl (fun ls hl => ?_)
        have hl : lv_has ls 6 [(5, .int (nI (i + 1))), (0, .ref (g (1))), (1, .ref (g (x))), (2, .ref (g (a))), (3, .ref (g (b))), (4, .int (nI (K)))] := hl
        refine lv_goto (tgt := 3) hx hb dm_Ring_sumInto_48 (by decide) ?_
        exact ih (i + 1) (by omega) ls H locs hl (by rw [← st_cp_s σ x i (sp_add P (σ a) (σ b) K) rfl]; exact hW)
  exact loop 31 0 (by omega) ls _ _ hl (by rw [st_cp_0]; exact hW)
theorem dm_Ring_scaleInto_0 : decode bm_Ring_scaleInto 0 = .ok (.iconst 0, 1) := by decide +kernel
theorem dm_Ring_scaleInto_1 : decode bm_Ring_scaleInto 1 = .ok (.istore 4, 2) := by decide +kernel
theorem dm_Ring_scaleInto_3 : decode bm_Ring_scaleInto 3 = .ok (.iload 4, 2) := by decide +kernel
theorem dm_Ring_scaleInto_5 : decode bm_Ring_scaleInto 5 = .ok (.bipush 31, 2) := by decide +kernel
theorem dm_Ring_scaleInto_7 : decode bm_Ring_scaleInto 7 = .ok (.if_icmp .ge 34, 3) := by decide +kernel
theorem dm_Ring_scaleInto_10 : decode bm_Ring_scaleInto 10 = .ok (.aload_n 1, 1) := by decide +kernel
theorem dm_Ring_scaleInto_11 : decode bm_Ring_scaleInto 11 = .ok (.getfield 46, 3) := by decide +kernel
theorem dm_Ring_scaleInto_14 : decode bm_Ring_scaleInto 14 = .ok (.iload 4, 2) := by decide +kernel
theorem dm_Ring_scaleInto_16 : decode bm_Ring_scaleInto 16 = .ok (.aload_n 2, 1) := by decide +kernel
theorem dm_Ring_scaleInto_17 : decode bm_Ring_scaleInto 17 = .ok (.getfield 46, 3) := by decide +kernel
theorem dm_Ring_scaleInto_20 : decode bm_Ring_scaleInto 20 = .ok (.iload 4, 2) := by decide +kernel
theorem dm_Ring_scaleInto_22 : decode bm_Ring_scaleInto 22 = .ok (.iaload, 1) := by decide +kernel
theorem dm_Ring_scaleInto_23 : decode bm_Ring_scaleInto 23 = .ok (.i2l, 1) := by decide +kernel
theorem dm_Ring_scaleInto_24 : decode bm_Ring_scaleInto 24 = .ok (.iload_n 3, 1) := by decide +kernel
theorem dm_Ring_scaleInto_25 : decode bm_Ring_scaleInto 25 = .ok (.i2l, 1) := by decide +kernel
theorem dm_Ring_scaleInto_26 : decode bm_Ring_scaleInto 26 = .ok (.lmul, 1) := by decide +kernel
theorem dm_Ring_scaleInto_27 : decode bm_Ring_scaleInto 27 = .ok (.aload_n 0, 1) := by decide +kernel
theorem dm_Ring_scaleInto_28 : decode bm_Ring_scaleInto 28 = .ok (.getfield 39, 3) := by decide +kernel
theorem dm_Ring_scaleInto_31 : decode bm_Ring_scaleInto 31 = .ok (.i2l, 1) := by decide +kernel
theorem dm_Ring_scaleInto_32 : decode bm_Ring_scaleInto 32 = .ok (.lrem, 1) := by decide +kernel
theorem dm_Ring_scaleInto_33 : decode bm_Ring_scaleInto 33 = .ok (.l2i, 1) := by decide +kernel
theorem dm_Ring_scaleInto_34 : decode bm_Ring_scaleInto 34 = .ok (.iastore, 1) := by decide +kernel
theorem dm_Ring_scaleInto_35 : decode bm_Ring_scaleInto 35 = .ok (.iinc 4 1, 3) := by decide +kernel
theorem dm_Ring_scaleInto_38 : decode bm_Ring_scaleInto 38 = .ok (.goto (-35), 3) := by decide +kernel
theorem dm_Ring_scaleInto_41 : decode bm_Ring_scaleInto 41 = .ok (.aload_n 1, 1) := by decide +kernel
theorem dm_Ring_scaleInto_42 : decode bm_Ring_scaleInto 42 = .ok (.invokevirtual 50, 3) := by decide +kernel
theorem dm_Ring_scaleInto_45 : decode bm_Ring_scaleInto 45 = .ok (.return_, 1) := by decide +kernel
set_option maxHeartbeats 4000000 in
set_option maxRecDepth 100000 in
theorem mm_Ring_scaleInto (l : Launch) (D : va_G) (k : ClassId × ClassId × ClassId) (g : Nat → Nat) (σ : st_T) {P x a K : Nat} (hw : st_wf P σ) (hP : 2 ≤ P) (hP31 : P < 2147483648) (h1 : kd_k x = 0) (h2 : kd_k a = 0) (hK : K < P) : mt_V l D k g ym_Ring_scaleInto wm_Ring_scaleInto rm_Ring_scaleInto [.ref (g 1), .ref (g x), .ref (g a), .int (nI K)] σ (fun σ1 => σ1 = st_po σ x (sp_sc P (σ a) K)) := by
  refine ct_V_in (cc := bm_Ring_scaleInto) (maxL := 5) (by decide) rfl (Nat.le_of_ble_eq_true rfl) ?_
  intro p e s m args below meth c A ls Q S hl hW hret
  have S : pw_S p m c bm_Ring_scaleInto 5 s args wa_g rc_Ring D cl_s (ty_s k) := S
  have hx := S.1.1
  have hb := S.1.2.1
  have hl : lv_has ls 5 [(0, .ref (g (1))), (1, .ref (g (x))), (2, .ref (g (a))), (3, .int (nI (K)))] := hl
  refine lv_iconst (v := nI (0)) hx hb dm_Ring_scaleInto_0 (by decide) ?_
  refine lv_istore hx hb dm_Ring_scaleInto_1 hl (by decide) rfl (fun ls hl => ?_)
  have hl : lv_has ls 5 [(4, .int (nI (0))), (0, .ref (g (1))), (1, .ref (g (x))), (2, .ref (g (a))), (3, .int (nI (K)))] := hl
  have loop : ∀ d i, i + d = 31 → ∀ (ls : Array Slot) (H : Heap) (locs : List Loc), lv_has ls 5 [(4, .int (nI (i))), (0, .ref (g (1))), (1, .ref (g (x))), (2, .ref (g (a))), (3, .int (nI (K)))] → pw_H D cl_s A s.heap g 153 (en_s k g (st_cp σ x i (sp_sc P (σ a) K))) H locs → W p l e rm_Ring_scaleInto s m args below meth c H locs 0 0 Q (F0 m 3 ls []) := by
    intro d
    induction d with
    | zero =>
      intro i hi ls H locs hl hW
      have hi : i = 31 := by omega
      subst hi
      refine lv_iload hx hb dm_Ring_scaleInto_3 (lv_at hl 0 rfl) ?_
      refine lv_bipush (v := nI (31)) hx hb dm_Ring_scaleInto_5 (by decide) ?_
      refine wi_icmp_ge (tgt := 41) S (nn_T (by omega)) (nn_T (by omega)) dm_Ring_scaleInto_7 (by decide) (fun hc => ?_) (fun hc => ?_)
      · refine lv_aload_n hx hb dm_Ring_scaleInto_41 rfl (lv_at hl 2 rfl) ?_
        have hf : sp_ok P (sp_sc P (σ a) K) := sp_sc_ok (by omega) (hw.2 a h2).1 K
        have hall : st_cp σ x 31 (sp_sc P (σ a) K) x = sp_sc P (σ a) K := st_cp_all (fun b hb => by rw [((hw.2 x h1).1 b).2 hb, (hf b).2 hb])
        refine pw_callV (rest := []) S hW (mm_Poly_settle l D k g (st_cp σ x 31 (sp_sc P (σ a) K)) h1 (fun i => by rw [hall]; have := (hf i).1; omega)) (cv_Ring_50 S.1.2.2.2.2 ⟨by decide, by decide⟩) (kd_p1 h1) (en_k0 h1) rfl rfl hl.1 rfl (lv_room (Nat.le_of_ble_eq_true rfl)) ⟨Nat.zero_le _, Nat.zero_le _⟩ dm_Ring_scaleInto_42 (fun σ1 H locs hp hW => ?_)
        rw [hp, st_se_po (σ := σ) h1 (fun a ha => st_cp_row ha), hall] at hW
        exact hret _ _ _ _ _ dm_Ring_scaleInto_45 rfl hW
      · exfalso
        omega
    | succ d ih =>
      intro i hi ls H locs hl hW
      refine lv_iload hx hb dm_Ring_scaleInto_3 (lv_at hl 0 rfl) ?_
      refine lv_bipush (v := nI (31)) hx hb dm_Ring_scaleInto_5 (by decide) ?_
      refine wi_icmp_ge (tgt := 41) S (nn_T (by omega)) (nn_T (by omega)) dm_Ring_scaleInto_7 (by decide) (fun hc => ?_) (fun hc => ?_)
      · exfalso
        omega
      · have e1 := st_wf_lt hw h2 i
        have hm := nn_mul (show σ a i < 2147483648 by omega) (show K < 2147483648 by omega)
        refine lv_aload_n hx hb dm_Ring_scaleInto_10 rfl (lv_at hl 2 rfl) ?_
        refine po_getc S hW h1 (wa_in 41 (by decide +kernel) rfl) dm_Ring_scaleInto_11 ?_
        refine lv_iload hx hb dm_Ring_scaleInto_14 (lv_at hl 0 rfl) ?_
        refine lv_aload_n hx hb dm_Ring_scaleInto_16 rfl (lv_at hl 3 rfl) ?_
        refine po_getc S hW h2 (wa_in 41 (by decide +kernel) rfl) dm_Ring_scaleInto_17 ?_
        refine lv_iload hx hb dm_Ring_scaleInto_20 (lv_at hl 0 rfl) ?_
        refine po_ald S hW h2 (by omega) dm_Ring_scaleInto_22 ?_
        rw [st_cp_rd (by omega)]
        refine wn_i2l S (by omega) dm_Ring_scaleInto_23 ?_
        refine lv_iload_n hx hb dm_Ring_scaleInto_24 rfl (lv_at hl 4 rfl) ?_
        refine wn_i2l S (by omega) dm_Ring_scaleInto_25 ?_
        refine wn_lmul S dm_Ring_scaleInto_26 ?_
        refine lv_aload_n hx hb dm_Ring_scaleInto_27 rfl (lv_at hl 1 rfl) ?_
        refine rg_p S hW (wa_in 59 (by decide +kernel) rfl) dm_Ring_scaleInto_28 ?_
        rw [(show st_cp σ x i (sp_sc P (σ a) K) 203 0 = P by have := kd_po h1; rw [st_cp_row (by omega)]; exact hw.1)]
        refine wn_i2l S (by omega) dm_Ring_scaleInto_31 ?_
        refine wn_lrem S (by omega) (by omega) (by omega) dm_Ring_scaleInto_32 ?_
        refine wn_l2i S dm_Ring_scaleInto_33 ?_
        refine po_ast S hW h1 (by omega) dm_Ring_scaleInto_34 (fun H locs hW => ?_)
        refine lv_iinc (k := 0) (v := nI (i + 1)) hx hb dm_Ring_scaleInto_35 hl rfl (by rw [show Int32.ofInt 1 = nI 1 from rfl, nI_add]) (by decide) rfl (fun ls hl => ?_)
        have hl : lv_has ls 5 [(4, .int (nI (i + 1))), (0, .ref (g (1))), (1, .ref (g (x))), (2, .ref (g (a))), (3, .int (nI (K)))] := hl
        refine lv_goto (tgt := 3) hx hb dm_Ring_scaleInto_38 (by decide) ?_
        exact ih (i + 1) (by omega) ls H locs hl (by rw [← st_cp_s σ x i (sp_sc P (σ a) K) rfl]; exact hW)
  exact loop 31 0 (by omega) ls _ _ hl (by rw [st_cp_0]; exact hW)
