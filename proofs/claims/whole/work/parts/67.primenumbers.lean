/-! Prime numbers in class and reference, over any pool (printed by gen/primes.py) -/
theorem dm_PP_isPrimeNumber_0 : decode bm_PP_isPrimeNumber 0 = .ok (.iload_n 0, 1) := by decide +kernel
theorem dm_PP_isPrimeNumber_1 : decode bm_PP_isPrimeNumber 1 = .ok (.iconst 2, 1) := by decide +kernel
theorem dm_PP_isPrimeNumber_2 : decode bm_PP_isPrimeNumber 2 = .ok (.irem, 1) := by decide +kernel
theorem dm_PP_isPrimeNumber_3 : decode bm_PP_isPrimeNumber 3 = .ok (.ifCond .ne 5, 3) := by decide +kernel
theorem dm_PP_isPrimeNumber_6 : decode bm_PP_isPrimeNumber 6 = .ok (.iconst 0, 1) := by decide +kernel
theorem dm_PP_isPrimeNumber_7 : decode bm_PP_isPrimeNumber 7 = .ok (.ireturn, 1) := by decide +kernel
theorem dm_PP_isPrimeNumber_8 : decode bm_PP_isPrimeNumber 8 = .ok (.ldc2_w 188, 3) := by decide +kernel
theorem dm_PP_isPrimeNumber_11 : decode bm_PP_isPrimeNumber 11 = .ok (.lstore_n 1, 1) := by decide +kernel
theorem dm_PP_isPrimeNumber_12 : decode bm_PP_isPrimeNumber 12 = .ok (.lload_n 1, 1) := by decide +kernel
theorem dm_PP_isPrimeNumber_13 : decode bm_PP_isPrimeNumber 13 = .ok (.lload_n 1, 1) := by decide +kernel
theorem dm_PP_isPrimeNumber_14 : decode bm_PP_isPrimeNumber 14 = .ok (.lmul, 1) := by decide +kernel
theorem dm_PP_isPrimeNumber_15 : decode bm_PP_isPrimeNumber 15 = .ok (.iload_n 0, 1) := by decide +kernel
theorem dm_PP_isPrimeNumber_16 : decode bm_PP_isPrimeNumber 16 = .ok (.i2l, 1) := by decide +kernel
theorem dm_PP_isPrimeNumber_17 : decode bm_PP_isPrimeNumber 17 = .ok (.lcmp, 1) := by decide +kernel
theorem dm_PP_isPrimeNumber_18 : decode bm_PP_isPrimeNumber 18 = .ok (.ifCond .gt 23, 3) := by decide +kernel
theorem dm_PP_isPrimeNumber_21 : decode bm_PP_isPrimeNumber 21 = .ok (.iload_n 0, 1) := by decide +kernel
theorem dm_PP_isPrimeNumber_22 : decode bm_PP_isPrimeNumber 22 = .ok (.i2l, 1) := by decide +kernel
theorem dm_PP_isPrimeNumber_23 : decode bm_PP_isPrimeNumber 23 = .ok (.lload_n 1, 1) := by decide +kernel
theorem dm_PP_isPrimeNumber_24 : decode bm_PP_isPrimeNumber 24 = .ok (.lrem, 1) := by decide +kernel
theorem dm_PP_isPrimeNumber_25 : decode bm_PP_isPrimeNumber 25 = .ok (.lconst 0, 1) := by decide +kernel
theorem dm_PP_isPrimeNumber_26 : decode bm_PP_isPrimeNumber 26 = .ok (.lcmp, 1) := by decide +kernel
theorem dm_PP_isPrimeNumber_27 : decode bm_PP_isPrimeNumber 27 = .ok (.ifCond .ne 5, 3) := by decide +kernel
theorem dm_PP_isPrimeNumber_30 : decode bm_PP_isPrimeNumber 30 = .ok (.iconst 0, 1) := by decide +kernel
theorem dm_PP_isPrimeNumber_31 : decode bm_PP_isPrimeNumber 31 = .ok (.ireturn, 1) := by decide +kernel
theorem dm_PP_isPrimeNumber_32 : decode bm_PP_isPrimeNumber 32 = .ok (.lload_n 1, 1) := by decide +kernel
theorem dm_PP_isPrimeNumber_33 : decode bm_PP_isPrimeNumber 33 = .ok (.ldc2_w 190, 3) := by decide +kernel
theorem dm_PP_isPrimeNumber_36 : decode bm_PP_isPrimeNumber 36 = .ok (.ladd, 1) := by decide +kernel
theorem dm_PP_isPrimeNumber_37 : decode bm_PP_isPrimeNumber 37 = .ok (.lstore_n 1, 1) := by decide +kernel
theorem dm_PP_isPrimeNumber_38 : decode bm_PP_isPrimeNumber 38 = .ok (.goto (-26), 3) := by decide +kernel
theorem dm_PP_isPrimeNumber_41 : decode bm_PP_isPrimeNumber 41 = .ok (.iconst 1, 1) := by decide +kernel
theorem dm_PP_isPrimeNumber_42 : decode bm_PP_isPrimeNumber 42 = .ok (.ireturn, 1) := by decide +kernel
theorem dm_PP_greatestPrimeUpTo_0 : decode bm_PP_greatestPrimeUpTo 0 = .ok (.iload_n 0, 1) := by decide +kernel
theorem dm_PP_greatestPrimeUpTo_1 : decode bm_PP_greatestPrimeUpTo 1 = .ok (.istore_n 1, 1) := by decide +kernel
theorem dm_PP_greatestPrimeUpTo_2 : decode bm_PP_greatestPrimeUpTo 2 = .ok (.iload_n 1, 1) := by decide +kernel
theorem dm_PP_greatestPrimeUpTo_3 : decode bm_PP_greatestPrimeUpTo 3 = .ok (.iconst 2, 1) := by decide +kernel
theorem dm_PP_greatestPrimeUpTo_4 : decode bm_PP_greatestPrimeUpTo 4 = .ok (.if_icmp .le 18, 3) := by decide +kernel
theorem dm_PP_greatestPrimeUpTo_7 : decode bm_PP_greatestPrimeUpTo 7 = .ok (.iload_n 1, 1) := by decide +kernel
theorem dm_PP_greatestPrimeUpTo_8 : decode bm_PP_greatestPrimeUpTo 8 = .ok (.invokestatic 185, 3) := by decide +kernel
theorem dm_PP_greatestPrimeUpTo_11 : decode bm_PP_greatestPrimeUpTo 11 = .ok (.ifCond .eq 5, 3) := by decide +kernel
theorem dm_PP_greatestPrimeUpTo_14 : decode bm_PP_greatestPrimeUpTo 14 = .ok (.iload_n 1, 1) := by decide +kernel
theorem dm_PP_greatestPrimeUpTo_15 : decode bm_PP_greatestPrimeUpTo 15 = .ok (.ireturn, 1) := by decide +kernel
theorem dm_PP_greatestPrimeUpTo_16 : decode bm_PP_greatestPrimeUpTo 16 = .ok (.iinc 1 (-1), 3) := by decide +kernel
theorem dm_PP_greatestPrimeUpTo_19 : decode bm_PP_greatestPrimeUpTo 19 = .ok (.goto (-17), 3) := by decide +kernel
theorem dm_PP_greatestPrimeUpTo_22 : decode bm_PP_greatestPrimeUpTo 22 = .ok (.iconst 2, 1) := by decide +kernel
theorem dm_PP_greatestPrimeUpTo_23 : decode bm_PP_greatestPrimeUpTo 23 = .ok (.ireturn, 1) := by decide +kernel
theorem dm_Model_isPrimeNumber_0 : decode bm_Model_isPrimeNumber 0 = .ok (.iconst 2, 1) := by decide +kernel
theorem dm_Model_isPrimeNumber_1 : decode bm_Model_isPrimeNumber 1 = .ok (.istore_n 1, 1) := by decide +kernel
theorem dm_Model_isPrimeNumber_2 : decode bm_Model_isPrimeNumber 2 = .ok (.iload_n 1, 1) := by decide +kernel
theorem dm_Model_isPrimeNumber_3 : decode bm_Model_isPrimeNumber 3 = .ok (.i2l, 1) := by decide +kernel
theorem dm_Model_isPrimeNumber_4 : decode bm_Model_isPrimeNumber 4 = .ok (.iload_n 1, 1) := by decide +kernel
theorem dm_Model_isPrimeNumber_5 : decode bm_Model_isPrimeNumber 5 = .ok (.i2l, 1) := by decide +kernel
theorem dm_Model_isPrimeNumber_6 : decode bm_Model_isPrimeNumber 6 = .ok (.lmul, 1) := by decide +kernel
theorem dm_Model_isPrimeNumber_7 : decode bm_Model_isPrimeNumber 7 = .ok (.iload_n 0, 1) := by decide +kernel
theorem dm_Model_isPrimeNumber_8 : decode bm_Model_isPrimeNumber 8 = .ok (.i2l, 1) := by decide +kernel
theorem dm_Model_isPrimeNumber_9 : decode bm_Model_isPrimeNumber 9 = .ok (.lcmp, 1) := by decide +kernel
theorem dm_Model_isPrimeNumber_10 : decode bm_Model_isPrimeNumber 10 = .ok (.ifCond .gt 17, 3) := by decide +kernel
theorem dm_Model_isPrimeNumber_13 : decode bm_Model_isPrimeNumber 13 = .ok (.iload_n 0, 1) := by decide +kernel
theorem dm_Model_isPrimeNumber_14 : decode bm_Model_isPrimeNumber 14 = .ok (.iload_n 1, 1) := by decide +kernel
theorem dm_Model_isPrimeNumber_15 : decode bm_Model_isPrimeNumber 15 = .ok (.irem, 1) := by decide +kernel
theorem dm_Model_isPrimeNumber_16 : decode bm_Model_isPrimeNumber 16 = .ok (.ifCond .ne 5, 3) := by decide +kernel
theorem dm_Model_isPrimeNumber_19 : decode bm_Model_isPrimeNumber 19 = .ok (.iconst 0, 1) := by decide +kernel
theorem dm_Model_isPrimeNumber_20 : decode bm_Model_isPrimeNumber 20 = .ok (.ireturn, 1) := by decide +kernel
theorem dm_Model_isPrimeNumber_21 : decode bm_Model_isPrimeNumber 21 = .ok (.iinc 1 1, 3) := by decide +kernel
theorem dm_Model_isPrimeNumber_24 : decode bm_Model_isPrimeNumber 24 = .ok (.goto (-22), 3) := by decide +kernel
theorem dm_Model_isPrimeNumber_27 : decode bm_Model_isPrimeNumber 27 = .ok (.iconst 1, 1) := by decide +kernel
theorem dm_Model_isPrimeNumber_28 : decode bm_Model_isPrimeNumber 28 = .ok (.ireturn, 1) := by decide +kernel
theorem lq_gt {a b : Nat} (h : b < a) (ha : a < 2 ^ 63) : lg_cmp (lN a) (lN b) = nI 1 := by
  unfold lg_cmp
  rw [if_pos (show lN a > lN b from (pk_lLT (by omega) ha).mpr h)]
  rfl
theorem lq_eq (a : Nat) : lg_cmp (lN a) (lN a) = nI 0 := by
  unfold lg_cmp
  rw [if_neg (show ¬ lN a > lN a from Int64.lt_irrefl), if_pos rfl]
  rfl
theorem lq_le {a b : Nat} (h : a ≤ b) (hb : b < 2 ^ 63) : (lg_cmp (lN a) (lN b)).toInt ≤ 0 := by
  unfold lg_cmp
  rw [if_neg (show ¬ lN a > lN b from fun z => absurd ((pk_lLT hb (by omega)).mp z) (by omega))]
  split <;> decide
theorem nI_m1 (n : Nat) : nI (n + 1) + Int32.ofInt (-1) = nI n := by
  rw [show Int32.ofInt (-1) = -1 by decide]
  show nI (n + 1) + -1 = nI n
  rw [← Int32.sub_eq_add_neg]
  exact nI_pred n
theorem pn_b {t n : Nat} (h : t * t ≤ n) (hn : n < 2147483648) : t < 46341 := by
  refine Nat.lt_of_not_le (fun hle => ?_)
  have h1 : 46341 * 46341 ≤ t * t := Nat.mul_le_mul hle hle
  omega
theorem pn_b2 {t : Nat} (h : t ≤ 46500) : t * t < 2 ^ 63 := by
  have h1 : t * t ≤ 46500 * 46500 := Nat.mul_le_mul h h
  omega
set_option maxHeartbeats 4000000 in
set_option maxRecDepth 100000 in
theorem mm_PP_isPrimeNumber (l : Launch) (D : va_G) (k : ClassId × ClassId × ClassId) (g : Nat → Nat) (N : Nat) (E : Nat → va_E) {n : Nat} (h3 : 3 ≤ n) (h31 : n < 2147483648) : ct_I l ym_PP_isPrimeNumber wm_PP_isPrimeNumber rm_PP_isPrimeNumber [.int (nI n)] D cl_s (ty_s k) g N (fun (_ : Unit) => E) () (fun r _ => (ag_pr n ∧ r = nI 1) ∨ (¬ ag_pr n ∧ r = nI 0)) := by
  refine ct_Z_in (cc := bm_PP_isPrimeNumber) (maxL := 3) (by decide) rfl (Nat.le_of_ble_eq_true rfl) ?_
  intro p e s m args below meth c A ls Q S hl hW hret
  have S : pw_S p m c bm_PP_isPrimeNumber 3 s args wa_g rc_PP D cl_s (ty_s k) := S
  have hx := S.1.1
  have hb := S.1.2.1
  have hl : lv_has ls 3 [(0, .int (nI n))] := hl
  have loop : ∀ d t, 46500 ≤ t + d → 3 ≤ t → t ≤ 46500 → t % 2 = 1 → n % 2 = 1 → (∀ u, 3 ≤ u → u < t → u % 2 = 1 → ¬ u ∣ n) → ∀ (ls : Array Slot), lv_has ls 3 [(1, .long (lN t)), (0, .int (nI n))] → W p l e rm_PP_isPrimeNumber s m args below meth c s.heap [] 0 0 Q (F0 m 12 ls []) := by
    intro d
    induction d with
    | zero =>
      intro t ht t3 t5 to no hu ls hl
      have hbig : n < t * t := by
        have h1 : 46500 * 46500 ≤ t * t := Nat.mul_le_mul (by omega) (by omega)
        omega
      refine lv_lload_n hx hb dm_PP_isPrimeNumber_12 rfl (lv_at hl 0 rfl) ?_
      refine lv_lload_n hx hb dm_PP_isPrimeNumber_13 rfl (lv_at hl 0 rfl) ?_
      refine wn_lmul S dm_PP_isPrimeNumber_14 ?_
      refine lv_iload_n hx hb dm_PP_isPrimeNumber_15 rfl (lv_at hl 1 rfl) ?_
      refine wn_i2l S (by omega) dm_PP_isPrimeNumber_16 ?_
      refine W.lcmp hx hb dm_PP_isPrimeNumber_17 ?_
      rw [lq_gt hbig (pn_b2 t5)]
      refine wi_if_gt (tgt := 41) S (nn_T (by decide)) dm_PP_isPrimeNumber_18 (by decide) (fun hc => ?_) (fun hc => ?_)
      · refine lv_iconst (v := nI (1)) hx hb dm_PP_isPrimeNumber_41 (by decide) ?_
        exact hret _ _ _ _ _ () dm_PP_isPrimeNumber_42 (by decide) (Or.inl ⟨pn_odd h3 no (fun u u3 uo us => hu u u3 (Nat.lt_of_not_le (fun hle => by
          have h1 : t * t ≤ u * u := Nat.mul_le_mul hle hle
          omega)) uo), rfl⟩) hW
      · exfalso
        omega
    | succ d ih =>
      intro t ht t3 t5 to no hu ls hl
      refine lv_lload_n hx hb dm_PP_isPrimeNumber_12 rfl (lv_at hl 0 rfl) ?_
      refine lv_lload_n hx hb dm_PP_isPrimeNumber_13 rfl (lv_at hl 0 rfl) ?_
      refine wn_lmul S dm_PP_isPrimeNumber_14 ?_
      refine lv_iload_n hx hb dm_PP_isPrimeNumber_15 rfl (lv_at hl 1 rfl) ?_
      refine wn_i2l S (by omega) dm_PP_isPrimeNumber_16 ?_
      refine W.lcmp hx hb dm_PP_isPrimeNumber_17 ?_
      by_cases hbig : n < t * t
      · rw [lq_gt hbig (pn_b2 t5)]
        refine wi_if_gt (tgt := 41) S (nn_T (by decide)) dm_PP_isPrimeNumber_18 (by decide) (fun hc => ?_) (fun hc => ?_)
        · refine lv_iconst (v := nI (1)) hx hb dm_PP_isPrimeNumber_41 (by decide) ?_
          exact hret _ _ _ _ _ () dm_PP_isPrimeNumber_42 (by decide) (Or.inl ⟨pn_odd h3 no (fun u u3 uo us => hu u u3 (Nat.lt_of_not_le (fun hle => by
            have h1 : t * t ≤ u * u := Nat.mul_le_mul hle hle
            omega)) uo), rfl⟩) hW
        · exfalso
          omega
      · have hle : t * t ≤ n := by omega
        have htb := pn_b hle h31
        have hlt := pn_sq (by omega) hle
        have hc0 := lq_le hle (show n < 2 ^ 63 by omega)
        refine wi_if_gt (tgt := 41) S rfl dm_PP_isPrimeNumber_18 (by decide) (fun hc => ?_) (fun hc => ?_)
        · exfalso
          omega
        · refine lv_iload_n hx hb dm_PP_isPrimeNumber_21 rfl (lv_at hl 1 rfl) ?_
          refine wn_i2l S (by omega) dm_PP_isPrimeNumber_22 ?_
          refine lv_lload_n hx hb dm_PP_isPrimeNumber_23 rfl (lv_at hl 0 rfl) ?_
          refine wn_lrem S (by omega) (by omega) (by omega) dm_PP_isPrimeNumber_24 ?_
          refine lv_lconst (v := lN (0)) hx hb dm_PP_isPrimeNumber_25 (by decide) ?_
          refine W.lcmp hx hb dm_PP_isPrimeNumber_26 ?_
          by_cases hz : n % t = 0
          · rw [hz, lq_eq 0]
            refine wi_if_ne (tgt := 32) S (nn_T (by decide)) dm_PP_isPrimeNumber_27 (by decide) (fun hc => ?_) (fun hc => ?_)
            · exact absurd rfl hc
            · refine lv_iconst (v := nI (0)) hx hb dm_PP_isPrimeNumber_30 (by decide) ?_
              exact hret _ _ _ _ _ () dm_PP_isPrimeNumber_31 (by decide) (Or.inr ⟨pn_no (by omega) hlt (Nat.dvd_of_mod_eq_zero hz), rfl⟩) hW
          · have hm := Nat.mod_lt n (show 0 < t by omega)
            rw [lq_gt (show 0 < n % t by omega) (by omega)]
            refine wi_if_ne (tgt := 32) S (nn_T (by decide)) dm_PP_isPrimeNumber_27 (by decide) (fun hc => ?_) (fun hc => ?_)
            · refine lv_lload_n hx hb dm_PP_isPrimeNumber_32 rfl (lv_at hl 0 rfl) ?_
              refine lv_ldc2 (v := lN 2) hx hb S.1.2.2.2.1 (S.1.2.2.2.2 _ (wa_in 29 (by decide +kernel) rfl)) dm_PP_isPrimeNumber_33 ?_
              refine wn_ladd S dm_PP_isPrimeNumber_36 ?_
              refine lv_lstore_n hx hb dm_PP_isPrimeNumber_37 rfl hl (by decide) rfl (fun ls hl => ?_)
              have hl : lv_has ls 3 [(1, .long (lN (t + 2))), (0, .int (nI n))] := hl
              refine lv_goto (tgt := 12) hx hb dm_PP_isPrimeNumber_38 (by decide) ?_
              refine ih (t + 2) (by omega) (by omega) (by omega) (by omega) no (fun u u3 ut uo => ?_) ls hl
              by_cases hut : u < t
              · exact hu u u3 hut uo
              · have hut : u = t := by omega
                rw [hut]
                exact fun hd => hz (Nat.mod_eq_zero_of_dvd hd)
            · exfalso
              omega
  refine lv_iload_n hx hb dm_PP_isPrimeNumber_0 rfl (lv_at hl 0 rfl) ?_
  refine lv_iconst (v := nI (2)) hx hb dm_PP_isPrimeNumber_1 (by decide) ?_
  refine wn_irem S (by omega) (by decide) (by decide) dm_PP_isPrimeNumber_2 ?_
  refine wi_if_ne (tgt := 8) S (nn_T (by omega)) dm_PP_isPrimeNumber_3 (by decide) (fun hc => ?_) (fun hc => ?_)
  · refine lv_ldc2 (v := lN 3) hx hb S.1.2.2.2.1 (S.1.2.2.2.2 _ (wa_in 28 (by decide +kernel) rfl)) dm_PP_isPrimeNumber_8 ?_
    refine lv_lstore_n hx hb dm_PP_isPrimeNumber_11 rfl hl (by decide) rfl (fun ls hl => ?_)
    have hl : lv_has ls 3 [(1, .long (lN 3)), (0, .int (nI n))] := hl
    exact loop 46500 3 (by omega) (by omega) (by omega) (by omega) (by omega) (fun u u3 ut => by omega) ls hl
  · refine lv_iconst (v := nI (0)) hx hb dm_PP_isPrimeNumber_6 (by decide) ?_
    exact hret _ _ _ _ _ () dm_PP_isPrimeNumber_7 (by decide) (Or.inr ⟨pn_even h3 (by omega), rfl⟩) hW
set_option maxHeartbeats 4000000 in
set_option maxRecDepth 100000 in
theorem mm_PP_greatestPrimeUpTo (l : Launch) (D : va_G) (k : ClassId × ClassId × ClassId) (g : Nat → Nat) (N : Nat) (E : Nat → va_E) {L : Int32} : ct_I l ym_PP_greatestPrimeUpTo wm_PP_greatestPrimeUpTo rm_PP_greatestPrimeUpTo [.int L] D cl_s (ty_s k) g N (fun (_ : Unit) => E) () (fun r _ => ∃ P, pn_is L.toInt.toNat P ∧ P < 2147483648 ∧ r = nI P) := by
  refine ct_I_in (cc := bm_PP_greatestPrimeUpTo) (maxL := 2) (by decide) rfl (Nat.le_of_ble_eq_true rfl) ?_
  intro p e s m args below meth c A ls Q S hl hW hret
  have S : pw_S p m c bm_PP_greatestPrimeUpTo 2 s args wa_g rc_PP D cl_s (ty_s k) := S
  have hx := S.1.1
  have hb := S.1.2.1
  have hl : lv_has ls 2 [(0, .int L)] := hl
  refine lv_iload_n hx hb dm_PP_greatestPrimeUpTo_0 rfl (lv_at hl 0 rfl) ?_
  refine lv_istore_n hx hb dm_PP_greatestPrimeUpTo_1 rfl hl (by decide) rfl (fun ls hl => ?_)
  have hl : lv_has ls 2 [(1, .int L), (0, .int L)] := hl
  by_cases hL : L.toInt ≤ 2
  · refine lv_iload_n hx hb dm_PP_greatestPrimeUpTo_2 rfl (lv_at hl 0 rfl) ?_
    refine lv_iconst (v := nI (2)) hx hb dm_PP_greatestPrimeUpTo_3 (by decide) ?_
    refine wi_icmp_le (tgt := 22) S rfl (nn_T (by decide)) dm_PP_greatestPrimeUpTo_4 (by decide) (fun hc => ?_) (fun hc => ?_)
    · refine lv_iconst (v := nI (2)) hx hb dm_PP_greatestPrimeUpTo_22 (by decide) ?_
      exact hret _ _ _ _ _ () dm_PP_greatestPrimeUpTo_23 ⟨2, pn_low (by omega), by decide, rfl⟩ hW
    · exfalso
      omega
  · have hT : L.toInt < 2147483648 := Int32.toInt_lt L
    have hLn : L = nI L.toInt.toNat := Int32.toInt_inj.mp (by rw [nI_toInt (by omega)]; omega)
    have loop : ∀ n, n < 2147483648 → (∀ Q, pn_is n Q → pn_is L.toInt.toNat Q) → ∀ (ls : Array Slot) (H : Heap) (locs : List Loc), lv_has ls 2 [(1, .int (nI n)), (0, .int L)] → pw_H D cl_s A s.heap g N E H locs → W p l e rm_PP_greatestPrimeUpTo s m args below meth c H locs 0 0 Q (F0 m 2 ls []) := by
      intro n
      induction n with
      | zero =>
        intro hn hq ls H locs hl hW
        refine lv_iload_n hx hb dm_PP_greatestPrimeUpTo_2 rfl (lv_at hl 0 rfl) ?_
        refine lv_iconst (v := nI (2)) hx hb dm_PP_greatestPrimeUpTo_3 (by decide) ?_
        refine wi_icmp_le (tgt := 22) S (nn_T (by decide)) (nn_T (by decide)) dm_PP_greatestPrimeUpTo_4 (by decide) (fun hc => ?_) (fun hc => ?_)
        · refine lv_iconst (v := nI (2)) hx hb dm_PP_greatestPrimeUpTo_22 (by decide) ?_
          exact hret _ _ _ _ _ () dm_PP_greatestPrimeUpTo_23 ⟨2, hq 2 (pn_low (by omega)), by decide, rfl⟩ hW
        · exfalso
          omega
      | succ n ih =>
        intro hn hq ls H locs hl hW
        refine lv_iload_n hx hb dm_PP_greatestPrimeUpTo_2 rfl (lv_at hl 0 rfl) ?_
        refine lv_iconst (v := nI (2)) hx hb dm_PP_greatestPrimeUpTo_3 (by decide) ?_
        refine wi_icmp_le (tgt := 22) S (nn_T (by omega)) (nn_T (by decide)) dm_PP_greatestPrimeUpTo_4 (by decide) (fun hc => ?_) (fun hc => ?_)
        · refine lv_iconst (v := nI (2)) hx hb dm_PP_greatestPrimeUpTo_22 (by decide) ?_
          exact hret _ _ _ _ _ () dm_PP_greatestPrimeUpTo_23 ⟨2, hq 2 (pn_low (by omega)), by decide, rfl⟩ hW
        · refine lv_iload_n hx hb dm_PP_greatestPrimeUpTo_7 rfl (lv_at hl 0 rfl) ?_
          refine pw_callSI (rest := []) S hW (mm_PP_isPrimeNumber l D k g N E (show 3 ≤ n + 1 by omega) hn) (cv_PP_185 S.1.2.2.2.2 ⟨by decide, by decide⟩) rfl hl.1 rfl (lv_room (Nat.le_of_ble_eq_true rfl)) ⟨Nat.zero_le _, Nat.zero_le _⟩ dm_PP_greatestPrimeUpTo_8 (fun r u H locs hp hW => ?_)
          rcases hp with ⟨hp, hr⟩ | ⟨hp, hr⟩
          · rw [hr]
            refine wi_if_eq (tgt := 16) S (nn_T (by decide)) dm_PP_greatestPrimeUpTo_11 (by decide) (fun hc => ?_) (fun hc => ?_)
            · exfalso
              omega
            · refine lv_iload_n hx hb dm_PP_greatestPrimeUpTo_14 rfl (lv_at hl 0 rfl) ?_
              exact hret _ _ _ _ _ () dm_PP_greatestPrimeUpTo_15 ⟨n + 1, hq _ (pn_hit hp), hn, rfl⟩ hW
          · rw [hr]
            refine wi_if_eq (tgt := 16) S (nn_T (by decide)) dm_PP_greatestPrimeUpTo_11 (by decide) (fun hc => ?_) (fun hc => ?_)
            · refine lv_iinc (k := 0) (v := nI n) hx hb dm_PP_greatestPrimeUpTo_16 hl rfl (nI_m1 n) (by decide) rfl (fun ls hl => ?_)
              have hl : lv_has ls 2 [(1, .int (nI n)), (0, .int L)] := hl
              refine lv_goto (tgt := 2) hx hb dm_PP_greatestPrimeUpTo_19 (by decide) ?_
              exact ih (by omega) (fun Q hQ => hq Q (pn_step hp hQ)) ls H locs hl hW
            · exfalso
              omega
    exact loop L.toInt.toNat (by omega) (fun Q hQ => hQ) ls _ _ (by rw [← hLn]; exact hl) hW
set_option maxHeartbeats 4000000 in
set_option maxRecDepth 100000 in
theorem mm_Model_isPrimeNumber (l : Launch) (D : va_G) (k : ClassId × ClassId × ClassId) (g : Nat → Nat) (N : Nat) (E : Nat → va_E) {n : Nat} (h2 : 2 ≤ n) (h31 : n < 2147483648) : ct_I l ym_Model_isPrimeNumber wm_Model_isPrimeNumber rm_Model_isPrimeNumber [.int (nI n)] D cl_s (ty_s k) g N (fun (_ : Unit) => E) () (fun r _ => (ag_pr n ∧ r = nI 1) ∨ (¬ ag_pr n ∧ r = nI 0)) := by
  refine ct_Z_in (cc := bm_Model_isPrimeNumber) (maxL := 2) (by decide) rfl (Nat.le_of_ble_eq_true rfl) ?_
  intro p e s m args below meth c A ls Q S hl hW hret
  have S : pw_S p m c bm_Model_isPrimeNumber 2 s args wa_g rc_Model D cl_s (ty_s k) := S
  have hx := S.1.1
  have hb := S.1.2.1
  have hl : lv_has ls 2 [(0, .int (nI n))] := hl
  have loop : ∀ d t, 46500 = t + d → 2 ≤ t → (∀ u, 2 ≤ u → u < t → ¬ u ∣ n) → ∀ (ls : Array Slot), lv_has ls 2 [(1, .int (nI t)), (0, .int (nI n))] → W p l e rm_Model_isPrimeNumber s m args below meth c s.heap [] 0 0 Q (F0 m 2 ls []) := by
    intro d
    induction d with
    | zero =>
      intro t ht t3 hu ls hl
      have hbig : n < t * t := by
        have h1 : 46500 * 46500 ≤ t * t := Nat.mul_le_mul (by omega) (by omega)
        omega
      refine lv_iload_n hx hb dm_Model_isPrimeNumber_2 rfl (lv_at hl 0 rfl) ?_
      refine wn_i2l S (by omega) dm_Model_isPrimeNumber_3 ?_
      refine lv_iload_n hx hb dm_Model_isPrimeNumber_4 rfl (lv_at hl 0 rfl) ?_
      refine wn_i2l S (by omega) dm_Model_isPrimeNumber_5 ?_
      refine wn_lmul S dm_Model_isPrimeNumber_6 ?_
      refine lv_iload_n hx hb dm_Model_isPrimeNumber_7 rfl (lv_at hl 1 rfl) ?_
      refine wn_i2l S (by omega) dm_Model_isPrimeNumber_8 ?_
      refine W.lcmp hx hb dm_Model_isPrimeNumber_9 ?_
      rw [lq_gt hbig (pn_b2 (by omega))]
      refine wi_if_gt (tgt := 27) S (nn_T (by decide)) dm_Model_isPrimeNumber_10 (by decide) (fun hc => ?_) (fun hc => ?_)
      · refine lv_iconst (v := nI (1)) hx hb dm_Model_isPrimeNumber_27 (by decide) ?_
        exact hret _ _ _ _ _ () dm_Model_isPrimeNumber_28 (by decide) (Or.inl ⟨pn_td h2 (fun u u3 us => hu u u3 (Nat.lt_of_not_le (fun hle => by
          have h1 : t * t ≤ u * u := Nat.mul_le_mul hle hle
          omega))), rfl⟩) hW
      · exfalso
        omega
    | succ d ih =>
      intro t ht t3 hu ls hl
      refine lv_iload_n hx hb dm_Model_isPrimeNumber_2 rfl (lv_at hl 0 rfl) ?_
      refine wn_i2l S (by omega) dm_Model_isPrimeNumber_3 ?_
      refine lv_iload_n hx hb dm_Model_isPrimeNumber_4 rfl (lv_at hl 0 rfl) ?_
      refine wn_i2l S (by omega) dm_Model_isPrimeNumber_5 ?_
      refine wn_lmul S dm_Model_isPrimeNumber_6 ?_
      refine lv_iload_n hx hb dm_Model_isPrimeNumber_7 rfl (lv_at hl 1 rfl) ?_
      refine wn_i2l S (by omega) dm_Model_isPrimeNumber_8 ?_
      refine W.lcmp hx hb dm_Model_isPrimeNumber_9 ?_
      by_cases hbig : n < t * t
      · rw [lq_gt hbig (pn_b2 (by omega))]
        refine wi_if_gt (tgt := 27) S (nn_T (by decide)) dm_Model_isPrimeNumber_10 (by decide) (fun hc => ?_) (fun hc => ?_)
        · refine lv_iconst (v := nI (1)) hx hb dm_Model_isPrimeNumber_27 (by decide) ?_
          exact hret _ _ _ _ _ () dm_Model_isPrimeNumber_28 (by decide) (Or.inl ⟨pn_td h2 (fun u u3 us => hu u u3 (Nat.lt_of_not_le (fun hle => by
            have h1 : t * t ≤ u * u := Nat.mul_le_mul hle hle
            omega))), rfl⟩) hW
        · exfalso
          omega
      · have hle : t * t ≤ n := by omega
        have htb := pn_b hle h31
        have hlt := pn_sq t3 hle
        have hc0 := lq_le hle (show n < 2 ^ 63 by omega)
        refine wi_if_gt (tgt := 27) S rfl dm_Model_isPrimeNumber_10 (by decide) (fun hc => ?_) (fun hc => ?_)
        · exfalso
          omega
        · refine lv_iload_n hx hb dm_Model_isPrimeNumber_13 rfl (lv_at hl 1 rfl) ?_
          refine lv_iload_n hx hb dm_Model_isPrimeNumber_14 rfl (lv_at hl 0 rfl) ?_
          refine wn_irem S (by omega) (by omega) (by omega) dm_Model_isPrimeNumber_15 ?_
          have hm := Nat.mod_lt n (show 0 < t by omega)
          refine wi_if_ne (tgt := 21) S (nn_T (by omega)) dm_Model_isPrimeNumber_16 (by decide) (fun hc => ?_) (fun hc => ?_)
          · refine lv_iinc (k := 0) (v := nI (t + 1)) hx hb dm_Model_isPrimeNumber_21 hl rfl (by rw [show Int32.ofInt 1 = nI 1 from rfl, nI_add]) (by decide) rfl (fun ls hl => ?_)
            have hl : lv_has ls 2 [(1, .int (nI (t + 1))), (0, .int (nI n))] := hl
            refine lv_goto (tgt := 2) hx hb dm_Model_isPrimeNumber_24 (by decide) ?_
            refine ih (t + 1) (by omega) (by omega) (fun u u3 ut => ?_) ls hl
            by_cases hut : u < t
            · exact hu u u3 hut
            · have hut : u = t := by omega
              rw [hut]
              intro hd
              have := Nat.mod_eq_zero_of_dvd hd
              omega
          · refine lv_iconst (v := nI (0)) hx hb dm_Model_isPrimeNumber_19 (by decide) ?_
            exact hret _ _ _ _ _ () dm_Model_isPrimeNumber_20 (by decide) (Or.inr ⟨pn_no t3 hlt (Nat.dvd_of_mod_eq_zero (by omega)), rfl⟩) hW
  refine lv_iconst (v := nI (2)) hx hb dm_Model_isPrimeNumber_0 (by decide) ?_
  refine lv_istore_n hx hb dm_Model_isPrimeNumber_1 rfl hl (by decide) rfl (fun ls hl => ?_)
  have hl : lv_has ls 2 [(1, .int (nI 2)), (0, .int (nI n))] := hl
  exact loop 46498 2 (by omega) (by omega) (fun u u3 ut => by omega) ls hl
