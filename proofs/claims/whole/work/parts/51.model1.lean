/-! The reference: numbers, coefficients, copies, sums -/
/-- the reference's polynomials -/
def md_wf (P : Nat) (σ : st_T) : Prop := σ 205 0 = P ∧ ∀ s, s < 33 → sp_ok P (σ (300 + s))
/-- only the rows of X differ -/
def md_sm (X : List Nat) (σ τ : st_T) : Prop := ∀ a, a ∉ X → τ a = σ a
theorem md_sm_rf (X : List Nat) (σ : st_T) : md_sm X σ σ := fun _ _ => rfl
theorem md_sm_tr {X Y Z : List Nat} {σ τ υ : st_T} (h1 : md_sm X σ τ) (h2 : md_sm Y τ υ) (hX : ∀ a ∈ X, a ∈ Z) (hY : ∀ a ∈ Y, a ∈ Z) : md_sm Z σ υ := fun a ha => by
  rw [h2 a (fun h => ha (hY a h)), h1 a (fun h => ha (hX a h))]
theorem md_sm_mo {X Y : List Nat} {σ τ : st_T} (h : md_sm X σ τ) (hX : ∀ a ∈ X, a ∈ Y) : md_sm Y σ τ := fun a ha => h a (fun z => ha (hX a z))
theorem md_lt {P : Nat} {σ : st_T} (hw : md_wf P σ) {s : Nat} (hs : s < 33) (i : Nat) : σ (300 + s) i < P := (hw.2 s hs i).1
theorem md_wf_rw {P : Nat} {σ τ : st_T} {s : Nat} (hw : md_wf P σ) (h1 : ∀ a, a ≠ 300 + s → τ a = σ a) (h2 : sp_ok P (τ (300 + s))) : md_wf P τ := by
  refine ⟨by rw [h1 205 (by omega)]; exact hw.1, fun t ht => ?_⟩
  by_cases h : t = s
  · rw [h]
    exact h2
  · rw [h1 _ (by omega)]
    exact hw.2 t ht
theorem md_cp {P : Nat} {σ : st_T} {s : Nat} {f : Nat → Nat} (hw : md_wf P σ) (hs : s < 33) (hf : sp_ok P f) : md_wf P (st_cp σ (300 + s) 32 f) ∧ st_cp σ (300 + s) 32 f (300 + s) = f ∧ md_sm [300 + s] σ (st_cp σ (300 + s) 32 f) := by
  have h1 : st_cp σ (300 + s) 32 f (300 + s) = f := funext (fun b => by
    unfold st_cp
    rw [if_pos rfl]
    by_cases hb : b < 32
    · rw [if_pos hb]
    · rw [if_neg hb, (hw.2 s hs b).2 (by omega), (hf b).2 (by omega)])
  refine ⟨md_wf_rw (s := s) hw (fun a ha => st_cp_row ha) (by rw [h1]; exact hf), h1, fun a ha => st_cp_row (fun z => ha (by rw [z]; exact List.mem_singleton.mpr rfl))⟩
theorem md_rw {P : Nat} {σ : st_T} {s : Nat} {f : Nat → Nat} (hw : md_wf P σ) (hf : sp_ok P f) : md_wf P (st_rw σ (300 + s) f) ∧ st_rw σ (300 + s) f (300 + s) = f ∧ md_sm [300 + s] σ (st_rw σ (300 + s) f) := by
  refine ⟨md_wf_rw (s := s) hw (fun a ha => st_rw_row ha) (by rw [st_rw_at]; exact hf), st_rw_at, fun a ha => st_rw_row (fun z => ha (by rw [z]; exact List.mem_singleton.mpr rfl))⟩
theorem sh_i {i : Nat} (h : i < 31) : ((nI i &&& 31 : Int32).toBitVec.smod 32).toNat = i := (by decide +kernel : ∀ i, i < 31 → ((nI i &&& 31 : Int32).toBitVec.smod 32).toNat = i) i h
theorem dm_Model_prime_0 : decode bm_Model_prime 0 = .ok (.aload_n 0, 1) := by decide +kernel
theorem dm_Model_prime_1 : decode bm_Model_prime 1 = .ok (.getfield 23, 3) := by decide +kernel
theorem dm_Model_prime_4 : decode bm_Model_prime 4 = .ok (.ireturn, 1) := by decide +kernel
set_option maxHeartbeats 4000000 in
set_option maxRecDepth 100000 in
theorem mm_Model_prime (l : Launch) (D : va_G) (k : ClassId × ClassId × ClassId) (g : Nat → Nat) (σ : st_T)  : mt_I l D k g ym_Model_prime wm_Model_prime rm_Model_prime [.ref (g 149)] σ (fun r σ1 => r = nI (σ 205 0) ∧ σ1 = σ) := by
  refine ct_I_in (cc := bm_Model_prime) (maxL := 1) (by decide) rfl (Nat.le_of_ble_eq_true rfl) ?_
  intro p e s m args below meth c A ls Q S hl hW hret
  have S : pw_S p m c bm_Model_prime 1 s args wa_g rc_Model D cl_s (ty_s k) := S
  have hx := S.1.1
  have hb := S.1.2.1
  have hl : lv_has ls 1 [(0, .ref (g (149)))] := hl
  refine lv_aload_n hx hb dm_Model_prime_0 rfl (lv_at hl 0 rfl) ?_
  refine md_p S hW (wa_in 561 (by decide +kernel) rfl) dm_Model_prime_1 ?_
  exact hret _ _ _ _ _ _ dm_Model_prime_4 ⟨rfl, rfl⟩ hW
theorem dm_Model_reduce_0 : decode bm_Model_reduce 0 = .ok (.iload_n 1, 1) := by decide +kernel
theorem dm_Model_reduce_1 : decode bm_Model_reduce 1 = .ok (.aload_n 0, 1) := by decide +kernel
theorem dm_Model_reduce_2 : decode bm_Model_reduce 2 = .ok (.getfield 23, 3) := by decide +kernel
theorem dm_Model_reduce_5 : decode bm_Model_reduce 5 = .ok (.irem, 1) := by decide +kernel
theorem dm_Model_reduce_6 : decode bm_Model_reduce 6 = .ok (.ifCond .ge 17, 3) := by decide +kernel
theorem dm_Model_reduce_9 : decode bm_Model_reduce 9 = .ok (.iload_n 1, 1) := by decide +kernel
theorem dm_Model_reduce_10 : decode bm_Model_reduce 10 = .ok (.aload_n 0, 1) := by decide +kernel
theorem dm_Model_reduce_11 : decode bm_Model_reduce 11 = .ok (.getfield 23, 3) := by decide +kernel
theorem dm_Model_reduce_14 : decode bm_Model_reduce 14 = .ok (.irem, 1) := by decide +kernel
theorem dm_Model_reduce_15 : decode bm_Model_reduce 15 = .ok (.aload_n 0, 1) := by decide +kernel
theorem dm_Model_reduce_16 : decode bm_Model_reduce 16 = .ok (.getfield 23, 3) := by decide +kernel
theorem dm_Model_reduce_19 : decode bm_Model_reduce 19 = .ok (.iadd, 1) := by decide +kernel
theorem dm_Model_reduce_20 : decode bm_Model_reduce 20 = .ok (.goto 9, 3) := by decide +kernel
theorem dm_Model_reduce_23 : decode bm_Model_reduce 23 = .ok (.iload_n 1, 1) := by decide +kernel
theorem dm_Model_reduce_24 : decode bm_Model_reduce 24 = .ok (.aload_n 0, 1) := by decide +kernel
theorem dm_Model_reduce_25 : decode bm_Model_reduce 25 = .ok (.getfield 23, 3) := by decide +kernel
theorem dm_Model_reduce_28 : decode bm_Model_reduce 28 = .ok (.irem, 1) := by decide +kernel
theorem dm_Model_reduce_29 : decode bm_Model_reduce 29 = .ok (.ireturn, 1) := by decide +kernel
set_option maxHeartbeats 4000000 in
set_option maxRecDepth 100000 in
theorem mm_Model_reduce (l : Launch) (D : va_G) (k : ClassId × ClassId × ClassId) (g : Nat → Nat) (σ : st_T) {x : Int32} {P : Nat} (hpp : σ 205 0 = P) (hP : 0 < P) (hP31 : P < 2147483648) : mt_I l D k g ym_Model_reduce wm_Model_reduce rm_Model_reduce [.ref (g 149), .int x] σ (fun r σ1 => r = nI (fm_n x P) ∧ σ1 = σ) := by
  refine ct_I_in (cc := bm_Model_reduce) (maxL := 2) (by decide) rfl (Nat.le_of_ble_eq_true rfl) ?_
  intro p e s m args below meth c A ls Q S hl hW hret
  have S : pw_S p m c bm_Model_reduce 2 s args wa_g rc_Model D cl_s (ty_s k) := S
  have hx := S.1.1
  have hb := S.1.2.1
  have hl : lv_has ls 2 [(0, .ref (g (149))), (1, .int (x))] := hl
  have hyT : (x - x / nI P * nI P).toInt = x.toInt.tmod (P : Int) := by rw [fm_rem, nI_toInt hP31]
  generalize hy : x - x / nI P * nI P = y at hyT
  have hT : x.toInt.tmod (P : Int) = y.toInt := hyT.symm
  have hup := Int.tmod_lt_of_pos x.toInt (show (0 : Int) < P by omega)
  have hlo := Int.lt_tmod_of_pos x.toInt (show (0 : Int) < P by omega)
  rw [hT] at hup hlo
  have hfl := fm_lt (x := x) hP
  refine lv_iload_n hx hb dm_Model_reduce_0 rfl (lv_at hl 1 rfl) ?_
  refine lv_aload_n hx hb dm_Model_reduce_1 rfl (lv_at hl 0 rfl) ?_
  refine md_p S hW (wa_in 561 (by decide +kernel) rfl) dm_Model_reduce_2 ?_
  rw [hpp]
  refine lv_irem hx hb dm_Model_reduce_5 (nI_ne0 hP hP31) ?_
  rw [hy]
  refine wi_if_ge (tgt := 23) S rfl dm_Model_reduce_6 (by decide) (fun hc => ?_) (fun hc => ?_)
  · refine lv_iload_n hx hb dm_Model_reduce_23 rfl (lv_at hl 1 rfl) ?_
    refine lv_aload_n hx hb dm_Model_reduce_24 rfl (lv_at hl 0 rfl) ?_
    refine md_p S hW (wa_in 561 (by decide +kernel) rfl) dm_Model_reduce_25 ?_
    rw [hpp]
    refine lv_irem hx hb dm_Model_reduce_28 (nI_ne0 hP hP31) ?_
    rw [hy]
    have h1 := fm_pos hP hT (by omega)
    exact hret _ _ _ _ _ _ dm_Model_reduce_29 ⟨Int32.toInt_inj.mp (by rw [nI_toInt (by omega), h1]), rfl⟩ hW
  · refine lv_iload_n hx hb dm_Model_reduce_9 rfl (lv_at hl 1 rfl) ?_
    refine lv_aload_n hx hb dm_Model_reduce_10 rfl (lv_at hl 0 rfl) ?_
    refine md_p S hW (wa_in 561 (by decide +kernel) rfl) dm_Model_reduce_11 ?_
    rw [hpp]
    refine lv_irem hx hb dm_Model_reduce_14 (nI_ne0 hP hP31) ?_
    rw [hy]
    have h1 := fm_neg hP hT (by omega) hlo
    refine lv_aload_n hx hb dm_Model_reduce_15 rfl (lv_at hl 0 rfl) ?_
    refine md_p S hW (wa_in 561 (by decide +kernel) rfl) dm_Model_reduce_16 ?_
    rw [hpp]
    refine lv_iadd hx hb dm_Model_reduce_19 ?_
    refine lv_goto (tgt := 29) hx hb dm_Model_reduce_20 (by decide) ?_
    exact hret _ _ _ _ _ _ dm_Model_reduce_29 ⟨Int32.toInt_inj.mp (by rw [nI_toInt (by omega), h1, Int32.toInt_add, nI_toInt hP31, Int.bmod_def]; omega), rfl⟩ hW
theorem dm_Model_times2_0 : decode bm_Model_times2 0 = .ok (.iload_n 1, 1) := by decide +kernel
theorem dm_Model_times2_1 : decode bm_Model_times2 1 = .ok (.i2l, 1) := by decide +kernel
theorem dm_Model_times2_2 : decode bm_Model_times2 2 = .ok (.iload_n 2, 1) := by decide +kernel
theorem dm_Model_times2_3 : decode bm_Model_times2 3 = .ok (.i2l, 1) := by decide +kernel
theorem dm_Model_times2_4 : decode bm_Model_times2 4 = .ok (.lmul, 1) := by decide +kernel
theorem dm_Model_times2_5 : decode bm_Model_times2 5 = .ok (.aload_n 0, 1) := by decide +kernel
theorem dm_Model_times2_6 : decode bm_Model_times2 6 = .ok (.getfield 23, 3) := by decide +kernel
theorem dm_Model_times2_9 : decode bm_Model_times2 9 = .ok (.i2l, 1) := by decide +kernel
theorem dm_Model_times2_10 : decode bm_Model_times2 10 = .ok (.lrem, 1) := by decide +kernel
theorem dm_Model_times2_11 : decode bm_Model_times2 11 = .ok (.l2i, 1) := by decide +kernel
theorem dm_Model_times2_12 : decode bm_Model_times2 12 = .ok (.ireturn, 1) := by decide +kernel
set_option maxHeartbeats 4000000 in
set_option maxRecDepth 100000 in
theorem mm_Model_times2 (l : Launch) (D : va_G) (k : ClassId × ClassId × ClassId) (g : Nat → Nat) (σ : st_T) {P a b : Nat} (hpp : σ 205 0 = P) (hP : 0 < P) (hP31 : P < 2147483648) (ha : a < 2147483648) (hb0 : b < 2147483648) : mt_I l D k g ym_Model_times2 wm_Model_times2 rm_Model_times2 [.ref (g 149), .int (nI a), .int (nI b)] σ (fun r σ1 => r = nI (a * b % P) ∧ σ1 = σ) := by
  refine ct_I_in (cc := bm_Model_times2) (maxL := 3) (by decide) rfl (Nat.le_of_ble_eq_true rfl) ?_
  intro p e s m args below meth c A ls Q S hl hW hret
  have S : pw_S p m c bm_Model_times2 3 s args wa_g rc_Model D cl_s (ty_s k) := S
  have hx := S.1.1
  have hb := S.1.2.1
  have hl : lv_has ls 3 [(0, .ref (g (149))), (1, .int (nI (a))), (2, .int (nI (b)))] := hl
  have hm := nn_mul ha hb0
  refine lv_iload_n hx hb dm_Model_times2_0 rfl (lv_at hl 1 rfl) ?_
  refine wn_i2l S (by omega) dm_Model_times2_1 ?_
  refine lv_iload_n hx hb dm_Model_times2_2 rfl (lv_at hl 2 rfl) ?_
  refine wn_i2l S (by omega) dm_Model_times2_3 ?_
  refine wn_lmul S dm_Model_times2_4 ?_
  refine lv_aload_n hx hb dm_Model_times2_5 rfl (lv_at hl 0 rfl) ?_
  refine md_p S hW (wa_in 561 (by decide +kernel) rfl) dm_Model_times2_6 ?_
  rw [hpp]
  refine wn_i2l S (by omega) dm_Model_times2_9 ?_
  refine wn_lrem S (by omega) (by omega) (by omega) dm_Model_times2_10 ?_
  refine wn_l2i S dm_Model_times2_11 ?_
  exact hret _ _ _ _ _ _ dm_Model_times2_12 ⟨rfl, rfl⟩ hW
theorem dm_Model_raise_0 : decode bm_Model_raise 0 = .ok (.iconst 1, 1) := by decide +kernel
theorem dm_Model_raise_1 : decode bm_Model_raise 1 = .ok (.aload_n 0, 1) := by decide +kernel
theorem dm_Model_raise_2 : decode bm_Model_raise 2 = .ok (.getfield 23, 3) := by decide +kernel
theorem dm_Model_raise_5 : decode bm_Model_raise 5 = .ok (.irem, 1) := by decide +kernel
theorem dm_Model_raise_6 : decode bm_Model_raise 6 = .ok (.istore_n 3, 1) := by decide +kernel
theorem dm_Model_raise_7 : decode bm_Model_raise 7 = .ok (.bipush 30, 2) := by decide +kernel
theorem dm_Model_raise_9 : decode bm_Model_raise 9 = .ok (.istore 4, 2) := by decide +kernel
theorem dm_Model_raise_11 : decode bm_Model_raise 11 = .ok (.iload 4, 2) := by decide +kernel
theorem dm_Model_raise_13 : decode bm_Model_raise 13 = .ok (.ifCond .lt 37, 3) := by decide +kernel
theorem dm_Model_raise_16 : decode bm_Model_raise 16 = .ok (.aload_n 0, 1) := by decide +kernel
theorem dm_Model_raise_17 : decode bm_Model_raise 17 = .ok (.iload_n 3, 1) := by decide +kernel
theorem dm_Model_raise_18 : decode bm_Model_raise 18 = .ok (.iload_n 3, 1) := by decide +kernel
theorem dm_Model_raise_19 : decode bm_Model_raise 19 = .ok (.invokevirtual 27, 3) := by decide +kernel
theorem dm_Model_raise_22 : decode bm_Model_raise 22 = .ok (.istore_n 3, 1) := by decide +kernel
theorem dm_Model_raise_23 : decode bm_Model_raise 23 = .ok (.iload_n 2, 1) := by decide +kernel
theorem dm_Model_raise_24 : decode bm_Model_raise 24 = .ok (.iload 4, 2) := by decide +kernel
theorem dm_Model_raise_26 : decode bm_Model_raise 26 = .ok (.ishr, 1) := by decide +kernel
theorem dm_Model_raise_27 : decode bm_Model_raise 27 = .ok (.iconst 1, 1) := by decide +kernel
theorem dm_Model_raise_28 : decode bm_Model_raise 28 = .ok (.iand, 1) := by decide +kernel
theorem dm_Model_raise_29 : decode bm_Model_raise 29 = .ok (.iconst 1, 1) := by decide +kernel
theorem dm_Model_raise_30 : decode bm_Model_raise 30 = .ok (.if_icmp .ne 12, 3) := by decide +kernel
theorem dm_Model_raise_33 : decode bm_Model_raise 33 = .ok (.aload_n 0, 1) := by decide +kernel
theorem dm_Model_raise_34 : decode bm_Model_raise 34 = .ok (.iload_n 3, 1) := by decide +kernel
theorem dm_Model_raise_35 : decode bm_Model_raise 35 = .ok (.iload_n 1, 1) := by decide +kernel
theorem dm_Model_raise_36 : decode bm_Model_raise 36 = .ok (.invokevirtual 27, 3) := by decide +kernel
theorem dm_Model_raise_39 : decode bm_Model_raise 39 = .ok (.goto 4, 3) := by decide +kernel
theorem dm_Model_raise_42 : decode bm_Model_raise 42 = .ok (.iload_n 3, 1) := by decide +kernel
theorem dm_Model_raise_43 : decode bm_Model_raise 43 = .ok (.istore_n 3, 1) := by decide +kernel
theorem dm_Model_raise_44 : decode bm_Model_raise 44 = .ok (.iinc 4 (-1), 3) := by decide +kernel
theorem dm_Model_raise_47 : decode bm_Model_raise 47 = .ok (.goto (-36), 3) := by decide +kernel
theorem dm_Model_raise_50 : decode bm_Model_raise 50 = .ok (.iload_n 3, 1) := by decide +kernel
theorem dm_Model_raise_51 : decode bm_Model_raise 51 = .ok (.ireturn, 1) := by decide +kernel
set_option maxHeartbeats 4000000 in
set_option maxRecDepth 100000 in
theorem mm_Model_raise (l : Launch) (D : va_G) (k : ClassId × ClassId × ClassId) (g : Nat → Nat) (σ : st_T) {P a n0 : Nat} (hpp : σ 205 0 = P) (hP : 0 < P) (hP31 : P < 2147483648) (ha : a < 2147483648) (hn0 : n0 < 2147483648) : mt_I l D k g ym_Model_raise wm_Model_raise rm_Model_raise [.ref (g 149), .int (nI a), .int (nI n0)] σ (fun r σ1 => r = nI (a ^ n0 % P) ∧ σ1 = σ) := by
  refine ct_I_in (cc := bm_Model_raise) (maxL := 5) (by decide) rfl (Nat.le_of_ble_eq_true rfl) ?_
  intro p e s m args below meth c A ls Q S hl hW hret
  have S : pw_S p m c bm_Model_raise 5 s args wa_g rc_Model D cl_s (ty_s k) := S
  have hx := S.1.1
  have hb := S.1.2.1
  have hl : lv_has ls 5 [(0, .ref (g (149))), (1, .int (nI (a))), (2, .int (nI (n0)))] := hl
  refine lv_iconst (v := nI (1)) hx hb dm_Model_raise_0 (by decide) ?_
  refine lv_aload_n hx hb dm_Model_raise_1 rfl (lv_at hl 0 rfl) ?_
  refine md_p S hW (wa_in 561 (by decide +kernel) rfl) dm_Model_raise_2 ?_
  rw [hpp]
  refine wn_irem S (by omega) (by omega) (by omega) dm_Model_raise_5 ?_
  refine lv_istore_n hx hb dm_Model_raise_6 rfl hl (by decide) rfl (fun ls hl => ?_)
  have hl : lv_has ls 5 [(3, .int (nI ((1) % (P)))), (0, .ref (g (149))), (1, .int (nI (a))), (2, .int (nI (n0)))] := hl
  refine lv_bipush (v := nI (30)) hx hb dm_Model_raise_7 (by decide) ?_
  refine lv_istore hx hb dm_Model_raise_9 hl (by decide) rfl (fun ls hl => ?_)
  have hl : lv_has ls 5 [(4, .int (nI (30))), (3, .int (nI ((1) % (P)))), (0, .ref (g (149))), (1, .int (nI (a))), (2, .int (nI (n0)))] := hl
  have hl : lv_has ls 5 [(3, .int (nI ((1) % (P)))), (4, .int (nI (30))), (0, .ref (g (149))), (1, .int (nI (a))), (2, .int (nI (n0)))] := lv_sub hl [1, 0, 2, 3, 4] rfl
  have hl : lv_has ls 5 [(3, .int (nI (1 % P))), (4, .int (sd_i 31)), (0, .ref (g 149)), (1, .int (nI a)), (2, .int (nI n0))] := by
    rw [sd_s]
    exact hl
  have loop : ∀ n, n ≤ 31 → ∀ v, v < P → v = a ^ (n0 / 2 ^ n) % P → ∀ (ls : Array Slot) (H : Heap) (locs : List Loc), lv_has ls 5 [(3, .int (nI (v))), (4, .int (sd_i (n))), (0, .ref (g (149))), (1, .int (nI (a))), (2, .int (nI (n0)))] → pw_H D cl_s A s.heap g 153 (en_s k g (σ)) H locs → W p l e rm_Model_raise s m args below meth c H locs 0 0 Q (F0 m 11 ls []) := by
    intro n
    induction n with
    | zero =>
      intro hn v hv hinv ls H locs hl hW
      refine lv_iload hx hb dm_Model_raise_11 (lv_at hl 1 rfl) ?_
      refine wi_if_lt (tgt := 50) S (sd_T (by omega)) dm_Model_raise_13 (by decide) (fun hc => ?_) (fun hc => ?_)
      · refine lv_iload_n hx hb dm_Model_raise_50 rfl (lv_at hl 0 rfl) ?_
        exact hret _ _ _ _ _ _ dm_Model_raise_51 ⟨by rw [hinv, Nat.pow_zero, Nat.div_one], rfl⟩ hW
      · exfalso
        omega
    | succ n ih =>
      intro hn v hv hinv ls H locs hl hW
      refine lv_iload hx hb dm_Model_raise_11 (lv_at hl 1 rfl) ?_
      refine wi_if_lt (tgt := 50) S (sd_T (by omega)) dm_Model_raise_13 (by decide) (fun hc => ?_) (fun hc => ?_)
      · exfalso
        omega
      · rw [sd_s] at hl
        have hrs := lp_rs hinv
        refine lv_aload_n hx hb dm_Model_raise_16 rfl (lv_at hl 2 rfl) ?_
        refine lv_iload_n hx hb dm_Model_raise_17 rfl (lv_at hl 0 rfl) ?_
        refine lv_iload_n hx hb dm_Model_raise_18 rfl (lv_at hl 0 rfl) ?_
        refine pw_callVI (rest := []) S hW (mm_Model_times2 l D k g σ (P := P) hpp (by omega) (by omega) (a := v) (b := v) (by omega) (by omega)) (cv_Model_27 S.1.2.2.2.2 ⟨by decide, by decide⟩) (by decide) en_Model rfl rfl hl.1 rfl (lv_room (Nat.le_of_ble_eq_true rfl)) ⟨Nat.zero_le _, Nat.zero_le _⟩ dm_Model_raise_19 (fun r σ1 H locs hp hW => ?_)
        obtain ⟨hr, hp⟩ := hp
        rw [hp] at hW
        subst hr
        refine lv_istore_n hx hb dm_Model_raise_22 rfl hl (by decide) rfl (fun ls hl => ?_)
        have hl : lv_has ls 5 [(3, .int (nI ((v) * (v) % P))), (4, .int (nI (n))), (0, .ref (g (149))), (1, .int (nI (a))), (2, .int (nI (n0)))] := hl
        refine lv_iload_n hx hb dm_Model_raise_23 rfl (lv_at hl 4 rfl) ?_
        refine lv_iload hx hb dm_Model_raise_24 (lv_at hl 1 rfl) ?_
        refine lv_ishr hx hb dm_Model_raise_26 ?_
        rw [pk_shrN (by omega) (nI n &&& 31) n (sh_i (by omega))]
        have hdl : n0 / 2 ^ n ≤ n0 := Nat.div_le_self _ _
        have hvv : v * v % P < P := Nat.mod_lt _ hP
        refine lv_iconst (v := nI (1)) hx hb dm_Model_raise_27 (by decide) ?_
        refine wn_and1 S (by omega) dm_Model_raise_28 ?_
        refine lv_iconst (v := nI (1)) hx hb dm_Model_raise_29 (by decide) ?_
        have tail : ∀ u, u < P → u = a ^ (n0 / 2 ^ n) % P → ∀ (H : Heap) (locs : List Loc), pw_H D cl_s A s.heap g 153 (en_s k g (σ)) H locs → W p l e rm_Model_raise s m args below meth c H locs 0 0 Q (F0 m 43 ls [.int (nI u)]) := by
          intro u hu hue H locs hW
          refine lv_istore_n hx hb dm_Model_raise_43 rfl hl (by decide) rfl (fun ls hl => ?_)
          have hl : lv_has ls 5 [(3, .int (nI (u))), (4, .int (nI (n))), (0, .ref (g (149))), (1, .int (nI (a))), (2, .int (nI (n0)))] := hl
          refine lv_iinc (k := 1) (v := sd_i n) hx hb dm_Model_raise_44 hl rfl (by rw [← sd_s]; exact sd_m1 n) (by decide) rfl (fun ls hl => ?_)
          have hl : lv_has ls 5 [(4, .int (sd_i (n))), (3, .int (nI (u))), (0, .ref (g (149))), (1, .int (nI (a))), (2, .int (nI (n0)))] := hl
          refine lv_goto (tgt := 11) hx hb dm_Model_raise_47 (by decide) ?_
          have hl : lv_has ls 5 [(3, .int (nI (u))), (4, .int (sd_i (n))), (0, .ref (g (149))), (1, .int (nI (a))), (2, .int (nI (n0)))] := lv_sub hl [1, 0, 2, 3, 4] rfl
          exact ih (by omega) u hu hue ls H locs hl hW
        refine wi_icmp_ne (tgt := 42) S (nn_T (by omega)) (nn_T (by omega)) dm_Model_raise_30 (by decide) (fun hc => ?_) (fun hc => ?_)
        · refine lv_iload_n hx hb dm_Model_raise_42 rfl (lv_at hl 0 rfl) ?_
          exact tail (v * v % P) hvv (by rw [if_neg (by omega)] at hrs; exact hrs) _ _ hW
        · refine lv_aload_n hx hb dm_Model_raise_33 rfl (lv_at hl 2 rfl) ?_
          refine lv_iload_n hx hb dm_Model_raise_34 rfl (lv_at hl 0 rfl) ?_
          refine lv_iload_n hx hb dm_Model_raise_35 rfl (lv_at hl 3 rfl) ?_
          refine pw_callVI (rest := []) S hW (mm_Model_times2 l D k g σ (P := P) hpp (by omega) (by omega) (a := (v) * (v) % P) (b := a) (by omega) (by omega)) (cv_Model_27 S.1.2.2.2.2 ⟨by decide, by decide⟩) (by decide) en_Model rfl rfl hl.1 rfl (lv_room (Nat.le_of_ble_eq_true rfl)) ⟨Nat.zero_le _, Nat.zero_le _⟩ dm_Model_raise_36 (fun r σ1 H locs hp hW => ?_)
          obtain ⟨hr, hp⟩ := hp
          rw [hp] at hW
          subst hr
          refine lv_goto (tgt := 43) hx hb dm_Model_raise_39 (by decide) ?_
          exact tail (v * v % P * a % P) (Nat.mod_lt _ hP) (by rw [if_pos (by omega)] at hrs; exact hrs) _ _ hW
  refine loop 31 (by omega) (1 % P) (Nat.mod_lt _ hP) ?_ ls _ _ hl hW
  rw [Nat.div_eq_of_lt (show n0 < 2 ^ 31 by omega), Nat.pow_zero]
theorem dm_Model_get_0 : decode bm_Model_get 0 = .ok (.aload_n 0, 1) := by decide +kernel
theorem dm_Model_get_1 : decode bm_Model_get 1 = .ok (.getfield 7, 3) := by decide +kernel
theorem dm_Model_get_4 : decode bm_Model_get 4 = .ok (.bipush 32, 2) := by decide +kernel
theorem dm_Model_get_6 : decode bm_Model_get 6 = .ok (.iload_n 1, 1) := by decide +kernel
theorem dm_Model_get_7 : decode bm_Model_get 7 = .ok (.imul, 1) := by decide +kernel
theorem dm_Model_get_8 : decode bm_Model_get 8 = .ok (.iload_n 2, 1) := by decide +kernel
theorem dm_Model_get_9 : decode bm_Model_get 9 = .ok (.iadd, 1) := by decide +kernel
theorem dm_Model_get_10 : decode bm_Model_get 10 = .ok (.iaload, 1) := by decide +kernel
theorem dm_Model_get_11 : decode bm_Model_get 11 = .ok (.ireturn, 1) := by decide +kernel
set_option maxHeartbeats 4000000 in
set_option maxRecDepth 100000 in
theorem mm_Model_get (l : Launch) (D : va_G) (k : ClassId × ClassId × ClassId) (g : Nat → Nat) (σ : st_T) {s0 n : Nat} (hs : s0 < 33) (hn : n < 32) : mt_I l D k g ym_Model_get wm_Model_get rm_Model_get [.ref (g 149), .int (nI s0), .int (nI n)] σ (fun r σ1 => r = nI (σ (300 + s0) n) ∧ σ1 = σ) := by
  refine ct_I_in (cc := bm_Model_get) (maxL := 3) (by decide) rfl (Nat.le_of_ble_eq_true rfl) ?_
  intro p e s m args below meth c A ls Q S hl hW hret
  have S : pw_S p m c bm_Model_get 3 s args wa_g rc_Model D cl_s (ty_s k) := S
  have hx := S.1.1
  have hb := S.1.2.1
  have hl : lv_has ls 3 [(0, .ref (g (149))), (1, .int (nI (s0))), (2, .int (nI (n)))] := hl
  refine lv_aload_n hx hb dm_Model_get_0 rfl (lv_at hl 0 rfl) ?_
  refine md_c S hW (wa_in 562 (by decide +kernel) rfl) dm_Model_get_1 ?_
  refine lv_bipush (v := nI (32)) hx hb dm_Model_get_4 (by decide) ?_
  refine lv_iload_n hx hb dm_Model_get_6 rfl (lv_at hl 1 rfl) ?_
  refine wn_imul S dm_Model_get_7 ?_
  refine lv_iload_n hx hb dm_Model_get_8 rfl (lv_at hl 2 rfl) ?_
  refine wn_iadd S dm_Model_get_9 ?_
  refine mc_ald S hW (by omega) (by omega) dm_Model_get_10 ?_
  exact hret _ _ _ _ _ _ dm_Model_get_11 ⟨rfl, rfl⟩ hW
theorem dm_Model_put_0 : decode bm_Model_put 0 = .ok (.aload_n 0, 1) := by decide +kernel
theorem dm_Model_put_1 : decode bm_Model_put 1 = .ok (.getfield 7, 3) := by decide +kernel
theorem dm_Model_put_4 : decode bm_Model_put 4 = .ok (.bipush 32, 2) := by decide +kernel
theorem dm_Model_put_6 : decode bm_Model_put 6 = .ok (.iload_n 1, 1) := by decide +kernel
theorem dm_Model_put_7 : decode bm_Model_put 7 = .ok (.imul, 1) := by decide +kernel
theorem dm_Model_put_8 : decode bm_Model_put 8 = .ok (.iload_n 2, 1) := by decide +kernel
theorem dm_Model_put_9 : decode bm_Model_put 9 = .ok (.iadd, 1) := by decide +kernel
theorem dm_Model_put_10 : decode bm_Model_put 10 = .ok (.iload_n 3, 1) := by decide +kernel
theorem dm_Model_put_11 : decode bm_Model_put 11 = .ok (.iastore, 1) := by decide +kernel
theorem dm_Model_put_12 : decode bm_Model_put 12 = .ok (.return_, 1) := by decide +kernel
set_option maxHeartbeats 4000000 in
set_option maxRecDepth 100000 in
theorem mm_Model_put (l : Launch) (D : va_G) (k : ClassId × ClassId × ClassId) (g : Nat → Nat) (σ : st_T) {s0 n v : Nat} (hs : s0 < 33) (hn : n < 32) : mt_V l D k g ym_Model_put wm_Model_put rm_Model_put [.ref (g 149), .int (nI s0), .int (nI n), .int (nI v)] σ (fun σ1 => σ1 = st_up σ (300 + s0) n v) := by
  refine ct_V_in (cc := bm_Model_put) (maxL := 4) (by decide) rfl (Nat.le_of_ble_eq_true rfl) ?_
  intro p e s m args below meth c A ls Q S hl hW hret
  have S : pw_S p m c bm_Model_put 4 s args wa_g rc_Model D cl_s (ty_s k) := S
  have hx := S.1.1
  have hb := S.1.2.1
  have hl : lv_has ls 4 [(0, .ref (g (149))), (1, .int (nI (s0))), (2, .int (nI (n))), (3, .int (nI (v)))] := hl
  refine lv_aload_n hx hb dm_Model_put_0 rfl (lv_at hl 0 rfl) ?_
  refine md_c S hW (wa_in 562 (by decide +kernel) rfl) dm_Model_put_1 ?_
  refine lv_bipush (v := nI (32)) hx hb dm_Model_put_4 (by decide) ?_
  refine lv_iload_n hx hb dm_Model_put_6 rfl (lv_at hl 1 rfl) ?_
  refine wn_imul S dm_Model_put_7 ?_
  refine lv_iload_n hx hb dm_Model_put_8 rfl (lv_at hl 2 rfl) ?_
  refine wn_iadd S dm_Model_put_9 ?_
  refine lv_iload_n hx hb dm_Model_put_10 rfl (lv_at hl 3 rfl) ?_
  refine mc_ast S hW (by omega) (by omega) dm_Model_put_11 (fun H locs hW => ?_)
  exact hret _ _ _ _ _ dm_Model_put_12 rfl hW
theorem dm_Model_degree_0 : decode bm_Model_degree 0 = .ok (.bipush 31, 2) := by decide +kernel
theorem dm_Model_degree_2 : decode bm_Model_degree 2 = .ok (.istore_n 2, 1) := by decide +kernel
theorem dm_Model_degree_3 : decode bm_Model_degree 3 = .ok (.iload_n 2, 1) := by decide +kernel
theorem dm_Model_degree_4 : decode bm_Model_degree 4 = .ok (.ifCond .lt 18, 3) := by decide +kernel
theorem dm_Model_degree_7 : decode bm_Model_degree 7 = .ok (.aload_n 0, 1) := by decide +kernel
theorem dm_Model_degree_8 : decode bm_Model_degree 8 = .ok (.iload_n 1, 1) := by decide +kernel
theorem dm_Model_degree_9 : decode bm_Model_degree 9 = .ok (.iload_n 2, 1) := by decide +kernel
theorem dm_Model_degree_10 : decode bm_Model_degree 10 = .ok (.invokevirtual 31, 3) := by decide +kernel
theorem dm_Model_degree_13 : decode bm_Model_degree 13 = .ok (.ifCond .ne 9, 3) := by decide +kernel
theorem dm_Model_degree_16 : decode bm_Model_degree 16 = .ok (.iinc 2 (-1), 3) := by decide +kernel
theorem dm_Model_degree_19 : decode bm_Model_degree 19 = .ok (.goto (-16), 3) := by decide +kernel
theorem dm_Model_degree_22 : decode bm_Model_degree 22 = .ok (.iload_n 2, 1) := by decide +kernel
theorem dm_Model_degree_23 : decode bm_Model_degree 23 = .ok (.ireturn, 1) := by decide +kernel
set_option maxHeartbeats 4000000 in
set_option maxRecDepth 100000 in
theorem mm_Model_degree (l : Launch) (D : va_G) (k : ClassId × ClassId × ClassId) (g : Nat → Nat) (σ : st_T) {s0 P : Nat} (hs : s0 < 33) (hok : sp_ok P (σ (300 + s0))) (hP31 : P < 2147483648) : mt_I l D k g ym_Model_degree wm_Model_degree rm_Model_degree [.ref (g 149), .int (nI s0)] σ (fun r σ1 => r = sd_i (sp_sz (σ (300 + s0)) 31) ∧ σ1 = σ) := by
  refine ct_I_in (cc := bm_Model_degree) (maxL := 3) (by decide) rfl (Nat.le_of_ble_eq_true rfl) ?_
  intro p e s m args below meth c A ls Q S hl hW hret
  have S : pw_S p m c bm_Model_degree 3 s args wa_g rc_Model D cl_s (ty_s k) := S
  have hx := S.1.1
  have hb := S.1.2.1
  have hl : lv_has ls 3 [(0, .ref (g (149))), (1, .int (nI (s0)))] := hl
  refine lv_bipush (v := nI (31)) hx hb dm_Model_degree_0 (by decide) ?_
  refine lv_istore_n hx hb dm_Model_degree_2 rfl hl (by decide) rfl (fun ls hl => ?_)
  have hl : lv_has ls 3 [(2, .int (nI (31))), (0, .ref (g (149))), (1, .int (nI (s0)))] := hl
  have hl : lv_has ls 3 [(2, .int (nI (31))), (0, .ref (g (149))), (1, .int (nI (s0)))] := lv_sub hl [0, 1, 2] rfl
  have hl : lv_has ls 3 [(2, .int (sd_i 32)), (0, .ref (g 149)), (1, .int (nI s0))] := by
    rw [sd_s]
    exact hl
  have fin : ∀ n, sp_sz (σ (300 + s0)) 32 = n → ∀ (ls : Array Slot) (H : Heap) (locs : List Loc), lv_has ls 3 [(2, .int (sd_i (n))), (0, .ref (g (149))), (1, .int (nI (s0)))] → pw_H D cl_s A s.heap g 153 (en_s k g (σ)) H locs → W p l e rm_Model_degree s m args below meth c H locs 0 0 Q (F0 m 22 ls []) := by
    intro n hn ls H locs hl hW
    refine lv_iload_n hx hb dm_Model_degree_22 rfl (lv_at hl 0 rfl) ?_
    exact hret _ _ _ _ _ _ dm_Model_degree_23 ⟨by rw [← hn, sp_sz_32 hok], rfl⟩ hW
  have loop : ∀ n, n ≤ 32 → sp_sz (σ (300 + s0)) 32 = sp_sz (σ (300 + s0)) n → ∀ (ls : Array Slot) (H : Heap) (locs : List Loc), lv_has ls 3 [(2, .int (sd_i (n))), (0, .ref (g (149))), (1, .int (nI (s0)))] → pw_H D cl_s A s.heap g 153 (en_s k g (σ)) H locs → W p l e rm_Model_degree s m args below meth c H locs 0 0 Q (F0 m 3 ls []) := by
    intro n
    induction n with
    | zero =>
      intro hn hz ls H locs hl hW
      refine lv_iload_n hx hb dm_Model_degree_3 rfl (lv_at hl 0 rfl) ?_
      refine wi_if_lt (tgt := 22) S (sd_T (by omega)) dm_Model_degree_4 (by decide) (fun hc => ?_) (fun hc => ?_)
      · exact fin 0 hz ls H locs hl hW
      · exfalso
        omega
    | succ n ih =>
      intro hn hz ls H locs hl hW
      refine lv_iload_n hx hb dm_Model_degree_3 rfl (lv_at hl 0 rfl) ?_
      refine wi_if_lt (tgt := 22) S (sd_T (by omega)) dm_Model_degree_4 (by decide) (fun hc => ?_) (fun hc => ?_)
      · exfalso
        omega
      · rw [sd_s] at hl
        have hvn := (hok n).1
        refine lv_aload_n hx hb dm_Model_degree_7 rfl (lv_at hl 1 rfl) ?_
        refine lv_iload_n hx hb dm_Model_degree_8 rfl (lv_at hl 2 rfl) ?_
        refine lv_iload_n hx hb dm_Model_degree_9 rfl (lv_at hl 0 rfl) ?_
        refine pw_callVI (rest := []) S hW (mm_Model_get l D k g σ (s0 := s0) (n := n) (by omega) (by omega)) (cv_Model_31 S.1.2.2.2.2 ⟨by decide, by decide⟩) (by decide) en_Model rfl rfl hl.1 rfl (lv_room (Nat.le_of_ble_eq_true rfl)) ⟨Nat.zero_le _, Nat.zero_le _⟩ dm_Model_degree_10 (fun r σ1 H locs hp hW => ?_)
        obtain ⟨hr, hp⟩ := hp
        rw [hp] at hW
        subst hr
        refine wi_if_ne (tgt := 22) S (nn_T (by omega)) dm_Model_degree_13 (by decide) (fun hc => ?_) (fun hc => ?_)
        · refine fin (n + 1) ?_ ls _ _ (by rw [sd_s]; exact hl) hW
          rw [hz, sp_sz_s, if_neg (by omega)]
        · refine lv_iinc (k := 0) (v := sd_i n) hx hb dm_Model_degree_16 hl rfl (by rw [← sd_s]; exact sd_m1 n) (by decide) rfl (fun ls hl => ?_)
          have hl : lv_has ls 3 [(2, .int (sd_i (n))), (0, .ref (g (149))), (1, .int (nI (s0)))] := hl
          refine lv_goto (tgt := 3) hx hb dm_Model_degree_19 (by decide) ?_
          exact ih (by omega) (by rw [hz, sp_sz_s, if_pos (by omega)]) ls _ _ hl hW
  exact loop 32 (Nat.le_refl _) rfl ls _ _ hl hW
theorem dm_Model_copy_0 : decode bm_Model_copy 0 = .ok (.iconst 0, 1) := by decide +kernel
theorem dm_Model_copy_1 : decode bm_Model_copy 1 = .ok (.istore_n 3, 1) := by decide +kernel
theorem dm_Model_copy_2 : decode bm_Model_copy 2 = .ok (.iload_n 3, 1) := by decide +kernel
theorem dm_Model_copy_3 : decode bm_Model_copy 3 = .ok (.bipush 32, 2) := by decide +kernel
theorem dm_Model_copy_5 : decode bm_Model_copy 5 = .ok (.if_icmp .ge 21, 3) := by decide +kernel
theorem dm_Model_copy_8 : decode bm_Model_copy 8 = .ok (.aload_n 0, 1) := by decide +kernel
theorem dm_Model_copy_9 : decode bm_Model_copy 9 = .ok (.iload_n 2, 1) := by decide +kernel
theorem dm_Model_copy_10 : decode bm_Model_copy 10 = .ok (.iload_n 3, 1) := by decide +kernel
theorem dm_Model_copy_11 : decode bm_Model_copy 11 = .ok (.aload_n 0, 1) := by decide +kernel
theorem dm_Model_copy_12 : decode bm_Model_copy 12 = .ok (.iload_n 1, 1) := by decide +kernel
theorem dm_Model_copy_13 : decode bm_Model_copy 13 = .ok (.iload_n 3, 1) := by decide +kernel
theorem dm_Model_copy_14 : decode bm_Model_copy 14 = .ok (.invokevirtual 31, 3) := by decide +kernel
theorem dm_Model_copy_17 : decode bm_Model_copy 17 = .ok (.invokevirtual 34, 3) := by decide +kernel
theorem dm_Model_copy_20 : decode bm_Model_copy 20 = .ok (.iinc 3 1, 3) := by decide +kernel
theorem dm_Model_copy_23 : decode bm_Model_copy 23 = .ok (.goto (-21), 3) := by decide +kernel
theorem dm_Model_copy_26 : decode bm_Model_copy 26 = .ok (.return_, 1) := by decide +kernel
set_option maxHeartbeats 4000000 in
set_option maxRecDepth 100000 in
theorem mm_Model_copy (l : Launch) (D : va_G) (k : ClassId × ClassId × ClassId) (g : Nat → Nat) (σ : st_T) {P a b : Nat} (hw : md_wf P σ) (ha : a < 33) (hb0 : b < 33) : mt_V l D k g ym_Model_copy wm_Model_copy rm_Model_copy [.ref (g 149), .int (nI a), .int (nI b)] σ (fun σ1 => md_wf P σ1 ∧ σ1 (300 + b) = σ (300 + a) ∧ md_sm [300 + b] σ σ1) := by
  refine ct_V_in (cc := bm_Model_copy) (maxL := 4) (by decide) rfl (Nat.le_of_ble_eq_true rfl) ?_
  intro p e s m args below meth c A ls Q S hl hW hret
  have S : pw_S p m c bm_Model_copy 4 s args wa_g rc_Model D cl_s (ty_s k) := S
  have hx := S.1.1
  have hb := S.1.2.1
  have hl : lv_has ls 4 [(0, .ref (g (149))), (1, .int (nI (a))), (2, .int (nI (b)))] := hl
  refine lv_iconst (v := nI (0)) hx hb dm_Model_copy_0 (by decide) ?_
  refine lv_istore_n hx hb dm_Model_copy_1 rfl hl (by decide) rfl (fun ls hl => ?_)
  have hl : lv_has ls 4 [(3, .int (nI (0))), (0, .ref (g (149))), (1, .int (nI (a))), (2, .int (nI (b)))] := hl
  have loop : ∀ d i, i + d = 32 → ∀ (ls : Array Slot) (H : Heap) (locs : List Loc), lv_has ls 4 [(3, .int (nI (i))), (0, .ref (g (149))), (1, .int (nI (a))), (2, .int (nI (b)))] → pw_H D cl_s A s.heap g 153 (en_s k g (st_cp σ (300 + b) i (σ (300 + a)))) H locs → W p l e rm_Model_copy s m args below meth c H locs 0 0 Q (F0 m 2 ls []) := by
    intro d
    induction d with
    | zero =>
      intro i hi ls H locs hl hW
      refine lv_iload_n hx hb dm_Model_copy_2 rfl (lv_at hl 0 rfl) ?_
      refine lv_bipush (v := nI (32)) hx hb dm_Model_copy_3 (by decide) ?_
      refine wi_icmp_ge (tgt := 26) S (nn_T (by omega)) (nn_T (by omega)) dm_Model_copy_5 (by decide) (fun hc => ?_) (fun hc => ?_)
      · have hi : i = 32 := by omega
        subst hi
        exact hret _ _ _ _ _ dm_Model_copy_26 (md_cp hw hb0 (hw.2 a ha)) hW
      · exfalso
        omega
    | succ d ih =>
      intro i hi ls H locs hl hW
      refine lv_iload_n hx hb dm_Model_copy_2 rfl (lv_at hl 0 rfl) ?_
      refine lv_bipush (v := nI (32)) hx hb dm_Model_copy_3 (by decide) ?_
      refine wi_icmp_ge (tgt := 26) S (nn_T (by omega)) (nn_T (by omega)) dm_Model_copy_5 (by decide) (fun hc => ?_) (fun hc => ?_)
      · exfalso
        omega
      · refine lv_aload_n hx hb dm_Model_copy_8 rfl (lv_at hl 1 rfl) ?_
        refine lv_iload_n hx hb dm_Model_copy_9 rfl (lv_at hl 3 rfl) ?_
        refine lv_iload_n hx hb dm_Model_copy_10 rfl (lv_at hl 0 rfl) ?_
        refine lv_aload_n hx hb dm_Model_copy_11 rfl (lv_at hl 1 rfl) ?_
        refine lv_iload_n hx hb dm_Model_copy_12 rfl (lv_at hl 2 rfl) ?_
        refine lv_iload_n hx hb dm_Model_copy_13 rfl (lv_at hl 0 rfl) ?_
        refine pw_callVI (rest := [.int (nI (i)), .int (nI (b)), .ref (g (149))]) S hW (mm_Model_get l D k g (st_cp σ (300 + b) i (σ (300 + a))) (s0 := a) (n := i) (by omega) (by omega)) (cv_Model_31 S.1.2.2.2.2 ⟨by decide, by decide⟩) (by decide) en_Model rfl rfl hl.1 rfl (lv_room (Nat.le_of_ble_eq_true rfl)) ⟨Nat.zero_le _, Nat.zero_le _⟩ dm_Model_copy_14 (fun r σ1 H locs hp hW => ?_)
        obtain ⟨hr, hp⟩ := hp
        rw [hp] at hW
        subst hr
        rw [st_cp_rd (by omega)]
        refine pw_callV (rest := []) S hW (mm_Model_put l D k g (st_cp σ (300 + b) i (σ (300 + a))) (s0 := b) (n := i) (v := σ (300 + a) (i)) (by omega) (by omega)) (cv_Model_34 S.1.2.2.2.2 ⟨by decide, by decide⟩) (by decide) en_Model rfl rfl hl.1 rfl (lv_room (Nat.le_of_ble_eq_true rfl)) ⟨Nat.zero_le _, Nat.zero_le _⟩ dm_Model_copy_17 (fun σ1 H locs hp hW => ?_)
        rw [hp] at hW
        refine lv_iinc (k := 0) (v := nI (i + 1)) hx hb dm_Model_copy_20 hl rfl (by rw [show Int32.ofInt 1 = nI 1 from rfl, nI_add]) (by decide) rfl (fun ls hl => ?_)
        have hl : lv_has ls 4 [(3, .int (nI (i + 1))), (0, .ref (g (149))), (1, .int (nI (a))), (2, .int (nI (b)))] := hl
        refine lv_goto (tgt := 2) hx hb dm_Model_copy_23 (by decide) ?_
        exact ih (i + 1) (by omega) ls _ _ hl (by rw [← st_cp_s σ (300 + b) i (σ (300 + a)) rfl]; exact hW)
  exact loop 32 0 (by omega) ls _ _ hl (by rw [st_cp_0]; exact hW)
theorem dm_Model_number_0 : decode bm_Model_number 0 = .ok (.iconst 0, 1) := by decide +kernel
theorem dm_Model_number_1 : decode bm_Model_number 1 = .ok (.istore_n 3, 1) := by decide +kernel
theorem dm_Model_number_2 : decode bm_Model_number 2 = .ok (.iload_n 3, 1) := by decide +kernel
theorem dm_Model_number_3 : decode bm_Model_number 3 = .ok (.bipush 32, 2) := by decide +kernel
theorem dm_Model_number_5 : decode bm_Model_number 5 = .ok (.if_icmp .ge 24, 3) := by decide +kernel
theorem dm_Model_number_8 : decode bm_Model_number 8 = .ok (.aload_n 0, 1) := by decide +kernel
theorem dm_Model_number_9 : decode bm_Model_number 9 = .ok (.iload_n 1, 1) := by decide +kernel
theorem dm_Model_number_10 : decode bm_Model_number 10 = .ok (.iload_n 3, 1) := by decide +kernel
theorem dm_Model_number_11 : decode bm_Model_number 11 = .ok (.iload_n 3, 1) := by decide +kernel
theorem dm_Model_number_12 : decode bm_Model_number 12 = .ok (.ifCond .ne 7, 3) := by decide +kernel
theorem dm_Model_number_15 : decode bm_Model_number 15 = .ok (.iload_n 2, 1) := by decide +kernel
theorem dm_Model_number_16 : decode bm_Model_number 16 = .ok (.goto 4, 3) := by decide +kernel
theorem dm_Model_number_19 : decode bm_Model_number 19 = .ok (.iconst 0, 1) := by decide +kernel
theorem dm_Model_number_20 : decode bm_Model_number 20 = .ok (.invokevirtual 34, 3) := by decide +kernel
theorem dm_Model_number_23 : decode bm_Model_number 23 = .ok (.iinc 3 1, 3) := by decide +kernel
theorem dm_Model_number_26 : decode bm_Model_number 26 = .ok (.goto (-24), 3) := by decide +kernel
theorem dm_Model_number_29 : decode bm_Model_number 29 = .ok (.return_, 1) := by decide +kernel
theorem sp_ct_ok {P v : Nat} (hv : v < P) : sp_ok P (va_up (fun _ => 0) 0 v) := fun i => by
  unfold va_up
  dsimp only
  split <;> omega
set_option maxHeartbeats 4000000 in
set_option maxRecDepth 100000 in
theorem mm_Model_number (l : Launch) (D : va_G) (k : ClassId × ClassId × ClassId) (g : Nat → Nat) (σ : st_T) {P s0 v : Nat} (hw : md_wf P σ) (hs : s0 < 33) (hv : v < P) : mt_V l D k g ym_Model_number wm_Model_number rm_Model_number [.ref (g 149), .int (nI s0), .int (nI v)] σ (fun σ1 => md_wf P σ1 ∧ σ1 (300 + s0) = va_up (fun _ => 0) 0 v ∧ md_sm [300 + s0] σ σ1) := by
  refine ct_V_in (cc := bm_Model_number) (maxL := 4) (by decide) rfl (Nat.le_of_ble_eq_true rfl) ?_
  intro p e s m args below meth c A ls Q S hl hW hret
  have S : pw_S p m c bm_Model_number 4 s args wa_g rc_Model D cl_s (ty_s k) := S
  have hx := S.1.1
  have hb := S.1.2.1
  have hl : lv_has ls 4 [(0, .ref (g (149))), (1, .int (nI (s0))), (2, .int (nI (v)))] := hl
  refine lv_iconst (v := nI (0)) hx hb dm_Model_number_0 (by decide) ?_
  refine lv_istore_n hx hb dm_Model_number_1 rfl hl (by decide) rfl (fun ls hl => ?_)
  have hl : lv_has ls 4 [(3, .int (nI (0))), (0, .ref (g (149))), (1, .int (nI (s0))), (2, .int (nI (v)))] := hl
  have loop : ∀ d i, i + d = 32 → ∀ (ls : Array Slot) (H : Heap) (locs : List Loc), lv_has ls 4 [(3, .int (nI (i))), (0, .ref (g (149))), (1, .int (nI (s0))), (2, .int (nI (v)))] → pw_H D cl_s A s.heap g 153 (en_s k g (st_cp σ (300 + s0) i (va_up (fun _ => 0) 0 v))) H locs → W p l e rm_Model_number s m args below meth c H locs 0 0 Q (F0 m 2 ls []) := by
    intro d
    induction d with
    | zero =>
      intro i hi ls H locs hl hW
      refine lv_iload_n hx hb dm_Model_number_2 rfl (lv_at hl 0 rfl) ?_
      refine lv_bipush (v := nI (32)) hx hb dm_Model_number_3 (by decide) ?_
      refine wi_icmp_ge (tgt := 29) S (nn_T (by omega)) (nn_T (by omega)) dm_Model_number_5 (by decide) (fun hc => ?_) (fun hc => ?_)
      · have hi : i = 32 := by omega
        subst hi
        exact hret _ _ _ _ _ dm_Model_number_29 (md_cp hw hs (sp_ct_ok hv)) hW
      · exfalso
        omega
    | succ d ih =>
      intro i hi ls H locs hl hW
      refine lv_iload_n hx hb dm_Model_number_2 rfl (lv_at hl 0 rfl) ?_
      refine lv_bipush (v := nI (32)) hx hb dm_Model_number_3 (by decide) ?_
      refine wi_icmp_ge (tgt := 29) S (nn_T (by omega)) (nn_T (by omega)) dm_Model_number_5 (by decide) (fun hc => ?_) (fun hc => ?_)
      · exfalso
        omega
      · refine lv_aload_n hx hb dm_Model_number_8 rfl (lv_at hl 1 rfl) ?_
        refine lv_iload_n hx hb dm_Model_number_9 rfl (lv_at hl 2 rfl) ?_
        refine lv_iload_n hx hb dm_Model_number_10 rfl (lv_at hl 0 rfl) ?_
        refine lv_iload_n hx hb dm_Model_number_11 rfl (lv_at hl 0 rfl) ?_
        refine wi_if_ne (tgt := 19) S (nn_T (by omega)) dm_Model_number_12 (by decide) (fun hc => ?_) (fun hc => ?_)
        · refine lv_iconst (v := nI (0)) hx hb dm_Model_number_19 (by decide) ?_
          refine pw_callV (rest := []) S hW (mm_Model_put l D k g (st_cp σ (300 + s0) i (va_up (fun _ => 0) 0 v)) (s0 := s0) (n := i) (v := 0) (by omega) (by omega)) (cv_Model_34 S.1.2.2.2.2 ⟨by decide, by decide⟩) (by decide) en_Model rfl rfl hl.1 rfl (lv_room (Nat.le_of_ble_eq_true rfl)) ⟨Nat.zero_le _, Nat.zero_le _⟩ dm_Model_number_20 (fun σ1 H locs hp hW => ?_)
          rw [hp] at hW
          refine lv_iinc (k := 0) (v := nI (i + 1)) hx hb dm_Model_number_23 hl rfl (by rw [show Int32.ofInt 1 = nI 1 from rfl, nI_add]) (by decide) rfl (fun ls hl => ?_)
          have hl : lv_has ls 4 [(3, .int (nI (i + 1))), (0, .ref (g (149))), (1, .int (nI (s0))), (2, .int (nI (v)))] := hl
          refine lv_goto (tgt := 2) hx hb dm_Model_number_26 (by decide) ?_
          exact ih (i + 1) (by omega) ls _ _ hl (by rw [← st_cp_s σ (300 + s0) i (va_up (fun _ => 0) 0 v) (v := 0) (by rw [va_up_ne _ _ (by omega)])]; exact hW)
        · refine lv_iload_n hx hb dm_Model_number_15 rfl (lv_at hl 3 rfl) ?_
          refine lv_goto (tgt := 20) hx hb dm_Model_number_16 (by decide) ?_
          refine pw_callV (rest := []) S hW (mm_Model_put l D k g (st_cp σ (300 + s0) i (va_up (fun _ => 0) 0 v)) (s0 := s0) (n := i) (v := v) (by omega) (by omega)) (cv_Model_34 S.1.2.2.2.2 ⟨by decide, by decide⟩) (by decide) en_Model rfl rfl hl.1 rfl (lv_room (Nat.le_of_ble_eq_true rfl)) ⟨Nat.zero_le _, Nat.zero_le _⟩ dm_Model_number_20 (fun σ1 H locs hp hW => ?_)
          rw [hp] at hW
          refine lv_iinc (k := 0) (v := nI (i + 1)) hx hb dm_Model_number_23 hl rfl (by rw [show Int32.ofInt 1 = nI 1 from rfl, nI_add]) (by decide) rfl (fun ls hl => ?_)
          have hl : lv_has ls 4 [(3, .int (nI (i + 1))), (0, .ref (g (149))), (1, .int (nI (s0))), (2, .int (nI (v)))] := hl
          refine lv_goto (tgt := 2) hx hb dm_Model_number_26 (by decide) ?_
          exact ih (i + 1) (by omega) ls _ _ hl (by rw [← st_cp_s σ (300 + s0) i (va_up (fun _ => 0) 0 v) (v := v) (by rw [show i = 0 by omega, va_up_self])]; exact hW)
  exact loop 32 0 (by omega) ls _ _ hl (by rw [st_cp_0]; exact hW)
theorem dm_Model_plus_0 : decode bm_Model_plus 0 = .ok (.iconst 0, 1) := by decide +kernel
theorem dm_Model_plus_1 : decode bm_Model_plus 1 = .ok (.istore 4, 2) := by decide +kernel
theorem dm_Model_plus_3 : decode bm_Model_plus 3 = .ok (.iload 4, 2) := by decide +kernel
theorem dm_Model_plus_5 : decode bm_Model_plus 5 = .ok (.bipush 32, 2) := by decide +kernel
theorem dm_Model_plus_7 : decode bm_Model_plus 7 = .ok (.if_icmp .ge 43, 3) := by decide +kernel
theorem dm_Model_plus_10 : decode bm_Model_plus 10 = .ok (.aload_n 0, 1) := by decide +kernel
theorem dm_Model_plus_11 : decode bm_Model_plus 11 = .ok (.iload_n 1, 1) := by decide +kernel
theorem dm_Model_plus_12 : decode bm_Model_plus 12 = .ok (.iload 4, 2) := by decide +kernel
theorem dm_Model_plus_14 : decode bm_Model_plus 14 = .ok (.aload_n 0, 1) := by decide +kernel
theorem dm_Model_plus_15 : decode bm_Model_plus 15 = .ok (.iload_n 1, 1) := by decide +kernel
theorem dm_Model_plus_16 : decode bm_Model_plus 16 = .ok (.iload 4, 2) := by decide +kernel
theorem dm_Model_plus_18 : decode bm_Model_plus 18 = .ok (.invokevirtual 31, 3) := by decide +kernel
theorem dm_Model_plus_21 : decode bm_Model_plus 21 = .ok (.i2l, 1) := by decide +kernel
theorem dm_Model_plus_22 : decode bm_Model_plus 22 = .ok (.aload_n 0, 1) := by decide +kernel
theorem dm_Model_plus_23 : decode bm_Model_plus 23 = .ok (.iload_n 2, 1) := by decide +kernel
theorem dm_Model_plus_24 : decode bm_Model_plus 24 = .ok (.iload 4, 2) := by decide +kernel
theorem dm_Model_plus_26 : decode bm_Model_plus 26 = .ok (.invokevirtual 31, 3) := by decide +kernel
theorem dm_Model_plus_29 : decode bm_Model_plus 29 = .ok (.i2l, 1) := by decide +kernel
theorem dm_Model_plus_30 : decode bm_Model_plus 30 = .ok (.iload_n 3, 1) := by decide +kernel
theorem dm_Model_plus_31 : decode bm_Model_plus 31 = .ok (.i2l, 1) := by decide +kernel
theorem dm_Model_plus_32 : decode bm_Model_plus 32 = .ok (.lmul, 1) := by decide +kernel
theorem dm_Model_plus_33 : decode bm_Model_plus 33 = .ok (.ladd, 1) := by decide +kernel
theorem dm_Model_plus_34 : decode bm_Model_plus 34 = .ok (.aload_n 0, 1) := by decide +kernel
theorem dm_Model_plus_35 : decode bm_Model_plus 35 = .ok (.getfield 23, 3) := by decide +kernel
theorem dm_Model_plus_38 : decode bm_Model_plus 38 = .ok (.i2l, 1) := by decide +kernel
theorem dm_Model_plus_39 : decode bm_Model_plus 39 = .ok (.lrem, 1) := by decide +kernel
theorem dm_Model_plus_40 : decode bm_Model_plus 40 = .ok (.l2i, 1) := by decide +kernel
theorem dm_Model_plus_41 : decode bm_Model_plus 41 = .ok (.invokevirtual 34, 3) := by decide +kernel
theorem dm_Model_plus_44 : decode bm_Model_plus 44 = .ok (.iinc 4 1, 3) := by decide +kernel
theorem dm_Model_plus_47 : decode bm_Model_plus 47 = .ok (.goto (-44), 3) := by decide +kernel
theorem dm_Model_plus_50 : decode bm_Model_plus 50 = .ok (.return_, 1) := by decide +kernel
set_option maxHeartbeats 4000000 in
set_option maxRecDepth 100000 in
theorem mm_Model_plus (l : Launch) (D : va_G) (k : ClassId × ClassId × ClassId) (g : Nat → Nat) (σ : st_T) {P a b K : Nat} (hw : md_wf P σ) (hP : 2 ≤ P) (hP31 : P < 2147483648) (ha : a < 33) (hb0 : b < 33) (hK : K < P) : mt_V l D k g ym_Model_plus wm_Model_plus rm_Model_plus [.ref (g 149), .int (nI a), .int (nI b), .int (nI K)] σ (fun σ1 => md_wf P σ1 ∧ σ1 (300 + a) = sp_add P (σ (300 + a)) (σ (300 + b)) K ∧ md_sm [300 + a] σ σ1) := by
  refine ct_V_in (cc := bm_Model_plus) (maxL := 5) (by decide) rfl (Nat.le_of_ble_eq_true rfl) ?_
  intro p e s m args below meth c A ls Q S hl hW hret
  have S : pw_S p m c bm_Model_plus 5 s args wa_g rc_Model D cl_s (ty_s k) := S
  have hx := S.1.1
  have hb := S.1.2.1
  have hl : lv_has ls 5 [(0, .ref (g (149))), (1, .int (nI (a))), (2, .int (nI (b))), (3, .int (nI (K)))] := hl
  refine lv_iconst (v := nI (0)) hx hb dm_Model_plus_0 (by decide) ?_
  refine lv_istore hx hb dm_Model_plus_1 hl (by decide) rfl (fun ls hl => ?_)
  have hl : lv_has ls 5 [(4, .int (nI (0))), (0, .ref (g (149))), (1, .int (nI (a))), (2, .int (nI (b))), (3, .int (nI (K)))] := hl
  have loop : ∀ d i, i + d = 32 → ∀ (ls : Array Slot) (H : Heap) (locs : List Loc), lv_has ls 5 [(4, .int (nI (i))), (0, .ref (g (149))), (1, .int (nI (a))), (2, .int (nI (b))), (3, .int (nI (K)))] → pw_H D cl_s A s.heap g 153 (en_s k g (st_cp σ (300 + a) i (sp_add P (σ (300 + a)) (σ (300 + b)) K))) H locs → W p l e rm_Model_plus s m args below meth c H locs 0 0 Q (F0 m 3 ls []) := by
    intro d
    induction d with
    | zero =>
      intro i hi ls H locs hl hW
      refine lv_iload hx hb dm_Model_plus_3 (lv_at hl 0 rfl) ?_
      refine lv_bipush (v := nI (32)) hx hb dm_Model_plus_5 (by decide) ?_
      refine wi_icmp_ge (tgt := 50) S (nn_T (by omega)) (nn_T (by omega)) dm_Model_plus_7 (by decide) (fun hc => ?_) (fun hc => ?_)
      · have hi : i = 32 := by omega
        subst hi
        exact hret _ _ _ _ _ dm_Model_plus_50 (md_cp hw ha (sp_add_ok (by omega) (hw.2 a ha) (hw.2 b hb0) K)) hW
      · exfalso
        omega
    | succ d ih =>
      intro i hi ls H locs hl hW
      refine lv_iload hx hb dm_Model_plus_3 (lv_at hl 0 rfl) ?_
      refine lv_bipush (v := nI (32)) hx hb dm_Model_plus_5 (by decide) ?_
      refine wi_icmp_ge (tgt := 50) S (nn_T (by omega)) (nn_T (by omega)) dm_Model_plus_7 (by decide) (fun hc => ?_) (fun hc => ?_)
      · exfalso
        omega
      · have e1 := md_lt hw ha i
        have e2 := md_lt hw hb0 i
        have hm := nn_mul (show σ (300 + b) i < 2147483648 by omega) (show K < 2147483648 by omega)
        refine lv_aload_n hx hb dm_Model_plus_10 rfl (lv_at hl 1 rfl) ?_
        refine lv_iload_n hx hb dm_Model_plus_11 rfl (lv_at hl 2 rfl) ?_
        refine lv_iload hx hb dm_Model_plus_12 (lv_at hl 0 rfl) ?_
        refine lv_aload_n hx hb dm_Model_plus_14 rfl (lv_at hl 1 rfl) ?_
        refine lv_iload_n hx hb dm_Model_plus_15 rfl (lv_at hl 2 rfl) ?_
        refine lv_iload hx hb dm_Model_plus_16 (lv_at hl 0 rfl) ?_
        refine pw_callVI (rest := [.int (nI (i)), .int (nI (a)), .ref (g (149))]) S hW (mm_Model_get l D k g (st_cp σ (300 + a) i (sp_add P (σ (300 + a)) (σ (300 + b)) K)) (s0 := a) (n := i) (by omega) (by omega)) (cv_Model_31 S.1.2.2.2.2 ⟨by decide, by decide⟩) (by decide) en_Model rfl rfl hl.1 rfl (lv_room (Nat.le_of_ble_eq_true rfl)) ⟨Nat.zero_le _, Nat.zero_le _⟩ dm_Model_plus_18 (fun r σ1 H locs hp hW => ?_)
        obtain ⟨hr, hp⟩ := hp
        rw [hp] at hW
        subst hr
        rw [st_cp_rd (by omega)]
        refine wn_i2l S (by omega) dm_Model_plus_21 ?_
        refine lv_aload_n hx hb dm_Model_plus_22 rfl (lv_at hl 1 rfl) ?_
        refine lv_iload_n hx hb dm_Model_plus_23 rfl (lv_at hl 3 rfl) ?_
        refine lv_iload hx hb dm_Model_plus_24 (lv_at hl 0 rfl) ?_
        refine pw_callVI (rest := [.long (lN (σ (300 + a) (i))), .int (nI (i)), .int (nI (a)), .ref (g (149))]) S hW (mm_Model_get l D k g (st_cp σ (300 + a) i (sp_add P (σ (300 + a)) (σ (300 + b)) K)) (s0 := b) (n := i) (by omega) (by omega)) (cv_Model_31 S.1.2.2.2.2 ⟨by decide, by decide⟩) (by decide) en_Model rfl rfl hl.1 rfl (lv_room (Nat.le_of_ble_eq_true rfl)) ⟨Nat.zero_le _, Nat.zero_le _⟩ dm_Model_plus_26 (fun r σ1 H locs hp hW => ?_)
        obtain ⟨hr, hp⟩ := hp
        rw [hp] at hW
        subst hr
        rw [st_cp_rd (by omega)]
        refine wn_i2l S (by omega) dm_Model_plus_29 ?_
        refine lv_iload_n hx hb dm_Model_plus_30 rfl (lv_at hl 4 rfl) ?_
        refine wn_i2l S (by omega) dm_Model_plus_31 ?_
        refine wn_lmul S dm_Model_plus_32 ?_
        refine wn_ladd S dm_Model_plus_33 ?_
        refine lv_aload_n hx hb dm_Model_plus_34 rfl (lv_at hl 1 rfl) ?_
        refine md_p S hW (wa_in 561 (by decide +kernel) rfl) dm_Model_plus_35 ?_
        rw [(show st_cp σ (300 + a) i (sp_add P (σ (300 + a)) (σ (300 + b)) K) 205 0 = P by rw [st_cp_row (by omega)]; exact hw.1)]
        refine wn_i2l S (by omega) dm_Model_plus_38 ?_
        refine wn_lrem S (by omega) (by omega) (by omega) dm_Model_plus_39 ?_
        refine wn_l2i S dm_Model_plus_40 ?_
        refine pw_callV (rest := []) S hW (mm_Model_put l D k g (st_cp σ (300 + a) i (sp_add P (σ (300 + a)) (σ (300 + b)) K)) (s0 := a) (n := i) (v := ((σ (300 + a) (i)) + ((σ (300 + b) (i)) * (K))) % (P)) (by omega) (by omega)) (cv_Model_34 S.1.2.2.2.2 ⟨by decide, by decide⟩) (by decide) en_Model rfl rfl hl.1 rfl (lv_room (Nat.le_of_ble_eq_true rfl)) ⟨Nat.zero_le _, Nat.zero_le _⟩ dm_Model_plus_41 (fun σ1 H locs hp hW => ?_)
        rw [hp] at hW
        refine lv_iinc (k := 0) (v := nI (i + 1)) hx hb dm_Model_plus_44 hl rfl (by rw [show Int32.ofInt 1 = nI 1 from rfl, nI_add]) (by decide) rfl (fun ls hl => ?_)
        have hl : lv_has ls 5 [(4, .int (nI (i + 1))), (0, .ref (g (149))), (1, .int (nI (a))), (2, .int (nI (b))), (3, .int (nI (K)))] := hl
        refine lv_goto (tgt := 3) hx hb dm_Model_plus_47 (by decide) ?_
        exact ih (i + 1) (by omega) ls _ _ hl (by rw [← st_cp_s σ (300 + a) i (sp_add P (σ (300 + a)) (σ (300 + b)) K) rfl]; exact hW)
  exact loop 32 0 (by omega) ls _ _ hl (by rw [st_cp_0]; exact hW)
