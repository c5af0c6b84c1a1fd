/-! Arrays.fill, settle, put, clear, becomeTerm over a pool with open cells (printed by gen/open1.py) -/
set_option maxHeartbeats 4000000 in
set_option maxRecDepth 100000 in
theorem mo_Arrays_fill (l : Launch) (D : va_G) (k : ClassId × ClassId × ClassId) (g : Nat → Nat) (N P : Nat) (O : List (Nat × od_E)) (σ : st_T) {j v : Nat} (hj : qo_in O N j) : mo_V l D k g N P O ym_Arrays_fill wm_Arrays_fill rm_Arrays_fill [.ref (g (j + 1)), .int (nI v)] σ (fun σ1 => σ1 = st_fl σ j 31 v) := by
  refine ct_V_in (cc := bm_Arrays_fill) (maxL := 4) (by decide) rfl (Nat.le_of_ble_eq_true rfl) ?_
  intro p e s m args below meth c A ls Q S hl hW hret
  have S : pw_S p m c bm_Arrays_fill 4 s args wa_g rc_Arrays D cl_s (ty_s k) := S
  have hx := S.1.1
  have hb := S.1.2.1
  have hl : lv_has ls 4 [(0, .ref (g (j + 1))), (1, .int (nI (v)))] := hl
  refine lv_iconst (v := nI (0)) hx hb dm_Arrays_fill_0 (by decide) ?_
  refine lv_istore_n hx hb dm_Arrays_fill_1 rfl hl (by decide) rfl (fun ls hl => ?_)
  have hl : lv_has ls 4 [(2, .int (nI (0))), (0, .ref (g (j + 1))), (1, .int (nI (v)))] := hl
  refine lv_aload_n hx hb dm_Arrays_fill_2 rfl (lv_at hl 1 rfl) ?_
  refine pw_alen (v := nI 31) S hW 0 rfl (j + 1) hj.2.1 (by rw [en_o_n hj.2.2.2.2]; exact en_ar hj.1) rfl dm_Arrays_fill_3 ?_
  refine lv_istore_n hx hb dm_Arrays_fill_4 rfl hl (by decide) rfl (fun ls hl => ?_)
  have hl : lv_has ls 4 [(3, .int (nI (31))), (2, .int (nI (0))), (0, .ref (g (j + 1))), (1, .int (nI (v)))] := hl
  have hl : lv_has ls 4 [(2, .int (nI (0))), (3, .int (nI (31))), (0, .ref (g (j + 1))), (1, .int (nI (v)))] := lv_sub hl [1, 0, 2, 3] rfl
  have loop : ∀ d i, i + d = 31 → ∀ (ls : Array Slot) (H : Heap) (locs : List Loc), lv_has ls 4 [(2, .int (nI (i))), (3, .int (nI (31))), (0, .ref (g (j + 1))), (1, .int (nI (v)))] → pw_H D cl_s A s.heap g N (en_o k g P O (st_fl σ j i v)) H locs → W p l e rm_Arrays_fill s m args below meth c H locs 0 0 Q (F0 m 5 ls []) := by
    intro d
    induction d with
    | zero =>
      intro i hi ls H locs hl hW
      refine lv_iload_n hx hb dm_Arrays_fill_5 rfl (lv_at hl 0 rfl) ?_
      refine lv_iload_n hx hb dm_Arrays_fill_6 rfl (lv_at hl 1 rfl) ?_
      refine wi_icmp_ge (tgt := 20) S (nn_T (by omega)) (nn_T (by omega)) dm_Arrays_fill_7 (by decide) (fun hc => ?_) (fun hc => ?_)
      · have hi : i = 31 := by omega
        subst hi
        exact hret _ _ _ _ _ dm_Arrays_fill_20 rfl hW
      · exfalso
        omega
    | succ d ih =>
      intro i hi ls H locs hl hW
      refine lv_iload_n hx hb dm_Arrays_fill_5 rfl (lv_at hl 0 rfl) ?_
      refine lv_iload_n hx hb dm_Arrays_fill_6 rfl (lv_at hl 1 rfl) ?_
      refine wi_icmp_ge (tgt := 20) S (nn_T (by omega)) (nn_T (by omega)) dm_Arrays_fill_7 (by decide) (fun hc => ?_) (fun hc => ?_)
      · exfalso
        omega
      · refine lv_aload_n hx hb dm_Arrays_fill_10 rfl (lv_at hl 2 rfl) ?_
        refine lv_iload_n hx hb dm_Arrays_fill_11 rfl (lv_at hl 0 rfl) ?_
        refine lv_iload_n hx hb dm_Arrays_fill_12 rfl (lv_at hl 3 rfl) ?_
        refine qo_ast S hW hj (by omega) dm_Arrays_fill_13 (fun H locs hW => ?_)
        refine lv_iinc (k := 0) (v := nI (i + 1)) hx hb dm_Arrays_fill_14 hl rfl (by rw [show Int32.ofInt 1 = nI 1 from rfl, nI_add]) (by decide) rfl (fun ls hl => ?_)
        have hl : lv_has ls 4 [(2, .int (nI (i + 1))), (3, .int (nI (31))), (0, .ref (g (j + 1))), (1, .int (nI (v)))] := hl
        refine lv_goto (tgt := 5) hx hb dm_Arrays_fill_17 (by decide) ?_
        refine ih (i + 1) (by omega) ls H locs hl ?_
        rw [← st_fl_s]
        exact hW
  refine loop 31 0 (by omega) ls _ _ hl ?_
  rw [st_fl_0]
  exact hW
set_option maxHeartbeats 4000000 in
set_option maxRecDepth 100000 in
theorem mo_Poly_settle (l : Launch) (D : va_G) (k : ClassId × ClassId × ClassId) (g : Nat → Nat) (N P : Nat) (O : List (Nat × od_E)) (σ : st_T) {j : Nat} (hj : qo_in O N j) (hv : ∀ i, σ j i < 2147483648) : mo_V l D k g N P O ym_Poly_settle wm_Poly_settle rm_Poly_settle [.ref (g j)] σ (fun σ1 => σ1 = st_up σ 200 j (sp_sz (σ j) 31)) := by
  refine ct_V_in (cc := bm_Poly_settle) (maxL := 2) (by decide) rfl (Nat.le_of_ble_eq_true rfl) ?_
  intro p e s m args below meth c A ls Q S hl hW hret
  have S : pw_S p m c bm_Poly_settle 2 s args wa_g rc_Poly D cl_s (ty_s k) := S
  have hx := S.1.1
  have hb := S.1.2.1
  have hl : lv_has ls 2 [(0, .ref (g (j)))] := hl
  refine lv_bipush (v := nI (30)) hx hb dm_Poly_settle_0 (by decide) ?_
  refine lv_istore_n hx hb dm_Poly_settle_2 rfl hl (by decide) rfl (fun ls hl => ?_)
  have hl : lv_has ls 2 [(1, .int (nI (30))), (0, .ref (g (j)))] := hl
  have hl : lv_has ls 2 [(1, .int (sd_i 31)), (0, .ref (g (j)))] := by
    rw [sd_s]
    exact hl
  have fin : ∀ n, sp_sz (σ j) 31 = n → ∀ (ls : Array Slot), lv_has ls 2 [(1, .int (sd_i (n))), (0, .ref (g (j)))] → W p l e rm_Poly_settle s m args below meth c s.heap [] 0 0 Q (F0 m 22 ls []) := by
    intro n hn ls hl
    refine lv_aload_n hx hb dm_Poly_settle_22 rfl (lv_at hl 1 rfl) ?_
    refine lv_iload_n hx hb dm_Poly_settle_23 rfl (lv_at hl 0 rfl) ?_
    refine qo_putd S hW hj (wa_in 46 (by decide +kernel) rfl) dm_Poly_settle_24 (fun H locs hW => ?_)
    exact hret _ _ _ _ _ dm_Poly_settle_27 (by rw [hn]) hW
  have loop : ∀ n, n ≤ 31 → sp_sz (σ j) 31 = sp_sz (σ j) n → ∀ (ls : Array Slot), lv_has ls 2 [(1, .int (sd_i (n))), (0, .ref (g (j)))] → W p l e rm_Poly_settle s m args below meth c s.heap [] 0 0 Q (F0 m 3 ls []) := by
    intro n
    induction n with
    | zero =>
      intro hn hz ls hl
      refine lv_iload_n hx hb dm_Poly_settle_3 rfl (lv_at hl 0 rfl) ?_
      refine wi_if_lt (tgt := 22) S (sd_T (by omega)) dm_Poly_settle_4 (by decide) (fun hc => ?_) (fun hc => ?_)
      · exact fin 0 hz ls hl
      · exfalso
        omega
    | succ n ih =>
      intro hn hz ls hl
      refine lv_iload_n hx hb dm_Poly_settle_3 rfl (lv_at hl 0 rfl) ?_
      refine wi_if_lt (tgt := 22) S (sd_T (by omega)) dm_Poly_settle_4 (by decide) (fun hc => ?_) (fun hc => ?_)
      · exfalso
        omega
      · refine lv_aload_n hx hb dm_Poly_settle_7 rfl (lv_at hl 1 rfl) ?_
        refine qo_getc S hW hj (wa_in 40 (by decide +kernel) rfl) dm_Poly_settle_8 ?_
        refine lv_iload_n hx hb dm_Poly_settle_11 rfl (lv_at hl 0 rfl) ?_
        rw [sd_n (show 0 < n + 1 by omega)]
        rw [Nat.add_sub_cancel]
        refine qo_ald S hW hj (by omega) dm_Poly_settle_12 ?_
        have hvn := hv n
        refine wi_if_ne (tgt := 22) S (nn_T (by omega)) dm_Poly_settle_13 (by decide) (fun hc => ?_) (fun hc => ?_)
        · refine fin (n + 1) ?_ ls hl
          rw [hz, sp_sz_s, if_neg (by omega)]
        · refine lv_iinc (k := 0) (v := sd_i n) hx hb dm_Poly_settle_16 hl rfl (sd_m1 n) (by decide) rfl (fun ls hl => ?_)
          have hl : lv_has ls 2 [(1, .int (sd_i (n))), (0, .ref (g (j)))] := hl
          refine lv_goto (tgt := 3) hx hb dm_Poly_settle_19 (by decide) ?_
          exact ih (by omega) (by rw [hz, sp_sz_s, if_pos (by omega)]) ls hl
  exact loop 31 (Nat.le_refl _) rfl ls hl
set_option maxHeartbeats 4000000 in
set_option maxRecDepth 100000 in
theorem mo_Poly_put (l : Launch) (D : va_G) (k : ClassId × ClassId × ClassId) (g : Nat → Nat) (N P : Nat) (O : List (Nat × od_E)) (σ : st_T) {j n v : Nat} (hj : qo_in O N j) (hn : n < 31) (hv : ∀ i, σ j i < 2147483648) (hw : v < 2147483648) : mo_V l D k g N P O ym_Poly_put wm_Poly_put rm_Poly_put [.ref (g j), .int (nI n), .int (nI v)] σ (fun σ1 => σ1 = st_up (st_up σ j n v) 200 j (sp_sz (va_up (σ j) n v) 31)) := by
  refine ct_V_in (cc := bm_Poly_put) (maxL := 3) (by decide) rfl (Nat.le_of_ble_eq_true rfl) ?_
  intro p e s m args below meth c A ls Q S hl hW hret
  have S : pw_S p m c bm_Poly_put 3 s args wa_g rc_Poly D cl_s (ty_s k) := S
  have hx := S.1.1
  have hb := S.1.2.1
  have hl : lv_has ls 3 [(0, .ref (g (j))), (1, .int (nI (n))), (2, .int (nI (v)))] := hl
  refine lv_aload_n hx hb dm_Poly_put_0 rfl (lv_at hl 0 rfl) ?_
  refine qo_getc S hW hj (wa_in 40 (by decide +kernel) rfl) dm_Poly_put_1 ?_
  refine lv_iload_n hx hb dm_Poly_put_4 rfl (lv_at hl 1 rfl) ?_
  refine lv_iload_n hx hb dm_Poly_put_5 rfl (lv_at hl 2 rfl) ?_
  refine qo_ast S hW hj (by omega) dm_Poly_put_6 (fun H locs hW => ?_)
  refine lv_aload_n hx hb dm_Poly_put_7 rfl (lv_at hl 0 rfl) ?_
  have hv2 : ∀ i, st_up σ j n v j i < 2147483648 := fun i => by
    rw [st_up_at]
    unfold va_up
    split
    · exact hw
    · exact hv i
  refine pw_callV (rest := []) S hW (mo_Poly_settle l D k g N P O (st_up σ j n v) hj hv2) (cv_Poly_29 S.1.2.2.2.2 ⟨by decide, by decide⟩) (Nat.lt_trans (Nat.lt_succ_self _) hj.2.1) (by rw [en_o_n hj.2.2.2.1]; exact en_k0 hj.1) rfl rfl hl.1 rfl (lv_room (Nat.le_of_ble_eq_true rfl)) ⟨Nat.zero_le _, Nat.zero_le _⟩ dm_Poly_put_8 (fun σ1 H locs hp hW => ?_)
  rw [hp] at hW
  exact hret _ _ _ _ _ dm_Poly_put_11 (by rw [st_up_at]) hW
set_option maxHeartbeats 4000000 in
set_option maxRecDepth 100000 in
theorem mo_Poly_clear (l : Launch) (D : va_G) (k : ClassId × ClassId × ClassId) (g : Nat → Nat) (N P : Nat) (O : List (Nat × od_E)) (σ : st_T) {j : Nat} (hj : qo_in O N j) : mo_V l D k g N P O ym_Poly_clear wm_Poly_clear rm_Poly_clear [.ref (g j)] σ (fun σ1 => σ1 = st_up (st_fl σ j 31 0) 200 j 0) := by
  refine ct_V_in (cc := bm_Poly_clear) (maxL := 1) (by decide) rfl (Nat.le_of_ble_eq_true rfl) ?_
  intro p e s m args below meth c A ls Q S hl hW hret
  have S : pw_S p m c bm_Poly_clear 1 s args wa_g rc_Poly D cl_s (ty_s k) := S
  have hx := S.1.1
  have hb := S.1.2.1
  have hl : lv_has ls 1 [(0, .ref (g (j)))] := hl
  refine lv_aload_n hx hb dm_Poly_clear_0 rfl (lv_at hl 0 rfl) ?_
  refine qo_getc S hW hj (wa_in 40 (by decide +kernel) rfl) dm_Poly_clear_1 ?_
  refine lv_iconst (v := nI (0)) hx hb dm_Poly_clear_4 (by decide) ?_
  refine pw_callSV (rest := []) S hW (mo_Arrays_fill l D k g N P O σ (v := 0) hj) (cv_Poly_23 S.1.2.2.2.2 ⟨by decide, by decide⟩) rfl hl.1 rfl (lv_room (Nat.le_of_ble_eq_true rfl)) ⟨Nat.zero_le _, Nat.zero_le _⟩ dm_Poly_clear_5 (fun σ1 H locs hp hW => ?_)
  rw [hp] at hW
  refine lv_aload_n hx hb dm_Poly_clear_8 rfl (lv_at hl 0 rfl) ?_
  refine lv_iconst (v := -1) hx hb dm_Poly_clear_9 (by decide) ?_
  rw [show (-1 : Int32) = sd_i 0 from sd_0.symm]
  refine qo_putd S hW hj (wa_in 46 (by decide +kernel) rfl) dm_Poly_clear_10 (fun H locs hW => ?_)
  exact hret _ _ _ _ _ dm_Poly_clear_13 rfl hW
set_option maxHeartbeats 4000000 in
set_option maxRecDepth 100000 in
theorem mo_Poly_becomeTerm (l : Launch) (D : va_G) (k : ClassId × ClassId × ClassId) (g : Nat → Nat) (N P : Nat) (O : List (Nat × od_E)) (σ : st_T) {j v n : Nat} (hw : st_wf P σ) (hj : qo_in O N j) (hn : n < 31) (hv : v < 2147483648) : mo_V l D k g N P O ym_Poly_becomeTerm wm_Poly_becomeTerm rm_Poly_becomeTerm [.ref (g j), .int (nI v), .int (nI n)] σ (fun σ1 => σ1 = st_po σ j (va_up (fun _ => 0) n v)) := by
  refine ct_V_in (cc := bm_Poly_becomeTerm) (maxL := 3) (by decide) rfl (Nat.le_of_ble_eq_true rfl) ?_
  intro p e s m args below meth c A ls Q S hl hW hret
  have S : pw_S p m c bm_Poly_becomeTerm 3 s args wa_g rc_Poly D cl_s (ty_s k) := S
  have hx := S.1.1
  have hb := S.1.2.1
  have hl : lv_has ls 3 [(0, .ref (g (j))), (1, .int (nI (v))), (2, .int (nI (n)))] := hl
  refine lv_aload_n hx hb dm_Poly_becomeTerm_0 rfl (lv_at hl 0 rfl) ?_
  refine pw_callV (rest := []) S hW (mo_Poly_clear l D k g N P O σ hj) (cv_Poly_32 S.1.2.2.2.2 ⟨by decide, by decide⟩) (Nat.lt_trans (Nat.lt_succ_self _) hj.2.1) (by rw [en_o_n hj.2.2.2.1]; exact en_k0 hj.1) rfl rfl hl.1 rfl (lv_room (Nat.le_of_ble_eq_true rfl)) ⟨Nat.zero_le _, Nat.zero_le _⟩ dm_Poly_becomeTerm_1 (fun σ1 H locs hp hW => ?_)
  rw [hp, st_cl_po hw hj.1] at hW
  refine lv_aload_n hx hb dm_Poly_becomeTerm_4 rfl (lv_at hl 0 rfl) ?_
  refine lv_iload_n hx hb dm_Poly_becomeTerm_5 rfl (lv_at hl 2 rfl) ?_
  refine lv_iload_n hx hb dm_Poly_becomeTerm_6 rfl (lv_at hl 1 rfl) ?_
  refine pw_callV (rest := []) S hW (mo_Poly_put l D k g N P O (st_po σ j (fun _ => 0)) hj hn (by rw [st_po_at]; intro i; omega) hv) (cv_Poly_35 S.1.2.2.2.2 ⟨by decide, by decide⟩) (Nat.lt_trans (Nat.lt_succ_self _) hj.2.1) (by rw [en_o_n hj.2.2.2.1]; exact en_k0 hj.1) rfl rfl hl.1 rfl (lv_room (Nat.le_of_ble_eq_true rfl)) ⟨Nat.zero_le _, Nat.zero_le _⟩ dm_Poly_becomeTerm_7 (fun σ2 H locs hp2 hW => ?_)
  rw [hp2, st_pt_po hj.1, st_po_at, st_po_po (by have := kd_po hj.1; omega)] at hW
  exact hret _ _ _ _ _ dm_Poly_becomeTerm_10 rfl hW
