/-! The law's walk (printed by gen/law3.py) -/
theorem lr_0 {P : Nat} (hP : ag_pr P) : lr P (st_1 P) := by
  have hP2 : 2 ≤ P := hP.1
  have r0 : ∀ a, a ≠ 203 → a ≠ 204 → a ≠ 21 → a ≠ 200 → a ≠ 205 → st_1 P a = fun _ => 0 := fun a h1 h2 h3 h4 h5 => by rw [st_1_row h5, st_0_row h1 h2 h3 h4]
  have r203 : st_1 P 203 = st_z P 203 := by
    rw [st_1_row (by decide)]
    exact st_po_row (by decide) (by decide)
  have r204 : st_1 P 204 = st_z P 204 := by
    rw [st_1_row (by decide)]
    exact st_po_row (by decide) (by decide)
  have r21 : st_1 P 21 = sp_x := by
    rw [st_1_row (by decide)]
    exact st_po_at
  have r205 : st_1 P 205 = va_up (fun _ => 0) 0 P := by
    unfold st_1
    rw [st_up_at, st_0_row (by decide) (by decide) (by decide) (by decide)]
  have z0 : sp_sz (fun _ => 0) 31 = 0 := by decide +kernel
  refine ⟨fun _ _ => 0, fun _ => 0, [], 0, ⟨fun n hn => ⟨sp_z_ok (by omega), by rw [z0]; omega⟩, sp_z_ok (by omega), fun h => by rw [z0] at h; omega, fun p hp => absurd hp List.not_mem_nil, Nat.zero_le _, by omega⟩, ⟨⟨by rw [r203]; rfl, fun j hj => ?_⟩, ⟨fun t ht => ?_, fun s t hs ht h => ?_⟩, r21, fun n hn => r0 _ (by omega) (by omega) (by omega) (by omega) (by omega), r0 118 (by decide) (by decide) (by decide) (by decide) (by decide), ?_, by rw [r203]; rfl⟩, ⟨⟨by rw [r205, va_up_self], fun s hs => ?_⟩, fun n hn => r0 _ (by omega) (by omega) (by omega) (by omega) (by omega), r0 _ (by decide) (by decide) (by decide) (by decide) (by decide), by rw [r205, va_up_ne _ _ (by decide), z0], ?_, by rw [r205, va_up_ne _ _ (by decide)], by rw [r205, va_up_ne _ _ (by decide)]; rfl⟩⟩
  · have hj1 := (kd_po hj).2
    by_cases h21 : j = 21
    · subst h21
      refine ⟨?_, ?_⟩
      · rw [r21]
        exact set_ok (sp_z_ok (by omega)) (by decide) (by omega)
      · rw [r21, st_1_row (by decide)]
        exact st_po_sz (by decide)
    · refine ⟨?_, ?_⟩
      · rw [r0 j (by omega) (by omega) h21 (by omega) (by omega)]
        exact sp_z_ok (by omega)
      · rw [r0 j (by omega) (by omega) h21 (by omega) (by omega), st_1_row (by decide), st_0_sz h21, z0]
  · rw [r204]
    exact (by decide +kernel : ∀ t, t < 15 → kd_k (72 + 3 * (t % 15)) = 10) t ht
  · rw [r204] at h
    have h : 72 + 3 * (s % 15) = 72 + 3 * (t % 15) := h
    rw [Nat.mod_eq_of_lt hs, Nat.mod_eq_of_lt ht] at h
    omega
  · unfold pl_v
    rw [r203]
    rfl
  · rw [r0 _ (by omega) (by omega) (by omega) (by omega) (by omega)]
    exact sp_z_ok (by omega)
  · unfold ml_v
    rw [r205, va_up_ne _ _ (by decide)]
    rfl
theorem is6_T {L : Nat} (h : L ≤ 3073) : (nI L - nI 6).toInt = (L : Int) - 6 := by
  rw [Int32.toInt_sub, nn_T (by omega), nn_T (by decide)]
  refine Int.bmod_eq_of_le (by omega) (by omega)
set_option maxHeartbeats 8000000 in
set_option maxRecDepth 100000 in
theorem law_walk {p : Program} {e : Env} {s : State} {m : MethodId} {below : List Frame} {meth : Method} {c : Code} (l : Launch) {b L : Nat} {xs : Nat → Int32} {Q : State → Prop} {ls : Array Slot} (hL : L ≤ 3073) (hx : p.tables.exec = Jvm.exec) (hb : c.code = code) (hml : c.maxLocals = 4) (hown : s.vm.findClass rc_Law = some m.cls) (hts : ∀ w ∈ lw_tbl, w.before #[Value.ref b] s = true) (hX : va_X b L xs s s.heap) (hbl : b < s.heap.size) (hl : lv_has ls 4 (lv_args 0 [.ref b])) (hend : ∀ (pc : Nat) (H : Heap) (ls : Array Slot), decode code pc = .ok (.ireturn, 1) → W p l e room_1 s m #[Value.ref b] below meth c H [] 600000 7302250 Q (F0 m pc ls [.int 1])) : W p l e room_1 s m #[Value.ref b] below meth c s.heap [] 0 0 Q (F0 m 0 ls []) := by
  have ht : ∀ w ∈ wa_g, w.before #[Value.ref b] s = true := fun w h => hts w (List.mem_filter.mp h).1
  have htt : ∀ (i : Nat) (w : Cond), tables_1[i]? = some w → w.before #[Value.ref b] s = true := fun i w h => hts w (List.mem_append_right _ (List.mem_of_getElem? h))
  have hZ : nw_s s := ⟨va_Nw.of (w := nw_Ring_11) rfl (htt 36 nw_Ring_11 (by decide +kernel)), va_Nw.of (w := nw_Frob_11) rfl (htt 98 nw_Frob_11 (by decide +kernel)), va_Nw.of (w := nw_Parts_19) rfl (htt 153 nw_Parts_19 (by decide +kernel)), va_Nw.of (w := nw_Parts_41) rfl (htt 155 nw_Parts_41 (by decide +kernel)), va_Nw.of (w := nw_Part_9) rfl (htt 160 nw_Part_9 (by decide +kernel)), va_Nw.of (w := nw_Field_11) rfl (htt 213 nw_Field_11 (by decide +kernel)), va_Nw.of (w := nw_PP_53) rfl (htt 244 nw_PP_53 (by decide +kernel)), va_AO.of (htt 99 (.arrayOver (.object rc_Poly)) (by decide +kernel)), va_AO.of (htt 151 (.arrayOver (.object rc_Part)) (by decide +kernel))⟩
  obtain ⟨c0, i0, k0⟩ := u_known (n := 9) ht wu_Field (ht _ (wa_in 207 (by decide +kernel) rfl))
  obtain ⟨c1, i1, k1⟩ := u_known (n := 8) ht wu_Frob (ht _ (wa_in 92 (by decide +kernel) rfl))
  obtain ⟨c2, i2, k2⟩ := u_known (n := 3) ht wu_Part (ht _ (wa_in 154 (by decide +kernel) rfl))
  obtain ⟨c3, i3, k3⟩ := u_known (n := 9) ht wu_Parts (ht _ (wa_in 145 (by decide +kernel) rfl))
  obtain ⟨c4, i4, k4⟩ := u_known (n := 2) ht wu_Poly (ht _ (wa_in 35 (by decide +kernel) rfl))
  obtain ⟨c5, i5, k5⟩ := u_known (n := 9) ht wu_Ring (ht _ (wa_in 21 (by decide +kernel) rfl))
  obtain ⟨c6, i6, k6⟩ := u_known (n := 5) ht wu_PP (ht _ (wa_in 13 (by decide +kernel) rfl))
  obtain ⟨c7, i7, k7⟩ := u_known (n := 8) ht wu_Model (ht _ (wa_in 553 (by decide +kernel) rfl))
  obtain ⟨a1, ka1, cp1, f1, f2, f3⟩ := Cond.arrayClass_spec (ht (.arrayClass .int) (wa_in 58 (by decide +kernel) rfl))
  obtain ⟨cp2, a2, ka2, p1, p2, p3, p4, p5⟩ := Cond.arrayOver_spec (hz_AOp hZ)
  obtain ⟨cp3, a3, ka3, q1, q2, q3, q4, q5⟩ := Cond.arrayOver_spec (hz_AOt hZ)
  have hK : ∃ D, va_K D cl_s (ty_s (a1, a2, a3)) s := by
    refine ⟨(fun i => [c0, c1, c2, c3, c4, c5, c6, c7].getD i c0, fun i => [i0, i1, i2, i3, i4, i5, i6, i7].getD i i0), fun c q hq => ?_, fun k q hq => ?_⟩
    · match c, hq with
      | 0, hq => obtain rfl := Option.some.inj hq; exact k0
      | 1, hq => obtain rfl := Option.some.inj hq; exact k1
      | 2, hq => obtain rfl := Option.some.inj hq; exact k2
      | 3, hq => obtain rfl := Option.some.inj hq; exact k3
      | 4, hq => obtain rfl := Option.some.inj hq; exact k4
      | 5, hq => obtain rfl := Option.some.inj hq; exact k5
      | 6, hq => obtain rfl := Option.some.inj hq; exact k6
      | 7, hq => obtain rfl := Option.some.inj hq; exact k7
      | c + 8, hq =>
        have h1 : c + 8 < 8 := (List.getElem?_eq_some_iff.mp hq).1
        exact absurd h1 (by omega)
    · match k, hq with
      | 0, hq => obtain rfl := Option.some.inj hq; exact ⟨fun n z => ⟨fun k h => (by cases h), ka1, f2, cp1, f3⟩, f1⟩
      | 1, hq => obtain rfl := Option.some.inj hq; exact ⟨fun n z => ⟨fun k h => (by cases h), ka2, p3, cp2, p4⟩, ka2, cp2, p3, p4, p1, p5⟩
      | 2, hq => obtain rfl := Option.some.inj hq; exact ⟨fun n z => ⟨fun k h => (by cases h), ka3, q3, cp3, q4⟩, ka3, cp3, q3, q4, q1, q5⟩
      | k + 3, hq =>
        have h1 : k + 3 < 3 := (List.getElem?_eq_some_iff.mp hq).1
        exact absurd h1 (by omega)
  obtain ⟨D, hK⟩ := hK
  generalize (a1, a2, a3) = k at hK
  have S : pw_S p m c code 4 s #[Value.ref b] wa_g rc_Law D cl_s (ty_s k) := ⟨⟨hx, hb, hml, hown, ht⟩, hK⟩
  have hl : lv_has ls 4 [(0, .ref b)] := hl
  obtain ⟨A, hA⟩ : ∃ A : Nat → Prop, A = fun q => s.heap.size ≤ q := ⟨_, rfl⟩
  have hbA : ¬ A b := by rw [hA]; exact Nat.not_le.mpr hbl
  have hAs : ∀ q, A q → s.heap.size ≤ q := fun q h => by rw [hA] at h; exact h
  have hW : pw_H D cl_s A s.heap (fun _ => 0) 0 (en_o k (fun _ => 0) 2 [] (st_z 2)) s.heap [] := ⟨fun i q hq => absurd (pw_ix hq).1 (Nat.not_lt_zero _), ⟨fun i j x y hi => absurd (pw_ix hi).1 (Nat.not_lt_zero _), fun i q hq => absurd (pw_ix hq).1 (Nat.not_lt_zero _)⟩, va_S.rf, fun q h => by rw [hA]; exact h⟩
  refine oz_new S hW (by decide) rfl (st_z_4 2) [.n, .n, .n, .n, .n] ty_PP to_PP (ci := 6) rfl wu_PP (wa_in 12 (by decide +kernel) rfl) (wa_in 13 (by decide +kernel) rfl) (wa_in 1 (by decide +kernel) rfl) (fun j hj => ?_) rfl ⟨by decide, by decide⟩ dm_Law_0 (fun g1 H hg1 hW => ?_)
  · match j, hj with
    | 0, _ => rfl
    | 1, _ => rfl
    | 2, _ => rfl
    | 3, _ => rfl
    | 4, _ => rfl
    | j + 5, hj => exact absurd hj (by omega)
  refine lv_dup hx hb dm_Law_3 rfl ?_
  refine lv_aload_n hx hb dm_Law_4 rfl (lv_at hl 0 rfl) ?_
  refine lv_iconst (v := nI 0) hx hb dm_Law_5 (by decide) ?_
  refine lw_cell S hX hbl hbA (by omega) hW ⟨by decide, by decide⟩ hl.1 (Nat.le_of_ble_eq_true rfl) ⟨by decide, by decide⟩ dm_Law_6 (fun H locs hW => ?_)
  generalize hx0 : (if 0 < L then xs 0 else 0) = X0
  refine pw_callC (rest := [.ref (g1 0)]) (As := [.int X0]) S nw_zs hZ hW (mn_PP_init l D k g1 (L := X0)) ⟨callB_of 1 S.1.2.2.2.2 (wa_C ci_PP_init) rfl rfl rfl (S.1.2.2.2.2 _ (wa_in 1 (by decide +kernel) rfl)) (S.1.2.2.2.2 _ (wa_in 14 (by decide +kernel) rfl)) (by decide +kernel) ⟨by decide, by decide⟩, rfl, S.1.2.2.2.2 _ (wa_in 15 (by decide +kernel) rfl)⟩ rfl hl.1 rfl (lv_room (Nat.le_of_ble_eq_true rfl)) ⟨by decide, by decide⟩ dm_Law_9 (fun g2 N2 E2 H locs hp hW => ?_)
  obtain ⟨P, hpn, hP31, hN2, hq2, hE2⟩ := hp
  have hP := hpn.1
  have hN3 : N2 = 149 := hN2
  have hE3 : E2 = en_o k g2 P [] (st_0 P) := hE2
  have hg2 : ∀ j, j < 1 → g2 j = g1 j := hq2
  rw [hN3, hE3] at hW
  clear hN2 hN3 hE2 hE3 hq2
  rw [← hg2 0 (by decide)]
  refine lv_astore_n hx hb dm_Law_12 rfl hl (by decide) rfl (fun ls hl => ?_)
  have hl : lv_has ls 4 [(1, .ref (g2 0)), (0, .ref b)] := hl
  refine oz_new S hW (by decide) (by decide +kernel) (st_0_4 P) [.i 0, .n, .i 0, .n, .n, .i 0, .i 0, .i 0] ty_Model to_Model (ci := 7) rfl wu_Model (wa_in 552 (by decide +kernel) rfl) (wa_in 553 (by decide +kernel) rfl) (wa_in 9 (by decide +kernel) rfl) (fun j hj => ?_) rfl ⟨by decide, by decide⟩ dm_Law_13 (fun g3 H hg3 hW => ?_)
  · match j, hj with
    | 0, _ => rfl
    | 1, _ => rfl
    | 2, _ => rfl
    | 3, _ => rfl
    | 4, _ => rfl
    | 5, _ => rfl
    | 6, _ => rfl
    | 7, _ => rfl
    | j + 8, hj => exact absurd hj (by omega)
  have hl : lv_has ls 4 [(1, .ref (g3 0)), (0, .ref b)] := by
    rw [hg3 0 (by decide)]
    exact hl
  refine lv_dup hx hb dm_Law_16 rfl ?_
  refine lv_aload_n hx hb dm_Law_17 rfl (lv_at hl 1 rfl) ?_
  refine lv_iconst (v := nI 0) hx hb dm_Law_18 (by decide) ?_
  refine lw_cell S hX hbl hbA (by omega) hW ⟨by decide, by decide⟩ hl.1 (Nat.le_of_ble_eq_true rfl) ⟨by decide, by decide⟩ dm_Law_19 (fun H locs hW => ?_)
  rw [hx0]
  refine pw_callC (rest := [.ref (g3 149)]) (As := [.int X0]) S nw_zs hZ hW (mn_Model_init l D k g3 P hpn hP31) ⟨callB_of 1 S.1.2.2.2.2 (wa_C ci_Model_init) rfl rfl rfl (S.1.2.2.2.2 _ (wa_in 9 (by decide +kernel) rfl)) (S.1.2.2.2.2 _ (wa_in 554 (by decide +kernel) rfl)) (by decide +kernel) ⟨by decide, by decide⟩, rfl, S.1.2.2.2.2 _ (wa_in 555 (by decide +kernel) rfl)⟩ rfl hl.1 rfl (lv_room (Nat.le_of_ble_eq_true rfl)) ⟨by decide, by decide⟩ dm_Law_22 (fun g4 N4 E4 H locs hp hW => ?_)
  obtain ⟨hN4, hq4, hE4⟩ := hp
  have hN5 : N4 = 153 := hN4
  have hE5 : E4 = en_s k g4 (st_1 P) := hE4
  have hg4 : ∀ j, j < 150 → g4 j = g3 j := hq4
  rw [hN5, hE5] at hW
  clear hN4 hN5 hE4 hE5 hq4
  rw [← hg4 149 (by decide)]
  have hl : lv_has ls 4 [(1, .ref (g4 0)), (0, .ref b)] := by
    rw [hg4 0 (by decide)]
    exact hl
  refine lv_astore_n hx hb dm_Law_25 rfl hl (by decide) rfl (fun ls hl => ?_)
  have hl : lv_has ls 4 [(2, .ref (g4 149)), (1, .ref (g4 0)), (0, .ref b)] := hl
  refine lv_iconst (v := nI 1) hx hb dm_Law_26 (by decide) ?_
  refine lv_istore_n hx hb dm_Law_27 rfl hl (by decide) rfl (fun ls hl => ?_)
  have hl : lv_has ls 4 [(3, .int (nI 1)), (2, .ref (g4 149)), (1, .ref (g4 0)), (0, .ref b)] := hl
  have fin : ∀ (ls : Array Slot) (H : Heap) (locs : List Loc), (∀ q ∈ locs, A q.base) → W p l e room_1 s m #[Value.ref b] below meth c H locs 153 3298 Q (F0 m 878 ls []) := fun ls H locs hq => by
    refine lv_iconst (v := nI 1) hx hb dm_Law_878 (by decide) ?_
    refine va_forget (fun q h => hAs _ (hq q h)) ?_
    exact W.widen (by decide) (by decide) (hend _ H ls dm_Law_879)
  have loop : ∀ d i, L ≤ i + d → 1 ≤ i → i ≤ L + 6 → ∀ (σ : st_T) (ls : Array Slot) (H : Heap) (locs : List Loc), lv_has ls 4 [(3, .int (nI i)), (2, .ref (g4 149)), (1, .ref (g4 0)), (0, .ref b)] → lr P σ → pw_H D cl_s A s.heap g4 153 (en_s k g4 σ) H locs → W p l e room_1 s m #[Value.ref b] below meth c H locs 153 3298 Q (F0 m 28 ls []) := by
    intro d
    induction d with
    | zero =>
      intro i h1 h2 h3 σ ls H locs hl hlr hW
      refine lv_iload_n hx hb dm_Law_28 rfl (lv_at hl 0 rfl) ?_
      refine lv_aload_n hx hb dm_Law_29 rfl (lv_at hl 3 rfl) ?_
      refine va_slen hx hb hX hbl hbA hW.2.2.1 dm_Law_30 ?_
      refine lv_bipush (v := nI 6) hx hb dm_Law_31 (by decide) ?_
      refine lv_isub hx hb dm_Law_33 ?_
      refine wi_icmp_gt (tgt := 878) S (nn_T (by omega)) (is6_T hL) dm_Law_34 (by decide) (fun hc => ?_) (fun hc => ?_)
      · exact fin ls H locs hW.2.2.1.2.2
      · exfalso
        omega
    | succ d ih =>
      intro i h1 h2 h3 σ ls H locs hl hlr hW
      refine lv_iload_n hx hb dm_Law_28 rfl (lv_at hl 0 rfl) ?_
      refine lv_aload_n hx hb dm_Law_29 rfl (lv_at hl 3 rfl) ?_
      refine va_slen hx hb hX hbl hbA hW.2.2.1 dm_Law_30 ?_
      refine lv_bipush (v := nI 6) hx hb dm_Law_31 (by decide) ?_
      refine lv_isub hx hb dm_Law_33 ?_
      refine wi_icmp_gt (tgt := 878) S (nn_T (by omega)) (is6_T hL) dm_Law_34 (by decide) (fun hc => ?_) (fun hc => ?_)
      · exact fin ls H locs hW.2.2.1.2.2
      · have hi : i + 6 ≤ L := by omega
        have K : ∀ (σ2 : st_T) (H : Heap) (locs : List Loc), lr P σ2 → pw_H D cl_s A s.heap g4 153 (en_s k g4 σ2) H locs → lw_W p l e s m below meth c b Q ls H locs 872 [] := fun σ2 H locs hlr hW => by
          unfold lw_W
          refine lv_iinc (k := 0) (v := nI (i + 6)) hx hb dm_Law_872 hl rfl (by rw [show Int32.ofInt 6 = nI 6 from rfl, nI_add]) (by decide) rfl (fun ls hl => ?_)
          refine lv_goto (tgt := 28) hx hb dm_Law_875 (by decide) ?_
          exact ih (i + 6) (by omega) (by omega) (by omega) σ2 ls H locs hl hlr hW
        refine lv_aload_n hx hb dm_Law_37 rfl (lv_at hl 3 rfl) ?_
        refine lv_iload_n hx hb dm_Law_38 rfl (lv_at hl 0 rfl) ?_
        refine va_sld hx hb hX hbl hbA hW.2.2.1 (vp_in_nI (show i < L by omega) (by omega)) dm_Law_39 ?_
        refine lv_bipush (v := nI 31) hx hb dm_Law_40 (by decide) ?_
        refine lv_iand hx hb dm_Law_42 ?_
        generalize (xs (nI i).toNatClampNeg &&& nI 31) = v
        by_cases hr : v.toInt < 0 ∨ 19 < v.toInt
        · exact lv_tableOut (tgt := 872) hx hb dm_Law_43 hr (by decide) (K σ H locs hlr hW)
        have hv : v.toInt = 0 ∨ v.toInt = 1 ∨ v.toInt = 2 ∨ v.toInt = 3 ∨ v.toInt = 4 ∨ v.toInt = 5 ∨ v.toInt = 6 ∨ v.toInt = 7 ∨ v.toInt = 8 ∨ v.toInt = 9 ∨ v.toInt = 10 ∨ v.toInt = 11 ∨ v.toInt = 12 ∨ v.toInt = 13 ∨ v.toInt = 14 ∨ v.toInt = 15 ∨ v.toInt = 16 ∨ v.toInt = 17 ∨ v.toInt = 18 ∨ v.toInt = 19 := by omega
        rcases hv with h | h | h | h | h | h | h | h | h | h | h | h | h | h | h | h | h | h | h | h
        · exact lv_tableIn (off := 93) (tgt := 136) hx hb dm_Law_43 (by omega) (by omega) (by rw [h]; decide) (by decide) (lw_c0 S hX hbl hbA hP hP31 hL hl hi hlr hW K)
        · exact lv_tableIn (off := 106) (tgt := 149) hx hb dm_Law_43 (by omega) (by omega) (by rw [h]; decide) (by decide) (lw_c1 S hX hbl hbA hP hP31 hL hl hi hlr hW K)
        · exact lv_tableIn (off := 149) (tgt := 192) hx hb dm_Law_43 (by omega) (by omega) (by rw [h]; decide) (by decide) (lw_c2 S hX hbl hbA hP hP31 hL hl hi hlr hW K)
        · exact lv_tableIn (off := 182) (tgt := 225) hx hb dm_Law_43 (by omega) (by omega) (by rw [h]; decide) (by decide) (lw_c3 S hX hbl hbA hP hP31 hL hl hi hlr hW K)
        · exact lv_tableIn (off := 205) (tgt := 248) hx hb dm_Law_43 (by omega) (by omega) (by rw [h]; decide) (by decide) (lw_c4 S hX hbl hbA hP hP31 hL hl hi hlr hW K)
        · exact lv_tableIn (off := 238) (tgt := 281) hx hb dm_Law_43 (by omega) (by omega) (by rw [h]; decide) (by decide) (lw_c5 S hX hbl hbA hP hP31 hL hl hi hlr hW K)
        · exact lv_tableIn (off := 291) (tgt := 334) hx hb dm_Law_43 (by omega) (by omega) (by rw [h]; decide) (by decide) (lw_c6 S hX hbl hbA hP hP31 hL hl hi hlr hW K)
        · exact lv_tableIn (off := 334) (tgt := 377) hx hb dm_Law_43 (by omega) (by omega) (by rw [h]; decide) (by decide) (lw_c7 S hX hbl hbA hP hP31 hL hl hi hlr hW K)
        · exact lv_tableIn (off := 387) (tgt := 430) hx hb dm_Law_43 (by omega) (by omega) (by rw [h]; decide) (by decide) (lw_c8 S hX hbl hbA hP hP31 hL hl hi hlr hW K)
        · exact lv_tableIn (off := 430) (tgt := 473) hx hb dm_Law_43 (by omega) (by omega) (by rw [h]; decide) (by decide) (lw_c9 S hX hbl hbA hP hP31 hL hl hi hlr hW K)
        · exact lv_tableIn (off := 513) (tgt := 556) hx hb dm_Law_43 (by omega) (by omega) (by rw [h]; decide) (by decide) (lw_c10 S hX hbl hbA hP hP31 hL hl hi hlr hW K)
        · exact lv_tableIn (off := 546) (tgt := 589) hx hb dm_Law_43 (by omega) (by omega) (by rw [h]; decide) (by decide) (lw_c11 S hX hbl hbA hP hP31 hL hl hi hlr hW K)
        · exact lv_tableIn (off := 569) (tgt := 612) hx hb dm_Law_43 (by omega) (by omega) (by rw [h]; decide) (by decide) (lw_c12 S hX hbl hbA hP hP31 hL hl hi hlr hW K)
        · exact lv_tableIn (off := 592) (tgt := 635) hx hb dm_Law_43 (by omega) (by omega) (by rw [h]; decide) (by decide) (lw_c13 S hX hbl hbA hP hP31 hL hl hi hlr hW K)
        · exact lv_tableIn (off := 625) (tgt := 668) hx hb dm_Law_43 (by omega) (by omega) (by rw [h]; decide) (by decide) (lw_c14 S hX hbl hbA hP hP31 hL hl hi hlr hW K)
        · exact lv_tableIn (off := 658) (tgt := 701) hx hb dm_Law_43 (by omega) (by omega) (by rw [h]; decide) (by decide) (lw_c15 S hX hbl hbA hP hP31 hL hl hi hlr hW K)
        · exact lv_tableIn (off := 681) (tgt := 724) hx hb dm_Law_43 (by omega) (by omega) (by rw [h]; decide) (by decide) (lw_c16 S hX hbl hbA hP hP31 hL hl hi hlr hW K)
        · exact lv_tableIn (off := 704) (tgt := 747) hx hb dm_Law_43 (by omega) (by omega) (by rw [h]; decide) (by decide) (lw_c17 S hX hbl hbA hP hP31 hL hl hi hlr hW K)
        · exact lv_tableIn (off := 747) (tgt := 790) hx hb dm_Law_43 (by omega) (by omega) (by rw [h]; decide) (by decide) (lw_c18 S hX hbl hbA hP hP31 hL hl hi hlr hW K)
        · refine lv_tableIn (off := 780) (tgt := 823) hx hb dm_Law_43 (by omega) (by omega) (by rw [h]; decide) (by decide) ?_
          by_cases hz : (xs (i + 2)).toInt = 0
          · exact lw_c19y S hX hbl hbA hP hP31 hL hl hi hlr hW hz K
          · exact lw_c19n S hX hbl hbA hP hP31 hL hl hi hlr hW hz K
  exact loop L 1 (by omega) (by omega) (by omega) (st_1 P) ls H locs hl (lr_0 hP) hW
