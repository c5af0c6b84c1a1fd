/-! The constructors of PrimePolynomials and of the reference (printed by gen/ctor3.py) -/
set_option maxHeartbeats 8000000 in
set_option maxRecDepth 100000 in
theorem mn_PP_init (l : Launch) (D : va_G) (k : ClassId × ClassId × ClassId) (g : Nat → Nat) {L : Int32} : ct_N l ym_PP_init wm_PP_init rn_PP [.ref (g 0), .int L] D cl_s (ty_s k) nw_s g 1 (en_o k g 2 [(0, .o 6 [.n, .n, .n, .n, .n])] (st_z 2)) 148 2197 (fun u => ∃ P, pn_is L.toInt.toNat P ∧ P < 2147483648 ∧ u.2.1 = 149 ∧ (∀ j, j < 1 → u.1 j = g j) ∧ u.2.2 = en_o k u.1 P [] (st_0 P)) := by
  refine ct_N_in (cc := bm_PP_init) (maxL := 3) (by decide) rfl (Nat.le_of_ble_eq_true rfl) ?_
  intro p e s m args below meth c A ls Q S hZ hnm hl hW hret
  have S : pw_S p m c bm_PP_init 3 s args wa_g rc_PP D cl_s (ty_s k) := S
  have hx := S.1.1
  have hb := S.1.2.1
  have hl : lv_has ls 3 [(0, .ref (g 0)), (1, .int (L))] := hl
  refine lv_aload_n hx hb dm_PP_init_0 rfl (lv_at hl 0 rfl) ?_
  refine oz_obj S hl.1 (wa_in 17 (by decide +kernel) rfl) dm_PP_init_1 ⟨by decide, by decide⟩ (Nat.le_of_ble_eq_true rfl) ?_
  refine lv_aload_n hx hb dm_PP_init_4 rfl (lv_at hl 0 rfl) ?_
  refine oz_new S hW (by decide) (by decide +kernel) (st_z_4 2) [.i 0, .n, .n, .n, .n, .n, .n, .n, .n] ty_Ring to_Ring (ci := 5) rfl wu_Ring (wa_in 20 (by decide +kernel) rfl) (wa_in 21 (by decide +kernel) rfl) (wa_in 2 (by decide +kernel) rfl) (fun j hj => ?_) rfl ⟨by decide, by decide⟩ dm_PP_init_5 (fun g1 H hg1 hW => ?_)
  · match j, hj with
    | 0, _ => rfl
    | 1, _ => rfl
    | 2, _ => rfl
    | 3, _ => rfl
    | 4, _ => rfl
    | 5, _ => rfl
    | 6, _ => rfl
    | 7, _ => rfl
    | 8, _ => rfl
    | j + 9, hj => exact absurd hj (by omega)
  have hl : lv_has ls 3 [(0, .ref (g1 0)), (1, .int (L))] := by
    rw [hg1 0 (by omega)]
    exact hl
  rw [← hg1 0 (by omega)]
  have hW : pw_H D cl_s A s.heap g1 2 (en_o k g1 2 [(1, .o 5 [.i 0, .n, .n, .n, .n, .n, .n, .n, .n]), (0, .o 6 [.n, .n, .n, .n, .n])] (st_z 2)) H _ := hW
  refine lv_dup hx hb dm_PP_init_8 rfl ?_
  refine lv_iload_n hx hb dm_PP_init_9 rfl (lv_at hl 1 rfl) ?_
  refine pw_callSI (en := fun (_ : Unit) => en_o k g1 2 [(1, .o 5 [.i 0, .n, .n, .n, .n, .n, .n, .n, .n]), (0, .o 6 [.n, .n, .n, .n, .n])] (st_z 2)) (u := ()) (As := [.int L]) (rest := [.ref (g1 1), .ref (g1 1), .ref (g1 0)]) S hW (mm_PP_greatestPrimeUpTo l D k g1 2 (en_o k g1 2 [(1, .o 5 [.i 0, .n, .n, .n, .n, .n, .n, .n, .n]), (0, .o 6 [.n, .n, .n, .n, .n])] (st_z 2)) (L := L)) (cv_PP_11 S.1.2.2.2.2 ⟨by decide, by decide⟩) rfl hl.1 rfl (lv_room (Nat.le_of_ble_eq_true rfl)) ⟨by decide, by decide⟩ dm_PP_init_10 (fun r u H locs hp hW => ?_)
  obtain ⟨P, hpn, hP31, hr⟩ := hp
  rw [hr]
  have hP2 : 2 ≤ P := hpn.1.1
  have hW : pw_H D cl_s A s.heap g1 2 (en_o k g1 P [(1, .o 5 [.i 0, .n, .n, .n, .n, .n, .n, .n, .n]), (0, .o 6 [.n, .n, .n, .n, .n])] (st_z P)) H locs := pw_eq hW (fun i hi => by
    match i, hi with
    | 0, _ => rfl
    | 1, _ => rfl
    | i + 2, hi => exact absurd hi (by omega))
  refine pw_callC (rest := [.ref (g1 1), .ref (g1 0)]) (As := [.int (nI P)]) S nw_zs hZ hW (mn_Ring_init l D k g1 P) ⟨callB_of 1 S.1.2.2.2.2 (wa_C ci_Ring_init) rfl rfl rfl (S.1.2.2.2.2 _ (wa_in 2 (by decide +kernel) rfl)) (S.1.2.2.2.2 _ (wa_in 30 (by decide +kernel) rfl)) (by decide +kernel) ⟨by decide, by decide⟩, rfl, S.1.2.2.2.2 _ (wa_in 31 (by decide +kernel) rfl)⟩ rfl hl.1 rfl (lv_room (Nat.le_of_ble_eq_true rfl)) ⟨by decide, by decide⟩ dm_PP_init_13 (fun g2 N2 E2 H locs hp hW => ?_)
  obtain ⟨hN2, hq2, hE2⟩ := hp
  have hN2 : N2 = 18 := hN2
  have hE2 : E2 = en_o k g2 P [(0, .o 6 [.n, .n, .n, .n, .n])] (st_z P) := hE2
  have hg2 : ∀ j, j < 2 → g2 j = g1 j := hq2
  rw [hN2, hE2] at hW
  clear hN2 hE2 hq2
  have hl : lv_has ls 3 [(0, .ref (g2 0)), (1, .int (L))] := by
    rw [hg2 0 (by omega)]
    exact hl
  rw [← hg2 1 (by omega)]
  rw [← hg2 0 (by omega)]
  have hW : pw_H D cl_s A s.heap g2 18 (en_o k g2 P [(0, .o 6 [.n, .n, .n, .n, .n])] (st_z P)) H locs := hW
  refine oz_putF S hW ty_PP to_PP nm_PP 0 (by decide) rfl 0 (by decide) rfl wu_PP (wa_in 245 (by decide +kernel) rfl) rfl rfl hnm rfl (ty := .object "PrimePolynomials$Ring") (by decide +kernel) (.r 1) rfl rfl (Nat.le_of_ble_eq_true rfl) dm_PP_init_16 (fun H locs hW => ?_)
  have hW : pw_H D cl_s A s.heap g2 18 (en_o k g2 P [(0, .o 6 [.r 1, .n, .n, .n, .n])] (st_z P)) H locs := hW
  refine lv_aload_n hx hb dm_PP_init_19 rfl (lv_at hl 0 rfl) ?_
  refine oz_new S hW (by decide) (by decide +kernel) (st_z_4 P) [.n, .n, .n, .n, .n, .n, .n, .n] ty_Frob to_Frob (ci := 1) rfl wu_Frob (wa_in 91 (by decide +kernel) rfl) (wa_in 92 (by decide +kernel) rfl) (wa_in 4 (by decide +kernel) rfl) (fun j hj => ?_) rfl ⟨by decide, by decide⟩ dm_PP_init_20 (fun g3 H hg3 hW => ?_)
  · match j, hj with
    | 0, _ => rfl
    | 1, _ => rfl
    | 2, _ => rfl
    | 3, _ => rfl
    | 4, _ => rfl
    | 5, _ => rfl
    | 6, _ => rfl
    | 7, _ => rfl
    | j + 8, hj => exact absurd hj (by omega)
  have hl : lv_has ls 3 [(0, .ref (g3 0)), (1, .int (L))] := by
    rw [hg3 0 (by omega)]
    exact hl
  rw [← hg3 0 (by omega)]
  have hW : pw_H D cl_s A s.heap g3 19 (en_o k g3 P [(18, .o 1 [.n, .n, .n, .n, .n, .n, .n, .n]), (0, .o 6 [.r 1, .n, .n, .n, .n])] (st_z P)) H _ := hW
  refine lv_dup hx hb dm_PP_init_23 rfl ?_
  refine lv_aload_n hx hb dm_PP_init_24 rfl (lv_at hl 0 rfl) ?_
  refine oz_getR S hW 0 (by omega) rfl 0 (by decide) rfl wu_PP (wa_in 245 (by decide +kernel) rfl) rfl 1 rfl dm_PP_init_25 ?_
  refine pw_callC (rest := [.ref (g3 18), .ref (g3 0)]) (As := [.ref (g3 1)]) S nw_zs hZ hW (mn_Frob_init l D k g3 P hP2) ⟨callB_of 1 S.1.2.2.2.2 (wa_C ci_Frob_init) rfl rfl rfl (S.1.2.2.2.2 _ (wa_in 4 (by decide +kernel) rfl)) (S.1.2.2.2.2 _ (wa_in 93 (by decide +kernel) rfl)) (by decide +kernel) ⟨by decide, by decide⟩, rfl, S.1.2.2.2.2 _ (wa_in 94 (by decide +kernel) rfl)⟩ rfl hl.1 rfl (lv_room (Nat.le_of_ble_eq_true rfl)) ⟨by decide, by decide⟩ dm_PP_init_28 (fun g4 N4 E4 H locs hp hW => ?_)
  obtain ⟨hN4, hq4, hE4⟩ := hp
  have hN4 : N4 = 62 := hN4
  have hE4 : E4 = en_o k g4 P [(0, .o 6 [.r 1, .n, .n, .n, .n])] (st_0 P) := hE4
  have hg4 : ∀ j, j < 19 → g4 j = g3 j := hq4
  rw [hN4, hE4] at hW
  clear hN4 hE4 hq4
  have hl : lv_has ls 3 [(0, .ref (g4 0)), (1, .int (L))] := by
    rw [hg4 0 (by omega)]
    exact hl
  rw [← hg4 18 (by omega)]
  rw [← hg4 0 (by omega)]
  have hW : pw_H D cl_s A s.heap g4 62 (en_o k g4 P [(0, .o 6 [.r 1, .n, .n, .n, .n])] (st_0 P)) H locs := hW
  refine oz_putF S hW ty_PP to_PP nm_PP 0 (by decide) rfl 1 (by decide) rfl wu_PP (wa_in 246 (by decide +kernel) rfl) rfl rfl hnm rfl (ty := .object "PrimePolynomials$Frobenius") (by decide +kernel) (.r 18) rfl rfl (Nat.le_of_ble_eq_true rfl) dm_PP_init_31 (fun H locs hW => ?_)
  have hW : pw_H D cl_s A s.heap g4 62 (en_o k g4 P [(0, .o 6 [.r 1, .r 18, .n, .n, .n])] (st_0 P)) H locs := hW
  refine lv_aload_n hx hb dm_PP_init_34 rfl (lv_at hl 0 rfl) ?_
  refine oz_new S hW (by decide) (by decide +kernel) (st_0_4 P) [.n, .n, .n, .i 0, .i 0, .n, .n, .n, .n] ty_Parts to_Parts (ci := 3) rfl wu_Parts (wa_in 144 (by decide +kernel) rfl) (wa_in 145 (by decide +kernel) rfl) (wa_in 6 (by decide +kernel) rfl) (fun j hj => ?_) rfl ⟨by decide, by decide⟩ dm_PP_init_35 (fun g5 H hg5 hW => ?_)
  · match j, hj with
    | 0, _ => rfl
    | 1, _ => rfl
    | 2, _ => rfl
    | 3, _ => rfl
    | 4, _ => rfl
    | 5, _ => rfl
    | 6, _ => rfl
    | 7, _ => rfl
    | 8, _ => rfl
    | j + 9, hj => exact absurd hj (by omega)
  have hl : lv_has ls 3 [(0, .ref (g5 0)), (1, .int (L))] := by
    rw [hg5 0 (by omega)]
    exact hl
  rw [← hg5 0 (by omega)]
  have hW : pw_H D cl_s A s.heap g5 63 (en_o k g5 P [(62, .o 3 [.n, .n, .n, .i 0, .i 0, .n, .n, .n, .n]), (0, .o 6 [.r 1, .r 18, .n, .n, .n])] (st_0 P)) H _ := hW
  refine lv_dup hx hb dm_PP_init_38 rfl ?_
  refine lv_aload_n hx hb dm_PP_init_39 rfl (lv_at hl 0 rfl) ?_
  refine oz_getR S hW 0 (by omega) rfl 0 (by decide) rfl wu_PP (wa_in 245 (by decide +kernel) rfl) rfl 1 rfl dm_PP_init_40 ?_
  refine lv_aload_n hx hb dm_PP_init_43 rfl (lv_at hl 0 rfl) ?_
  refine oz_getR S hW 0 (by omega) rfl 1 (by decide) rfl wu_PP (wa_in 246 (by decide +kernel) rfl) rfl 18 rfl dm_PP_init_44 ?_
  refine pw_callC (rest := [.ref (g5 62), .ref (g5 0)]) (As := [.ref (g5 1), .ref (g5 18)]) S nw_zs hZ hW (mn_Parts_init l D k g5 P) ⟨callB_of 2 S.1.2.2.2.2 (wa_C ci_Parts_init) rfl rfl rfl (S.1.2.2.2.2 _ (wa_in 6 (by decide +kernel) rfl)) (S.1.2.2.2.2 _ (wa_in 146 (by decide +kernel) rfl)) (by decide +kernel) ⟨by decide, by decide⟩, rfl, S.1.2.2.2.2 _ (wa_in 147 (by decide +kernel) rfl)⟩ rfl hl.1 rfl (lv_room (Nat.le_of_ble_eq_true rfl)) ⟨by decide, by decide⟩ dm_PP_init_47 (fun g6 N6 E6 H locs hp hW => ?_)
  obtain ⟨hN6, hq6, hE6⟩ := hp
  have hN6 : N6 = 117 := hN6
  have hE6 : E6 = en_o k g6 P [(0, .o 6 [.r 1, .r 18, .n, .n, .n])] (st_0 P) := hE6
  have hg6 : ∀ j, j < 63 → g6 j = g5 j := hq6
  rw [hN6, hE6] at hW
  clear hN6 hE6 hq6
  have hl : lv_has ls 3 [(0, .ref (g6 0)), (1, .int (L))] := by
    rw [hg6 0 (by omega)]
    exact hl
  rw [← hg6 62 (by omega)]
  rw [← hg6 0 (by omega)]
  have hW : pw_H D cl_s A s.heap g6 117 (en_o k g6 P [(0, .o 6 [.r 1, .r 18, .n, .n, .n])] (st_0 P)) H locs := hW
  refine oz_putF S hW ty_PP to_PP nm_PP 0 (by decide) rfl 2 (by decide) rfl wu_PP (wa_in 247 (by decide +kernel) rfl) rfl rfl hnm rfl (ty := .object "PrimePolynomials$Parts") (by decide +kernel) (.r 62) rfl rfl (Nat.le_of_ble_eq_true rfl) dm_PP_init_50 (fun H locs hW => ?_)
  have hW : pw_H D cl_s A s.heap g6 117 (en_o k g6 P [(0, .o 6 [.r 1, .r 18, .r 62, .n, .n])] (st_0 P)) H locs := hW
  refine lv_aload_n hx hb dm_PP_init_53 rfl (lv_at hl 0 rfl) ?_
  refine oz_new S hW (by decide) (by decide +kernel) (st_0_4 P) [.n, .n, .n, .n, .n, .n, .n, .n, .n] ty_Field to_Field (ci := 0) rfl wu_Field (wa_in 206 (by decide +kernel) rfl) (wa_in 207 (by decide +kernel) rfl) (wa_in 8 (by decide +kernel) rfl) (fun j hj => ?_) rfl ⟨by decide, by decide⟩ dm_PP_init_54 (fun g7 H hg7 hW => ?_)
  · match j, hj with
    | 0, _ => rfl
    | 1, _ => rfl
    | 2, _ => rfl
    | 3, _ => rfl
    | 4, _ => rfl
    | 5, _ => rfl
    | 6, _ => rfl
    | 7, _ => rfl
    | 8, _ => rfl
    | j + 9, hj => exact absurd hj (by omega)
  have hl : lv_has ls 3 [(0, .ref (g7 0)), (1, .int (L))] := by
    rw [hg7 0 (by omega)]
    exact hl
  rw [← hg7 0 (by omega)]
  have hW : pw_H D cl_s A s.heap g7 118 (en_o k g7 P [(117, .o 0 [.n, .n, .n, .n, .n, .n, .n, .n, .n]), (0, .o 6 [.r 1, .r 18, .r 62, .n, .n])] (st_0 P)) H _ := hW
  refine lv_dup hx hb dm_PP_init_57 rfl ?_
  refine lv_aload_n hx hb dm_PP_init_58 rfl (lv_at hl 0 rfl) ?_
  refine oz_getR S hW 0 (by omega) rfl 0 (by decide) rfl wu_PP (wa_in 245 (by decide +kernel) rfl) rfl 1 rfl dm_PP_init_59 ?_
  refine lv_aload_n hx hb dm_PP_init_62 rfl (lv_at hl 0 rfl) ?_
  refine oz_getR S hW 0 (by omega) rfl 1 (by decide) rfl wu_PP (wa_in 246 (by decide +kernel) rfl) rfl 18 rfl dm_PP_init_63 ?_
  refine pw_callC (rest := [.ref (g7 117), .ref (g7 0)]) (As := [.ref (g7 1), .ref (g7 18)]) S nw_zs hZ hW (mn_Field_init l D k g7 P) ⟨callB_of 2 S.1.2.2.2.2 (wa_C ci_Field_init) rfl rfl rfl (S.1.2.2.2.2 _ (wa_in 8 (by decide +kernel) rfl)) (S.1.2.2.2.2 _ (wa_in 208 (by decide +kernel) rfl)) (by decide +kernel) ⟨by decide, by decide⟩, rfl, S.1.2.2.2.2 _ (wa_in 209 (by decide +kernel) rfl)⟩ rfl hl.1 rfl (lv_room (Nat.le_of_ble_eq_true rfl)) ⟨by decide, by decide⟩ dm_PP_init_66 (fun g8 N8 E8 H locs hp hW => ?_)
  obtain ⟨hN8, hq8, hE8⟩ := hp
  have hN8 : N8 = 132 := hN8
  have hE8 : E8 = en_o k g8 P [(0, .o 6 [.r 1, .r 18, .r 62, .n, .n])] (st_0 P) := hE8
  have hg8 : ∀ j, j < 118 → g8 j = g7 j := hq8
  rw [hN8, hE8] at hW
  clear hN8 hE8 hq8
  have hl : lv_has ls 3 [(0, .ref (g8 0)), (1, .int (L))] := by
    rw [hg8 0 (by omega)]
    exact hl
  rw [← hg8 117 (by omega)]
  rw [← hg8 0 (by omega)]
  have hW : pw_H D cl_s A s.heap g8 132 (en_o k g8 P [(0, .o 6 [.r 1, .r 18, .r 62, .n, .n])] (st_0 P)) H locs := hW
  refine oz_putF S hW ty_PP to_PP nm_PP 0 (by decide) rfl 3 (by decide) rfl wu_PP (wa_in 248 (by decide +kernel) rfl) rfl rfl hnm rfl (ty := .object "PrimePolynomials$Field") (by decide +kernel) (.r 117) rfl rfl (Nat.le_of_ble_eq_true rfl) dm_PP_init_69 (fun H locs hW => ?_)
  have hW : pw_H D cl_s A s.heap g8 132 (en_o k g8 P [(0, .o 6 [.r 1, .r 18, .r 62, .r 117, .n])] (st_0 P)) H locs := hW
  refine lv_aload_n hx hb dm_PP_init_72 rfl (lv_at hl 0 rfl) ?_
  refine lv_bipush (v := nI 8) hx hb dm_PP_init_73 (by decide) ?_
  refine oz_newr S hW (by decide) (by decide +kernel) (st_0_4 P) 1 false rfl (n0 := 8) (by decide) (wa_in 243 (by decide +kernel) rfl) (hz_AOp hZ) ⟨by decide, by decide⟩ dm_PP_init_75 (fun g9 H hg9 hW => ?_)
  have hl : lv_has ls 3 [(0, .ref (g9 0)), (1, .int (L))] := by
    rw [hg9 0 (by omega)]
    exact hl
  rw [← hg9 0 (by omega)]
  have hW : pw_H D cl_s A s.heap g9 133 (en_o k g9 P [(132, .a false 8 []), (0, .o 6 [.r 1, .r 18, .r 62, .r 117, .n])] (st_0 P)) H _ := hW
  refine oz_putF S hW ty_PP to_PP nm_PP 0 (by decide) rfl 4 (by decide) rfl wu_PP (wa_in 249 (by decide +kernel) rfl) rfl rfl hnm rfl (ty := .array (.object "PrimePolynomials$Polynomial")) (by decide +kernel) (.r 132) rfl rfl (Nat.le_of_ble_eq_true rfl) dm_PP_init_78 (fun H locs hW => ?_)
  have hW : pw_H D cl_s A s.heap g9 133 (en_o k g9 P [(132, .a false 8 []), (0, .o 6 [.r 1, .r 18, .r 62, .r 117, .r 132])] (st_0 P)) H locs := hW
  refine lv_iconst (v := nI 0) hx hb dm_PP_init_81 (by decide) ?_
  refine lv_istore_n hx hb dm_PP_init_82 rfl hl (by decide) rfl (fun ls hl => ?_)
  have hl : lv_has ls 3 [(2, .int (nI 0)), (0, .ref (g9 0)), (1, .int (L))] := hl
  have hl : lv_has ls 3 [(2, .int (nI 0)), (0, .ref (g9 0)), (1, .int (L))] := hl
  have loop : ∀ d t, t + d = 8 → ∀ (gt : Nat → Nat) (ls : Array Slot) (H : Heap) (locs : List Loc), (∀ j, j < 1 → gt j = g j) → lv_has ls 3 [(2, .int (nI t)), (0, .ref (gt 0)), (1, .int (L))] → pw_H D cl_s A s.heap gt (133 + 2 * t) (en_o k gt P [(132, .a false 8 ((List.range t).map (fun i => 133 + 2 * i))), (0, .o 6 [.r 1, .r 18, .r 62, .r 117, .r 132])] (st_0 P)) H locs → W p l e rn_PP s m args below meth c H locs (132 + 2 * t) (1933 + 33 * t) Q (F0 m 83 ls []) := by
    intro d
    induction d with
    | zero =>
      intro t ht gt ls H locs hgt hl hW
      refine lv_iload_n hx hb dm_PP_init_83 rfl (lv_at hl 0 rfl) ?_
      refine lv_bipush (v := nI 8) hx hb dm_PP_init_84 (by decide) ?_
      refine wi_icmp_ge (tgt := 108) S (nn_T (by omega)) (nn_T (by omega)) dm_PP_init_86 (by decide) (fun hc => ?_) (fun hc => ?_)
      · have ht : t = 8 := by omega
        subst ht
        have hW := oz_close hW 132 rfl (fun H h => by
          rw [en_registers]
          exact va_arr (fun t ht => by rw [List.getElem?_map, List.getElem?_range ht]; rfl) h)
        have hW := oz_close hW 0 rfl (fun H h => by
          rw [en_PP]
          exact h)
        exact hret _ _ _ _ gt 149 _ dm_PP_init_108 ⟨P, hpn, hP31, rfl, hgt, rfl⟩ hW
      · exfalso
        omega
    | succ d ih =>
      intro t ht gt ls H locs hgt hl hW
      refine lv_iload_n hx hb dm_PP_init_83 rfl (lv_at hl 0 rfl) ?_
      refine lv_bipush (v := nI 8) hx hb dm_PP_init_84 (by decide) ?_
      refine wi_icmp_ge (tgt := 108) S (nn_T (by omega)) (nn_T (by omega)) dm_PP_init_86 (by decide) (fun hc => ?_) (fun hc => ?_)
      · exfalso
        omega
      · have ht : t < 8 := by omega
        refine lv_aload_n hx hb dm_PP_init_89 rfl (lv_at hl 1 rfl) ?_
        refine oz_getR S hW 0 (by omega) rfl 4 (by decide) rfl wu_PP (wa_in 249 (by decide +kernel) rfl) rfl 132 rfl dm_PP_init_90 ?_
        refine lv_iload_n hx hb dm_PP_init_93 rfl (lv_at hl 0 rfl) ?_
        have hO1 : od_l [(132, .a false 8 ((List.range t).map (fun i => 133 + 2 * i))), (0, .o 6 [.r 1, .r 18, .r 62, .r 117, .r 132])] (133 + 2 * t) = none := by
          rw [od_l_ne (by omega), od_l_ne (by omega)]
          rfl
        have hO2 : od_l [(132, .a false 8 ((List.range t).map (fun i => 133 + 2 * i))), (0, .o 6 [.r 1, .r 18, .r 62, .r 117, .r 132])] (133 + 2 * t + 1) = none := by
          rw [od_l_ne (by omega), od_l_ne (by omega)]
          rfl
        refine mk_poly S hZ hW (kd_rg ht) ((by decide +kernel : ∀ t, t < 8 → oc_b [(132, .a false 8 ((List.range t).map (fun i => 133 + 2 * i))), (0, .o 6 [.r 1, .r 18, .r 62, .r 117, .r 132])] (133 + 2 * t) = true) t ht) hO1 hO2 (st_0_4 P) (st_0_row (by omega) (by omega) (by omega) (by omega)) (st_0_sz (by omega)) (wa_in 243 (by decide +kernel) rfl) (hz_PP_53 hZ) ⟨by decide, by decide⟩ ⟨by show 132 + 2 * t + 2 ≤ 148; omega, by show 1933 + 33 * t + 33 ≤ 2197; omega⟩ hl.1 (Nat.le_of_ble_eq_true rfl) dm_PP_init_94 dm_PP_init_97 dm_PP_init_98 (fun g51 H locs hg51 hW => ?_)
        have hl : lv_has ls 3 [(2, .int (nI t)), (0, .ref (g51 0)), (1, .int (L))] := by
          rw [hg51 0 (by omega)]
          exact hl
        rw [← hg51 132 (by omega)]
        refine oz_ast S hW 1 (cb := false) (r := (rc_Poly, tc_Poly, 2)) rfl 132 (by omega) rfl (133 + 2 * t) (by omega) (by rw [en_o_n hO1]; exact en_k0 (kd_rg ht)) rfl (by rw [List.length_map, List.length_range]) ht (by decide) dm_PP_init_101 (fun H locs hW => ?_)
        have hW : pw_H D cl_s A s.heap g51 (133 + 2 * (t + 1)) (en_o k g51 P [(132, .a false 8 ((List.range (t + 1)).map (fun i => 133 + 2 * i))), (0, .o 6 [.r 1, .r 18, .r 62, .r 117, .r 132])] (st_0 P)) H locs := by
          rw [List.range_succ, List.map_append]
          exact hW
        refine lv_iinc (k := 0) (v := nI (t + 1)) hx hb dm_PP_init_102 hl rfl (by rw [show Int32.ofInt 1 = nI 1 from rfl, nI_add]) (by decide) rfl (fun ls hl => ?_)
        refine lv_goto (tgt := 83) hx hb dm_PP_init_105 (by decide) ?_
        rw [show 132 + 2 * t + 2 = 132 + 2 * (t + 1) by omega, show 1933 + 33 * t + 33 = 1933 + 33 * (t + 1) by omega]
        exact ih (t + 1) (by omega) g51 ls H locs (fun j hj => (hg51 j (by omega)).trans (hgt j hj)) hl hW
  exact loop 8 0 (by omega) g9 ls _ _ (fun j hj => (hg9 j (by omega)).trans ((hg8 j (by omega)).trans ((hg7 j (by omega)).trans ((hg6 j (by omega)).trans ((hg5 j (by omega)).trans ((hg4 j (by omega)).trans ((hg3 j (by omega)).trans ((hg2 j (by omega)).trans ((hg1 j (by omega))))))))))) hl hW
/-- the state when all is made -/
def st_1 (P : Nat) : st_T := st_up (st_0 P) 205 0 P
theorem st_1_row {P a : Nat} (h : a ≠ 205) : st_1 P a = st_0 P a := st_up_row h
theorem en_1 {k : ClassId × ClassId × ClassId} {g : Nat → Nat} {P i : Nat} (hi : i < 153) (h : i ≠ 149) : en_s k g (st_0 P) i = en_s k g (st_1 P) i := by
  have e : ∀ a, a ≠ 205 → st_0 P a = st_1 P a := fun a ha => (st_1_row ha).symm
  refine en_cg hi (fun _ => by rw [e 200 (by decide)]) (fun hk => by have := (kd_ar hk).2.1; rw [e (i - 1) (by omega)]) (fun _ => ⟨by rw [e 201 (by decide)], by rw [e 202 (by decide)]⟩) (fun _ => by rw [e 203 (by decide)]) (fun _ => ⟨by rw [e 203 (by decide)], by rw [e 203 (by decide)]⟩) (fun _ => by rw [e 204 (by decide)]) (fun hk => ?_) (fun _ a ha => e a (by omega)) (fun _ => e 206 (by decide)) (fun _ => e 207 (by decide))
  exact absurd ((by decide +kernel : ∀ i, i < 153 → kd_k i = 11 → i = 149) i hi hk) h
theorem st_0_arr {P n : Nat} {f : Nat → Nat × Nat} (h : ∀ t, (f t).1 ≠ 203 ∧ (f t).1 ≠ 204 ∧ (f t).1 ≠ 21 ∧ (f t).1 ≠ 200) : (fun t => nI (st_0 P (f t).1 (f t).2)) = fun _ => (0 : Int32) := funext (fun t => by
  have := h t
  rw [st_0_row this.1 this.2.1 this.2.2.1 this.2.2.2]
  rfl)
set_option maxHeartbeats 8000000 in
set_option maxRecDepth 100000 in
theorem mn_Model_init (l : Launch) (D : va_G) (k : ClassId × ClassId × ClassId) (g : Nat → Nat) (P : Nat) {L : Int32} (hpn : pn_is L.toInt.toNat P) (hP31 : P < 2147483648) : ct_N l ym_Model_init wm_Model_init rn_Model [.ref (g 149), .int L] D cl_s (ty_s k) nw_s g 150 (en_o k g P [(149, .o 7 [.i 0, .n, .i 0, .n, .n, .i 0, .i 0, .i 0])] (st_0 P)) 3 1088 (fun u => u.2.1 = 153 ∧ (∀ j, j < 150 → u.1 j = g j) ∧ u.2.2 = en_s k u.1 (st_1 P)) := by
  refine ct_N_in (cc := bm_Model_init) (maxL := 3) (by decide) rfl (Nat.le_of_ble_eq_true rfl) ?_
  intro p e s m args below meth c A ls Q S hZ hnm hl hW hret
  have S : pw_S p m c bm_Model_init 3 s args wa_g rc_Model D cl_s (ty_s k) := S
  have hx := S.1.1
  have hb := S.1.2.1
  have hl : lv_has ls 3 [(0, .ref (g 149)), (1, .int (L))] := hl
  refine lv_aload_n hx hb dm_Model_init_0 rfl (lv_at hl 0 rfl) ?_
  refine oz_obj S hl.1 (wa_in 557 (by decide +kernel) rfl) dm_Model_init_1 ⟨by decide, by decide⟩ (Nat.le_of_ble_eq_true rfl) ?_
  refine lv_aload_n hx hb dm_Model_init_4 rfl (lv_at hl 0 rfl) ?_
  refine lv_sipush (v := nI 1056) hx hb dm_Model_init_5 (by decide) ?_
  refine oz_newi S hW (by decide) (by decide +kernel) rfl (st_0_4 P) (n0 := 1056) (by decide) (fun g' => by
      rw [en_mc]
      exact congrArg (fun f => (.inl (k.1, 1056, .inl f) : va_E)) (st_0_arr (P := P) (n := 0) (f := fun t => (300 + t / 32, t % 32)) (fun t => ⟨by show 300 + t / 32 ≠ 203; omega, by show 300 + t / 32 ≠ 204; omega, by show 300 + t / 32 ≠ 21; omega, by show 300 + t / 32 ≠ 200; omega⟩))) (wa_in 58 (by decide +kernel) rfl) ⟨by decide, by decide⟩ dm_Model_init_8 (fun g1 H hg1 hW => ?_)
  have hl : lv_has ls 3 [(0, .ref (g1 149)), (1, .int (L))] := by
    rw [hg1 149 (by omega)]
    exact hl
  rw [← hg1 149 (by omega)]
  have hW : pw_H D cl_s A s.heap g1 151 (en_o k g1 P [(149, .o 7 [.i 0, .n, .i 0, .n, .n, .i 0, .i 0, .i 0])] (st_0 P)) H _ := hW
  refine oz_putF S hW ty_Model to_Model nm_Model 149 (by decide) rfl 1 (by decide) rfl wu_Model (wa_in 562 (by decide +kernel) rfl) rfl rfl hnm rfl (ty := .array .int) (by decide +kernel) (.r 150) rfl rfl (Nat.le_of_ble_eq_true rfl) dm_Model_init_10 (fun H locs hW => ?_)
  have hW : pw_H D cl_s A s.heap g1 151 (en_o k g1 P [(149, .o 7 [.i 0, .r 150, .i 0, .n, .n, .i 0, .i 0, .i 0])] (st_0 P)) H locs := hW
  refine lv_aload_n hx hb dm_Model_init_13 rfl (lv_at hl 0 rfl) ?_
  refine lv_bipush (v := nI 16) hx hb dm_Model_init_14 (by decide) ?_
  refine oz_newi S hW (by decide) (by decide +kernel) rfl (st_0_4 P) (n0 := 16) (by decide) (fun g' => by
      rw [en_moften]
      exact congrArg (fun f => (.inl (k.1, 16, .inl f) : va_E)) (st_0_arr (P := P) (n := 0) (f := fun t => (206, t)) (fun t => ⟨show 206 ≠ 203 by decide, show 206 ≠ 204 by decide, show 206 ≠ 21 by decide, show 206 ≠ 200 by decide⟩))) (wa_in 58 (by decide +kernel) rfl) ⟨by decide, by decide⟩ dm_Model_init_16 (fun g2 H hg2 hW => ?_)
  have hl : lv_has ls 3 [(0, .ref (g2 149)), (1, .int (L))] := by
    rw [hg2 149 (by omega)]
    exact hl
  rw [← hg2 149 (by omega)]
  have hW : pw_H D cl_s A s.heap g2 152 (en_o k g2 P [(149, .o 7 [.i 0, .r 150, .i 0, .n, .n, .i 0, .i 0, .i 0])] (st_0 P)) H _ := hW
  refine oz_putF S hW ty_Model to_Model nm_Model 149 (by decide) rfl 3 (by decide) rfl wu_Model (wa_in 564 (by decide +kernel) rfl) rfl rfl hnm rfl (ty := .array .int) (by decide +kernel) (.r 151) rfl rfl (Nat.le_of_ble_eq_true rfl) dm_Model_init_18 (fun H locs hW => ?_)
  have hW : pw_H D cl_s A s.heap g2 152 (en_o k g2 P [(149, .o 7 [.i 0, .r 150, .i 0, .r 151, .n, .i 0, .i 0, .i 0])] (st_0 P)) H locs := hW
  refine lv_aload_n hx hb dm_Model_init_21 rfl (lv_at hl 0 rfl) ?_
  refine lv_bipush (v := nI 16) hx hb dm_Model_init_22 (by decide) ?_
  refine oz_newi S hW (by decide) (by decide +kernel) rfl (st_0_4 P) (n0 := 16) (by decide) (fun g' => by
      rw [en_mdegrees]
      exact congrArg (fun f => (.inl (k.1, 16, .inl f) : va_E)) (st_0_arr (P := P) (n := 0) (f := fun t => (207, t)) (fun t => ⟨show 207 ≠ 203 by decide, show 207 ≠ 204 by decide, show 207 ≠ 21 by decide, show 207 ≠ 200 by decide⟩))) (wa_in 58 (by decide +kernel) rfl) ⟨by decide, by decide⟩ dm_Model_init_24 (fun g3 H hg3 hW => ?_)
  have hl : lv_has ls 3 [(0, .ref (g3 149)), (1, .int (L))] := by
    rw [hg3 149 (by omega)]
    exact hl
  rw [← hg3 149 (by omega)]
  have hW : pw_H D cl_s A s.heap g3 153 (en_o k g3 P [(149, .o 7 [.i 0, .r 150, .i 0, .r 151, .n, .i 0, .i 0, .i 0])] (st_0 P)) H _ := hW
  refine oz_putF S hW ty_Model to_Model nm_Model 149 (by decide) rfl 4 (by decide) rfl wu_Model (wa_in 565 (by decide +kernel) rfl) rfl rfl hnm rfl (ty := .array .int) (by decide +kernel) (.r 152) rfl rfl (Nat.le_of_ble_eq_true rfl) dm_Model_init_26 (fun H locs hW => ?_)
  have hW : pw_H D cl_s A s.heap g3 153 (en_o k g3 P [(149, .o 7 [.i 0, .r 150, .i 0, .r 151, .r 152, .i 0, .i 0, .i 0])] (st_0 P)) H locs := hW
  have loop : ∀ n, n < 2147483648 → 2 ≤ n → (∀ Q, pn_is n Q → pn_is L.toInt.toNat Q) → ∀ (ls : Array Slot) (H : Heap) (locs : List Loc), lv_has ls 3 [(2, .int (nI n)), (0, .ref (g3 149)), (1, .int L)] → pw_H D cl_s A s.heap g3 153 (en_o k g3 P [(149, .o 7 [.i 0, .r 150, .i 0, .r 151, .r 152, .i 0, .i 0, .i 0])] (st_0 P)) H locs → W p l e rn_Model s m args below meth c H locs 3 1088 Q (F0 m 40 ls []) := by
    intro n
    induction n with
    | zero =>
      intro _ h2
      omega
    | succ n ih =>
      intro hn h2 hq ls H locs hl hW
      refine lv_iload_n hx hb dm_Model_init_40 rfl (lv_at hl 0 rfl) ?_
      refine pw_callSI (en := fun (_ : Unit) => en_o k g3 P [(149, .o 7 [.i 0, .r 150, .i 0, .r 151, .r 152, .i 0, .i 0, .i 0])] (st_0 P)) (u := ()) (As := [.int (nI (n + 1))]) (rest := []) S hW (mm_Model_isPrimeNumber l D k g3 153 (en_o k g3 P [(149, .o 7 [.i 0, .r 150, .i 0, .r 151, .r 152, .i 0, .i 0, .i 0])] (st_0 P)) h2 hn) (cv_Model_19 S.1.2.2.2.2 ⟨by decide, by decide⟩) rfl hl.1 rfl (lv_room (Nat.le_of_ble_eq_true rfl)) ⟨by decide, by decide⟩ dm_Model_init_41 (fun r u H locs hp hW => ?_)
      have hW : pw_H D cl_s A s.heap g3 153 (en_o k g3 P [(149, .o 7 [.i 0, .r 150, .i 0, .r 151, .r 152, .i 0, .i 0, .i 0])] (st_0 P)) H locs := hW
      rcases hp with ⟨hp, hr⟩ | ⟨hp, hr⟩
      · rw [hr]
        have hPn : P = n + 1 := pn_uni hpn (hq _ (pn_hit hp))
        refine wi_if_ne (tgt := 53) S (nn_T (by decide)) dm_Model_init_44 (by decide) (fun hc => ?_) (fun hc => ?_)
        · refine lv_aload_n hx hb dm_Model_init_53 rfl (lv_at hl 1 rfl) ?_
          refine lv_iload_n hx hb dm_Model_init_54 rfl (lv_at hl 0 rfl) ?_
          rw [← hPn]
          refine oz_putF S hW ty_Model to_Model nm_Model 149 (by decide) rfl 0 (by decide) rfl wu_Model (wa_in 561 (by decide +kernel) rfl) rfl rfl hnm rfl (ty := .int) (by decide +kernel) (.p) rfl rfl (Nat.le_of_ble_eq_true rfl) dm_Model_init_55 (fun H locs hW => ?_)
          refine hret _ _ _ _ g3 153 (en_s k g3 (st_1 P)) dm_Model_init_58 ⟨rfl, (fun j hj => (hg3 j (by omega)).trans ((hg2 j (by omega)).trans ((hg1 j (by omega))))), rfl⟩ (pw_eq hW (fun i hi => ?_))
          by_cases h149 : i = 149
          · subst h149
            rw [en_Model, en_o_s (od_s_self _ rfl)]
            show _ = (.inr (7, [.int (nI (st_1 P 205 0)), .ref (g3 150), .int (nI (st_1 P 205 1)), .ref (g3 151), .ref (g3 152), .int (nI (st_1 P 205 2)), .int (nI (st_1 P 205 3)), .int (nI (st_1 P 205 4))]) : va_E)
            have e0 : st_1 P 205 = va_up (fun _ => 0) 0 P := by
              unfold st_1
              rw [st_up_at, st_0_row (by decide) (by decide) (by decide) (by decide)]
            rw [e0, va_up_self, va_up_ne _ _ (by decide), va_up_ne _ _ (by decide), va_up_ne _ _ (by decide), va_up_ne _ _ (by decide)]
            rfl
          · rw [en_o_n (by rw [od_s_ne h149]; exact od_l_ne h149)]
            exact en_1 hi h149
        · exact absurd hc (by decide)
      · rw [hr]
        refine wi_if_ne (tgt := 53) S (nn_T (by decide)) dm_Model_init_44 (by decide) (fun hc => ?_) (fun hc => ?_)
        · exact absurd rfl hc
        · have hn2 : n + 1 ≠ 2 := fun h => hp (by rw [h]; exact pn_2)
          refine lv_iinc (k := 0) (v := nI n) hx hb dm_Model_init_47 hl rfl (nI_m1 n) (by decide) rfl (fun ls hl => ?_)
          have hl : lv_has ls 3 [(2, .int (nI n)), (0, .ref (g3 149)), (1, .int L)] := hl
          refine lv_goto (tgt := 40) hx hb dm_Model_init_50 (by decide) ?_
          exact ih (by omega) (by omega) (fun Q hQ => hq Q (pn_step hp hQ)) ls H locs hl hW
  have hT : L.toInt < 2147483648 := Int32.toInt_lt L
  refine lv_iload_n hx hb dm_Model_init_29 rfl (lv_at hl 1 rfl) ?_
  refine lv_iconst (v := nI (2)) hx hb dm_Model_init_30 (by decide) ?_
  refine wi_icmp_ge (tgt := 38) S rfl (nn_T (by decide)) dm_Model_init_31 (by decide) (fun hc => ?_) (fun hc => ?_)
  · have hLn : L = nI L.toInt.toNat := Int32.toInt_inj.mp (by rw [nI_toInt (by omega)]; omega)
    refine lv_iload_n hx hb dm_Model_init_38 rfl (lv_at hl 1 rfl) ?_
    refine lv_istore_n hx hb dm_Model_init_39 rfl hl (by decide) rfl (fun ls hl => ?_)
    have hl : lv_has ls 3 [(2, .int L), (0, .ref (g3 149)), (1, .int L)] := hl
    exact loop L.toInt.toNat (by omega) (by omega) (fun Q hQ => hQ) ls _ _ (by rw [← hLn]; exact hl) hW
  · refine lv_iconst (v := nI (2)) hx hb dm_Model_init_34 (by decide) ?_
    refine lv_goto (tgt := 39) hx hb dm_Model_init_35 (by decide) ?_
    refine lv_istore_n hx hb dm_Model_init_39 rfl hl (by decide) rfl (fun ls hl => ?_)
    have hl : lv_has ls 3 [(2, .int (nI 2)), (0, .ref (g3 149)), (1, .int L)] := hl
    refine loop 2 (by decide) (by decide) (fun Q hQ => ?_) ls _ _ hl hW
    have e : Q = 2 := pn_uni hQ (pn_low (by decide))
    rw [e]
    exact pn_low (by omega)
