/-! The constructors of Ring, Frobenius, Part, Parts, Field (printed by gen/ctor2.py) -/
set_option maxHeartbeats 8000000 in
set_option maxRecDepth 100000 in
theorem mn_Ring_init (l : Launch) (D : va_G) (k : ClassId × ClassId × ClassId) (g : Nat → Nat) (P : Nat) : ct_N l ym_Ring_init wm_Ring_init rn_Ring [.ref (g 1), .int (nI P)] D cl_s (ty_s k) nw_s g 2 (en_o k g P [(1, .o 5 [.i 0, .n, .n, .n, .n, .n, .n, .n, .n]), (0, .o 6 [.n, .n, .n, .n, .n])] (st_z P)) 16 264 (fun u => u.2.1 = 18 ∧ (∀ j, j < 2 → u.1 j = g j) ∧ u.2.2 = en_o k u.1 P [(0, .o 6 [.n, .n, .n, .n, .n])] (st_z P)) := by
  refine ct_N_in (cc := bm_Ring_init) (maxL := 2) (by decide) rfl (Nat.le_of_ble_eq_true rfl) ?_
  intro p e s m args below meth c A ls Q S hZ hnm hl hW hret
  have S : pw_S p m c bm_Ring_init 2 s args wa_g rc_Ring D cl_s (ty_s k) := S
  have hx := S.1.1
  have hb := S.1.2.1
  have hl : lv_has ls 2 [(0, .ref (g 1)), (1, .int (nI P))] := hl
  refine lv_aload_n hx hb dm_Ring_init_0 rfl (lv_at hl 0 rfl) ?_
  refine oz_obj S hl.1 (wa_in 33 (by decide +kernel) rfl) dm_Ring_init_1 ⟨by decide, by decide⟩ (Nat.le_of_ble_eq_true rfl) ?_
  refine lv_aload_n hx hb dm_Ring_init_4 rfl (lv_at hl 0 rfl) ?_
  refine mk_poly S hZ hW rfl (by decide +kernel) rfl rfl (st_z_4 P) (st_z_row (by decide) (by decide)) (by rw [st_z_row (by decide) (by decide)]) (wa_in 34 (by decide +kernel) rfl) (hz_Ring_11 hZ) ⟨by decide, by decide⟩ ⟨by decide, by decide⟩ hl.1 (Nat.le_of_ble_eq_true rfl) dm_Ring_init_5 dm_Ring_init_8 dm_Ring_init_9 (fun g1 H locs hg1 hW => ?_)
  have hl : lv_has ls 2 [(0, .ref (g1 1)), (1, .int (nI P))] := by
    rw [hg1 1 (by omega)]
    exact hl
  rw [← hg1 1 (by omega)]
  have hW : pw_H D cl_s A s.heap g1 4 (en_o k g1 P [(1, .o 5 [.i 0, .n, .n, .n, .n, .n, .n, .n, .n]), (0, .o 6 [.n, .n, .n, .n, .n])] (st_z P)) H locs := hW
  refine oz_putF S hW ty_Ring to_Ring nm_Ring 1 (by decide) rfl 1 (by decide) rfl wu_Ring (wa_in 64 (by decide +kernel) rfl) rfl rfl hnm rfl (ty := .object "PrimePolynomials$Polynomial") (by decide +kernel) (.r 2) rfl rfl (Nat.le_of_ble_eq_true rfl) dm_Ring_init_12 (fun H locs hW => ?_)
  have hW : pw_H D cl_s A s.heap g1 4 (en_o k g1 P [(1, .o 5 [.i 0, .r 2, .n, .n, .n, .n, .n, .n, .n]), (0, .o 6 [.n, .n, .n, .n, .n])] (st_z P)) H locs := hW
  refine lv_aload_n hx hb dm_Ring_init_15 rfl (lv_at hl 0 rfl) ?_
  refine mk_poly S hZ hW rfl (by decide +kernel) rfl rfl (st_z_4 P) (st_z_row (by decide) (by decide)) (by rw [st_z_row (by decide) (by decide)]) (wa_in 34 (by decide +kernel) rfl) (hz_Ring_11 hZ) ⟨by decide, by decide⟩ ⟨by decide, by decide⟩ hl.1 (Nat.le_of_ble_eq_true rfl) dm_Ring_init_16 dm_Ring_init_19 dm_Ring_init_20 (fun g2 H locs hg2 hW => ?_)
  have hl : lv_has ls 2 [(0, .ref (g2 1)), (1, .int (nI P))] := by
    rw [hg2 1 (by omega)]
    exact hl
  rw [← hg2 1 (by omega)]
  have hW : pw_H D cl_s A s.heap g2 6 (en_o k g2 P [(1, .o 5 [.i 0, .r 2, .n, .n, .n, .n, .n, .n, .n]), (0, .o 6 [.n, .n, .n, .n, .n])] (st_z P)) H locs := hW
  refine oz_putF S hW ty_Ring to_Ring nm_Ring 1 (by decide) rfl 2 (by decide) rfl wu_Ring (wa_in 65 (by decide +kernel) rfl) rfl rfl hnm rfl (ty := .object "PrimePolynomials$Polynomial") (by decide +kernel) (.r 4) rfl rfl (Nat.le_of_ble_eq_true rfl) dm_Ring_init_23 (fun H locs hW => ?_)
  have hW : pw_H D cl_s A s.heap g2 6 (en_o k g2 P [(1, .o 5 [.i 0, .r 2, .r 4, .n, .n, .n, .n, .n, .n]), (0, .o 6 [.n, .n, .n, .n, .n])] (st_z P)) H locs := hW
  refine lv_aload_n hx hb dm_Ring_init_26 rfl (lv_at hl 0 rfl) ?_
  refine mk_poly S hZ hW rfl (by decide +kernel) rfl rfl (st_z_4 P) (st_z_row (by decide) (by decide)) (by rw [st_z_row (by decide) (by decide)]) (wa_in 34 (by decide +kernel) rfl) (hz_Ring_11 hZ) ⟨by decide, by decide⟩ ⟨by decide, by decide⟩ hl.1 (Nat.le_of_ble_eq_true rfl) dm_Ring_init_27 dm_Ring_init_30 dm_Ring_init_31 (fun g3 H locs hg3 hW => ?_)
  have hl : lv_has ls 2 [(0, .ref (g3 1)), (1, .int (nI P))] := by
    rw [hg3 1 (by omega)]
    exact hl
  rw [← hg3 1 (by omega)]
  have hW : pw_H D cl_s A s.heap g3 8 (en_o k g3 P [(1, .o 5 [.i 0, .r 2, .r 4, .n, .n, .n, .n, .n, .n]), (0, .o 6 [.n, .n, .n, .n, .n])] (st_z P)) H locs := hW
  refine oz_putF S hW ty_Ring to_Ring nm_Ring 1 (by decide) rfl 3 (by decide) rfl wu_Ring (wa_in 66 (by decide +kernel) rfl) rfl rfl hnm rfl (ty := .object "PrimePolynomials$Polynomial") (by decide +kernel) (.r 6) rfl rfl (Nat.le_of_ble_eq_true rfl) dm_Ring_init_34 (fun H locs hW => ?_)
  have hW : pw_H D cl_s A s.heap g3 8 (en_o k g3 P [(1, .o 5 [.i 0, .r 2, .r 4, .r 6, .n, .n, .n, .n, .n]), (0, .o 6 [.n, .n, .n, .n, .n])] (st_z P)) H locs := hW
  refine lv_aload_n hx hb dm_Ring_init_37 rfl (lv_at hl 0 rfl) ?_
  refine mk_poly S hZ hW rfl (by decide +kernel) rfl rfl (st_z_4 P) (st_z_row (by decide) (by decide)) (by rw [st_z_row (by decide) (by decide)]) (wa_in 34 (by decide +kernel) rfl) (hz_Ring_11 hZ) ⟨by decide, by decide⟩ ⟨by decide, by decide⟩ hl.1 (Nat.le_of_ble_eq_true rfl) dm_Ring_init_38 dm_Ring_init_41 dm_Ring_init_42 (fun g4 H locs hg4 hW => ?_)
  have hl : lv_has ls 2 [(0, .ref (g4 1)), (1, .int (nI P))] := by
    rw [hg4 1 (by omega)]
    exact hl
  rw [← hg4 1 (by omega)]
  have hW : pw_H D cl_s A s.heap g4 10 (en_o k g4 P [(1, .o 5 [.i 0, .r 2, .r 4, .r 6, .n, .n, .n, .n, .n]), (0, .o 6 [.n, .n, .n, .n, .n])] (st_z P)) H locs := hW
  refine oz_putF S hW ty_Ring to_Ring nm_Ring 1 (by decide) rfl 4 (by decide) rfl wu_Ring (wa_in 67 (by decide +kernel) rfl) rfl rfl hnm rfl (ty := .object "PrimePolynomials$Polynomial") (by decide +kernel) (.r 8) rfl rfl (Nat.le_of_ble_eq_true rfl) dm_Ring_init_45 (fun H locs hW => ?_)
  have hW : pw_H D cl_s A s.heap g4 10 (en_o k g4 P [(1, .o 5 [.i 0, .r 2, .r 4, .r 6, .r 8, .n, .n, .n, .n]), (0, .o 6 [.n, .n, .n, .n, .n])] (st_z P)) H locs := hW
  refine lv_aload_n hx hb dm_Ring_init_48 rfl (lv_at hl 0 rfl) ?_
  refine mk_poly S hZ hW rfl (by decide +kernel) rfl rfl (st_z_4 P) (st_z_row (by decide) (by decide)) (by rw [st_z_row (by decide) (by decide)]) (wa_in 34 (by decide +kernel) rfl) (hz_Ring_11 hZ) ⟨by decide, by decide⟩ ⟨by decide, by decide⟩ hl.1 (Nat.le_of_ble_eq_true rfl) dm_Ring_init_49 dm_Ring_init_52 dm_Ring_init_53 (fun g5 H locs hg5 hW => ?_)
  have hl : lv_has ls 2 [(0, .ref (g5 1)), (1, .int (nI P))] := by
    rw [hg5 1 (by omega)]
    exact hl
  rw [← hg5 1 (by omega)]
  have hW : pw_H D cl_s A s.heap g5 12 (en_o k g5 P [(1, .o 5 [.i 0, .r 2, .r 4, .r 6, .r 8, .n, .n, .n, .n]), (0, .o 6 [.n, .n, .n, .n, .n])] (st_z P)) H locs := hW
  refine oz_putF S hW ty_Ring to_Ring nm_Ring 1 (by decide) rfl 5 (by decide) rfl wu_Ring (wa_in 68 (by decide +kernel) rfl) rfl rfl hnm rfl (ty := .object "PrimePolynomials$Polynomial") (by decide +kernel) (.r 10) rfl rfl (Nat.le_of_ble_eq_true rfl) dm_Ring_init_56 (fun H locs hW => ?_)
  have hW : pw_H D cl_s A s.heap g5 12 (en_o k g5 P [(1, .o 5 [.i 0, .r 2, .r 4, .r 6, .r 8, .r 10, .n, .n, .n]), (0, .o 6 [.n, .n, .n, .n, .n])] (st_z P)) H locs := hW
  refine lv_aload_n hx hb dm_Ring_init_59 rfl (lv_at hl 0 rfl) ?_
  refine mk_poly S hZ hW rfl (by decide +kernel) rfl rfl (st_z_4 P) (st_z_row (by decide) (by decide)) (by rw [st_z_row (by decide) (by decide)]) (wa_in 34 (by decide +kernel) rfl) (hz_Ring_11 hZ) ⟨by decide, by decide⟩ ⟨by decide, by decide⟩ hl.1 (Nat.le_of_ble_eq_true rfl) dm_Ring_init_60 dm_Ring_init_63 dm_Ring_init_64 (fun g6 H locs hg6 hW => ?_)
  have hl : lv_has ls 2 [(0, .ref (g6 1)), (1, .int (nI P))] := by
    rw [hg6 1 (by omega)]
    exact hl
  rw [← hg6 1 (by omega)]
  have hW : pw_H D cl_s A s.heap g6 14 (en_o k g6 P [(1, .o 5 [.i 0, .r 2, .r 4, .r 6, .r 8, .r 10, .n, .n, .n]), (0, .o 6 [.n, .n, .n, .n, .n])] (st_z P)) H locs := hW
  refine oz_putF S hW ty_Ring to_Ring nm_Ring 1 (by decide) rfl 6 (by decide) rfl wu_Ring (wa_in 69 (by decide +kernel) rfl) rfl rfl hnm rfl (ty := .object "PrimePolynomials$Polynomial") (by decide +kernel) (.r 12) rfl rfl (Nat.le_of_ble_eq_true rfl) dm_Ring_init_67 (fun H locs hW => ?_)
  have hW : pw_H D cl_s A s.heap g6 14 (en_o k g6 P [(1, .o 5 [.i 0, .r 2, .r 4, .r 6, .r 8, .r 10, .r 12, .n, .n]), (0, .o 6 [.n, .n, .n, .n, .n])] (st_z P)) H locs := hW
  refine lv_aload_n hx hb dm_Ring_init_70 rfl (lv_at hl 0 rfl) ?_
  refine mk_poly S hZ hW rfl (by decide +kernel) rfl rfl (st_z_4 P) (st_z_row (by decide) (by decide)) (by rw [st_z_row (by decide) (by decide)]) (wa_in 34 (by decide +kernel) rfl) (hz_Ring_11 hZ) ⟨by decide, by decide⟩ ⟨by decide, by decide⟩ hl.1 (Nat.le_of_ble_eq_true rfl) dm_Ring_init_71 dm_Ring_init_74 dm_Ring_init_75 (fun g7 H locs hg7 hW => ?_)
  have hl : lv_has ls 2 [(0, .ref (g7 1)), (1, .int (nI P))] := by
    rw [hg7 1 (by omega)]
    exact hl
  rw [← hg7 1 (by omega)]
  have hW : pw_H D cl_s A s.heap g7 16 (en_o k g7 P [(1, .o 5 [.i 0, .r 2, .r 4, .r 6, .r 8, .r 10, .r 12, .n, .n]), (0, .o 6 [.n, .n, .n, .n, .n])] (st_z P)) H locs := hW
  refine oz_putF S hW ty_Ring to_Ring nm_Ring 1 (by decide) rfl 7 (by decide) rfl wu_Ring (wa_in 70 (by decide +kernel) rfl) rfl rfl hnm rfl (ty := .object "PrimePolynomials$Polynomial") (by decide +kernel) (.r 14) rfl rfl (Nat.le_of_ble_eq_true rfl) dm_Ring_init_78 (fun H locs hW => ?_)
  have hW : pw_H D cl_s A s.heap g7 16 (en_o k g7 P [(1, .o 5 [.i 0, .r 2, .r 4, .r 6, .r 8, .r 10, .r 12, .r 14, .n]), (0, .o 6 [.n, .n, .n, .n, .n])] (st_z P)) H locs := hW
  refine lv_aload_n hx hb dm_Ring_init_81 rfl (lv_at hl 0 rfl) ?_
  refine mk_poly S hZ hW rfl (by decide +kernel) rfl rfl (st_z_4 P) (st_z_row (by decide) (by decide)) (by rw [st_z_row (by decide) (by decide)]) (wa_in 34 (by decide +kernel) rfl) (hz_Ring_11 hZ) ⟨by decide, by decide⟩ ⟨by decide, by decide⟩ hl.1 (Nat.le_of_ble_eq_true rfl) dm_Ring_init_82 dm_Ring_init_85 dm_Ring_init_86 (fun g8 H locs hg8 hW => ?_)
  have hl : lv_has ls 2 [(0, .ref (g8 1)), (1, .int (nI P))] := by
    rw [hg8 1 (by omega)]
    exact hl
  rw [← hg8 1 (by omega)]
  have hW : pw_H D cl_s A s.heap g8 18 (en_o k g8 P [(1, .o 5 [.i 0, .r 2, .r 4, .r 6, .r 8, .r 10, .r 12, .r 14, .n]), (0, .o 6 [.n, .n, .n, .n, .n])] (st_z P)) H locs := hW
  refine oz_putF S hW ty_Ring to_Ring nm_Ring 1 (by decide) rfl 8 (by decide) rfl wu_Ring (wa_in 71 (by decide +kernel) rfl) rfl rfl hnm rfl (ty := .object "PrimePolynomials$Polynomial") (by decide +kernel) (.r 16) rfl rfl (Nat.le_of_ble_eq_true rfl) dm_Ring_init_89 (fun H locs hW => ?_)
  have hW : pw_H D cl_s A s.heap g8 18 (en_o k g8 P [(1, .o 5 [.i 0, .r 2, .r 4, .r 6, .r 8, .r 10, .r 12, .r 14, .r 16]), (0, .o 6 [.n, .n, .n, .n, .n])] (st_z P)) H locs := hW
  refine lv_aload_n hx hb dm_Ring_init_92 rfl (lv_at hl 0 rfl) ?_
  refine lv_iload_n hx hb dm_Ring_init_93 rfl (lv_at hl 1 rfl) ?_
  refine oz_putF S hW ty_Ring to_Ring nm_Ring 1 (by decide) rfl 0 (by decide) rfl wu_Ring (wa_in 59 (by decide +kernel) rfl) rfl rfl hnm rfl (ty := .int) (by decide +kernel) (.p) rfl rfl (Nat.le_of_ble_eq_true rfl) dm_Ring_init_94 (fun H locs hW => ?_)
  have hW : pw_H D cl_s A s.heap g8 18 (en_o k g8 P [(1, .o 5 [.p, .r 2, .r 4, .r 6, .r 8, .r 10, .r 12, .r 14, .r 16]), (0, .o 6 [.n, .n, .n, .n, .n])] (st_z P)) H locs := hW
  have hW := oz_close hW 1 rfl (fun H h => by
    rw [en_Ring]
    exact h)
  exact hret _ _ _ _ g8 18 _ dm_Ring_init_97 ⟨rfl, (fun j hj => (hg8 j (by omega)).trans ((hg7 j (by omega)).trans ((hg6 j (by omega)).trans ((hg5 j (by omega)).trans ((hg4 j (by omega)).trans ((hg3 j (by omega)).trans ((hg2 j (by omega)).trans ((hg1 j (by omega)))))))))), rfl⟩ hW
set_option maxHeartbeats 8000000 in
set_option maxRecDepth 100000 in
theorem mn_Field_init (l : Launch) (D : va_G) (k : ClassId × ClassId × ClassId) (g : Nat → Nat) (P : Nat) : ct_N l ym_Field_init wm_Field_init rn_Field [.ref (g 117), .ref (g 1), .ref (g 18)] D cl_s (ty_s k) nw_s g 118 (en_o k g P [(117, .o 0 [.n, .n, .n, .n, .n, .n, .n, .n, .n]), (0, .o 6 [.r 1, .r 18, .r 62, .n, .n])] (st_0 P)) 14 231 (fun u => u.2.1 = 132 ∧ (∀ j, j < 118 → u.1 j = g j) ∧ u.2.2 = en_o k u.1 P [(0, .o 6 [.r 1, .r 18, .r 62, .n, .n])] (st_0 P)) := by
  refine ct_N_in (cc := bm_Field_init) (maxL := 3) (by decide) rfl (Nat.le_of_ble_eq_true rfl) ?_
  intro p e s m args below meth c A ls Q S hZ hnm hl hW hret
  have S : pw_S p m c bm_Field_init 3 s args wa_g rc_Field D cl_s (ty_s k) := S
  have hx := S.1.1
  have hb := S.1.2.1
  have hl : lv_has ls 3 [(0, .ref (g 117)), (1, .ref (g 1)), (2, .ref (g 18))] := hl
  refine lv_aload_n hx hb dm_Field_init_0 rfl (lv_at hl 0 rfl) ?_
  refine oz_obj S hl.1 (wa_in 211 (by decide +kernel) rfl) dm_Field_init_1 ⟨by decide, by decide⟩ (Nat.le_of_ble_eq_true rfl) ?_
  refine lv_aload_n hx hb dm_Field_init_4 rfl (lv_at hl 0 rfl) ?_
  refine mk_poly S hZ hW rfl (by decide +kernel) rfl rfl (st_0_4 P) (st_0_row (by decide) (by decide) (by decide) (by decide)) (st_0_sz (by decide)) (wa_in 212 (by decide +kernel) rfl) (hz_Field_11 hZ) ⟨by decide, by decide⟩ ⟨by decide, by decide⟩ hl.1 (Nat.le_of_ble_eq_true rfl) dm_Field_init_5 dm_Field_init_8 dm_Field_init_9 (fun g1 H locs hg1 hW => ?_)
  have hl : lv_has ls 3 [(0, .ref (g1 117)), (1, .ref (g1 1)), (2, .ref (g1 18))] := by
    rw [hg1 117 (by omega), hg1 1 (by omega), hg1 18 (by omega)]
    exact hl
  rw [← hg1 117 (by omega)]
  have hW : pw_H D cl_s A s.heap g1 120 (en_o k g1 P [(117, .o 0 [.n, .n, .n, .n, .n, .n, .n, .n, .n]), (0, .o 6 [.r 1, .r 18, .r 62, .n, .n])] (st_0 P)) H locs := hW
  refine oz_putF S hW ty_Field to_Field nm_Field 117 (by decide) rfl 2 (by decide) rfl wu_Field (wa_in 216 (by decide +kernel) rfl) rfl rfl hnm rfl (ty := .object "PrimePolynomials$Polynomial") (by decide +kernel) (.r 118) rfl rfl (Nat.le_of_ble_eq_true rfl) dm_Field_init_12 (fun H locs hW => ?_)
  have hW : pw_H D cl_s A s.heap g1 120 (en_o k g1 P [(117, .o 0 [.n, .n, .r 118, .n, .n, .n, .n, .n, .n]), (0, .o 6 [.r 1, .r 18, .r 62, .n, .n])] (st_0 P)) H locs := hW
  refine lv_aload_n hx hb dm_Field_init_15 rfl (lv_at hl 0 rfl) ?_
  refine mk_poly S hZ hW rfl (by decide +kernel) rfl rfl (st_0_4 P) (st_0_row (by decide) (by decide) (by decide) (by decide)) (st_0_sz (by decide)) (wa_in 212 (by decide +kernel) rfl) (hz_Field_11 hZ) ⟨by decide, by decide⟩ ⟨by decide, by decide⟩ hl.1 (Nat.le_of_ble_eq_true rfl) dm_Field_init_16 dm_Field_init_19 dm_Field_init_20 (fun g2 H locs hg2 hW => ?_)
  have hl : lv_has ls 3 [(0, .ref (g2 117)), (1, .ref (g2 1)), (2, .ref (g2 18))] := by
    rw [hg2 117 (by omega), hg2 1 (by omega), hg2 18 (by omega)]
    exact hl
  rw [← hg2 117 (by omega)]
  have hW : pw_H D cl_s A s.heap g2 122 (en_o k g2 P [(117, .o 0 [.n, .n, .r 118, .n, .n, .n, .n, .n, .n]), (0, .o 6 [.r 1, .r 18, .r 62, .n, .n])] (st_0 P)) H locs := hW
  refine oz_putF S hW ty_Field to_Field nm_Field 117 (by decide) rfl 3 (by decide) rfl wu_Field (wa_in 218 (by decide +kernel) rfl) rfl rfl hnm rfl (ty := .object "PrimePolynomials$Polynomial") (by decide +kernel) (.r 120) rfl rfl (Nat.le_of_ble_eq_true rfl) dm_Field_init_23 (fun H locs hW => ?_)
  have hW : pw_H D cl_s A s.heap g2 122 (en_o k g2 P [(117, .o 0 [.n, .n, .r 118, .r 120, .n, .n, .n, .n, .n]), (0, .o 6 [.r 1, .r 18, .r 62, .n, .n])] (st_0 P)) H locs := hW
  refine lv_aload_n hx hb dm_Field_init_26 rfl (lv_at hl 0 rfl) ?_
  refine mk_poly S hZ hW rfl (by decide +kernel) rfl rfl (st_0_4 P) (st_0_row (by decide) (by decide) (by decide) (by decide)) (st_0_sz (by decide)) (wa_in 212 (by decide +kernel) rfl) (hz_Field_11 hZ) ⟨by decide, by decide⟩ ⟨by decide, by decide⟩ hl.1 (Nat.le_of_ble_eq_true rfl) dm_Field_init_27 dm_Field_init_30 dm_Field_init_31 (fun g3 H locs hg3 hW => ?_)
  have hl : lv_has ls 3 [(0, .ref (g3 117)), (1, .ref (g3 1)), (2, .ref (g3 18))] := by
    rw [hg3 117 (by omega), hg3 1 (by omega), hg3 18 (by omega)]
    exact hl
  rw [← hg3 117 (by omega)]
  have hW : pw_H D cl_s A s.heap g3 124 (en_o k g3 P [(117, .o 0 [.n, .n, .r 118, .r 120, .n, .n, .n, .n, .n]), (0, .o 6 [.r 1, .r 18, .r 62, .n, .n])] (st_0 P)) H locs := hW
  refine oz_putF S hW ty_Field to_Field nm_Field 117 (by decide) rfl 4 (by decide) rfl wu_Field (wa_in 219 (by decide +kernel) rfl) rfl rfl hnm rfl (ty := .object "PrimePolynomials$Polynomial") (by decide +kernel) (.r 122) rfl rfl (Nat.le_of_ble_eq_true rfl) dm_Field_init_34 (fun H locs hW => ?_)
  have hW : pw_H D cl_s A s.heap g3 124 (en_o k g3 P [(117, .o 0 [.n, .n, .r 118, .r 120, .r 122, .n, .n, .n, .n]), (0, .o 6 [.r 1, .r 18, .r 62, .n, .n])] (st_0 P)) H locs := hW
  refine lv_aload_n hx hb dm_Field_init_37 rfl (lv_at hl 0 rfl) ?_
  refine mk_poly S hZ hW rfl (by decide +kernel) rfl rfl (st_0_4 P) (st_0_row (by decide) (by decide) (by decide) (by decide)) (st_0_sz (by decide)) (wa_in 212 (by decide +kernel) rfl) (hz_Field_11 hZ) ⟨by decide, by decide⟩ ⟨by decide, by decide⟩ hl.1 (Nat.le_of_ble_eq_true rfl) dm_Field_init_38 dm_Field_init_41 dm_Field_init_42 (fun g4 H locs hg4 hW => ?_)
  have hl : lv_has ls 3 [(0, .ref (g4 117)), (1, .ref (g4 1)), (2, .ref (g4 18))] := by
    rw [hg4 117 (by omega), hg4 1 (by omega), hg4 18 (by omega)]
    exact hl
  rw [← hg4 117 (by omega)]
  have hW : pw_H D cl_s A s.heap g4 126 (en_o k g4 P [(117, .o 0 [.n, .n, .r 118, .r 120, .r 122, .n, .n, .n, .n]), (0, .o 6 [.r 1, .r 18, .r 62, .n, .n])] (st_0 P)) H locs := hW
  refine oz_putF S hW ty_Field to_Field nm_Field 117 (by decide) rfl 5 (by decide) rfl wu_Field (wa_in 220 (by decide +kernel) rfl) rfl rfl hnm rfl (ty := .object "PrimePolynomials$Polynomial") (by decide +kernel) (.r 124) rfl rfl (Nat.le_of_ble_eq_true rfl) dm_Field_init_45 (fun H locs hW => ?_)
  have hW : pw_H D cl_s A s.heap g4 126 (en_o k g4 P [(117, .o 0 [.n, .n, .r 118, .r 120, .r 122, .r 124, .n, .n, .n]), (0, .o 6 [.r 1, .r 18, .r 62, .n, .n])] (st_0 P)) H locs := hW
  refine lv_aload_n hx hb dm_Field_init_48 rfl (lv_at hl 0 rfl) ?_
  refine mk_poly S hZ hW rfl (by decide +kernel) rfl rfl (st_0_4 P) (st_0_row (by decide) (by decide) (by decide) (by decide)) (st_0_sz (by decide)) (wa_in 212 (by decide +kernel) rfl) (hz_Field_11 hZ) ⟨by decide, by decide⟩ ⟨by decide, by decide⟩ hl.1 (Nat.le_of_ble_eq_true rfl) dm_Field_init_49 dm_Field_init_52 dm_Field_init_53 (fun g5 H locs hg5 hW => ?_)
  have hl : lv_has ls 3 [(0, .ref (g5 117)), (1, .ref (g5 1)), (2, .ref (g5 18))] := by
    rw [hg5 117 (by omega), hg5 1 (by omega), hg5 18 (by omega)]
    exact hl
  rw [← hg5 117 (by omega)]
  have hW : pw_H D cl_s A s.heap g5 128 (en_o k g5 P [(117, .o 0 [.n, .n, .r 118, .r 120, .r 122, .r 124, .n, .n, .n]), (0, .o 6 [.r 1, .r 18, .r 62, .n, .n])] (st_0 P)) H locs := hW
  refine oz_putF S hW ty_Field to_Field nm_Field 117 (by decide) rfl 6 (by decide) rfl wu_Field (wa_in 221 (by decide +kernel) rfl) rfl rfl hnm rfl (ty := .object "PrimePolynomials$Polynomial") (by decide +kernel) (.r 126) rfl rfl (Nat.le_of_ble_eq_true rfl) dm_Field_init_56 (fun H locs hW => ?_)
  have hW : pw_H D cl_s A s.heap g5 128 (en_o k g5 P [(117, .o 0 [.n, .n, .r 118, .r 120, .r 122, .r 124, .r 126, .n, .n]), (0, .o 6 [.r 1, .r 18, .r 62, .n, .n])] (st_0 P)) H locs := hW
  refine lv_aload_n hx hb dm_Field_init_59 rfl (lv_at hl 0 rfl) ?_
  refine mk_poly S hZ hW rfl (by decide +kernel) rfl rfl (st_0_4 P) (st_0_row (by decide) (by decide) (by decide) (by decide)) (st_0_sz (by decide)) (wa_in 212 (by decide +kernel) rfl) (hz_Field_11 hZ) ⟨by decide, by decide⟩ ⟨by decide, by decide⟩ hl.1 (Nat.le_of_ble_eq_true rfl) dm_Field_init_60 dm_Field_init_63 dm_Field_init_64 (fun g6 H locs hg6 hW => ?_)
  have hl : lv_has ls 3 [(0, .ref (g6 117)), (1, .ref (g6 1)), (2, .ref (g6 18))] := by
    rw [hg6 117 (by omega), hg6 1 (by omega), hg6 18 (by omega)]
    exact hl
  rw [← hg6 117 (by omega)]
  have hW : pw_H D cl_s A s.heap g6 130 (en_o k g6 P [(117, .o 0 [.n, .n, .r 118, .r 120, .r 122, .r 124, .r 126, .n, .n]), (0, .o 6 [.r 1, .r 18, .r 62, .n, .n])] (st_0 P)) H locs := hW
  refine oz_putF S hW ty_Field to_Field nm_Field 117 (by decide) rfl 7 (by decide) rfl wu_Field (wa_in 222 (by decide +kernel) rfl) rfl rfl hnm rfl (ty := .object "PrimePolynomials$Polynomial") (by decide +kernel) (.r 128) rfl rfl (Nat.le_of_ble_eq_true rfl) dm_Field_init_67 (fun H locs hW => ?_)
  have hW : pw_H D cl_s A s.heap g6 130 (en_o k g6 P [(117, .o 0 [.n, .n, .r 118, .r 120, .r 122, .r 124, .r 126, .r 128, .n]), (0, .o 6 [.r 1, .r 18, .r 62, .n, .n])] (st_0 P)) H locs := hW
  refine lv_aload_n hx hb dm_Field_init_70 rfl (lv_at hl 0 rfl) ?_
  refine mk_poly S hZ hW rfl (by decide +kernel) rfl rfl (st_0_4 P) (st_0_row (by decide) (by decide) (by decide) (by decide)) (st_0_sz (by decide)) (wa_in 212 (by decide +kernel) rfl) (hz_Field_11 hZ) ⟨by decide, by decide⟩ ⟨by decide, by decide⟩ hl.1 (Nat.le_of_ble_eq_true rfl) dm_Field_init_71 dm_Field_init_74 dm_Field_init_75 (fun g7 H locs hg7 hW => ?_)
  have hl : lv_has ls 3 [(0, .ref (g7 117)), (1, .ref (g7 1)), (2, .ref (g7 18))] := by
    rw [hg7 117 (by omega), hg7 1 (by omega), hg7 18 (by omega)]
    exact hl
  rw [← hg7 117 (by omega)]
  have hW : pw_H D cl_s A s.heap g7 132 (en_o k g7 P [(117, .o 0 [.n, .n, .r 118, .r 120, .r 122, .r 124, .r 126, .r 128, .n]), (0, .o 6 [.r 1, .r 18, .r 62, .n, .n])] (st_0 P)) H locs := hW
  refine oz_putF S hW ty_Field to_Field nm_Field 117 (by decide) rfl 8 (by decide) rfl wu_Field (wa_in 223 (by decide +kernel) rfl) rfl rfl hnm rfl (ty := .object "PrimePolynomials$Polynomial") (by decide +kernel) (.r 130) rfl rfl (Nat.le_of_ble_eq_true rfl) dm_Field_init_78 (fun H locs hW => ?_)
  have hW : pw_H D cl_s A s.heap g7 132 (en_o k g7 P [(117, .o 0 [.n, .n, .r 118, .r 120, .r 122, .r 124, .r 126, .r 128, .r 130]), (0, .o 6 [.r 1, .r 18, .r 62, .n, .n])] (st_0 P)) H locs := hW
  refine lv_aload_n hx hb dm_Field_init_81 rfl (lv_at hl 0 rfl) ?_
  refine lv_aload_n hx hb dm_Field_init_82 rfl (lv_at hl 1 rfl) ?_
  refine oz_putF S hW ty_Field to_Field nm_Field 117 (by decide) rfl 0 (by decide) rfl wu_Field (wa_in 214 (by decide +kernel) rfl) rfl rfl hnm rfl (ty := .object "PrimePolynomials$Ring") (by decide +kernel) (.r 1) rfl rfl (Nat.le_of_ble_eq_true rfl) dm_Field_init_83 (fun H locs hW => ?_)
  have hW : pw_H D cl_s A s.heap g7 132 (en_o k g7 P [(117, .o 0 [.r 1, .n, .r 118, .r 120, .r 122, .r 124, .r 126, .r 128, .r 130]), (0, .o 6 [.r 1, .r 18, .r 62, .n, .n])] (st_0 P)) H locs := hW
  refine lv_aload_n hx hb dm_Field_init_86 rfl (lv_at hl 0 rfl) ?_
  refine lv_aload_n hx hb dm_Field_init_87 rfl (lv_at hl 2 rfl) ?_
  refine oz_putF S hW ty_Field to_Field nm_Field 117 (by decide) rfl 1 (by decide) rfl wu_Field (wa_in 215 (by decide +kernel) rfl) rfl rfl hnm rfl (ty := .object "PrimePolynomials$Frobenius") (by decide +kernel) (.r 18) rfl rfl (Nat.le_of_ble_eq_true rfl) dm_Field_init_88 (fun H locs hW => ?_)
  have hW : pw_H D cl_s A s.heap g7 132 (en_o k g7 P [(117, .o 0 [.r 1, .r 18, .r 118, .r 120, .r 122, .r 124, .r 126, .r 128, .r 130]), (0, .o 6 [.r 1, .r 18, .r 62, .n, .n])] (st_0 P)) H locs := hW
  have hW := oz_close hW 117 rfl (fun H h => by
    rw [en_Field]
    exact h)
  exact hret _ _ _ _ g7 132 _ dm_Field_init_91 ⟨rfl, (fun j hj => (hg7 j (by omega)).trans ((hg6 j (by omega)).trans ((hg5 j (by omega)).trans ((hg4 j (by omega)).trans ((hg3 j (by omega)).trans ((hg2 j (by omega)).trans ((hg1 j (by omega))))))))), rfl⟩ hW
set_option maxHeartbeats 8000000 in
set_option maxRecDepth 100000 in
theorem mn_Part_init (l : Launch) (D : va_G) (k : ClassId × ClassId × ClassId) (g : Nat → Nat) (P : Nat) {t : Nat} (ht : t < 15) : ct_N l ym_Part_init wm_Part_init rn_Part [.ref (g (72 + 3 * t))] D cl_s (ty_s k) nw_s g (73 + 3 * t) (en_o k g P [(72 + 3 * t, .o 2 [.n, .i 0, .i 0]), (63, .a true 15 ((List.range t).map (fun i => 72 + 3 * i))), (62, .o 3 [.r 1, .r 18, .r 63, .i 0, .i 0, .r 64, .r 66, .r 68, .r 70]), (0, .o 6 [.r 1, .r 18, .n, .n, .n])] (st_0 P)) 2 33 (fun u => u.2.1 = 75 + 3 * t ∧ (∀ j, j < 73 + 3 * t → u.1 j = g j) ∧ u.2.2 = en_o k u.1 P [(63, .a true 15 ((List.range t).map (fun i => 72 + 3 * i))), (62, .o 3 [.r 1, .r 18, .r 63, .i 0, .i 0, .r 64, .r 66, .r 68, .r 70]), (0, .o 6 [.r 1, .r 18, .n, .n, .n])] (st_0 P)) := by
  refine ct_N_in (cc := bm_Part_init) (maxL := 1) (by decide) rfl (Nat.le_of_ble_eq_true rfl) ?_
  intro p e s m args below meth c A ls Q S hZ hnm hl hW hret
  have S : pw_S p m c bm_Part_init 1 s args wa_g rc_Part D cl_s (ty_s k) := S
  have hx := S.1.1
  have hb := S.1.2.1
  have hl : lv_has ls 1 [(0, .ref (g (72 + 3 * t)))] := hl
  refine lv_aload_n hx hb dm_Part_init_0 rfl (lv_at hl 0 rfl) ?_
  refine oz_obj S hl.1 (wa_in 158 (by decide +kernel) rfl) dm_Part_init_1 ⟨by decide, by decide⟩ (Nat.le_of_ble_eq_true rfl) ?_
  refine lv_aload_n hx hb dm_Part_init_4 rfl (lv_at hl 0 rfl) ?_
  have hO1 : od_l [(72 + 3 * t, .o 2 [.n, .i 0, .i 0]), (63, .a true 15 ((List.range t).map (fun i => 72 + 3 * i))), (62, .o 3 [.r 1, .r 18, .r 63, .i 0, .i 0, .r 64, .r 66, .r 68, .r 70]), (0, .o 6 [.r 1, .r 18, .n, .n, .n])] (73 + 3 * t) = none := by
    rw [od_l_ne (by omega), od_l_ne (by omega), od_l_ne (by omega), od_l_ne (by omega)]
    rfl
  have hO2 : od_l [(72 + 3 * t, .o 2 [.n, .i 0, .i 0]), (63, .a true 15 ((List.range t).map (fun i => 72 + 3 * i))), (62, .o 3 [.r 1, .r 18, .r 63, .i 0, .i 0, .r 64, .r 66, .r 68, .r 70]), (0, .o 6 [.r 1, .r 18, .n, .n, .n])] (73 + 3 * t + 1) = none := by
    rw [od_l_ne (by omega), od_l_ne (by omega), od_l_ne (by omega), od_l_ne (by omega)]
    rfl
  refine mk_poly S hZ hW ((by decide +kernel : ∀ t, t < 15 → kd_k (73 + 3 * t) = 0) t ht) ((by decide +kernel : ∀ t, t < 15 → oc_b [(72 + 3 * t, .o 2 [.n, .i 0, .i 0]), (63, .a true 15 ((List.range t).map (fun i => 72 + 3 * i))), (62, .o 3 [.r 1, .r 18, .r 63, .i 0, .i 0, .r 64, .r 66, .r 68, .r 70]), (0, .o 6 [.r 1, .r 18, .n, .n, .n])] (73 + 3 * t) = true) t ht) hO1 hO2 (st_0_4 P) (st_0_row (by omega) (by omega) (by omega) (by omega)) (st_0_sz (by omega)) (wa_in 159 (by decide +kernel) rfl) (hz_Part_9 hZ) ⟨by decide, by decide⟩ ⟨by decide, by decide⟩ hl.1 (Nat.le_of_ble_eq_true rfl) dm_Part_init_5 dm_Part_init_8 dm_Part_init_9 (fun g1 H locs hg1 hW => ?_)
  have hl : lv_has ls 1 [(0, .ref (g1 (72 + 3 * t)))] := by
    rw [hg1 (72 + 3 * t) (by omega)]
    exact hl
  rw [← hg1 (72 + 3 * t) (by omega)]
  have hW : pw_H D cl_s A s.heap g1 (73 + 3 * t + 2) (en_o k g1 P [(72 + 3 * t, .o 2 [.n, .i 0, .i 0]), (63, .a true 15 ((List.range t).map (fun i => 72 + 3 * i))), (62, .o 3 [.r 1, .r 18, .r 63, .i 0, .i 0, .r 64, .r 66, .r 68, .r 70]), (0, .o 6 [.r 1, .r 18, .n, .n, .n])] (st_0 P)) H locs := hW
  rw [show 73 + 3 * t + 2 = 75 + 3 * t by omega] at hW
  refine oz_putF S hW ty_Part to_Part nm_Part (72 + 3 * t) (by omega) od_l_self 0 (by decide) rfl wu_Part (wa_in 161 (by decide +kernel) rfl) rfl rfl hnm rfl (ty := .object "PrimePolynomials$Polynomial") (by decide +kernel) (.r (73 + 3 * t)) rfl rfl (Nat.le_of_ble_eq_true rfl) dm_Part_init_12 (fun H locs hW => ?_)
  have hkd : kd_k (72 + 3 * t) = 10 := (by decide +kernel : ∀ t, t < 15 → kd_k (72 + 3 * t) = 10) t ht
  have hW := oz_close hW (72 + 3 * t) (od_s_self _ od_l_self) (fun H h => by
    rw [en_k10 hkd, show st_0 P 201 = (fun _ => 0) from st_0_row (by decide) (by decide) (by decide) (by decide), show st_0 P 202 = (fun _ => 0) from st_0_row (by decide) (by decide) (by decide) (by decide), show 72 + 3 * t + 1 = 73 + 3 * t by omega]
    exact h)
  refine hret _ _ _ _ g1 (75 + 3 * t) (en_o k g1 P [(63, .a true 15 ((List.range t).map (fun i => 72 + 3 * i))), (62, .o 3 [.r 1, .r 18, .r 63, .i 0, .i 0, .r 64, .r 66, .r 68, .r 70]), (0, .o 6 [.r 1, .r 18, .n, .n, .n])] (st_0 P)) dm_Part_init_15 ⟨rfl, hg1, rfl⟩ (pw_eq hW (fun i hi => ?_))
  unfold en_o
  have e : od_l (od_d (72 + 3 * t) (od_s (72 + 3 * t) (.o 2 ([.n, .i 0, .i 0].set 0 (.r (73 + 3 * t)))) [(72 + 3 * t, .o 2 [.n, .i 0, .i 0]), (63, .a true 15 ((List.range t).map (fun i => 72 + 3 * i))), (62, .o 3 [.r 1, .r 18, .r 63, .i 0, .i 0, .r 64, .r 66, .r 68, .r 70]), (0, .o 6 [.r 1, .r 18, .n, .n, .n])])) i = od_l [(63, .a true 15 ((List.range t).map (fun i => 72 + 3 * i))), (62, .o 3 [.r 1, .r 18, .r 63, .i 0, .i 0, .r 64, .r 66, .r 68, .r 70]), (0, .o 6 [.r 1, .r 18, .n, .n, .n])] i := by
    by_cases hi2 : i = 72 + 3 * t
    · rw [hi2, od_d_self, od_l_ne (by omega), od_l_ne (by omega), od_l_ne (by omega)]
      rfl
    · rw [od_d_ne hi2, od_s_ne hi2, od_l_ne hi2]
  rw [e]
set_option maxHeartbeats 8000000 in
set_option maxRecDepth 100000 in
theorem mn_Frob_init (l : Launch) (D : va_G) (k : ClassId × ClassId × ClassId) (g : Nat → Nat) (P : Nat) (hP : 2 ≤ P) : ct_N l ym_Frob_init wm_Frob_init rn_Frob [.ref (g 18), .ref (g 1)] D cl_s (ty_s k) nw_s g 19 (en_o k g P [(18, .o 1 [.n, .n, .n, .n, .n, .n, .n, .n]), (0, .o 6 [.r 1, .n, .n, .n, .n])] (st_z P)) 43 708 (fun u => u.2.1 = 62 ∧ (∀ j, j < 19 → u.1 j = g j) ∧ u.2.2 = en_o k u.1 P [(0, .o 6 [.r 1, .n, .n, .n, .n])] (st_0 P)) := by
  refine ct_N_in (cc := bm_Frob_init) (maxL := 3) (by decide) rfl (Nat.le_of_ble_eq_true rfl) ?_
  intro p e s m args below meth c A ls Q S hZ hnm hl hW hret
  have S : pw_S p m c bm_Frob_init 3 s args wa_g rc_Frob D cl_s (ty_s k) := S
  have hx := S.1.1
  have hb := S.1.2.1
  have hl : lv_has ls 3 [(0, .ref (g 18)), (1, .ref (g 1))] := hl
  refine lv_aload_n hx hb dm_Frob_init_0 rfl (lv_at hl 0 rfl) ?_
  refine oz_obj S hl.1 (wa_in 96 (by decide +kernel) rfl) dm_Frob_init_1 ⟨by decide, by decide⟩ (Nat.le_of_ble_eq_true rfl) ?_
  refine lv_aload_n hx hb dm_Frob_init_4 rfl (lv_at hl 0 rfl) ?_
  refine mk_poly S hZ hW rfl (by decide +kernel) rfl rfl (st_z_4 P) (st_z_row (by decide) (by decide)) (by rw [st_z_row (by decide) (by decide)]) (wa_in 97 (by decide +kernel) rfl) (hz_Frob_11 hZ) ⟨by decide, by decide⟩ ⟨by decide, by decide⟩ hl.1 (Nat.le_of_ble_eq_true rfl) dm_Frob_init_5 dm_Frob_init_8 dm_Frob_init_9 (fun g1 H locs hg1 hW => ?_)
  have hl : lv_has ls 3 [(0, .ref (g1 18)), (1, .ref (g1 1))] := by
    rw [hg1 18 (by omega), hg1 1 (by omega)]
    exact hl
  rw [← hg1 18 (by omega)]
  have hW : pw_H D cl_s A s.heap g1 21 (en_o k g1 P [(18, .o 1 [.n, .n, .n, .n, .n, .n, .n, .n]), (0, .o 6 [.r 1, .n, .n, .n, .n])] (st_z P)) H locs := hW
  refine oz_putF S hW ty_Frob to_Frob nm_Frob 18 (by decide) rfl 1 (by decide) rfl wu_Frob (wa_in 120 (by decide +kernel) rfl) rfl rfl hnm rfl (ty := .object "PrimePolynomials$Polynomial") (by decide +kernel) (.r 19) rfl rfl (Nat.le_of_ble_eq_true rfl) dm_Frob_init_12 (fun H locs hW => ?_)
  have hW : pw_H D cl_s A s.heap g1 21 (en_o k g1 P [(18, .o 1 [.n, .r 19, .n, .n, .n, .n, .n, .n]), (0, .o 6 [.r 1, .n, .n, .n, .n])] (st_z P)) H locs := hW
  refine lv_aload_n hx hb dm_Frob_init_15 rfl (lv_at hl 0 rfl) ?_
  refine mk_poly S hZ hW rfl (by decide +kernel) rfl rfl (st_z_4 P) (st_z_row (by decide) (by decide)) (by rw [st_z_row (by decide) (by decide)]) (wa_in 97 (by decide +kernel) rfl) (hz_Frob_11 hZ) ⟨by decide, by decide⟩ ⟨by decide, by decide⟩ hl.1 (Nat.le_of_ble_eq_true rfl) dm_Frob_init_16 dm_Frob_init_19 dm_Frob_init_20 (fun g2 H locs hg2 hW => ?_)
  have hl : lv_has ls 3 [(0, .ref (g2 18)), (1, .ref (g2 1))] := by
    rw [hg2 18 (by omega), hg2 1 (by omega)]
    exact hl
  rw [← hg2 18 (by omega)]
  have hW : pw_H D cl_s A s.heap g2 23 (en_o k g2 P [(18, .o 1 [.n, .r 19, .n, .n, .n, .n, .n, .n]), (0, .o 6 [.r 1, .n, .n, .n, .n])] (st_z P)) H locs := hW
  refine oz_putF S hW ty_Frob to_Frob nm_Frob 18 (by decide) rfl 2 (by decide) rfl wu_Frob (wa_in 121 (by decide +kernel) rfl) rfl rfl hnm rfl (ty := .object "PrimePolynomials$Polynomial") (by decide +kernel) (.r 21) rfl rfl (Nat.le_of_ble_eq_true rfl) dm_Frob_init_23 (fun H locs hW => ?_)
  have hW : pw_H D cl_s A s.heap g2 23 (en_o k g2 P [(18, .o 1 [.n, .r 19, .r 21, .n, .n, .n, .n, .n]), (0, .o 6 [.r 1, .n, .n, .n, .n])] (st_z P)) H locs := hW
  refine lv_aload_n hx hb dm_Frob_init_26 rfl (lv_at hl 0 rfl) ?_
  refine lv_bipush (v := nI 15) hx hb dm_Frob_init_27 (by decide) ?_
  refine oz_newr S hW (by decide) (by decide +kernel) (st_z_4 P) 1 false rfl (n0 := 15) (by decide) (wa_in 97 (by decide +kernel) rfl) (hz_AOp hZ) ⟨by decide, by decide⟩ dm_Frob_init_29 (fun g3 H hg3 hW => ?_)
  have hl : lv_has ls 3 [(0, .ref (g3 18)), (1, .ref (g3 1))] := by
    rw [hg3 18 (by omega), hg3 1 (by omega)]
    exact hl
  rw [← hg3 18 (by omega)]
  have hW : pw_H D cl_s A s.heap g3 24 (en_o k g3 P [(23, .a false 15 []), (18, .o 1 [.n, .r 19, .r 21, .n, .n, .n, .n, .n]), (0, .o 6 [.r 1, .n, .n, .n, .n])] (st_z P)) H _ := hW
  refine oz_putF S hW ty_Frob to_Frob nm_Frob 18 (by decide) rfl 3 (by decide) rfl wu_Frob (wa_in 122 (by decide +kernel) rfl) rfl rfl hnm rfl (ty := .array (.object "PrimePolynomials$Polynomial")) (by decide +kernel) (.r 23) rfl rfl (Nat.le_of_ble_eq_true rfl) dm_Frob_init_32 (fun H locs hW => ?_)
  have hW : pw_H D cl_s A s.heap g3 24 (en_o k g3 P [(23, .a false 15 []), (18, .o 1 [.n, .r 19, .r 21, .r 23, .n, .n, .n, .n]), (0, .o 6 [.r 1, .n, .n, .n, .n])] (st_z P)) H locs := hW
  refine lv_aload_n hx hb dm_Frob_init_35 rfl (lv_at hl 0 rfl) ?_
  refine mk_poly S hZ hW rfl (by decide +kernel) rfl rfl (st_z_4 P) (st_z_row (by decide) (by decide)) (by rw [st_z_row (by decide) (by decide)]) (wa_in 97 (by decide +kernel) rfl) (hz_Frob_11 hZ) ⟨by decide, by decide⟩ ⟨by decide, by decide⟩ hl.1 (Nat.le_of_ble_eq_true rfl) dm_Frob_init_36 dm_Frob_init_39 dm_Frob_init_40 (fun g4 H locs hg4 hW => ?_)
  have hl : lv_has ls 3 [(0, .ref (g4 18)), (1, .ref (g4 1))] := by
    rw [hg4 18 (by omega), hg4 1 (by omega)]
    exact hl
  rw [← hg4 18 (by omega)]
  have hW : pw_H D cl_s A s.heap g4 26 (en_o k g4 P [(23, .a false 15 []), (18, .o 1 [.n, .r 19, .r 21, .r 23, .n, .n, .n, .n]), (0, .o 6 [.r 1, .n, .n, .n, .n])] (st_z P)) H locs := hW
  refine oz_putF S hW ty_Frob to_Frob nm_Frob 18 (by decide) rfl 4 (by decide) rfl wu_Frob (wa_in 123 (by decide +kernel) rfl) rfl rfl hnm rfl (ty := .object "PrimePolynomials$Polynomial") (by decide +kernel) (.r 24) rfl rfl (Nat.le_of_ble_eq_true rfl) dm_Frob_init_43 (fun H locs hW => ?_)
  have hW : pw_H D cl_s A s.heap g4 26 (en_o k g4 P [(23, .a false 15 []), (18, .o 1 [.n, .r 19, .r 21, .r 23, .r 24, .n, .n, .n]), (0, .o 6 [.r 1, .n, .n, .n, .n])] (st_z P)) H locs := hW
  refine lv_aload_n hx hb dm_Frob_init_46 rfl (lv_at hl 0 rfl) ?_
  refine mk_poly S hZ hW rfl (by decide +kernel) rfl rfl (st_z_4 P) (st_z_row (by decide) (by decide)) (by rw [st_z_row (by decide) (by decide)]) (wa_in 97 (by decide +kernel) rfl) (hz_Frob_11 hZ) ⟨by decide, by decide⟩ ⟨by decide, by decide⟩ hl.1 (Nat.le_of_ble_eq_true rfl) dm_Frob_init_47 dm_Frob_init_50 dm_Frob_init_51 (fun g5 H locs hg5 hW => ?_)
  have hl : lv_has ls 3 [(0, .ref (g5 18)), (1, .ref (g5 1))] := by
    rw [hg5 18 (by omega), hg5 1 (by omega)]
    exact hl
  rw [← hg5 18 (by omega)]
  have hW : pw_H D cl_s A s.heap g5 28 (en_o k g5 P [(23, .a false 15 []), (18, .o 1 [.n, .r 19, .r 21, .r 23, .r 24, .n, .n, .n]), (0, .o 6 [.r 1, .n, .n, .n, .n])] (st_z P)) H locs := hW
  refine oz_putF S hW ty_Frob to_Frob nm_Frob 18 (by decide) rfl 5 (by decide) rfl wu_Frob (wa_in 124 (by decide +kernel) rfl) rfl rfl hnm rfl (ty := .object "PrimePolynomials$Polynomial") (by decide +kernel) (.r 26) rfl rfl (Nat.le_of_ble_eq_true rfl) dm_Frob_init_54 (fun H locs hW => ?_)
  have hW : pw_H D cl_s A s.heap g5 28 (en_o k g5 P [(23, .a false 15 []), (18, .o 1 [.n, .r 19, .r 21, .r 23, .r 24, .r 26, .n, .n]), (0, .o 6 [.r 1, .n, .n, .n, .n])] (st_z P)) H locs := hW
  refine lv_aload_n hx hb dm_Frob_init_57 rfl (lv_at hl 0 rfl) ?_
  refine mk_poly S hZ hW rfl (by decide +kernel) rfl rfl (st_z_4 P) (st_z_row (by decide) (by decide)) (by rw [st_z_row (by decide) (by decide)]) (wa_in 97 (by decide +kernel) rfl) (hz_Frob_11 hZ) ⟨by decide, by decide⟩ ⟨by decide, by decide⟩ hl.1 (Nat.le_of_ble_eq_true rfl) dm_Frob_init_58 dm_Frob_init_61 dm_Frob_init_62 (fun g6 H locs hg6 hW => ?_)
  have hl : lv_has ls 3 [(0, .ref (g6 18)), (1, .ref (g6 1))] := by
    rw [hg6 18 (by omega), hg6 1 (by omega)]
    exact hl
  rw [← hg6 18 (by omega)]
  have hW : pw_H D cl_s A s.heap g6 30 (en_o k g6 P [(23, .a false 15 []), (18, .o 1 [.n, .r 19, .r 21, .r 23, .r 24, .r 26, .n, .n]), (0, .o 6 [.r 1, .n, .n, .n, .n])] (st_z P)) H locs := hW
  refine oz_putF S hW ty_Frob to_Frob nm_Frob 18 (by decide) rfl 6 (by decide) rfl wu_Frob (wa_in 125 (by decide +kernel) rfl) rfl rfl hnm rfl (ty := .object "PrimePolynomials$Polynomial") (by decide +kernel) (.r 28) rfl rfl (Nat.le_of_ble_eq_true rfl) dm_Frob_init_65 (fun H locs hW => ?_)
  have hW : pw_H D cl_s A s.heap g6 30 (en_o k g6 P [(23, .a false 15 []), (18, .o 1 [.n, .r 19, .r 21, .r 23, .r 24, .r 26, .r 28, .n]), (0, .o 6 [.r 1, .n, .n, .n, .n])] (st_z P)) H locs := hW
  refine lv_aload_n hx hb dm_Frob_init_68 rfl (lv_at hl 0 rfl) ?_
  refine mk_poly S hZ hW rfl (by decide +kernel) rfl rfl (st_z_4 P) (st_z_row (by decide) (by decide)) (by rw [st_z_row (by decide) (by decide)]) (wa_in 97 (by decide +kernel) rfl) (hz_Frob_11 hZ) ⟨by decide, by decide⟩ ⟨by decide, by decide⟩ hl.1 (Nat.le_of_ble_eq_true rfl) dm_Frob_init_69 dm_Frob_init_72 dm_Frob_init_73 (fun g7 H locs hg7 hW => ?_)
  have hl : lv_has ls 3 [(0, .ref (g7 18)), (1, .ref (g7 1))] := by
    rw [hg7 18 (by omega), hg7 1 (by omega)]
    exact hl
  rw [← hg7 18 (by omega)]
  have hW : pw_H D cl_s A s.heap g7 32 (en_o k g7 P [(23, .a false 15 []), (18, .o 1 [.n, .r 19, .r 21, .r 23, .r 24, .r 26, .r 28, .n]), (0, .o 6 [.r 1, .n, .n, .n, .n])] (st_z P)) H locs := hW
  refine oz_putF S hW ty_Frob to_Frob nm_Frob 18 (by decide) rfl 7 (by decide) rfl wu_Frob (wa_in 126 (by decide +kernel) rfl) rfl rfl hnm rfl (ty := .object "PrimePolynomials$Polynomial") (by decide +kernel) (.r 30) rfl rfl (Nat.le_of_ble_eq_true rfl) dm_Frob_init_76 (fun H locs hW => ?_)
  have hW : pw_H D cl_s A s.heap g7 32 (en_o k g7 P [(23, .a false 15 []), (18, .o 1 [.n, .r 19, .r 21, .r 23, .r 24, .r 26, .r 28, .r 30]), (0, .o 6 [.r 1, .n, .n, .n, .n])] (st_z P)) H locs := hW
  refine lv_aload_n hx hb dm_Frob_init_79 rfl (lv_at hl 0 rfl) ?_
  refine lv_aload_n hx hb dm_Frob_init_80 rfl (lv_at hl 1 rfl) ?_
  refine oz_putF S hW ty_Frob to_Frob nm_Frob 18 (by decide) rfl 0 (by decide) rfl wu_Frob (wa_in 119 (by decide +kernel) rfl) rfl rfl hnm rfl (ty := .object "PrimePolynomials$Ring") (by decide +kernel) (.r 1) rfl rfl (Nat.le_of_ble_eq_true rfl) dm_Frob_init_81 (fun H locs hW => ?_)
  have hW : pw_H D cl_s A s.heap g7 32 (en_o k g7 P [(23, .a false 15 []), (18, .o 1 [.r 1, .r 19, .r 21, .r 23, .r 24, .r 26, .r 28, .r 30]), (0, .o 6 [.r 1, .n, .n, .n, .n])] (st_z P)) H locs := hW
  refine lv_aload_n hx hb dm_Frob_init_84 rfl (lv_at hl 0 rfl) ?_
  refine oz_getR S hW 18 (by omega) rfl 2 (by decide) rfl wu_Frob (wa_in 121 (by decide +kernel) rfl) rfl 21 rfl dm_Frob_init_85 ?_
  refine lv_iconst (v := nI 1) hx hb dm_Frob_init_88 (by decide) ?_
  refine lv_iconst (v := nI 1) hx hb dm_Frob_init_89 (by decide) ?_
  have hwz : st_wf P (st_z P) := ⟨rfl, fun j hj => by
    have := (kd_po hj).2
    rw [st_z_row (by omega) (by omega), st_z_row (by decide) (by decide)]
    exact ⟨fun _ => ⟨show 0 < P by omega, fun _ => rfl⟩, (by decide +kernel : (0 : Nat) = sp_sz (fun _ => 0) 31)⟩⟩
  have hq : qo_in [(23, .a false 15 []), (18, .o 1 [.r 1, .r 19, .r 21, .r 23, .r 24, .r 26, .r 28, .r 30]), (0, .o 6 [.r 1, .n, .n, .n, .n])] 32 21 := ⟨rfl, by decide, by decide, rfl, rfl⟩
  refine pw_callV (rest := []) S hW (mo_Poly_becomeTerm l D k g7 32 P [(23, .a false 15 []), (18, .o 1 [.r 1, .r 19, .r 21, .r 23, .r 24, .r 26, .r 28, .r 30]), (0, .o 6 [.r 1, .n, .n, .n, .n])] (st_z P) (v := 1) (n := 1) hwz hq (by decide) (by decide)) (cv_Frob_41 S.1.2.2.2.2 ⟨by decide, by decide⟩) (by decide) (by rw [en_o_n rfl]; exact en_k0 rfl) rfl rfl hl.1 rfl (lv_room (Nat.le_of_ble_eq_true rfl)) ⟨by decide, by decide⟩ dm_Frob_init_90 (fun σ1 H locs hp hW => ?_)
  have hp : σ1 = st_0 P := hp
  subst hp
  refine lv_iconst (v := nI 0) hx hb dm_Frob_init_93 (by decide) ?_
  refine lv_istore_n hx hb dm_Frob_init_94 rfl hl (by decide) rfl (fun ls hl => ?_)
  have hl : lv_has ls 3 [(2, .int (nI 0)), (0, .ref (g7 18)), (1, .ref (g7 1))] := hl
  have hl : lv_has ls 3 [(2, .int (nI 0)), (0, .ref (g7 18)), (1, .ref (g7 1))] := hl
  have loop : ∀ d t, t + d = 15 → ∀ (gt : Nat → Nat) (ls : Array Slot) (H : Heap) (locs : List Loc), (∀ j, j < 19 → gt j = g j) → lv_has ls 3 [(2, .int (nI t)), (0, .ref (gt 18)), (1, .ref (gt 1))] → pw_H D cl_s A s.heap gt (32 + 2 * t) (en_o k gt P [(23, .a false 15 ((List.range t).map (fun i => 32 + 2 * i))), (18, .o 1 [.r 1, .r 19, .r 21, .r 23, .r 24, .r 26, .r 28, .r 30]), (0, .o 6 [.r 1, .n, .n, .n, .n])] (st_0 P)) H locs → W p l e rn_Frob s m args below meth c H locs (13 + 2 * t) (213 + 33 * t) Q (F0 m 95 ls []) := by
    intro d
    induction d with
    | zero =>
      intro t ht gt ls H locs hgt hl hW
      refine lv_iload_n hx hb dm_Frob_init_95 rfl (lv_at hl 0 rfl) ?_
      refine lv_bipush (v := nI 15) hx hb dm_Frob_init_96 (by decide) ?_
      refine wi_icmp_ge (tgt := 120) S (nn_T (by omega)) (nn_T (by omega)) dm_Frob_init_98 (by decide) (fun hc => ?_) (fun hc => ?_)
      · have ht : t = 15 := by omega
        subst ht
        have hW := oz_close hW 23 rfl (fun H h => by
          rw [en_images]
          exact va_arr (fun t ht => by rw [List.getElem?_map, List.getElem?_range ht]; rfl) h)
        have hW := oz_close hW 18 rfl (fun H h => by
          rw [en_Frob]
          exact h)
        exact hret _ _ _ _ gt 62 _ dm_Frob_init_120 ⟨rfl, hgt, rfl⟩ hW
      · exfalso
        omega
    | succ d ih =>
      intro t ht gt ls H locs hgt hl hW
      refine lv_iload_n hx hb dm_Frob_init_95 rfl (lv_at hl 0 rfl) ?_
      refine lv_bipush (v := nI 15) hx hb dm_Frob_init_96 (by decide) ?_
      refine wi_icmp_ge (tgt := 120) S (nn_T (by omega)) (nn_T (by omega)) dm_Frob_init_98 (by decide) (fun hc => ?_) (fun hc => ?_)
      · exfalso
        omega
      · have ht : t < 15 := by omega
        refine lv_aload_n hx hb dm_Frob_init_101 rfl (lv_at hl 1 rfl) ?_
        refine oz_getR S hW 18 (by omega) rfl 3 (by decide) rfl wu_Frob (wa_in 122 (by decide +kernel) rfl) rfl 23 rfl dm_Frob_init_102 ?_
        refine lv_iload_n hx hb dm_Frob_init_105 rfl (lv_at hl 0 rfl) ?_
        have hO1 : od_l [(23, .a false 15 ((List.range t).map (fun i => 32 + 2 * i))), (18, .o 1 [.r 1, .r 19, .r 21, .r 23, .r 24, .r 26, .r 28, .r 30]), (0, .o 6 [.r 1, .n, .n, .n, .n])] (32 + 2 * t) = none := by
          rw [od_l_ne (by omega), od_l_ne (by omega), od_l_ne (by omega)]
          rfl
        have hO2 : od_l [(23, .a false 15 ((List.range t).map (fun i => 32 + 2 * i))), (18, .o 1 [.r 1, .r 19, .r 21, .r 23, .r 24, .r 26, .r 28, .r 30]), (0, .o 6 [.r 1, .n, .n, .n, .n])] (32 + 2 * t + 1) = none := by
          rw [od_l_ne (by omega), od_l_ne (by omega), od_l_ne (by omega)]
          rfl
        refine mk_poly S hZ hW (kd_im ht) ((by decide +kernel : ∀ t, t < 15 → oc_b [(23, .a false 15 ((List.range t).map (fun i => 32 + 2 * i))), (18, .o 1 [.r 1, .r 19, .r 21, .r 23, .r 24, .r 26, .r 28, .r 30]), (0, .o 6 [.r 1, .n, .n, .n, .n])] (32 + 2 * t) = true) t ht) hO1 hO2 (st_0_4 P) (st_0_row (by omega) (by omega) (by omega) (by omega)) (st_0_sz (by omega)) (wa_in 97 (by decide +kernel) rfl) (hz_Frob_11 hZ) ⟨by decide, by decide⟩ ⟨by show 13 + 2 * t + 2 ≤ 43; omega, by show 213 + 33 * t + 33 ≤ 708; omega⟩ hl.1 (Nat.le_of_ble_eq_true rfl) dm_Frob_init_106 dm_Frob_init_109 dm_Frob_init_110 (fun g51 H locs hg51 hW => ?_)
        have hl : lv_has ls 3 [(2, .int (nI t)), (0, .ref (g51 18)), (1, .ref (g51 1))] := by
          rw [hg51 18 (by omega), hg51 1 (by omega)]
          exact hl
        rw [← hg51 23 (by omega)]
        refine oz_ast S hW 1 (cb := false) (r := (rc_Poly, tc_Poly, 2)) rfl 23 (by omega) rfl (32 + 2 * t) (by omega) (by rw [en_o_n hO1]; exact en_k0 (kd_im ht)) rfl (by rw [List.length_map, List.length_range]) ht (by decide) dm_Frob_init_113 (fun H locs hW => ?_)
        have hW : pw_H D cl_s A s.heap g51 (32 + 2 * (t + 1)) (en_o k g51 P [(23, .a false 15 ((List.range (t + 1)).map (fun i => 32 + 2 * i))), (18, .o 1 [.r 1, .r 19, .r 21, .r 23, .r 24, .r 26, .r 28, .r 30]), (0, .o 6 [.r 1, .n, .n, .n, .n])] (st_0 P)) H locs := by
          rw [List.range_succ, List.map_append]
          exact hW
        refine lv_iinc (k := 0) (v := nI (t + 1)) hx hb dm_Frob_init_114 hl rfl (by rw [show Int32.ofInt 1 = nI 1 from rfl, nI_add]) (by decide) rfl (fun ls hl => ?_)
        refine lv_goto (tgt := 95) hx hb dm_Frob_init_117 (by decide) ?_
        rw [show 13 + 2 * t + 2 = 13 + 2 * (t + 1) by omega, show 213 + 33 * t + 33 = 213 + 33 * (t + 1) by omega]
        exact ih (t + 1) (by omega) g51 ls H locs (fun j hj => (hg51 j (by omega)).trans (hgt j hj)) hl hW
  exact loop 15 0 (by omega) g7 ls _ _ (fun j hj => (hg7 j (by omega)).trans ((hg6 j (by omega)).trans ((hg5 j (by omega)).trans ((hg4 j (by omega)).trans ((hg3 j (by omega)).trans ((hg2 j (by omega)).trans ((hg1 j (by omega))))))))) hl hW
set_option maxHeartbeats 8000000 in
set_option maxRecDepth 100000 in
theorem mn_Parts_init (l : Launch) (D : va_G) (k : ClassId × ClassId × ClassId) (g : Nat → Nat) (P : Nat) : ct_N l ym_Parts_init wm_Parts_init rn_Parts [.ref (g 62), .ref (g 1), .ref (g 18)] D cl_s (ty_s k) nw_s g 63 (en_o k g P [(62, .o 3 [.n, .n, .n, .i 0, .i 0, .n, .n, .n, .n]), (0, .o 6 [.r 1, .r 18, .n, .n, .n])] (st_0 P)) 54 687 (fun u => u.2.1 = 117 ∧ (∀ j, j < 63 → u.1 j = g j) ∧ u.2.2 = en_o k u.1 P [(0, .o 6 [.r 1, .r 18, .n, .n, .n])] (st_0 P)) := by
  refine ct_N_in (cc := bm_Parts_init) (maxL := 4) (by decide) rfl (Nat.le_of_ble_eq_true rfl) ?_
  intro p e s m args below meth c A ls Q S hZ hnm hl hW hret
  have S : pw_S p m c bm_Parts_init 4 s args wa_g rc_Parts D cl_s (ty_s k) := S
  have hx := S.1.1
  have hb := S.1.2.1
  have hl : lv_has ls 4 [(0, .ref (g 62)), (1, .ref (g 1)), (2, .ref (g 18))] := hl
  refine lv_aload_n hx hb dm_Parts_init_0 rfl (lv_at hl 0 rfl) ?_
  refine oz_obj S hl.1 (wa_in 149 (by decide +kernel) rfl) dm_Parts_init_1 ⟨by decide, by decide⟩ (Nat.le_of_ble_eq_true rfl) ?_
  refine lv_aload_n hx hb dm_Parts_init_4 rfl (lv_at hl 0 rfl) ?_
  refine lv_bipush (v := nI 15) hx hb dm_Parts_init_5 (by decide) ?_
  refine oz_newr S hW (by decide) (by decide +kernel) (st_0_4 P) 2 true rfl (n0 := 15) (by decide) (wa_in 150 (by decide +kernel) rfl) (hz_AOt hZ) ⟨by decide, by decide⟩ dm_Parts_init_7 (fun g1 H hg1 hW => ?_)
  have hl : lv_has ls 4 [(0, .ref (g1 62)), (1, .ref (g1 1)), (2, .ref (g1 18))] := by
    rw [hg1 62 (by omega), hg1 1 (by omega), hg1 18 (by omega)]
    exact hl
  rw [← hg1 62 (by omega)]
  have hW : pw_H D cl_s A s.heap g1 64 (en_o k g1 P [(63, .a true 15 []), (62, .o 3 [.n, .n, .n, .i 0, .i 0, .n, .n, .n, .n]), (0, .o 6 [.r 1, .r 18, .n, .n, .n])] (st_0 P)) H _ := hW
  refine oz_putF S hW ty_Parts to_Parts nm_Parts 62 (by decide) rfl 2 (by decide) rfl wu_Parts (wa_in 178 (by decide +kernel) rfl) rfl rfl hnm rfl (ty := .array (.object "PrimePolynomials$Part")) (by decide +kernel) (.r 63) rfl rfl (Nat.le_of_ble_eq_true rfl) dm_Parts_init_10 (fun H locs hW => ?_)
  have hW : pw_H D cl_s A s.heap g1 64 (en_o k g1 P [(63, .a true 15 []), (62, .o 3 [.n, .n, .r 63, .i 0, .i 0, .n, .n, .n, .n]), (0, .o 6 [.r 1, .r 18, .n, .n, .n])] (st_0 P)) H locs := hW
  refine lv_aload_n hx hb dm_Parts_init_13 rfl (lv_at hl 0 rfl) ?_
  refine mk_poly S hZ hW rfl (by decide +kernel) rfl rfl (st_0_4 P) (st_0_row (by decide) (by decide) (by decide) (by decide)) (st_0_sz (by decide)) (wa_in 152 (by decide +kernel) rfl) (hz_Parts_19 hZ) ⟨by decide, by decide⟩ ⟨by decide, by decide⟩ hl.1 (Nat.le_of_ble_eq_true rfl) dm_Parts_init_14 dm_Parts_init_17 dm_Parts_init_18 (fun g2 H locs hg2 hW => ?_)
  have hl : lv_has ls 4 [(0, .ref (g2 62)), (1, .ref (g2 1)), (2, .ref (g2 18))] := by
    rw [hg2 62 (by omega), hg2 1 (by omega), hg2 18 (by omega)]
    exact hl
  rw [← hg2 62 (by omega)]
  have hW : pw_H D cl_s A s.heap g2 66 (en_o k g2 P [(63, .a true 15 []), (62, .o 3 [.n, .n, .r 63, .i 0, .i 0, .n, .n, .n, .n]), (0, .o 6 [.r 1, .r 18, .n, .n, .n])] (st_0 P)) H locs := hW
  refine oz_putF S hW ty_Parts to_Parts nm_Parts 62 (by decide) rfl 5 (by decide) rfl wu_Parts (wa_in 183 (by decide +kernel) rfl) rfl rfl hnm rfl (ty := .object "PrimePolynomials$Polynomial") (by decide +kernel) (.r 64) rfl rfl (Nat.le_of_ble_eq_true rfl) dm_Parts_init_21 (fun H locs hW => ?_)
  have hW : pw_H D cl_s A s.heap g2 66 (en_o k g2 P [(63, .a true 15 []), (62, .o 3 [.n, .n, .r 63, .i 0, .i 0, .r 64, .n, .n, .n]), (0, .o 6 [.r 1, .r 18, .n, .n, .n])] (st_0 P)) H locs := hW
  refine lv_aload_n hx hb dm_Parts_init_24 rfl (lv_at hl 0 rfl) ?_
  refine mk_poly S hZ hW rfl (by decide +kernel) rfl rfl (st_0_4 P) (st_0_row (by decide) (by decide) (by decide) (by decide)) (st_0_sz (by decide)) (wa_in 152 (by decide +kernel) rfl) (hz_Parts_19 hZ) ⟨by decide, by decide⟩ ⟨by decide, by decide⟩ hl.1 (Nat.le_of_ble_eq_true rfl) dm_Parts_init_25 dm_Parts_init_28 dm_Parts_init_29 (fun g3 H locs hg3 hW => ?_)
  have hl : lv_has ls 4 [(0, .ref (g3 62)), (1, .ref (g3 1)), (2, .ref (g3 18))] := by
    rw [hg3 62 (by omega), hg3 1 (by omega), hg3 18 (by omega)]
    exact hl
  rw [← hg3 62 (by omega)]
  have hW : pw_H D cl_s A s.heap g3 68 (en_o k g3 P [(63, .a true 15 []), (62, .o 3 [.n, .n, .r 63, .i 0, .i 0, .r 64, .n, .n, .n]), (0, .o 6 [.r 1, .r 18, .n, .n, .n])] (st_0 P)) H locs := hW
  refine oz_putF S hW ty_Parts to_Parts nm_Parts 62 (by decide) rfl 6 (by decide) rfl wu_Parts (wa_in 184 (by decide +kernel) rfl) rfl rfl hnm rfl (ty := .object "PrimePolynomials$Polynomial") (by decide +kernel) (.r 66) rfl rfl (Nat.le_of_ble_eq_true rfl) dm_Parts_init_32 (fun H locs hW => ?_)
  have hW : pw_H D cl_s A s.heap g3 68 (en_o k g3 P [(63, .a true 15 []), (62, .o 3 [.n, .n, .r 63, .i 0, .i 0, .r 64, .r 66, .n, .n]), (0, .o 6 [.r 1, .r 18, .n, .n, .n])] (st_0 P)) H locs := hW
  refine lv_aload_n hx hb dm_Parts_init_35 rfl (lv_at hl 0 rfl) ?_
  refine mk_poly S hZ hW rfl (by decide +kernel) rfl rfl (st_0_4 P) (st_0_row (by decide) (by decide) (by decide) (by decide)) (st_0_sz (by decide)) (wa_in 152 (by decide +kernel) rfl) (hz_Parts_19 hZ) ⟨by decide, by decide⟩ ⟨by decide, by decide⟩ hl.1 (Nat.le_of_ble_eq_true rfl) dm_Parts_init_36 dm_Parts_init_39 dm_Parts_init_40 (fun g4 H locs hg4 hW => ?_)
  have hl : lv_has ls 4 [(0, .ref (g4 62)), (1, .ref (g4 1)), (2, .ref (g4 18))] := by
    rw [hg4 62 (by omega), hg4 1 (by omega), hg4 18 (by omega)]
    exact hl
  rw [← hg4 62 (by omega)]
  have hW : pw_H D cl_s A s.heap g4 70 (en_o k g4 P [(63, .a true 15 []), (62, .o 3 [.n, .n, .r 63, .i 0, .i 0, .r 64, .r 66, .n, .n]), (0, .o 6 [.r 1, .r 18, .n, .n, .n])] (st_0 P)) H locs := hW
  refine oz_putF S hW ty_Parts to_Parts nm_Parts 62 (by decide) rfl 7 (by decide) rfl wu_Parts (wa_in 185 (by decide +kernel) rfl) rfl rfl hnm rfl (ty := .object "PrimePolynomials$Polynomial") (by decide +kernel) (.r 68) rfl rfl (Nat.le_of_ble_eq_true rfl) dm_Parts_init_43 (fun H locs hW => ?_)
  have hW : pw_H D cl_s A s.heap g4 70 (en_o k g4 P [(63, .a true 15 []), (62, .o 3 [.n, .n, .r 63, .i 0, .i 0, .r 64, .r 66, .r 68, .n]), (0, .o 6 [.r 1, .r 18, .n, .n, .n])] (st_0 P)) H locs := hW
  refine lv_aload_n hx hb dm_Parts_init_46 rfl (lv_at hl 0 rfl) ?_
  refine mk_poly S hZ hW rfl (by decide +kernel) rfl rfl (st_0_4 P) (st_0_row (by decide) (by decide) (by decide) (by decide)) (st_0_sz (by decide)) (wa_in 152 (by decide +kernel) rfl) (hz_Parts_19 hZ) ⟨by decide, by decide⟩ ⟨by decide, by decide⟩ hl.1 (Nat.le_of_ble_eq_true rfl) dm_Parts_init_47 dm_Parts_init_50 dm_Parts_init_51 (fun g5 H locs hg5 hW => ?_)
  have hl : lv_has ls 4 [(0, .ref (g5 62)), (1, .ref (g5 1)), (2, .ref (g5 18))] := by
    rw [hg5 62 (by omega), hg5 1 (by omega), hg5 18 (by omega)]
    exact hl
  rw [← hg5 62 (by omega)]
  have hW : pw_H D cl_s A s.heap g5 72 (en_o k g5 P [(63, .a true 15 []), (62, .o 3 [.n, .n, .r 63, .i 0, .i 0, .r 64, .r 66, .r 68, .n]), (0, .o 6 [.r 1, .r 18, .n, .n, .n])] (st_0 P)) H locs := hW
  refine oz_putF S hW ty_Parts to_Parts nm_Parts 62 (by decide) rfl 8 (by decide) rfl wu_Parts (wa_in 186 (by decide +kernel) rfl) rfl rfl hnm rfl (ty := .object "PrimePolynomials$Polynomial") (by decide +kernel) (.r 70) rfl rfl (Nat.le_of_ble_eq_true rfl) dm_Parts_init_54 (fun H locs hW => ?_)
  have hW : pw_H D cl_s A s.heap g5 72 (en_o k g5 P [(63, .a true 15 []), (62, .o 3 [.n, .n, .r 63, .i 0, .i 0, .r 64, .r 66, .r 68, .r 70]), (0, .o 6 [.r 1, .r 18, .n, .n, .n])] (st_0 P)) H locs := hW
  refine lv_aload_n hx hb dm_Parts_init_57 rfl (lv_at hl 0 rfl) ?_
  refine lv_aload_n hx hb dm_Parts_init_58 rfl (lv_at hl 1 rfl) ?_
  refine oz_putF S hW ty_Parts to_Parts nm_Parts 62 (by decide) rfl 0 (by decide) rfl wu_Parts (wa_in 176 (by decide +kernel) rfl) rfl rfl hnm rfl (ty := .object "PrimePolynomials$Ring") (by decide +kernel) (.r 1) rfl rfl (Nat.le_of_ble_eq_true rfl) dm_Parts_init_59 (fun H locs hW => ?_)
  have hW : pw_H D cl_s A s.heap g5 72 (en_o k g5 P [(63, .a true 15 []), (62, .o 3 [.r 1, .n, .r 63, .i 0, .i 0, .r 64, .r 66, .r 68, .r 70]), (0, .o 6 [.r 1, .r 18, .n, .n, .n])] (st_0 P)) H locs := hW
  refine lv_aload_n hx hb dm_Parts_init_62 rfl (lv_at hl 0 rfl) ?_
  refine lv_aload_n hx hb dm_Parts_init_63 rfl (lv_at hl 2 rfl) ?_
  refine oz_putF S hW ty_Parts to_Parts nm_Parts 62 (by decide) rfl 1 (by decide) rfl wu_Parts (wa_in 177 (by decide +kernel) rfl) rfl rfl hnm rfl (ty := .object "PrimePolynomials$Frobenius") (by decide +kernel) (.r 18) rfl rfl (Nat.le_of_ble_eq_true rfl) dm_Parts_init_64 (fun H locs hW => ?_)
  have hW : pw_H D cl_s A s.heap g5 72 (en_o k g5 P [(63, .a true 15 []), (62, .o 3 [.r 1, .r 18, .r 63, .i 0, .i 0, .r 64, .r 66, .r 68, .r 70]), (0, .o 6 [.r 1, .r 18, .n, .n, .n])] (st_0 P)) H locs := hW
  refine lv_iconst (v := nI 0) hx hb dm_Parts_init_67 (by decide) ?_
  refine lv_istore_n hx hb dm_Parts_init_68 rfl hl (by decide) rfl (fun ls hl => ?_)
  have hl : lv_has ls 4 [(3, .int (nI 0)), (0, .ref (g5 62)), (1, .ref (g5 1)), (2, .ref (g5 18))] := hl
  have hl : lv_has ls 4 [(3, .int (nI 0)), (0, .ref (g5 62)), (1, .ref (g5 1)), (2, .ref (g5 18))] := hl
  have loop : ∀ d t, t + d = 15 → ∀ (gt : Nat → Nat) (ls : Array Slot) (H : Heap) (locs : List Loc), (∀ j, j < 63 → gt j = g j) → lv_has ls 4 [(3, .int (nI t)), (0, .ref (gt 62)), (1, .ref (gt 1)), (2, .ref (gt 18))] → pw_H D cl_s A s.heap gt (72 + 3 * t) (en_o k gt P [(63, .a true 15 ((List.range t).map (fun i => 72 + 3 * i))), (62, .o 3 [.r 1, .r 18, .r 63, .i 0, .i 0, .r 64, .r 66, .r 68, .r 70]), (0, .o 6 [.r 1, .r 18, .n, .n, .n])] (st_0 P)) H locs → W p l e rn_Parts s m args below meth c H locs (9 + 3 * t) (147 + 36 * t) Q (F0 m 69 ls []) := by
    intro d
    induction d with
    | zero =>
      intro t ht gt ls H locs hgt hl hW
      refine lv_iload_n hx hb dm_Parts_init_69 rfl (lv_at hl 0 rfl) ?_
      refine lv_bipush (v := nI 15) hx hb dm_Parts_init_70 (by decide) ?_
      refine wi_icmp_ge (tgt := 94) S (nn_T (by omega)) (nn_T (by omega)) dm_Parts_init_72 (by decide) (fun hc => ?_) (fun hc => ?_)
      · have ht : t = 15 := by omega
        subst ht
        have hW := oz_close hW 63 rfl (fun H h => by
          rw [en_list]
          exact va_arr (fun t ht => by
            rw [List.getElem?_map, List.getElem?_range ht]
            show some (gt (st_0 P 204 t)) = some (gt (72 + 3 * t))
            rw [show st_0 P 204 = st_z P 204 from st_po_row (by decide) (by decide), show st_z P 204 t = 72 + 3 * (t % 15) from rfl, Nat.mod_eq_of_lt ht]) h)
        have hW := oz_close hW 62 rfl (fun H h => by
          rw [en_Parts, show st_0 P 203 = st_z P 203 from st_po_row (by decide) (by decide)]
          exact h)
        exact hret _ _ _ _ gt 117 _ dm_Parts_init_94 ⟨rfl, hgt, rfl⟩ hW
      · exfalso
        omega
    | succ d ih =>
      intro t ht gt ls H locs hgt hl hW
      refine lv_iload_n hx hb dm_Parts_init_69 rfl (lv_at hl 0 rfl) ?_
      refine lv_bipush (v := nI 15) hx hb dm_Parts_init_70 (by decide) ?_
      refine wi_icmp_ge (tgt := 94) S (nn_T (by omega)) (nn_T (by omega)) dm_Parts_init_72 (by decide) (fun hc => ?_) (fun hc => ?_)
      · exfalso
        omega
      · have ht : t < 15 := by omega
        refine lv_aload_n hx hb dm_Parts_init_75 rfl (lv_at hl 1 rfl) ?_
        refine oz_getR S hW 62 (by omega) rfl 2 (by decide) rfl wu_Parts (wa_in 178 (by decide +kernel) rfl) rfl 63 rfl dm_Parts_init_76 ?_
        refine lv_iload_n hx hb dm_Parts_init_79 rfl (lv_at hl 0 rfl) ?_
        refine oz_new S hW (by omega) ((by decide +kernel : ∀ t, t < 15 → oc_b [(63, .a true 15 ((List.range t).map (fun i => 72 + 3 * i))), (62, .o 3 [.r 1, .r 18, .r 63, .i 0, .i 0, .r 64, .r 66, .r 68, .r 70]), (0, .o 6 [.r 1, .r 18, .n, .n, .n])] (72 + 3 * t) = true) t ht) (st_0_4 P) [.n, .i 0, .i 0] ty_Part to_Part (ci := 2) rfl wu_Part (wa_in 150 (by decide +kernel) rfl) (wa_in 154 (by decide +kernel) rfl) (wa_in 7 (by decide +kernel) rfl) (fun j hj => ?_) rfl ⟨by show 9 + 3 * t + 1 ≤ 54; omega, by show 147 + 36 * t + 3 ≤ 687; omega⟩ dm_Parts_init_80 (fun g51 H hg51 hW => ?_)
        · match j, hj with
          | 0, _ => rfl
          | 1, _ => rfl
          | 2, _ => rfl
          | j + 3, hj => exact absurd hj (by omega)
        have hl : lv_has ls 4 [(3, .int (nI t)), (0, .ref (g51 62)), (1, .ref (g51 1)), (2, .ref (g51 18))] := by
          rw [hg51 62 (by omega), hg51 1 (by omega), hg51 18 (by omega)]
          exact hl
        rw [← hg51 63 (by omega)]
        refine lv_dup hx hb dm_Parts_init_83 rfl ?_
        have hW : pw_H D cl_s A s.heap g51 (73 + 3 * t) (en_o k g51 P [(72 + 3 * t, .o 2 [.n, .i 0, .i 0]), (63, .a true 15 ((List.range t).map (fun i => 72 + 3 * i))), (62, .o 3 [.r 1, .r 18, .r 63, .i 0, .i 0, .r 64, .r 66, .r 68, .r 70]), (0, .o 6 [.r 1, .r 18, .n, .n, .n])] (st_0 P)) H locs := by
          rw [show 73 + 3 * t = 72 + 3 * t + 1 by omega]
          exact hW
        refine pw_callN (rest := [.ref (g51 (72 + 3 * t)), .int (nI t), .ref (g51 63)]) (As := []) S nw_zs hZ hW (mn_Part_init l D k g51 P ht) ⟨va_cnB 0 S.1.2.2.2.2 (wa_C ci_Part_init) rfl rfl rfl (hz_Parts_41 hZ) (S.1.2.2.2.2 _ (wa_in 7 (by decide +kernel) rfl)) (by decide +kernel) ⟨by decide, by decide⟩, rfl, S.1.2.2.2.2 _ (wa_in 156 (by decide +kernel) rfl)⟩ rfl hl.1 rfl (lv_room (Nat.le_of_ble_eq_true rfl)) ⟨by show 9 + 3 * t + 1 + 2 ≤ 54; omega, by show 147 + 36 * t + 3 + 33 ≤ 687; omega⟩ dm_Parts_init_84 (fun g52 N2 E2 H locs hp hW => ?_)
        obtain ⟨hN2, hg52, hE2⟩ := hp
        have hN2 : N2 = 75 + 3 * t := hN2
        have hE3 : E2 = en_o k g52 P [(63, .a true 15 ((List.range t).map (fun i => 72 + 3 * i))), (62, .o 3 [.r 1, .r 18, .r 63, .i 0, .i 0, .r 64, .r 66, .r 68, .r 70]), (0, .o 6 [.r 1, .r 18, .n, .n, .n])] (st_0 P) := hE2
        have hg53 : ∀ j, j < 73 + 3 * t → g52 j = g51 j := hg52
        rw [hN2, hE3] at hW
        clear hN2 hE3 hE2 hg52
        have hg52 : ∀ j, j < 73 + 3 * t → g52 j = g51 j := hg53
        have hl : lv_has ls 4 [(3, .int (nI t)), (0, .ref (g52 62)), (1, .ref (g52 1)), (2, .ref (g52 18))] := by
          rw [hg52 62 (by omega), hg52 1 (by omega), hg52 18 (by omega)]
          exact hl
        rw [← hg52 63 (by omega), ← hg52 (72 + 3 * t) (by omega)]
        have hkd : kd_k (72 + 3 * t) = 10 := (by decide +kernel : ∀ t, t < 15 → kd_k (72 + 3 * t) = 10) t ht
        have hO1 : od_l [(63, .a true 15 ((List.range t).map (fun i => 72 + 3 * i))), (62, .o 3 [.r 1, .r 18, .r 63, .i 0, .i 0, .r 64, .r 66, .r 68, .r 70]), (0, .o 6 [.r 1, .r 18, .n, .n, .n])] (72 + 3 * t) = none := by
          rw [od_l_ne (by omega), od_l_ne (by omega), od_l_ne (by omega)]
          rfl
        refine oz_ast S hW 2 (cb := true) (r := (rc_Part, tc_Part, 3)) rfl 63 (by omega) rfl (72 + 3 * t) (by omega) (by rw [en_o_n hO1]; exact en_k10 hkd) rfl (by rw [List.length_map, List.length_range]) ht (by decide) dm_Parts_init_87 (fun H locs hW => ?_)
        have hW : pw_H D cl_s A s.heap g52 (72 + 3 * (t + 1)) (en_o k g52 P [(63, .a true 15 ((List.range (t + 1)).map (fun i => 72 + 3 * i))), (62, .o 3 [.r 1, .r 18, .r 63, .i 0, .i 0, .r 64, .r 66, .r 68, .r 70]), (0, .o 6 [.r 1, .r 18, .n, .n, .n])] (st_0 P)) H locs := by
          rw [List.range_succ, List.map_append, show 72 + 3 * (t + 1) = 75 + 3 * t by omega]
          exact hW
        refine lv_iinc (k := 0) (v := nI (t + 1)) hx hb dm_Parts_init_88 hl rfl (by rw [show Int32.ofInt 1 = nI 1 from rfl, nI_add]) (by decide) rfl (fun ls hl => ?_)
        refine lv_goto (tgt := 69) hx hb dm_Parts_init_91 (by decide) ?_
        rw [show 9 + 3 * t + 1 + 2 = 9 + 3 * (t + 1) by omega, show 147 + 36 * t + 3 + 33 = 147 + 36 * (t + 1) by omega]
        exact ih (t + 1) (by omega) g52 ls H locs (fun j hj => (hg52 j (by omega)).trans ((hg51 j (by omega)).trans (hgt j hj))) hl hW
  exact loop 15 0 (by omega) g5 ls _ _ (fun j hj => (hg5 j (by omega)).trans ((hg4 j (by omega)).trans ((hg3 j (by omega)).trans ((hg2 j (by omega)).trans ((hg1 j (by omega))))))) hl hW
