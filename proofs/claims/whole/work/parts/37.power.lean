/-! Ring: powerInto -/
theorem ls_d {a d : Nat} {D : Int64} (hD : (D.toBitVec.smod 64).toNat = d) (h : a < 2 ^ 63) : lN a >>> D = lN (a / 2 ^ d) := by
  have hd : a / 2 ^ d ≤ a := Nat.div_le_self _ _
  apply Int64.toInt_inj.mp
  have e : (lN a >>> D).toInt = (lN a).toInt >>> d := by
    rw [← hD]
    exact BitVec.toInt_sshiftRight ..
  rw [e, Int.shiftRight_eq_div_pow, pk_lT (by omega), pk_lT (by omega)]
  rfl
theorem ls_1 {n : Nat} (h : n < 2 ^ 63) : lN n >>> ((nI 1).toInt64 &&& 63) = lN (n / 2) := by
  rw [ls_d (d := 1) (by decide) h, Nat.pow_one]
theorem la_1 {n : Nat} (h : n < 2 ^ 63) : lN n &&& lN 1 = lN (n % 2) := by
  apply Int64.toBitVec_inj.mp
  show BitVec.ofNat 64 n &&& BitVec.ofNat 64 1 = BitVec.ofNat 64 (n % 2)
  apply BitVec.eq_of_toNat_eq
  rw [BitVec.toNat_and, BitVec.toNat_ofNat, BitVec.toNat_ofNat, BitVec.toNat_ofNat, Nat.mod_eq_of_lt (show n < 2 ^ 64 by omega), Nat.mod_eq_of_lt (show 1 < 2 ^ 64 by omega), Nat.mod_eq_of_lt (show n % 2 < 2 ^ 64 by omega), Nat.and_one_is_mod]
theorem lc_eq (a : Nat) : lg_cmp (lN a) (lN a) = nI 0 := by
  unfold lg_cmp
  rw [if_neg (show ¬ lN a > lN a from Int64.lt_irrefl), if_pos rfl]
  rfl
theorem lc_gt {a b : Nat} (h : b < a) (ha : a < 2 ^ 63) : lg_cmp (lN a) (lN b) = nI 1 := by
  unfold lg_cmp
  rw [if_pos (show lN a > lN b from (pk_lLT (by omega) ha).mpr h)]
  rfl
theorem lc_lt {a b : Nat} (h : a < b) (hb : b < 2 ^ 63) : lg_cmp (lN a) (lN b) = -1 := by
  unfold lg_cmp
  rw [if_neg (show ¬ lN a > lN b from fun z => absurd ((pk_lLT hb (by omega)).mp z) (by omega)), if_neg (fun z => absurd ((pk_lEQ (by omega) hb).mp z) (by omega))]
theorem ag_pw2 {β : Type} [Lean.Grind.CommRing β] (z : β) (n : Nat) : z ^ n = (z * z) ^ (n / 2) * z ^ (n % 2) := by
  rw [← Lean.Grind.Semiring.pow_two, ← ag_pow_mul, ← Lean.Grind.Semiring.pow_add]
  congr 1
  omega
theorem ag_bst {β : Type} [Lean.Grind.CommRing β] {I : β → Prop} (hI : ag_I I) {r s r2 s2 T : β} {n : Nat} (h : ag_q I (r * s ^ n) T) (hr : ag_q I r2 (r * s ^ (n % 2))) (hs : n / 2 ≠ 0 → ag_q I s2 (s * s)) : ag_q I (r2 * s2 ^ (n / 2)) T := by
  refine ag_tr hI ?_ h
  by_cases h0 : n / 2 = 0
  · rw [h0, Lean.Grind.Semiring.pow_zero, show n = n % 2 by omega]
    rw [show r2 * 1 = r2 by grind]
    exact hr
  · have h1 := ag_ml hI hr (ag_pw hI (hs h0) (n / 2))
    refine ag_tr hI h1 (ag_of_eq hI ?_)
    rw [ag_pw2 s n]
    grind
theorem sp_one_pe : pe_f (va_up (fun _ => 0) 0 1) = pz_ct 1 := pz_ext (fun i => by
  rw [pe_at (P := 2) (fun i => by unfold va_up; dsimp only; split <;> omega)]
  show ((if i = 0 then 1 else 0 : Nat) : Int) = if i = 0 then 1 else 0
  split <;> rfl)
theorem sp_one_ok {P : Nat} (hP : 2 ≤ P) : sp_ok P (va_up (fun _ => 0) 0 1) := fun i => by unfold va_up; dsimp only; split <;> omega
theorem dm_Ring_powerInto_0 : decode bm_Ring_powerInto 0 = .ok (.aload_n 0, 1) := by decide +kernel
theorem dm_Ring_powerInto_1 : decode bm_Ring_powerInto 1 = .ok (.getfield 30, 3) := by decide +kernel
theorem dm_Ring_powerInto_4 : decode bm_Ring_powerInto 4 = .ok (.aload 5, 2) := by decide +kernel
theorem dm_Ring_powerInto_6 : decode bm_Ring_powerInto 6 = .ok (.invokevirtual 76, 3) := by decide +kernel
theorem dm_Ring_powerInto_9 : decode bm_Ring_powerInto 9 = .ok (.aload_n 0, 1) := by decide +kernel
theorem dm_Ring_powerInto_10 : decode bm_Ring_powerInto 10 = .ok (.aload_n 0, 1) := by decide +kernel
theorem dm_Ring_powerInto_11 : decode bm_Ring_powerInto 11 = .ok (.getfield 30, 3) := by decide +kernel
theorem dm_Ring_powerInto_14 : decode bm_Ring_powerInto 14 = .ok (.invokevirtual 87, 3) := by decide +kernel
theorem dm_Ring_powerInto_17 : decode bm_Ring_powerInto 17 = .ok (.aload_n 0, 1) := by decide +kernel
theorem dm_Ring_powerInto_18 : decode bm_Ring_powerInto 18 = .ok (.aload_n 0, 1) := by decide +kernel
theorem dm_Ring_powerInto_19 : decode bm_Ring_powerInto 19 = .ok (.getfield 33, 3) := by decide +kernel
theorem dm_Ring_powerInto_22 : decode bm_Ring_powerInto 22 = .ok (.aload_n 2, 1) := by decide +kernel
theorem dm_Ring_powerInto_23 : decode bm_Ring_powerInto 23 = .ok (.aload_n 0, 1) := by decide +kernel
theorem dm_Ring_powerInto_24 : decode bm_Ring_powerInto 24 = .ok (.getfield 30, 3) := by decide +kernel
theorem dm_Ring_powerInto_27 : decode bm_Ring_powerInto 27 = .ok (.invokevirtual 83, 3) := by decide +kernel
theorem dm_Ring_powerInto_30 : decode bm_Ring_powerInto 30 = .ok (.aload_n 0, 1) := by decide +kernel
theorem dm_Ring_powerInto_31 : decode bm_Ring_powerInto 31 = .ok (.getfield 36, 3) := by decide +kernel
theorem dm_Ring_powerInto_34 : decode bm_Ring_powerInto 34 = .ok (.iconst 1, 1) := by decide +kernel
theorem dm_Ring_powerInto_35 : decode bm_Ring_powerInto 35 = .ok (.iconst 0, 1) := by decide +kernel
theorem dm_Ring_powerInto_36 : decode bm_Ring_powerInto 36 = .ok (.invokevirtual 90, 3) := by decide +kernel
theorem dm_Ring_powerInto_39 : decode bm_Ring_powerInto 39 = .ok (.aload_n 0, 1) := by decide +kernel
theorem dm_Ring_powerInto_40 : decode bm_Ring_powerInto 40 = .ok (.aload_n 0, 1) := by decide +kernel
theorem dm_Ring_powerInto_41 : decode bm_Ring_powerInto 41 = .ok (.getfield 36, 3) := by decide +kernel
theorem dm_Ring_powerInto_44 : decode bm_Ring_powerInto 44 = .ok (.aload_n 0, 1) := by decide +kernel
theorem dm_Ring_powerInto_45 : decode bm_Ring_powerInto 45 = .ok (.getfield 36, 3) := by decide +kernel
theorem dm_Ring_powerInto_48 : decode bm_Ring_powerInto 48 = .ok (.aload_n 0, 1) := by decide +kernel
theorem dm_Ring_powerInto_49 : decode bm_Ring_powerInto 49 = .ok (.getfield 30, 3) := by decide +kernel
theorem dm_Ring_powerInto_52 : decode bm_Ring_powerInto 52 = .ok (.invokevirtual 83, 3) := by decide +kernel
theorem dm_Ring_powerInto_55 : decode bm_Ring_powerInto 55 = .ok (.lload_n 3, 1) := by decide +kernel
theorem dm_Ring_powerInto_56 : decode bm_Ring_powerInto 56 = .ok (.lstore 6, 2) := by decide +kernel
theorem dm_Ring_powerInto_58 : decode bm_Ring_powerInto 58 = .ok (.lload 6, 2) := by decide +kernel
theorem dm_Ring_powerInto_60 : decode bm_Ring_powerInto 60 = .ok (.lconst 0, 1) := by decide +kernel
theorem dm_Ring_powerInto_61 : decode bm_Ring_powerInto 61 = .ok (.lcmp, 1) := by decide +kernel
theorem dm_Ring_powerInto_62 : decode bm_Ring_powerInto 62 = .ok (.ifCond .le 68, 3) := by decide +kernel
theorem dm_Ring_powerInto_65 : decode bm_Ring_powerInto 65 = .ok (.lload 6, 2) := by decide +kernel
theorem dm_Ring_powerInto_67 : decode bm_Ring_powerInto 67 = .ok (.lconst 1, 1) := by decide +kernel
theorem dm_Ring_powerInto_68 : decode bm_Ring_powerInto 68 = .ok (.land, 1) := by decide +kernel
theorem dm_Ring_powerInto_69 : decode bm_Ring_powerInto 69 = .ok (.lconst 1, 1) := by decide +kernel
theorem dm_Ring_powerInto_70 : decode bm_Ring_powerInto 70 = .ok (.lcmp, 1) := by decide +kernel
theorem dm_Ring_powerInto_71 : decode bm_Ring_powerInto 71 = .ok (.ifCond .ne 23, 3) := by decide +kernel
theorem dm_Ring_powerInto_74 : decode bm_Ring_powerInto 74 = .ok (.aload_n 0, 1) := by decide +kernel
theorem dm_Ring_powerInto_75 : decode bm_Ring_powerInto 75 = .ok (.aload_n 0, 1) := by decide +kernel
theorem dm_Ring_powerInto_76 : decode bm_Ring_powerInto 76 = .ok (.getfield 36, 3) := by decide +kernel
theorem dm_Ring_powerInto_79 : decode bm_Ring_powerInto 79 = .ok (.aload_n 0, 1) := by decide +kernel
theorem dm_Ring_powerInto_80 : decode bm_Ring_powerInto 80 = .ok (.getfield 36, 3) := by decide +kernel
theorem dm_Ring_powerInto_83 : decode bm_Ring_powerInto 83 = .ok (.aload_n 0, 1) := by decide +kernel
theorem dm_Ring_powerInto_84 : decode bm_Ring_powerInto 84 = .ok (.getfield 33, 3) := by decide +kernel
theorem dm_Ring_powerInto_87 : decode bm_Ring_powerInto 87 = .ok (.aload_n 0, 1) := by decide +kernel
theorem dm_Ring_powerInto_88 : decode bm_Ring_powerInto 88 = .ok (.getfield 30, 3) := by decide +kernel
theorem dm_Ring_powerInto_91 : decode bm_Ring_powerInto 91 = .ok (.invokevirtual 94, 3) := by decide +kernel
theorem dm_Ring_powerInto_94 : decode bm_Ring_powerInto 94 = .ok (.lload 6, 2) := by decide +kernel
theorem dm_Ring_powerInto_96 : decode bm_Ring_powerInto 96 = .ok (.lconst 1, 1) := by decide +kernel
theorem dm_Ring_powerInto_97 : decode bm_Ring_powerInto 97 = .ok (.lcmp, 1) := by decide +kernel
theorem dm_Ring_powerInto_98 : decode bm_Ring_powerInto 98 = .ok (.ifCond .le 23, 3) := by decide +kernel
theorem dm_Ring_powerInto_101 : decode bm_Ring_powerInto 101 = .ok (.aload_n 0, 1) := by decide +kernel
theorem dm_Ring_powerInto_102 : decode bm_Ring_powerInto 102 = .ok (.aload_n 0, 1) := by decide +kernel
theorem dm_Ring_powerInto_103 : decode bm_Ring_powerInto 103 = .ok (.getfield 33, 3) := by decide +kernel
theorem dm_Ring_powerInto_106 : decode bm_Ring_powerInto 106 = .ok (.aload_n 0, 1) := by decide +kernel
theorem dm_Ring_powerInto_107 : decode bm_Ring_powerInto 107 = .ok (.getfield 33, 3) := by decide +kernel
theorem dm_Ring_powerInto_110 : decode bm_Ring_powerInto 110 = .ok (.aload_n 0, 1) := by decide +kernel
theorem dm_Ring_powerInto_111 : decode bm_Ring_powerInto 111 = .ok (.getfield 33, 3) := by decide +kernel
theorem dm_Ring_powerInto_114 : decode bm_Ring_powerInto 114 = .ok (.aload_n 0, 1) := by decide +kernel
theorem dm_Ring_powerInto_115 : decode bm_Ring_powerInto 115 = .ok (.getfield 30, 3) := by decide +kernel
theorem dm_Ring_powerInto_118 : decode bm_Ring_powerInto 118 = .ok (.invokevirtual 94, 3) := by decide +kernel
theorem dm_Ring_powerInto_121 : decode bm_Ring_powerInto 121 = .ok (.lload 6, 2) := by decide +kernel
theorem dm_Ring_powerInto_123 : decode bm_Ring_powerInto 123 = .ok (.iconst 1, 1) := by decide +kernel
theorem dm_Ring_powerInto_124 : decode bm_Ring_powerInto 124 = .ok (.lshr, 1) := by decide +kernel
theorem dm_Ring_powerInto_125 : decode bm_Ring_powerInto 125 = .ok (.lstore 6, 2) := by decide +kernel
theorem dm_Ring_powerInto_127 : decode bm_Ring_powerInto 127 = .ok (.goto (-69), 3) := by decide +kernel
theorem dm_Ring_powerInto_130 : decode bm_Ring_powerInto 130 = .ok (.aload_n 1, 1) := by decide +kernel
theorem dm_Ring_powerInto_131 : decode bm_Ring_powerInto 131 = .ok (.aload_n 0, 1) := by decide +kernel
theorem dm_Ring_powerInto_132 : decode bm_Ring_powerInto 132 = .ok (.getfield 36, 3) := by decide +kernel
theorem dm_Ring_powerInto_135 : decode bm_Ring_powerInto 135 = .ok (.invokevirtual 76, 3) := by decide +kernel
theorem dm_Ring_powerInto_138 : decode bm_Ring_powerInto 138 = .ok (.return_, 1) := by decide +kernel
set_option maxHeartbeats 4000000 in
set_option maxRecDepth 100000 in
theorem mm_Ring_powerInto (l : Launch) (D : va_G) (k : ClassId × ClassId × ClassId) (g : Nat → Nat) (σ : st_T) {P x a m0 n0 : Nat} (hw : st_wf P σ) (hP : ag_pr P) (hP31 : P < 2147483648) (hx_ : kd_k x = 0) (ha_ : kd_k a = 0) (hm0_ : kd_k m0 = 0) (ha4 : a ≠ 4) (ha6 : a ≠ 6) (ha12 : a ≠ 12) (hms : 0 < σ 200 m0) (hms2 : σ 200 m0 ≤ 17) (hn0 : n0 < 2 ^ 63) : mt_V l D k g ym_Ring_powerInto wm_Ring_powerInto rm_Ring_powerInto [.ref (g 1), .ref (g x), .ref (g a), .long (lN n0), .ref (g m0)] σ (fun σ1 => st_wf P σ1 ∧ sp_is P (σ m0) (σ1 x) (pz_pw (pe_f (σ a)) n0) ∧ st_sm [x, 2, 4, 6, 12, 14, 16] σ σ1) := by
  refine ct_V_in (cc := bm_Ring_powerInto) (maxL := 8) (by decide) rfl (Nat.le_of_ble_eq_true rfl) ?_
  intro p e s m args below meth c A ls Q S hl hW hret
  have S : pw_S p m c bm_Ring_powerInto 8 s args wa_g rc_Ring D cl_s (ty_s k) := S
  have hx := S.1.1
  have hb := S.1.2.1
  have hl : lv_has ls 8 [(0, .ref (g (1))), (1, .ref (g (x))), (2, .ref (g (a))), (3, .long (lN (n0))), (5, .ref (g (m0)))] := hl
  have hP2 := hP.1
  have ka := kd_po ha_
  have kx := kd_po hx_
  have hmo := (hw.2 m0 hm0_).1
  have hsm : sp_sz (σ m0) 31 = σ 200 m0 := ((hw.2 m0 hm0_).2).symm
  have hok := sp_mon_ok hP hmo
  have hsz : sp_sz (sp_mon P (σ m0)) 31 = σ 200 m0 := by rw [sp_mon_sz hP hmo, hsm]
  have hI := pz_I_ok P (pe_f (σ m0))
  have w1 : st_wf P (st_po σ 12 (σ m0)) := st_wf_po hw (j := 12) rfl hmo
  have w2 : st_wf P (st_po σ 12 (sp_mon P (σ m0))) := st_wf_po hw (j := 12) rfl hok
  refine lv_aload_n hx hb dm_Ring_powerInto_0 rfl (lv_at hl 0 rfl) ?_
  refine rg_modulus S hW (wa_in 69 (by decide +kernel) rfl) dm_Ring_powerInto_1 ?_
  refine lv_aload hx hb dm_Ring_powerInto_4 (lv_at hl 4 rfl) ?_
  refine pw_callV (rest := []) S hW (mm_Poly_copyFrom l D k g σ hw hm0_ (j := 12) rfl) (cv_Ring_76 S.1.2.2.2.2 ⟨by decide, by decide⟩) (kd_p1 rfl) (en_k0 rfl) rfl rfl hl.1 rfl (lv_room (Nat.le_of_ble_eq_true rfl)) ⟨Nat.zero_le _, Nat.zero_le _⟩ dm_Ring_powerInto_6 (fun σ1 H locs hp hW => ?_)
  rw [hp] at hW
  refine lv_aload_n hx hb dm_Ring_powerInto_9 rfl (lv_at hl 0 rfl) ?_
  refine lv_aload_n hx hb dm_Ring_powerInto_10 rfl (lv_at hl 0 rfl) ?_
  refine rg_modulus S hW (wa_in 69 (by decide +kernel) rfl) dm_Ring_powerInto_11 ?_
  refine pw_callV (rest := []) S hW (mm_Ring_makeMonic l D k g (st_po σ 12 (σ m0)) w1 hP hP31 (x := 12) rfl) (cv_Ring_87 S.1.2.2.2.2 ⟨by decide, by decide⟩) (by decide) en_Ring rfl rfl hl.1 rfl (lv_room (Nat.le_of_ble_eq_true rfl)) ⟨Nat.zero_le _, Nat.zero_le _⟩ dm_Ring_powerInto_14 (fun σ2 H locs hp2 hW => ?_)
  rw [hp2, st_po_at, st_po_po (by decide)] at hW
  refine lv_aload_n hx hb dm_Ring_powerInto_17 rfl (lv_at hl 0 rfl) ?_
  refine lv_aload_n hx hb dm_Ring_powerInto_18 rfl (lv_at hl 0 rfl) ?_
  refine rg_square S hW (wa_in 70 (by decide +kernel) rfl) dm_Ring_powerInto_19 ?_
  refine lv_aload_n hx hb dm_Ring_powerInto_22 rfl (lv_at hl 2 rfl) ?_
  refine lv_aload_n hx hb dm_Ring_powerInto_23 rfl (lv_at hl 0 rfl) ?_
  refine rg_modulus S hW (wa_in 69 (by decide +kernel) rfl) dm_Ring_powerInto_24 ?_
  refine pw_callV (rest := []) S hW (mm_Ring_restInto l D k g (st_po σ 12 (sp_mon P (σ m0))) w2 hP hP31 (x := 14) rfl ha_ (b := 12) rfl ha4 ha6 (by decide) (by decide) (by rw [st_po_sz (by decide), hsz]; exact hms)) (cv_Ring_83 S.1.2.2.2.2 ⟨by decide, by decide⟩) (by decide) en_Ring rfl rfl hl.1 rfl (lv_room (Nat.le_of_ble_eq_true rfl)) ⟨Nat.zero_le _, Nat.zero_le _⟩ dm_Ring_powerInto_27 (fun σ3 H locs hp3 hW => ?_)
  obtain ⟨w3, e3, s3⟩ := hp3
  rw [st_po_row ha12 (by omega), st_po_at] at e3
  have e12 : σ3 12 = sp_mon P (σ m0) := by rw [s3 12 (by decide) (by decide), st_po_at]
  refine lv_aload_n hx hb dm_Ring_powerInto_30 rfl (lv_at hl 0 rfl) ?_
  refine rg_result S hW (wa_in 71 (by decide +kernel) rfl) dm_Ring_powerInto_31 ?_
  refine lv_iconst (v := nI (1)) hx hb dm_Ring_powerInto_34 (by decide) ?_
  refine lv_iconst (v := nI (0)) hx hb dm_Ring_powerInto_35 (by decide) ?_
  refine pw_callV (rest := []) S hW (mm_Poly_becomeTerm l D k g σ3 w3 (j := 16) rfl (v := 1) (n := 0) (by omega) (by omega)) (cv_Ring_90 S.1.2.2.2.2 ⟨by decide, by decide⟩) (kd_p1 rfl) (en_k0 rfl) rfl rfl hl.1 rfl (lv_room (Nat.le_of_ble_eq_true rfl)) ⟨Nat.zero_le _, Nat.zero_le _⟩ dm_Ring_powerInto_36 (fun σ4 H locs hp4 hW => ?_)
  rw [hp4] at hW
  have w4 : st_wf P (st_po σ3 16 (va_up (fun _ => 0) 0 1)) := st_wf_po w3 (j := 16) rfl (sp_one_ok hP2)
  have e412 : (st_po σ3 16 (va_up (fun _ => 0) 0 1)) 12 = sp_mon P (σ m0) := by rw [st_po_row (by decide) (by decide), e12]
  have e414 : (st_po σ3 16 (va_up (fun _ => 0) 0 1)) 14 = sp_rest P (σ a) (sp_mon P (σ m0)) := by rw [st_po_row (by decide) (by decide), e3]
  refine lv_aload_n hx hb dm_Ring_powerInto_39 rfl (lv_at hl 0 rfl) ?_
  refine lv_aload_n hx hb dm_Ring_powerInto_40 rfl (lv_at hl 0 rfl) ?_
  refine rg_result S hW (wa_in 71 (by decide +kernel) rfl) dm_Ring_powerInto_41 ?_
  refine lv_aload_n hx hb dm_Ring_powerInto_44 rfl (lv_at hl 0 rfl) ?_
  refine rg_result S hW (wa_in 71 (by decide +kernel) rfl) dm_Ring_powerInto_45 ?_
  refine lv_aload_n hx hb dm_Ring_powerInto_48 rfl (lv_at hl 0 rfl) ?_
  refine rg_modulus S hW (wa_in 69 (by decide +kernel) rfl) dm_Ring_powerInto_49 ?_
  refine pw_callV (rest := []) S hW (mm_Ring_restInto l D k g (st_po σ3 16 (va_up (fun _ => 0) 0 1)) w4 hP hP31 (x := 16) rfl (a := 16) rfl (b := 12) rfl (by decide) (by decide) (by decide) (by decide) (by rw [(w4.2 12 rfl).2, e412, hsz]; exact hms)) (cv_Ring_83 S.1.2.2.2.2 ⟨by decide, by decide⟩) (by decide) en_Ring rfl rfl hl.1 rfl (lv_room (Nat.le_of_ble_eq_true rfl)) ⟨Nat.zero_le _, Nat.zero_le _⟩ dm_Ring_powerInto_52 (fun σ5 H locs hp5 hW => ?_)
  obtain ⟨w5, e5, s5⟩ := hp5
  rw [st_po_at, e412] at e5
  refine lv_lload_n hx hb dm_Ring_powerInto_55 rfl (lv_at hl 3 rfl) ?_
  refine lv_lstore hx hb dm_Ring_powerInto_56 hl (by decide) rfl (fun ls hl => ?_)
  have hl : lv_has ls 8 [(6, .long (lN (n0))), (0, .ref (g (1))), (1, .ref (g (x))), (2, .ref (g (a))), (3, .long (lN (n0))), (5, .ref (g (m0)))] := hl
  have hl : lv_has ls 8 [(6, .long (lN (n0))), (0, .ref (g (1))), (1, .ref (g (x)))] := lv_sub hl [0, 1, 2] rfl
  have loop : ∀ (n : Nat), n < 2 ^ 63 → ∀ (τ : st_T), st_wf P τ → st_sm [2, 4, 6, 12, 14, 16] σ τ → τ 12 = sp_mon P (σ m0) → sp_sz (τ 16) 31 < σ 200 m0 → sp_sz (τ 14) 31 < σ 200 m0 → @ag_q pz_T pz_R (pz_I P (pe_f (σ m0))) (pz_ml (pe_f (τ 16)) (pz_pw (pe_f (τ 14)) n)) (pz_pw (pe_f (σ a)) n0) → ∀ (ls : Array Slot) (H : Heap) (locs : List Loc), lv_has ls 8 [(6, .long (lN (n))), (0, .ref (g (1))), (1, .ref (g (x)))] → pw_H D cl_s A s.heap g 153 (en_s k g (τ)) H locs → W p l e rm_Ring_powerInto s m args below meth c H locs 0 0 Q (F0 m 58 ls []) := by
    intro n
    induction n using Nat.strongRecOn with
    | ind n ih =>
      intro hn τ wτ sτ t12 z16 z14 hinv ls H locs hl hW
      have y16 := (wτ.2 16 rfl).2
      have y14 := (wτ.2 14 rfl).2
      have y12 : τ 200 12 = σ 200 m0 := by rw [(wτ.2 12 rfl).2, t12, hsz]
      refine lv_lload hx hb dm_Ring_powerInto_58 (lv_at hl 0 rfl) ?_
      refine lv_lconst (v := lN (0)) hx hb dm_Ring_powerInto_60 (by decide) ?_
      refine W.lcmp hx hb dm_Ring_powerInto_61 ?_
      by_cases hn1 : n = 0
      · rw [show lg_cmp (lN n) (lN 0) = nI 0 by rw [hn1]; exact lc_z]
        refine wi_if_le (tgt := 130) S (nn_T (by omega)) dm_Ring_powerInto_62 (by decide) (fun hc => ?_) (fun hc => ?_)
        · refine lv_aload_n hx hb dm_Ring_powerInto_130 rfl (lv_at hl 2 rfl) ?_
          refine lv_aload_n hx hb dm_Ring_powerInto_131 rfl (lv_at hl 1 rfl) ?_
          refine rg_result S hW (wa_in 71 (by decide +kernel) rfl) dm_Ring_powerInto_132 ?_
          refine pw_callV (rest := []) S hW (mm_Poly_copyFrom l D k g τ wτ (i := 16) rfl hx_) (cv_Ring_76 S.1.2.2.2.2 ⟨by decide, by decide⟩) (kd_p1 hx_) (en_k0 hx_) rfl rfl hl.1 rfl (lv_room (Nat.le_of_ble_eq_true rfl)) ⟨Nat.zero_le _, Nat.zero_le _⟩ dm_Ring_powerInto_135 (fun σ6 H locs hp6 hW => ?_)
          rw [hp6] at hW
          refine hret _ _ _ _ _ dm_Ring_powerInto_138 ⟨st_wf_po wτ hx_ (wτ.2 16 rfl).1, ⟨by rw [st_po_at]; exact (wτ.2 16 rfl).1, by rw [st_po_at, hsm]; exact z16, ?_⟩, st_sm_tr sτ (st_sm_po _ x _) (by intro a ha; simp only [List.mem_cons, List.not_mem_nil, or_false] at ha ⊢; omega) (by intro a ha; simp only [List.mem_cons, List.not_mem_nil, or_false] at ha ⊢; omega)⟩ hW
          rw [st_po_at]
          rw [hn1] at hinv
          have e1 : pz_ml (pe_f (τ 16)) (pz_pw (pe_f (τ 14)) 0) = pe_f (τ 16) := pz_R.mul_one _
          rwa [e1] at hinv
        · exfalso
          omega
      · rw [lc_p hn1 (by omega)]
        refine wi_if_le (tgt := 130) S (nn_T (by omega)) dm_Ring_powerInto_62 (by decide) (fun hc => ?_) (fun hc => ?_)
        · exfalso
          omega
        · have bot : ∀ (ω : st_T), st_wf P ω → st_sm [2, 4, 6, 12, 14, 16] σ ω → ω 12 = sp_mon P (σ m0) → sp_sz (ω 16) 31 < σ 200 m0 → sp_sz (ω 14) 31 < σ 200 m0 → @ag_q pz_T pz_R (pz_I P (pe_f (σ m0))) (pz_ml (pe_f (ω 16)) (pz_pw (pe_f (ω 14)) (n / 2))) (pz_pw (pe_f (σ a)) n0) → ∀ (ls : Array Slot) (H : Heap) (locs : List Loc), lv_has ls 8 [(6, .long (lN (n))), (0, .ref (g (1))), (1, .ref (g (x)))] → pw_H D cl_s A s.heap g 153 (en_s k g (ω)) H locs → W p l e rm_Ring_powerInto s m args below meth c H locs 0 0 Q (F0 m 121 ls []) := by
            intro ω wω sω o12 o16 o14 hω ls H locs hl hW
            refine lv_lload hx hb dm_Ring_powerInto_121 (lv_at hl 0 rfl) ?_
            refine lv_iconst (v := nI (1)) hx hb dm_Ring_powerInto_123 (by decide) ?_
            refine lv_lshr hx hb dm_Ring_powerInto_124 (ls_1 (by omega)) ?_
            refine lv_lstore hx hb dm_Ring_powerInto_125 hl (by decide) rfl (fun ls hl => ?_)
            have hl : lv_has ls 8 [(6, .long (lN (n / 2))), (0, .ref (g (1))), (1, .ref (g (x)))] := hl
            refine lv_goto (tgt := 58) hx hb dm_Ring_powerInto_127 (by decide) ?_
            have hl : lv_has ls 8 [(6, .long (lN (n / 2))), (0, .ref (g (1))), (1, .ref (g (x)))] := lv_sub hl [0, 1, 2] rfl
            exact ih (n / 2) (by omega) (by omega) ω wω sω o12 o16 o14 hω ls H locs hl hW
          have mid : ∀ (υ : st_T), st_wf P υ → st_sm [2, 4, 6, 12, 14, 16] σ υ → υ 12 = sp_mon P (σ m0) → υ 14 = τ 14 → sp_sz (υ 16) 31 < σ 200 m0 → @ag_q pz_T pz_R (pz_I P (pe_f (σ m0))) (pe_f (υ 16)) (pz_ml (pe_f (τ 16)) (pz_pw (pe_f (τ 14)) (n % 2))) → ∀ (ls : Array Slot) (H : Heap) (locs : List Loc), lv_has ls 8 [(6, .long (lN (n))), (0, .ref (g (1))), (1, .ref (g (x)))] → pw_H D cl_s A s.heap g 153 (en_s k g (υ)) H locs → W p l e rm_Ring_powerInto s m args below meth c H locs 0 0 Q (F0 m 94 ls []) := by
            intro υ wυ sυ u12 u14 u16 hυ ls H locs hl hW
            refine lv_lload hx hb dm_Ring_powerInto_94 (lv_at hl 0 rfl) ?_
            refine lv_lconst (v := lN (1)) hx hb dm_Ring_powerInto_96 (by decide) ?_
            refine W.lcmp hx hb dm_Ring_powerInto_97 ?_
            by_cases hn2 : n = 1
            · rw [show lg_cmp (lN n) (lN 1) = nI 0 by rw [hn2]; exact lc_eq 1]
              refine wi_if_le (tgt := 121) S (nn_T (by omega)) dm_Ring_powerInto_98 (by decide) (fun hc => ?_) (fun hc => ?_)
              · refine bot υ wυ sυ u12 u16 (by rw [u14]; exact z14) ?_ ls H locs hl hW
                exact @ag_bst pz_T pz_R (pz_I P (pe_f (σ m0))) hI _ _ _ _ _ n hinv hυ (fun h => absurd h (by omega))
              · exfalso
                omega
            · rw [lc_gt (show 1 < n by omega) (by omega)]
              refine wi_if_le (tgt := 121) S (nn_T (by omega)) dm_Ring_powerInto_98 (by decide) (fun hc => ?_) (fun hc => ?_)
              · exfalso
                omega
              · refine lv_aload_n hx hb dm_Ring_powerInto_101 rfl (lv_at hl 1 rfl) ?_
                refine lv_aload_n hx hb dm_Ring_powerInto_102 rfl (lv_at hl 1 rfl) ?_
                refine rg_square S hW (wa_in 70 (by decide +kernel) rfl) dm_Ring_powerInto_103 ?_
                refine lv_aload_n hx hb dm_Ring_powerInto_106 rfl (lv_at hl 1 rfl) ?_
                refine rg_square S hW (wa_in 70 (by decide +kernel) rfl) dm_Ring_powerInto_107 ?_
                refine lv_aload_n hx hb dm_Ring_powerInto_110 rfl (lv_at hl 1 rfl) ?_
                refine rg_square S hW (wa_in 70 (by decide +kernel) rfl) dm_Ring_powerInto_111 ?_
                refine lv_aload_n hx hb dm_Ring_powerInto_114 rfl (lv_at hl 1 rfl) ?_
                refine rg_modulus S hW (wa_in 69 (by decide +kernel) rfl) dm_Ring_powerInto_115 ?_
                have x14 := (wυ.2 14 rfl).2
                have x12 : υ 200 12 = σ 200 m0 := by rw [(wυ.2 12 rfl).2, u12, hsz]
                rw [u14] at x14
                refine pw_callV (rest := []) S hW (mm_Ring_productRestInto l D k g υ wυ hP hP31 (x := 14) rfl (a := 14) rfl (b := 14) rfl (m0 := 12) rfl (by decide) (by decide) (by decide) (by decide) (by decide) (by omega) (by omega)) (cv_Ring_94 S.1.2.2.2.2 ⟨by decide, by decide⟩) (by decide) en_Ring rfl rfl hl.1 rfl (lv_room (Nat.le_of_ble_eq_true rfl)) ⟨Nat.zero_le _, Nat.zero_le _⟩ dm_Ring_powerInto_118 (fun σ7 H locs hp7 hW => ?_)
                obtain ⟨w7, e7, s7⟩ := hp7
                rw [u14, u12] at e7
                have hsq := (sp_mon_is hP hmo).mp (sp_mr hP (wτ.2 14 rfl).1 (wτ.2 14 rfl).1 hok (by omega) (by omega) (@ag_rf pz_T pz_R _ (pz_I_ok P _) _) (@ag_rf pz_T pz_R _ (pz_I_ok P _) _))
                have e716 : σ7 16 = υ 16 := s7 16 (by decide) (by decide)
                refine bot σ7 w7 (st_sm_tr sυ s7 (fun _ h => h) (by decide)) (by rw [s7 12 (by decide) (by decide), u12]) (by rw [e716]; exact u16) (by rw [e7, ← hsm]; exact hsq.2.1) ?_ ls H locs hl hW
                rw [e716, e7]
                exact @ag_bst pz_T pz_R (pz_I P (pe_f (σ m0))) hI _ _ _ _ _ n hinv hυ (fun _ => hsq.2.2)
          refine lv_lload hx hb dm_Ring_powerInto_65 (lv_at hl 0 rfl) ?_
          refine lv_lconst (v := lN (1)) hx hb dm_Ring_powerInto_67 (by decide) ?_
          refine lv_land hx hb dm_Ring_powerInto_68 ?_
          rw [la_1 (by omega)]
          refine lv_lconst (v := lN (1)) hx hb dm_Ring_powerInto_69 (by decide) ?_
          refine W.lcmp hx hb dm_Ring_powerInto_70 ?_
          by_cases hodd : n % 2 = 1
          · rw [show lg_cmp (lN (n % 2)) (lN 1) = nI 0 by rw [hodd]; exact lc_eq 1]
            refine wi_if_ne (tgt := 94) S (nn_T (by omega)) dm_Ring_powerInto_71 (by decide) (fun hc => ?_) (fun hc => ?_)
            · exfalso
              omega
            · refine lv_aload_n hx hb dm_Ring_powerInto_74 rfl (lv_at hl 1 rfl) ?_
              refine lv_aload_n hx hb dm_Ring_powerInto_75 rfl (lv_at hl 1 rfl) ?_
              refine rg_result S hW (wa_in 71 (by decide +kernel) rfl) dm_Ring_powerInto_76 ?_
              refine lv_aload_n hx hb dm_Ring_powerInto_79 rfl (lv_at hl 1 rfl) ?_
              refine rg_result S hW (wa_in 71 (by decide +kernel) rfl) dm_Ring_powerInto_80 ?_
              refine lv_aload_n hx hb dm_Ring_powerInto_83 rfl (lv_at hl 1 rfl) ?_
              refine rg_square S hW (wa_in 70 (by decide +kernel) rfl) dm_Ring_powerInto_84 ?_
              refine lv_aload_n hx hb dm_Ring_powerInto_87 rfl (lv_at hl 1 rfl) ?_
              refine rg_modulus S hW (wa_in 69 (by decide +kernel) rfl) dm_Ring_powerInto_88 ?_
              refine pw_callV (rest := []) S hW (mm_Ring_productRestInto l D k g τ wτ hP hP31 (x := 16) rfl (a := 16) rfl (b := 14) rfl (m0 := 12) rfl (by decide) (by decide) (by decide) (by decide) (by decide) (by omega) (by omega)) (cv_Ring_94 S.1.2.2.2.2 ⟨by decide, by decide⟩) (by decide) en_Ring rfl rfl hl.1 rfl (lv_room (Nat.le_of_ble_eq_true rfl)) ⟨Nat.zero_le _, Nat.zero_le _⟩ dm_Ring_powerInto_91 (fun σ8 H locs hp8 hW => ?_)
              obtain ⟨w8, e8, s8⟩ := hp8
              rw [t12] at e8
              have hpr := (sp_mon_is hP hmo).mp (sp_mr hP (wτ.2 16 rfl).1 (wτ.2 14 rfl).1 hok (by omega) (by omega) (@ag_rf pz_T pz_R _ (pz_I_ok P _) _) (@ag_rf pz_T pz_R _ (pz_I_ok P _) _))
              refine mid σ8 w8 (st_sm_tr sτ s8 (fun _ h => h) (by decide)) (by rw [s8 12 (by decide) (by decide), t12]) (s8 14 (by decide) (by decide)) (by rw [e8, ← hsm]; exact hpr.2.1) ?_ ls H locs hl hW
              have e1 : pz_pw (pe_f (τ 14)) (n % 2) = pe_f (τ 14) := by
                rw [hodd]
                exact pz_R.one_mul _
              rw [e8, e1]
              exact hpr.2.2
          · rw [lc_lt (show n % 2 < 1 by omega) (by omega)]
            refine wi_if_ne (tgt := 94) S (show (-1 : Int32).toInt = -1 by decide) dm_Ring_powerInto_71 (by decide) (fun hc => ?_) (fun hc => ?_)
            · refine mid τ wτ sτ t12 rfl z16 ?_ ls H locs hl hW
              have e1 : pz_ml (pe_f (τ 16)) (pz_pw (pe_f (τ 14)) (n % 2)) = pe_f (τ 16) := by
                rw [show n % 2 = 0 by omega]
                exact pz_R.mul_one _
              rw [e1]
              exact @ag_rf pz_T pz_R _ hI _
            · exfalso
              omega
  have ha3 := (sp_mon_is hP hmo).mp (sp_rest_is hP (hw.2 a ha_).1 hok (by omega))
  have h13 := (sp_mon_is hP hmo).mp (sp_rest_is hP (sp_one_ok hP2) hok (by omega))
  have e514 : σ5 14 = sp_rest P (σ a) (sp_mon P (σ m0)) := by rw [s5 14 (by decide) (by decide), e414]
  refine loop n0 hn0 σ5 w5 ?_ ?_ ?_ ?_ ?_ ls _ _ hl hW
  · exact st_sm_tr (st_sm_tr (st_sm_tr (st_sm_po σ 12 _) s3 (Z := [2, 4, 6, 12, 14, 16]) (by decide) (by decide)) (st_sm_po _ 16 _) (Z := [2, 4, 6, 12, 14, 16]) (fun _ h => h) (by decide)) s5 (fun _ h => h) (by decide)
  · rw [s5 12 (by decide) (by decide), e412]
  · rw [e5, ← hsm]
    exact h13.2.1
  · rw [e514, ← hsm]
    exact ha3.2.1
  · rw [e514, e5]
    have h4 := @ag_ml pz_T pz_R _ hI _ _ _ _ h13.2.2 (@ag_pw pz_T pz_R _ hI _ _ ha3.2.2 n0)
    rw [sp_one_pe] at h4
    have e1 : pz_ml (pz_ct 1) (pz_pw (pe_f (σ a)) n0) = pz_pw (pe_f (σ a)) n0 := pz_R.one_mul _
    refine @ag_tr pz_T pz_R _ hI _ _ _ h4 (@ag_of_eq pz_T pz_R _ hI _ _ e1)
