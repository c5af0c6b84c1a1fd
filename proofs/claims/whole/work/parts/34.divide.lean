/-! Ring: divideLong -/
theorem st_up_rw {σ : st_T} {r i v j : Nat} {f : Nat → Nat} (h : r ≠ j) : st_up (st_rw σ j f) r i v = st_rw (st_up σ r i v) j f := funext (fun a => funext (fun b => by
  unfold st_up st_rw
  by_cases h1 : a = r
  · have h2 : ¬ a = j := by omega
    simp only [if_pos h1, if_neg h2]
  · simp only [if_neg h1]))
theorem st_po_comm {σ : st_T} {i j : Nat} {f h : Nat → Nat} (hij : i ≠ j) (hi : i ≠ 200) (hj : j ≠ 200) : st_po (st_po σ i f) j h = st_po (st_po σ j h) i f := funext (fun a => funext (fun b => by
  unfold st_po
  by_cases h1 : a = j
  · rw [if_pos h1, if_neg (by omega), if_neg (by omega), if_pos h1]
  · rw [if_neg h1]
    by_cases h2 : a = i
    · rw [if_neg (by omega), if_pos h2, if_pos h2]
    · rw [if_neg h2, if_neg h2, if_neg h1]
      by_cases h3 : a = 200 ∧ b = j
      · rw [if_pos h3, if_neg (by omega), if_pos h3]
      · rw [if_neg h3, if_neg h3]))
theorem sd_sT {a b : Nat} (ha : a ≤ 31) (hb : b ≤ 31) : (sd_i a - sd_i b).toInt = (a : Int) - b := by
  rw [Int32.toInt_sub, sd_T (by omega), sd_T (by omega), Int.bmod_def]
  omega
theorem sd_sub {a b : Nat} (ha : a ≤ 31) (hb : b ≤ 31) (h : b ≤ a + 1) : sd_i a - sd_i b = sd_i (a + 1 - b) := Int32.toInt_inj.mp (by
  rw [sd_sT ha hb, sd_T (by omega)]
  omega)
theorem lc_z : lg_cmp (lN 0) (lN 0) = nI 0 := by decide
theorem lc_p {q : Nat} (h0 : q ≠ 0) (h : q < 2 ^ 63) : lg_cmp (lN q) (lN 0) = nI 1 := by
  unfold lg_cmp
  rw [if_pos (show lN q > lN 0 from (pk_lLT (by omega) h).mpr (by omega))]
  rfl
theorem sp_st1_0 {P : Nat} {b u : Nat → Nat} {n s : Nat} (hu : ∀ i, u i < P) : sp_st1 P b n s 0 u = u := funext (fun i => by
  unfold sp_st1
  split
  · rw [Nat.sub_zero, Nat.add_mul_mod_self_left, Nat.mod_eq_of_lt (hu i)]
  · rfl)
theorem sp_st1_row (P : Nat) (b u : Nat → Nat) (n s q : Nat) : sp_st1 P b n s q u = lp_row P u b (P - q) s (n + 1) := funext (fun i => by
  unfold sp_st1 lp_row
  by_cases h : s ≤ i ∧ i ≤ s + n
  · rw [if_pos h, if_pos (by omega)]
  · rw [if_neg h, if_neg (by omega)])
theorem dm_Ring_divideLong_0 : decode bm_Ring_divideLong 0 = .ok (.aload_n 0, 1) := by decide +kernel
theorem dm_Ring_divideLong_1 : decode bm_Ring_divideLong 1 = .ok (.getfield 18, 3) := by decide +kernel
theorem dm_Ring_divideLong_4 : decode bm_Ring_divideLong 4 = .ok (.aload_n 1, 1) := by decide +kernel
theorem dm_Ring_divideLong_5 : decode bm_Ring_divideLong 5 = .ok (.invokevirtual 76, 3) := by decide +kernel
theorem dm_Ring_divideLong_8 : decode bm_Ring_divideLong 8 = .ok (.aload_n 0, 1) := by decide +kernel
theorem dm_Ring_divideLong_9 : decode bm_Ring_divideLong 9 = .ok (.getfield 21, 3) := by decide +kernel
theorem dm_Ring_divideLong_12 : decode bm_Ring_divideLong 12 = .ok (.invokevirtual 98, 3) := by decide +kernel
theorem dm_Ring_divideLong_15 : decode bm_Ring_divideLong 15 = .ok (.aload_n 0, 1) := by decide +kernel
theorem dm_Ring_divideLong_16 : decode bm_Ring_divideLong 16 = .ok (.aload_n 2, 1) := by decide +kernel
theorem dm_Ring_divideLong_17 : decode bm_Ring_divideLong 17 = .ok (.invokevirtual 60, 3) := by decide +kernel
theorem dm_Ring_divideLong_20 : decode bm_Ring_divideLong 20 = .ok (.invokevirtual 64, 3) := by decide +kernel
theorem dm_Ring_divideLong_23 : decode bm_Ring_divideLong 23 = .ok (.istore_n 3, 1) := by decide +kernel
theorem dm_Ring_divideLong_24 : decode bm_Ring_divideLong 24 = .ok (.aload_n 1, 1) := by decide +kernel
theorem dm_Ring_divideLong_25 : decode bm_Ring_divideLong 25 = .ok (.getfield 43, 3) := by decide +kernel
theorem dm_Ring_divideLong_28 : decode bm_Ring_divideLong 28 = .ok (.aload_n 2, 1) := by decide +kernel
theorem dm_Ring_divideLong_29 : decode bm_Ring_divideLong 29 = .ok (.getfield 43, 3) := by decide +kernel
theorem dm_Ring_divideLong_32 : decode bm_Ring_divideLong 32 = .ok (.isub, 1) := by decide +kernel
theorem dm_Ring_divideLong_33 : decode bm_Ring_divideLong 33 = .ok (.istore 4, 2) := by decide +kernel
theorem dm_Ring_divideLong_35 : decode bm_Ring_divideLong 35 = .ok (.iload 4, 2) := by decide +kernel
theorem dm_Ring_divideLong_37 : decode bm_Ring_divideLong 37 = .ok (.ifCond .lt 130, 3) := by decide +kernel
theorem dm_Ring_divideLong_40 : decode bm_Ring_divideLong 40 = .ok (.aload_n 0, 1) := by decide +kernel
theorem dm_Ring_divideLong_41 : decode bm_Ring_divideLong 41 = .ok (.getfield 18, 3) := by decide +kernel
theorem dm_Ring_divideLong_44 : decode bm_Ring_divideLong 44 = .ok (.getfield 46, 3) := by decide +kernel
theorem dm_Ring_divideLong_47 : decode bm_Ring_divideLong 47 = .ok (.iload 4, 2) := by decide +kernel
theorem dm_Ring_divideLong_49 : decode bm_Ring_divideLong 49 = .ok (.aload_n 2, 1) := by decide +kernel
theorem dm_Ring_divideLong_50 : decode bm_Ring_divideLong 50 = .ok (.getfield 43, 3) := by decide +kernel
theorem dm_Ring_divideLong_53 : decode bm_Ring_divideLong 53 = .ok (.iadd, 1) := by decide +kernel
theorem dm_Ring_divideLong_54 : decode bm_Ring_divideLong 54 = .ok (.iaload, 1) := by decide +kernel
theorem dm_Ring_divideLong_55 : decode bm_Ring_divideLong 55 = .ok (.i2l, 1) := by decide +kernel
theorem dm_Ring_divideLong_56 : decode bm_Ring_divideLong 56 = .ok (.iload_n 3, 1) := by decide +kernel
theorem dm_Ring_divideLong_57 : decode bm_Ring_divideLong 57 = .ok (.i2l, 1) := by decide +kernel
theorem dm_Ring_divideLong_58 : decode bm_Ring_divideLong 58 = .ok (.lmul, 1) := by decide +kernel
theorem dm_Ring_divideLong_59 : decode bm_Ring_divideLong 59 = .ok (.aload_n 0, 1) := by decide +kernel
theorem dm_Ring_divideLong_60 : decode bm_Ring_divideLong 60 = .ok (.getfield 39, 3) := by decide +kernel
theorem dm_Ring_divideLong_63 : decode bm_Ring_divideLong 63 = .ok (.i2l, 1) := by decide +kernel
theorem dm_Ring_divideLong_64 : decode bm_Ring_divideLong 64 = .ok (.lrem, 1) := by decide +kernel
theorem dm_Ring_divideLong_65 : decode bm_Ring_divideLong 65 = .ok (.lstore 5, 2) := by decide +kernel
theorem dm_Ring_divideLong_67 : decode bm_Ring_divideLong 67 = .ok (.aload_n 0, 1) := by decide +kernel
theorem dm_Ring_divideLong_68 : decode bm_Ring_divideLong 68 = .ok (.getfield 21, 3) := by decide +kernel
theorem dm_Ring_divideLong_71 : decode bm_Ring_divideLong 71 = .ok (.getfield 46, 3) := by decide +kernel
theorem dm_Ring_divideLong_74 : decode bm_Ring_divideLong 74 = .ok (.iload 4, 2) := by decide +kernel
theorem dm_Ring_divideLong_76 : decode bm_Ring_divideLong 76 = .ok (.lload 5, 2) := by decide +kernel
theorem dm_Ring_divideLong_78 : decode bm_Ring_divideLong 78 = .ok (.l2i, 1) := by decide +kernel
theorem dm_Ring_divideLong_79 : decode bm_Ring_divideLong 79 = .ok (.iastore, 1) := by decide +kernel
theorem dm_Ring_divideLong_80 : decode bm_Ring_divideLong 80 = .ok (.aload_n 0, 1) := by decide +kernel
theorem dm_Ring_divideLong_81 : decode bm_Ring_divideLong 81 = .ok (.getfield 39, 3) := by decide +kernel
theorem dm_Ring_divideLong_84 : decode bm_Ring_divideLong 84 = .ok (.i2l, 1) := by decide +kernel
theorem dm_Ring_divideLong_85 : decode bm_Ring_divideLong 85 = .ok (.lload 5, 2) := by decide +kernel
theorem dm_Ring_divideLong_87 : decode bm_Ring_divideLong 87 = .ok (.lsub, 1) := by decide +kernel
theorem dm_Ring_divideLong_88 : decode bm_Ring_divideLong 88 = .ok (.lstore 7, 2) := by decide +kernel
theorem dm_Ring_divideLong_90 : decode bm_Ring_divideLong 90 = .ok (.iconst 0, 1) := by decide +kernel
theorem dm_Ring_divideLong_91 : decode bm_Ring_divideLong 91 = .ok (.istore 9, 2) := by decide +kernel
theorem dm_Ring_divideLong_93 : decode bm_Ring_divideLong 93 = .ok (.lload 5, 2) := by decide +kernel
theorem dm_Ring_divideLong_95 : decode bm_Ring_divideLong 95 = .ok (.lconst 0, 1) := by decide +kernel
theorem dm_Ring_divideLong_96 : decode bm_Ring_divideLong 96 = .ok (.lcmp, 1) := by decide +kernel
theorem dm_Ring_divideLong_97 : decode bm_Ring_divideLong 97 = .ok (.ifCond .eq 64, 3) := by decide +kernel
theorem dm_Ring_divideLong_100 : decode bm_Ring_divideLong 100 = .ok (.iload 9, 2) := by decide +kernel
theorem dm_Ring_divideLong_102 : decode bm_Ring_divideLong 102 = .ok (.aload_n 2, 1) := by decide +kernel
theorem dm_Ring_divideLong_103 : decode bm_Ring_divideLong 103 = .ok (.getfield 43, 3) := by decide +kernel
theorem dm_Ring_divideLong_106 : decode bm_Ring_divideLong 106 = .ok (.if_icmp .gt 55, 3) := by decide +kernel
theorem dm_Ring_divideLong_109 : decode bm_Ring_divideLong 109 = .ok (.aload_n 0, 1) := by decide +kernel
theorem dm_Ring_divideLong_110 : decode bm_Ring_divideLong 110 = .ok (.getfield 18, 3) := by decide +kernel
theorem dm_Ring_divideLong_113 : decode bm_Ring_divideLong 113 = .ok (.getfield 46, 3) := by decide +kernel
theorem dm_Ring_divideLong_116 : decode bm_Ring_divideLong 116 = .ok (.iload 4, 2) := by decide +kernel
theorem dm_Ring_divideLong_118 : decode bm_Ring_divideLong 118 = .ok (.iload 9, 2) := by decide +kernel
theorem dm_Ring_divideLong_120 : decode bm_Ring_divideLong 120 = .ok (.iadd, 1) := by decide +kernel
theorem dm_Ring_divideLong_121 : decode bm_Ring_divideLong 121 = .ok (.aload_n 0, 1) := by decide +kernel
theorem dm_Ring_divideLong_122 : decode bm_Ring_divideLong 122 = .ok (.getfield 18, 3) := by decide +kernel
theorem dm_Ring_divideLong_125 : decode bm_Ring_divideLong 125 = .ok (.getfield 46, 3) := by decide +kernel
theorem dm_Ring_divideLong_128 : decode bm_Ring_divideLong 128 = .ok (.iload 4, 2) := by decide +kernel
theorem dm_Ring_divideLong_130 : decode bm_Ring_divideLong 130 = .ok (.iload 9, 2) := by decide +kernel
theorem dm_Ring_divideLong_132 : decode bm_Ring_divideLong 132 = .ok (.iadd, 1) := by decide +kernel
theorem dm_Ring_divideLong_133 : decode bm_Ring_divideLong 133 = .ok (.iaload, 1) := by decide +kernel
theorem dm_Ring_divideLong_134 : decode bm_Ring_divideLong 134 = .ok (.i2l, 1) := by decide +kernel
theorem dm_Ring_divideLong_135 : decode bm_Ring_divideLong 135 = .ok (.lload 7, 2) := by decide +kernel
theorem dm_Ring_divideLong_137 : decode bm_Ring_divideLong 137 = .ok (.aload_n 2, 1) := by decide +kernel
theorem dm_Ring_divideLong_138 : decode bm_Ring_divideLong 138 = .ok (.getfield 46, 3) := by decide +kernel
theorem dm_Ring_divideLong_141 : decode bm_Ring_divideLong 141 = .ok (.iload 9, 2) := by decide +kernel
theorem dm_Ring_divideLong_143 : decode bm_Ring_divideLong 143 = .ok (.iaload, 1) := by decide +kernel
theorem dm_Ring_divideLong_144 : decode bm_Ring_divideLong 144 = .ok (.i2l, 1) := by decide +kernel
theorem dm_Ring_divideLong_145 : decode bm_Ring_divideLong 145 = .ok (.lmul, 1) := by decide +kernel
theorem dm_Ring_divideLong_146 : decode bm_Ring_divideLong 146 = .ok (.ladd, 1) := by decide +kernel
theorem dm_Ring_divideLong_147 : decode bm_Ring_divideLong 147 = .ok (.aload_n 0, 1) := by decide +kernel
theorem dm_Ring_divideLong_148 : decode bm_Ring_divideLong 148 = .ok (.getfield 39, 3) := by decide +kernel
theorem dm_Ring_divideLong_151 : decode bm_Ring_divideLong 151 = .ok (.i2l, 1) := by decide +kernel
theorem dm_Ring_divideLong_152 : decode bm_Ring_divideLong 152 = .ok (.lrem, 1) := by decide +kernel
theorem dm_Ring_divideLong_153 : decode bm_Ring_divideLong 153 = .ok (.l2i, 1) := by decide +kernel
theorem dm_Ring_divideLong_154 : decode bm_Ring_divideLong 154 = .ok (.iastore, 1) := by decide +kernel
theorem dm_Ring_divideLong_155 : decode bm_Ring_divideLong 155 = .ok (.iinc 9 1, 3) := by decide +kernel
theorem dm_Ring_divideLong_158 : decode bm_Ring_divideLong 158 = .ok (.goto (-65), 3) := by decide +kernel
theorem dm_Ring_divideLong_161 : decode bm_Ring_divideLong 161 = .ok (.iinc 4 (-1), 3) := by decide +kernel
theorem dm_Ring_divideLong_164 : decode bm_Ring_divideLong 164 = .ok (.goto (-129), 3) := by decide +kernel
theorem dm_Ring_divideLong_167 : decode bm_Ring_divideLong 167 = .ok (.aload_n 0, 1) := by decide +kernel
theorem dm_Ring_divideLong_168 : decode bm_Ring_divideLong 168 = .ok (.getfield 18, 3) := by decide +kernel
theorem dm_Ring_divideLong_171 : decode bm_Ring_divideLong 171 = .ok (.invokevirtual 50, 3) := by decide +kernel
theorem dm_Ring_divideLong_174 : decode bm_Ring_divideLong 174 = .ok (.aload_n 0, 1) := by decide +kernel
theorem dm_Ring_divideLong_175 : decode bm_Ring_divideLong 175 = .ok (.getfield 21, 3) := by decide +kernel
theorem dm_Ring_divideLong_178 : decode bm_Ring_divideLong 178 = .ok (.invokevirtual 50, 3) := by decide +kernel
theorem dm_Ring_divideLong_181 : decode bm_Ring_divideLong 181 = .ok (.return_, 1) := by decide +kernel
set_option maxHeartbeats 4000000 in
set_option maxRecDepth 100000 in
theorem mm_Ring_divideLong (l : Launch) (D : va_G) (k : ClassId × ClassId × ClassId) (g : Nat → Nat) (σ : st_T) {P a b : Nat} (hw : st_wf P σ) (hP : ag_pr P) (hP31 : P < 2147483648) (h2 : kd_k a = 0) (h3 : kd_k b = 0) (ha4 : a ≠ 4) (ha6 : a ≠ 6) (hb4 : b ≠ 4) (hb6 : b ≠ 6) (hs : 0 < σ 200 b) : mt_V l D k g ym_Ring_divideLong wm_Ring_divideLong rm_Ring_divideLong [.ref (g 1), .ref (g a), .ref (g b)] σ (fun σ1 => σ1 = st_po (st_po σ 4 (sp_rest P (σ a) (σ b))) 6 (sp_quo P (σ a) (σ b))) := by
  refine ct_V_in (cc := bm_Ring_divideLong) (maxL := 10) (by decide) rfl (Nat.le_of_ble_eq_true rfl) ?_
  intro p e s m args below meth c A ls Q S hl hW hret
  have S : pw_S p m c bm_Ring_divideLong 10 s args wa_g rc_Ring D cl_s (ty_s k) := S
  have hx := S.1.1
  have hb := S.1.2.1
  have hl : lv_has ls 10 [(0, .ref (g (1))), (1, .ref (g (a))), (2, .ref (g (b)))] := hl
  have hP2 := hP.1
  have k2 := kd_po h2
  have k3 := kd_po h3
  have za := st_wf_sz hw h2
  have zb := st_wf_sz hw h3
  have hp0 : 0 < P := by omega
  have hwZ : st_wf P (st_po (st_po σ 4 (σ a)) 6 (fun _ => 0)) := st_wf_po (st_wf_po hw (j := 4) rfl (hw.2 a h2).1) (j := 6) rfl (sp_z_ok hp0)
  have hZb : (st_po (st_po σ 4 (σ a)) 6 (fun _ => 0)) b = σ b := by rw [st_po_row hb6 (by omega), st_po_row hb4 (by omega)]
  have hZsb : (st_po (st_po σ 4 (σ a)) 6 (fun _ => 0)) 200 b = σ 200 b := by rw [st_po_sz2 (by omega) hb6, st_po_sz2 (by omega) hb4]
  have hZsa : (st_po (st_po σ 4 (σ a)) 6 (fun _ => 0)) 200 a = σ 200 a := by rw [st_po_sz2 (by omega) ha6, st_po_sz2 (by omega) ha4]
  have qb : ∀ L O i, st_rw (st_rw (st_po (st_po σ 4 (σ a)) 6 (fun _ => 0)) 4 L) 6 O b i = σ b i := fun L O i => by rw [st_rw_row hb6, st_rw_row hb4, hZb]
  have sb : ∀ L O, st_rw (st_rw (st_po (st_po σ 4 (σ a)) 6 (fun _ => 0)) 4 L) 6 O 200 b = σ 200 b := fun L O => by rw [st_rw_row (by omega), st_rw_row (by omega), hZsb]
  have q4 : ∀ L O, st_rw (st_rw (st_po (st_po σ 4 (σ a)) 6 (fun _ => 0)) 4 L) 6 O 4 = L := fun L O => by rw [st_rw_row (by omega), st_rw_at]
  have qp : ∀ L O, st_rw (st_rw (st_po (st_po σ 4 (σ a)) 6 (fun _ => 0)) 4 L) 6 O 203 0 = P := fun L O => by rw [st_rw_row (by omega), st_rw_row (by omega)]; exact hwZ.1
  have hlead : st_ld (st_po (st_po σ 4 (σ a)) 6 (fun _ => 0)) b = σ b (σ 200 b - 1) := by unfold st_ld; rw [hZsb, if_neg (by omega), hZb]
  refine lv_aload_n hx hb dm_Ring_divideLong_0 rfl (lv_at hl 0 rfl) ?_
  refine rg_left S hW (wa_in 65 (by decide +kernel) rfl) dm_Ring_divideLong_1 ?_
  refine lv_aload_n hx hb dm_Ring_divideLong_4 rfl (lv_at hl 1 rfl) ?_
  refine pw_callV (rest := []) S hW (mm_Poly_copyFrom l D k g σ hw h2 (j := 4) rfl) (cv_Ring_76 S.1.2.2.2.2 ⟨by decide, by decide⟩) (kd_p1 rfl) (en_k0 rfl) rfl rfl hl.1 rfl (lv_room (Nat.le_of_ble_eq_true rfl)) ⟨Nat.zero_le _, Nat.zero_le _⟩ dm_Ring_divideLong_5 (fun σ1 H locs hp hW => ?_)
  rw [hp] at hW
  refine lv_aload_n hx hb dm_Ring_divideLong_8 rfl (lv_at hl 0 rfl) ?_
  refine rg_over S hW (wa_in 66 (by decide +kernel) rfl) dm_Ring_divideLong_9 ?_
  refine pw_callV (rest := []) S hW (mm_Poly_clear l D k g (st_po σ 4 (σ a)) (j := 6) rfl) (cv_Ring_98 S.1.2.2.2.2 ⟨by decide, by decide⟩) (kd_p1 rfl) (en_k0 rfl) rfl rfl hl.1 rfl (lv_room (Nat.le_of_ble_eq_true rfl)) ⟨Nat.zero_le _, Nat.zero_le _⟩ dm_Ring_divideLong_12 (fun σ1 H locs hp hW => ?_)
  rw [hp, st_cl_po (st_wf_po hw (j := 4) rfl (hw.2 a h2).1) (j := 6) rfl] at hW
  refine lv_aload_n hx hb dm_Ring_divideLong_15 rfl (lv_at hl 0 rfl) ?_
  refine lv_aload_n hx hb dm_Ring_divideLong_16 rfl (lv_at hl 2 rfl) ?_
  refine pw_callVI (rest := [.ref (g (1))]) S hW (mm_Poly_lead l D k g (st_po (st_po σ 4 (σ a)) 6 (fun _ => 0)) h3 (by rw [hZsb]; exact zb)) (cv_Ring_60 S.1.2.2.2.2 ⟨by decide, by decide⟩) (kd_p1 h3) (en_k0 h3) rfl rfl hl.1 rfl (lv_room (Nat.le_of_ble_eq_true rfl)) ⟨Nat.zero_le _, Nat.zero_le _⟩ dm_Ring_divideLong_17 (fun r σ1 H locs hp hW => ?_)
  obtain ⟨hr, hp⟩ := hp
  rw [hp] at hW
  subst hr
  rw [hlead]
  have hlt := st_wf_lt hw h3 (σ 200 b - 1)
  refine pw_callVI (rest := []) S hW (mm_Ring_reciprocal l D k g (st_po (st_po σ 4 (σ a)) 6 (fun _ => 0)) hwZ hP2 hP31 hlt) (cv_Ring_64 S.1.2.2.2.2 ⟨by decide, by decide⟩) (by decide) en_Ring rfl rfl hl.1 rfl (lv_room (Nat.le_of_ble_eq_true rfl)) ⟨Nat.zero_le _, Nat.zero_le _⟩ dm_Ring_divideLong_20 (fun r σ1 H locs hp hW => ?_)
  obtain ⟨hr, hp⟩ := hp
  rw [hp] at hW
  subst hr
  have hwlt : sp_inv P (σ b (σ 200 b - 1)) < P := Nat.mod_lt _ hp0
  refine lv_istore_n hx hb dm_Ring_divideLong_23 rfl hl (by decide) rfl (fun ls hl => ?_)
  have hl : lv_has ls 10 [(3, .int (nI (sp_inv P (σ b (σ 200 b - 1))))), (0, .ref (g (1))), (1, .ref (g (a))), (2, .ref (g (b)))] := hl
  refine lv_aload_n hx hb dm_Ring_divideLong_24 rfl (lv_at hl 2 rfl) ?_
  refine po_getd S hW h2 (wa_in 49 (by decide +kernel) rfl) dm_Ring_divideLong_25 ?_
  rw [hZsa]
  refine lv_aload_n hx hb dm_Ring_divideLong_28 rfl (lv_at hl 3 rfl) ?_
  refine po_getd S hW h3 (wa_in 49 (by decide +kernel) rfl) dm_Ring_divideLong_29 ?_
  rw [hZsb]
  refine lv_isub hx hb dm_Ring_divideLong_32 ?_
  have hdv : sp_div P (σ b) (σ 200 b - 1) (sp_inv P (σ b (σ 200 b - 1))) (σ 200 a + 1 - σ 200 b) (σ a) (fun _ => 0) = sp_dv P (σ a) (σ b) := by unfold sp_dv; rw [(hw.2 a h2).2, (hw.2 b h3).2]
  have hZX : st_rw (st_rw (st_po (st_po σ 4 (σ a)) 6 (fun _ => 0)) 4 (σ a)) 6 (fun _ => 0) = st_po (st_po σ 4 (σ a)) 6 (fun _ => 0) := by rw [st_rw_id (show st_rw (st_po (st_po σ 4 (σ a)) 6 (fun _ => 0)) 4 (σ a) 6 = _ from by rw [st_rw_row (by omega), st_po_at]), st_rw_id (by rw [st_po_row (by omega) (by omega), st_po_at])]
  have fin : ∀ L O, (∀ i, L i < P) → (∀ i, O i < P) → (L, O) = sp_dv P (σ a) (σ b) → ∀ (ls : Array Slot) (H : Heap) (locs : List Loc), lv_has ls 10 [(0, .ref (g (1)))] → pw_H D cl_s A s.heap g 153 (en_s k g (st_rw (st_rw (st_po (st_po σ 4 (σ a)) 6 (fun _ => 0)) 4 (L)) 6 (O))) H locs → W p l e rm_Ring_divideLong s m args below meth c H locs 0 0 Q (F0 m 167 ls []) := by
    intro L O hL hO hLO ls H locs hl hW
    refine lv_aload_n hx hb dm_Ring_divideLong_167 rfl (lv_at hl 0 rfl) ?_
    refine rg_left S hW (wa_in 65 (by decide +kernel) rfl) dm_Ring_divideLong_168 ?_
    refine pw_callV (rest := []) S hW (mm_Poly_settle l D k g (st_rw (st_rw (st_po (st_po σ 4 (σ a)) 6 (fun _ => 0)) 4 (L)) 6 (O)) (j := 4) rfl (fun i => by rw [q4]; have := hL i; omega)) (cv_Ring_50 S.1.2.2.2.2 ⟨by decide, by decide⟩) (kd_p1 rfl) (en_k0 rfl) rfl rfl hl.1 rfl (lv_room (Nat.le_of_ble_eq_true rfl)) ⟨Nat.zero_le _, Nat.zero_le _⟩ dm_Ring_divideLong_171 (fun σ1 H locs hp hW => ?_)
    rw [hp, st_up_rw (by omega), q4] at hW
    have e1 : st_up (st_rw (st_po (st_po σ 4 (σ a)) 6 (fun _ => 0)) 4 L) 200 4 (sp_sz L 31) = st_po (st_po (st_po σ 4 (σ a)) 6 (fun _ => 0)) 4 L := by
      have e2 := st_se_po (σ := st_po (st_po σ 4 (σ a)) 6 (fun _ => 0)) (τ := st_rw (st_po (st_po σ 4 (σ a)) 6 (fun _ => 0)) 4 L) (j := 4) rfl (fun a ha => st_rw_row ha)
      rwa [st_rw_at] at e2
    rw [e1] at hW
    refine lv_aload_n hx hb dm_Ring_divideLong_174 rfl (lv_at hl 0 rfl) ?_
    refine rg_over S hW (wa_in 66 (by decide +kernel) rfl) dm_Ring_divideLong_175 ?_
    refine pw_callV (rest := []) S hW (mm_Poly_settle l D k g (st_rw (st_po (st_po (st_po σ 4 (σ a)) 6 (fun _ => 0)) 4 L) 6 O) (j := 6) rfl (fun i => by rw [st_rw_at]; have := hO i; omega)) (cv_Ring_50 S.1.2.2.2.2 ⟨by decide, by decide⟩) (kd_p1 rfl) (en_k0 rfl) rfl rfl hl.1 rfl (lv_room (Nat.le_of_ble_eq_true rfl)) ⟨Nat.zero_le _, Nat.zero_le _⟩ dm_Ring_divideLong_178 (fun σ2 H locs hp2 hW => ?_)
    rw [hp2, st_se_po (σ := st_po (st_po (st_po σ 4 (σ a)) 6 (fun _ => 0)) 4 L) (j := 6) rfl (fun a ha => st_rw_row ha), st_rw_at, st_po_comm (i := 6) (j := 4) (by omega) (by omega) (by omega), st_po_po (j := 6) (by omega), st_po_po (j := 4) (by omega)] at hW
    exact hret _ _ _ _ _ dm_Ring_divideLong_181 (by unfold sp_rest sp_quo; rw [← hLO]) hW
  have loop : ∀ n L O, n + (σ 200 b - 1) ≤ 31 → (∀ i, L i < P) → (∀ i, O i < P) → sp_div P (σ b) (σ 200 b - 1) (sp_inv P (σ b (σ 200 b - 1))) n L O = sp_dv P (σ a) (σ b) → ∀ (ls : Array Slot) (H : Heap) (locs : List Loc), lv_has ls 10 [(4, .int (sd_i (n))), (3, .int (nI (sp_inv P (σ b (σ 200 b - 1))))), (0, .ref (g (1))), (1, .ref (g (a))), (2, .ref (g (b)))] → pw_H D cl_s A s.heap g 153 (en_s k g (st_rw (st_rw (st_po (st_po σ 4 (σ a)) 6 (fun _ => 0)) 4 (L)) 6 (O))) H locs → W p l e rm_Ring_divideLong s m args below meth c H locs 0 0 Q (F0 m 35 ls []) := by
    intro n
    induction n with
    | zero =>
      intro L O hn hL hO hinv ls H locs hl hW
      refine lv_iload hx hb dm_Ring_divideLong_35 (lv_at hl 0 rfl) ?_
      refine wi_if_lt (tgt := 167) S (sd_T (by omega)) dm_Ring_divideLong_37 (by decide) (fun hc => ?_) (fun hc => ?_)
      · exact fin L O hL hO hinv ls H locs (lv_sub hl [2] rfl) hW
      · exfalso
        omega
    | succ n ih =>
      intro L O hn hL hO hinv ls H locs hl hW
      refine lv_iload hx hb dm_Ring_divideLong_35 (lv_at hl 0 rfl) ?_
      refine wi_if_lt (tgt := 167) S (sd_T (by omega)) dm_Ring_divideLong_37 (by decide) (fun hc => ?_) (fun hc => ?_)
      · exfalso
        omega
      · rw [sd_s] at hl
        have e1 := hL (n + (σ 200 b - 1))
        have hm := nn_mul (show L (n + (σ 200 b - 1)) < 2147483648 by omega) (show sp_inv P (σ b (σ 200 b - 1)) < 2147483648 by omega)
        refine lv_aload_n hx hb dm_Ring_divideLong_40 rfl (lv_at hl 2 rfl) ?_
        refine rg_left S hW (wa_in 65 (by decide +kernel) rfl) dm_Ring_divideLong_41 ?_
        refine po_getc S hW rfl (wa_in 41 (by decide +kernel) rfl) dm_Ring_divideLong_44 ?_
        refine lv_iload hx hb dm_Ring_divideLong_47 (lv_at hl 0 rfl) ?_
        refine lv_aload_n hx hb dm_Ring_divideLong_49 rfl (lv_at hl 4 rfl) ?_
        refine po_getd S hW h3 (wa_in 49 (by decide +kernel) rfl) dm_Ring_divideLong_50 ?_
        rw [sb]
        rw [sd_n (show 0 < σ 200 b by omega)]
        refine wn_iadd S dm_Ring_divideLong_53 ?_
        refine po_ald S hW rfl (by omega) dm_Ring_divideLong_54 ?_
        rw [q4]
        refine wn_i2l S (by omega) dm_Ring_divideLong_55 ?_
        refine lv_iload_n hx hb dm_Ring_divideLong_56 rfl (lv_at hl 1 rfl) ?_
        refine wn_i2l S (by omega) dm_Ring_divideLong_57 ?_
        refine wn_lmul S dm_Ring_divideLong_58 ?_
        refine lv_aload_n hx hb dm_Ring_divideLong_59 rfl (lv_at hl 2 rfl) ?_
        refine rg_p S hW (wa_in 59 (by decide +kernel) rfl) dm_Ring_divideLong_60 ?_
        rw [qp]
        refine wn_i2l S (by omega) dm_Ring_divideLong_63 ?_
        refine wn_lrem S (by omega) (by omega) (by omega) dm_Ring_divideLong_64 ?_
        have hqe : ∃ q, q = L (n + (σ 200 b - 1)) * sp_inv P (σ b (σ 200 b - 1)) % P := ⟨_, rfl⟩
        obtain ⟨q, hq⟩ := hqe
        have hqP : q < P := by rw [hq]; exact Nat.mod_lt _ hp0
        rw [← hq]
        have hinv2 : sp_div P (σ b) (σ 200 b - 1) (sp_inv P (σ b (σ 200 b - 1))) n (sp_st1 P (σ b) (σ 200 b - 1) n q L) (va_up O n q) = sp_dv P (σ a) (σ b) := by rw [hq]; exact hinv
        have hO2 : ∀ i, va_up O n q i < P := fun i => by unfold va_up; split; exact hqP; exact hO i
        refine lv_lstore hx hb dm_Ring_divideLong_65 hl (by decide) rfl (fun ls hl => ?_)
        have hl : lv_has ls 10 [(5, .long (lN (q))), (4, .int (nI (n))), (3, .int (nI (sp_inv P (σ b (σ 200 b - 1))))), (0, .ref (g (1))), (1, .ref (g (a))), (2, .ref (g (b)))] := hl
        refine lv_aload_n hx hb dm_Ring_divideLong_67 rfl (lv_at hl 3 rfl) ?_
        refine rg_over S hW (wa_in 66 (by decide +kernel) rfl) dm_Ring_divideLong_68 ?_
        refine po_getc S hW rfl (wa_in 41 (by decide +kernel) rfl) dm_Ring_divideLong_71 ?_
        refine lv_iload hx hb dm_Ring_divideLong_74 (lv_at hl 1 rfl) ?_
        refine lv_lload hx hb dm_Ring_divideLong_76 (lv_at hl 0 rfl) ?_
        refine wn_l2i S dm_Ring_divideLong_78 ?_
        refine po_ast S hW rfl (by omega) dm_Ring_divideLong_79 (fun H locs hW => ?_)
        rw [st_rw_up] at hW
        refine lv_aload_n hx hb dm_Ring_divideLong_80 rfl (lv_at hl 3 rfl) ?_
        refine rg_p S hW (wa_in 59 (by decide +kernel) rfl) dm_Ring_divideLong_81 ?_
        rw [qp]
        refine wn_i2l S (by omega) dm_Ring_divideLong_84 ?_
        refine lv_lload hx hb dm_Ring_divideLong_85 (lv_at hl 0 rfl) ?_
        refine wn_lsub S (by omega) dm_Ring_divideLong_87 ?_
        refine lv_lstore hx hb dm_Ring_divideLong_88 hl (by decide) rfl (fun ls hl => ?_)
        have hl : lv_has ls 10 [(7, .long (lN ((P) - (q)))), (5, .long (lN (q))), (4, .int (nI (n))), (3, .int (nI (sp_inv P (σ b (σ 200 b - 1))))), (0, .ref (g (1))), (1, .ref (g (a))), (2, .ref (g (b)))] := hl
        refine lv_iconst (v := nI (0)) hx hb dm_Ring_divideLong_90 (by decide) ?_
        refine lv_istore hx hb dm_Ring_divideLong_91 hl (by decide) rfl (fun ls hl => ?_)
        have hl : lv_has ls 10 [(9, .int (nI (0))), (7, .long (lN ((P) - (q)))), (5, .long (lN (q))), (4, .int (nI (n))), (3, .int (nI (sp_inv P (σ b (σ 200 b - 1))))), (0, .ref (g (1))), (1, .ref (g (a))), (2, .ref (g (b)))] := hl
        have hl : lv_has ls 10 [(9, .int (nI (0))), (7, .long (lN ((P) - (q)))), (5, .long (lN (q))), (4, .int (nI (n))), (3, .int (nI (sp_inv P (σ b (σ 200 b - 1))))), (0, .ref (g (1))), (1, .ref (g (a))), (2, .ref (g (b)))] := lv_sub hl [0, 1, 2, 3, 4, 5, 6, 7] rfl
        have back : ∀ (ls : Array Slot) (H : Heap) (locs : List Loc), lv_has ls 10 [(4, .int (nI (n))), (3, .int (nI (sp_inv P (σ b (σ 200 b - 1))))), (0, .ref (g (1))), (1, .ref (g (a))), (2, .ref (g (b)))] → pw_H D cl_s A s.heap g 153 (en_s k g (st_rw (st_rw (st_po (st_po σ 4 (σ a)) 6 (fun _ => 0)) 4 (sp_st1 P (σ b) (σ 200 b - 1) n q L)) 6 (va_up O n q))) H locs → W p l e rm_Ring_divideLong s m args below meth c H locs 0 0 Q (F0 m 161 ls []) := by
          intro ls H locs hl hW
          refine lv_iinc (k := 0) (v := sd_i n) hx hb dm_Ring_divideLong_161 hl rfl (by rw [← sd_s]; exact sd_m1 n) (by decide) rfl (fun ls hl => ?_)
          have hl : lv_has ls 10 [(4, .int (sd_i (n))), (3, .int (nI (sp_inv P (σ b (σ 200 b - 1))))), (0, .ref (g (1))), (1, .ref (g (a))), (2, .ref (g (b)))] := hl
          refine lv_goto (tgt := 35) hx hb dm_Ring_divideLong_164 (by decide) ?_
          exact ih _ _ (by omega) (fun i => by rw [sp_st1_row]; exact lp_row_lt hp0 hL i) hO2 hinv2 ls H locs hl hW
        by_cases hq0 : q = 0
        · have hst : sp_st1 P (σ b) (σ 200 b - 1) n q L = L := by rw [hq0]; exact sp_st1_0 hL
          refine lv_lload hx hb dm_Ring_divideLong_93 (lv_at hl 2 rfl) ?_
          refine lv_lconst (v := lN (0)) hx hb dm_Ring_divideLong_95 (by decide) ?_
          refine W.lcmp hx hb dm_Ring_divideLong_96 ?_
          rw [show lg_cmp (lN q) (lN 0) = nI 0 by rw [hq0]; exact lc_z]
          refine wi_if_eq (tgt := 161) S (nn_T (by omega)) dm_Ring_divideLong_97 (by decide) (fun hc => ?_) (fun hc => ?_)
          · refine back ls H locs (lv_sub hl [3, 4, 5, 6, 7] rfl) ?_
            rw [hst]
            exact hW
          · exfalso
            omega
        · have inner : ∀ dj j, j + dj = σ 200 b → ∀ (ls : Array Slot) (H : Heap) (locs : List Loc), lv_has ls 10 [(9, .int (nI (j))), (7, .long (lN (P - q))), (5, .long (lN (q))), (4, .int (nI (n))), (3, .int (nI (sp_inv P (σ b (σ 200 b - 1))))), (0, .ref (g (1))), (1, .ref (g (a))), (2, .ref (g (b)))] → pw_H D cl_s A s.heap g 153 (en_s k g (st_rw (st_rw (st_po (st_po σ 4 (σ a)) 6 (fun _ => 0)) 4 (lp_row P L (σ b) (P - q) n j)) 6 (va_up O n q))) H locs → W p l e rm_Ring_divideLong s m args below meth c H locs 0 0 Q (F0 m 93 ls []) := by
            intro dj
            induction dj with
            | zero =>
              intro j hj ls H locs hl hW
              refine lv_lload hx hb dm_Ring_divideLong_93 (lv_at hl 2 rfl) ?_
              refine lv_lconst (v := lN (0)) hx hb dm_Ring_divideLong_95 (by decide) ?_
              refine W.lcmp hx hb dm_Ring_divideLong_96 ?_
              rw [lc_p hq0 (by omega)]
              refine wi_if_eq (tgt := 161) S (nn_T (by omega)) dm_Ring_divideLong_97 (by decide) (fun hc => ?_) (fun hc => ?_)
              · exfalso
                omega
              · refine lv_iload hx hb dm_Ring_divideLong_100 (lv_at hl 0 rfl) ?_
                refine lv_aload_n hx hb dm_Ring_divideLong_102 rfl (lv_at hl 7 rfl) ?_
                refine po_getd S hW h3 (wa_in 49 (by decide +kernel) rfl) dm_Ring_divideLong_103 ?_
                rw [sb]
                refine wi_icmp_gt (tgt := 161) S (nn_T (by omega)) (sd_T (by omega)) dm_Ring_divideLong_106 (by decide) (fun hc => ?_) (fun hc => ?_)
                · refine back ls H locs (lv_sub hl [3, 4, 5, 6, 7] rfl) ?_
                  rw [sp_st1_row, show σ 200 b - 1 + 1 = j by omega]
                  exact hW
                · exfalso
                  omega
            | succ dj ihj =>
              intro j hj ls H locs hl hW
              refine lv_lload hx hb dm_Ring_divideLong_93 (lv_at hl 2 rfl) ?_
              refine lv_lconst (v := lN (0)) hx hb dm_Ring_divideLong_95 (by decide) ?_
              refine W.lcmp hx hb dm_Ring_divideLong_96 ?_
              rw [lc_p hq0 (by omega)]
              refine wi_if_eq (tgt := 161) S (nn_T (by omega)) dm_Ring_divideLong_97 (by decide) (fun hc => ?_) (fun hc => ?_)
              · exfalso
                omega
              · refine lv_iload hx hb dm_Ring_divideLong_100 (lv_at hl 0 rfl) ?_
                refine lv_aload_n hx hb dm_Ring_divideLong_102 rfl (lv_at hl 7 rfl) ?_
                refine po_getd S hW h3 (wa_in 49 (by decide +kernel) rfl) dm_Ring_divideLong_103 ?_
                rw [sb]
                refine wi_icmp_gt (tgt := 161) S (nn_T (by omega)) (sd_T (by omega)) dm_Ring_divideLong_106 (by decide) (fun hc => ?_) (fun hc => ?_)
                · exfalso
                  omega
                · have e2 := st_wf_lt hw h3 j
                  have hm2 := nn_mul (show P - q < 2147483648 by omega) (show σ b j < 2147483648 by omega)
                  have e3 := lp_row_lt hp0 (u := L) (b := σ b) (x := P - q) (i := n) (J := j) hL (n + j)
                  refine lv_aload_n hx hb dm_Ring_divideLong_109 rfl (lv_at hl 5 rfl) ?_
                  refine rg_left S hW (wa_in 65 (by decide +kernel) rfl) dm_Ring_divideLong_110 ?_
                  refine po_getc S hW rfl (wa_in 41 (by decide +kernel) rfl) dm_Ring_divideLong_113 ?_
                  refine lv_iload hx hb dm_Ring_divideLong_116 (lv_at hl 3 rfl) ?_
                  refine lv_iload hx hb dm_Ring_divideLong_118 (lv_at hl 0 rfl) ?_
                  refine wn_iadd S dm_Ring_divideLong_120 ?_
                  refine lv_aload_n hx hb dm_Ring_divideLong_121 rfl (lv_at hl 5 rfl) ?_
                  refine rg_left S hW (wa_in 65 (by decide +kernel) rfl) dm_Ring_divideLong_122 ?_
                  refine po_getc S hW rfl (wa_in 41 (by decide +kernel) rfl) dm_Ring_divideLong_125 ?_
                  refine lv_iload hx hb dm_Ring_divideLong_128 (lv_at hl 3 rfl) ?_
                  refine lv_iload hx hb dm_Ring_divideLong_130 (lv_at hl 0 rfl) ?_
                  refine wn_iadd S dm_Ring_divideLong_132 ?_
                  refine po_ald S hW rfl (by omega) dm_Ring_divideLong_133 ?_
                  rw [q4]
                  refine wn_i2l S (by omega) dm_Ring_divideLong_134 ?_
                  refine lv_lload hx hb dm_Ring_divideLong_135 (lv_at hl 1 rfl) ?_
                  refine lv_aload_n hx hb dm_Ring_divideLong_137 rfl (lv_at hl 7 rfl) ?_
                  refine po_getc S hW h3 (wa_in 41 (by decide +kernel) rfl) dm_Ring_divideLong_138 ?_
                  refine lv_iload hx hb dm_Ring_divideLong_141 (lv_at hl 0 rfl) ?_
                  refine po_ald S hW h3 (by omega) dm_Ring_divideLong_143 ?_
                  rw [qb]
                  refine wn_i2l S (by omega) dm_Ring_divideLong_144 ?_
                  refine wn_lmul S dm_Ring_divideLong_145 ?_
                  refine wn_ladd S dm_Ring_divideLong_146 ?_
                  refine lv_aload_n hx hb dm_Ring_divideLong_147 rfl (lv_at hl 5 rfl) ?_
                  refine rg_p S hW (wa_in 59 (by decide +kernel) rfl) dm_Ring_divideLong_148 ?_
                  rw [qp]
                  refine wn_i2l S (by omega) dm_Ring_divideLong_151 ?_
                  refine wn_lrem S (by omega) (by omega) (by omega) dm_Ring_divideLong_152 ?_
                  refine wn_l2i S dm_Ring_divideLong_153 ?_
                  refine po_ast S hW rfl (by omega) dm_Ring_divideLong_154 (fun H locs hW => ?_)
                  refine lv_iinc (k := 0) (v := nI (j + 1)) hx hb dm_Ring_divideLong_155 hl rfl (by rw [show Int32.ofInt 1 = nI 1 from rfl, nI_add]) (by decide) rfl (fun ls hl => ?_)
                  have hl : lv_has ls 10 [(9, .int (nI (j + 1))), (7, .long (lN (P - q))), (5, .long (lN (q))), (4, .int (nI (n))), (3, .int (nI (sp_inv P (σ b (σ 200 b - 1))))), (0, .ref (g (1))), (1, .ref (g (a))), (2, .ref (g (b)))] := hl
                  refine lv_goto (tgt := 93) hx hb dm_Ring_divideLong_158 (by decide) ?_
                  rw [st_up_rw (by omega), st_rw_up, ← lp_row_s] at hW
                  exact ihj (j + 1) (by omega) ls H locs hl hW
          refine inner (σ 200 b) 0 (by omega) ls _ _ hl ?_
          rw [lp_row_0]
          exact hW
  by_cases hcnt : σ 200 b ≤ σ 200 a + 1
  · rw [sd_sub za zb hcnt]
    refine lv_istore hx hb dm_Ring_divideLong_33 hl (by decide) rfl (fun ls hl => ?_)
    have hl : lv_has ls 10 [(4, .int (sd_i (σ 200 a + 1 - σ 200 b))), (3, .int (nI (sp_inv P (σ b (σ 200 b - 1))))), (0, .ref (g (1))), (1, .ref (g (a))), (2, .ref (g (b)))] := hl
    have hl : lv_has ls 10 [(4, .int (sd_i (σ 200 a + 1 - σ 200 b))), (3, .int (nI (sp_inv P (σ b (σ 200 b - 1))))), (0, .ref (g (1))), (1, .ref (g (a))), (2, .ref (g (b)))] := lv_sub hl [0, 1, 2, 3, 4] rfl
    refine loop (σ 200 a + 1 - σ 200 b) (σ a) (fun _ => 0) (by omega) (fun i => st_wf_lt hw h2 i) (fun _ => hp0) hdv ls _ _ hl ?_
    rw [hZX]
    exact hW
  · refine lv_istore hx hb dm_Ring_divideLong_33 hl (by decide) rfl (fun ls hl => ?_)
    have hl : lv_has ls 10 [(4, .int (sd_i (σ 200 a) - sd_i (σ 200 b))), (3, .int (nI (sp_inv P (σ b (σ 200 b - 1))))), (0, .ref (g (1))), (1, .ref (g (a))), (2, .ref (g (b)))] := hl
    refine lv_iload hx hb dm_Ring_divideLong_35 (lv_at hl 0 rfl) ?_
    refine wi_if_lt (tgt := 167) S (sd_sT za zb) dm_Ring_divideLong_37 (by decide) (fun hc => ?_) (fun hc => ?_)
    · refine fin (σ a) (fun _ => 0) (fun i => st_wf_lt hw h2 i) (fun _ => hp0) ?_ ls _ _ (lv_sub hl [2] rfl) ?_
      · rw [← hdv, show σ 200 a + 1 - σ 200 b = 0 by omega]
        rfl
      · rw [hZX]
        exact hW
    · exfalso
      omega
