/-! Ring: products, quotients, rests, common -/
/-- only polynomials of X (and sizes) differ -/
def st_sm (X : List Nat) (σ τ : st_T) : Prop := ∀ a, a ∉ X → a ≠ 200 → τ a = σ a
theorem st_sm_rf (X : List Nat) (σ : st_T) : st_sm X σ σ := fun _ _ _ => rfl
theorem st_sm_tr {X Y Z : List Nat} {σ τ υ : st_T} (h1 : st_sm X σ τ) (h2 : st_sm Y τ υ) (hX : ∀ a ∈ X, a ∈ Z) (hY : ∀ a ∈ Y, a ∈ Z) : st_sm Z σ υ := fun a ha h200 => by
  rw [h2 a (fun h => ha (hY a h)) h200, h1 a (fun h => ha (hX a h)) h200]
theorem st_sm_po (σ : st_T) (j : Nat) (f : Nat → Nat) : st_sm [j] σ (st_po σ j f) := fun a ha h200 => st_po_row (fun h => ha (by rw [h]; exact List.mem_singleton.mpr rfl)) h200
theorem st_sm_mo {X Y : List Nat} {σ τ : st_T} (h : st_sm X σ τ) (hX : ∀ a ∈ X, a ∈ Y) : st_sm Y σ τ := fun a ha h200 => h a (fun z => ha (hX a z)) h200
/-- the size follows its polynomial -/
theorem st_sm_sz {P : Nat} {X : List Nat} {σ τ : st_T} (hw : st_wf P σ) (hv : st_wf P τ) (h : st_sm X σ τ) {j : Nat} (hj : kd_k j = 0) (hX : j ∉ X) : τ 200 j = σ 200 j := by
  have := kd_po hj
  rw [(hv.2 j hj).2, (hw.2 j hj).2, h j hX (by omega)]
theorem dm_Ring_productInto_0 : decode bm_Ring_productInto 0 = .ok (.aload_n 0, 1) := by decide +kernel
theorem dm_Ring_productInto_1 : decode bm_Ring_productInto 1 = .ok (.aload_n 2, 1) := by decide +kernel
theorem dm_Ring_productInto_2 : decode bm_Ring_productInto 2 = .ok (.aload_n 3, 1) := by decide +kernel
theorem dm_Ring_productInto_3 : decode bm_Ring_productInto 3 = .ok (.invokevirtual 72, 3) := by decide +kernel
theorem dm_Ring_productInto_6 : decode bm_Ring_productInto 6 = .ok (.aload_n 1, 1) := by decide +kernel
theorem dm_Ring_productInto_7 : decode bm_Ring_productInto 7 = .ok (.aload_n 0, 1) := by decide +kernel
theorem dm_Ring_productInto_8 : decode bm_Ring_productInto 8 = .ok (.getfield 12, 3) := by decide +kernel
theorem dm_Ring_productInto_11 : decode bm_Ring_productInto 11 = .ok (.invokevirtual 76, 3) := by decide +kernel
theorem dm_Ring_productInto_14 : decode bm_Ring_productInto 14 = .ok (.return_, 1) := by decide +kernel
set_option maxHeartbeats 4000000 in
set_option maxRecDepth 100000 in
theorem mm_Ring_productInto (l : Launch) (D : va_G) (k : ClassId × ClassId × ClassId) (g : Nat → Nat) (σ : st_T) {P x a b : Nat} (hw : st_wf P σ) (hP : 2 ≤ P) (hP31 : P < 2147483648) (hx_ : kd_k x = 0) (ha_ : kd_k a = 0) (hb_ : kd_k b = 0) (ha2 : a ≠ 2) (hb2 : b ≠ 2) (hsz : σ 200 a + σ 200 b ≤ 32) : mt_V l D k g ym_Ring_productInto wm_Ring_productInto rm_Ring_productInto [.ref (g 1), .ref (g x), .ref (g a), .ref (g b)] σ (fun σ1 => st_wf P σ1 ∧ σ1 x = sp_mul P (σ a) (σ b) ∧ st_sm [x, 2] σ σ1) := by
  refine ct_V_in (cc := bm_Ring_productInto) (maxL := 4) (by decide) rfl (Nat.le_of_ble_eq_true rfl) ?_
  intro p e s m args below meth c A ls Q S hl hW hret
  have S : pw_S p m c bm_Ring_productInto 4 s args wa_g rc_Ring D cl_s (ty_s k) := S
  have hx := S.1.1
  have hb := S.1.2.1
  have hl : lv_has ls 4 [(0, .ref (g (1))), (1, .ref (g (x))), (2, .ref (g (a))), (3, .ref (g (b)))] := hl
  have hmo : sp_ok P (sp_mul P (σ a) (σ b)) := sp_mul_ok (by omega) (hw.2 a ha_).1 (hw.2 b hb_).1 (by rw [← (hw.2 a ha_).2, ← (hw.2 b hb_).2]; exact hsz)
  refine lv_aload_n hx hb dm_Ring_productInto_0 rfl (lv_at hl 0 rfl) ?_
  refine lv_aload_n hx hb dm_Ring_productInto_1 rfl (lv_at hl 2 rfl) ?_
  refine lv_aload_n hx hb dm_Ring_productInto_2 rfl (lv_at hl 3 rfl) ?_
  refine pw_callV (rest := []) S hW (mm_Ring_multiplyWide l D k g σ hw hP hP31 ha_ hb_ ha2 hb2 hsz) (cv_Ring_72 S.1.2.2.2.2 ⟨by decide, by decide⟩) (by decide) en_Ring rfl rfl hl.1 rfl (lv_room (Nat.le_of_ble_eq_true rfl)) ⟨Nat.zero_le _, Nat.zero_le _⟩ dm_Ring_productInto_3 (fun σ1 H locs hp hW => ?_)
  rw [hp] at hW
  have w1 : st_wf P (st_po σ 2 (sp_mul P (σ a) (σ b))) := st_wf_po hw (j := 2) rfl hmo
  refine lv_aload_n hx hb dm_Ring_productInto_6 rfl (lv_at hl 1 rfl) ?_
  refine lv_aload_n hx hb dm_Ring_productInto_7 rfl (lv_at hl 0 rfl) ?_
  refine rg_wide S hW (wa_in 64 (by decide +kernel) rfl) dm_Ring_productInto_8 ?_
  refine pw_callV (rest := []) S hW (mm_Poly_copyFrom l D k g (st_po σ 2 (sp_mul P (σ a) (σ b))) w1 (i := 2) rfl hx_) (cv_Ring_76 S.1.2.2.2.2 ⟨by decide, by decide⟩) (kd_p1 hx_) (en_k0 hx_) rfl rfl hl.1 rfl (lv_room (Nat.le_of_ble_eq_true rfl)) ⟨Nat.zero_le _, Nat.zero_le _⟩ dm_Ring_productInto_11 (fun σ2 H locs hp2 hW => ?_)
  rw [hp2, st_po_at] at hW
  exact hret _ _ _ _ _ dm_Ring_productInto_14 ⟨st_wf_po w1 hx_ hmo, st_po_at, st_sm_tr (st_sm_po σ 2 _) (st_sm_po _ x _) (by intro a ha; simp only [List.mem_cons, List.not_mem_nil, or_false] at ha ⊢; omega) (by intro a ha; simp only [List.mem_cons, List.not_mem_nil, or_false] at ha ⊢; omega)⟩ hW
theorem dm_Ring_productRestInto_0 : decode bm_Ring_productRestInto 0 = .ok (.aload_n 0, 1) := by decide +kernel
theorem dm_Ring_productRestInto_1 : decode bm_Ring_productRestInto 1 = .ok (.aload_n 2, 1) := by decide +kernel
theorem dm_Ring_productRestInto_2 : decode bm_Ring_productRestInto 2 = .ok (.aload_n 3, 1) := by decide +kernel
theorem dm_Ring_productRestInto_3 : decode bm_Ring_productRestInto 3 = .ok (.invokevirtual 72, 3) := by decide +kernel
theorem dm_Ring_productRestInto_6 : decode bm_Ring_productRestInto 6 = .ok (.aload_n 0, 1) := by decide +kernel
theorem dm_Ring_productRestInto_7 : decode bm_Ring_productRestInto 7 = .ok (.aload_n 0, 1) := by decide +kernel
theorem dm_Ring_productRestInto_8 : decode bm_Ring_productRestInto 8 = .ok (.getfield 12, 3) := by decide +kernel
theorem dm_Ring_productRestInto_11 : decode bm_Ring_productRestInto 11 = .ok (.aload 4, 2) := by decide +kernel
theorem dm_Ring_productRestInto_13 : decode bm_Ring_productRestInto 13 = .ok (.invokevirtual 80, 3) := by decide +kernel
theorem dm_Ring_productRestInto_16 : decode bm_Ring_productRestInto 16 = .ok (.aload_n 1, 1) := by decide +kernel
theorem dm_Ring_productRestInto_17 : decode bm_Ring_productRestInto 17 = .ok (.aload_n 0, 1) := by decide +kernel
theorem dm_Ring_productRestInto_18 : decode bm_Ring_productRestInto 18 = .ok (.getfield 18, 3) := by decide +kernel
theorem dm_Ring_productRestInto_21 : decode bm_Ring_productRestInto 21 = .ok (.invokevirtual 76, 3) := by decide +kernel
theorem dm_Ring_productRestInto_24 : decode bm_Ring_productRestInto 24 = .ok (.return_, 1) := by decide +kernel
set_option maxHeartbeats 4000000 in
set_option maxRecDepth 100000 in
theorem mm_Ring_productRestInto (l : Launch) (D : va_G) (k : ClassId × ClassId × ClassId) (g : Nat → Nat) (σ : st_T) {P x a b m0 : Nat} (hw : st_wf P σ) (hP : ag_pr P) (hP31 : P < 2147483648) (hx_ : kd_k x = 0) (ha_ : kd_k a = 0) (hb_ : kd_k b = 0) (hm0_ : kd_k m0 = 0) (ha2 : a ≠ 2) (hb2 : b ≠ 2) (hm2 : m0 ≠ 2) (hm4 : m0 ≠ 4) (hm6 : m0 ≠ 6) (hsz : σ 200 a + σ 200 b ≤ 32) (hms : 0 < σ 200 m0) : mt_V l D k g ym_Ring_productRestInto wm_Ring_productRestInto rm_Ring_productRestInto [.ref (g 1), .ref (g x), .ref (g a), .ref (g b), .ref (g m0)] σ (fun σ1 => st_wf P σ1 ∧ σ1 x = sp_rest P (sp_mul P (σ a) (σ b)) (σ m0) ∧ st_sm [x, 2, 4, 6] σ σ1) := by
  refine ct_V_in (cc := bm_Ring_productRestInto) (maxL := 5) (by decide) rfl (Nat.le_of_ble_eq_true rfl) ?_
  intro p e s m args below meth c A ls Q S hl hW hret
  have S : pw_S p m c bm_Ring_productRestInto 5 s args wa_g rc_Ring D cl_s (ty_s k) := S
  have hx := S.1.1
  have hb := S.1.2.1
  have hl : lv_has ls 5 [(0, .ref (g (1))), (1, .ref (g (x))), (2, .ref (g (a))), (3, .ref (g (b))), (4, .ref (g (m0)))] := hl
  have hP2 := hP.1
  have km := kd_po hm0_
  have hmo : sp_ok P (sp_mul P (σ a) (σ b)) := sp_mul_ok (by omega) (hw.2 a ha_).1 (hw.2 b hb_).1 (by rw [← (hw.2 a ha_).2, ← (hw.2 b hb_).2]; exact hsz)
  have w1 : st_wf P (st_po σ 2 (sp_mul P (σ a) (σ b))) := st_wf_po hw (j := 2) rfl hmo
  have hmr : (st_po σ 2 (sp_mul P (σ a) (σ b))) m0 = σ m0 := st_po_row hm2 (by omega)
  have hms1 : (st_po σ 2 (sp_mul P (σ a) (σ b))) 200 m0 = σ 200 m0 := st_po_sz2 (by omega) hm2
  have hdv := sp_dv_ok hP hmo (hw.2 m0 hm0_).1 (by rw [← (hw.2 m0 hm0_).2]; exact hms)
  refine lv_aload_n hx hb dm_Ring_productRestInto_0 rfl (lv_at hl 0 rfl) ?_
  refine lv_aload_n hx hb dm_Ring_productRestInto_1 rfl (lv_at hl 2 rfl) ?_
  refine lv_aload_n hx hb dm_Ring_productRestInto_2 rfl (lv_at hl 3 rfl) ?_
  refine pw_callV (rest := []) S hW (mm_Ring_multiplyWide l D k g σ hw hP2 hP31 ha_ hb_ ha2 hb2 hsz) (cv_Ring_72 S.1.2.2.2.2 ⟨by decide, by decide⟩) (by decide) en_Ring rfl rfl hl.1 rfl (lv_room (Nat.le_of_ble_eq_true rfl)) ⟨Nat.zero_le _, Nat.zero_le _⟩ dm_Ring_productRestInto_3 (fun σ1 H locs hp hW => ?_)
  rw [hp] at hW
  refine lv_aload_n hx hb dm_Ring_productRestInto_6 rfl (lv_at hl 0 rfl) ?_
  refine lv_aload_n hx hb dm_Ring_productRestInto_7 rfl (lv_at hl 0 rfl) ?_
  refine rg_wide S hW (wa_in 64 (by decide +kernel) rfl) dm_Ring_productRestInto_8 ?_
  refine lv_aload hx hb dm_Ring_productRestInto_11 (lv_at hl 4 rfl) ?_
  refine pw_callV (rest := []) S hW (mm_Ring_divideLong l D k g (st_po σ 2 (sp_mul P (σ a) (σ b))) w1 hP hP31 (a := 2) rfl hm0_ (by decide) (by decide) hm4 hm6 (by rw [hms1]; exact hms)) (cv_Ring_80 S.1.2.2.2.2 ⟨by decide, by decide⟩) (by decide) en_Ring rfl rfl hl.1 rfl (lv_room (Nat.le_of_ble_eq_true rfl)) ⟨Nat.zero_le _, Nat.zero_le _⟩ dm_Ring_productRestInto_13 (fun σ2 H locs hp2 hW => ?_)
  rw [hp2, st_po_at, hmr] at hW
  have w2 : st_wf P (st_po (st_po (st_po σ 2 (sp_mul P (σ a) (σ b))) 4 (sp_rest P (sp_mul P (σ a) (σ b)) (σ m0))) 6 (sp_quo P (sp_mul P (σ a) (σ b)) (σ m0))) := st_wf_po (st_wf_po w1 (j := 4) rfl hdv.1) (j := 6) rfl hdv.2.1
  have e4 : (st_po (st_po (st_po σ 2 (sp_mul P (σ a) (σ b))) 4 (sp_rest P (sp_mul P (σ a) (σ b)) (σ m0))) 6 (sp_quo P (sp_mul P (σ a) (σ b)) (σ m0))) 4 = sp_rest P (sp_mul P (σ a) (σ b)) (σ m0) := by rw [st_po_row (by decide) (by decide), st_po_at]
  refine lv_aload_n hx hb dm_Ring_productRestInto_16 rfl (lv_at hl 1 rfl) ?_
  refine lv_aload_n hx hb dm_Ring_productRestInto_17 rfl (lv_at hl 0 rfl) ?_
  refine rg_left S hW (wa_in 65 (by decide +kernel) rfl) dm_Ring_productRestInto_18 ?_
  refine pw_callV (rest := []) S hW (mm_Poly_copyFrom l D k g (st_po (st_po (st_po σ 2 (sp_mul P (σ a) (σ b))) 4 (sp_rest P (sp_mul P (σ a) (σ b)) (σ m0))) 6 (sp_quo P (sp_mul P (σ a) (σ b)) (σ m0))) w2 (i := 4) rfl hx_) (cv_Ring_76 S.1.2.2.2.2 ⟨by decide, by decide⟩) (kd_p1 hx_) (en_k0 hx_) rfl rfl hl.1 rfl (lv_room (Nat.le_of_ble_eq_true rfl)) ⟨Nat.zero_le _, Nat.zero_le _⟩ dm_Ring_productRestInto_21 (fun σ3 H locs hp3 hW => ?_)
  rw [hp3, e4] at hW
  exact hret _ _ _ _ _ dm_Ring_productRestInto_24 ⟨st_wf_po w2 hx_ hdv.1, st_po_at, st_sm_tr (st_sm_tr (st_sm_tr (st_sm_po σ 2 _) (st_sm_po _ 4 _) (Z := [x, 2, 4, 6]) (by intro a ha; simp only [List.mem_cons, List.not_mem_nil, or_false] at ha ⊢; omega) (by intro a ha; simp only [List.mem_cons, List.not_mem_nil, or_false] at ha ⊢; omega)) (st_sm_po _ 6 _) (Z := [x, 2, 4, 6]) (by intro a ha; simp only [List.mem_cons, List.not_mem_nil, or_false] at ha ⊢; omega) (by intro a ha; simp only [List.mem_cons, List.not_mem_nil, or_false] at ha ⊢; omega)) (st_sm_po _ x _) (by intro a ha; simp only [List.mem_cons, List.not_mem_nil, or_false] at ha ⊢; omega) (by intro a ha; simp only [List.mem_cons, List.not_mem_nil, or_false] at ha ⊢; omega)⟩ hW
theorem dm_Ring_quotientInto_0 : decode bm_Ring_quotientInto 0 = .ok (.aload_n 0, 1) := by decide +kernel
theorem dm_Ring_quotientInto_1 : decode bm_Ring_quotientInto 1 = .ok (.aload_n 2, 1) := by decide +kernel
theorem dm_Ring_quotientInto_2 : decode bm_Ring_quotientInto 2 = .ok (.aload_n 3, 1) := by decide +kernel
theorem dm_Ring_quotientInto_3 : decode bm_Ring_quotientInto 3 = .ok (.invokevirtual 80, 3) := by decide +kernel
theorem dm_Ring_quotientInto_6 : decode bm_Ring_quotientInto 6 = .ok (.aload_n 1, 1) := by decide +kernel
theorem dm_Ring_quotientInto_7 : decode bm_Ring_quotientInto 7 = .ok (.aload_n 0, 1) := by decide +kernel
theorem dm_Ring_quotientInto_8 : decode bm_Ring_quotientInto 8 = .ok (.getfield 21, 3) := by decide +kernel
theorem dm_Ring_quotientInto_11 : decode bm_Ring_quotientInto 11 = .ok (.invokevirtual 76, 3) := by decide +kernel
theorem dm_Ring_quotientInto_14 : decode bm_Ring_quotientInto 14 = .ok (.return_, 1) := by decide +kernel
set_option maxHeartbeats 4000000 in
set_option maxRecDepth 100000 in
theorem mm_Ring_quotientInto (l : Launch) (D : va_G) (k : ClassId × ClassId × ClassId) (g : Nat → Nat) (σ : st_T) {P x a b : Nat} (hw : st_wf P σ) (hP : ag_pr P) (hP31 : P < 2147483648) (hx_ : kd_k x = 0) (ha_ : kd_k a = 0) (hb_ : kd_k b = 0) (ha4 : a ≠ 4) (ha6 : a ≠ 6) (hb4 : b ≠ 4) (hb6 : b ≠ 6) (hs : 0 < σ 200 b) : mt_V l D k g ym_Ring_quotientInto wm_Ring_quotientInto rm_Ring_quotientInto [.ref (g 1), .ref (g x), .ref (g a), .ref (g b)] σ (fun σ1 => st_wf P σ1 ∧ σ1 x = sp_quo P (σ a) (σ b) ∧ st_sm [x, 4, 6] σ σ1) := by
  refine ct_V_in (cc := bm_Ring_quotientInto) (maxL := 4) (by decide) rfl (Nat.le_of_ble_eq_true rfl) ?_
  intro p e s m args below meth c A ls Q S hl hW hret
  have S : pw_S p m c bm_Ring_quotientInto 4 s args wa_g rc_Ring D cl_s (ty_s k) := S
  have hx := S.1.1
  have hb := S.1.2.1
  have hl : lv_has ls 4 [(0, .ref (g (1))), (1, .ref (g (x))), (2, .ref (g (a))), (3, .ref (g (b)))] := hl
  have hdv := sp_dv_ok hP (hw.2 a ha_).1 (hw.2 b hb_).1 (by rw [← (hw.2 b hb_).2]; exact hs)
  have w2 : st_wf P (st_po (st_po σ 4 (sp_rest P (σ a) (σ b))) 6 (sp_quo P (σ a) (σ b))) := st_wf_po (st_wf_po hw (j := 4) rfl hdv.1) (j := 6) rfl hdv.2.1
  have e4 : (st_po (st_po σ 4 (sp_rest P (σ a) (σ b))) 6 (sp_quo P (σ a) (σ b))) 4 = sp_rest P (σ a) (σ b) := by rw [st_po_row (by decide) (by decide), st_po_at]
  have e6 : (st_po (st_po σ 4 (sp_rest P (σ a) (σ b))) 6 (sp_quo P (σ a) (σ b))) 6 = sp_quo P (σ a) (σ b) := st_po_at
  refine lv_aload_n hx hb dm_Ring_quotientInto_0 rfl (lv_at hl 0 rfl) ?_
  refine lv_aload_n hx hb dm_Ring_quotientInto_1 rfl (lv_at hl 2 rfl) ?_
  refine lv_aload_n hx hb dm_Ring_quotientInto_2 rfl (lv_at hl 3 rfl) ?_
  refine pw_callV (rest := []) S hW (mm_Ring_divideLong l D k g σ hw hP hP31 ha_ hb_ ha4 ha6 hb4 hb6 hs) (cv_Ring_80 S.1.2.2.2.2 ⟨by decide, by decide⟩) (by decide) en_Ring rfl rfl hl.1 rfl (lv_room (Nat.le_of_ble_eq_true rfl)) ⟨Nat.zero_le _, Nat.zero_le _⟩ dm_Ring_quotientInto_3 (fun σ1 H locs hp hW => ?_)
  rw [hp] at hW
  refine lv_aload_n hx hb dm_Ring_quotientInto_6 rfl (lv_at hl 1 rfl) ?_
  refine lv_aload_n hx hb dm_Ring_quotientInto_7 rfl (lv_at hl 0 rfl) ?_
  refine rg_over S hW (wa_in 66 (by decide +kernel) rfl) dm_Ring_quotientInto_8 ?_
  refine pw_callV (rest := []) S hW (mm_Poly_copyFrom l D k g (st_po (st_po σ 4 (sp_rest P (σ a) (σ b))) 6 (sp_quo P (σ a) (σ b))) w2 (i := 6) rfl hx_) (cv_Ring_76 S.1.2.2.2.2 ⟨by decide, by decide⟩) (kd_p1 hx_) (en_k0 hx_) rfl rfl hl.1 rfl (lv_room (Nat.le_of_ble_eq_true rfl)) ⟨Nat.zero_le _, Nat.zero_le _⟩ dm_Ring_quotientInto_11 (fun σ3 H locs hp3 hW => ?_)
  rw [hp3, e6] at hW
  exact hret _ _ _ _ _ dm_Ring_quotientInto_14 ⟨st_wf_po w2 hx_ hdv.2.1, st_po_at, st_sm_tr (st_sm_tr (st_sm_po σ 4 _) (st_sm_po _ 6 _) (Z := [x, 4, 6]) (by intro a ha; simp only [List.mem_cons, List.not_mem_nil, or_false] at ha ⊢; omega) (by intro a ha; simp only [List.mem_cons, List.not_mem_nil, or_false] at ha ⊢; omega)) (st_sm_po _ x _) (by intro a ha; simp only [List.mem_cons, List.not_mem_nil, or_false] at ha ⊢; omega) (by intro a ha; simp only [List.mem_cons, List.not_mem_nil, or_false] at ha ⊢; omega)⟩ hW
theorem dm_Ring_restInto_0 : decode bm_Ring_restInto 0 = .ok (.aload_n 0, 1) := by decide +kernel
theorem dm_Ring_restInto_1 : decode bm_Ring_restInto 1 = .ok (.aload_n 2, 1) := by decide +kernel
theorem dm_Ring_restInto_2 : decode bm_Ring_restInto 2 = .ok (.aload_n 3, 1) := by decide +kernel
theorem dm_Ring_restInto_3 : decode bm_Ring_restInto 3 = .ok (.invokevirtual 80, 3) := by decide +kernel
theorem dm_Ring_restInto_6 : decode bm_Ring_restInto 6 = .ok (.aload_n 1, 1) := by decide +kernel
theorem dm_Ring_restInto_7 : decode bm_Ring_restInto 7 = .ok (.aload_n 0, 1) := by decide +kernel
theorem dm_Ring_restInto_8 : decode bm_Ring_restInto 8 = .ok (.getfield 18, 3) := by decide +kernel
theorem dm_Ring_restInto_11 : decode bm_Ring_restInto 11 = .ok (.invokevirtual 76, 3) := by decide +kernel
theorem dm_Ring_restInto_14 : decode bm_Ring_restInto 14 = .ok (.return_, 1) := by decide +kernel
set_option maxHeartbeats 4000000 in
set_option maxRecDepth 100000 in
theorem mm_Ring_restInto (l : Launch) (D : va_G) (k : ClassId × ClassId × ClassId) (g : Nat → Nat) (σ : st_T) {P x a b : Nat} (hw : st_wf P σ) (hP : ag_pr P) (hP31 : P < 2147483648) (hx_ : kd_k x = 0) (ha_ : kd_k a = 0) (hb_ : kd_k b = 0) (ha4 : a ≠ 4) (ha6 : a ≠ 6) (hb4 : b ≠ 4) (hb6 : b ≠ 6) (hs : 0 < σ 200 b) : mt_V l D k g ym_Ring_restInto wm_Ring_restInto rm_Ring_restInto [.ref (g 1), .ref (g x), .ref (g a), .ref (g b)] σ (fun σ1 => st_wf P σ1 ∧ σ1 x = sp_rest P (σ a) (σ b) ∧ st_sm [x, 4, 6] σ σ1) := by
  refine ct_V_in (cc := bm_Ring_restInto) (maxL := 4) (by decide) rfl (Nat.le_of_ble_eq_true rfl) ?_
  intro p e s m args below meth c A ls Q S hl hW hret
  have S : pw_S p m c bm_Ring_restInto 4 s args wa_g rc_Ring D cl_s (ty_s k) := S
  have hx := S.1.1
  have hb := S.1.2.1
  have hl : lv_has ls 4 [(0, .ref (g (1))), (1, .ref (g (x))), (2, .ref (g (a))), (3, .ref (g (b)))] := hl
  have hdv := sp_dv_ok hP (hw.2 a ha_).1 (hw.2 b hb_).1 (by rw [← (hw.2 b hb_).2]; exact hs)
  have w2 : st_wf P (st_po (st_po σ 4 (sp_rest P (σ a) (σ b))) 6 (sp_quo P (σ a) (σ b))) := st_wf_po (st_wf_po hw (j := 4) rfl hdv.1) (j := 6) rfl hdv.2.1
  have e4 : (st_po (st_po σ 4 (sp_rest P (σ a) (σ b))) 6 (sp_quo P (σ a) (σ b))) 4 = sp_rest P (σ a) (σ b) := by rw [st_po_row (by decide) (by decide), st_po_at]
  have e6 : (st_po (st_po σ 4 (sp_rest P (σ a) (σ b))) 6 (sp_quo P (σ a) (σ b))) 6 = sp_quo P (σ a) (σ b) := st_po_at
  refine lv_aload_n hx hb dm_Ring_restInto_0 rfl (lv_at hl 0 rfl) ?_
  refine lv_aload_n hx hb dm_Ring_restInto_1 rfl (lv_at hl 2 rfl) ?_
  refine lv_aload_n hx hb dm_Ring_restInto_2 rfl (lv_at hl 3 rfl) ?_
  refine pw_callV (rest := []) S hW (mm_Ring_divideLong l D k g σ hw hP hP31 ha_ hb_ ha4 ha6 hb4 hb6 hs) (cv_Ring_80 S.1.2.2.2.2 ⟨by decide, by decide⟩) (by decide) en_Ring rfl rfl hl.1 rfl (lv_room (Nat.le_of_ble_eq_true rfl)) ⟨Nat.zero_le _, Nat.zero_le _⟩ dm_Ring_restInto_3 (fun σ1 H locs hp hW => ?_)
  rw [hp] at hW
  refine lv_aload_n hx hb dm_Ring_restInto_6 rfl (lv_at hl 1 rfl) ?_
  refine lv_aload_n hx hb dm_Ring_restInto_7 rfl (lv_at hl 0 rfl) ?_
  refine rg_left S hW (wa_in 65 (by decide +kernel) rfl) dm_Ring_restInto_8 ?_
  refine pw_callV (rest := []) S hW (mm_Poly_copyFrom l D k g (st_po (st_po σ 4 (sp_rest P (σ a) (σ b))) 6 (sp_quo P (σ a) (σ b))) w2 (i := 4) rfl hx_) (cv_Ring_76 S.1.2.2.2.2 ⟨by decide, by decide⟩) (kd_p1 hx_) (en_k0 hx_) rfl rfl hl.1 rfl (lv_room (Nat.le_of_ble_eq_true rfl)) ⟨Nat.zero_le _, Nat.zero_le _⟩ dm_Ring_restInto_11 (fun σ3 H locs hp3 hW => ?_)
  rw [hp3, e4] at hW
  exact hret _ _ _ _ _ dm_Ring_restInto_14 ⟨st_wf_po w2 hx_ hdv.1, st_po_at, st_sm_tr (st_sm_tr (st_sm_po σ 4 _) (st_sm_po _ 6 _) (Z := [x, 4, 6]) (by intro a ha; simp only [List.mem_cons, List.not_mem_nil, or_false] at ha ⊢; omega) (by intro a ha; simp only [List.mem_cons, List.not_mem_nil, or_false] at ha ⊢; omega)) (st_sm_po _ x _) (by intro a ha; simp only [List.mem_cons, List.not_mem_nil, or_false] at ha ⊢; omega) (by intro a ha; simp only [List.mem_cons, List.not_mem_nil, or_false] at ha ⊢; omega)⟩ hW
theorem dm_Ring_quotientAndRestInto_0 : decode bm_Ring_quotientAndRestInto 0 = .ok (.aload_n 0, 1) := by decide +kernel
theorem dm_Ring_quotientAndRestInto_1 : decode bm_Ring_quotientAndRestInto 1 = .ok (.aload_n 3, 1) := by decide +kernel
theorem dm_Ring_quotientAndRestInto_2 : decode bm_Ring_quotientAndRestInto 2 = .ok (.aload 4, 2) := by decide +kernel
theorem dm_Ring_quotientAndRestInto_4 : decode bm_Ring_quotientAndRestInto 4 = .ok (.invokevirtual 80, 3) := by decide +kernel
theorem dm_Ring_quotientAndRestInto_7 : decode bm_Ring_quotientAndRestInto 7 = .ok (.aload_n 1, 1) := by decide +kernel
theorem dm_Ring_quotientAndRestInto_8 : decode bm_Ring_quotientAndRestInto 8 = .ok (.aload_n 0, 1) := by decide +kernel
theorem dm_Ring_quotientAndRestInto_9 : decode bm_Ring_quotientAndRestInto 9 = .ok (.getfield 21, 3) := by decide +kernel
theorem dm_Ring_quotientAndRestInto_12 : decode bm_Ring_quotientAndRestInto 12 = .ok (.invokevirtual 76, 3) := by decide +kernel
theorem dm_Ring_quotientAndRestInto_15 : decode bm_Ring_quotientAndRestInto 15 = .ok (.aload_n 2, 1) := by decide +kernel
theorem dm_Ring_quotientAndRestInto_16 : decode bm_Ring_quotientAndRestInto 16 = .ok (.aload_n 0, 1) := by decide +kernel
theorem dm_Ring_quotientAndRestInto_17 : decode bm_Ring_quotientAndRestInto 17 = .ok (.getfield 18, 3) := by decide +kernel
theorem dm_Ring_quotientAndRestInto_20 : decode bm_Ring_quotientAndRestInto 20 = .ok (.invokevirtual 76, 3) := by decide +kernel
theorem dm_Ring_quotientAndRestInto_23 : decode bm_Ring_quotientAndRestInto 23 = .ok (.return_, 1) := by decide +kernel
set_option maxHeartbeats 4000000 in
set_option maxRecDepth 100000 in
theorem mm_Ring_quotientAndRestInto (l : Launch) (D : va_G) (k : ClassId × ClassId × ClassId) (g : Nat → Nat) (σ : st_T) {P q0 r0 a b : Nat} (hw : st_wf P σ) (hP : ag_pr P) (hP31 : P < 2147483648) (hq0_ : kd_k q0 = 0) (hr0_ : kd_k r0 = 0) (ha_ : kd_k a = 0) (hb_ : kd_k b = 0) (ha4 : a ≠ 4) (ha6 : a ≠ 6) (hb4 : b ≠ 4) (hb6 : b ≠ 6) (hs : 0 < σ 200 b) (hq4 : q0 ≠ 4) : mt_V l D k g ym_Ring_quotientAndRestInto wm_Ring_quotientAndRestInto rm_Ring_quotientAndRestInto [.ref (g 1), .ref (g q0), .ref (g r0), .ref (g a), .ref (g b)] σ (fun σ1 => st_wf P σ1 ∧ (σ1 r0 = sp_rest P (σ a) (σ b) ∧ (q0 ≠ r0 → σ1 q0 = sp_quo P (σ a) (σ b))) ∧ st_sm [q0, r0, 4, 6] σ σ1) := by
  refine ct_V_in (cc := bm_Ring_quotientAndRestInto) (maxL := 5) (by decide) rfl (Nat.le_of_ble_eq_true rfl) ?_
  intro p e s m args below meth c A ls Q S hl hW hret
  have S : pw_S p m c bm_Ring_quotientAndRestInto 5 s args wa_g rc_Ring D cl_s (ty_s k) := S
  have hx := S.1.1
  have hb := S.1.2.1
  have hl : lv_has ls 5 [(0, .ref (g (1))), (1, .ref (g (q0))), (2, .ref (g (r0))), (3, .ref (g (a))), (4, .ref (g (b)))] := hl
  have hdv := sp_dv_ok hP (hw.2 a ha_).1 (hw.2 b hb_).1 (by rw [← (hw.2 b hb_).2]; exact hs)
  have w2 : st_wf P (st_po (st_po σ 4 (sp_rest P (σ a) (σ b))) 6 (sp_quo P (σ a) (σ b))) := st_wf_po (st_wf_po hw (j := 4) rfl hdv.1) (j := 6) rfl hdv.2.1
  have e4 : (st_po (st_po σ 4 (sp_rest P (σ a) (σ b))) 6 (sp_quo P (σ a) (σ b))) 4 = sp_rest P (σ a) (σ b) := by rw [st_po_row (by decide) (by decide), st_po_at]
  have e6 : (st_po (st_po σ 4 (sp_rest P (σ a) (σ b))) 6 (sp_quo P (σ a) (σ b))) 6 = sp_quo P (σ a) (σ b) := st_po_at
  refine lv_aload_n hx hb dm_Ring_quotientAndRestInto_0 rfl (lv_at hl 0 rfl) ?_
  refine lv_aload_n hx hb dm_Ring_quotientAndRestInto_1 rfl (lv_at hl 3 rfl) ?_
  refine lv_aload hx hb dm_Ring_quotientAndRestInto_2 (lv_at hl 4 rfl) ?_
  refine pw_callV (rest := []) S hW (mm_Ring_divideLong l D k g σ hw hP hP31 ha_ hb_ ha4 ha6 hb4 hb6 hs) (cv_Ring_80 S.1.2.2.2.2 ⟨by decide, by decide⟩) (by decide) en_Ring rfl rfl hl.1 rfl (lv_room (Nat.le_of_ble_eq_true rfl)) ⟨Nat.zero_le _, Nat.zero_le _⟩ dm_Ring_quotientAndRestInto_4 (fun σ1 H locs hp hW => ?_)
  rw [hp] at hW
  have kq := kd_po hq0_
  refine lv_aload_n hx hb dm_Ring_quotientAndRestInto_7 rfl (lv_at hl 1 rfl) ?_
  refine lv_aload_n hx hb dm_Ring_quotientAndRestInto_8 rfl (lv_at hl 0 rfl) ?_
  refine rg_over S hW (wa_in 66 (by decide +kernel) rfl) dm_Ring_quotientAndRestInto_9 ?_
  refine pw_callV (rest := []) S hW (mm_Poly_copyFrom l D k g (st_po (st_po σ 4 (sp_rest P (σ a) (σ b))) 6 (sp_quo P (σ a) (σ b))) w2 (i := 6) rfl hq0_) (cv_Ring_76 S.1.2.2.2.2 ⟨by decide, by decide⟩) (kd_p1 hq0_) (en_k0 hq0_) rfl rfl hl.1 rfl (lv_room (Nat.le_of_ble_eq_true rfl)) ⟨Nat.zero_le _, Nat.zero_le _⟩ dm_Ring_quotientAndRestInto_12 (fun σ3 H locs hp3 hW => ?_)
  rw [hp3, e6] at hW
  have w3 : st_wf P (st_po (st_po (st_po σ 4 (sp_rest P (σ a) (σ b))) 6 (sp_quo P (σ a) (σ b))) q0 (sp_quo P (σ a) (σ b))) := st_wf_po w2 hq0_ hdv.2.1
  have e43 : (st_po (st_po (st_po σ 4 (sp_rest P (σ a) (σ b))) 6 (sp_quo P (σ a) (σ b))) q0 (sp_quo P (σ a) (σ b))) 4 = sp_rest P (σ a) (σ b) := by rw [st_po_row (Ne.symm hq4) (by decide), e4]
  refine lv_aload_n hx hb dm_Ring_quotientAndRestInto_15 rfl (lv_at hl 2 rfl) ?_
  refine lv_aload_n hx hb dm_Ring_quotientAndRestInto_16 rfl (lv_at hl 0 rfl) ?_
  refine rg_left S hW (wa_in 65 (by decide +kernel) rfl) dm_Ring_quotientAndRestInto_17 ?_
  refine pw_callV (rest := []) S hW (mm_Poly_copyFrom l D k g (st_po (st_po (st_po σ 4 (sp_rest P (σ a) (σ b))) 6 (sp_quo P (σ a) (σ b))) q0 (sp_quo P (σ a) (σ b))) w3 (i := 4) rfl hr0_) (cv_Ring_76 S.1.2.2.2.2 ⟨by decide, by decide⟩) (kd_p1 hr0_) (en_k0 hr0_) rfl rfl hl.1 rfl (lv_room (Nat.le_of_ble_eq_true rfl)) ⟨Nat.zero_le _, Nat.zero_le _⟩ dm_Ring_quotientAndRestInto_20 (fun σ4 H locs hp4 hW => ?_)
  rw [hp4, e43] at hW
  exact hret _ _ _ _ _ dm_Ring_quotientAndRestInto_23 ⟨st_wf_po w3 hr0_ hdv.1, ⟨st_po_at, fun hne => by rw [st_po_row hne (by omega), st_po_at]⟩, st_sm_tr (st_sm_tr (st_sm_tr (st_sm_po σ 4 _) (st_sm_po _ 6 _) (Z := [q0, r0, 4, 6]) (by intro a ha; simp only [List.mem_cons, List.not_mem_nil, or_false] at ha ⊢; omega) (by intro a ha; simp only [List.mem_cons, List.not_mem_nil, or_false] at ha ⊢; omega)) (st_sm_po _ q0 _) (Z := [q0, r0, 4, 6]) (by intro a ha; simp only [List.mem_cons, List.not_mem_nil, or_false] at ha ⊢; omega) (by intro a ha; simp only [List.mem_cons, List.not_mem_nil, or_false] at ha ⊢; omega)) (st_sm_po _ r0 _) (by intro a ha; simp only [List.mem_cons, List.not_mem_nil, or_false] at ha ⊢; omega) (by intro a ha; simp only [List.mem_cons, List.not_mem_nil, or_false] at ha ⊢; omega)⟩ hW
