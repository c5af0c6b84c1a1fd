/-! System.arraycopy between polynomials; copyFrom, becomeTerm; writes as whole polynomials -/
theorem en_up_row {k : ClassId × ClassId × ClassId} {g : Nat → Nat} {σ τ : st_T} {j : Nat} (h : kd_k j = 0) (h1 : ∀ a, a ≠ j → τ a = σ a) : ∀ i, i < 153 → va_up (en_s k g σ) (j + 1) (.inl (k.1, 31, .inl (fun t => nI (τ j t)))) i = en_s k g τ i := by
  intro i hi
  by_cases hit : i = j + 1
  · subst hit
    rw [va_up_self, en_ar h]
  · rw [va_up_ne _ _ hit]
    have hj := kd_po h
    refine en_cg hi (fun _ => ?_) (fun hk => ?_) (fun _ => ⟨?_, ?_⟩) (fun _ => ?_) (fun _ => ⟨?_, ?_⟩) (fun _ => ?_) (fun _ => ?_) (fun _ a ha => ?_) (fun _ => ?_) (fun _ => ?_)
    · rw [h1 _ (by omega)]
    · have := (kd_ar hk).2; rw [h1 _ (by omega)]
    · rw [h1 _ (by omega)]
    · rw [h1 _ (by omega)]
    · rw [h1 _ (by omega)]
    · rw [h1 _ (by omega)]
    · rw [h1 _ (by omega)]
    · rw [h1 _ (by omega)]
    · rw [h1 _ (by omega)]
    · rw [h1 _ (by omega)]
    · rw [h1 _ (by omega)]
    · rw [h1 _ (by omega)]
theorem st_cl_po {P : Nat} {σ : st_T} {j : Nat} (hw : st_wf P σ) (hj : kd_k j = 0) : st_up (st_fl σ j 31 0) 200 j 0 = st_po σ j (fun _ => 0) :=
  st_po_of (by have := kd_po hj; omega) (st_fl_all (fun b hb => ((hw.2 j hj).1 b).2 hb)) (fun a ha => st_fl_row ha) (by
    have h : sp_sz (fun _ => 0) 31 ≤ 0 := sp_sz_lt (fun _ _ => rfl)
    omega)
theorem st_pt_po {σ : st_T} {j n v : Nat} (hj : kd_k j = 0) : st_up (st_up σ j n v) 200 j (sp_sz (va_up (σ j) n v) 31) = st_po σ j (va_up (σ j) n v) :=
  st_po_of (by have := kd_po hj; omega) st_up_at (fun a ha => st_up_row ha) rfl
theorem st_se_po {σ τ : st_T} {j : Nat} (hj : kd_k j = 0) (h2 : ∀ a, a ≠ j → τ a = σ a) : st_up τ 200 j (sp_sz (τ j) 31) = st_po σ j (τ j) :=
  st_po_of (by have := kd_po hj; omega) rfl h2 rfl
section PCP
variable {p : Program} {l : Launch} {e : Env} {R : Room} {s : State} {m : MethodId} {args : Array Value} {below : List Frame} {meth : Method} {c : Code} {H : Heap} {locs : List Loc} {cells slots : Nat} {Q : State → Prop}
variable {cc : ByteArray} {pc : Nat} {ls : Array Slot} {rest : List Value} {D : va_G} {A : Nat → Prop} {H0 : Heap} {g : Nat → Nat} {nL : Nat} {own : String} {k : ClassId × ClassId × ClassId} {σ : st_T}
theorem po_copy (S : pw_S p m c cc nL s args wa_g own D cl_s (ty_s k)) (hW : pw_H D cl_s A H0 g 153 (en_s k g σ) H locs) {i j : Nat} (hi : kd_k i = 0) (hj : kd_k j = 0) (hsz : ls.size = nL) {index : Nat} (hlink : Cond.methodLink own index arraycopyName ∈ wa_g) (hnat : Cond.native arraycopyName ∈ wa_g) (hstat : Cond.static arraycopyName ∈ wa_g) (hini : Cond.initialized "java/lang/System" ∈ wa_g) (hframes : 1 ≤ R.frames) (hlocals : (rest.map fun v => v.category).sum + (nativeFrameWords "java/lang/System" "arraycopy" 5 + 11) ≤ R.locals) (hdg : decode cc pc = .ok (.invokestatic index, 3))
    (kk : ∀ (H1 : Heap) (locs1 : List Loc), pw_H D cl_s A H0 g 153 (en_s k g (st_cp σ j 31 (σ i))) H1 locs1 → W p l e R s m args below meth c H1 locs1 cells slots Q (F0 m (pc + 3) ls rest)) : W p l e R s m args below meth c H locs cells slots Q (F0 m pc ls (.int (nI 31) :: .int (nI 0) :: .ref (g (j + 1)) :: .int (nI 0) :: .ref (g (i + 1)) :: rest)) := by
  have hts := S.1.2.2.2.2
  refine va_copyi S.1.1 S.1.2.1 (S.1.2.2.1.trans hsz.symm) S.1.2.2.2.1 (hts _ hlink) (hts _ hnat) (hts _ hstat) (hts _ hini) S.2 hW.1 hW.2.1 hW.2.2.1 (i + 1) (j + 1) 0 0 (ty := .int) (by rw [pw_at (kd_p2 hi), en_ar hi]) (by rw [pw_at (kd_p2 hj), en_ar hj]) rfl rfl rfl (by decide) (by decide) (by decide) (by decide) (by decide) (fun _ _ => rfl) hframes hlocals hdg (fun H1 locs1 hP hD hS => kk H1 locs1 ?_)
  have e1 : va_cpy (fun t => nI (σ i t)) (fun t => nI (σ j t)) (nI 0).toNatClampNeg (nI 0).toNatClampNeg (nI 31).toNatClampNeg = fun t => nI (st_cp σ j 31 (σ i) j t) := funext (fun t => by
    rw [nI_clamp (by decide), nI_clamp (by decide)]
    unfold va_cpy st_cp
    rw [if_pos rfl]
    by_cases ht : t < 31
    · rw [if_pos ⟨Nat.zero_le _, by omega⟩, if_pos ht, Nat.zero_add, Nat.sub_zero]
    · rw [if_neg (by omega), if_neg ht])
  rw [e1, pw_set (kd_p2 hj)] at hP hD
  exact pw_eq ⟨hP, hD, hS, hW.2.2.2⟩ (en_up_row hj (fun a ha => st_cp_row ha))
end PCP
theorem dm_Poly_copyFrom_0 : decode bm_Poly_copyFrom 0 = .ok (.aload_n 1, 1) := by decide +kernel
theorem dm_Poly_copyFrom_1 : decode bm_Poly_copyFrom 1 = .ok (.getfield 9, 3) := by decide +kernel
theorem dm_Poly_copyFrom_4 : decode bm_Poly_copyFrom 4 = .ok (.iconst 0, 1) := by decide +kernel
theorem dm_Poly_copyFrom_5 : decode bm_Poly_copyFrom 5 = .ok (.aload_n 0, 1) := by decide +kernel
theorem dm_Poly_copyFrom_6 : decode bm_Poly_copyFrom 6 = .ok (.getfield 9, 3) := by decide +kernel
theorem dm_Poly_copyFrom_9 : decode bm_Poly_copyFrom 9 = .ok (.iconst 0, 1) := by decide +kernel
theorem dm_Poly_copyFrom_10 : decode bm_Poly_copyFrom 10 = .ok (.bipush 31, 2) := by decide +kernel
theorem dm_Poly_copyFrom_12 : decode bm_Poly_copyFrom 12 = .ok (.invokestatic 39, 3) := by decide +kernel
theorem dm_Poly_copyFrom_15 : decode bm_Poly_copyFrom 15 = .ok (.aload_n 0, 1) := by decide +kernel
theorem dm_Poly_copyFrom_16 : decode bm_Poly_copyFrom 16 = .ok (.aload_n 1, 1) := by decide +kernel
theorem dm_Poly_copyFrom_17 : decode bm_Poly_copyFrom 17 = .ok (.getfield 15, 3) := by decide +kernel
theorem dm_Poly_copyFrom_20 : decode bm_Poly_copyFrom 20 = .ok (.putfield 15, 3) := by decide +kernel
theorem dm_Poly_copyFrom_23 : decode bm_Poly_copyFrom 23 = .ok (.return_, 1) := by decide +kernel
set_option maxHeartbeats 4000000 in
set_option maxRecDepth 100000 in
theorem mm_Poly_copyFrom (l : Launch) (D : va_G) (k : ClassId × ClassId × ClassId) (g : Nat → Nat) (σ : st_T) {P i j : Nat} (hw : st_wf P σ) (hi : kd_k i = 0) (hj : kd_k j = 0) : mt_V l D k g ym_Poly_copyFrom wm_Poly_copyFrom rm_Poly_copyFrom [.ref (g j), .ref (g i)] σ (fun σ1 => σ1 = st_po σ j (σ i)) := by
  refine ct_V_in (cc := bm_Poly_copyFrom) (maxL := 2) (by decide) rfl (Nat.le_of_ble_eq_true rfl) ?_
  intro p e s m args below meth c A ls Q S hl hW hret
  have S : pw_S p m c bm_Poly_copyFrom 2 s args wa_g rc_Poly D cl_s (ty_s k) := S
  have hx := S.1.1
  have hb := S.1.2.1
  have hl : lv_has ls 2 [(0, .ref (g (j))), (1, .ref (g (i)))] := hl
  refine lv_aload_n hx hb dm_Poly_copyFrom_0 rfl (lv_at hl 1 rfl) ?_
  refine po_getc S hW hi (wa_in 40 (by decide +kernel) rfl) dm_Poly_copyFrom_1 ?_
  refine lv_iconst (v := nI (0)) hx hb dm_Poly_copyFrom_4 (by decide) ?_
  refine lv_aload_n hx hb dm_Poly_copyFrom_5 rfl (lv_at hl 0 rfl) ?_
  refine po_getc S hW hj (wa_in 40 (by decide +kernel) rfl) dm_Poly_copyFrom_6 ?_
  refine lv_iconst (v := nI (0)) hx hb dm_Poly_copyFrom_9 (by decide) ?_
  refine lv_bipush (v := nI (31)) hx hb dm_Poly_copyFrom_10 (by decide) ?_
  refine po_copy S hW hi hj hl.1 (wa_in 328 (by decide +kernel) rfl) (wa_in 330 (by decide +kernel) rfl) (wa_in 329 (by decide +kernel) rfl) (wa_in 11 (by decide +kernel) rfl) (by decide) (by decide) dm_Poly_copyFrom_12 (fun H locs hW => ?_)
  refine lv_aload_n hx hb dm_Poly_copyFrom_15 rfl (lv_at hl 0 rfl) ?_
  refine lv_aload_n hx hb dm_Poly_copyFrom_16 rfl (lv_at hl 1 rfl) ?_
  refine po_getd S hW hi (wa_in 46 (by decide +kernel) rfl) dm_Poly_copyFrom_17 ?_
  refine po_putd S hW hj (wa_in 46 (by decide +kernel) rfl) dm_Poly_copyFrom_20 (fun H locs hW => ?_)
  have hji := kd_po hj
  refine hret _ _ _ _ _ dm_Poly_copyFrom_23 ?_ hW
  refine st_po_of (by omega) (st_cp_all (fun b hb => ?_)) (fun a ha => st_cp_row ha) ?_
  · rw [((hw.2 j hj).1 b).2 hb, ((hw.2 i hi).1 b).2 hb]
  · rw [st_cp_row (by omega)]
    exact (hw.2 i hi).2
theorem dm_Poly_becomeTerm_0 : decode bm_Poly_becomeTerm 0 = .ok (.aload_n 0, 1) := by decide +kernel
theorem dm_Poly_becomeTerm_1 : decode bm_Poly_becomeTerm 1 = .ok (.invokevirtual 32, 3) := by decide +kernel
theorem dm_Poly_becomeTerm_4 : decode bm_Poly_becomeTerm 4 = .ok (.aload_n 0, 1) := by decide +kernel
theorem dm_Poly_becomeTerm_5 : decode bm_Poly_becomeTerm 5 = .ok (.iload_n 2, 1) := by decide +kernel
theorem dm_Poly_becomeTerm_6 : decode bm_Poly_becomeTerm 6 = .ok (.iload_n 1, 1) := by decide +kernel
theorem dm_Poly_becomeTerm_7 : decode bm_Poly_becomeTerm 7 = .ok (.invokevirtual 35, 3) := by decide +kernel
theorem dm_Poly_becomeTerm_10 : decode bm_Poly_becomeTerm 10 = .ok (.return_, 1) := by decide +kernel
set_option maxHeartbeats 4000000 in
set_option maxRecDepth 100000 in
theorem mm_Poly_becomeTerm (l : Launch) (D : va_G) (k : ClassId × ClassId × ClassId) (g : Nat → Nat) (σ : st_T) {P j v n : Nat} (hw : st_wf P σ) (hj : kd_k j = 0) (hn : n < 31) (hv : v < 2147483648) : mt_V l D k g ym_Poly_becomeTerm wm_Poly_becomeTerm rm_Poly_becomeTerm [.ref (g j), .int (nI v), .int (nI n)] σ (fun σ1 => σ1 = st_po σ j (va_up (fun _ => 0) n v)) := by
  refine ct_V_in (cc := bm_Poly_becomeTerm) (maxL := 3) (by decide) rfl (Nat.le_of_ble_eq_true rfl) ?_
  intro p e s m args below meth c A ls Q S hl hW hret
  have S : pw_S p m c bm_Poly_becomeTerm 3 s args wa_g rc_Poly D cl_s (ty_s k) := S
  have hx := S.1.1
  have hb := S.1.2.1
  have hl : lv_has ls 3 [(0, .ref (g (j))), (1, .int (nI (v))), (2, .int (nI (n)))] := hl
  refine lv_aload_n hx hb dm_Poly_becomeTerm_0 rfl (lv_at hl 0 rfl) ?_
  refine pw_callV (rest := []) S hW (mm_Poly_clear l D k g σ hj) (cv_Poly_32 S.1.2.2.2.2 ⟨by decide, by decide⟩) (kd_p1 hj) (en_k0 hj) rfl rfl hl.1 rfl (lv_room (Nat.le_of_ble_eq_true rfl)) ⟨Nat.zero_le _, Nat.zero_le _⟩ dm_Poly_becomeTerm_1 (fun σ1 H locs hp hW => ?_)
  rw [hp, st_cl_po hw hj] at hW
  refine lv_aload_n hx hb dm_Poly_becomeTerm_4 rfl (lv_at hl 0 rfl) ?_
  refine lv_iload_n hx hb dm_Poly_becomeTerm_5 rfl (lv_at hl 2 rfl) ?_
  refine lv_iload_n hx hb dm_Poly_becomeTerm_6 rfl (lv_at hl 1 rfl) ?_
  refine pw_callV (rest := []) S hW (mm_Poly_put l D k g (st_po σ j (fun _ => 0)) hj hn (by rw [st_po_at]; intro i; omega) hv) (cv_Poly_35 S.1.2.2.2.2 ⟨by decide, by decide⟩) (kd_p1 hj) (en_k0 hj) rfl rfl hl.1 rfl (lv_room (Nat.le_of_ble_eq_true rfl)) ⟨Nat.zero_le _, Nat.zero_le _⟩ dm_Poly_becomeTerm_7 (fun σ2 H locs hp2 hW => ?_)
  rw [hp2, st_pt_po hj, st_po_at, st_po_po (by have := kd_po hj; omega)] at hW
  exact hret _ _ _ _ _ dm_Poly_becomeTerm_10 rfl hW
