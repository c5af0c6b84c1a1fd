/-! Math.floorMod -/
/-- a number modulo P, from 0 on -/
def fm_n (x : Int32) (P : Nat) : Nat := (x.toInt % (P : Int)).toNat
theorem fm_T {x : Int32} {P : Nat} (hP : 0 < P) : ((fm_n x P : Nat) : Int) = x.toInt % (P : Int) := Int.toNat_of_nonneg (Int.emod_nonneg _ (by omega))
theorem fm_lt {x : Int32} {P : Nat} (hP : 0 < P) : fm_n x P < P := by
  have h1 := fm_T (x := x) hP
  have h2 := Int.emod_lt_of_pos x.toInt (show (0 : Int) < P by omega)
  omega
theorem fm_rem (x y : Int32) : (x - x / y * y).toInt = x.toInt.tmod y.toInt := by
  have a := (x % y).toInt_lt
  have b := (x % y).le_toInt
  rw [Int32.toInt_mod] at a b
  rw [Int32.toInt_sub, Int32.toInt_mul, Int32.toInt_div, Int.bmod_mul_bmod, Int.sub_bmod_bmod, Int.mul_comm, ← Int.tmod_def, Int.bmod_def]
  omega
theorem fm_xor {y : Int32} {P : Nat} (hP : P < 2147483648) : 0 ≤ (y ^^^ nI P).toInt ↔ 0 ≤ y.toInt := by
  have h1 : (y ^^^ nI P).toBitVec.msb = decide ((y ^^^ nI P).toInt < 0) := BitVec.msb_eq_toInt
  have h2 : y.toBitVec.msb = decide (y.toInt < 0) := BitVec.msb_eq_toInt
  have h3 : (nI P).toBitVec.msb = decide ((nI P).toInt < 0) := BitVec.msb_eq_toInt
  rw [Int32.toBitVec_xor, BitVec.msb_xor, h2, h3, nI_toInt hP, show decide ((P : Int) < 0) = false from decide_eq_false (by omega), Bool.xor_false] at h1
  by_cases hy : y.toInt < 0
  · rw [decide_eq_true hy] at h1
    have h4 := of_decide_eq_true h1.symm
    omega
  · rw [decide_eq_false hy] at h1
    have h4 := of_decide_eq_false h1.symm
    omega
theorem fm_pos {x : Int32} {P : Nat} (hP : 0 < P) {t : Int} (ht : x.toInt.tmod (P : Int) = t) (h0 : 0 ≤ t) : ((fm_n x P : Nat) : Int) = t := by
  have h1 := Int.tmod_lt_of_pos x.toInt (show (0 : Int) < P by omega)
  have h2 := Int.tmod_add_mul_tdiv x.toInt (P : Int)
  rw [ht] at h1 h2
  rw [fm_T hP, ← h2, Int.add_mul_emod_self_left, Int.emod_eq_of_lt h0 h1]
theorem fm_neg {x : Int32} {P : Nat} (hP : 0 < P) {t : Int} (ht : x.toInt.tmod (P : Int) = t) (h0 : t < 0) (hlo : -(P : Int) < t) : ((fm_n x P : Nat) : Int) = t + P := by
  have h2 := Int.tmod_add_mul_tdiv x.toInt (P : Int)
  rw [ht] at h2
  have h3 : t % (P : Int) = (t + P * 1) % (P : Int) := (Int.add_mul_emod_self_left t P 1).symm
  rw [fm_T hP, ← h2, Int.add_mul_emod_self_left, h3, Int.mul_one, Int.emod_eq_of_lt (by omega) (by omega)]
theorem wf_ofW {l : Launch} {y : MethodName} {ws ws' : List Cond} {rm : Room} {Pc : Array Value → State → Prop} {Qc : Array Value → State → Outcome → State → Prop} {mc ms : Nat} {free : Addr → Prop} {cc : ByteArray} {maxL : Nat} {ret : Option FieldType}
    (hy : plainFor y = true) (hw : ws = Cond.code y cc maxL ret :: ws')
    (body : ∀ p e s m args below meth c s₁, BodyLoose p l y (headSpec ws rm) cc maxL ret e s m args below meth c s₁ → c.maxLocals = maxL → Pc args s →
      W p l e (headSpec ws rm).room s m args below meth c s.heap [] 0 0 (MQ below Qc args s mc ms free) (entryFrame m args maxL)) : Met l y ws rm Pc Qc mc ms free := by
  refine MetFree.of_bodySF (code := cc) (maxLocals := maxL) (ret := ret) hy ?_ ?_
  · intro args s m h hn
    obtain ⟨meth, c, h1, h2, h3, h4, h5, h6, -, -⟩ := Cond.code_spec hn (atoms_spec (ws := ws) h _ (by rw [hw]; exact List.mem_cons_self))
    exact ⟨meth, c, h1, h2, h3, h4, h5, h6⟩
  · intro p e s m args below meth c s₁ B hml hP _
    have hh0 : s₁.heap = s.heap := by rw [B.state]; rfl
    obtain ⟨t, a1, o, b1, b2, b3⟩ := body p e s m args below meth c s₁ B hml hP s₁ hh0 (Stand.of_body B)
    exact ⟨t, o, a1, b1, b2, ⟨b3.1, b3.2⟩⟩
theorem ct_I_inF {S0 : Type} {l : Launch} {y : MethodName} {ws : List Cond} {rm : Room} {As : List Value} {D : va_G} {cl : List vw_C} {tys : List (ClassId × FieldType)} {g : Nat → Nat} {N : Nat} {en : S0 → Nat → va_E} {u : S0} {post : Int32 → S0 → Prop} {cc : ByteArray} {maxL : Nat} (hy : plainFor y = true) (hw : ws = Cond.code y cc maxL (some .int) :: wa_g) (hlen : (lg_sl As).length ≤ maxL)
    (body : ∀ (p : Program) (e : Env) (s : State) (m : MethodId) (args : Array Value) (below : List Frame) (meth : Method) (c : Code) (A : Nat → Prop) (ls : Array Slot) (Q : State → Prop), pw_S p m c cc maxL s args wa_g y.cls D cl tys → lv_has ls maxL (lv_args 0 As) → pw_H D cl A s.heap g N (en u) s.heap [] →
      (∀ (pc : Nat) (ls : Array Slot) (H : Heap) (locs : List Loc) (r : Int32) (u' : S0), decode cc pc = .ok (.ireturn, 1) → post r u' → pw_H D cl A s.heap g N (en u') H locs → W p l e rm s m args below meth c H locs 0 0 Q (F0 m pc ls [.int r])) → W p l e rm s m args below meth c s.heap [] 0 0 Q (F0 m 0 ls [])) : ct_I l y ws rm As D cl tys g N en u post := by
  intro sz
  refine wf_ofW (cc := cc) (maxL := maxL) (ret := some .int) hy hw ?_
  intro p e s m args below meth c s₁ B hml hv
  obtain ⟨rfl, hsz, hP, hK, hD0⟩ := hv
  have hx := B.exec
  have hb := B.bytes
  have hr := B.returns
  have hts := atoms_spec (ws := ws) B.pre
  have hown := findClass_of_methodNamed B.named
  have hlocks := B.notSynchronized
  subst hsz
  have hl := lv_entry As (n := maxL) hlen
  rw [lg_entry_eq]
  refine body p e s m _ below meth c (pw_A g N s.heap.size) _ _ ⟨⟨hx, hb, hml, hown, fun w h => hts w (by rw [hw]; exact List.mem_cons_of_mem _ h)⟩, hK⟩ hl ⟨hP, pw_D_A hD0, va_S.rf, fun q h => Or.inr h⟩ (fun pc ls H locs r u' hd hp hW => ?_)
  exact W.iret hx hb hr (fun t ht hWm => ⟨⟨r, u', rfl, hp, by rw [ht]; exact hW.1, va_K.moved hWm.alike hK, hW.2.1⟩, hW.2.2.1.F ht⟩) hW.2.2.1.2.2 hd
theorem dm_Math_floorMod_0 : decode bm_Math_floorMod 0 = .ok (.iload_n 0, 1) := by decide +kernel
theorem dm_Math_floorMod_1 : decode bm_Math_floorMod 1 = .ok (.iload_n 1, 1) := by decide +kernel
theorem dm_Math_floorMod_2 : decode bm_Math_floorMod 2 = .ok (.irem, 1) := by decide +kernel
theorem dm_Math_floorMod_3 : decode bm_Math_floorMod 3 = .ok (.istore_n 2, 1) := by decide +kernel
theorem dm_Math_floorMod_4 : decode bm_Math_floorMod 4 = .ok (.iload_n 0, 1) := by decide +kernel
theorem dm_Math_floorMod_5 : decode bm_Math_floorMod 5 = .ok (.iload_n 1, 1) := by decide +kernel
theorem dm_Math_floorMod_6 : decode bm_Math_floorMod 6 = .ok (.ixor, 1) := by decide +kernel
theorem dm_Math_floorMod_7 : decode bm_Math_floorMod 7 = .ok (.ifCond .ge 11, 3) := by decide +kernel
theorem dm_Math_floorMod_10 : decode bm_Math_floorMod 10 = .ok (.iload_n 2, 1) := by decide +kernel
theorem dm_Math_floorMod_11 : decode bm_Math_floorMod 11 = .ok (.ifCond .eq 7, 3) := by decide +kernel
theorem dm_Math_floorMod_14 : decode bm_Math_floorMod 14 = .ok (.iload_n 2, 1) := by decide +kernel
theorem dm_Math_floorMod_15 : decode bm_Math_floorMod 15 = .ok (.iload_n 1, 1) := by decide +kernel
theorem dm_Math_floorMod_16 : decode bm_Math_floorMod 16 = .ok (.iadd, 1) := by decide +kernel
theorem dm_Math_floorMod_17 : decode bm_Math_floorMod 17 = .ok (.ireturn, 1) := by decide +kernel
theorem dm_Math_floorMod_18 : decode bm_Math_floorMod 18 = .ok (.iload_n 2, 1) := by decide +kernel
theorem dm_Math_floorMod_19 : decode bm_Math_floorMod 19 = .ok (.ireturn, 1) := by decide +kernel
set_option maxHeartbeats 4000000 in
set_option maxRecDepth 100000 in
theorem mm_Math_floorMod (l : Launch) (D : va_G) (k : ClassId × ClassId × ClassId) (g : Nat → Nat) (σ : st_T) {x : Int32} {P : Nat} (hP : 0 < P) (hP31 : P < 2147483648) : mt_I l D k g ym_Math_floorMod wm_Math_floorMod rm_Math_floorMod [.int x, .int (nI P)] σ (fun r σ1 => r = nI (fm_n x P) ∧ σ1 = σ) := by
  refine ct_I_inF (cc := bm_Math_floorMod) (maxL := 3) (by decide +kernel) rfl (Nat.le_of_ble_eq_true rfl) ?_
  intro p e s m args below meth c A ls Q S hl hW hret
  have S : pw_S p m c bm_Math_floorMod 3 s args wa_g rc_Math D cl_s (ty_s k) := S
  have hx := S.1.1
  have hb := S.1.2.1
  have hl : lv_has ls 3 [(0, .int (x)), (1, .int (nI (P)))] := hl
  refine lv_iload_n hx hb dm_Math_floorMod_0 rfl (lv_at hl 0 rfl) ?_
  refine lv_iload_n hx hb dm_Math_floorMod_1 rfl (lv_at hl 1 rfl) ?_
  refine lv_irem hx hb dm_Math_floorMod_2 (nI_ne0 hP hP31) ?_
  refine lv_topi (fun y hy => ?_)
  have hT : x.toInt.tmod (P : Int) = y.toInt := by rw [hy, fm_rem, nI_toInt hP31]
  have hup := Int.tmod_lt_of_pos x.toInt (show (0 : Int) < P by omega)
  have hlo := Int.lt_tmod_of_pos x.toInt (show (0 : Int) < P by omega)
  rw [hT] at hup hlo
  have hfl := fm_lt (x := x) hP
  have hsg : 0 ≤ x.toInt → 0 ≤ y.toInt := fun h => by rw [← hT]; exact Int.tmod_nonneg _ h
  have hsn : x.toInt < 0 → y.toInt ≤ 0 := fun h => by
    have h1 := Int.tmod_nonneg (P : Int) (show 0 ≤ -x.toInt by omega)
    rw [Int.neg_tmod] at h1
    omega
  refine lv_istore_n hx hb dm_Math_floorMod_3 rfl hl (by decide) rfl (fun ls hl => ?_)
  have hl : lv_has ls 3 [(2, .int (y)), (0, .int (x)), (1, .int (nI (P)))] := hl
  refine lv_iload_n hx hb dm_Math_floorMod_4 rfl (lv_at hl 1 rfl) ?_
  refine lv_iload_n hx hb dm_Math_floorMod_5 rfl (lv_at hl 2 rfl) ?_
  refine lv_ixor hx hb dm_Math_floorMod_6 ?_
  refine wi_if_ge (tgt := 18) S rfl dm_Math_floorMod_7 (by decide) (fun hc => ?_) (fun hc => ?_)
  · refine lv_iload_n hx hb dm_Math_floorMod_18 rfl (lv_at hl 0 rfl) ?_
    have h0 := hsg ((fm_xor hP31).mp hc)
    have h1 := fm_pos hP hT h0
    exact hret _ _ _ _ _ _ dm_Math_floorMod_19 ⟨Int32.toInt_inj.mp (by rw [nI_toInt (by omega), h1]), rfl⟩ hW
  · have hxn : x.toInt < 0 := Int.not_le.mp (fun z => absurd ((fm_xor hP31).mpr z) (by omega))
    have hyn := hsn hxn
    refine lv_iload_n hx hb dm_Math_floorMod_10 rfl (lv_at hl 0 rfl) ?_
    refine wi_if_eq (tgt := 18) S rfl dm_Math_floorMod_11 (by decide) (fun hc => ?_) (fun hc => ?_)
    · refine lv_iload_n hx hb dm_Math_floorMod_18 rfl (lv_at hl 0 rfl) ?_
      have h1 := fm_pos hP hT (by omega)
      exact hret _ _ _ _ _ _ dm_Math_floorMod_19 ⟨Int32.toInt_inj.mp (by rw [nI_toInt (by omega), h1]), rfl⟩ hW
    · have h1 := fm_neg hP hT (by omega) hlo
      refine lv_iload_n hx hb dm_Math_floorMod_14 rfl (lv_at hl 0 rfl) ?_
      refine lv_iload_n hx hb dm_Math_floorMod_15 rfl (lv_at hl 2 rfl) ?_
      refine lv_iadd hx hb dm_Math_floorMod_16 ?_
      exact hret _ _ _ _ _ _ dm_Math_floorMod_17 ⟨Int32.toInt_inj.mp (by rw [nI_toInt (by omega), h1, Int32.toInt_add, nI_toInt hP31, Int.bmod_def]; omega), rfl⟩ hW
