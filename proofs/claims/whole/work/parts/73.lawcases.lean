/-! The law's cases (printed by gen/law2.py) -/
section LWC
variable {p : Program} {l : Launch} {e : Env} {s : State} {m : MethodId} {below : List Frame} {meth : Method} {c : Code} {H : Heap} {locs : List Loc} {Q : State → Prop} {ls : Array Slot} {D : va_G} {A : Nat → Prop} {g : Nat → Nat} {b L i P : Nat} {xs : Nat → Int32} {k : ClassId × ClassId × ClassId} {σ : st_T}
/-- where a case stands -/
def lw_W (p : Program) (l : Launch) (e : Env) (s : State) (m : MethodId) (below : List Frame) (meth : Method) (c : Code) (b : Nat) (Q : State → Prop) (ls : Array Slot) (H : Heap) (locs : List Loc) (pc : Nat) (st : List Value) : Prop := W p l e room_1 s m #[Value.ref b] below meth c H locs 153 3298 Q (F0 m pc ls st)
theorem lw_ld (S : pw_S p m c code 4 s #[Value.ref b] wa_g rc_Law D cl_s (ty_s k)) (hX : va_X b L xs s s.heap) (hbl : b < s.heap.size) (hbA : ¬ A b) (hL : L ≤ 3073) {E : Nat → va_E} {N : Nat} (hW : pw_H D cl_s A s.heap g N E H locs) {cells slots j pc : Nat} {rest : List Value} (hj : i + j < L) (hdg : decode code pc = .ok (.iaload, 1)) (kk : W p l e room_1 s m #[Value.ref b] below meth c H locs cells slots Q (F0 m (pc + 1) ls (.int (xs (i + j)) :: rest))) : W p l e room_1 s m #[Value.ref b] below meth c H locs cells slots Q (F0 m pc ls (.int (nI (i + j)) :: .ref b :: rest)) := by
  refine va_sld S.1.1 S.1.2.1 hX hbl hbA hW.2.2.1 (vp_in_nI hj (by omega)) hdg ?_
  rw [nI_clamp (by omega)]
  exact kk

set_option maxHeartbeats 4000000 in
theorem lw_c0 (S : pw_S p m c code 4 s #[Value.ref b] wa_g rc_Law D cl_s (ty_s k)) (hX : va_X b L xs s s.heap) (hbl : b < s.heap.size) (hbA : ¬ A b) (hP : ag_pr P) (hP31 : P < 2147483648) (hL : L ≤ 3073) (hl : lv_has ls 4 [(3, .int (nI i)), (2, .ref (g 149)), (1, .ref (g 0)), (0, .ref b)]) (hi : i + 6 ≤ L) (hlr : lr P σ) (hW : pw_H D cl_s A s.heap g 153 (en_s k g σ) H locs) (K : ∀ (σ2 : st_T) (H : Heap) (locs : List Loc), lr P σ2 → pw_H D cl_s A s.heap g 153 (en_s k g σ2) H locs → lw_W p l e s m below meth c b Q ls H locs 872 []) : lw_W p l e s m below meth c b Q ls H locs 136 [] := by
  have hx := S.1.1
  have hb := S.1.2.1
  obtain ⟨R, F, L0, ld, hA, hc, hm⟩ := hlr
  unfold lw_W at K ⊢
  refine lv_aload_n hx hb dm_Law_136 rfl (lv_at hl 2 rfl) ?_
  refine pw_callVI (rest := []) (As := []) S hW (mm_PP_prime l D k g σ  ) (cv_Law_21 S.1.2.2.2.2 ⟨by decide, by decide⟩) (by decide) en_PP rfl rfl hl.1 rfl (lv_room (Nat.le_of_ble_eq_true rfl)) ⟨by decide, by decide⟩ dm_Law_137 (fun r σ1 H locs hC hW => ?_)
  have hC : qC_prime P σ  r σ1 := hC
  have hm1 := kC_prime hA hm hC
  refine lv_aload_n hx hb dm_Law_140 rfl (lv_at hl 1 rfl) ?_
  refine pw_callVI (rest := [.int r]) (As := []) S hW (mm_Model_prime l D k g σ1  ) (cv_Law_25 S.1.2.2.2.2 ⟨by decide, by decide⟩) (by decide) en_Model rfl rfl hl.1 rfl (lv_room (Nat.le_of_ble_eq_true rfl)) ⟨by decide, by decide⟩ dm_Law_141 (fun r2 σ2 H locs hM hW => ?_)
  have hM : qM_prime P σ1  r2 σ2 := hM
  obtain ⟨he, hlr⟩ := jn_prime hP hP31 hA hc hm hC hM
  subst he
  exact wi_icmp_eq (tgt := 872) S rfl rfl dm_Law_144 (by decide) (fun _ => K σ2 H locs hlr hW) (fun h => absurd rfl h)
set_option maxHeartbeats 4000000 in
theorem lw_c1 (S : pw_S p m c code 4 s #[Value.ref b] wa_g rc_Law D cl_s (ty_s k)) (hX : va_X b L xs s s.heap) (hbl : b < s.heap.size) (hbA : ¬ A b) (hP : ag_pr P) (hP31 : P < 2147483648) (hL : L ≤ 3073) (hl : lv_has ls 4 [(3, .int (nI i)), (2, .ref (g 149)), (1, .ref (g 0)), (0, .ref b)]) (hi : i + 6 ≤ L) (hlr : lr P σ) (hW : pw_H D cl_s A s.heap g 153 (en_s k g σ) H locs) (K : ∀ (σ2 : st_T) (H : Heap) (locs : List Loc), lr P σ2 → pw_H D cl_s A s.heap g 153 (en_s k g σ2) H locs → lw_W p l e s m below meth c b Q ls H locs 872 []) : lw_W p l e s m below meth c b Q ls H locs 149 [] := by
  have hx := S.1.1
  have hb := S.1.2.1
  obtain ⟨R, F, L0, ld, hA, hc, hm⟩ := hlr
  unfold lw_W at K ⊢
  refine lv_aload_n hx hb dm_Law_149 rfl (lv_at hl 2 rfl) ?_
  refine lv_aload_n hx hb dm_Law_150 rfl (lv_at hl 3 rfl) ?_
  refine lv_iload_n hx hb dm_Law_151 rfl (lv_at hl 0 rfl) ?_
  refine lv_iconst (v := nI 1) hx hb dm_Law_152 (by decide) ?_
  refine wn_iadd S dm_Law_153 ?_
  refine lw_ld S hX hbl hbA hL hW (by omega) dm_Law_154 ?_
  refine lv_aload_n hx hb dm_Law_155 rfl (lv_at hl 3 rfl) ?_
  refine lv_iload_n hx hb dm_Law_156 rfl (lv_at hl 0 rfl) ?_
  refine lv_iconst (v := nI 2) hx hb dm_Law_157 (by decide) ?_
  refine wn_iadd S dm_Law_158 ?_
  refine lw_ld S hX hbl hbA hL hW (by omega) dm_Law_159 ?_
  refine lv_aload_n hx hb dm_Law_160 rfl (lv_at hl 3 rfl) ?_
  refine lv_iload_n hx hb dm_Law_161 rfl (lv_at hl 0 rfl) ?_
  refine lv_iconst (v := nI 3) hx hb dm_Law_162 (by decide) ?_
  refine wn_iadd S dm_Law_163 ?_
  refine lw_ld S hX hbl hbA hL hW (by omega) dm_Law_164 ?_
  refine pw_callVI (rest := []) (As := [.int (xs (i + 1)), .int (xs (i + 2)), .int (xs (i + 3))]) S hW (mm_PP_set l D k g σ hc.1 hP hP31 (pc_rg hA hc) (a := (xs (i + 1))) (b := (xs (i + 2))) (c0 := (xs (i + 3)))) (cv_Law_26 S.1.2.2.2.2 ⟨by decide, by decide⟩) (by decide) en_PP rfl rfl hl.1 rfl (lv_room (Nat.le_of_ble_eq_true rfl)) ⟨by decide, by decide⟩ dm_Law_165 (fun r σ1 H locs hC hW => ?_)
  have hC : qC_set P σ (xs (i + 1)) (xs (i + 2)) (xs (i + 3)) r σ1 := hC
  have hm1 := kC_set hA hm hC
  refine lv_aload_n hx hb dm_Law_168 rfl (lv_at hl 1 rfl) ?_
  refine lv_aload_n hx hb dm_Law_169 rfl (lv_at hl 3 rfl) ?_
  refine lv_iload_n hx hb dm_Law_170 rfl (lv_at hl 0 rfl) ?_
  refine lv_iconst (v := nI 1) hx hb dm_Law_171 (by decide) ?_
  refine wn_iadd S dm_Law_172 ?_
  refine lw_ld S hX hbl hbA hL hW (by omega) dm_Law_173 ?_
  refine lv_aload_n hx hb dm_Law_174 rfl (lv_at hl 3 rfl) ?_
  refine lv_iload_n hx hb dm_Law_175 rfl (lv_at hl 0 rfl) ?_
  refine lv_iconst (v := nI 2) hx hb dm_Law_176 (by decide) ?_
  refine wn_iadd S dm_Law_177 ?_
  refine lw_ld S hX hbl hbA hL hW (by omega) dm_Law_178 ?_
  refine lv_aload_n hx hb dm_Law_179 rfl (lv_at hl 3 rfl) ?_
  refine lv_iload_n hx hb dm_Law_180 rfl (lv_at hl 0 rfl) ?_
  refine lv_iconst (v := nI 3) hx hb dm_Law_181 (by decide) ?_
  refine wn_iadd S dm_Law_182 ?_
  refine lw_ld S hX hbl hbA hL hW (by omega) dm_Law_183 ?_
  refine pw_callVI (rest := [.int r]) (As := [.int (xs (i + 1)), .int (xs (i + 2)), .int (xs (i + 3))]) S hW (mm_Model_set l D k g σ1 hm1.1 hP hP31 (pm_rg hA hm1) (a := (xs (i + 1))) (b := (xs (i + 2))) (c0 := (xs (i + 3)))) (cv_Law_30 S.1.2.2.2.2 ⟨by decide, by decide⟩) (by decide) en_Model rfl rfl hl.1 rfl (lv_room (Nat.le_of_ble_eq_true rfl)) ⟨by decide, by decide⟩ dm_Law_184 (fun r2 σ2 H locs hM hW => ?_)
  have hM : qM_set P σ1 (xs (i + 1)) (xs (i + 2)) (xs (i + 3)) r2 σ2 := hM
  obtain ⟨he, hlr⟩ := jn_set hP hP31 hA hc hm hC hM
  subst he
  exact wi_icmp_eq (tgt := 872) S rfl rfl dm_Law_187 (by decide) (fun _ => K σ2 H locs hlr hW) (fun h => absurd rfl h)
set_option maxHeartbeats 4000000 in
theorem lw_c2 (S : pw_S p m c code 4 s #[Value.ref b] wa_g rc_Law D cl_s (ty_s k)) (hX : va_X b L xs s s.heap) (hbl : b < s.heap.size) (hbA : ¬ A b) (hP : ag_pr P) (hP31 : P < 2147483648) (hL : L ≤ 3073) (hl : lv_has ls 4 [(3, .int (nI i)), (2, .ref (g 149)), (1, .ref (g 0)), (0, .ref b)]) (hi : i + 6 ≤ L) (hlr : lr P σ) (hW : pw_H D cl_s A s.heap g 153 (en_s k g σ) H locs) (K : ∀ (σ2 : st_T) (H : Heap) (locs : List Loc), lr P σ2 → pw_H D cl_s A s.heap g 153 (en_s k g σ2) H locs → lw_W p l e s m below meth c b Q ls H locs 872 []) : lw_W p l e s m below meth c b Q ls H locs 192 [] := by
  have hx := S.1.1
  have hb := S.1.2.1
  obtain ⟨R, F, L0, ld, hA, hc, hm⟩ := hlr
  unfold lw_W at K ⊢
  refine lv_aload_n hx hb dm_Law_192 rfl (lv_at hl 2 rfl) ?_
  refine lv_aload_n hx hb dm_Law_193 rfl (lv_at hl 3 rfl) ?_
  refine lv_iload_n hx hb dm_Law_194 rfl (lv_at hl 0 rfl) ?_
  refine lv_iconst (v := nI 1) hx hb dm_Law_195 (by decide) ?_
  refine wn_iadd S dm_Law_196 ?_
  refine lw_ld S hX hbl hbA hL hW (by omega) dm_Law_197 ?_
  refine lv_aload_n hx hb dm_Law_198 rfl (lv_at hl 3 rfl) ?_
  refine lv_iload_n hx hb dm_Law_199 rfl (lv_at hl 0 rfl) ?_
  refine lv_iconst (v := nI 2) hx hb dm_Law_200 (by decide) ?_
  refine wn_iadd S dm_Law_201 ?_
  refine lw_ld S hX hbl hbA hL hW (by omega) dm_Law_202 ?_
  refine pw_callVI (rest := []) (As := [.int (xs (i + 1)), .int (xs (i + 2))]) S hW (mm_PP_coefficient l D k g σ  (a := (xs (i + 1))) (b := (xs (i + 2)))) (cv_Law_31 S.1.2.2.2.2 ⟨by decide, by decide⟩) (by decide) en_PP rfl rfl hl.1 rfl (lv_room (Nat.le_of_ble_eq_true rfl)) ⟨by decide, by decide⟩ dm_Law_203 (fun r σ1 H locs hC hW => ?_)
  have hC : qC_coefficient P σ (xs (i + 1)) (xs (i + 2)) r σ1 := hC
  have hm1 := kC_coefficient hA hm hC
  refine lv_aload_n hx hb dm_Law_206 rfl (lv_at hl 1 rfl) ?_
  refine lv_aload_n hx hb dm_Law_207 rfl (lv_at hl 3 rfl) ?_
  refine lv_iload_n hx hb dm_Law_208 rfl (lv_at hl 0 rfl) ?_
  refine lv_iconst (v := nI 1) hx hb dm_Law_209 (by decide) ?_
  refine wn_iadd S dm_Law_210 ?_
  refine lw_ld S hX hbl hbA hL hW (by omega) dm_Law_211 ?_
  refine lv_aload_n hx hb dm_Law_212 rfl (lv_at hl 3 rfl) ?_
  refine lv_iload_n hx hb dm_Law_213 rfl (lv_at hl 0 rfl) ?_
  refine lv_iconst (v := nI 2) hx hb dm_Law_214 (by decide) ?_
  refine wn_iadd S dm_Law_215 ?_
  refine lw_ld S hX hbl hbA hL hW (by omega) dm_Law_216 ?_
  refine pw_callVI (rest := [.int r]) (As := [.int (xs (i + 1)), .int (xs (i + 2))]) S hW (mm_Model_coefficient l D k g σ1  (a := (xs (i + 1))) (b := (xs (i + 2)))) (cv_Law_35 S.1.2.2.2.2 ⟨by decide, by decide⟩) (by decide) en_Model rfl rfl hl.1 rfl (lv_room (Nat.le_of_ble_eq_true rfl)) ⟨by decide, by decide⟩ dm_Law_217 (fun r2 σ2 H locs hM hW => ?_)
  have hM : qM_coefficient P σ1 (xs (i + 1)) (xs (i + 2)) r2 σ2 := hM
  obtain ⟨he, hlr⟩ := jn_coefficient hP hP31 hA hc hm hC hM
  subst he
  exact wi_icmp_eq (tgt := 872) S rfl rfl dm_Law_220 (by decide) (fun _ => K σ2 H locs hlr hW) (fun h => absurd rfl h)
set_option maxHeartbeats 4000000 in
theorem lw_c3 (S : pw_S p m c code 4 s #[Value.ref b] wa_g rc_Law D cl_s (ty_s k)) (hX : va_X b L xs s s.heap) (hbl : b < s.heap.size) (hbA : ¬ A b) (hP : ag_pr P) (hP31 : P < 2147483648) (hL : L ≤ 3073) (hl : lv_has ls 4 [(3, .int (nI i)), (2, .ref (g 149)), (1, .ref (g 0)), (0, .ref b)]) (hi : i + 6 ≤ L) (hlr : lr P σ) (hW : pw_H D cl_s A s.heap g 153 (en_s k g σ) H locs) (K : ∀ (σ2 : st_T) (H : Heap) (locs : List Loc), lr P σ2 → pw_H D cl_s A s.heap g 153 (en_s k g σ2) H locs → lw_W p l e s m below meth c b Q ls H locs 872 []) : lw_W p l e s m below meth c b Q ls H locs 225 [] := by
  have hx := S.1.1
  have hb := S.1.2.1
  obtain ⟨R, F, L0, ld, hA, hc, hm⟩ := hlr
  unfold lw_W at K ⊢
  refine lv_aload_n hx hb dm_Law_225 rfl (lv_at hl 2 rfl) ?_
  refine lv_aload_n hx hb dm_Law_226 rfl (lv_at hl 3 rfl) ?_
  refine lv_iload_n hx hb dm_Law_227 rfl (lv_at hl 0 rfl) ?_
  refine lv_iconst (v := nI 1) hx hb dm_Law_228 (by decide) ?_
  refine wn_iadd S dm_Law_229 ?_
  refine lw_ld S hX hbl hbA hL hW (by omega) dm_Law_230 ?_
  refine pw_callVI (rest := []) (As := [.int (xs (i + 1))]) S hW (mm_PP_size l D k g σ  (a := (xs (i + 1)))) (cv_Law_36 S.1.2.2.2.2 ⟨by decide, by decide⟩) (by decide) en_PP rfl rfl hl.1 rfl (lv_room (Nat.le_of_ble_eq_true rfl)) ⟨by decide, by decide⟩ dm_Law_231 (fun r σ1 H locs hC hW => ?_)
  have hC : qC_size P σ (xs (i + 1)) r σ1 := hC
  have hm1 := kC_size hA hm hC
  refine lv_aload_n hx hb dm_Law_234 rfl (lv_at hl 1 rfl) ?_
  refine lv_aload_n hx hb dm_Law_235 rfl (lv_at hl 3 rfl) ?_
  refine lv_iload_n hx hb dm_Law_236 rfl (lv_at hl 0 rfl) ?_
  refine lv_iconst (v := nI 1) hx hb dm_Law_237 (by decide) ?_
  refine wn_iadd S dm_Law_238 ?_
  refine lw_ld S hX hbl hbA hL hW (by omega) dm_Law_239 ?_
  refine pw_callVI (rest := [.int r]) (As := [.int (xs (i + 1))]) S hW (mm_Model_size l D k g σ1 hm1.1 hP hP31 (pm_rg hA hm1) (a := (xs (i + 1)))) (cv_Law_40 S.1.2.2.2.2 ⟨by decide, by decide⟩) (by decide) en_Model rfl rfl hl.1 rfl (lv_room (Nat.le_of_ble_eq_true rfl)) ⟨by decide, by decide⟩ dm_Law_240 (fun r2 σ2 H locs hM hW => ?_)
  have hM : qM_size P σ1 (xs (i + 1)) r2 σ2 := hM
  obtain ⟨he, hlr⟩ := jn_size hP hP31 hA hc hm hC hM
  subst he
  exact wi_icmp_eq (tgt := 872) S rfl rfl dm_Law_243 (by decide) (fun _ => K σ2 H locs hlr hW) (fun h => absurd rfl h)
set_option maxHeartbeats 4000000 in
theorem lw_c4 (S : pw_S p m c code 4 s #[Value.ref b] wa_g rc_Law D cl_s (ty_s k)) (hX : va_X b L xs s s.heap) (hbl : b < s.heap.size) (hbA : ¬ A b) (hP : ag_pr P) (hP31 : P < 2147483648) (hL : L ≤ 3073) (hl : lv_has ls 4 [(3, .int (nI i)), (2, .ref (g 149)), (1, .ref (g 0)), (0, .ref b)]) (hi : i + 6 ≤ L) (hlr : lr P σ) (hW : pw_H D cl_s A s.heap g 153 (en_s k g σ) H locs) (K : ∀ (σ2 : st_T) (H : Heap) (locs : List Loc), lr P σ2 → pw_H D cl_s A s.heap g 153 (en_s k g σ2) H locs → lw_W p l e s m below meth c b Q ls H locs 872 []) : lw_W p l e s m below meth c b Q ls H locs 248 [] := by
  have hx := S.1.1
  have hb := S.1.2.1
  obtain ⟨R, F, L0, ld, hA, hc, hm⟩ := hlr
  unfold lw_W at K ⊢
  refine lv_aload_n hx hb dm_Law_248 rfl (lv_at hl 2 rfl) ?_
  refine lv_aload_n hx hb dm_Law_249 rfl (lv_at hl 3 rfl) ?_
  refine lv_iload_n hx hb dm_Law_250 rfl (lv_at hl 0 rfl) ?_
  refine lv_iconst (v := nI 1) hx hb dm_Law_251 (by decide) ?_
  refine wn_iadd S dm_Law_252 ?_
  refine lw_ld S hX hbl hbA hL hW (by omega) dm_Law_253 ?_
  refine lv_aload_n hx hb dm_Law_254 rfl (lv_at hl 3 rfl) ?_
  refine lv_iload_n hx hb dm_Law_255 rfl (lv_at hl 0 rfl) ?_
  refine lv_iconst (v := nI 2) hx hb dm_Law_256 (by decide) ?_
  refine wn_iadd S dm_Law_257 ?_
  refine lw_ld S hX hbl hbA hL hW (by omega) dm_Law_258 ?_
  refine pw_callVI (rest := []) (As := [.int (xs (i + 1)), .int (xs (i + 2))]) S hW (mm_PP_value l D k g σ hc.1 hP hP31 (pc_rg hA hc) (a := (xs (i + 1))) (c0 := (xs (i + 2)))) (cv_Law_41 S.1.2.2.2.2 ⟨by decide, by decide⟩) (by decide) en_PP rfl rfl hl.1 rfl (lv_room (Nat.le_of_ble_eq_true rfl)) ⟨by decide, by decide⟩ dm_Law_259 (fun r σ1 H locs hC hW => ?_)
  have hC : qC_value P σ (xs (i + 1)) (xs (i + 2)) r σ1 := hC
  have hm1 := kC_value hA hm hC
  refine lv_aload_n hx hb dm_Law_262 rfl (lv_at hl 1 rfl) ?_
  refine lv_aload_n hx hb dm_Law_263 rfl (lv_at hl 3 rfl) ?_
  refine lv_iload_n hx hb dm_Law_264 rfl (lv_at hl 0 rfl) ?_
  refine lv_iconst (v := nI 1) hx hb dm_Law_265 (by decide) ?_
  refine wn_iadd S dm_Law_266 ?_
  refine lw_ld S hX hbl hbA hL hW (by omega) dm_Law_267 ?_
  refine lv_aload_n hx hb dm_Law_268 rfl (lv_at hl 3 rfl) ?_
  refine lv_iload_n hx hb dm_Law_269 rfl (lv_at hl 0 rfl) ?_
  refine lv_iconst (v := nI 2) hx hb dm_Law_270 (by decide) ?_
  refine wn_iadd S dm_Law_271 ?_
  refine lw_ld S hX hbl hbA hL hW (by omega) dm_Law_272 ?_
  refine pw_callVI (rest := [.int r]) (As := [.int (xs (i + 1)), .int (xs (i + 2))]) S hW (mm_Model_value l D k g σ1 hm1.1 hP hP31 (pm_rg hA hm1) (a := (xs (i + 1))) (c0 := (xs (i + 2)))) (cv_Law_44 S.1.2.2.2.2 ⟨by decide, by decide⟩) (by decide) en_Model rfl rfl hl.1 rfl (lv_room (Nat.le_of_ble_eq_true rfl)) ⟨by decide, by decide⟩ dm_Law_273 (fun r2 σ2 H locs hM hW => ?_)
  have hM : qM_value P σ1 (xs (i + 1)) (xs (i + 2)) r2 σ2 := hM
  obtain ⟨he, hlr⟩ := jn_value hP hP31 hA hc hm hC hM
  subst he
  exact wi_icmp_eq (tgt := 872) S rfl rfl dm_Law_276 (by decide) (fun _ => K σ2 H locs hlr hW) (fun h => absurd rfl h)
set_option maxHeartbeats 4000000 in
theorem lw_c5 (S : pw_S p m c code 4 s #[Value.ref b] wa_g rc_Law D cl_s (ty_s k)) (hX : va_X b L xs s s.heap) (hbl : b < s.heap.size) (hbA : ¬ A b) (hP : ag_pr P) (hP31 : P < 2147483648) (hL : L ≤ 3073) (hl : lv_has ls 4 [(3, .int (nI i)), (2, .ref (g 149)), (1, .ref (g 0)), (0, .ref b)]) (hi : i + 6 ≤ L) (hlr : lr P σ) (hW : pw_H D cl_s A s.heap g 153 (en_s k g σ) H locs) (K : ∀ (σ2 : st_T) (H : Heap) (locs : List Loc), lr P σ2 → pw_H D cl_s A s.heap g 153 (en_s k g σ2) H locs → lw_W p l e s m below meth c b Q ls H locs 872 []) : lw_W p l e s m below meth c b Q ls H locs 281 [] := by
  have hx := S.1.1
  have hb := S.1.2.1
  obtain ⟨R, F, L0, ld, hA, hc, hm⟩ := hlr
  unfold lw_W at K ⊢
  refine lv_aload_n hx hb dm_Law_281 rfl (lv_at hl 2 rfl) ?_
  refine lv_aload_n hx hb dm_Law_282 rfl (lv_at hl 3 rfl) ?_
  refine lv_iload_n hx hb dm_Law_283 rfl (lv_at hl 0 rfl) ?_
  refine lv_iconst (v := nI 1) hx hb dm_Law_284 (by decide) ?_
  refine wn_iadd S dm_Law_285 ?_
  refine lw_ld S hX hbl hbA hL hW (by omega) dm_Law_286 ?_
  refine lv_aload_n hx hb dm_Law_287 rfl (lv_at hl 3 rfl) ?_
  refine lv_iload_n hx hb dm_Law_288 rfl (lv_at hl 0 rfl) ?_
  refine lv_iconst (v := nI 2) hx hb dm_Law_289 (by decide) ?_
  refine wn_iadd S dm_Law_290 ?_
  refine lw_ld S hX hbl hbA hL hW (by omega) dm_Law_291 ?_
  refine lv_aload_n hx hb dm_Law_292 rfl (lv_at hl 3 rfl) ?_
  refine lv_iload_n hx hb dm_Law_293 rfl (lv_at hl 0 rfl) ?_
  refine lv_iconst (v := nI 3) hx hb dm_Law_294 (by decide) ?_
  refine wn_iadd S dm_Law_295 ?_
  refine lw_ld S hX hbl hbA hL hW (by omega) dm_Law_296 ?_
  refine lv_aload_n hx hb dm_Law_297 rfl (lv_at hl 3 rfl) ?_
  refine lv_iload_n hx hb dm_Law_298 rfl (lv_at hl 0 rfl) ?_
  refine lv_iconst (v := nI 4) hx hb dm_Law_299 (by decide) ?_
  refine wn_iadd S dm_Law_300 ?_
  refine lw_ld S hX hbl hbA hL hW (by omega) dm_Law_301 ?_
  refine pw_callVI (rest := []) (As := [.int (xs (i + 1)), .int (xs (i + 2)), .int (xs (i + 3)), .int (xs (i + 4))]) S hW (mm_PP_add l D k g σ hc.1 hP hP31 (pc_rg hA hc) (d := (xs (i + 1))) (x := (xs (i + 2))) (y := (xs (i + 3))) (c0 := (xs (i + 4)))) (cv_Law_45 S.1.2.2.2.2 ⟨by decide, by decide⟩) (by decide) en_PP rfl rfl hl.1 rfl (lv_room (Nat.le_of_ble_eq_true rfl)) ⟨by decide, by decide⟩ dm_Law_302 (fun r σ1 H locs hC hW => ?_)
  have hC : qC_add P σ (xs (i + 1)) (xs (i + 2)) (xs (i + 3)) (xs (i + 4)) r σ1 := hC
  have hm1 := kC_add hA hm hC
  refine lv_aload_n hx hb dm_Law_305 rfl (lv_at hl 1 rfl) ?_
  refine lv_aload_n hx hb dm_Law_306 rfl (lv_at hl 3 rfl) ?_
  refine lv_iload_n hx hb dm_Law_307 rfl (lv_at hl 0 rfl) ?_
  refine lv_iconst (v := nI 1) hx hb dm_Law_308 (by decide) ?_
  refine wn_iadd S dm_Law_309 ?_
  refine lw_ld S hX hbl hbA hL hW (by omega) dm_Law_310 ?_
  refine lv_aload_n hx hb dm_Law_311 rfl (lv_at hl 3 rfl) ?_
  refine lv_iload_n hx hb dm_Law_312 rfl (lv_at hl 0 rfl) ?_
  refine lv_iconst (v := nI 2) hx hb dm_Law_313 (by decide) ?_
  refine wn_iadd S dm_Law_314 ?_
  refine lw_ld S hX hbl hbA hL hW (by omega) dm_Law_315 ?_
  refine lv_aload_n hx hb dm_Law_316 rfl (lv_at hl 3 rfl) ?_
  refine lv_iload_n hx hb dm_Law_317 rfl (lv_at hl 0 rfl) ?_
  refine lv_iconst (v := nI 3) hx hb dm_Law_318 (by decide) ?_
  refine wn_iadd S dm_Law_319 ?_
  refine lw_ld S hX hbl hbA hL hW (by omega) dm_Law_320 ?_
  refine lv_aload_n hx hb dm_Law_321 rfl (lv_at hl 3 rfl) ?_
  refine lv_iload_n hx hb dm_Law_322 rfl (lv_at hl 0 rfl) ?_
  refine lv_iconst (v := nI 4) hx hb dm_Law_323 (by decide) ?_
  refine wn_iadd S dm_Law_324 ?_
  refine lw_ld S hX hbl hbA hL hW (by omega) dm_Law_325 ?_
  refine pw_callVI (rest := [.int r]) (As := [.int (xs (i + 1)), .int (xs (i + 2)), .int (xs (i + 3)), .int (xs (i + 4))]) S hW (mm_Model_add l D k g σ1 hm1.1 hP hP31 (pm_rg hA hm1) (d := (xs (i + 1))) (x := (xs (i + 2))) (y := (xs (i + 3))) (c0 := (xs (i + 4)))) (cv_Law_49 S.1.2.2.2.2 ⟨by decide, by decide⟩) (by decide) en_Model rfl rfl hl.1 rfl (lv_room (Nat.le_of_ble_eq_true rfl)) ⟨by decide, by decide⟩ dm_Law_326 (fun r2 σ2 H locs hM hW => ?_)
  have hM : qM_add P σ1 (xs (i + 1)) (xs (i + 2)) (xs (i + 3)) (xs (i + 4)) r2 σ2 := hM
  obtain ⟨he, hlr⟩ := jn_add hP hP31 hA hc hm hC hM
  subst he
  exact wi_icmp_eq (tgt := 872) S rfl rfl dm_Law_329 (by decide) (fun _ => K σ2 H locs hlr hW) (fun h => absurd rfl h)
set_option maxHeartbeats 4000000 in
theorem lw_c6 (S : pw_S p m c code 4 s #[Value.ref b] wa_g rc_Law D cl_s (ty_s k)) (hX : va_X b L xs s s.heap) (hbl : b < s.heap.size) (hbA : ¬ A b) (hP : ag_pr P) (hP31 : P < 2147483648) (hL : L ≤ 3073) (hl : lv_has ls 4 [(3, .int (nI i)), (2, .ref (g 149)), (1, .ref (g 0)), (0, .ref b)]) (hi : i + 6 ≤ L) (hlr : lr P σ) (hW : pw_H D cl_s A s.heap g 153 (en_s k g σ) H locs) (K : ∀ (σ2 : st_T) (H : Heap) (locs : List Loc), lr P σ2 → pw_H D cl_s A s.heap g 153 (en_s k g σ2) H locs → lw_W p l e s m below meth c b Q ls H locs 872 []) : lw_W p l e s m below meth c b Q ls H locs 334 [] := by
  have hx := S.1.1
  have hb := S.1.2.1
  obtain ⟨R, F, L0, ld, hA, hc, hm⟩ := hlr
  unfold lw_W at K ⊢
  refine lv_aload_n hx hb dm_Law_334 rfl (lv_at hl 2 rfl) ?_
  refine lv_aload_n hx hb dm_Law_335 rfl (lv_at hl 3 rfl) ?_
  refine lv_iload_n hx hb dm_Law_336 rfl (lv_at hl 0 rfl) ?_
  refine lv_iconst (v := nI 1) hx hb dm_Law_337 (by decide) ?_
  refine wn_iadd S dm_Law_338 ?_
  refine lw_ld S hX hbl hbA hL hW (by omega) dm_Law_339 ?_
  refine lv_aload_n hx hb dm_Law_340 rfl (lv_at hl 3 rfl) ?_
  refine lv_iload_n hx hb dm_Law_341 rfl (lv_at hl 0 rfl) ?_
  refine lv_iconst (v := nI 2) hx hb dm_Law_342 (by decide) ?_
  refine wn_iadd S dm_Law_343 ?_
  refine lw_ld S hX hbl hbA hL hW (by omega) dm_Law_344 ?_
  refine lv_aload_n hx hb dm_Law_345 rfl (lv_at hl 3 rfl) ?_
  refine lv_iload_n hx hb dm_Law_346 rfl (lv_at hl 0 rfl) ?_
  refine lv_iconst (v := nI 3) hx hb dm_Law_347 (by decide) ?_
  refine wn_iadd S dm_Law_348 ?_
  refine lw_ld S hX hbl hbA hL hW (by omega) dm_Law_349 ?_
  refine pw_callVI (rest := []) (As := [.int (xs (i + 1)), .int (xs (i + 2)), .int (xs (i + 3))]) S hW (mm_PP_multiply l D k g σ hc.1 hP hP31 (pc_rg hA hc) (d := (xs (i + 1))) (x := (xs (i + 2))) (y := (xs (i + 3)))) (cv_Law_50 S.1.2.2.2.2 ⟨by decide, by decide⟩) (by decide) en_PP rfl rfl hl.1 rfl (lv_room (Nat.le_of_ble_eq_true rfl)) ⟨by decide, by decide⟩ dm_Law_350 (fun r σ1 H locs hC hW => ?_)
  have hC : qC_multiply P σ (xs (i + 1)) (xs (i + 2)) (xs (i + 3)) r σ1 := hC
  have hm1 := kC_multiply hA hm hC
  refine lv_aload_n hx hb dm_Law_353 rfl (lv_at hl 1 rfl) ?_
  refine lv_aload_n hx hb dm_Law_354 rfl (lv_at hl 3 rfl) ?_
  refine lv_iload_n hx hb dm_Law_355 rfl (lv_at hl 0 rfl) ?_
  refine lv_iconst (v := nI 1) hx hb dm_Law_356 (by decide) ?_
  refine wn_iadd S dm_Law_357 ?_
  refine lw_ld S hX hbl hbA hL hW (by omega) dm_Law_358 ?_
  refine lv_aload_n hx hb dm_Law_359 rfl (lv_at hl 3 rfl) ?_
  refine lv_iload_n hx hb dm_Law_360 rfl (lv_at hl 0 rfl) ?_
  refine lv_iconst (v := nI 2) hx hb dm_Law_361 (by decide) ?_
  refine wn_iadd S dm_Law_362 ?_
  refine lw_ld S hX hbl hbA hL hW (by omega) dm_Law_363 ?_
  refine lv_aload_n hx hb dm_Law_364 rfl (lv_at hl 3 rfl) ?_
  refine lv_iload_n hx hb dm_Law_365 rfl (lv_at hl 0 rfl) ?_
  refine lv_iconst (v := nI 3) hx hb dm_Law_366 (by decide) ?_
  refine wn_iadd S dm_Law_367 ?_
  refine lw_ld S hX hbl hbA hL hW (by omega) dm_Law_368 ?_
  refine pw_callVI (rest := [.int r]) (As := [.int (xs (i + 1)), .int (xs (i + 2)), .int (xs (i + 3))]) S hW (mm_Model_multiply l D k g σ1 hm1.1 hP hP31 (pm_rg hA hm1) (d := (xs (i + 1))) (x := (xs (i + 2))) (y := (xs (i + 3)))) (cv_Law_53 S.1.2.2.2.2 ⟨by decide, by decide⟩) (by decide) en_Model rfl rfl hl.1 rfl (lv_room (Nat.le_of_ble_eq_true rfl)) ⟨by decide, by decide⟩ dm_Law_369 (fun r2 σ2 H locs hM hW => ?_)
  have hM : qM_multiply P σ1 (xs (i + 1)) (xs (i + 2)) (xs (i + 3)) r2 σ2 := hM
  obtain ⟨he, hlr⟩ := jn_multiply hP hP31 hA hc hm hC hM
  subst he
  exact wi_icmp_eq (tgt := 872) S rfl rfl dm_Law_372 (by decide) (fun _ => K σ2 H locs hlr hW) (fun h => absurd rfl h)
set_option maxHeartbeats 4000000 in
theorem lw_c7 (S : pw_S p m c code 4 s #[Value.ref b] wa_g rc_Law D cl_s (ty_s k)) (hX : va_X b L xs s s.heap) (hbl : b < s.heap.size) (hbA : ¬ A b) (hP : ag_pr P) (hP31 : P < 2147483648) (hL : L ≤ 3073) (hl : lv_has ls 4 [(3, .int (nI i)), (2, .ref (g 149)), (1, .ref (g 0)), (0, .ref b)]) (hi : i + 6 ≤ L) (hlr : lr P σ) (hW : pw_H D cl_s A s.heap g 153 (en_s k g σ) H locs) (K : ∀ (σ2 : st_T) (H : Heap) (locs : List Loc), lr P σ2 → pw_H D cl_s A s.heap g 153 (en_s k g σ2) H locs → lw_W p l e s m below meth c b Q ls H locs 872 []) : lw_W p l e s m below meth c b Q ls H locs 377 [] := by
  have hx := S.1.1
  have hb := S.1.2.1
  obtain ⟨R, F, L0, ld, hA, hc, hm⟩ := hlr
  unfold lw_W at K ⊢
  refine lv_aload_n hx hb dm_Law_377 rfl (lv_at hl 2 rfl) ?_
  refine lv_aload_n hx hb dm_Law_378 rfl (lv_at hl 3 rfl) ?_
  refine lv_iload_n hx hb dm_Law_379 rfl (lv_at hl 0 rfl) ?_
  refine lv_iconst (v := nI 1) hx hb dm_Law_380 (by decide) ?_
  refine wn_iadd S dm_Law_381 ?_
  refine lw_ld S hX hbl hbA hL hW (by omega) dm_Law_382 ?_
  refine lv_aload_n hx hb dm_Law_383 rfl (lv_at hl 3 rfl) ?_
  refine lv_iload_n hx hb dm_Law_384 rfl (lv_at hl 0 rfl) ?_
  refine lv_iconst (v := nI 2) hx hb dm_Law_385 (by decide) ?_
  refine wn_iadd S dm_Law_386 ?_
  refine lw_ld S hX hbl hbA hL hW (by omega) dm_Law_387 ?_
  refine lv_aload_n hx hb dm_Law_388 rfl (lv_at hl 3 rfl) ?_
  refine lv_iload_n hx hb dm_Law_389 rfl (lv_at hl 0 rfl) ?_
  refine lv_iconst (v := nI 3) hx hb dm_Law_390 (by decide) ?_
  refine wn_iadd S dm_Law_391 ?_
  refine lw_ld S hX hbl hbA hL hW (by omega) dm_Law_392 ?_
  refine lv_aload_n hx hb dm_Law_393 rfl (lv_at hl 3 rfl) ?_
  refine lv_iload_n hx hb dm_Law_394 rfl (lv_at hl 0 rfl) ?_
  refine lv_iconst (v := nI 4) hx hb dm_Law_395 (by decide) ?_
  refine wn_iadd S dm_Law_396 ?_
  refine lw_ld S hX hbl hbA hL hW (by omega) dm_Law_397 ?_
  refine pw_callVI (rest := []) (As := [.int (xs (i + 1)), .int (xs (i + 2)), .int (xs (i + 3)), .int (xs (i + 4))]) S hW (mm_PP_divide l D k g σ hc.1 hP hP31 (pc_rg hA hc) (q := (xs (i + 1))) (d := (xs (i + 2))) (x := (xs (i + 3))) (y := (xs (i + 4)))) (cv_Law_54 S.1.2.2.2.2 ⟨by decide, by decide⟩) (by decide) en_PP rfl rfl hl.1 rfl (lv_room (Nat.le_of_ble_eq_true rfl)) ⟨by decide, by decide⟩ dm_Law_398 (fun r σ1 H locs hC hW => ?_)
  have hC : qC_divide P σ (xs (i + 1)) (xs (i + 2)) (xs (i + 3)) (xs (i + 4)) r σ1 := hC
  have hm1 := kC_divide hA hm hC
  refine lv_aload_n hx hb dm_Law_401 rfl (lv_at hl 1 rfl) ?_
  refine lv_aload_n hx hb dm_Law_402 rfl (lv_at hl 3 rfl) ?_
  refine lv_iload_n hx hb dm_Law_403 rfl (lv_at hl 0 rfl) ?_
  refine lv_iconst (v := nI 1) hx hb dm_Law_404 (by decide) ?_
  refine wn_iadd S dm_Law_405 ?_
  refine lw_ld S hX hbl hbA hL hW (by omega) dm_Law_406 ?_
  refine lv_aload_n hx hb dm_Law_407 rfl (lv_at hl 3 rfl) ?_
  refine lv_iload_n hx hb dm_Law_408 rfl (lv_at hl 0 rfl) ?_
  refine lv_iconst (v := nI 2) hx hb dm_Law_409 (by decide) ?_
  refine wn_iadd S dm_Law_410 ?_
  refine lw_ld S hX hbl hbA hL hW (by omega) dm_Law_411 ?_
  refine lv_aload_n hx hb dm_Law_412 rfl (lv_at hl 3 rfl) ?_
  refine lv_iload_n hx hb dm_Law_413 rfl (lv_at hl 0 rfl) ?_
  refine lv_iconst (v := nI 3) hx hb dm_Law_414 (by decide) ?_
  refine wn_iadd S dm_Law_415 ?_
  refine lw_ld S hX hbl hbA hL hW (by omega) dm_Law_416 ?_
  refine lv_aload_n hx hb dm_Law_417 rfl (lv_at hl 3 rfl) ?_
  refine lv_iload_n hx hb dm_Law_418 rfl (lv_at hl 0 rfl) ?_
  refine lv_iconst (v := nI 4) hx hb dm_Law_419 (by decide) ?_
  refine wn_iadd S dm_Law_420 ?_
  refine lw_ld S hX hbl hbA hL hW (by omega) dm_Law_421 ?_
  refine pw_callVI (rest := [.int r]) (As := [.int (xs (i + 1)), .int (xs (i + 2)), .int (xs (i + 3)), .int (xs (i + 4))]) S hW (mm_Model_divide l D k g σ1 hm1.1 hP hP31 (pm_rg hA hm1) (q := (xs (i + 1))) (d := (xs (i + 2))) (x := (xs (i + 3))) (y := (xs (i + 4)))) (cv_Law_57 S.1.2.2.2.2 ⟨by decide, by decide⟩) (by decide) en_Model rfl rfl hl.1 rfl (lv_room (Nat.le_of_ble_eq_true rfl)) ⟨by decide, by decide⟩ dm_Law_422 (fun r2 σ2 H locs hM hW => ?_)
  have hM : qM_divide P σ1 (xs (i + 1)) (xs (i + 2)) (xs (i + 3)) (xs (i + 4)) r2 σ2 := hM
  obtain ⟨he, hlr⟩ := jn_divide hP hP31 hA hc hm hC hM
  subst he
  exact wi_icmp_eq (tgt := 872) S rfl rfl dm_Law_425 (by decide) (fun _ => K σ2 H locs hlr hW) (fun h => absurd rfl h)
set_option maxHeartbeats 4000000 in
theorem lw_c8 (S : pw_S p m c code 4 s #[Value.ref b] wa_g rc_Law D cl_s (ty_s k)) (hX : va_X b L xs s s.heap) (hbl : b < s.heap.size) (hbA : ¬ A b) (hP : ag_pr P) (hP31 : P < 2147483648) (hL : L ≤ 3073) (hl : lv_has ls 4 [(3, .int (nI i)), (2, .ref (g 149)), (1, .ref (g 0)), (0, .ref b)]) (hi : i + 6 ≤ L) (hlr : lr P σ) (hW : pw_H D cl_s A s.heap g 153 (en_s k g σ) H locs) (K : ∀ (σ2 : st_T) (H : Heap) (locs : List Loc), lr P σ2 → pw_H D cl_s A s.heap g 153 (en_s k g σ2) H locs → lw_W p l e s m below meth c b Q ls H locs 872 []) : lw_W p l e s m below meth c b Q ls H locs 430 [] := by
  have hx := S.1.1
  have hb := S.1.2.1
  obtain ⟨R, F, L0, ld, hA, hc, hm⟩ := hlr
  unfold lw_W at K ⊢
  refine lv_aload_n hx hb dm_Law_430 rfl (lv_at hl 2 rfl) ?_
  refine lv_aload_n hx hb dm_Law_431 rfl (lv_at hl 3 rfl) ?_
  refine lv_iload_n hx hb dm_Law_432 rfl (lv_at hl 0 rfl) ?_
  refine lv_iconst (v := nI 1) hx hb dm_Law_433 (by decide) ?_
  refine wn_iadd S dm_Law_434 ?_
  refine lw_ld S hX hbl hbA hL hW (by omega) dm_Law_435 ?_
  refine lv_aload_n hx hb dm_Law_436 rfl (lv_at hl 3 rfl) ?_
  refine lv_iload_n hx hb dm_Law_437 rfl (lv_at hl 0 rfl) ?_
  refine lv_iconst (v := nI 2) hx hb dm_Law_438 (by decide) ?_
  refine wn_iadd S dm_Law_439 ?_
  refine lw_ld S hX hbl hbA hL hW (by omega) dm_Law_440 ?_
  refine lv_aload_n hx hb dm_Law_441 rfl (lv_at hl 3 rfl) ?_
  refine lv_iload_n hx hb dm_Law_442 rfl (lv_at hl 0 rfl) ?_
  refine lv_iconst (v := nI 3) hx hb dm_Law_443 (by decide) ?_
  refine wn_iadd S dm_Law_444 ?_
  refine lw_ld S hX hbl hbA hL hW (by omega) dm_Law_445 ?_
  refine pw_callVI (rest := []) (As := [.int (xs (i + 1)), .int (xs (i + 2)), .int (xs (i + 3))]) S hW (mm_PP_common l D k g σ hc.1 hP hP31 (pc_rg hA hc) (d := (xs (i + 1))) (x := (xs (i + 2))) (y := (xs (i + 3)))) (cv_Law_58 S.1.2.2.2.2 ⟨by decide, by decide⟩) (by decide) en_PP rfl rfl hl.1 rfl (lv_room (Nat.le_of_ble_eq_true rfl)) ⟨by decide, by decide⟩ dm_Law_446 (fun r σ1 H locs hC hW => ?_)
  have hC : qC_common P σ (xs (i + 1)) (xs (i + 2)) (xs (i + 3)) r σ1 := hC
  have hm1 := kC_common hA hm hC
  refine lv_aload_n hx hb dm_Law_449 rfl (lv_at hl 1 rfl) ?_
  refine lv_aload_n hx hb dm_Law_450 rfl (lv_at hl 3 rfl) ?_
  refine lv_iload_n hx hb dm_Law_451 rfl (lv_at hl 0 rfl) ?_
  refine lv_iconst (v := nI 1) hx hb dm_Law_452 (by decide) ?_
  refine wn_iadd S dm_Law_453 ?_
  refine lw_ld S hX hbl hbA hL hW (by omega) dm_Law_454 ?_
  refine lv_aload_n hx hb dm_Law_455 rfl (lv_at hl 3 rfl) ?_
  refine lv_iload_n hx hb dm_Law_456 rfl (lv_at hl 0 rfl) ?_
  refine lv_iconst (v := nI 2) hx hb dm_Law_457 (by decide) ?_
  refine wn_iadd S dm_Law_458 ?_
  refine lw_ld S hX hbl hbA hL hW (by omega) dm_Law_459 ?_
  refine lv_aload_n hx hb dm_Law_460 rfl (lv_at hl 3 rfl) ?_
  refine lv_iload_n hx hb dm_Law_461 rfl (lv_at hl 0 rfl) ?_
  refine lv_iconst (v := nI 3) hx hb dm_Law_462 (by decide) ?_
  refine wn_iadd S dm_Law_463 ?_
  refine lw_ld S hX hbl hbA hL hW (by omega) dm_Law_464 ?_
  refine pw_callVI (rest := [.int r]) (As := [.int (xs (i + 1)), .int (xs (i + 2)), .int (xs (i + 3))]) S hW (mm_Model_common l D k g σ1 hm1.1 hP hP31 (pm_rg hA hm1) (d := (xs (i + 1))) (x := (xs (i + 2))) (y := (xs (i + 3)))) (cv_Law_61 S.1.2.2.2.2 ⟨by decide, by decide⟩) (by decide) en_Model rfl rfl hl.1 rfl (lv_room (Nat.le_of_ble_eq_true rfl)) ⟨by decide, by decide⟩ dm_Law_465 (fun r2 σ2 H locs hM hW => ?_)
  have hM : qM_common P σ1 (xs (i + 1)) (xs (i + 2)) (xs (i + 3)) r2 σ2 := hM
  obtain ⟨he, hlr⟩ := jn_common hP hP31 hA hc hm hC hM
  subst he
  exact wi_icmp_eq (tgt := 872) S rfl rfl dm_Law_468 (by decide) (fun _ => K σ2 H locs hlr hW) (fun h => absurd rfl h)
set_option maxHeartbeats 4000000 in
theorem lw_c9 (S : pw_S p m c code 4 s #[Value.ref b] wa_g rc_Law D cl_s (ty_s k)) (hX : va_X b L xs s s.heap) (hbl : b < s.heap.size) (hbA : ¬ A b) (hP : ag_pr P) (hP31 : P < 2147483648) (hL : L ≤ 3073) (hl : lv_has ls 4 [(3, .int (nI i)), (2, .ref (g 149)), (1, .ref (g 0)), (0, .ref b)]) (hi : i + 6 ≤ L) (hlr : lr P σ) (hW : pw_H D cl_s A s.heap g 153 (en_s k g σ) H locs) (K : ∀ (σ2 : st_T) (H : Heap) (locs : List Loc), lr P σ2 → pw_H D cl_s A s.heap g 153 (en_s k g σ2) H locs → lw_W p l e s m below meth c b Q ls H locs 872 []) : lw_W p l e s m below meth c b Q ls H locs 473 [] := by
  have hx := S.1.1
  have hb := S.1.2.1
  obtain ⟨R, F, L0, ld, hA, hc, hm⟩ := hlr
  unfold lw_W at K ⊢
  refine lv_aload_n hx hb dm_Law_473 rfl (lv_at hl 2 rfl) ?_
  refine lv_aload_n hx hb dm_Law_474 rfl (lv_at hl 3 rfl) ?_
  refine lv_iload_n hx hb dm_Law_475 rfl (lv_at hl 0 rfl) ?_
  refine lv_iconst (v := nI 1) hx hb dm_Law_476 (by decide) ?_
  refine wn_iadd S dm_Law_477 ?_
  refine lw_ld S hX hbl hbA hL hW (by omega) dm_Law_478 ?_
  refine lv_aload_n hx hb dm_Law_479 rfl (lv_at hl 3 rfl) ?_
  refine lv_iload_n hx hb dm_Law_480 rfl (lv_at hl 0 rfl) ?_
  refine lv_iconst (v := nI 2) hx hb dm_Law_481 (by decide) ?_
  refine wn_iadd S dm_Law_482 ?_
  refine lw_ld S hX hbl hbA hL hW (by omega) dm_Law_483 ?_
  refine lv_aload_n hx hb dm_Law_484 rfl (lv_at hl 3 rfl) ?_
  refine lv_iload_n hx hb dm_Law_485 rfl (lv_at hl 0 rfl) ?_
  refine lv_iconst (v := nI 3) hx hb dm_Law_486 (by decide) ?_
  refine wn_iadd S dm_Law_487 ?_
  refine lw_ld S hX hbl hbA hL hW (by omega) dm_Law_488 ?_
  refine lv_i2l hx hb dm_Law_489 rfl ?_
  refine lv_bipush (v := nI 32) hx hb dm_Law_490 (by decide) ?_
  refine lv_lshl hx hb dm_Law_492 rfl ?_
  refine lv_aload_n hx hb dm_Law_493 rfl (lv_at hl 3 rfl) ?_
  refine lv_iload_n hx hb dm_Law_494 rfl (lv_at hl 0 rfl) ?_
  refine lv_iconst (v := nI 4) hx hb dm_Law_495 (by decide) ?_
  refine wn_iadd S dm_Law_496 ?_
  refine lw_ld S hX hbl hbA hL hW (by omega) dm_Law_497 ?_
  refine lv_i2l hx hb dm_Law_498 rfl ?_
  refine lv_ldc2 (v := 4294967295) hx hb S.1.2.2.2.1 (S.1.2.2.2.2 _ (wa_in 757 (by decide +kernel) rfl)) dm_Law_499 ?_
  refine lv_land hx hb dm_Law_502 ?_
  refine lv_lor hx hb dm_Law_503 ?_
  refine lv_aload_n hx hb dm_Law_504 rfl (lv_at hl 3 rfl) ?_
  refine lv_iload_n hx hb dm_Law_505 rfl (lv_at hl 0 rfl) ?_
  refine lv_iconst (v := nI 5) hx hb dm_Law_506 (by decide) ?_
  refine wn_iadd S dm_Law_507 ?_
  refine lw_ld S hX hbl hbA hL hW (by omega) dm_Law_508 ?_
  refine pw_callVI (rest := []) (As := [.int (xs (i + 1)), .int (xs (i + 2)), .long ((xs (i + 3)).toInt64 <<< ((nI 32).toInt64 &&& 63) ||| (xs (i + 4)).toInt64 &&& 4294967295), .int (xs (i + 5))]) S hW (mm_PP_power l D k g σ hc.1 hP hP31 (pc_rg hA hc) (d := (xs (i + 1))) (x := (xs (i + 2))) (y := (xs (i + 5))) (z0 := ((xs (i + 3)).toInt64 <<< ((nI 32).toInt64 &&& 63) ||| (xs (i + 4)).toInt64 &&& 4294967295))) (cv_Law_64 S.1.2.2.2.2 ⟨by decide, by decide⟩) (by decide) en_PP rfl rfl hl.1 rfl (lv_room (Nat.le_of_ble_eq_true rfl)) ⟨by decide, by decide⟩ dm_Law_509 (fun r σ1 H locs hC hW => ?_)
  have hC : qC_power P σ (xs (i + 1)) (xs (i + 2)) (xs (i + 5)) ((xs (i + 3)).toInt64 <<< ((nI 32).toInt64 &&& 63) ||| (xs (i + 4)).toInt64 &&& 4294967295) r σ1 := hC
  have hm1 := kC_power hA hm hC
  refine lv_aload_n hx hb dm_Law_512 rfl (lv_at hl 1 rfl) ?_
  refine lv_aload_n hx hb dm_Law_513 rfl (lv_at hl 3 rfl) ?_
  refine lv_iload_n hx hb dm_Law_514 rfl (lv_at hl 0 rfl) ?_
  refine lv_iconst (v := nI 1) hx hb dm_Law_515 (by decide) ?_
  refine wn_iadd S dm_Law_516 ?_
  refine lw_ld S hX hbl hbA hL hW (by omega) dm_Law_517 ?_
  refine lv_aload_n hx hb dm_Law_518 rfl (lv_at hl 3 rfl) ?_
  refine lv_iload_n hx hb dm_Law_519 rfl (lv_at hl 0 rfl) ?_
  refine lv_iconst (v := nI 2) hx hb dm_Law_520 (by decide) ?_
  refine wn_iadd S dm_Law_521 ?_
  refine lw_ld S hX hbl hbA hL hW (by omega) dm_Law_522 ?_
  refine lv_aload_n hx hb dm_Law_523 rfl (lv_at hl 3 rfl) ?_
  refine lv_iload_n hx hb dm_Law_524 rfl (lv_at hl 0 rfl) ?_
  refine lv_iconst (v := nI 3) hx hb dm_Law_525 (by decide) ?_
  refine wn_iadd S dm_Law_526 ?_
  refine lw_ld S hX hbl hbA hL hW (by omega) dm_Law_527 ?_
  refine lv_i2l hx hb dm_Law_528 rfl ?_
  refine lv_bipush (v := nI 32) hx hb dm_Law_529 (by decide) ?_
  refine lv_lshl hx hb dm_Law_531 rfl ?_
  refine lv_aload_n hx hb dm_Law_532 rfl (lv_at hl 3 rfl) ?_
  refine lv_iload_n hx hb dm_Law_533 rfl (lv_at hl 0 rfl) ?_
  refine lv_iconst (v := nI 4) hx hb dm_Law_534 (by decide) ?_
  refine wn_iadd S dm_Law_535 ?_
  refine lw_ld S hX hbl hbA hL hW (by omega) dm_Law_536 ?_
  refine lv_i2l hx hb dm_Law_537 rfl ?_
  refine lv_ldc2 (v := 4294967295) hx hb S.1.2.2.2.1 (S.1.2.2.2.2 _ (wa_in 757 (by decide +kernel) rfl)) dm_Law_538 ?_
  refine lv_land hx hb dm_Law_541 ?_
  refine lv_lor hx hb dm_Law_542 ?_
  refine lv_aload_n hx hb dm_Law_543 rfl (lv_at hl 3 rfl) ?_
  refine lv_iload_n hx hb dm_Law_544 rfl (lv_at hl 0 rfl) ?_
  refine lv_iconst (v := nI 5) hx hb dm_Law_545 (by decide) ?_
  refine wn_iadd S dm_Law_546 ?_
  refine lw_ld S hX hbl hbA hL hW (by omega) dm_Law_547 ?_
  refine pw_callVI (rest := [.int r]) (As := [.int (xs (i + 1)), .int (xs (i + 2)), .long ((xs (i + 3)).toInt64 <<< ((nI 32).toInt64 &&& 63) ||| (xs (i + 4)).toInt64 &&& 4294967295), .int (xs (i + 5))]) S hW (mm_Model_power l D k g σ1 hm1.1 hP hP31 (pm_rg hA hm1) (d := (xs (i + 1))) (x := (xs (i + 2))) (y := (xs (i + 5))) (z0 := ((xs (i + 3)).toInt64 <<< ((nI 32).toInt64 &&& 63) ||| (xs (i + 4)).toInt64 &&& 4294967295))) (cv_Law_68 S.1.2.2.2.2 ⟨by decide, by decide⟩) (by decide) en_Model rfl rfl hl.1 rfl (lv_room (Nat.le_of_ble_eq_true rfl)) ⟨by decide, by decide⟩ dm_Law_548 (fun r2 σ2 H locs hM hW => ?_)
  have hM : qM_power P σ1 (xs (i + 1)) (xs (i + 2)) (xs (i + 5)) ((xs (i + 3)).toInt64 <<< ((nI 32).toInt64 &&& 63) ||| (xs (i + 4)).toInt64 &&& 4294967295) r2 σ2 := hM
  obtain ⟨he, hlr⟩ := jn_power hP hP31 hA hc hm hC hM
  subst he
  exact wi_icmp_eq (tgt := 872) S rfl rfl dm_Law_551 (by decide) (fun _ => K σ2 H locs hlr hW) (fun h => absurd rfl h)
set_option maxHeartbeats 4000000 in
theorem lw_c10 (S : pw_S p m c code 4 s #[Value.ref b] wa_g rc_Law D cl_s (ty_s k)) (hX : va_X b L xs s s.heap) (hbl : b < s.heap.size) (hbA : ¬ A b) (hP : ag_pr P) (hP31 : P < 2147483648) (hL : L ≤ 3073) (hl : lv_has ls 4 [(3, .int (nI i)), (2, .ref (g 149)), (1, .ref (g 0)), (0, .ref b)]) (hi : i + 6 ≤ L) (hlr : lr P σ) (hW : pw_H D cl_s A s.heap g 153 (en_s k g σ) H locs) (K : ∀ (σ2 : st_T) (H : Heap) (locs : List Loc), lr P σ2 → pw_H D cl_s A s.heap g 153 (en_s k g σ2) H locs → lw_W p l e s m below meth c b Q ls H locs 872 []) : lw_W p l e s m below meth c b Q ls H locs 556 [] := by
  have hx := S.1.1
  have hb := S.1.2.1
  obtain ⟨R, F, L0, ld, hA, hc, hm⟩ := hlr
  unfold lw_W at K ⊢
  refine lv_aload_n hx hb dm_Law_556 rfl (lv_at hl 2 rfl) ?_
  refine lv_aload_n hx hb dm_Law_557 rfl (lv_at hl 3 rfl) ?_
  refine lv_iload_n hx hb dm_Law_558 rfl (lv_at hl 0 rfl) ?_
  refine lv_iconst (v := nI 1) hx hb dm_Law_559 (by decide) ?_
  refine wn_iadd S dm_Law_560 ?_
  refine lw_ld S hX hbl hbA hL hW (by omega) dm_Law_561 ?_
  refine lv_aload_n hx hb dm_Law_562 rfl (lv_at hl 3 rfl) ?_
  refine lv_iload_n hx hb dm_Law_563 rfl (lv_at hl 0 rfl) ?_
  refine lv_iconst (v := nI 2) hx hb dm_Law_564 (by decide) ?_
  refine wn_iadd S dm_Law_565 ?_
  refine lw_ld S hX hbl hbA hL hW (by omega) dm_Law_566 ?_
  refine pw_callVI (rest := []) (As := [.int (xs (i + 1)), .int (xs (i + 2))]) S hW (mm_PP_derive l D k g σ hc.1 hP hP31 (pc_rg hA hc) (d := (xs (i + 1))) (x := (xs (i + 2)))) (cv_Law_69 S.1.2.2.2.2 ⟨by decide, by decide⟩) (by decide) en_PP rfl rfl hl.1 rfl (lv_room (Nat.le_of_ble_eq_true rfl)) ⟨by decide, by decide⟩ dm_Law_567 (fun r σ1 H locs hC hW => ?_)
  have hC : qC_derive P σ (xs (i + 1)) (xs (i + 2)) r σ1 := hC
  have hm1 := kC_derive hA hm hC
  refine lv_aload_n hx hb dm_Law_570 rfl (lv_at hl 1 rfl) ?_
  refine lv_aload_n hx hb dm_Law_571 rfl (lv_at hl 3 rfl) ?_
  refine lv_iload_n hx hb dm_Law_572 rfl (lv_at hl 0 rfl) ?_
  refine lv_iconst (v := nI 1) hx hb dm_Law_573 (by decide) ?_
  refine wn_iadd S dm_Law_574 ?_
  refine lw_ld S hX hbl hbA hL hW (by omega) dm_Law_575 ?_
  refine lv_aload_n hx hb dm_Law_576 rfl (lv_at hl 3 rfl) ?_
  refine lv_iload_n hx hb dm_Law_577 rfl (lv_at hl 0 rfl) ?_
  refine lv_iconst (v := nI 2) hx hb dm_Law_578 (by decide) ?_
  refine wn_iadd S dm_Law_579 ?_
  refine lw_ld S hX hbl hbA hL hW (by omega) dm_Law_580 ?_
  refine pw_callVI (rest := [.int r]) (As := [.int (xs (i + 1)), .int (xs (i + 2))]) S hW (mm_Model_derive l D k g σ1 hm1.1 hP hP31 (pm_rg hA hm1) (d := (xs (i + 1))) (x := (xs (i + 2)))) (cv_Law_72 S.1.2.2.2.2 ⟨by decide, by decide⟩) (by decide) en_Model rfl rfl hl.1 rfl (lv_room (Nat.le_of_ble_eq_true rfl)) ⟨by decide, by decide⟩ dm_Law_581 (fun r2 σ2 H locs hM hW => ?_)
  have hM : qM_derive P σ1 (xs (i + 1)) (xs (i + 2)) r2 σ2 := hM
  obtain ⟨he, hlr⟩ := jn_derive hP hP31 hA hc hm hC hM
  subst he
  exact wi_icmp_eq (tgt := 872) S rfl rfl dm_Law_584 (by decide) (fun _ => K σ2 H locs hlr hW) (fun h => absurd rfl h)
set_option maxHeartbeats 4000000 in
theorem lw_c11 (S : pw_S p m c code 4 s #[Value.ref b] wa_g rc_Law D cl_s (ty_s k)) (hX : va_X b L xs s s.heap) (hbl : b < s.heap.size) (hbA : ¬ A b) (hP : ag_pr P) (hP31 : P < 2147483648) (hL : L ≤ 3073) (hl : lv_has ls 4 [(3, .int (nI i)), (2, .ref (g 149)), (1, .ref (g 0)), (0, .ref b)]) (hi : i + 6 ≤ L) (hlr : lr P σ) (hW : pw_H D cl_s A s.heap g 153 (en_s k g σ) H locs) (K : ∀ (σ2 : st_T) (H : Heap) (locs : List Loc), lr P σ2 → pw_H D cl_s A s.heap g 153 (en_s k g σ2) H locs → lw_W p l e s m below meth c b Q ls H locs 872 []) : lw_W p l e s m below meth c b Q ls H locs 589 [] := by
  have hx := S.1.1
  have hb := S.1.2.1
  obtain ⟨R, F, L0, ld, hA, hc, hm⟩ := hlr
  unfold lw_W at K ⊢
  refine lv_aload_n hx hb dm_Law_589 rfl (lv_at hl 2 rfl) ?_
  refine lv_aload_n hx hb dm_Law_590 rfl (lv_at hl 3 rfl) ?_
  refine lv_iload_n hx hb dm_Law_591 rfl (lv_at hl 0 rfl) ?_
  refine lv_iconst (v := nI 1) hx hb dm_Law_592 (by decide) ?_
  refine wn_iadd S dm_Law_593 ?_
  refine lw_ld S hX hbl hbA hL hW (by omega) dm_Law_594 ?_
  refine pw_callVI (rest := []) (As := [.int (xs (i + 1))]) S hW (mm_PP_isPrime l D k g σ hc.1 hP hP31 (pc_rg hA hc) hc.2.2.1 (a := (xs (i + 1)))) (cv_Law_73 S.1.2.2.2.2 ⟨by decide, by decide⟩) (by decide) en_PP rfl rfl hl.1 rfl (lv_room (Nat.le_of_ble_eq_true rfl)) ⟨by decide, by decide⟩ dm_Law_595 (fun r σ1 H locs hC hW => ?_)
  have hC : qC_isPrime P σ (xs (i + 1)) r σ1 := hC
  have hm1 := kC_isPrime hA hm hC
  refine lv_aload_n hx hb dm_Law_598 rfl (lv_at hl 1 rfl) ?_
  refine lv_aload_n hx hb dm_Law_599 rfl (lv_at hl 3 rfl) ?_
  refine lv_iload_n hx hb dm_Law_600 rfl (lv_at hl 0 rfl) ?_
  refine lv_iconst (v := nI 1) hx hb dm_Law_601 (by decide) ?_
  refine wn_iadd S dm_Law_602 ?_
  refine lw_ld S hX hbl hbA hL hW (by omega) dm_Law_603 ?_
  refine pw_callVI (rest := [.int r]) (As := [.int (xs (i + 1))]) S hW (mm_Model_isPrime l D k g σ1 hm1.1 hP hP31 (pm_rg hA hm1) (a := (xs (i + 1)))) (cv_Law_76 S.1.2.2.2.2 ⟨by decide, by decide⟩) (by decide) en_Model rfl rfl hl.1 rfl (lv_room (Nat.le_of_ble_eq_true rfl)) ⟨by decide, by decide⟩ dm_Law_604 (fun r2 σ2 H locs hM hW => ?_)
  have hM : qM_isPrime P σ1 (xs (i + 1)) r2 σ2 := hM
  obtain ⟨he, hlr⟩ := jn_isPrime hP hP31 hA hc hm hC hM
  subst he
  exact wi_icmp_eq (tgt := 872) S rfl rfl dm_Law_607 (by decide) (fun _ => K σ2 H locs hlr hW) (fun h => absurd rfl h)
set_option maxHeartbeats 4000000 in
theorem lw_c12 (S : pw_S p m c code 4 s #[Value.ref b] wa_g rc_Law D cl_s (ty_s k)) (hX : va_X b L xs s s.heap) (hbl : b < s.heap.size) (hbA : ¬ A b) (hP : ag_pr P) (hP31 : P < 2147483648) (hL : L ≤ 3073) (hl : lv_has ls 4 [(3, .int (nI i)), (2, .ref (g 149)), (1, .ref (g 0)), (0, .ref b)]) (hi : i + 6 ≤ L) (hlr : lr P σ) (hW : pw_H D cl_s A s.heap g 153 (en_s k g σ) H locs) (K : ∀ (σ2 : st_T) (H : Heap) (locs : List Loc), lr P σ2 → pw_H D cl_s A s.heap g 153 (en_s k g σ2) H locs → lw_W p l e s m below meth c b Q ls H locs 872 []) : lw_W p l e s m below meth c b Q ls H locs 612 [] := by
  have hx := S.1.1
  have hb := S.1.2.1
  obtain ⟨R, F, L0, ld, hA, hc, hm⟩ := hlr
  unfold lw_W at K ⊢
  refine lv_aload_n hx hb dm_Law_612 rfl (lv_at hl 2 rfl) ?_
  refine lv_aload_n hx hb dm_Law_613 rfl (lv_at hl 3 rfl) ?_
  refine lv_iload_n hx hb dm_Law_614 rfl (lv_at hl 0 rfl) ?_
  refine lv_iconst (v := nI 1) hx hb dm_Law_615 (by decide) ?_
  refine wn_iadd S dm_Law_616 ?_
  refine lw_ld S hX hbl hbA hL hW (by omega) dm_Law_617 ?_
  refine pw_callVI (rest := []) (As := [.int (xs (i + 1))]) S hW (mm_PP_factor l D k g σ hc.1 hP hP31 (pc_rg hA hc) hc.2.2.1 hc.2.1 (a := (xs (i + 1)))) (cv_Law_77 S.1.2.2.2.2 ⟨by decide, by decide⟩) (by decide) en_PP rfl rfl hl.1 rfl (lv_room (Nat.le_of_ble_eq_true rfl)) ⟨by decide, by decide⟩ dm_Law_618 (fun r σ1 H locs hC hW => ?_)
  have hC : qC_factor P σ (xs (i + 1)) r σ1 := hC
  have hm1 := kC_factor hA hm hC
  refine lv_aload_n hx hb dm_Law_621 rfl (lv_at hl 1 rfl) ?_
  refine lv_aload_n hx hb dm_Law_622 rfl (lv_at hl 3 rfl) ?_
  refine lv_iload_n hx hb dm_Law_623 rfl (lv_at hl 0 rfl) ?_
  refine lv_iconst (v := nI 1) hx hb dm_Law_624 (by decide) ?_
  refine wn_iadd S dm_Law_625 ?_
  refine lw_ld S hX hbl hbA hL hW (by omega) dm_Law_626 ?_
  refine pw_callVI (rest := [.int r]) (As := [.int (xs (i + 1))]) S hW (mm_Model_factor l D k g σ1 hm1.1 hP hP31 (pm_rg hA hm1) (a := (xs (i + 1)))) (cv_Law_80 S.1.2.2.2.2 ⟨by decide, by decide⟩) (by decide) en_Model rfl rfl hl.1 rfl (lv_room (Nat.le_of_ble_eq_true rfl)) ⟨by decide, by decide⟩ dm_Law_627 (fun r2 σ2 H locs hM hW => ?_)
  have hM : qM_factor P σ1 (xs (i + 1)) r2 σ2 := hM
  obtain ⟨he, hlr⟩ := jn_factor hP hP31 hA hc hm hC hM
  subst he
  exact wi_icmp_eq (tgt := 872) S rfl rfl dm_Law_630 (by decide) (fun _ => K σ2 H locs hlr hW) (fun h => absurd rfl h)
set_option maxHeartbeats 4000000 in
theorem lw_c13 (S : pw_S p m c code 4 s #[Value.ref b] wa_g rc_Law D cl_s (ty_s k)) (hX : va_X b L xs s s.heap) (hbl : b < s.heap.size) (hbA : ¬ A b) (hP : ag_pr P) (hP31 : P < 2147483648) (hL : L ≤ 3073) (hl : lv_has ls 4 [(3, .int (nI i)), (2, .ref (g 149)), (1, .ref (g 0)), (0, .ref b)]) (hi : i + 6 ≤ L) (hlr : lr P σ) (hW : pw_H D cl_s A s.heap g 153 (en_s k g σ) H locs) (K : ∀ (σ2 : st_T) (H : Heap) (locs : List Loc), lr P σ2 → pw_H D cl_s A s.heap g 153 (en_s k g σ2) H locs → lw_W p l e s m below meth c b Q ls H locs 872 []) : lw_W p l e s m below meth c b Q ls H locs 635 [] := by
  have hx := S.1.1
  have hb := S.1.2.1
  obtain ⟨R, F, L0, ld, hA, hc, hm⟩ := hlr
  unfold lw_W at K ⊢
  refine lv_aload_n hx hb dm_Law_635 rfl (lv_at hl 2 rfl) ?_
  refine lv_aload_n hx hb dm_Law_636 rfl (lv_at hl 3 rfl) ?_
  refine lv_iload_n hx hb dm_Law_637 rfl (lv_at hl 0 rfl) ?_
  refine lv_iconst (v := nI 1) hx hb dm_Law_638 (by decide) ?_
  refine wn_iadd S dm_Law_639 ?_
  refine lw_ld S hX hbl hbA hL hW (by omega) dm_Law_640 ?_
  refine lv_aload_n hx hb dm_Law_641 rfl (lv_at hl 3 rfl) ?_
  refine lv_iload_n hx hb dm_Law_642 rfl (lv_at hl 0 rfl) ?_
  refine lv_iconst (v := nI 2) hx hb dm_Law_643 (by decide) ?_
  refine wn_iadd S dm_Law_644 ?_
  refine lw_ld S hX hbl hbA hL hW (by omega) dm_Law_645 ?_
  refine pw_callVI (rest := []) (As := [.int (xs (i + 1)), .int (xs (i + 2))]) S hW (mm_PP_part l D k g σ hc.1 hc.2.1 (pc_cc hA hc) (a := (xs (i + 1))) (b0 := (xs (i + 2)))) (cv_Law_81 S.1.2.2.2.2 ⟨by decide, by decide⟩) (by decide) en_PP rfl rfl hl.1 rfl (lv_room (Nat.le_of_ble_eq_true rfl)) ⟨by decide, by decide⟩ dm_Law_646 (fun r σ1 H locs hC hW => ?_)
  have hC : qC_part P σ (xs (i + 1)) (xs (i + 2)) r σ1 := hC
  have hm1 := kC_part hA hm hC
  refine lv_aload_n hx hb dm_Law_649 rfl (lv_at hl 1 rfl) ?_
  refine lv_aload_n hx hb dm_Law_650 rfl (lv_at hl 3 rfl) ?_
  refine lv_iload_n hx hb dm_Law_651 rfl (lv_at hl 0 rfl) ?_
  refine lv_iconst (v := nI 1) hx hb dm_Law_652 (by decide) ?_
  refine wn_iadd S dm_Law_653 ?_
  refine lw_ld S hX hbl hbA hL hW (by omega) dm_Law_654 ?_
  refine lv_aload_n hx hb dm_Law_655 rfl (lv_at hl 3 rfl) ?_
  refine lv_iload_n hx hb dm_Law_656 rfl (lv_at hl 0 rfl) ?_
  refine lv_iconst (v := nI 2) hx hb dm_Law_657 (by decide) ?_
  refine wn_iadd S dm_Law_658 ?_
  refine lw_ld S hX hbl hbA hL hW (by omega) dm_Law_659 ?_
  refine pw_callVI (rest := [.int r]) (As := [.int (xs (i + 1)), .int (xs (i + 2))]) S hW (mm_Model_part l D k g σ1 hm1.1 hP31 (pm_cc hA hm1) (a := (xs (i + 1))) (b0 := (xs (i + 2)))) (cv_Law_84 S.1.2.2.2.2 ⟨by decide, by decide⟩) (by decide) en_Model rfl rfl hl.1 rfl (lv_room (Nat.le_of_ble_eq_true rfl)) ⟨by decide, by decide⟩ dm_Law_660 (fun r2 σ2 H locs hM hW => ?_)
  have hM : qM_part P σ1 (xs (i + 1)) (xs (i + 2)) r2 σ2 := hM
  obtain ⟨he, hlr⟩ := jn_part hP hP31 hA hc hm hC hM
  subst he
  exact wi_icmp_eq (tgt := 872) S rfl rfl dm_Law_663 (by decide) (fun _ => K σ2 H locs hlr hW) (fun h => absurd rfl h)
set_option maxHeartbeats 4000000 in
theorem lw_c14 (S : pw_S p m c code 4 s #[Value.ref b] wa_g rc_Law D cl_s (ty_s k)) (hX : va_X b L xs s s.heap) (hbl : b < s.heap.size) (hbA : ¬ A b) (hP : ag_pr P) (hP31 : P < 2147483648) (hL : L ≤ 3073) (hl : lv_has ls 4 [(3, .int (nI i)), (2, .ref (g 149)), (1, .ref (g 0)), (0, .ref b)]) (hi : i + 6 ≤ L) (hlr : lr P σ) (hW : pw_H D cl_s A s.heap g 153 (en_s k g σ) H locs) (K : ∀ (σ2 : st_T) (H : Heap) (locs : List Loc), lr P σ2 → pw_H D cl_s A s.heap g 153 (en_s k g σ2) H locs → lw_W p l e s m below meth c b Q ls H locs 872 []) : lw_W p l e s m below meth c b Q ls H locs 668 [] := by
  have hx := S.1.1
  have hb := S.1.2.1
  obtain ⟨R, F, L0, ld, hA, hc, hm⟩ := hlr
  unfold lw_W at K ⊢
  refine lv_aload_n hx hb dm_Law_668 rfl (lv_at hl 2 rfl) ?_
  refine lv_aload_n hx hb dm_Law_669 rfl (lv_at hl 3 rfl) ?_
  refine lv_iload_n hx hb dm_Law_670 rfl (lv_at hl 0 rfl) ?_
  refine lv_iconst (v := nI 1) hx hb dm_Law_671 (by decide) ?_
  refine wn_iadd S dm_Law_672 ?_
  refine lw_ld S hX hbl hbA hL hW (by omega) dm_Law_673 ?_
  refine lv_aload_n hx hb dm_Law_674 rfl (lv_at hl 3 rfl) ?_
  refine lv_iload_n hx hb dm_Law_675 rfl (lv_at hl 0 rfl) ?_
  refine lv_iconst (v := nI 2) hx hb dm_Law_676 (by decide) ?_
  refine wn_iadd S dm_Law_677 ?_
  refine lw_ld S hX hbl hbA hL hW (by omega) dm_Law_678 ?_
  refine pw_callVI (rest := []) (As := [.int (xs (i + 1)), .int (xs (i + 2))]) S hW (mm_PP_split l D k g σ hc.1 hP hP31 (pc_rg hA hc) hc.2.2.1 hc.2.1 (pc_cc hA hc) (pc_pt hA hc) (a := (xs (i + 1))) (b := (xs (i + 2)))) (cv_Law_85 S.1.2.2.2.2 ⟨by decide, by decide⟩) (by decide) en_PP rfl rfl hl.1 rfl (lv_room (Nat.le_of_ble_eq_true rfl)) ⟨by decide, by decide⟩ dm_Law_679 (fun r σ1 H locs hC hW => ?_)
  have hC : qC_split P σ (xs (i + 1)) (xs (i + 2)) r σ1 := hC
  have hm1 := kC_split hA hm hC
  refine lv_aload_n hx hb dm_Law_682 rfl (lv_at hl 1 rfl) ?_
  refine lv_aload_n hx hb dm_Law_683 rfl (lv_at hl 3 rfl) ?_
  refine lv_iload_n hx hb dm_Law_684 rfl (lv_at hl 0 rfl) ?_
  refine lv_iconst (v := nI 1) hx hb dm_Law_685 (by decide) ?_
  refine wn_iadd S dm_Law_686 ?_
  refine lw_ld S hX hbl hbA hL hW (by omega) dm_Law_687 ?_
  refine lv_aload_n hx hb dm_Law_688 rfl (lv_at hl 3 rfl) ?_
  refine lv_iload_n hx hb dm_Law_689 rfl (lv_at hl 0 rfl) ?_
  refine lv_iconst (v := nI 2) hx hb dm_Law_690 (by decide) ?_
  refine wn_iadd S dm_Law_691 ?_
  refine lw_ld S hX hbl hbA hL hW (by omega) dm_Law_692 ?_
  refine pw_callVI (rest := [.int r]) (As := [.int (xs (i + 1)), .int (xs (i + 2))]) S hW (mm_Model_split l D k g σ1 hm1.1 hP hP31 (pm_rg hA hm1) (pm_cc hA hm1) (pm_pt hA hm1) (a := (xs (i + 1))) (b := (xs (i + 2)))) (cv_Law_88 S.1.2.2.2.2 ⟨by decide, by decide⟩) (by decide) en_Model rfl rfl hl.1 rfl (lv_room (Nat.le_of_ble_eq_true rfl)) ⟨by decide, by decide⟩ dm_Law_693 (fun r2 σ2 H locs hM hW => ?_)
  have hM : qM_split P σ1 (xs (i + 1)) (xs (i + 2)) r2 σ2 := hM
  obtain ⟨he, hlr⟩ := jn_split hP hP31 hA hc hm hC hM
  subst he
  exact wi_icmp_eq (tgt := 872) S rfl rfl dm_Law_696 (by decide) (fun _ => K σ2 H locs hlr hW) (fun h => absurd rfl h)
set_option maxHeartbeats 4000000 in
theorem lw_c15 (S : pw_S p m c code 4 s #[Value.ref b] wa_g rc_Law D cl_s (ty_s k)) (hX : va_X b L xs s s.heap) (hbl : b < s.heap.size) (hbA : ¬ A b) (hP : ag_pr P) (hP31 : P < 2147483648) (hL : L ≤ 3073) (hl : lv_has ls 4 [(3, .int (nI i)), (2, .ref (g 149)), (1, .ref (g 0)), (0, .ref b)]) (hi : i + 6 ≤ L) (hlr : lr P σ) (hW : pw_H D cl_s A s.heap g 153 (en_s k g σ) H locs) (K : ∀ (σ2 : st_T) (H : Heap) (locs : List Loc), lr P σ2 → pw_H D cl_s A s.heap g 153 (en_s k g σ2) H locs → lw_W p l e s m below meth c b Q ls H locs 872 []) : lw_W p l e s m below meth c b Q ls H locs 701 [] := by
  have hx := S.1.1
  have hb := S.1.2.1
  obtain ⟨R, F, L0, ld, hA, hc, hm⟩ := hlr
  unfold lw_W at K ⊢
  refine lv_aload_n hx hb dm_Law_701 rfl (lv_at hl 2 rfl) ?_
  refine lv_aload_n hx hb dm_Law_702 rfl (lv_at hl 3 rfl) ?_
  refine lv_iload_n hx hb dm_Law_703 rfl (lv_at hl 0 rfl) ?_
  refine lv_iconst (v := nI 1) hx hb dm_Law_704 (by decide) ?_
  refine wn_iadd S dm_Law_705 ?_
  refine lw_ld S hX hbl hbA hL hW (by omega) dm_Law_706 ?_
  refine pw_callVI (rest := []) (As := [.int (xs (i + 1))]) S hW (mm_PP_product l D k g σ hc.1 hP hP31 (pc_rg hA hc) hc.2.1 (pc_ld hA hc) (pc_cc hA hc) (pc_sz hA hc) (pc_pos hA hc) (pc_of hA hc) (a := (xs (i + 1)))) (cv_Law_89 S.1.2.2.2.2 ⟨by decide, by decide⟩) (by decide) en_PP rfl rfl hl.1 rfl (lv_room (Nat.le_of_ble_eq_true rfl)) ⟨by decide, by decide⟩ dm_Law_707 (fun r σ1 H locs hC hW => ?_)
  have hC : qC_product P σ (xs (i + 1)) r σ1 := hC
  have hm1 := kC_product hA hm hC
  refine lv_aload_n hx hb dm_Law_710 rfl (lv_at hl 1 rfl) ?_
  refine lv_aload_n hx hb dm_Law_711 rfl (lv_at hl 3 rfl) ?_
  refine lv_iload_n hx hb dm_Law_712 rfl (lv_at hl 0 rfl) ?_
  refine lv_iconst (v := nI 1) hx hb dm_Law_713 (by decide) ?_
  refine wn_iadd S dm_Law_714 ?_
  refine lw_ld S hX hbl hbA hL hW (by omega) dm_Law_715 ?_
  refine pw_callVI (rest := [.int r]) (As := [.int (xs (i + 1))]) S hW (mm_Model_product l D k g σ1 hm1.1 hP hP31 (pm_rg hA hm1) (pm_fc hm1) (pm_ld hA hm1) (pm_cc hA hm1) (pm_sz hA hm1) (pm_pos hA hm1) (pm_of hA hm1) (a := (xs (i + 1)))) (cv_Law_92 S.1.2.2.2.2 ⟨by decide, by decide⟩) (by decide) en_Model rfl rfl hl.1 rfl (lv_room (Nat.le_of_ble_eq_true rfl)) ⟨by decide, by decide⟩ dm_Law_716 (fun r2 σ2 H locs hM hW => ?_)
  have hM : qM_product P σ1 (xs (i + 1)) r2 σ2 := hM
  obtain ⟨he, hlr⟩ := jn_product hP hP31 hA hc hm hC hM
  subst he
  exact wi_icmp_eq (tgt := 872) S rfl rfl dm_Law_719 (by decide) (fun _ => K σ2 H locs hlr hW) (fun h => absurd rfl h)
set_option maxHeartbeats 4000000 in
theorem lw_c16 (S : pw_S p m c code 4 s #[Value.ref b] wa_g rc_Law D cl_s (ty_s k)) (hX : va_X b L xs s s.heap) (hbl : b < s.heap.size) (hbA : ¬ A b) (hP : ag_pr P) (hP31 : P < 2147483648) (hL : L ≤ 3073) (hl : lv_has ls 4 [(3, .int (nI i)), (2, .ref (g 149)), (1, .ref (g 0)), (0, .ref b)]) (hi : i + 6 ≤ L) (hlr : lr P σ) (hW : pw_H D cl_s A s.heap g 153 (en_s k g σ) H locs) (K : ∀ (σ2 : st_T) (H : Heap) (locs : List Loc), lr P σ2 → pw_H D cl_s A s.heap g 153 (en_s k g σ2) H locs → lw_W p l e s m below meth c b Q ls H locs 872 []) : lw_W p l e s m below meth c b Q ls H locs 724 [] := by
  have hx := S.1.1
  have hb := S.1.2.1
  obtain ⟨R, F, L0, ld, hA, hc, hm⟩ := hlr
  unfold lw_W at K ⊢
  refine lv_aload_n hx hb dm_Law_724 rfl (lv_at hl 2 rfl) ?_
  refine lv_aload_n hx hb dm_Law_725 rfl (lv_at hl 3 rfl) ?_
  refine lv_iload_n hx hb dm_Law_726 rfl (lv_at hl 0 rfl) ?_
  refine lv_iconst (v := nI 1) hx hb dm_Law_727 (by decide) ?_
  refine wn_iadd S dm_Law_728 ?_
  refine lw_ld S hX hbl hbA hL hW (by omega) dm_Law_729 ?_
  refine pw_callVI (rest := []) (As := [.int (xs (i + 1))]) S hW (mm_PP_field l D k g σ hc.1 hP hP31 (pc_rg hA hc) hc.2.2.1 (a := (xs (i + 1)))) (cv_Law_93 S.1.2.2.2.2 ⟨by decide, by decide⟩) (by decide) en_PP rfl rfl hl.1 rfl (lv_room (Nat.le_of_ble_eq_true rfl)) ⟨by decide, by decide⟩ dm_Law_730 (fun r σ1 H locs hC hW => ?_)
  have hC : qC_field P σ (xs (i + 1)) r σ1 := hC
  have hm1 := kC_field hA hm hC
  refine lv_aload_n hx hb dm_Law_733 rfl (lv_at hl 1 rfl) ?_
  refine lv_aload_n hx hb dm_Law_734 rfl (lv_at hl 3 rfl) ?_
  refine lv_iload_n hx hb dm_Law_735 rfl (lv_at hl 0 rfl) ?_
  refine lv_iconst (v := nI 1) hx hb dm_Law_736 (by decide) ?_
  refine wn_iadd S dm_Law_737 ?_
  refine lw_ld S hX hbl hbA hL hW (by omega) dm_Law_738 ?_
  refine pw_callVI (rest := [.int r]) (As := [.int (xs (i + 1))]) S hW (mm_Model_field l D k g σ1 hm1.1 hP hP31 (pm_rg hA hm1) (a := (xs (i + 1)))) (cv_Law_96 S.1.2.2.2.2 ⟨by decide, by decide⟩) (by decide) en_Model rfl rfl hl.1 rfl (lv_room (Nat.le_of_ble_eq_true rfl)) ⟨by decide, by decide⟩ dm_Law_739 (fun r2 σ2 H locs hM hW => ?_)
  have hM : qM_field P σ1 (xs (i + 1)) r2 σ2 := hM
  obtain ⟨he, hlr⟩ := jn_field hP hP31 hA hc hm hC hM
  subst he
  exact wi_icmp_eq (tgt := 872) S rfl rfl dm_Law_742 (by decide) (fun _ => K σ2 H locs hlr hW) (fun h => absurd rfl h)
set_option maxHeartbeats 4000000 in
theorem lw_c17 (S : pw_S p m c code 4 s #[Value.ref b] wa_g rc_Law D cl_s (ty_s k)) (hX : va_X b L xs s s.heap) (hbl : b < s.heap.size) (hbA : ¬ A b) (hP : ag_pr P) (hP31 : P < 2147483648) (hL : L ≤ 3073) (hl : lv_has ls 4 [(3, .int (nI i)), (2, .ref (g 149)), (1, .ref (g 0)), (0, .ref b)]) (hi : i + 6 ≤ L) (hlr : lr P σ) (hW : pw_H D cl_s A s.heap g 153 (en_s k g σ) H locs) (K : ∀ (σ2 : st_T) (H : Heap) (locs : List Loc), lr P σ2 → pw_H D cl_s A s.heap g 153 (en_s k g σ2) H locs → lw_W p l e s m below meth c b Q ls H locs 872 []) : lw_W p l e s m below meth c b Q ls H locs 747 [] := by
  have hx := S.1.1
  have hb := S.1.2.1
  obtain ⟨R, F, L0, ld, hA, hc, hm⟩ := hlr
  unfold lw_W at K ⊢
  refine lv_aload_n hx hb dm_Law_747 rfl (lv_at hl 2 rfl) ?_
  refine lv_aload_n hx hb dm_Law_748 rfl (lv_at hl 3 rfl) ?_
  refine lv_iload_n hx hb dm_Law_749 rfl (lv_at hl 0 rfl) ?_
  refine lv_iconst (v := nI 1) hx hb dm_Law_750 (by decide) ?_
  refine wn_iadd S dm_Law_751 ?_
  refine lw_ld S hX hbl hbA hL hW (by omega) dm_Law_752 ?_
  refine lv_aload_n hx hb dm_Law_753 rfl (lv_at hl 3 rfl) ?_
  refine lv_iload_n hx hb dm_Law_754 rfl (lv_at hl 0 rfl) ?_
  refine lv_iconst (v := nI 2) hx hb dm_Law_755 (by decide) ?_
  refine wn_iadd S dm_Law_756 ?_
  refine lw_ld S hX hbl hbA hL hW (by omega) dm_Law_757 ?_
  refine lv_aload_n hx hb dm_Law_758 rfl (lv_at hl 3 rfl) ?_
  refine lv_iload_n hx hb dm_Law_759 rfl (lv_at hl 0 rfl) ?_
  refine lv_iconst (v := nI 3) hx hb dm_Law_760 (by decide) ?_
  refine wn_iadd S dm_Law_761 ?_
  refine lw_ld S hX hbl hbA hL hW (by omega) dm_Law_762 ?_
  refine pw_callVI (rest := []) (As := [.int (xs (i + 1)), .int (xs (i + 2)), .int (xs (i + 3))]) S hW (mm_PP_times l D k g σ hc.1 hP hP31 (pc_rg hA hc) (pc_f16 hA hc) (d := (xs (i + 1))) (x := (xs (i + 2))) (y := (xs (i + 3)))) (cv_Law_97 S.1.2.2.2.2 ⟨by decide, by decide⟩) (by decide) en_PP rfl rfl hl.1 rfl (lv_room (Nat.le_of_ble_eq_true rfl)) ⟨by decide, by decide⟩ dm_Law_763 (fun r σ1 H locs hC hW => ?_)
  have hC : qC_times P σ (xs (i + 1)) (xs (i + 2)) (xs (i + 3)) r σ1 := hC
  have hm1 := kC_times hA hm hC
  refine lv_aload_n hx hb dm_Law_766 rfl (lv_at hl 1 rfl) ?_
  refine lv_aload_n hx hb dm_Law_767 rfl (lv_at hl 3 rfl) ?_
  refine lv_iload_n hx hb dm_Law_768 rfl (lv_at hl 0 rfl) ?_
  refine lv_iconst (v := nI 1) hx hb dm_Law_769 (by decide) ?_
  refine wn_iadd S dm_Law_770 ?_
  refine lw_ld S hX hbl hbA hL hW (by omega) dm_Law_771 ?_
  refine lv_aload_n hx hb dm_Law_772 rfl (lv_at hl 3 rfl) ?_
  refine lv_iload_n hx hb dm_Law_773 rfl (lv_at hl 0 rfl) ?_
  refine lv_iconst (v := nI 2) hx hb dm_Law_774 (by decide) ?_
  refine wn_iadd S dm_Law_775 ?_
  refine lw_ld S hX hbl hbA hL hW (by omega) dm_Law_776 ?_
  refine lv_aload_n hx hb dm_Law_777 rfl (lv_at hl 3 rfl) ?_
  refine lv_iload_n hx hb dm_Law_778 rfl (lv_at hl 0 rfl) ?_
  refine lv_iconst (v := nI 3) hx hb dm_Law_779 (by decide) ?_
  refine wn_iadd S dm_Law_780 ?_
  refine lw_ld S hX hbl hbA hL hW (by omega) dm_Law_781 ?_
  refine pw_callVI (rest := [.int r]) (As := [.int (xs (i + 1)), .int (xs (i + 2)), .int (xs (i + 3))]) S hW (mm_Model_times l D k g σ1 hm1.1 hP hP31 (pm_rg hA hm1) (pm_k hm1) (pm_fd2 hA hm1) (d := (xs (i + 1))) (x := (xs (i + 2))) (y := (xs (i + 3)))) (cv_Law_100 S.1.2.2.2.2 ⟨by decide, by decide⟩) (by decide) en_Model rfl rfl hl.1 rfl (lv_room (Nat.le_of_ble_eq_true rfl)) ⟨by decide, by decide⟩ dm_Law_782 (fun r2 σ2 H locs hM hW => ?_)
  have hM : qM_times P σ1 (xs (i + 1)) (xs (i + 2)) (xs (i + 3)) r2 σ2 := hM
  obtain ⟨he, hlr⟩ := jn_times hP hP31 hA hc hm hC hM
  subst he
  exact wi_icmp_eq (tgt := 872) S rfl rfl dm_Law_785 (by decide) (fun _ => K σ2 H locs hlr hW) (fun h => absurd rfl h)
set_option maxHeartbeats 4000000 in
theorem lw_c18 (S : pw_S p m c code 4 s #[Value.ref b] wa_g rc_Law D cl_s (ty_s k)) (hX : va_X b L xs s s.heap) (hbl : b < s.heap.size) (hbA : ¬ A b) (hP : ag_pr P) (hP31 : P < 2147483648) (hL : L ≤ 3073) (hl : lv_has ls 4 [(3, .int (nI i)), (2, .ref (g 149)), (1, .ref (g 0)), (0, .ref b)]) (hi : i + 6 ≤ L) (hlr : lr P σ) (hW : pw_H D cl_s A s.heap g 153 (en_s k g σ) H locs) (K : ∀ (σ2 : st_T) (H : Heap) (locs : List Loc), lr P σ2 → pw_H D cl_s A s.heap g 153 (en_s k g σ2) H locs → lw_W p l e s m below meth c b Q ls H locs 872 []) : lw_W p l e s m below meth c b Q ls H locs 790 [] := by
  have hx := S.1.1
  have hb := S.1.2.1
  obtain ⟨R, F, L0, ld, hA, hc, hm⟩ := hlr
  unfold lw_W at K ⊢
  refine lv_aload_n hx hb dm_Law_790 rfl (lv_at hl 2 rfl) ?_
  refine lv_aload_n hx hb dm_Law_791 rfl (lv_at hl 3 rfl) ?_
  refine lv_iload_n hx hb dm_Law_792 rfl (lv_at hl 0 rfl) ?_
  refine lv_iconst (v := nI 1) hx hb dm_Law_793 (by decide) ?_
  refine wn_iadd S dm_Law_794 ?_
  refine lw_ld S hX hbl hbA hL hW (by omega) dm_Law_795 ?_
  refine lv_aload_n hx hb dm_Law_796 rfl (lv_at hl 3 rfl) ?_
  refine lv_iload_n hx hb dm_Law_797 rfl (lv_at hl 0 rfl) ?_
  refine lv_iconst (v := nI 2) hx hb dm_Law_798 (by decide) ?_
  refine wn_iadd S dm_Law_799 ?_
  refine lw_ld S hX hbl hbA hL hW (by omega) dm_Law_800 ?_
  refine pw_callVI (rest := []) (As := [.int (xs (i + 1)), .int (xs (i + 2))]) S hW (mm_PP_inverse l D k g σ hc.1 hP hP31 (pc_rg hA hc) (pc_fd hA hc) (d := (xs (i + 1))) (x := (xs (i + 2)))) (cv_Law_101 S.1.2.2.2.2 ⟨by decide, by decide⟩) (by decide) en_PP rfl rfl hl.1 rfl (lv_room (Nat.le_of_ble_eq_true rfl)) ⟨by decide, by decide⟩ dm_Law_801 (fun r σ1 H locs hC hW => ?_)
  have hC : qC_inverse P σ (xs (i + 1)) (xs (i + 2)) r σ1 := hC
  have hm1 := kC_inverse hA hm hC
  refine lv_aload_n hx hb dm_Law_804 rfl (lv_at hl 1 rfl) ?_
  refine lv_aload_n hx hb dm_Law_805 rfl (lv_at hl 3 rfl) ?_
  refine lv_iload_n hx hb dm_Law_806 rfl (lv_at hl 0 rfl) ?_
  refine lv_iconst (v := nI 1) hx hb dm_Law_807 (by decide) ?_
  refine wn_iadd S dm_Law_808 ?_
  refine lw_ld S hX hbl hbA hL hW (by omega) dm_Law_809 ?_
  refine lv_aload_n hx hb dm_Law_810 rfl (lv_at hl 3 rfl) ?_
  refine lv_iload_n hx hb dm_Law_811 rfl (lv_at hl 0 rfl) ?_
  refine lv_iconst (v := nI 2) hx hb dm_Law_812 (by decide) ?_
  refine wn_iadd S dm_Law_813 ?_
  refine lw_ld S hX hbl hbA hL hW (by omega) dm_Law_814 ?_
  refine pw_callVI (rest := [.int r]) (As := [.int (xs (i + 1)), .int (xs (i + 2))]) S hW (mm_Model_inverse l D k g σ1 hm1.1 hP hP31 (pm_rg hA hm1) (pm_k hm1) (pm_fd hA hm1) (d := (xs (i + 1))) (x := (xs (i + 2)))) (cv_Law_104 S.1.2.2.2.2 ⟨by decide, by decide⟩) (by decide) en_Model rfl rfl hl.1 rfl (lv_room (Nat.le_of_ble_eq_true rfl)) ⟨by decide, by decide⟩ dm_Law_815 (fun r2 σ2 H locs hM hW => ?_)
  have hM : qM_inverse P σ1 (xs (i + 1)) (xs (i + 2)) r2 σ2 := hM
  obtain ⟨he, hlr⟩ := jn_inverse hP hP31 hA hc hm hC hM
  subst he
  exact wi_icmp_eq (tgt := 872) S rfl rfl dm_Law_818 (by decide) (fun _ => K σ2 H locs hlr hW) (fun h => absurd rfl h)
set_option maxHeartbeats 4000000 in
theorem lw_c19y (S : pw_S p m c code 4 s #[Value.ref b] wa_g rc_Law D cl_s (ty_s k)) (hX : va_X b L xs s s.heap) (hbl : b < s.heap.size) (hbA : ¬ A b) (hP : ag_pr P) (hP31 : P < 2147483648) (hL : L ≤ 3073) (hl : lv_has ls 4 [(3, .int (nI i)), (2, .ref (g 149)), (1, .ref (g 0)), (0, .ref b)]) (hi : i + 6 ≤ L) (hlr : lr P σ) (hW : pw_H D cl_s A s.heap g 153 (en_s k g σ) H locs) (hz : (xs (i + 2)).toInt = 0) (K : ∀ (σ2 : st_T) (H : Heap) (locs : List Loc), lr P σ2 → pw_H D cl_s A s.heap g 153 (en_s k g σ2) H locs → lw_W p l e s m below meth c b Q ls H locs 872 []) : lw_W p l e s m below meth c b Q ls H locs 823 [] := by
  have hx := S.1.1
  have hb := S.1.2.1
  obtain ⟨R, F, L0, ld, hA, hc, hm⟩ := hlr
  unfold lw_W at K ⊢
  refine lv_aload_n hx hb dm_Law_823 rfl (lv_at hl 2 rfl) ?_
  refine lv_aload_n hx hb dm_Law_824 rfl (lv_at hl 3 rfl) ?_
  refine lv_iload_n hx hb dm_Law_825 rfl (lv_at hl 0 rfl) ?_
  refine lv_iconst (v := nI 1) hx hb dm_Law_826 (by decide) ?_
  refine wn_iadd S dm_Law_827 ?_
  refine lw_ld S hX hbl hbA hL hW (by omega) dm_Law_828 ?_
  refine lv_aload_n hx hb dm_Law_829 rfl (lv_at hl 3 rfl) ?_
  refine lv_iload_n hx hb dm_Law_830 rfl (lv_at hl 0 rfl) ?_
  refine lv_iconst (v := nI 2) hx hb dm_Law_831 (by decide) ?_
  refine wn_iadd S dm_Law_832 ?_
  refine lw_ld S hX hbl hbA hL hW (by omega) dm_Law_833 ?_
  refine wi_if_eq (tgt := 841) S rfl dm_Law_834 (by decide) (fun hcz => ?_) (fun hcz => absurd hz hcz)
  refine lv_iconst (v := nI 0) hx hb dm_Law_841 (by decide) ?_
  refine pw_callVI (rest := []) (As := [.int (xs (i + 1)), .int (nI 0)]) S hW (mm_PP_trace l D k g σ hc.1 hP hP31 (pc_rg hA hc) hc.2.2.1 (pc_fd2 hA hc) (by decide) (b0 := 0) (a := (xs (i + 1)))) (cv_Law_105 S.1.2.2.2.2 ⟨by decide, by decide⟩) (by decide) en_PP rfl rfl hl.1 rfl (lv_room (Nat.le_of_ble_eq_true rfl)) ⟨by decide, by decide⟩ dm_Law_842 (fun r σ1 H locs hC hW => ?_)
  have hC : qC_trace P σ (xs (i + 1)) 0 r σ1 := hC
  have hm1 := kC_trace hA hm hC
  refine lv_aload_n hx hb dm_Law_845 rfl (lv_at hl 1 rfl) ?_
  refine lv_aload_n hx hb dm_Law_846 rfl (lv_at hl 3 rfl) ?_
  refine lv_iload_n hx hb dm_Law_847 rfl (lv_at hl 0 rfl) ?_
  refine lv_iconst (v := nI 1) hx hb dm_Law_848 (by decide) ?_
  refine wn_iadd S dm_Law_849 ?_
  refine lw_ld S hX hbl hbA hL hW (by omega) dm_Law_850 ?_
  refine lv_aload_n hx hb dm_Law_851 rfl (lv_at hl 3 rfl) ?_
  refine lv_iload_n hx hb dm_Law_852 rfl (lv_at hl 0 rfl) ?_
  refine lv_iconst (v := nI 2) hx hb dm_Law_853 (by decide) ?_
  refine wn_iadd S dm_Law_854 ?_
  refine lw_ld S hX hbl hbA hL hW (by omega) dm_Law_855 ?_
  refine wi_if_eq (tgt := 863) S rfl dm_Law_856 (by decide) (fun hcz => ?_) (fun hcz => absurd hz hcz)
  refine lv_iconst (v := nI 0) hx hb dm_Law_863 (by decide) ?_
  refine pw_callVI (rest := [.int r]) (As := [.int (xs (i + 1)), .int (nI 0)]) S hW (mm_Model_trace l D k g σ1 hm1.1 hP hP31 (pm_rg hA hm1) (pm_k hm1) (pm_fd3 hA hm1) (by decide) (b0 := 0) (a := (xs (i + 1)))) (cv_Law_109 S.1.2.2.2.2 ⟨by decide, by decide⟩) (by decide) en_Model rfl rfl hl.1 rfl (lv_room (Nat.le_of_ble_eq_true rfl)) ⟨by decide, by decide⟩ dm_Law_864 (fun r2 σ2 H locs hM hW => ?_)
  have hM : qM_trace P σ1 (xs (i + 1)) 0 r2 σ2 := hM
  obtain ⟨he, hlr⟩ := jn_trace hP hP31 hA hc hm hC hM
  subst he
  exact wi_icmp_eq (tgt := 872) S rfl rfl dm_Law_867 (by decide) (fun _ => K σ2 H locs hlr hW) (fun h => absurd rfl h)
set_option maxHeartbeats 4000000 in
theorem lw_c19n (S : pw_S p m c code 4 s #[Value.ref b] wa_g rc_Law D cl_s (ty_s k)) (hX : va_X b L xs s s.heap) (hbl : b < s.heap.size) (hbA : ¬ A b) (hP : ag_pr P) (hP31 : P < 2147483648) (hL : L ≤ 3073) (hl : lv_has ls 4 [(3, .int (nI i)), (2, .ref (g 149)), (1, .ref (g 0)), (0, .ref b)]) (hi : i + 6 ≤ L) (hlr : lr P σ) (hW : pw_H D cl_s A s.heap g 153 (en_s k g σ) H locs) (hz : ¬ (xs (i + 2)).toInt = 0) (K : ∀ (σ2 : st_T) (H : Heap) (locs : List Loc), lr P σ2 → pw_H D cl_s A s.heap g 153 (en_s k g σ2) H locs → lw_W p l e s m below meth c b Q ls H locs 872 []) : lw_W p l e s m below meth c b Q ls H locs 823 [] := by
  have hx := S.1.1
  have hb := S.1.2.1
  obtain ⟨R, F, L0, ld, hA, hc, hm⟩ := hlr
  unfold lw_W at K ⊢
  refine lv_aload_n hx hb dm_Law_823 rfl (lv_at hl 2 rfl) ?_
  refine lv_aload_n hx hb dm_Law_824 rfl (lv_at hl 3 rfl) ?_
  refine lv_iload_n hx hb dm_Law_825 rfl (lv_at hl 0 rfl) ?_
  refine lv_iconst (v := nI 1) hx hb dm_Law_826 (by decide) ?_
  refine wn_iadd S dm_Law_827 ?_
  refine lw_ld S hX hbl hbA hL hW (by omega) dm_Law_828 ?_
  refine lv_aload_n hx hb dm_Law_829 rfl (lv_at hl 3 rfl) ?_
  refine lv_iload_n hx hb dm_Law_830 rfl (lv_at hl 0 rfl) ?_
  refine lv_iconst (v := nI 2) hx hb dm_Law_831 (by decide) ?_
  refine wn_iadd S dm_Law_832 ?_
  refine lw_ld S hX hbl hbA hL hW (by omega) dm_Law_833 ?_
  refine wi_if_eq (tgt := 841) S rfl dm_Law_834 (by decide) (fun hcz => absurd hcz hz) (fun hcz => ?_)
  refine lv_iconst (v := nI 1) hx hb dm_Law_837 (by decide) ?_
  refine lv_goto (tgt := 842) hx hb dm_Law_838 (by decide) ?_
  refine pw_callVI (rest := []) (As := [.int (xs (i + 1)), .int (nI 1)]) S hW (mm_PP_trace l D k g σ hc.1 hP hP31 (pc_rg hA hc) hc.2.2.1 (pc_fd2 hA hc) (by decide) (b0 := 1) (a := (xs (i + 1)))) (cv_Law_105 S.1.2.2.2.2 ⟨by decide, by decide⟩) (by decide) en_PP rfl rfl hl.1 rfl (lv_room (Nat.le_of_ble_eq_true rfl)) ⟨by decide, by decide⟩ dm_Law_842 (fun r σ1 H locs hC hW => ?_)
  have hC : qC_trace P σ (xs (i + 1)) 1 r σ1 := hC
  have hm1 := kC_trace hA hm hC
  refine lv_aload_n hx hb dm_Law_845 rfl (lv_at hl 1 rfl) ?_
  refine lv_aload_n hx hb dm_Law_846 rfl (lv_at hl 3 rfl) ?_
  refine lv_iload_n hx hb dm_Law_847 rfl (lv_at hl 0 rfl) ?_
  refine lv_iconst (v := nI 1) hx hb dm_Law_848 (by decide) ?_
  refine wn_iadd S dm_Law_849 ?_
  refine lw_ld S hX hbl hbA hL hW (by omega) dm_Law_850 ?_
  refine lv_aload_n hx hb dm_Law_851 rfl (lv_at hl 3 rfl) ?_
  refine lv_iload_n hx hb dm_Law_852 rfl (lv_at hl 0 rfl) ?_
  refine lv_iconst (v := nI 2) hx hb dm_Law_853 (by decide) ?_
  refine wn_iadd S dm_Law_854 ?_
  refine lw_ld S hX hbl hbA hL hW (by omega) dm_Law_855 ?_
  refine wi_if_eq (tgt := 863) S rfl dm_Law_856 (by decide) (fun hcz => absurd hcz hz) (fun hcz => ?_)
  refine lv_iconst (v := nI 1) hx hb dm_Law_859 (by decide) ?_
  refine lv_goto (tgt := 864) hx hb dm_Law_860 (by decide) ?_
  refine pw_callVI (rest := [.int r]) (As := [.int (xs (i + 1)), .int (nI 1)]) S hW (mm_Model_trace l D k g σ1 hm1.1 hP hP31 (pm_rg hA hm1) (pm_k hm1) (pm_fd3 hA hm1) (by decide) (b0 := 1) (a := (xs (i + 1)))) (cv_Law_109 S.1.2.2.2.2 ⟨by decide, by decide⟩) (by decide) en_Model rfl rfl hl.1 rfl (lv_room (Nat.le_of_ble_eq_true rfl)) ⟨by decide, by decide⟩ dm_Law_864 (fun r2 σ2 H locs hM hW => ?_)
  have hM : qM_trace P σ1 (xs (i + 1)) 1 r2 σ2 := hM
  obtain ⟨he, hlr⟩ := jn_trace hP hP31 hA hc hm hC hM
  subst he
  exact wi_icmp_eq (tgt := 872) S rfl rfl dm_Law_867 (by decide) (fun _ => K σ2 H locs hlr hW) (fun h => absurd rfl h)
end LWC
