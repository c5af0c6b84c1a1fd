/-! Rows for the reference: its fields and arrays -/
theorem kd_u11 {i : Nat} (h : kd_k i = 11) : i = 149 := (by decide +kernel : ∀ i, i < 153 → kd_k i = 11 → i = 149) i (kd_lt (by omega)) h
theorem kd_u12 {i : Nat} (h : kd_k i = 12) : i = 150 := (by decide +kernel : ∀ i, i < 153 → kd_k i = 12 → i = 150) i (kd_lt (by omega)) h
theorem kd_u13 {i : Nat} (h : kd_k i = 13) : i = 151 := (by decide +kernel : ∀ i, i < 153 → kd_k i = 13 → i = 151) i (kd_lt (by omega)) h
theorem kd_u14 {i : Nat} (h : kd_k i = 14) : i = 152 := (by decide +kernel : ∀ i, i < 153 → kd_k i = 14 → i = 152) i (kd_lt (by omega)) h
theorem en_up_m_parts {k : ClassId × ClassId × ClassId} {g : Nat → Nat} {σ : st_T} {v : Nat} : ∀ i, i < 153 → va_up (en_s k g σ) 149 (.inr (7, [.int (nI (σ 205 0)), .ref (g 150), .int (nI v), .ref (g 151), .ref (g 152), .int (nI (σ 205 2)), .int (nI (σ 205 3)), .int (nI (σ 205 4))])) i = en_s k g (st_up σ 205 (1) (v)) i := by
  intro i hi
  by_cases hit : i = 149
  · subst hit
    rw [va_up_self, en_Model]
    rw [st_up_at, va_up_self, show va_up (σ 205) 1 v 0 = σ 205 0 from va_up_ne _ _ (by decide), show va_up (σ 205) 1 v 2 = σ 205 2 from va_up_ne _ _ (by decide), show va_up (σ 205) 1 v 3 = σ 205 3 from va_up_ne _ _ (by decide), show va_up (σ 205) 1 v 4 = σ 205 4 from va_up_ne _ _ (by decide)]
  · rw [va_up_ne _ _ hit]
    refine en_cg hi (fun _ => ?_) (fun hk => ?_) (fun hk => ⟨?_, ?_⟩) (fun _ => ?_) (fun hk => ⟨?_, ?_⟩) (fun hk => ?_) (fun hk => ?_) (fun hk a ha => ?_) (fun hk => ?_) (fun hk => ?_)
    · rw [st_up_row (by omega)]
    · have := (kd_ar hk).2.1; rw [st_up_row (by omega)]
    · rw [st_up_row (by omega)]
    · rw [st_up_row (by omega)]
    · rw [st_up_row (by omega)]
    · rw [st_up_row (by omega)]
    · rw [st_up_row (by omega)]
    · rw [st_up_row (by omega)]
    · exact absurd (kd_u11 hk) hit
    · rw [st_up_row (by omega)]
    · rw [st_up_row (by omega)]
    · rw [st_up_row (by omega)]
theorem en_up_m_factored {k : ClassId × ClassId × ClassId} {g : Nat → Nat} {σ : st_T} {v : Nat} : ∀ i, i < 153 → va_up (en_s k g σ) 149 (.inr (7, [.int (nI (σ 205 0)), .ref (g 150), .int (nI (σ 205 1)), .ref (g 151), .ref (g 152), .int (nI v), .int (nI (σ 205 3)), .int (nI (σ 205 4))])) i = en_s k g (st_up σ 205 (2) (v)) i := by
  intro i hi
  by_cases hit : i = 149
  · subst hit
    rw [va_up_self, en_Model]
    rw [st_up_at, va_up_self, show va_up (σ 205) 2 v 0 = σ 205 0 from va_up_ne _ _ (by decide), show va_up (σ 205) 2 v 1 = σ 205 1 from va_up_ne _ _ (by decide), show va_up (σ 205) 2 v 3 = σ 205 3 from va_up_ne _ _ (by decide), show va_up (σ 205) 2 v 4 = σ 205 4 from va_up_ne _ _ (by decide)]
  · rw [va_up_ne _ _ hit]
    refine en_cg hi (fun _ => ?_) (fun hk => ?_) (fun hk => ⟨?_, ?_⟩) (fun _ => ?_) (fun hk => ⟨?_, ?_⟩) (fun hk => ?_) (fun hk => ?_) (fun hk a ha => ?_) (fun hk => ?_) (fun hk => ?_)
    · rw [st_up_row (by omega)]
    · have := (kd_ar hk).2.1; rw [st_up_row (by omega)]
    · rw [st_up_row (by omega)]
    · rw [st_up_row (by omega)]
    · rw [st_up_row (by omega)]
    · rw [st_up_row (by omega)]
    · rw [st_up_row (by omega)]
    · rw [st_up_row (by omega)]
    · exact absurd (kd_u11 hk) hit
    · rw [st_up_row (by omega)]
    · rw [st_up_row (by omega)]
    · rw [st_up_row (by omega)]
theorem en_up_m_lead {k : ClassId × ClassId × ClassId} {g : Nat → Nat} {σ : st_T} {v : Nat} : ∀ i, i < 153 → va_up (en_s k g σ) 149 (.inr (7, [.int (nI (σ 205 0)), .ref (g 150), .int (nI (σ 205 1)), .ref (g 151), .ref (g 152), .int (nI (σ 205 2)), .int (nI v), .int (nI (σ 205 4))])) i = en_s k g (st_up σ 205 (3) (v)) i := by
  intro i hi
  by_cases hit : i = 149
  · subst hit
    rw [va_up_self, en_Model]
    rw [st_up_at, va_up_self, show va_up (σ 205) 3 v 0 = σ 205 0 from va_up_ne _ _ (by decide), show va_up (σ 205) 3 v 1 = σ 205 1 from va_up_ne _ _ (by decide), show va_up (σ 205) 3 v 2 = σ 205 2 from va_up_ne _ _ (by decide), show va_up (σ 205) 3 v 4 = σ 205 4 from va_up_ne _ _ (by decide)]
  · rw [va_up_ne _ _ hit]
    refine en_cg hi (fun _ => ?_) (fun hk => ?_) (fun hk => ⟨?_, ?_⟩) (fun _ => ?_) (fun hk => ⟨?_, ?_⟩) (fun hk => ?_) (fun hk => ?_) (fun hk a ha => ?_) (fun hk => ?_) (fun hk => ?_)
    · rw [st_up_row (by omega)]
    · have := (kd_ar hk).2.1; rw [st_up_row (by omega)]
    · rw [st_up_row (by omega)]
    · rw [st_up_row (by omega)]
    · rw [st_up_row (by omega)]
    · rw [st_up_row (by omega)]
    · rw [st_up_row (by omega)]
    · rw [st_up_row (by omega)]
    · exact absurd (kd_u11 hk) hit
    · rw [st_up_row (by omega)]
    · rw [st_up_row (by omega)]
    · rw [st_up_row (by omega)]
theorem en_up_m_k {k : ClassId × ClassId × ClassId} {g : Nat → Nat} {σ : st_T} {v : Nat} : ∀ i, i < 153 → va_up (en_s k g σ) 149 (.inr (7, [.int (nI (σ 205 0)), .ref (g 150), .int (nI (σ 205 1)), .ref (g 151), .ref (g 152), .int (nI (σ 205 2)), .int (nI (σ 205 3)), .int (nI v)])) i = en_s k g (st_up σ 205 (4) (v)) i := by
  intro i hi
  by_cases hit : i = 149
  · subst hit
    rw [va_up_self, en_Model]
    rw [st_up_at, va_up_self, show va_up (σ 205) 4 v 0 = σ 205 0 from va_up_ne _ _ (by decide), show va_up (σ 205) 4 v 1 = σ 205 1 from va_up_ne _ _ (by decide), show va_up (σ 205) 4 v 2 = σ 205 2 from va_up_ne _ _ (by decide), show va_up (σ 205) 4 v 3 = σ 205 3 from va_up_ne _ _ (by decide)]
  · rw [va_up_ne _ _ hit]
    refine en_cg hi (fun _ => ?_) (fun hk => ?_) (fun hk => ⟨?_, ?_⟩) (fun _ => ?_) (fun hk => ⟨?_, ?_⟩) (fun hk => ?_) (fun hk => ?_) (fun hk a ha => ?_) (fun hk => ?_) (fun hk => ?_)
    · rw [st_up_row (by omega)]
    · have := (kd_ar hk).2.1; rw [st_up_row (by omega)]
    · rw [st_up_row (by omega)]
    · rw [st_up_row (by omega)]
    · rw [st_up_row (by omega)]
    · rw [st_up_row (by omega)]
    · rw [st_up_row (by omega)]
    · rw [st_up_row (by omega)]
    · exact absurd (kd_u11 hk) hit
    · rw [st_up_row (by omega)]
    · rw [st_up_row (by omega)]
    · rw [st_up_row (by omega)]
theorem en_up_mo {k : ClassId × ClassId × ClassId} {g : Nat → Nat} {σ : st_T} {t v : Nat} : ∀ i, i < 153 → va_up (en_s k g σ) 151 (.inl (k.1, 16, .inl (upd (fun t => nI (σ 206 t)) t (nI v)))) i = en_s k g (st_up σ 206 (t) (v)) i := by
  intro i hi
  by_cases hit : i = 151
  · subst hit
    rw [va_up_self, en_moften]
    have e : upd (fun t => nI (σ 206 t)) t (nI v) = fun s => nI (st_up σ 206 t v 206 s) := funext (fun s => by
      rw [st_up_at]
      unfold upd va_up
      split <;> rfl)
    rw [e]
  · rw [va_up_ne _ _ hit]
    refine en_cg hi (fun _ => ?_) (fun hk => ?_) (fun hk => ⟨?_, ?_⟩) (fun _ => ?_) (fun hk => ⟨?_, ?_⟩) (fun hk => ?_) (fun hk => ?_) (fun hk a ha => ?_) (fun hk => ?_) (fun hk => ?_)
    · rw [st_up_row (by omega)]
    · have := (kd_ar hk).2.1; rw [st_up_row (by omega)]
    · rw [st_up_row (by omega)]
    · rw [st_up_row (by omega)]
    · rw [st_up_row (by omega)]
    · rw [st_up_row (by omega)]
    · rw [st_up_row (by omega)]
    · rw [st_up_row (by omega)]
    · rw [st_up_row (by omega)]
    · rw [st_up_row (by omega)]
    · exact absurd (kd_u13 hk) hit
    · rw [st_up_row (by omega)]
theorem en_up_md {k : ClassId × ClassId × ClassId} {g : Nat → Nat} {σ : st_T} {t v : Nat} : ∀ i, i < 153 → va_up (en_s k g σ) 152 (.inl (k.1, 16, .inl (upd (fun t => nI (σ 207 t)) t (nI v)))) i = en_s k g (st_up σ 207 (t) (v)) i := by
  intro i hi
  by_cases hit : i = 152
  · subst hit
    rw [va_up_self, en_mdegrees]
    have e : upd (fun t => nI (σ 207 t)) t (nI v) = fun s => nI (st_up σ 207 t v 207 s) := funext (fun s => by
      rw [st_up_at]
      unfold upd va_up
      split <;> rfl)
    rw [e]
  · rw [va_up_ne _ _ hit]
    refine en_cg hi (fun _ => ?_) (fun hk => ?_) (fun hk => ⟨?_, ?_⟩) (fun _ => ?_) (fun hk => ⟨?_, ?_⟩) (fun hk => ?_) (fun hk => ?_) (fun hk a ha => ?_) (fun hk => ?_) (fun hk => ?_)
    · rw [st_up_row (by omega)]
    · have := (kd_ar hk).2.1; rw [st_up_row (by omega)]
    · rw [st_up_row (by omega)]
    · rw [st_up_row (by omega)]
    · rw [st_up_row (by omega)]
    · rw [st_up_row (by omega)]
    · rw [st_up_row (by omega)]
    · rw [st_up_row (by omega)]
    · rw [st_up_row (by omega)]
    · rw [st_up_row (by omega)]
    · rw [st_up_row (by omega)]
    · exact absurd (kd_u14 hk) hit
theorem en_up_mc {k : ClassId × ClassId × ClassId} {g : Nat → Nat} {σ : st_T} {s0 t v : Nat} (ht : t < 32) : ∀ i, i < 153 → va_up (en_s k g σ) 150 (.inl (k.1, 1056, .inl (upd (fun t => nI (σ (300 + t / 32) (t % 32))) (32 * s0 + t) (nI v)))) i = en_s k g (st_up σ (300 + s0) (t) (v)) i := by
  intro i hi
  by_cases hit : i = 150
  · subst hit
    rw [va_up_self, en_mc]
    have e : upd (fun t => nI (σ (300 + t / 32) (t % 32))) (32 * s0 + t) (nI v) = fun q => nI (st_up σ (300 + s0) t v (300 + q / 32) (q % 32)) := funext (fun q => by
      unfold upd st_up
      by_cases h1 : q = 32 * s0 + t
      · rw [if_pos h1, if_pos (by omega), if_pos (by omega)]
      · rw [if_neg h1]
        by_cases h2 : 300 + q / 32 = 300 + s0
        · rw [if_pos h2, if_neg (by omega)]
        · rw [if_neg h2])
    rw [e]
  · rw [va_up_ne _ _ hit]
    refine en_cg hi (fun _ => ?_) (fun hk => ?_) (fun hk => ⟨?_, ?_⟩) (fun _ => ?_) (fun hk => ⟨?_, ?_⟩) (fun hk => ?_) (fun hk => ?_) (fun hk a ha => ?_) (fun hk => ?_) (fun hk => ?_)
    · rw [st_up_row (by omega)]
    · have := (kd_ar hk).2.1; rw [st_up_row (by omega)]
    · rw [st_up_row (by omega)]
    · rw [st_up_row (by omega)]
    · rw [st_up_row (by omega)]
    · rw [st_up_row (by omega)]
    · rw [st_up_row (by omega)]
    · rw [st_up_row (by omega)]
    · rw [st_up_row (by omega)]
    · exact absurd (kd_u12 hk) hit
    · rw [st_up_row (by omega)]
    · rw [st_up_row (by omega)]
section MDR
variable {p : Program} {l : Launch} {e : Env} {R : Room} {s : State} {m : MethodId} {args : Array Value} {below : List Frame} {meth : Method} {c : Code} {H : Heap} {locs : List Loc} {cells slots : Nat} {Q : State → Prop}
variable {cc : ByteArray} {pc : Nat} {ls : Array Slot} {rest : List Value} {D : va_G} {A : Nat → Prop} {H0 : Heap} {g : Nat → Nat} {nL : Nat} {own : String} {k : ClassId × ClassId × ClassId} {σ : st_T}
theorem md_p (S : pw_S p m c cc nL s args wa_g own D cl_s (ty_s k)) (hW : pw_H D cl_s A H0 g 153 (en_s k g σ) H locs) {index : Nat} (hlink : Cond.fieldLink own index "PrimePolynomialsModel" "p" "I" ∈ wa_g) (hdg : decode cc pc = .ok (.getfield index, 3)) (kk : W p l e R s m args below meth c H locs cells slots Q (F0 m (pc + 3) ls (.int (nI (σ 205 0)) :: rest))) : W p l e R s m args below meth c H locs cells slots Q (F0 m pc ls (.ref (g 149) :: rest)) :=
  pw_get S hW 149 (by decide) en_Model 0 (by decide) rfl wu_Model hlink rfl rfl hdg kk
theorem md_parts (S : pw_S p m c cc nL s args wa_g own D cl_s (ty_s k)) (hW : pw_H D cl_s A H0 g 153 (en_s k g σ) H locs) {index : Nat} (hlink : Cond.fieldLink own index "PrimePolynomialsModel" "parts" "I" ∈ wa_g) (hdg : decode cc pc = .ok (.getfield index, 3)) (kk : W p l e R s m args below meth c H locs cells slots Q (F0 m (pc + 3) ls (.int (nI (σ 205 1)) :: rest))) : W p l e R s m args below meth c H locs cells slots Q (F0 m pc ls (.ref (g 149) :: rest)) :=
  pw_get S hW 149 (by decide) en_Model 2 (by decide) rfl wu_Model hlink rfl rfl hdg kk
theorem md_factored (S : pw_S p m c cc nL s args wa_g own D cl_s (ty_s k)) (hW : pw_H D cl_s A H0 g 153 (en_s k g σ) H locs) {index : Nat} (hlink : Cond.fieldLink own index "PrimePolynomialsModel" "factored" "Z" ∈ wa_g) (hdg : decode cc pc = .ok (.getfield index, 3)) (kk : W p l e R s m args below meth c H locs cells slots Q (F0 m (pc + 3) ls (.int (nI (σ 205 2)) :: rest))) : W p l e R s m args below meth c H locs cells slots Q (F0 m pc ls (.ref (g 149) :: rest)) :=
  pw_get S hW 149 (by decide) en_Model 5 (by decide) rfl wu_Model hlink rfl rfl hdg kk
theorem md_lead (S : pw_S p m c cc nL s args wa_g own D cl_s (ty_s k)) (hW : pw_H D cl_s A H0 g 153 (en_s k g σ) H locs) {index : Nat} (hlink : Cond.fieldLink own index "PrimePolynomialsModel" "lead" "I" ∈ wa_g) (hdg : decode cc pc = .ok (.getfield index, 3)) (kk : W p l e R s m args below meth c H locs cells slots Q (F0 m (pc + 3) ls (.int (nI (σ 205 3)) :: rest))) : W p l e R s m args below meth c H locs cells slots Q (F0 m pc ls (.ref (g 149) :: rest)) :=
  pw_get S hW 149 (by decide) en_Model 6 (by decide) rfl wu_Model hlink rfl rfl hdg kk
theorem md_k (S : pw_S p m c cc nL s args wa_g own D cl_s (ty_s k)) (hW : pw_H D cl_s A H0 g 153 (en_s k g σ) H locs) {index : Nat} (hlink : Cond.fieldLink own index "PrimePolynomialsModel" "k" "I" ∈ wa_g) (hdg : decode cc pc = .ok (.getfield index, 3)) (kk : W p l e R s m args below meth c H locs cells slots Q (F0 m (pc + 3) ls (.int (nI (σ 205 4)) :: rest))) : W p l e R s m args below meth c H locs cells slots Q (F0 m pc ls (.ref (g 149) :: rest)) :=
  pw_get S hW 149 (by decide) en_Model 7 (by decide) rfl wu_Model hlink rfl rfl hdg kk
theorem md_c (S : pw_S p m c cc nL s args wa_g own D cl_s (ty_s k)) (hW : pw_H D cl_s A H0 g 153 (en_s k g σ) H locs) {index : Nat} (hlink : Cond.fieldLink own index "PrimePolynomialsModel" "c" "[I" ∈ wa_g) (hdg : decode cc pc = .ok (.getfield index, 3)) (kk : W p l e R s m args below meth c H locs cells slots Q (F0 m (pc + 3) ls (.ref (g 150) :: rest))) : W p l e R s m args below meth c H locs cells slots Q (F0 m pc ls (.ref (g 149) :: rest)) :=
  pw_get S hW 149 (by decide) en_Model 1 (by decide) rfl wu_Model hlink rfl rfl hdg kk
theorem md_often (S : pw_S p m c cc nL s args wa_g own D cl_s (ty_s k)) (hW : pw_H D cl_s A H0 g 153 (en_s k g σ) H locs) {index : Nat} (hlink : Cond.fieldLink own index "PrimePolynomialsModel" "often" "[I" ∈ wa_g) (hdg : decode cc pc = .ok (.getfield index, 3)) (kk : W p l e R s m args below meth c H locs cells slots Q (F0 m (pc + 3) ls (.ref (g 151) :: rest))) : W p l e R s m args below meth c H locs cells slots Q (F0 m pc ls (.ref (g 149) :: rest)) :=
  pw_get S hW 149 (by decide) en_Model 3 (by decide) rfl wu_Model hlink rfl rfl hdg kk
theorem md_degrees (S : pw_S p m c cc nL s args wa_g own D cl_s (ty_s k)) (hW : pw_H D cl_s A H0 g 153 (en_s k g σ) H locs) {index : Nat} (hlink : Cond.fieldLink own index "PrimePolynomialsModel" "degrees" "[I" ∈ wa_g) (hdg : decode cc pc = .ok (.getfield index, 3)) (kk : W p l e R s m args below meth c H locs cells slots Q (F0 m (pc + 3) ls (.ref (g 152) :: rest))) : W p l e R s m args below meth c H locs cells slots Q (F0 m pc ls (.ref (g 149) :: rest)) :=
  pw_get S hW 149 (by decide) en_Model 4 (by decide) rfl wu_Model hlink rfl rfl hdg kk
theorem md_put_parts (S : pw_S p m c cc nL s args wa_g own D cl_s (ty_s k)) (hW : pw_H D cl_s A H0 g 153 (en_s k g σ) H locs) {v index : Nat} (hlink : Cond.fieldLink own index "PrimePolynomialsModel" "parts" "I" ∈ wa_g) (hdg : decode cc pc = .ok (.putfield index, 3)) (kk : ∀ (H1 : Heap) (locs1 : List Loc), pw_H D cl_s A H0 g 153 (en_s k g (st_up σ 205 1 v)) H1 locs1 → W p l e R s m args below meth c H1 locs1 cells slots Q (F0 m (pc + 3) ls rest)) : W p l e R s m args below meth c H locs cells slots Q (F0 m pc ls (.int (nI v) :: .ref (g 149) :: rest)) :=
  pw_put S hW ty_Model to_Model nm_Model 149 (by decide) en_Model 2 (by decide) rfl wu_Model hlink rfl rfl (ty := .int) (by decide +kernel) rfl rfl (Nat.le_of_ble_eq_true rfl) hdg (fun H1 locs1 hW1 => kk H1 locs1 (pw_eq hW1 en_up_m_parts))
theorem md_put_lead (S : pw_S p m c cc nL s args wa_g own D cl_s (ty_s k)) (hW : pw_H D cl_s A H0 g 153 (en_s k g σ) H locs) {v index : Nat} (hlink : Cond.fieldLink own index "PrimePolynomialsModel" "lead" "I" ∈ wa_g) (hdg : decode cc pc = .ok (.putfield index, 3)) (kk : ∀ (H1 : Heap) (locs1 : List Loc), pw_H D cl_s A H0 g 153 (en_s k g (st_up σ 205 3 v)) H1 locs1 → W p l e R s m args below meth c H1 locs1 cells slots Q (F0 m (pc + 3) ls rest)) : W p l e R s m args below meth c H locs cells slots Q (F0 m pc ls (.int (nI v) :: .ref (g 149) :: rest)) :=
  pw_put S hW ty_Model to_Model nm_Model 149 (by decide) en_Model 6 (by decide) rfl wu_Model hlink rfl rfl (ty := .int) (by decide +kernel) rfl rfl (Nat.le_of_ble_eq_true rfl) hdg (fun H1 locs1 hW1 => kk H1 locs1 (pw_eq hW1 en_up_m_lead))
theorem md_put_k (S : pw_S p m c cc nL s args wa_g own D cl_s (ty_s k)) (hW : pw_H D cl_s A H0 g 153 (en_s k g σ) H locs) {v index : Nat} (hlink : Cond.fieldLink own index "PrimePolynomialsModel" "k" "I" ∈ wa_g) (hdg : decode cc pc = .ok (.putfield index, 3)) (kk : ∀ (H1 : Heap) (locs1 : List Loc), pw_H D cl_s A H0 g 153 (en_s k g (st_up σ 205 4 v)) H1 locs1 → W p l e R s m args below meth c H1 locs1 cells slots Q (F0 m (pc + 3) ls rest)) : W p l e R s m args below meth c H locs cells slots Q (F0 m pc ls (.int (nI v) :: .ref (g 149) :: rest)) :=
  pw_put S hW ty_Model to_Model nm_Model 149 (by decide) en_Model 7 (by decide) rfl wu_Model hlink rfl rfl (ty := .int) (by decide +kernel) rfl rfl (Nat.le_of_ble_eq_true rfl) hdg (fun H1 locs1 hW1 => kk H1 locs1 (pw_eq hW1 en_up_m_k))
theorem md_put_factored (S : pw_S p m c cc nL s args wa_g own D cl_s (ty_s k)) (hW : pw_H D cl_s A H0 g 153 (en_s k g σ) H locs) {index : Nat} (hlink : Cond.fieldLink own index "PrimePolynomialsModel" "factored" "Z" ∈ wa_g) (hdg : decode cc pc = .ok (.putfield index, 3)) (kk : ∀ (H1 : Heap) (locs1 : List Loc), pw_H D cl_s A H0 g 153 (en_s k g (st_up σ 205 2 1)) H1 locs1 → W p l e R s m args below meth c H1 locs1 cells slots Q (F0 m (pc + 3) ls rest)) : W p l e R s m args below meth c H locs cells slots Q (F0 m pc ls (.int (nI 1) :: .ref (g 149) :: rest)) :=
  pw_put S hW ty_Model to_Model nm_Model 149 (by decide) en_Model 5 (by decide) rfl wu_Model hlink rfl rfl (ty := .boolean) (by decide +kernel) rfl rfl (Nat.le_of_ble_eq_true rfl) hdg (fun H1 locs1 hW1 => kk H1 locs1 (pw_eq hW1 en_up_m_factored))
theorem mo_ald (S : pw_S p m c cc nL s args wa_g own D cl_s (ty_s k)) (hW : pw_H D cl_s A H0 g 153 (en_s k g σ) H locs) {n : Nat} (hn : n < 16) (hdg : decode cc pc = .ok (.iaload, 1)) (kk : W p l e R s m args below meth c H locs cells slots Q (F0 m (pc + 1) ls (.int (nI (σ 206 n)) :: rest))) : W p l e R s m args below meth c H locs cells slots Q (F0 m pc ls (.int (nI n) :: .ref (g 151) :: rest)) :=
  pw_iald S hW 0 rfl 151 (by decide) en_moften (vp_in_nI hn (by decide)) (by rw [nI_clamp (by omega)]) hdg kk
theorem mo_ast (S : pw_S p m c cc nL s args wa_g own D cl_s (ty_s k)) (hW : pw_H D cl_s A H0 g 153 (en_s k g σ) H locs) {n v : Nat} (hn : n < 16) (hdg : decode cc pc = .ok (.iastore, 1)) (kk : ∀ (H1 : Heap) (locs1 : List Loc), pw_H D cl_s A H0 g 153 (en_s k g (st_up σ 206 n v)) H1 locs1 → W p l e R s m args below meth c H1 locs1 cells slots Q (F0 m (pc + 1) ls rest)) : W p l e R s m args below meth c H locs cells slots Q (F0 m pc ls (.int (nI v) :: .int (nI n) :: .ref (g 151) :: rest)) :=
  pw_iast S hW 0 rfl 151 (by decide) en_moften (vp_in_nI hn (by decide)) hdg (fun H1 locs1 hW1 => kk H1 locs1 (pw_eq (by rw [nI_clamp (show n < 2 ^ 31 by omega)] at hW1; exact hW1) en_up_mo))
theorem md_ald (S : pw_S p m c cc nL s args wa_g own D cl_s (ty_s k)) (hW : pw_H D cl_s A H0 g 153 (en_s k g σ) H locs) {n : Nat} (hn : n < 16) (hdg : decode cc pc = .ok (.iaload, 1)) (kk : W p l e R s m args below meth c H locs cells slots Q (F0 m (pc + 1) ls (.int (nI (σ 207 n)) :: rest))) : W p l e R s m args below meth c H locs cells slots Q (F0 m pc ls (.int (nI n) :: .ref (g 152) :: rest)) :=
  pw_iald S hW 0 rfl 152 (by decide) en_mdegrees (vp_in_nI hn (by decide)) (by rw [nI_clamp (by omega)]) hdg kk
theorem md_ast (S : pw_S p m c cc nL s args wa_g own D cl_s (ty_s k)) (hW : pw_H D cl_s A H0 g 153 (en_s k g σ) H locs) {n v : Nat} (hn : n < 16) (hdg : decode cc pc = .ok (.iastore, 1)) (kk : ∀ (H1 : Heap) (locs1 : List Loc), pw_H D cl_s A H0 g 153 (en_s k g (st_up σ 207 n v)) H1 locs1 → W p l e R s m args below meth c H1 locs1 cells slots Q (F0 m (pc + 1) ls rest)) : W p l e R s m args below meth c H locs cells slots Q (F0 m pc ls (.int (nI v) :: .int (nI n) :: .ref (g 152) :: rest)) :=
  pw_iast S hW 0 rfl 152 (by decide) en_mdegrees (vp_in_nI hn (by decide)) hdg (fun H1 locs1 hW1 => kk H1 locs1 (pw_eq (by rw [nI_clamp (show n < 2 ^ 31 by omega)] at hW1; exact hW1) en_up_md))
theorem mc_ald (S : pw_S p m c cc nL s args wa_g own D cl_s (ty_s k)) (hW : pw_H D cl_s A H0 g 153 (en_s k g σ) H locs) {s0 n : Nat} (hs : s0 < 33) (hn : n < 32) (hdg : decode cc pc = .ok (.iaload, 1)) (kk : W p l e R s m args below meth c H locs cells slots Q (F0 m (pc + 1) ls (.int (nI (σ (300 + s0) n)) :: rest))) : W p l e R s m args below meth c H locs cells slots Q (F0 m pc ls (.int (nI (32 * s0 + n)) :: .ref (g 150) :: rest)) :=
  pw_iald S hW 0 rfl 150 (by decide) en_mc (vp_in_nI (N := 1056) (by omega) (by decide)) (by rw [nI_clamp (by omega), show (32 * s0 + n) / 32 = s0 by omega, show (32 * s0 + n) % 32 = n by omega]) hdg kk
theorem mc_ast (S : pw_S p m c cc nL s args wa_g own D cl_s (ty_s k)) (hW : pw_H D cl_s A H0 g 153 (en_s k g σ) H locs) {s0 n v : Nat} (hs : s0 < 33) (hn : n < 32) (hdg : decode cc pc = .ok (.iastore, 1)) (kk : ∀ (H1 : Heap) (locs1 : List Loc), pw_H D cl_s A H0 g 153 (en_s k g (st_up σ (300 + s0) n v)) H1 locs1 → W p l e R s m args below meth c H1 locs1 cells slots Q (F0 m (pc + 1) ls rest)) : W p l e R s m args below meth c H locs cells slots Q (F0 m pc ls (.int (nI v) :: .int (nI (32 * s0 + n)) :: .ref (g 150) :: rest)) :=
  pw_iast S hW 0 rfl 150 (by decide) en_mc (vp_in_nI (N := 1056) (by omega) (by decide)) hdg (fun H1 locs1 hW1 => kk H1 locs1 (pw_eq (by rw [nI_clamp (show 32 * s0 + n < 2 ^ 31 by omega)] at hW1; exact hW1) (en_up_mc hn)))
end MDR
