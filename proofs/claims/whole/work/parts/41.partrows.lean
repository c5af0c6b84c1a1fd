/-! Rows for Part, Parts and the list of parts -/
theorem kd_u5 {i : Nat} (h : kd_k i = 5) : i = 62 := (by decide +kernel : ∀ i, i < 153 → kd_k i = 5 → i = 62) i (kd_lt (by omega)) h
theorem kd_u9 {i : Nat} (h : kd_k i = 9) : i = 63 := (by decide +kernel : ∀ i, i < 153 → kd_k i = 9 → i = 63) i (kd_lt (by omega)) h
theorem kd_p4 {j : Nat} (h : kd_k j = 10) : kd_k (j + 1) = 0 := (kd_pa h).1
theorem en_up_ct {k : ClassId × ClassId × ClassId} {g : Nat → Nat} {σ : st_T} {v : Nat} : ∀ i, i < 153 → va_up (en_s k g σ) (62) (.inr (3, [.ref (g 1), .ref (g 18), .ref (g 63), .int (nI v), .int (nI (σ 203 2)), .ref (g 64), .ref (g 66), .ref (g 68), .ref (g 70)])) i = en_s k g (st_up σ 203 (1) (v)) i := by
  intro i hi
  by_cases hit : i = 62
  · subst hit
    rw [va_up_self, en_Parts]
    rw [st_up_at, va_up_self, va_up_ne _ _ (by omega)]
  · rw [va_up_ne _ _ hit]
    refine en_cg hi (fun _ => ?_) (fun hk => ?_) (fun hk => ⟨?_, ?_⟩) (fun _ => ?_) (fun hk => ⟨?_, ?_⟩) (fun hk => ?_) (fun _ => ?_) (fun _ a ha => ?_) (fun _ => ?_) (fun _ => ?_)
    · rw [st_up_row (by omega)]
    · have := (kd_ar hk).2.1; rw [st_up_row (by omega)]
    · rw [st_up_row (by omega)]
    · rw [st_up_row (by omega)]
    · rw [st_up_at, va_up_ne _ _ (by omega)]
    · exact absurd (kd_u5 hk) hit
    · exact absurd (kd_u5 hk) hit
    · rw [st_up_row (by omega)]
    · rw [st_up_row (by omega)]
    · rw [st_up_row (by omega)]
    · rw [st_up_row (by omega)]
    · rw [st_up_row (by omega)]
theorem en_up_ld {k : ClassId × ClassId × ClassId} {g : Nat → Nat} {σ : st_T} {v : Nat} : ∀ i, i < 153 → va_up (en_s k g σ) (62) (.inr (3, [.ref (g 1), .ref (g 18), .ref (g 63), .int (nI (σ 203 1)), .int (nI v), .ref (g 64), .ref (g 66), .ref (g 68), .ref (g 70)])) i = en_s k g (st_up σ 203 (2) (v)) i := by
  intro i hi
  by_cases hit : i = 62
  · subst hit
    rw [va_up_self, en_Parts]
    rw [st_up_at, va_up_self, va_up_ne _ _ (by omega)]
  · rw [va_up_ne _ _ hit]
    refine en_cg hi (fun _ => ?_) (fun hk => ?_) (fun hk => ⟨?_, ?_⟩) (fun _ => ?_) (fun hk => ⟨?_, ?_⟩) (fun hk => ?_) (fun _ => ?_) (fun _ a ha => ?_) (fun _ => ?_) (fun _ => ?_)
    · rw [st_up_row (by omega)]
    · have := (kd_ar hk).2.1; rw [st_up_row (by omega)]
    · rw [st_up_row (by omega)]
    · rw [st_up_row (by omega)]
    · rw [st_up_at, va_up_ne _ _ (by omega)]
    · exact absurd (kd_u5 hk) hit
    · exact absurd (kd_u5 hk) hit
    · rw [st_up_row (by omega)]
    · rw [st_up_row (by omega)]
    · rw [st_up_row (by omega)]
    · rw [st_up_row (by omega)]
    · rw [st_up_row (by omega)]
theorem en_up_of {k : ClassId × ClassId × ClassId} {g : Nat → Nat} {σ : st_T} {j v : Nat} (h : kd_k j = 10) : ∀ i, i < 153 → va_up (en_s k g σ) (j) (.inr (2, [.ref (g (j + 1)), .int (nI v), .int (nI (σ 202 j))])) i = en_s k g (st_up σ 201 (j) (v)) i := by
  intro i hi
  by_cases hit : i = j
  · subst hit
    rw [va_up_self, en_k10 h]
    rw [st_up_at, va_up_self, st_up_row (by omega)]
  · rw [va_up_ne _ _ hit]
    refine en_cg hi (fun _ => ?_) (fun hk => ?_) (fun hk => ⟨?_, ?_⟩) (fun _ => ?_) (fun hk => ⟨?_, ?_⟩) (fun hk => ?_) (fun _ => ?_) (fun _ a ha => ?_) (fun _ => ?_) (fun _ => ?_)
    · rw [st_up_row (by omega)]
    · have := (kd_ar hk).2.1; rw [st_up_row (by omega)]
    · rw [st_up_at, va_up_ne _ _ hit]
    · rw [st_up_row (by omega)]
    · rw [st_up_row (by omega)]
    · rw [st_up_row (by omega)]
    · rw [st_up_row (by omega)]
    · rw [st_up_row (by omega)]
    · rw [st_up_row (by omega)]
    · rw [st_up_row (by omega)]
    · rw [st_up_row (by omega)]
    · rw [st_up_row (by omega)]
theorem en_up_ea {k : ClassId × ClassId × ClassId} {g : Nat → Nat} {σ : st_T} {j v : Nat} (h : kd_k j = 10) : ∀ i, i < 153 → va_up (en_s k g σ) (j) (.inr (2, [.ref (g (j + 1)), .int (nI (σ 201 j)), .int (nI v)])) i = en_s k g (st_up σ 202 (j) (v)) i := by
  intro i hi
  by_cases hit : i = j
  · subst hit
    rw [va_up_self, en_k10 h]
    rw [st_up_at, va_up_self, st_up_row (by omega)]
  · rw [va_up_ne _ _ hit]
    refine en_cg hi (fun _ => ?_) (fun hk => ?_) (fun hk => ⟨?_, ?_⟩) (fun _ => ?_) (fun hk => ⟨?_, ?_⟩) (fun hk => ?_) (fun _ => ?_) (fun _ a ha => ?_) (fun _ => ?_) (fun _ => ?_)
    · rw [st_up_row (by omega)]
    · have := (kd_ar hk).2.1; rw [st_up_row (by omega)]
    · rw [st_up_row (by omega)]
    · rw [st_up_at, va_up_ne _ _ hit]
    · rw [st_up_row (by omega)]
    · rw [st_up_row (by omega)]
    · rw [st_up_row (by omega)]
    · rw [st_up_row (by omega)]
    · rw [st_up_row (by omega)]
    · rw [st_up_row (by omega)]
    · rw [st_up_row (by omega)]
    · rw [st_up_row (by omega)]
theorem en_up_li {k : ClassId × ClassId × ClassId} {g : Nat → Nat} {σ : st_T} {n v : Nat} : ∀ i, i < 153 → va_up (en_s k g σ) (63) (.inl (k.2.2, 15, .inr (.inr (.inr (.inr (va_up (fun t => some (g (σ 204 t))) n (some (g v)))))))) i = en_s k g (st_up σ 204 (n) (v)) i := by
  intro i hi
  by_cases hit : i = 63
  · subst hit
    rw [va_up_self, en_list]
    have e : (fun t => some (g (st_up σ 204 n v 204 t))) = va_up (fun t => some (g (σ 204 t))) n (some (g v)) := funext (fun t => by
      rw [st_up_at]
      unfold va_up
      split <;> rfl)
    rw [e]
  · rw [va_up_ne _ _ hit]
    refine en_cg hi (fun _ => ?_) (fun hk => ?_) (fun hk => ⟨?_, ?_⟩) (fun _ => ?_) (fun hk => ⟨?_, ?_⟩) (fun hk => ?_) (fun _ => ?_) (fun _ a ha => ?_) (fun _ => ?_) (fun _ => ?_)
    · rw [st_up_row (by omega)]
    · have := (kd_ar hk).2.1; rw [st_up_row (by omega)]
    · rw [st_up_row (by omega)]
    · rw [st_up_row (by omega)]
    · rw [st_up_row (by omega)]
    · rw [st_up_row (by omega)]
    · rw [st_up_row (by omega)]
    · exact absurd (kd_u9 hk) hit
    · rw [st_up_row (by omega)]
    · rw [st_up_row (by omega)]
    · rw [st_up_row (by omega)]
    · rw [st_up_row (by omega)]
section PTR
variable {p : Program} {l : Launch} {e : Env} {R : Room} {s : State} {m : MethodId} {args : Array Value} {below : List Frame} {meth : Method} {c : Code} {H : Heap} {locs : List Loc} {cells slots : Nat} {Q : State → Prop}
variable {cc : ByteArray} {pc : Nat} {ls : Array Slot} {rest : List Value} {D : va_G} {A : Nat → Prop} {H0 : Heap} {g : Nat → Nat} {nL : Nat} {own : String} {k : ClassId × ClassId × ClassId} {σ : st_T}
theorem pt_poly (S : pw_S p m c cc nL s args wa_g own D cl_s (ty_s k)) (hW : pw_H D cl_s A H0 g 153 (en_s k g σ) H locs) {j : Nat} (h : kd_k j = 10) {index : Nat} (hlink : Cond.fieldLink own index "PrimePolynomials$Part" "polynomial" "LPrimePolynomials$Polynomial;" ∈ wa_g) (hdg : decode cc pc = .ok (.getfield index, 3)) (kk : W p l e R s m args below meth c H locs cells slots Q (F0 m (pc + 3) ls (.ref (g (j + 1)) :: rest))) : W p l e R s m args below meth c H locs cells slots Q (F0 m pc ls (.ref (g (j)) :: rest)) :=
  pw_get S hW (j) (kd_p3 h) (en_k10 h) 0 (by decide) rfl wu_Part hlink rfl rfl hdg kk
theorem pt_often (S : pw_S p m c cc nL s args wa_g own D cl_s (ty_s k)) (hW : pw_H D cl_s A H0 g 153 (en_s k g σ) H locs) {j : Nat} (h : kd_k j = 10) {index : Nat} (hlink : Cond.fieldLink own index "PrimePolynomials$Part" "often" "I" ∈ wa_g) (hdg : decode cc pc = .ok (.getfield index, 3)) (kk : W p l e R s m args below meth c H locs cells slots Q (F0 m (pc + 3) ls (.int (nI (σ 201 j)) :: rest))) : W p l e R s m args below meth c H locs cells slots Q (F0 m pc ls (.ref (g (j)) :: rest)) :=
  pw_get S hW (j) (kd_p3 h) (en_k10 h) 1 (by decide) rfl wu_Part hlink rfl rfl hdg kk
theorem pt_each (S : pw_S p m c cc nL s args wa_g own D cl_s (ty_s k)) (hW : pw_H D cl_s A H0 g 153 (en_s k g σ) H locs) {j : Nat} (h : kd_k j = 10) {index : Nat} (hlink : Cond.fieldLink own index "PrimePolynomials$Part" "each" "I" ∈ wa_g) (hdg : decode cc pc = .ok (.getfield index, 3)) (kk : W p l e R s m args below meth c H locs cells slots Q (F0 m (pc + 3) ls (.int (nI (σ 202 j)) :: rest))) : W p l e R s m args below meth c H locs cells slots Q (F0 m pc ls (.ref (g (j)) :: rest)) :=
  pw_get S hW (j) (kd_p3 h) (en_k10 h) 2 (by decide) rfl wu_Part hlink rfl rfl hdg kk
theorem pt_puto (S : pw_S p m c cc nL s args wa_g own D cl_s (ty_s k)) (hW : pw_H D cl_s A H0 g 153 (en_s k g σ) H locs) {j : Nat} (h : kd_k j = 10) {v index : Nat} (hlink : Cond.fieldLink own index "PrimePolynomials$Part" "often" "I" ∈ wa_g) (hdg : decode cc pc = .ok (.putfield index, 3)) (kk : ∀ (H1 : Heap) (locs1 : List Loc), pw_H D cl_s A H0 g 153 (en_s k g (st_up σ 201 j v)) H1 locs1 → W p l e R s m args below meth c H1 locs1 cells slots Q (F0 m (pc + 3) ls rest)) : W p l e R s m args below meth c H locs cells slots Q (F0 m pc ls (.int (nI v) :: .ref (g (j)) :: rest)) :=
  pw_put S hW ty_Part to_Part nm_Part (j) (kd_p3 h) (en_k10 h) 1 (by decide) rfl wu_Part hlink rfl rfl (ty := .int) (by decide +kernel) rfl rfl (Nat.le_of_ble_eq_true rfl) hdg (fun H1 locs1 hW1 => kk H1 locs1 (pw_eq hW1 (en_up_of h)))
theorem pt_pute (S : pw_S p m c cc nL s args wa_g own D cl_s (ty_s k)) (hW : pw_H D cl_s A H0 g 153 (en_s k g σ) H locs) {j : Nat} (h : kd_k j = 10) {v index : Nat} (hlink : Cond.fieldLink own index "PrimePolynomials$Part" "each" "I" ∈ wa_g) (hdg : decode cc pc = .ok (.putfield index, 3)) (kk : ∀ (H1 : Heap) (locs1 : List Loc), pw_H D cl_s A H0 g 153 (en_s k g (st_up σ 202 j v)) H1 locs1 → W p l e R s m args below meth c H1 locs1 cells slots Q (F0 m (pc + 3) ls rest)) : W p l e R s m args below meth c H locs cells slots Q (F0 m pc ls (.int (nI v) :: .ref (g (j)) :: rest)) :=
  pw_put S hW ty_Part to_Part nm_Part (j) (kd_p3 h) (en_k10 h) 2 (by decide) rfl wu_Part hlink rfl rfl (ty := .int) (by decide +kernel) rfl rfl (Nat.le_of_ble_eq_true rfl) hdg (fun H1 locs1 hW1 => kk H1 locs1 (pw_eq hW1 (en_up_ea h)))
theorem ps_putc (S : pw_S p m c cc nL s args wa_g own D cl_s (ty_s k)) (hW : pw_H D cl_s A H0 g 153 (en_s k g σ) H locs) {v index : Nat} (hlink : Cond.fieldLink own index "PrimePolynomials$Parts" "count" "I" ∈ wa_g) (hdg : decode cc pc = .ok (.putfield index, 3)) (kk : ∀ (H1 : Heap) (locs1 : List Loc), pw_H D cl_s A H0 g 153 (en_s k g (st_up σ 203 1 v)) H1 locs1 → W p l e R s m args below meth c H1 locs1 cells slots Q (F0 m (pc + 3) ls rest)) : W p l e R s m args below meth c H locs cells slots Q (F0 m pc ls (.int (nI v) :: .ref (g (62)) :: rest)) :=
  pw_put S hW ty_Parts to_Parts nm_Parts (62) (by decide) en_Parts 3 (by decide) rfl wu_Parts hlink rfl rfl (ty := .int) (by decide +kernel) rfl rfl (Nat.le_of_ble_eq_true rfl) hdg (fun H1 locs1 hW1 => kk H1 locs1 (pw_eq hW1 en_up_ct))
theorem ps_putl (S : pw_S p m c cc nL s args wa_g own D cl_s (ty_s k)) (hW : pw_H D cl_s A H0 g 153 (en_s k g σ) H locs) {v index : Nat} (hlink : Cond.fieldLink own index "PrimePolynomials$Parts" "lead" "I" ∈ wa_g) (hdg : decode cc pc = .ok (.putfield index, 3)) (kk : ∀ (H1 : Heap) (locs1 : List Loc), pw_H D cl_s A H0 g 153 (en_s k g (st_up σ 203 2 v)) H1 locs1 → W p l e R s m args below meth c H1 locs1 cells slots Q (F0 m (pc + 3) ls rest)) : W p l e R s m args below meth c H locs cells slots Q (F0 m pc ls (.int (nI v) :: .ref (g (62)) :: rest)) :=
  pw_put S hW ty_Parts to_Parts nm_Parts (62) (by decide) en_Parts 4 (by decide) rfl wu_Parts hlink rfl rfl (ty := .int) (by decide +kernel) rfl rfl (Nat.le_of_ble_eq_true rfl) hdg (fun H1 locs1 hW1 => kk H1 locs1 (pw_eq hW1 en_up_ld))
theorem li_ast (S : pw_S p m c cc nL s args wa_g own D cl_s (ty_s k)) (hW : pw_H D cl_s A H0 g 153 (en_s k g σ) H locs) {n j : Nat} (h : kd_k j = 10) (hn : n < 15) (hdg : decode cc pc = .ok (.aastore, 1)) (kk : ∀ (H1 : Heap) (locs1 : List Loc), pw_H D cl_s A H0 g 153 (en_s k g (st_up σ 204 n j)) H1 locs1 → W p l e R s m args below meth c H1 locs1 cells slots Q (F0 m (pc + 1) ls rest)) : W p l e R s m args below meth c H locs cells slots Q (F0 m pc ls (.ref (g j) :: .int (nI n) :: .ref (g 63) :: rest)) :=
  pw_aast S hW 2 (r := (rc_Part, tc_Part, 3)) rfl 63 (by decide) en_list j (kd_p3 h) (en_k10 h) rfl (vp_in_nI hn (by decide)) hdg (fun H1 locs1 hW1 => kk H1 locs1 (pw_eq (by rw [nI_clamp (show n < 2 ^ 31 by omega)] at hW1; exact hW1) en_up_li))
end PTR
