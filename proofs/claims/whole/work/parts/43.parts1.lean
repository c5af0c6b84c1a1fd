/-! Part.isComplete; Parts: wereMade, insert, insertInOrder -/
/-- the list holds parts, each once -/
def pl_ok (σ : st_T) : Prop := (∀ t, t < 15 → kd_k (σ 204 t) = 10) ∧ ∀ s t, s < 15 → t < 15 → σ 204 s = σ 204 t → s = t
/-- part t: often, each, polynomial -/
def pv_t (σ : st_T) (t : Nat) : Nat × Nat × (Nat → Nat) := (σ 201 (σ 204 t), σ 202 (σ 204 t), σ (σ 204 t + 1))
abbrev pt_P : List Nat := [73, 76, 79, 82, 85, 88, 91, 94, 97, 100, 103, 106, 109, 112, 115]
abbrev pt_X : List Nat := [201, 202, 203, 204] ++ pt_P
theorem pt_in {i : Nat} (h : kd_k i = 10) : i + 1 ∈ pt_P := (by decide +kernel : ∀ i, i < 153 → kd_k i = 10 → i + 1 ∈ pt_P) i (kd_lt (by omega)) h
theorem ni_m1 (n : Nat) : nI (n + 1) + Int32.ofInt (-1) = nI n := by
  rw [show Int32.ofInt (-1) = -1 by decide]
  exact pk_m1 n
/-- rows 201 to 204 aside the polynomials are the same -/
theorem st_wf_of {P : Nat} {σ τ : st_T} (hw : st_wf P σ) (h0 : τ 203 0 = σ 203 0) (h : ∀ a, a ≤ 200 → τ a = σ a) : st_wf P τ := by
  refine ⟨by rw [h0]; exact hw.1, fun j hj => ?_⟩
  have := kd_po hj
  rw [h j (by omega), h 200 (by omega)]
  exact hw.2 j hj
/-- what an insertion does -/
def pi_ok (P : Nat) (σ : st_T) (at0 o0 e0 : Nat) (f : Nat → Nat) (τ : st_T) : Prop :=
  (st_wf P τ ∧ pl_ok τ ∧ τ 203 1 = σ 203 1 + 1 ∧ τ 203 2 = σ 203 2 ∧ st_sm pt_X σ τ) ∧ (∀ t, t < at0 → pv_t τ t = pv_t σ t) ∧ pv_t τ at0 = (o0, e0, f) ∧ ∀ t, at0 < t → t ≤ σ 203 1 → pv_t τ t = pv_t σ (t - 1)
/-- the places k + 1 .. c hold what was one place lower -/
def pi_sh (σ : st_T) (c k : Nat) : Nat → Nat := fun t => if k < t ∧ t ≤ c then σ 204 (t - 1) else σ 204 t
theorem pi_sh_c (σ : st_T) (c : Nat) : pi_sh σ c c = σ 204 := funext (fun t => by unfold pi_sh; rw [if_neg (by omega)])
theorem pi_sh_s (σ : st_T) {c k : Nat} (h : k + 1 ≤ c) : va_up (pi_sh σ c (k + 1)) (k + 1) (σ 204 k) = pi_sh σ c k := funext (fun t => by
  unfold va_up pi_sh
  by_cases h1 : t = k + 1
  · rw [if_pos h1, if_pos (by omega), h1, Nat.add_sub_cancel]
  · rw [if_neg h1]
    by_cases h2 : k + 1 < t ∧ t ≤ c
    · rw [if_pos h2, if_pos (by omega)]
    · rw [if_neg h2, if_neg (by omega)])
/-- the state behind an insertion -/
def pi_st (σ : st_T) (at0 o0 e0 : Nat) (f : Nat → Nat) : st_T := st_up (st_po (st_up (st_up (st_rw σ 204 (va_up (pi_sh σ (σ 203 1) at0) at0 (σ 204 (σ 203 1)))) 201 (σ 204 (σ 203 1)) o0) 202 (σ 204 (σ 203 1)) e0) (σ 204 (σ 203 1) + 1) f) 203 1 (σ 203 1 + 1)
theorem pi_st_ok {P : Nat} {σ : st_T} {at0 o0 e0 : Nat} {f : Nat → Nat} (hw : st_wf P σ) (hl : pl_ok σ) (hc : σ 203 1 < 15) (ha : at0 ≤ σ 203 1) (hf : sp_ok P f) : pi_ok P σ at0 o0 e0 f (pi_st σ at0 o0 e0 f) := by
  have hfr := hl.1 (σ 203 1) hc
  have hk := kd_pa hfr
  have hin := hl.2
  generalize hc0 : σ 203 1 = c at hc ha hfr hk hin
  generalize hfre : σ 204 c = fr at hfr hk
  unfold pi_st
  rw [hc0, hfre]
  -- the rows
  have r204 : ∀ t, st_up (st_po (st_up (st_up (st_rw σ 204 (va_up (pi_sh σ c at0) at0 fr)) 201 fr o0) 202 fr e0) (fr + 1) f) 203 1 (c + 1) 204 t = va_up (pi_sh σ c at0) at0 fr t := fun t => by
    rw [st_up_row (by omega), st_po_row (by omega) (by omega), st_up_row (by omega), st_up_row (by omega), st_rw_at]
  have r201 : st_up (st_po (st_up (st_up (st_rw σ 204 (va_up (pi_sh σ c at0) at0 fr)) 201 fr o0) 202 fr e0) (fr + 1) f) 203 1 (c + 1) 201 = va_up (σ 201) fr o0 := by
    rw [st_up_row (by omega), st_po_row (by omega) (by omega), st_up_row (by omega), st_up_at, st_rw_row (by omega)]
  have r202 : st_up (st_po (st_up (st_up (st_rw σ 204 (va_up (pi_sh σ c at0) at0 fr)) 201 fr o0) 202 fr e0) (fr + 1) f) 203 1 (c + 1) 202 = va_up (σ 202) fr e0 := by
    rw [st_up_row (by omega), st_po_row (by omega) (by omega), st_up_at, st_up_row (by omega), st_rw_row (by omega)]
  have r203 : st_up (st_po (st_up (st_up (st_rw σ 204 (va_up (pi_sh σ c at0) at0 fr)) 201 fr o0) 202 fr e0) (fr + 1) f) 203 1 (c + 1) 203 = va_up (σ 203) 1 (c + 1) := by
    rw [st_up_at, st_po_row (by omega) (by omega), st_up_row (by omega), st_up_row (by omega), st_rw_row (by omega)]
  have rfr : st_up (st_po (st_up (st_up (st_rw σ 204 (va_up (pi_sh σ c at0) at0 fr)) 201 fr o0) 202 fr e0) (fr + 1) f) 203 1 (c + 1) (fr + 1) = f := by
    rw [st_up_row (by omega), st_po_at]
  have roth : ∀ a, a ≠ fr + 1 → a ≠ 200 → a ≠ 201 → a ≠ 202 → a ≠ 203 → a ≠ 204 → st_up (st_po (st_up (st_up (st_rw σ 204 (va_up (pi_sh σ c at0) at0 fr)) 201 fr o0) 202 fr e0) (fr + 1) f) 203 1 (c + 1) a = σ a := fun a h1 h2 h3 h4 h5 h6 => by
    rw [st_up_row h5, st_po_row h1 h2, st_up_row h4, st_up_row h3, st_rw_row h6]
  have wfT : st_wf P (st_up (st_po (st_up (st_up (st_rw σ 204 (va_up (pi_sh σ c at0) at0 fr)) 201 fr o0) 202 fr e0) (fr + 1) f) 203 1 (c + 1)) := by
    have w1 : st_wf P (st_up (st_up (st_rw σ 204 (va_up (pi_sh σ c at0) at0 fr)) 201 fr o0) 202 fr e0) := st_wf_of hw (by rw [st_up_row (by omega), st_up_row (by omega), st_rw_row (by omega)]) (fun a ha => by rw [st_up_row (by omega), st_up_row (by omega), st_rw_row (by omega)])
    have w2 := st_wf_po w1 (j := fr + 1) hk.1 hf
    exact st_wf_of w2 (by rw [st_up_at, va_up_ne _ _ (by omega)]) (fun a ha => by rw [st_up_row (by omega)])
  generalize st_up (st_po (st_up (st_up (st_rw σ 204 (va_up (pi_sh σ c at0) at0 fr)) 201 fr o0) 202 fr e0) (fr + 1) f) 203 1 (c + 1) = τ at r204 r201 r202 r203 rfr roth wfT ⊢
  have t204 : ∀ t, τ 204 t = if t = at0 then fr else if at0 < t ∧ t ≤ c then σ 204 (t - 1) else σ 204 t := fun t => by rw [r204]; rfl
  refine ⟨⟨wfT, ⟨fun t ht => ?_, fun s t hs ht e => ?_⟩, ?_, ?_, fun a ha h200 => ?_⟩, fun t ht => ?_, ?_, fun t h1 h2 => ?_⟩
  · rw [t204]
    split
    · exact hfr
    · split
      · exact hl.1 _ (by omega)
      · exact hl.1 _ ht
  · rw [t204, t204, ← hfre] at e
    by_cases a1 : s = at0 <;> by_cases a2 : t = at0
    · omega
    · rw [if_pos a1, if_neg a2] at e
      by_cases a3 : at0 < t ∧ t ≤ c
      · rw [if_pos a3] at e
        have := hin _ _ (by omega) (by omega) e
        omega
      · rw [if_neg a3] at e
        have := hin _ _ (by omega) (by omega) e
        omega
    · rw [if_neg a1, if_pos a2] at e
      by_cases a3 : at0 < s ∧ s ≤ c
      · rw [if_pos a3] at e
        have := hin _ _ (by omega) (by omega) e
        omega
      · rw [if_neg a3] at e
        have := hin _ _ (by omega) (by omega) e
        omega
    · rw [if_neg a1, if_neg a2] at e
      by_cases a3 : at0 < s ∧ s ≤ c <;> by_cases a4 : at0 < t ∧ t ≤ c
      · rw [if_pos a3, if_pos a4] at e
        have := hin _ _ (by omega) (by omega) e
        omega
      · rw [if_pos a3, if_neg a4] at e
        have := hin _ _ (by omega) (by omega) e
        omega
      · rw [if_neg a3, if_pos a4] at e
        have := hin _ _ (by omega) (by omega) e
        omega
      · rw [if_neg a3, if_neg a4] at e
        exact hin _ _ hs ht e
  · rw [r203, va_up_self, hc0]
  · rw [r203, va_up_ne _ _ (by omega)]
  · simp only [List.mem_append, not_or] at ha
    have h1 := ha.1
    simp only [List.mem_cons, List.not_mem_nil, or_false, not_or] at h1
    exact roth a (fun z => ha.2 (by rw [z]; exact pt_in hfr)) h200 h1.1 h1.2.1 h1.2.2.1 h1.2.2.2
  · have e1 : τ 204 t = σ 204 t := by rw [t204, if_neg (by omega), if_neg (by omega)]
    have hne : σ 204 t ≠ fr := fun z => by
      rw [← hfre] at z
      have := hin _ _ (by omega) (by omega) z
      omega
    have hkt := kd_pa (hl.1 t (by omega))
    unfold pv_t
    rw [e1, r201, r202, va_up_ne _ _ hne, va_up_ne _ _ hne, roth _ (by omega) (by omega) (by omega) (by omega) (by omega) (by omega)]
  · have e1 : τ 204 at0 = fr := by rw [t204, if_pos rfl]
    unfold pv_t
    rw [e1, r201, r202, va_up_self, va_up_self, rfr]
  · have e1 : τ 204 t = σ 204 (t - 1) := by rw [t204, if_neg (by omega), if_pos (by omega)]
    have hne : σ 204 (t - 1) ≠ fr := fun z => by
      rw [← hfre] at z
      have := hin _ _ (by omega) (by omega) z
      omega
    have hkt := kd_pa (hl.1 (t - 1) (by omega))
    unfold pv_t
    rw [e1, r201, r202, va_up_ne _ _ hne, va_up_ne _ _ hne, roth _ (by omega) (by omega) (by omega) (by omega) (by omega) (by omega)]
theorem dm_Part_isComplete_0 : decode bm_Part_isComplete 0 = .ok (.aload_n 0, 1) := by decide +kernel
theorem dm_Part_isComplete_1 : decode bm_Part_isComplete 1 = .ok (.getfield 10, 3) := by decide +kernel
theorem dm_Part_isComplete_4 : decode bm_Part_isComplete 4 = .ok (.getfield 16, 3) := by decide +kernel
theorem dm_Part_isComplete_7 : decode bm_Part_isComplete 7 = .ok (.aload_n 0, 1) := by decide +kernel
theorem dm_Part_isComplete_8 : decode bm_Part_isComplete 8 = .ok (.getfield 20, 3) := by decide +kernel
theorem dm_Part_isComplete_11 : decode bm_Part_isComplete 11 = .ok (.if_icmp .ne 7, 3) := by decide +kernel
theorem dm_Part_isComplete_14 : decode bm_Part_isComplete 14 = .ok (.iconst 1, 1) := by decide +kernel
theorem dm_Part_isComplete_15 : decode bm_Part_isComplete 15 = .ok (.goto 4, 3) := by decide +kernel
theorem dm_Part_isComplete_18 : decode bm_Part_isComplete 18 = .ok (.iconst 0, 1) := by decide +kernel
theorem dm_Part_isComplete_19 : decode bm_Part_isComplete 19 = .ok (.ireturn, 1) := by decide +kernel
set_option maxHeartbeats 4000000 in
set_option maxRecDepth 100000 in
theorem mm_Part_isComplete (l : Launch) (D : va_G) (k : ClassId × ClassId × ClassId) (g : Nat → Nat) (σ : st_T) {j : Nat} (hj : kd_k j = 10) (hs : σ 200 (j + 1) ≤ 31) (he : σ 202 j < 2147483648) : mt_I l D k g ym_Part_isComplete wm_Part_isComplete rm_Part_isComplete [.ref (g j)] σ (fun r σ1 => r = nI (if σ 200 (j + 1) = σ 202 j + 1 then 1 else 0) ∧ σ1 = σ) := by
  refine ct_Z_in (cc := bm_Part_isComplete) (maxL := 1) (by decide) rfl (Nat.le_of_ble_eq_true rfl) ?_
  intro p e s m args below meth c A ls Q S hl hW hret
  have S : pw_S p m c bm_Part_isComplete 1 s args wa_g rc_Part D cl_s (ty_s k) := S
  have hx := S.1.1
  have hb := S.1.2.1
  have hl : lv_has ls 1 [(0, .ref (g (j)))] := hl
  refine lv_aload_n hx hb dm_Part_isComplete_0 rfl (lv_at hl 0 rfl) ?_
  refine pt_poly S hW hj (wa_in 161 (by decide +kernel) rfl) dm_Part_isComplete_1 ?_
  refine po_getd S hW (kd_p4 hj) (wa_in 47 (by decide +kernel) rfl) dm_Part_isComplete_4 ?_
  refine lv_aload_n hx hb dm_Part_isComplete_7 rfl (lv_at hl 0 rfl) ?_
  refine pt_each S hW hj (wa_in 166 (by decide +kernel) rfl) dm_Part_isComplete_8 ?_
  refine wi_icmp_ne (tgt := 18) S (sd_T (by omega)) (nn_T (by omega)) dm_Part_isComplete_11 (by decide) (fun hc => ?_) (fun hc => ?_)
  · refine lv_iconst (v := nI (0)) hx hb dm_Part_isComplete_18 (by decide) ?_
    exact hret _ _ _ _ _ _ dm_Part_isComplete_19 (by decide) ⟨by rw [if_neg (by omega)], rfl⟩ hW
  · refine lv_iconst (v := nI (1)) hx hb dm_Part_isComplete_14 (by decide) ?_
    refine lv_goto (tgt := 19) hx hb dm_Part_isComplete_15 (by decide) ?_
    exact hret _ _ _ _ _ _ dm_Part_isComplete_19 (by decide) ⟨by rw [if_pos (by omega)], rfl⟩ hW
theorem dm_Parts_wereMade_0 : decode bm_Parts_wereMade 0 = .ok (.aload_n 0, 1) := by decide +kernel
theorem dm_Parts_wereMade_1 : decode bm_Parts_wereMade 1 = .ok (.getfield 42, 3) := by decide +kernel
theorem dm_Parts_wereMade_4 : decode bm_Parts_wereMade 4 = .ok (.ifCond .eq 7, 3) := by decide +kernel
theorem dm_Parts_wereMade_7 : decode bm_Parts_wereMade 7 = .ok (.iconst 1, 1) := by decide +kernel
theorem dm_Parts_wereMade_8 : decode bm_Parts_wereMade 8 = .ok (.goto 4, 3) := by decide +kernel
theorem dm_Parts_wereMade_11 : decode bm_Parts_wereMade 11 = .ok (.iconst 0, 1) := by decide +kernel
theorem dm_Parts_wereMade_12 : decode bm_Parts_wereMade 12 = .ok (.ireturn, 1) := by decide +kernel
set_option maxHeartbeats 4000000 in
set_option maxRecDepth 100000 in
theorem mm_Parts_wereMade (l : Launch) (D : va_G) (k : ClassId × ClassId × ClassId) (g : Nat → Nat) (σ : st_T) (he : σ 203 2 < 2147483648) : mt_I l D k g ym_Parts_wereMade wm_Parts_wereMade rm_Parts_wereMade [.ref (g 62)] σ (fun r σ1 => r = nI (if σ 203 2 = 0 then 0 else 1) ∧ σ1 = σ) := by
  refine ct_Z_in (cc := bm_Parts_wereMade) (maxL := 1) (by decide) rfl (Nat.le_of_ble_eq_true rfl) ?_
  intro p e s m args below meth c A ls Q S hl hW hret
  have S : pw_S p m c bm_Parts_wereMade 1 s args wa_g rc_Parts D cl_s (ty_s k) := S
  have hx := S.1.1
  have hb := S.1.2.1
  have hl : lv_has ls 1 [(0, .ref (g (62)))] := hl
  refine lv_aload_n hx hb dm_Parts_wereMade_0 rfl (lv_at hl 0 rfl) ?_
  refine ps_lead S hW (wa_in 182 (by decide +kernel) rfl) dm_Parts_wereMade_1 ?_
  refine wi_if_eq (tgt := 11) S (nn_T (by omega)) dm_Parts_wereMade_4 (by decide) (fun hc => ?_) (fun hc => ?_)
  · refine lv_iconst (v := nI (0)) hx hb dm_Parts_wereMade_11 (by decide) ?_
    exact hret _ _ _ _ _ _ dm_Parts_wereMade_12 (by decide) ⟨by rw [if_pos (by omega)], rfl⟩ hW
  · refine lv_iconst (v := nI (1)) hx hb dm_Parts_wereMade_7 (by decide) ?_
    refine lv_goto (tgt := 12) hx hb dm_Parts_wereMade_8 (by decide) ?_
    exact hret _ _ _ _ _ _ dm_Parts_wereMade_12 (by decide) ⟨by rw [if_neg (by omega)], rfl⟩ hW
theorem dm_Parts_insert_0 : decode bm_Parts_insert 0 = .ok (.aload_n 0, 1) := by decide +kernel
theorem dm_Parts_insert_1 : decode bm_Parts_insert 1 = .ok (.getfield 46, 3) := by decide +kernel
theorem dm_Parts_insert_4 : decode bm_Parts_insert 4 = .ok (.aload_n 0, 1) := by decide +kernel
theorem dm_Parts_insert_5 : decode bm_Parts_insert 5 = .ok (.getfield 11, 3) := by decide +kernel
theorem dm_Parts_insert_8 : decode bm_Parts_insert 8 = .ok (.arraylength, 1) := by decide +kernel
theorem dm_Parts_insert_9 : decode bm_Parts_insert 9 = .ok (.if_icmp .lt 4, 3) := by decide +kernel
theorem dm_Parts_insert_12 : decode bm_Parts_insert 12 = .ok (.return_, 1) := by decide +kernel
theorem dm_Parts_insert_13 : decode bm_Parts_insert 13 = .ok (.aload_n 0, 1) := by decide +kernel
theorem dm_Parts_insert_14 : decode bm_Parts_insert 14 = .ok (.getfield 11, 3) := by decide +kernel
theorem dm_Parts_insert_17 : decode bm_Parts_insert 17 = .ok (.aload_n 0, 1) := by decide +kernel
theorem dm_Parts_insert_18 : decode bm_Parts_insert 18 = .ok (.getfield 46, 3) := by decide +kernel
theorem dm_Parts_insert_21 : decode bm_Parts_insert 21 = .ok (.aaload, 1) := by decide +kernel
theorem dm_Parts_insert_22 : decode bm_Parts_insert 22 = .ok (.astore 5, 2) := by decide +kernel
theorem dm_Parts_insert_24 : decode bm_Parts_insert 24 = .ok (.aload_n 0, 1) := by decide +kernel
theorem dm_Parts_insert_25 : decode bm_Parts_insert 25 = .ok (.getfield 46, 3) := by decide +kernel
theorem dm_Parts_insert_28 : decode bm_Parts_insert 28 = .ok (.istore 6, 2) := by decide +kernel
theorem dm_Parts_insert_30 : decode bm_Parts_insert 30 = .ok (.iload 6, 2) := by decide +kernel
theorem dm_Parts_insert_32 : decode bm_Parts_insert 32 = .ok (.iload_n 1, 1) := by decide +kernel
theorem dm_Parts_insert_33 : decode bm_Parts_insert 33 = .ok (.if_icmp .le 25, 3) := by decide +kernel
theorem dm_Parts_insert_36 : decode bm_Parts_insert 36 = .ok (.aload_n 0, 1) := by decide +kernel
theorem dm_Parts_insert_37 : decode bm_Parts_insert 37 = .ok (.getfield 11, 3) := by decide +kernel
theorem dm_Parts_insert_40 : decode bm_Parts_insert 40 = .ok (.iload 6, 2) := by decide +kernel
theorem dm_Parts_insert_42 : decode bm_Parts_insert 42 = .ok (.aload_n 0, 1) := by decide +kernel
theorem dm_Parts_insert_43 : decode bm_Parts_insert 43 = .ok (.getfield 11, 3) := by decide +kernel
theorem dm_Parts_insert_46 : decode bm_Parts_insert 46 = .ok (.iload 6, 2) := by decide +kernel
theorem dm_Parts_insert_48 : decode bm_Parts_insert 48 = .ok (.iconst 1, 1) := by decide +kernel
theorem dm_Parts_insert_49 : decode bm_Parts_insert 49 = .ok (.isub, 1) := by decide +kernel
theorem dm_Parts_insert_50 : decode bm_Parts_insert 50 = .ok (.aaload, 1) := by decide +kernel
theorem dm_Parts_insert_51 : decode bm_Parts_insert 51 = .ok (.aastore, 1) := by decide +kernel
theorem dm_Parts_insert_52 : decode bm_Parts_insert 52 = .ok (.iinc 6 (-1), 3) := by decide +kernel
theorem dm_Parts_insert_55 : decode bm_Parts_insert 55 = .ok (.goto (-25), 3) := by decide +kernel
theorem dm_Parts_insert_58 : decode bm_Parts_insert 58 = .ok (.aload_n 0, 1) := by decide +kernel
theorem dm_Parts_insert_59 : decode bm_Parts_insert 59 = .ok (.getfield 11, 3) := by decide +kernel
theorem dm_Parts_insert_62 : decode bm_Parts_insert 62 = .ok (.iload_n 1, 1) := by decide +kernel
theorem dm_Parts_insert_63 : decode bm_Parts_insert 63 = .ok (.aload 5, 2) := by decide +kernel
theorem dm_Parts_insert_65 : decode bm_Parts_insert 65 = .ok (.aastore, 1) := by decide +kernel
theorem dm_Parts_insert_66 : decode bm_Parts_insert 66 = .ok (.aload 5, 2) := by decide +kernel
theorem dm_Parts_insert_68 : decode bm_Parts_insert 68 = .ok (.iload_n 2, 1) := by decide +kernel
theorem dm_Parts_insert_69 : decode bm_Parts_insert 69 = .ok (.putfield 88, 3) := by decide +kernel
theorem dm_Parts_insert_72 : decode bm_Parts_insert 72 = .ok (.aload 5, 2) := by decide +kernel
theorem dm_Parts_insert_74 : decode bm_Parts_insert 74 = .ok (.iload_n 3, 1) := by decide +kernel
theorem dm_Parts_insert_75 : decode bm_Parts_insert 75 = .ok (.putfield 95, 3) := by decide +kernel
theorem dm_Parts_insert_78 : decode bm_Parts_insert 78 = .ok (.aload 5, 2) := by decide +kernel
theorem dm_Parts_insert_80 : decode bm_Parts_insert 80 = .ok (.getfield 98, 3) := by decide +kernel
theorem dm_Parts_insert_83 : decode bm_Parts_insert 83 = .ok (.aload 4, 2) := by decide +kernel
theorem dm_Parts_insert_85 : decode bm_Parts_insert 85 = .ok (.invokevirtual 52, 3) := by decide +kernel
theorem dm_Parts_insert_88 : decode bm_Parts_insert 88 = .ok (.aload_n 0, 1) := by decide +kernel
theorem dm_Parts_insert_89 : decode bm_Parts_insert 89 = .ok (.dup, 1) := by decide +kernel
theorem dm_Parts_insert_90 : decode bm_Parts_insert 90 = .ok (.getfield 46, 3) := by decide +kernel
theorem dm_Parts_insert_93 : decode bm_Parts_insert 93 = .ok (.iconst 1, 1) := by decide +kernel
theorem dm_Parts_insert_94 : decode bm_Parts_insert 94 = .ok (.iadd, 1) := by decide +kernel
theorem dm_Parts_insert_95 : decode bm_Parts_insert 95 = .ok (.putfield 46, 3) := by decide +kernel
theorem dm_Parts_insert_98 : decode bm_Parts_insert 98 = .ok (.return_, 1) := by decide +kernel
set_option maxHeartbeats 4000000 in
set_option maxRecDepth 100000 in
theorem mm_Parts_insert (l : Launch) (D : va_G) (k : ClassId × ClassId × ClassId) (g : Nat → Nat) (σ : st_T) {P at0 o0 e0 y : Nat} (hw : st_wf P σ) (hpl : pl_ok σ) (hcc : σ 203 1 < 15) (ha0 : at0 ≤ σ 203 1) (hy_ : kd_k y = 0) (hyP : y ∉ pt_P) : mt_V l D k g ym_Parts_insert wm_Parts_insert rm_Parts_insert [.ref (g 62), .int (nI at0), .int (nI o0), .int (nI e0), .ref (g y)] σ (fun σ1 => pi_ok P σ at0 o0 e0 (σ y) σ1) := by
  refine ct_V_in (cc := bm_Parts_insert) (maxL := 7) (by decide) rfl (Nat.le_of_ble_eq_true rfl) ?_
  intro p e s m args below meth c A ls Q S hl hW hret
  have S : pw_S p m c bm_Parts_insert 7 s args wa_g rc_Parts D cl_s (ty_s k) := S
  have hx := S.1.1
  have hb := S.1.2.1
  have hl : lv_has ls 7 [(0, .ref (g (62))), (1, .int (nI (at0))), (2, .int (nI (o0))), (3, .int (nI (e0))), (4, .ref (g (y)))] := hl
  have ky := kd_po hy_
  have hfr := hpl.1 (σ 203 1) hcc
  have kf := kd_pa hfr
  refine lv_aload_n hx hb dm_Parts_insert_0 rfl (lv_at hl 0 rfl) ?_
  refine ps_count S hW (wa_in 180 (by decide +kernel) rfl) dm_Parts_insert_1 ?_
  refine lv_aload_n hx hb dm_Parts_insert_4 rfl (lv_at hl 0 rfl) ?_
  refine ps_list S hW (wa_in 178 (by decide +kernel) rfl) dm_Parts_insert_5 ?_
  refine pw_alen (v := nI 15) S hW 2 rfl 63 (by decide) en_list rfl dm_Parts_insert_8 ?_
  refine wi_icmp_lt (tgt := 13) S (nn_T (by omega)) (nn_T (by omega)) dm_Parts_insert_9 (by decide) (fun hc => ?_) (fun hc => ?_)
  · refine lv_aload_n hx hb dm_Parts_insert_13 rfl (lv_at hl 0 rfl) ?_
    refine ps_list S hW (wa_in 178 (by decide +kernel) rfl) dm_Parts_insert_14 ?_
    refine lv_aload_n hx hb dm_Parts_insert_17 rfl (lv_at hl 0 rfl) ?_
    refine ps_count S hW (wa_in 180 (by decide +kernel) rfl) dm_Parts_insert_18 ?_
    refine li_ald S hW (by omega) dm_Parts_insert_21 ?_
    refine lv_astore hx hb dm_Parts_insert_22 hl (by decide) rfl (fun ls hl => ?_)
    have hl : lv_has ls 7 [(5, .ref (g (σ 204 (σ 203 1)))), (0, .ref (g (62))), (1, .int (nI (at0))), (2, .int (nI (o0))), (3, .int (nI (e0))), (4, .ref (g (y)))] := hl
    refine lv_aload_n hx hb dm_Parts_insert_24 rfl (lv_at hl 1 rfl) ?_
    refine ps_count S hW (wa_in 180 (by decide +kernel) rfl) dm_Parts_insert_25 ?_
    refine lv_istore hx hb dm_Parts_insert_28 hl (by decide) rfl (fun ls hl => ?_)
    have hl : lv_has ls 7 [(6, .int (nI (σ 203 1))), (5, .ref (g (σ 204 (σ 203 1)))), (0, .ref (g (62))), (1, .int (nI (at0))), (2, .int (nI (o0))), (3, .int (nI (e0))), (4, .ref (g (y)))] := hl
    have hl : lv_has ls 7 [(6, .int (nI (σ 203 1))), (5, .ref (g (σ 204 (σ 203 1)))), (0, .ref (g (62))), (1, .int (nI (at0))), (2, .int (nI (o0))), (3, .int (nI (e0))), (4, .ref (g (y)))] := lv_sub hl [0, 1, 2, 3, 4, 5, 6] rfl
    have loop : ∀ (d q : Nat), at0 + d = q → q ≤ σ 203 1 → ∀ (ls : Array Slot) (H : Heap) (locs : List Loc), lv_has ls 7 [(6, .int (nI (q))), (5, .ref (g (σ 204 (σ 203 1)))), (0, .ref (g (62))), (1, .int (nI (at0))), (2, .int (nI (o0))), (3, .int (nI (e0))), (4, .ref (g (y)))] → pw_H D cl_s A s.heap g 153 (en_s k g (st_rw σ 204 (pi_sh σ (σ 203 1) q))) H locs → W p l e rm_Parts_insert s m args below meth c H locs 0 0 Q (F0 m 30 ls []) := by
      intro d
      induction d with
      | zero =>
        intro q hq hqc ls H locs hl hW
        have hq : q = at0 := by omega
        subst hq
        refine lv_iload hx hb dm_Parts_insert_30 (lv_at hl 0 rfl) ?_
        refine lv_iload_n hx hb dm_Parts_insert_32 rfl (lv_at hl 3 rfl) ?_
        refine wi_icmp_le (tgt := 58) S (nn_T (by omega)) (nn_T (by omega)) dm_Parts_insert_33 (by decide) (fun hc => ?_) (fun hc => ?_)
        · refine lv_aload_n hx hb dm_Parts_insert_58 rfl (lv_at hl 2 rfl) ?_
          refine ps_list S hW (wa_in 178 (by decide +kernel) rfl) dm_Parts_insert_59 ?_
          refine lv_iload_n hx hb dm_Parts_insert_62 rfl (lv_at hl 3 rfl) ?_
          refine lv_aload hx hb dm_Parts_insert_63 (lv_at hl 1 rfl) ?_
          refine li_ast S hW hfr (by omega) dm_Parts_insert_65 (fun H locs hW => ?_)
          refine lv_aload hx hb dm_Parts_insert_66 (lv_at hl 1 rfl) ?_
          refine lv_iload_n hx hb dm_Parts_insert_68 rfl (lv_at hl 4 rfl) ?_
          refine pt_puto S hW hfr (wa_in 164 (by decide +kernel) rfl) dm_Parts_insert_69 (fun H locs hW => ?_)
          refine lv_aload hx hb dm_Parts_insert_72 (lv_at hl 1 rfl) ?_
          refine lv_iload_n hx hb dm_Parts_insert_74 rfl (lv_at hl 5 rfl) ?_
          refine pt_pute S hW hfr (wa_in 167 (by decide +kernel) rfl) dm_Parts_insert_75 (fun H locs hW => ?_)
          refine lv_aload hx hb dm_Parts_insert_78 (lv_at hl 1 rfl) ?_
          refine pt_poly S hW hfr (wa_in 162 (by decide +kernel) rfl) dm_Parts_insert_80 ?_
          refine lv_aload hx hb dm_Parts_insert_83 (lv_at hl 6 rfl) ?_
          rw [st_rw_up] at hW
          have w3 : st_wf P (st_up (st_up (st_rw σ 204 (va_up (pi_sh σ (σ 203 1) q) q (σ 204 (σ 203 1)))) 201 (σ 204 (σ 203 1)) o0) 202 (σ 204 (σ 203 1)) e0) := st_wf_of hw (by rw [st_up_row (by omega), st_up_row (by omega), st_rw_row (by omega)]) (fun a ha => by rw [st_up_row (by omega), st_up_row (by omega), st_rw_row (by omega)])
          have e3 : (st_up (st_up (st_rw σ 204 (va_up (pi_sh σ (σ 203 1) q) q (σ 204 (σ 203 1)))) 201 (σ 204 (σ 203 1)) o0) 202 (σ 204 (σ 203 1)) e0) y = σ y := by rw [st_up_row (by omega), st_up_row (by omega), st_rw_row (by omega)]
          refine pw_callV (rest := []) S hW (mm_Poly_copyFrom l D k g (st_up (st_up (st_rw σ 204 (va_up (pi_sh σ (σ 203 1) q) q (σ 204 (σ 203 1)))) 201 (σ 204 (σ 203 1)) o0) 202 (σ 204 (σ 203 1)) e0) w3 hy_ (j := σ 204 (σ 203 1) + 1) kf.1) (cv_Parts_52 S.1.2.2.2.2 ⟨by decide, by decide⟩) (kd_p1 (kd_p4 hfr)) (en_k0 (kd_p4 hfr)) rfl rfl hl.1 rfl (lv_room (Nat.le_of_ble_eq_true rfl)) ⟨Nat.zero_le _, Nat.zero_le _⟩ dm_Parts_insert_85 (fun σ4 H locs hp4 hW => ?_)
          rw [hp4, e3] at hW
          have e5 : (st_po (st_up (st_up (st_rw σ 204 (va_up (pi_sh σ (σ 203 1) q) q (σ 204 (σ 203 1)))) 201 (σ 204 (σ 203 1)) o0) 202 (σ 204 (σ 203 1)) e0) (σ 204 (σ 203 1) + 1) (σ y)) 203 1 = σ 203 1 := by rw [st_po_row (by omega) (by omega), st_up_row (by omega), st_up_row (by omega), st_rw_row (by omega)]
          refine lv_aload_n hx hb dm_Parts_insert_88 rfl (lv_at hl 2 rfl) ?_
          refine lv_dup hx hb dm_Parts_insert_89 rfl ?_
          refine ps_count S hW (wa_in 180 (by decide +kernel) rfl) dm_Parts_insert_90 ?_
          rw [e5]
          refine lv_iconst (v := nI (1)) hx hb dm_Parts_insert_93 (by decide) ?_
          refine wn_iadd S dm_Parts_insert_94 ?_
          refine ps_putc S hW (wa_in 180 (by decide +kernel) rfl) dm_Parts_insert_95 (fun H locs hW => ?_)
          exact hret _ _ _ _ _ dm_Parts_insert_98 (pi_st_ok hw hpl hcc ha0 (hw.2 y hy_).1) hW
        · exfalso
          omega
      | succ d ih =>
        intro q hq hqc ls H locs hl hW
        obtain ⟨u, rfl⟩ : ∃ u, q = u + 1 := ⟨q - 1, by omega⟩
        refine lv_iload hx hb dm_Parts_insert_30 (lv_at hl 0 rfl) ?_
        refine lv_iload_n hx hb dm_Parts_insert_32 rfl (lv_at hl 3 rfl) ?_
        refine wi_icmp_le (tgt := 58) S (nn_T (by omega)) (nn_T (by omega)) dm_Parts_insert_33 (by decide) (fun hc => ?_) (fun hc => ?_)
        · exfalso
          omega
        · refine lv_aload_n hx hb dm_Parts_insert_36 rfl (lv_at hl 2 rfl) ?_
          refine ps_list S hW (wa_in 178 (by decide +kernel) rfl) dm_Parts_insert_37 ?_
          refine lv_iload hx hb dm_Parts_insert_40 (lv_at hl 0 rfl) ?_
          refine lv_aload_n hx hb dm_Parts_insert_42 rfl (lv_at hl 2 rfl) ?_
          refine ps_list S hW (wa_in 178 (by decide +kernel) rfl) dm_Parts_insert_43 ?_
          refine lv_iload hx hb dm_Parts_insert_46 (lv_at hl 0 rfl) ?_
          refine lv_iconst (v := nI (1)) hx hb dm_Parts_insert_48 (by decide) ?_
          refine wn_isub S (by omega) dm_Parts_insert_49 ?_
          rw [Nat.add_sub_cancel]
          have e1 : (st_rw σ 204 (pi_sh σ (σ 203 1) (u + 1))) 204 u = σ 204 u := by rw [st_rw_at]; unfold pi_sh; rw [if_neg (by omega)]
          refine li_ald S hW (by omega) dm_Parts_insert_50 ?_
          rw [e1]
          refine li_ast S hW (hpl.1 u (by omega)) (by omega) dm_Parts_insert_51 (fun H locs hW => ?_)
          rw [st_rw_up, pi_sh_s σ (by omega)] at hW
          refine lv_iinc (k := 0) (v := nI u) hx hb dm_Parts_insert_52 hl rfl (ni_m1 u) (by decide) rfl (fun ls hl => ?_)
          have hl : lv_has ls 7 [(6, .int (nI (u))), (5, .ref (g (σ 204 (σ 203 1)))), (0, .ref (g (62))), (1, .int (nI (at0))), (2, .int (nI (o0))), (3, .int (nI (e0))), (4, .ref (g (y)))] := hl
          refine lv_goto (tgt := 30) hx hb dm_Parts_insert_55 (by decide) ?_
          exact ih u (by omega) (by omega) ls H locs hl hW
    refine loop (σ 203 1 - at0) (σ 203 1) (by omega) (Nat.le_refl _) ls _ _ hl ?_
    rw [pi_sh_c, st_rw_id rfl]
    exact hW
  · exfalso
    omega
theorem dm_Parts_insertInOrder_0 : decode bm_Parts_insertInOrder 0 = .ok (.iconst 0, 1) := by decide +kernel
theorem dm_Parts_insertInOrder_1 : decode bm_Parts_insertInOrder 1 = .ok (.istore 4, 2) := by decide +kernel
theorem dm_Parts_insertInOrder_3 : decode bm_Parts_insertInOrder 3 = .ok (.iload 4, 2) := by decide +kernel
theorem dm_Parts_insertInOrder_5 : decode bm_Parts_insertInOrder 5 = .ok (.aload_n 0, 1) := by decide +kernel
theorem dm_Parts_insertInOrder_6 : decode bm_Parts_insertInOrder 6 = .ok (.getfield 46, 3) := by decide +kernel
theorem dm_Parts_insertInOrder_9 : decode bm_Parts_insertInOrder 9 = .ok (.if_icmp .ge 23, 3) := by decide +kernel
theorem dm_Parts_insertInOrder_12 : decode bm_Parts_insertInOrder 12 = .ok (.aload_n 0, 1) := by decide +kernel
theorem dm_Parts_insertInOrder_13 : decode bm_Parts_insertInOrder 13 = .ok (.getfield 11, 3) := by decide +kernel
theorem dm_Parts_insertInOrder_16 : decode bm_Parts_insertInOrder 16 = .ok (.iload 4, 2) := by decide +kernel
theorem dm_Parts_insertInOrder_18 : decode bm_Parts_insertInOrder 18 = .ok (.aaload, 1) := by decide +kernel
theorem dm_Parts_insertInOrder_19 : decode bm_Parts_insertInOrder 19 = .ok (.getfield 88, 3) := by decide +kernel
theorem dm_Parts_insertInOrder_22 : decode bm_Parts_insertInOrder 22 = .ok (.iload_n 1, 1) := by decide +kernel
theorem dm_Parts_insertInOrder_23 : decode bm_Parts_insertInOrder 23 = .ok (.if_icmp .gt 9, 3) := by decide +kernel
theorem dm_Parts_insertInOrder_26 : decode bm_Parts_insertInOrder 26 = .ok (.iinc 4 1, 3) := by decide +kernel
theorem dm_Parts_insertInOrder_29 : decode bm_Parts_insertInOrder 29 = .ok (.goto (-26), 3) := by decide +kernel
theorem dm_Parts_insertInOrder_32 : decode bm_Parts_insertInOrder 32 = .ok (.aload_n 0, 1) := by decide +kernel
theorem dm_Parts_insertInOrder_33 : decode bm_Parts_insertInOrder 33 = .ok (.iload 4, 2) := by decide +kernel
theorem dm_Parts_insertInOrder_35 : decode bm_Parts_insertInOrder 35 = .ok (.iload_n 1, 1) := by decide +kernel
theorem dm_Parts_insertInOrder_36 : decode bm_Parts_insertInOrder 36 = .ok (.iload_n 2, 1) := by decide +kernel
theorem dm_Parts_insertInOrder_37 : decode bm_Parts_insertInOrder 37 = .ok (.aload_n 3, 1) := by decide +kernel
theorem dm_Parts_insertInOrder_38 : decode bm_Parts_insertInOrder 38 = .ok (.invokevirtual 91, 3) := by decide +kernel
theorem dm_Parts_insertInOrder_41 : decode bm_Parts_insertInOrder 41 = .ok (.return_, 1) := by decide +kernel
set_option maxHeartbeats 4000000 in
set_option maxRecDepth 100000 in
theorem mm_Parts_insertInOrder (l : Launch) (D : va_G) (k : ClassId × ClassId × ClassId) (g : Nat → Nat) (σ : st_T) {P o0 e0 y : Nat} (hw : st_wf P σ) (hpl : pl_ok σ) (hcc : σ 203 1 < 15) (hy_ : kd_k y = 0) (hyP : y ∉ pt_P) (ho : o0 < 2147483648) (hof : ∀ t, t < σ 203 1 → (pv_t σ t).1 < 2147483648) : mt_V l D k g ym_Parts_insertInOrder wm_Parts_insertInOrder rm_Parts_insertInOrder [.ref (g 62), .int (nI o0), .int (nI e0), .ref (g y)] σ (fun σ1 => ∃ at0, at0 ≤ σ 203 1 ∧ (∀ t, t < at0 → (pv_t σ t).1 ≤ o0) ∧ (at0 < σ 203 1 → o0 < (pv_t σ at0).1) ∧ pi_ok P σ at0 o0 e0 (σ y) σ1) := by
  refine ct_V_in (cc := bm_Parts_insertInOrder) (maxL := 5) (by decide) rfl (Nat.le_of_ble_eq_true rfl) ?_
  intro p e s m args below meth c A ls Q S hl hW hret
  have S : pw_S p m c bm_Parts_insertInOrder 5 s args wa_g rc_Parts D cl_s (ty_s k) := S
  have hx := S.1.1
  have hb := S.1.2.1
  have hl : lv_has ls 5 [(0, .ref (g (62))), (1, .int (nI (o0))), (2, .int (nI (e0))), (3, .ref (g (y)))] := hl
  refine lv_iconst (v := nI (0)) hx hb dm_Parts_insertInOrder_0 (by decide) ?_
  refine lv_istore hx hb dm_Parts_insertInOrder_1 hl (by decide) rfl (fun ls hl => ?_)
  have hl : lv_has ls 5 [(4, .int (nI (0))), (0, .ref (g (62))), (1, .int (nI (o0))), (2, .int (nI (e0))), (3, .ref (g (y)))] := hl
  have fin : ∀ i, i ≤ σ 203 1 → (∀ t, t < i → (pv_t σ t).1 ≤ o0) → (i < σ 203 1 → o0 < (pv_t σ i).1) → ∀ (ls : Array Slot), lv_has ls 5 [(4, .int (nI (i))), (0, .ref (g (62))), (1, .int (nI (o0))), (2, .int (nI (e0))), (3, .ref (g (y)))] → W p l e rm_Parts_insertInOrder s m args below meth c s.heap [] 0 0 Q (F0 m 32 ls []) := by
    intro i hi h1 h2 ls hl
    refine lv_aload_n hx hb dm_Parts_insertInOrder_32 rfl (lv_at hl 1 rfl) ?_
    refine lv_iload hx hb dm_Parts_insertInOrder_33 (lv_at hl 0 rfl) ?_
    refine lv_iload_n hx hb dm_Parts_insertInOrder_35 rfl (lv_at hl 2 rfl) ?_
    refine lv_iload_n hx hb dm_Parts_insertInOrder_36 rfl (lv_at hl 3 rfl) ?_
    refine lv_aload_n hx hb dm_Parts_insertInOrder_37 rfl (lv_at hl 4 rfl) ?_
    refine pw_callV (rest := []) S hW (mm_Parts_insert l D k g σ (at0 := i) (o0 := o0) (e0 := e0) hw hpl hcc hi hy_ hyP) (cv_Parts_91 S.1.2.2.2.2 ⟨by decide, by decide⟩) (by decide) en_Parts rfl rfl hl.1 rfl (lv_room (Nat.le_of_ble_eq_true rfl)) ⟨Nat.zero_le _, Nat.zero_le _⟩ dm_Parts_insertInOrder_38 (fun σ2 H locs hp2 hW => ?_)
    exact hret _ _ _ _ _ dm_Parts_insertInOrder_41 ⟨i, hi, h1, h2, hp2⟩ hW
  have loop : ∀ (d i : Nat), i + d = σ 203 1 → (∀ t, t < i → (pv_t σ t).1 ≤ o0) → ∀ (ls : Array Slot), lv_has ls 5 [(4, .int (nI (i))), (0, .ref (g (62))), (1, .int (nI (o0))), (2, .int (nI (e0))), (3, .ref (g (y)))] → W p l e rm_Parts_insertInOrder s m args below meth c s.heap [] 0 0 Q (F0 m 3 ls []) := by
    intro d
    induction d with
    | zero =>
      intro i hi h1 ls hl
      refine lv_iload hx hb dm_Parts_insertInOrder_3 (lv_at hl 0 rfl) ?_
      refine lv_aload_n hx hb dm_Parts_insertInOrder_5 rfl (lv_at hl 1 rfl) ?_
      refine ps_count S hW (wa_in 180 (by decide +kernel) rfl) dm_Parts_insertInOrder_6 ?_
      refine wi_icmp_ge (tgt := 32) S (nn_T (by omega)) (nn_T (by omega)) dm_Parts_insertInOrder_9 (by decide) (fun hc => ?_) (fun hc => ?_)
      · exact fin i (by omega) h1 (fun h => by omega) ls hl
      · exfalso
        omega
    | succ d ih =>
      intro i hi h1 ls hl
      refine lv_iload hx hb dm_Parts_insertInOrder_3 (lv_at hl 0 rfl) ?_
      refine lv_aload_n hx hb dm_Parts_insertInOrder_5 rfl (lv_at hl 1 rfl) ?_
      refine ps_count S hW (wa_in 180 (by decide +kernel) rfl) dm_Parts_insertInOrder_6 ?_
      refine wi_icmp_ge (tgt := 32) S (nn_T (by omega)) (nn_T (by omega)) dm_Parts_insertInOrder_9 (by decide) (fun hc => ?_) (fun hc => ?_)
      · exfalso
        omega
      · have hoi : σ 201 (σ 204 i) < 2147483648 := hof i (by omega)
        refine lv_aload_n hx hb dm_Parts_insertInOrder_12 rfl (lv_at hl 1 rfl) ?_
        refine ps_list S hW (wa_in 178 (by decide +kernel) rfl) dm_Parts_insertInOrder_13 ?_
        refine lv_iload hx hb dm_Parts_insertInOrder_16 (lv_at hl 0 rfl) ?_
        refine li_ald S hW (by omega) dm_Parts_insertInOrder_18 ?_
        refine pt_often S hW (hpl.1 (i) (by omega)) (wa_in 164 (by decide +kernel) rfl) dm_Parts_insertInOrder_19 ?_
        refine lv_iload_n hx hb dm_Parts_insertInOrder_22 rfl (lv_at hl 2 rfl) ?_
        refine wi_icmp_gt (tgt := 32) S (nn_T (by omega)) (nn_T (by omega)) dm_Parts_insertInOrder_23 (by decide) (fun hc => ?_) (fun hc => ?_)
        · exact fin i (by omega) h1 (fun _ => by show o0 < σ 201 (σ 204 i); omega) ls hl
        · refine lv_iinc (k := 0) (v := nI (i + 1)) hx hb dm_Parts_insertInOrder_26 hl rfl (by rw [show Int32.ofInt 1 = nI 1 from rfl, nI_add]) (by decide) rfl (fun ls hl => ?_)
          have hl : lv_has ls 5 [(4, .int (nI (i + 1))), (0, .ref (g (62))), (1, .int (nI (o0))), (2, .int (nI (e0))), (3, .ref (g (y)))] := hl
          refine lv_goto (tgt := 3) hx hb dm_Parts_insertInOrder_29 (by decide) ?_
          refine ih (i + 1) (by omega) (fun t ht => ?_) ls hl
          by_cases he : t = i
          · rw [he]
            show σ 201 (σ 204 i) ≤ o0
            omega
          · exact h1 t (by omega)
  exact loop (σ 203 1) 0 (by omega) (fun t ht => by omega) ls hl
