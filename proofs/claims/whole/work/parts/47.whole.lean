/-! Parts: wholeInto -/
def wh_m (P : Nat) (f : Nat → Nat) : Nat → (Nat → Nat) → Nat → Nat
  | 0, a => a
  | n + 1, a => wh_m P f n (sp_mul P a f)
def wh_l (P : Nat) : List pv_T → (Nat → Nat) → Nat → Nat
  | [], a => a
  | p :: L, a => wh_l P L (wh_m P p.2.2 p.1 a)
def wh_s : List pv_T → Nat
  | [] => 0
  | p :: L => p.1 * (sp_sz p.2.2 31 - 1) + wh_s L
theorem sp_mul_sz {P : Nat} {a f : Nat → Nat} (ha : sp_ok P a) (hf : sp_ok P f) : sp_sz (sp_mul P a f) 31 ≤ sp_sz a 31 + sp_sz f 31 - 1 := sp_sz_lt (fun i hi => by
  show sp_cv a f i % P = 0
  rw [sp_cv_hi ha hf (by omega), Nat.zero_mod])
theorem pl_drop {σ : st_T} {q : Nat} (h : q < σ 203 1) : (pl_v σ).drop q = pv_t σ q :: (pl_v σ).drop (q + 1) := by
  have h1 := pl_v_at σ h
  have h2 := (List.getElem?_eq_some_iff.mp h1)
  rw [List.drop_eq_getElem_cons h2.1, h2.2]
theorem dm_Parts_wholeInto_0 : decode bm_Parts_wholeInto 0 = .ok (.aload_n 1, 1) := by decide +kernel
theorem dm_Parts_wholeInto_1 : decode bm_Parts_wholeInto 1 = .ok (.aload_n 0, 1) := by decide +kernel
theorem dm_Parts_wholeInto_2 : decode bm_Parts_wholeInto 2 = .ok (.getfield 42, 3) := by decide +kernel
theorem dm_Parts_wholeInto_5 : decode bm_Parts_wholeInto 5 = .ok (.iconst 0, 1) := by decide +kernel
theorem dm_Parts_wholeInto_6 : decode bm_Parts_wholeInto 6 = .ok (.invokevirtual 130, 3) := by decide +kernel
theorem dm_Parts_wholeInto_9 : decode bm_Parts_wholeInto 9 = .ok (.iconst 0, 1) := by decide +kernel
theorem dm_Parts_wholeInto_10 : decode bm_Parts_wholeInto 10 = .ok (.istore_n 2, 1) := by decide +kernel
theorem dm_Parts_wholeInto_11 : decode bm_Parts_wholeInto 11 = .ok (.iload_n 2, 1) := by decide +kernel
theorem dm_Parts_wholeInto_12 : decode bm_Parts_wholeInto 12 = .ok (.aload_n 0, 1) := by decide +kernel
theorem dm_Parts_wholeInto_13 : decode bm_Parts_wholeInto 13 = .ok (.getfield 46, 3) := by decide +kernel
theorem dm_Parts_wholeInto_16 : decode bm_Parts_wholeInto 16 = .ok (.if_icmp .ge 48, 3) := by decide +kernel
theorem dm_Parts_wholeInto_19 : decode bm_Parts_wholeInto 19 = .ok (.iconst 0, 1) := by decide +kernel
theorem dm_Parts_wholeInto_20 : decode bm_Parts_wholeInto 20 = .ok (.istore_n 3, 1) := by decide +kernel
theorem dm_Parts_wholeInto_21 : decode bm_Parts_wholeInto 21 = .ok (.iload_n 3, 1) := by decide +kernel
theorem dm_Parts_wholeInto_22 : decode bm_Parts_wholeInto 22 = .ok (.aload_n 0, 1) := by decide +kernel
theorem dm_Parts_wholeInto_23 : decode bm_Parts_wholeInto 23 = .ok (.getfield 11, 3) := by decide +kernel
theorem dm_Parts_wholeInto_26 : decode bm_Parts_wholeInto 26 = .ok (.iload_n 2, 1) := by decide +kernel
theorem dm_Parts_wholeInto_27 : decode bm_Parts_wholeInto 27 = .ok (.aaload, 1) := by decide +kernel
theorem dm_Parts_wholeInto_28 : decode bm_Parts_wholeInto 28 = .ok (.getfield 88, 3) := by decide +kernel
theorem dm_Parts_wholeInto_31 : decode bm_Parts_wholeInto 31 = .ok (.if_icmp .ge 27, 3) := by decide +kernel
theorem dm_Parts_wholeInto_34 : decode bm_Parts_wholeInto 34 = .ok (.aload_n 0, 1) := by decide +kernel
theorem dm_Parts_wholeInto_35 : decode bm_Parts_wholeInto 35 = .ok (.getfield 33, 3) := by decide +kernel
theorem dm_Parts_wholeInto_38 : decode bm_Parts_wholeInto 38 = .ok (.aload_n 1, 1) := by decide +kernel
theorem dm_Parts_wholeInto_39 : decode bm_Parts_wholeInto 39 = .ok (.aload_n 1, 1) := by decide +kernel
theorem dm_Parts_wholeInto_40 : decode bm_Parts_wholeInto 40 = .ok (.aload_n 0, 1) := by decide +kernel
theorem dm_Parts_wholeInto_41 : decode bm_Parts_wholeInto 41 = .ok (.getfield 11, 3) := by decide +kernel
theorem dm_Parts_wholeInto_44 : decode bm_Parts_wholeInto 44 = .ok (.iload_n 2, 1) := by decide +kernel
theorem dm_Parts_wholeInto_45 : decode bm_Parts_wholeInto 45 = .ok (.aaload, 1) := by decide +kernel
theorem dm_Parts_wholeInto_46 : decode bm_Parts_wholeInto 46 = .ok (.getfield 98, 3) := by decide +kernel
theorem dm_Parts_wholeInto_49 : decode bm_Parts_wholeInto 49 = .ok (.invokevirtual 133, 3) := by decide +kernel
theorem dm_Parts_wholeInto_52 : decode bm_Parts_wholeInto 52 = .ok (.iinc 3 1, 3) := by decide +kernel
theorem dm_Parts_wholeInto_55 : decode bm_Parts_wholeInto 55 = .ok (.goto (-34), 3) := by decide +kernel
theorem dm_Parts_wholeInto_58 : decode bm_Parts_wholeInto 58 = .ok (.iinc 2 1, 3) := by decide +kernel
theorem dm_Parts_wholeInto_61 : decode bm_Parts_wholeInto 61 = .ok (.goto (-50), 3) := by decide +kernel
theorem dm_Parts_wholeInto_64 : decode bm_Parts_wholeInto 64 = .ok (.return_, 1) := by decide +kernel
set_option maxHeartbeats 4000000 in
set_option maxRecDepth 100000 in
theorem mm_Parts_wholeInto (l : Launch) (D : va_G) (k : ClassId × ClassId × ClassId) (g : Nat → Nat) (σ : st_T) {P x : Nat} (hw : st_wf P σ) (hP : 2 ≤ P) (hP31 : P < 2147483648) (hpl : pl_ok σ) (hx_ : kd_k x = 0) (hx2 : x ≠ 2) (hxP : x ∉ pt_P) (hld : σ 203 2 < P) (hcc : σ 203 1 ≤ 15) (hsz : 1 + wh_s (pl_v σ) ≤ 16) (hpos : ∀ t, t < σ 203 1 → 0 < sp_sz (pv_t σ t).2.2 31) (hoft : ∀ t, t < σ 203 1 → (pv_t σ t).1 ≤ 15) : mt_V l D k g ym_Parts_wholeInto wm_Parts_wholeInto rm_Parts_wholeInto [.ref (g 62), .ref (g x)] σ (fun σ1 => st_wf P σ1 ∧ σ1 x = wh_l P (pl_v σ) (va_up (fun _ => 0) 0 (σ 203 2)) ∧ st_sm [x, 2] σ σ1) := by
  refine ct_V_in (cc := bm_Parts_wholeInto) (maxL := 4) (by decide) rfl (Nat.le_of_ble_eq_true rfl) ?_
  intro p e s m args below meth c A ls Q S hl hW hret
  have S : pw_S p m c bm_Parts_wholeInto 4 s args wa_g rc_Parts D cl_s (ty_s k) := S
  have hx := S.1.1
  have hb := S.1.2.1
  have hl : lv_has ls 4 [(0, .ref (g (62))), (1, .ref (g (x)))] := hl
  have kx := kd_po hx_
  refine lv_aload_n hx hb dm_Parts_wholeInto_0 rfl (lv_at hl 1 rfl) ?_
  refine lv_aload_n hx hb dm_Parts_wholeInto_1 rfl (lv_at hl 0 rfl) ?_
  refine ps_lead S hW (wa_in 182 (by decide +kernel) rfl) dm_Parts_wholeInto_2 ?_
  refine lv_iconst (v := nI (0)) hx hb dm_Parts_wholeInto_5 (by decide) ?_
  refine pw_callV (rest := []) S hW (mm_Poly_becomeTerm l D k g σ hw hx_ (v := σ 203 2) (n := 0) (by omega) (by omega)) (cv_Parts_130 S.1.2.2.2.2 ⟨by decide, by decide⟩) (kd_p1 hx_) (en_k0 hx_) rfl rfl hl.1 rfl (lv_room (Nat.le_of_ble_eq_true rfl)) ⟨Nat.zero_le _, Nat.zero_le _⟩ dm_Parts_wholeInto_6 (fun σ2 H locs hp2 hW => ?_)
  rw [hp2] at hW
  refine lv_iconst (v := nI (0)) hx hb dm_Parts_wholeInto_9 (by decide) ?_
  refine lv_istore_n hx hb dm_Parts_wholeInto_10 rfl hl (by decide) rfl (fun ls hl => ?_)
  have hl : lv_has ls 4 [(2, .int (nI (0))), (0, .ref (g (62))), (1, .ref (g (x)))] := hl
  have loop : ∀ (n i : Nat) (τ : st_T), i + n = σ 203 1 → st_wf P τ → st_sm [x, 2] σ τ → sp_sz (τ x) 31 + wh_s ((pl_v σ).drop i) ≤ 16 → wh_l P ((pl_v σ).drop i) (τ x) = wh_l P (pl_v σ) (va_up (fun _ => 0) 0 (σ 203 2)) → ∀ (ls : Array Slot) (H : Heap) (locs : List Loc), lv_has ls 4 [(2, .int (nI (i))), (0, .ref (g (62))), (1, .ref (g (x)))] → pw_H D cl_s A s.heap g 153 (en_s k g (τ)) H locs → W p l e rm_Parts_wholeInto s m args below meth c H locs 0 0 Q (F0 m 11 ls []) := by
    intro n
    induction n with
    | zero =>
      intro i τ hi wτ sτ zτ fτ ls H locs hl hW
      have q203 : τ 203 = σ 203 := sτ 203 (by simp only [List.mem_cons, List.not_mem_nil, or_false]; omega) (by decide)
      have q204 : τ 204 = σ 204 := sτ 204 (by simp only [List.mem_cons, List.not_mem_nil, or_false]; omega) (by decide)
      have q201 : τ 201 = σ 201 := sτ 201 (by simp only [List.mem_cons, List.not_mem_nil, or_false]; omega) (by decide)
      have pτ : pl_ok τ := by
        unfold pl_ok
        rw [q204]
        exact hpl
      refine lv_iload_n hx hb dm_Parts_wholeInto_11 rfl (lv_at hl 0 rfl) ?_
      refine lv_aload_n hx hb dm_Parts_wholeInto_12 rfl (lv_at hl 1 rfl) ?_
      refine ps_count S hW (wa_in 180 (by decide +kernel) rfl) dm_Parts_wholeInto_13 ?_
      rw [q203]
      refine wi_icmp_ge (tgt := 64) S (nn_T (by omega)) (nn_T (by omega)) dm_Parts_wholeInto_16 (by decide) (fun hc => ?_) (fun hc => ?_)
      · rw [List.drop_eq_nil_of_le (by rw [pl_v_len]; omega)] at fτ
        exact hret _ _ _ _ _ dm_Parts_wholeInto_64 ⟨wτ, fτ, sτ⟩ hW
      · exfalso
        omega
    | succ n ih =>
      intro i τ hi wτ sτ zτ fτ ls H locs hl hW
      have q203 : τ 203 = σ 203 := sτ 203 (by simp only [List.mem_cons, List.not_mem_nil, or_false]; omega) (by decide)
      have q204 : τ 204 = σ 204 := sτ 204 (by simp only [List.mem_cons, List.not_mem_nil, or_false]; omega) (by decide)
      have q201 : τ 201 = σ 201 := sτ 201 (by simp only [List.mem_cons, List.not_mem_nil, or_false]; omega) (by decide)
      have pτ : pl_ok τ := by
        unfold pl_ok
        rw [q204]
        exact hpl
      refine lv_iload_n hx hb dm_Parts_wholeInto_11 rfl (lv_at hl 0 rfl) ?_
      refine lv_aload_n hx hb dm_Parts_wholeInto_12 rfl (lv_at hl 1 rfl) ?_
      refine ps_count S hW (wa_in 180 (by decide +kernel) rfl) dm_Parts_wholeInto_13 ?_
      rw [q203]
      refine wi_icmp_ge (tgt := 64) S (nn_T (by omega)) (nn_T (by omega)) dm_Parts_wholeInto_16 (by decide) (fun hc => ?_) (fun hc => ?_)
      · exfalso
        omega
      · rw [pl_drop (show i < σ 203 1 by omega)] at zτ fτ
        have zτ : sp_sz (τ x) 31 + (σ 201 (σ 204 i) * (sp_sz (σ (σ 204 i + 1)) 31 - 1) + wh_s ((pl_v σ).drop (i + 1))) ≤ 16 := zτ
        have fτ : wh_l P ((pl_v σ).drop (i + 1)) (wh_m P (σ (σ 204 i + 1)) (σ 201 (σ 204 i)) (τ x)) = wh_l P (pl_v σ) (va_up (fun _ => 0) 0 (σ 203 2)) := fτ
        have hp0 : 0 < sp_sz (σ (σ 204 i + 1)) 31 := hpos i (by omega)
        have ho5 : σ 201 (σ 204 i) ≤ 15 := hoft i (by omega)
        have hj := hpl.1 i (by omega)
        have kj := kd_pa hj
        refine lv_iconst (v := nI (0)) hx hb dm_Parts_wholeInto_19 (by decide) ?_
        refine lv_istore_n hx hb dm_Parts_wholeInto_20 rfl hl (by decide) rfl (fun ls hl => ?_)
        have hl : lv_has ls 4 [(3, .int (nI (0))), (2, .int (nI (i))), (0, .ref (g (62))), (1, .ref (g (x)))] := hl
        have hl : lv_has ls 4 [(3, .int (nI (0))), (2, .int (nI (i))), (0, .ref (g (62))), (1, .ref (g (x)))] := lv_sub hl [0, 1, 2, 3] rfl
        have inner : ∀ (q9 e0 : Nat) (υ : st_T), e0 + q9 = σ 201 (σ 204 i) → st_wf P υ → st_sm [x, 2] σ υ → sp_sz (υ x) 31 + (q9 * (sp_sz (σ (σ 204 i + 1)) 31 - 1) + wh_s ((pl_v σ).drop (i + 1))) ≤ 16 → wh_l P ((pl_v σ).drop (i + 1)) (wh_m P (σ (σ 204 i + 1)) q9 (υ x)) = wh_l P (pl_v σ) (va_up (fun _ => 0) 0 (σ 203 2)) → ∀ (ls : Array Slot) (H : Heap) (locs : List Loc), lv_has ls 4 [(3, .int (nI (e0))), (2, .int (nI (i))), (0, .ref (g (62))), (1, .ref (g (x)))] → pw_H D cl_s A s.heap g 153 (en_s k g (υ)) H locs → W p l e rm_Parts_wholeInto s m args below meth c H locs 0 0 Q (F0 m 21 ls []) := by
          intro q9
          induction q9 with
          | zero =>
            intro e0 υ he wτ sτ zυ fυ ls H locs hl hW
            have q203 : υ 203 = σ 203 := sτ 203 (by simp only [List.mem_cons, List.not_mem_nil, or_false]; omega) (by decide)
            have q204 : υ 204 = σ 204 := sτ 204 (by simp only [List.mem_cons, List.not_mem_nil, or_false]; omega) (by decide)
            have q201 : υ 201 = σ 201 := sτ 201 (by simp only [List.mem_cons, List.not_mem_nil, or_false]; omega) (by decide)
            have pτ : pl_ok υ := by
              unfold pl_ok
              rw [q204]
              exact hpl
            have ej : υ (σ 204 i + 1) = σ (σ 204 i + 1) := sτ _ (by simp only [List.mem_cons, List.not_mem_nil, or_false]; intro z; rcases z with z | z; exact hxP (by rw [← z]; exact pt_in hj); omega) (by omega)
            refine lv_iload_n hx hb dm_Parts_wholeInto_21 rfl (lv_at hl 0 rfl) ?_
            refine lv_aload_n hx hb dm_Parts_wholeInto_22 rfl (lv_at hl 2 rfl) ?_
            refine ps_list S hW (wa_in 178 (by decide +kernel) rfl) dm_Parts_wholeInto_23 ?_
            refine lv_iload_n hx hb dm_Parts_wholeInto_26 rfl (lv_at hl 1 rfl) ?_
            refine li_ald S hW (by omega) dm_Parts_wholeInto_27 ?_
            refine pt_often S hW (pτ.1 (i) (by omega)) (wa_in 164 (by decide +kernel) rfl) dm_Parts_wholeInto_28 ?_
            rw [q201, q204]
            refine wi_icmp_ge (tgt := 58) S (nn_T (by omega)) (nn_T (by omega)) dm_Parts_wholeInto_31 (by decide) (fun hc => ?_) (fun hc => ?_)
            · refine lv_iinc (k := 1) (v := nI (i + 1)) hx hb dm_Parts_wholeInto_58 hl rfl (by rw [show Int32.ofInt 1 = nI 1 from rfl, nI_add]) (by decide) rfl (fun ls hl => ?_)
              have hl : lv_has ls 4 [(2, .int (nI (i + 1))), (3, .int (nI (e0))), (0, .ref (g (62))), (1, .ref (g (x)))] := hl
              refine lv_goto (tgt := 11) hx hb dm_Parts_wholeInto_61 (by decide) ?_
              have hl : lv_has ls 4 [(2, .int (nI (i + 1))), (0, .ref (g (62))), (1, .ref (g (x)))] := lv_sub hl [0, 2, 3] rfl
              refine ih (i + 1) υ (by omega) wτ sτ (by omega) fυ ls H locs hl hW
            · exfalso
              omega
          | succ q9 ihm =>
            intro e0 υ he wτ sτ zυ fυ ls H locs hl hW
            have q203 : υ 203 = σ 203 := sτ 203 (by simp only [List.mem_cons, List.not_mem_nil, or_false]; omega) (by decide)
            have q204 : υ 204 = σ 204 := sτ 204 (by simp only [List.mem_cons, List.not_mem_nil, or_false]; omega) (by decide)
            have q201 : υ 201 = σ 201 := sτ 201 (by simp only [List.mem_cons, List.not_mem_nil, or_false]; omega) (by decide)
            have pτ : pl_ok υ := by
              unfold pl_ok
              rw [q204]
              exact hpl
            have ej : υ (σ 204 i + 1) = σ (σ 204 i + 1) := sτ _ (by simp only [List.mem_cons, List.not_mem_nil, or_false]; intro z; rcases z with z | z; exact hxP (by rw [← z]; exact pt_in hj); omega) (by omega)
            refine lv_iload_n hx hb dm_Parts_wholeInto_21 rfl (lv_at hl 0 rfl) ?_
            refine lv_aload_n hx hb dm_Parts_wholeInto_22 rfl (lv_at hl 2 rfl) ?_
            refine ps_list S hW (wa_in 178 (by decide +kernel) rfl) dm_Parts_wholeInto_23 ?_
            refine lv_iload_n hx hb dm_Parts_wholeInto_26 rfl (lv_at hl 1 rfl) ?_
            refine li_ald S hW (by omega) dm_Parts_wholeInto_27 ?_
            refine pt_often S hW (pτ.1 (i) (by omega)) (wa_in 164 (by decide +kernel) rfl) dm_Parts_wholeInto_28 ?_
            rw [q201, q204]
            refine wi_icmp_ge (tgt := 58) S (nn_T (by omega)) (nn_T (by omega)) dm_Parts_wholeInto_31 (by decide) (fun hc => ?_) (fun hc => ?_)
            · exfalso
              omega
            · rw [Nat.succ_mul] at zυ
              have zx := (wτ.2 x hx_).2
              have zj := (wτ.2 (σ 204 i + 1) kj.1).2
              rw [ej] at zj
              have okj := (hw.2 (σ 204 i + 1) kj.1).1
              have zj16 := sp_sz_le (σ (σ 204 i + 1)) 31
              refine lv_aload_n hx hb dm_Parts_wholeInto_34 rfl (lv_at hl 2 rfl) ?_
              refine ps_ring S hW (wa_in 176 (by decide +kernel) rfl) dm_Parts_wholeInto_35 ?_
              refine lv_aload_n hx hb dm_Parts_wholeInto_38 rfl (lv_at hl 3 rfl) ?_
              refine lv_aload_n hx hb dm_Parts_wholeInto_39 rfl (lv_at hl 3 rfl) ?_
              refine lv_aload_n hx hb dm_Parts_wholeInto_40 rfl (lv_at hl 2 rfl) ?_
              refine ps_list S hW (wa_in 178 (by decide +kernel) rfl) dm_Parts_wholeInto_41 ?_
              refine lv_iload_n hx hb dm_Parts_wholeInto_44 rfl (lv_at hl 1 rfl) ?_
              refine li_ald S hW (by omega) dm_Parts_wholeInto_45 ?_
              rw [q204]
              refine pt_poly S hW hj (wa_in 162 (by decide +kernel) rfl) dm_Parts_wholeInto_46 ?_
              refine pw_callV (rest := []) S hW (mm_Ring_productInto l D k g υ wτ hP hP31 hx_ hx_ (b := σ 204 i + 1) kj.1 hx2 (by omega) (by omega)) (cv_Parts_133 S.1.2.2.2.2 ⟨by decide, by decide⟩) (by decide) en_Ring rfl rfl hl.1 rfl (lv_room (Nat.le_of_ble_eq_true rfl)) ⟨Nat.zero_le _, Nat.zero_le _⟩ dm_Parts_wholeInto_49 (fun σ5 H locs hp5 hW => ?_)
              obtain ⟨w5, e5, s5⟩ := hp5
              rw [ej] at e5
              have hms := sp_mul_sz (wτ.2 x hx_).1 okj
              refine lv_iinc (k := 0) (v := nI (e0 + 1)) hx hb dm_Parts_wholeInto_52 hl rfl (by rw [show Int32.ofInt 1 = nI 1 from rfl, nI_add]) (by decide) rfl (fun ls hl => ?_)
              have hl : lv_has ls 4 [(3, .int (nI (e0 + 1))), (2, .int (nI (i))), (0, .ref (g (62))), (1, .ref (g (x)))] := hl
              refine lv_goto (tgt := 21) hx hb dm_Parts_wholeInto_55 (by decide) ?_
              have hl : lv_has ls 4 [(3, .int (nI (e0 + 1))), (2, .int (nI (i))), (0, .ref (g (62))), (1, .ref (g (x)))] := lv_sub hl [0, 1, 2, 3] rfl
              refine ihm (e0 + 1) σ5 (by omega) w5 (st_sm_tr sτ s5 (fun _ h => h) (fun _ h => h)) (by rw [e5]; omega) (by rw [e5]; exact fυ) ls H locs hl hW
        exact inner (σ 201 (σ 204 i)) 0 τ (by omega) wτ sτ zτ fτ ls _ _ hl hW
  have hone : sp_sz (va_up (fun _ => 0) 0 (σ 203 2)) 31 ≤ 1 := sp_sz_lt (fun i hi => by rw [va_up_ne _ _ (by omega)])
  refine loop (σ 203 1) 0 _ (by omega) (st_wf_po hw hx_ (fun i => ?_)) (st_sm_mo (st_sm_po σ x _) (by intro a ha; simp only [List.mem_cons, List.not_mem_nil, or_false] at ha ⊢; omega)) ?_ ?_ ls _ _ hl hW
  · unfold va_up
    dsimp only
    split <;> omega
  · rw [st_po_at]
    show _ + wh_s (pl_v σ) ≤ 16
    omega
  · rw [st_po_at]
    rfl
