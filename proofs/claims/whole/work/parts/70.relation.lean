/-! The relation that the law keeps: class and reference show the same registers, field, parts and lead -/
theorem rk_inj {n m : Nat} (hn : n < 100) (hm : m < 100) (h : nI n = nI m) : n = m := by
  have h1 := congrArg Int32.toInt h
  rw [nn_T (by omega), nn_T (by omega)] at h1
  omega
def ab_ok (P : Nat) (R : Nat → Nat → Nat) (F : Nat → Nat) (L : List pv_T) (ld : Nat) : Prop :=
  (∀ n, n < 8 → sp_ok P (R n) ∧ sp_sz (R n) 31 ≤ 16) ∧ sp_ok P F ∧ (0 < sp_sz F 31 → 1 < sp_sz F 31 ∧ sp_sz F 31 ≤ 16 ∧ pz_ir P (sp_sz F 31 - 1) (pe_f F)) ∧ (∀ p ∈ L, pq_ok P p) ∧ wh_s L ≤ 15 ∧ ld < P
def hc_ok (P : Nat) (σ : st_T) (R : Nat → Nat → Nat) (F : Nat → Nat) (L : List pv_T) (ld : Nat) : Prop :=
  st_wf P σ ∧ pl_ok σ ∧ σ 21 = sp_x ∧ (∀ n, n < 8 → σ (133 + 2 * n) = R n) ∧ σ 118 = F ∧ pl_v σ = L ∧ σ 203 2 = ld
def hm_ok (P : Nat) (σ : st_T) (R : Nat → Nat → Nat) (F : Nat → Nat) (L : List pv_T) (ld : Nat) : Prop :=
  md_wf P σ ∧ (∀ n, n < 8 → σ (300 + n) = R n) ∧ σ (300 + 24) = F ∧ σ 205 4 = sp_sz F 31 - 1 ∧ ml_v σ = L ∧ σ 205 3 = ld ∧ σ 205 2 = (if ld = 0 then 0 else 1)
def lr (P : Nat) (σ : st_T) : Prop := ∃ R F L ld, ab_ok P R F L ld ∧ hc_ok P σ R F L ld ∧ hm_ok P σ R F L ld
theorem pq_w {P : Nat} {p : pv_T} (h : pq_ok P p) : 1 ≤ p.1 * (sp_sz p.2.2 31 - 1) ∧ p.1 ≤ p.1 * (sp_sz p.2.2 31 - 1) ∧ sp_sz p.2.2 31 - 1 ≤ p.1 * (sp_sz p.2.2 31 - 1) := by
  obtain ⟨h1, -, -, -, h5, -⟩ := h
  have a1 : p.1 * 1 ≤ p.1 * (sp_sz p.2.2 31 - 1) := Nat.mul_le_mul_left _ (by omega)
  have a2 : 1 * (sp_sz p.2.2 31 - 1) ≤ p.1 * (sp_sz p.2.2 31 - 1) := Nat.mul_le_mul_right _ h1
  refine ⟨by omega, by omega, by omega⟩
theorem ab_len {P : Nat} : ∀ {L : List pv_T}, (∀ p ∈ L, pq_ok P p) → L.length ≤ wh_s L
  | [], _ => Nat.le_refl _
  | p :: L, h => by
    have h1 := pq_w (h p List.mem_cons_self)
    have h2 := ab_len (L := L) (fun q hq => h q (List.mem_cons_of_mem _ hq))
    show L.length + 1 ≤ p.1 * (sp_sz p.2.2 31 - 1) + wh_s L
    omega
theorem ab_of {P : Nat} : ∀ {L : List pv_T}, (∀ p ∈ L, pq_ok P p) → ∀ p ∈ L, p.1 ≤ wh_s L
  | [], _, p, hp => absurd hp List.not_mem_nil
  | q :: L, h, p, hp => by
    have h1 := pq_w (h q List.mem_cons_self)
    show p.1 ≤ q.1 * (sp_sz q.2.2 31 - 1) + wh_s L
    rcases List.mem_cons.mp hp with rfl | hp
    · omega
    · have h2 := ab_of (L := L) (fun q hq => h q (List.mem_cons_of_mem _ hq)) p hp
      omega
theorem ab_len2 {P : Nat} : ∀ {L : List pv_T}, (∀ p ∈ L, pq_ok P p) → ∀ p ∈ L, 2 < sp_sz p.2.2 31 → L.length < wh_s L
  | [], _, p, hp, _ => absurd hp List.not_mem_nil
  | q :: L, h, p, hp, hz => by
    have h1 := pq_w (h q List.mem_cons_self)
    have h3 := ab_len (L := L) (fun q hq => h q (List.mem_cons_of_mem _ hq))
    show L.length + 1 < q.1 * (sp_sz q.2.2 31 - 1) + wh_s L
    rcases List.mem_cons.mp hp with rfl | hp
    · omega
    · have h2 := ab_len2 (L := L) (fun q hq => h q (List.mem_cons_of_mem _ hq)) p hp hz
      omega
theorem wh_app : ∀ (A B : List pv_T), wh_s (A ++ B) = wh_s A + wh_s B
  | [], B => by
    show wh_s B = 0 + wh_s B
    omega
  | p :: A, B => by
    show p.1 * (sp_sz p.2.2 31 - 1) + wh_s (A ++ B) = p.1 * (sp_sz p.2.2 31 - 1) + wh_s A + wh_s B
    rw [wh_app A B]
    omega
theorem pl_v_mo {σ τ : st_T} (hpl : pl_ok σ) (hlen : σ 203 1 ≤ 15) (h : ∀ a, a < 205 → τ a = σ a) : pl_v τ = pl_v σ := by
  unfold pl_v
  rw [h 203 (by decide)]
  refine List.map_congr_left (fun t ht => ?_)
  have ht := List.mem_range.mp ht
  have h1 := (kd_pa (hpl.1 t (by omega))).2.1
  unfold pv_t
  rw [h 201 (by decide), h 202 (by decide), h 204 (by decide), h (σ 204 t + 1) (by omega)]
theorem hc_mo {P : Nat} {σ τ : st_T} {R : Nat → Nat → Nat} {F : Nat → Nat} {L : List pv_T} {ld : Nat} (h : ∀ a, a < 205 → τ a = σ a) (hlen : L.length ≤ 15) (hc : hc_ok P σ R F L ld) : hc_ok P τ R F L ld := by
  obtain ⟨hw, hpl, h21, hR, hF, hL, hld⟩ := hc
  refine ⟨⟨by rw [h 203 (by decide)]; exact hw.1, fun j hj => ?_⟩, ?_, by rw [h 21 (by decide)]; exact h21, fun n hn => by rw [h _ (by omega)]; exact hR n hn, by rw [h 118 (by decide)]; exact hF, ?_, by rw [h 203 (by decide)]; exact hld⟩
  · have h1 := (kd_po hj).2.1
    rw [h j (by omega), h 200 (by decide)]
    exact hw.2 j hj
  · unfold pl_ok
    rw [h 204 (by decide)]
    exact hpl
  · rw [pl_v_mo hpl (by rw [← pl_v_len σ, hL]; exact hlen) h]
    exact hL
theorem hm_mo {P : Nat} {σ τ : st_T} {R : Nat → Nat → Nat} {F : Nat → Nat} {L : List pv_T} {ld : Nat} (h : ∀ a, 205 ≤ a → τ a = σ a) (hm : hm_ok P σ R F L ld) : hm_ok P τ R F L ld := by
  obtain ⟨hw, hR, hF, hk, hL, hld, hfc⟩ := hm
  have h5 := h 205 (by decide)
  refine ⟨⟨by rw [h5]; exact hw.1, fun s hs => by rw [h _ (by omega)]; exact hw.2 s hs⟩, fun n hn => by rw [h _ (by omega)]; exact hR n hn, by rw [h _ (by decide)]; exact hF, by rw [h5]; exact hk, ?_, by rw [h5]; exact hld, by rw [h5]; exact hfc⟩
  rw [← hL]
  unfold ml_v
  rw [h5]
  refine List.map_congr_left (fun t ht => ?_)
  unfold mv_t
  rw [h 206 (by decide), h 207 (by decide), h _ (by omega)]
/-- polynomials of the class that no answer shows -/
def sc_X : List Nat := [2, 4, 6, 8, 10, 12, 14, 16, 19, 24, 26, 28, 30, 32, 34, 36, 38, 40, 42, 44, 46, 48, 50, 52, 54, 56, 58, 60, 64, 66, 68, 70, 120, 122, 124, 126, 128, 130]
theorem sc_pt : ∀ a ∈ sc_X, a ∉ pt_X ∧ a ≠ 21 ∧ a ≠ 118 ∧ a < 133 := by decide +kernel
theorem sc_rg : ∀ n, n < 8 → 133 + 2 * n ∉ pt_X ∧ 133 + 2 * n ∉ sc_X := by decide +kernel
theorem hc_gen {P : Nat} {σ τ : st_T} {R R' : Nat → Nat → Nat} {F : Nat → Nat} {L : List pv_T} {ld : Nat} {X : List Nat} (hc : hc_ok P σ R F L ld) (hlen : L.length ≤ 15) (hw : st_wf P τ) (hs : st_sm X σ τ) (hX : ∀ a ∈ X, (∃ n, n < 8 ∧ a = 133 + 2 * n) ∨ a ∈ sc_X) (hR : ∀ n, n < 8 → τ (133 + 2 * n) = R' n) : hc_ok P τ R' F L ld := by
  obtain ⟨hw0, hpl, h21, hR0, hF, hL, hld⟩ := hc
  have hp : ∀ a ∈ X, a ∉ pt_X ∧ a ≠ 21 ∧ a ≠ 118 := fun a ha => by
    rcases hX a ha with ⟨n, hn, rfl⟩ | h
    · exact ⟨(sc_rg n hn).1, by omega, by omega⟩
    · have h1 := sc_pt a h
      exact ⟨h1.1, h1.2.1, h1.2.2.1⟩
  obtain ⟨⟨p1, p2⟩, p3, p4, -⟩ := pl_v_sm hpl hs (fun a ha => (hp a ha).1) (by rw [← pl_v_len σ, hL]; exact hlen)
  refine ⟨hw, p1, ?_, hR, ?_, by rw [p2]; exact hL, by rw [p4]; exact hld⟩
  · rw [hs 21 (fun h => (hp 21 h).2.1 rfl) (by decide)]
    exact h21
  · rw [hs 118 (fun h => (hp 118 h).2.2 rfl) (by decide)]
    exact hF
theorem st_hi {σ τ : st_T} {X : List Nat} (hs : st_sm X σ τ) (hX : ∀ a ∈ X, (∃ n, n < 8 ∧ a = 133 + 2 * n) ∨ a ∈ sc_X) : ∀ a, 205 ≤ a → τ a = σ a := fun a ha => hs a (fun h => by
  rcases hX a h with ⟨n, hn, rfl⟩ | h
  · omega
  · have := (sc_pt a h).2.2.2
    omega) (by omega)
theorem hm_gen {P : Nat} {σ τ : st_T} {R R' : Nat → Nat → Nat} {F : Nat → Nat} {L : List pv_T} {ld : Nat} {Y : List Nat} (hm : hm_ok P σ R F L ld) (hlen : L.length ≤ 15) (hw : md_wf P τ) (hs : md_sm Y σ τ) (hY : ∀ a ∈ Y, (∃ n, n < 8 ∧ a = 300 + n) ∨ a ∈ mk_W) (hR : ∀ n, n < 8 → τ (300 + n) = R' n) : hm_ok P τ R' F L ld := by
  obtain ⟨hw0, hR0, hF, hk, hL, hld, hfc⟩ := hm
  have hp : ∀ a ∈ Y, a ∉ mp_X ∧ a ≠ 324 := fun a ha => by
    rcases hY a ha with ⟨n, hn, rfl⟩ | h
    · exact ⟨(by decide +kernel : ∀ n, n < 8 → 300 + n ∉ mp_X) n hn, by omega⟩
    · exact ⟨mk_W_no a h, (by decide +kernel : ∀ a ∈ mk_W, a ≠ 324) a h⟩
  obtain ⟨p1, p2, -⟩ := ml_sm hs (fun a ha => (hp a ha).1) (by rw [← ml_v_len σ, hL]; omega)
  refine ⟨hw, hR, ?_, by rw [p2]; exact hk, by rw [p1]; exact hL, by rw [p2]; exact hld, by rw [p2]; exact hfc⟩
  rw [hs 324 (fun h => (hp 324 h).2 rfl)]
  exact hF
theorem md_lo {σ τ : st_T} {Y : List Nat} (hs : md_sm Y σ τ) (hY : ∀ a ∈ Y, (∃ n, n < 8 ∧ a = 300 + n) ∨ a ∈ mk_W) : ∀ a, a < 205 → τ a = σ a := fun a ha => hs a (fun h => by
  rcases hY a h with ⟨n, hn, rfl⟩ | h
  · omega
  · have := (by decide +kernel : ∀ a ∈ mk_W, 205 ≤ a) a h
    omega)
theorem ab_len5 {P : Nat} {R : Nat → Nat → Nat} {F : Nat → Nat} {L : List pv_T} {ld : Nat} (hA : ab_ok P R F L ld) : L.length ≤ 15 := Nat.le_trans (ab_len hA.2.2.2.1) hA.2.2.2.2.1
section LR
variable {P ld : Nat} {σ σ1 σ2 : st_T} {R R' : Nat → Nat → Nat} {F f : Nat → Nat} {L : List pv_T} {X Y : List Nat}
/-- registers change alike -/
theorem lr_gen (hA : ab_ok P R F L ld) (hc : hc_ok P σ R F L ld) (hm : hm_ok P σ R F L ld) (hw1 : st_wf P σ1) (hs1 : st_sm X σ σ1) (hX : ∀ a ∈ X, (∃ n, n < 8 ∧ a = 133 + 2 * n) ∨ a ∈ sc_X) (e1 : ∀ n, n < 8 → σ1 (133 + 2 * n) = R' n) (hw2 : md_wf P σ2) (hs2 : md_sm Y σ1 σ2) (hY : ∀ a ∈ Y, (∃ n, n < 8 ∧ a = 300 + n) ∨ a ∈ mk_W) (e2 : ∀ n, n < 8 → σ2 (300 + n) = R' n) (hz : ∀ n, n < 8 → sp_sz (R' n) 31 ≤ 16) : lr P σ2 := by
  have hl := ab_len5 hA
  refine ⟨R', F, L, ld, ⟨fun n hn => ⟨?_, hz n hn⟩, hA.2⟩, hc_mo (md_lo hs2 hY) hl (hc_gen hc hl hw1 hs1 hX e1), hm_gen (hm_mo (st_hi hs1 hX) hm) hl hw2 hs2 hY e2⟩
  rw [← e1 n hn]
  exact (hw1.2 _ (kd_rg hn)).1
theorem up_at {d0 n : Nat} {g : Nat → Nat} (e : g = f) (h : n ≠ d0 → g = R n) : g = va_up R d0 f n := by
  by_cases hn : n = d0
  · subst hn
    rw [va_up_self]
    exact e
  · rw [va_up_ne _ _ hn]
    exact h hn
/-- one register becomes f in both -/
theorem lr_wr (hA : ab_ok P R F L ld) (hc : hc_ok P σ R F L ld) (hm : hm_ok P σ R F L ld) {d0 : Nat} (hd : d0 < 8) {X Y : List Nat} (hw1 : st_wf P σ1) (hs1 : st_sm ((133 + 2 * d0) :: X) σ σ1) (hX : ∀ a ∈ X, a ∈ sc_X) (e1 : σ1 (133 + 2 * d0) = f) (hw2 : md_wf P σ2) (hs2 : md_sm ((300 + d0) :: Y) σ1 σ2) (hY : ∀ a ∈ Y, a ∈ mk_W) (e2 : σ2 (300 + d0) = f) (hz : sp_sz f 31 ≤ 16) : lr P σ2 := by
  have hX' : ∀ a ∈ (133 + 2 * d0) :: X, (∃ n, n < 8 ∧ a = 133 + 2 * n) ∨ a ∈ sc_X := fun a ha => by
    rcases List.mem_cons.mp ha with rfl | h
    · exact Or.inl ⟨d0, hd, rfl⟩
    · exact Or.inr (hX a h)
  have hY' : ∀ a ∈ (300 + d0) :: Y, (∃ n, n < 8 ∧ a = 300 + n) ∨ a ∈ mk_W := fun a ha => by
    rcases List.mem_cons.mp ha with rfl | h
    · exact Or.inl ⟨d0, hd, rfl⟩
    · exact Or.inr (hY a h)
  have hm1 := hm_mo (st_hi hs1 hX') hm
  refine lr_gen (R' := va_up R d0 f) hA hc hm hw1 hs1 hX' (fun n hn => ?_) hw2 hs2 hY' (fun n hn => ?_) (fun n hn => ?_)
  · by_cases h : n = d0
    · rw [h, va_up_self]
      exact e1
    · rw [va_up_ne _ _ h, hs1 _ (fun hx => ?_) (by omega)]
      · exact hc.2.2.2.1 n hn
      · rcases List.mem_cons.mp hx with hx | hx
        · omega
        · exact (sc_rg n hn).2 (hX _ hx)
  · by_cases h : n = d0
    · rw [h, va_up_self]
      exact e2
    · rw [va_up_ne _ _ h, hs2 _ (fun hx => ?_)]
      · exact hm1.2.1 n hn
      · rcases List.mem_cons.mp hx with hx | hx
        · omega
        · exact (by decide +kernel : ∀ n, n < 8 → 300 + n ∉ mk_W) n hn (hY _ hx)
  · by_cases h : n = d0
    · rw [h, va_up_self]
      exact hz
    · rw [va_up_ne _ _ h]
      exact (hA.1 n hn).2
/-- nothing that shows changes -/
theorem lr_sc (hA : ab_ok P R F L ld) (hc : hc_ok P σ R F L ld) (hm : hm_ok P σ R F L ld) (hw1 : st_wf P σ1) (hs1 : st_sm X σ σ1) (hX : ∀ a ∈ X, a ∈ sc_X) (hw2 : md_wf P σ2) (hs2 : md_sm Y σ1 σ2) (hY : ∀ a ∈ Y, a ∈ mk_W) : lr P σ2 := by
  have hX' : ∀ a ∈ X, (∃ n, n < 8 ∧ a = 133 + 2 * n) ∨ a ∈ sc_X := fun a ha => Or.inr (hX a ha)
  have hm1 := hm_mo (st_hi hs1 hX') hm
  refine lr_gen (R' := R) hA hc hm hw1 hs1 hX' (fun n hn => ?_) hw2 hs2 (fun a ha => Or.inr (hY a ha)) (fun n hn => ?_) (fun n hn => (hA.1 n hn).2)
  · rw [hs1 _ (fun hx => (sc_rg n hn).2 (hX _ hx)) (by omega)]
    exact hc.2.2.2.1 n hn
  · rw [hs2 _ (fun hx => (by decide +kernel : ∀ n, n < 8 → 300 + n ∉ mk_W) n hn (hY _ hx))]
    exact hm1.2.1 n hn
end LR
theorem gcd_sz {P : Nat} (hP : ag_pr P) {a b : Nat → Nat} (ha : sp_ok P a) (hb : sp_ok P b) (za : sp_sz a 31 ≤ 16) (zb : sp_sz b 31 ≤ 16) : sp_sz (sp_gcd P a b) 31 ≤ 16 := by
  by_cases h : sp_sz b 31 = 0
  · have e : sp_gl P 32 a b = a := by
      unfold sp_gl
      rw [if_pos h]
    unfold sp_gcd
    rw [e, sp_mon_sz hP ha]
    exact za
  · obtain ⟨h1, -, h3, -⟩ := sp_gcd_ok hP ha hb
    have := (sp_dvd_sz hP h1 hb (by omega) h3).2
    omega
theorem quo_sz {P : Nat} (hP : ag_pr P) {a b : Nat → Nat} (ha : sp_ok P a) (hb : sp_ok P b) (hs : 0 < sp_sz b 31) (za : sp_sz a 31 ≤ 16) : sp_sz (sp_quo P a b) 31 ≤ 16 := by
  have h := sp_sz_lt (n := 31) (sp_dv_ok hP ha hb hs).2.2.2.1
  omega
theorem der_sz {P : Nat} {a : Nat → Nat} (ha : sp_ok P a) (za : sp_sz a 31 ≤ 16) : sp_sz (lp_der P a) 31 ≤ 16 := sp_sz_lt (fun i hi => by
  show a (i + 1) * (i + 1) % P = 0
  rw [sp_hi ha (by omega), Nat.zero_mul, Nat.zero_mod])
theorem set_sz {P : Nat} {a : Nat → Nat} (ha : sp_ok P a) (za : sp_sz a 31 ≤ 16) {b v : Nat} (hb : b < 16) : sp_sz (va_up a b v) 31 ≤ 16 := sp_sz_lt (fun i hi => by
  rw [va_up_ne _ _ (by omega)]
  exact sp_hi ha (by omega))
theorem set_ok {P : Nat} {a : Nat → Nat} (ha : sp_ok P a) {b v : Nat} (hb : b < 16) (hv : v < P) : sp_ok P (va_up a b v) := fun i => by
  by_cases h : i = b
  · subst h
    rw [va_up_self]
    exact ⟨hv, fun h => by omega⟩
  · rw [va_up_ne _ _ h]
    exact ha i
theorem whm_sz {P : Nat} (hP : 0 < P) {f : Nat → Nat} (hf : sp_ok P f) (h1 : 1 ≤ sp_sz f 31) (h16 : sp_sz f 31 ≤ 16) : ∀ (n : Nat) (a : Nat → Nat), sp_ok P a → sp_sz a 31 + n * (sp_sz f 31 - 1) ≤ 16 → sp_ok P (wh_m P f n a) ∧ sp_sz (wh_m P f n a) 31 ≤ sp_sz a 31 + n * (sp_sz f 31 - 1)
  | 0, a, ha, _ => ⟨ha, by show sp_sz a 31 ≤ _; omega⟩
  | n + 1, a, ha, hs => by
    rw [Nat.add_mul, Nat.one_mul] at hs
    have h2 := sp_mul_sz (P := P) ha hf
    have h3 := sp_mul_ok hP ha hf (by omega)
    obtain ⟨h4, h5⟩ := whm_sz hP hf h1 h16 n (sp_mul P a f) h3 (by omega)
    refine ⟨h4, ?_⟩
    show sp_sz (wh_m P f n (sp_mul P a f)) 31 ≤ _
    rw [Nat.add_mul, Nat.one_mul]
    omega
theorem whl_sz {P : Nat} (hP : 0 < P) : ∀ (L : List pv_T) (a : Nat → Nat), (∀ p ∈ L, pq_ok P p) → sp_ok P a → sp_sz a 31 + wh_s L ≤ 16 → sp_sz (wh_l P L a) 31 ≤ sp_sz a 31 + wh_s L
  | [], a, _, _, _ => by show sp_sz a 31 ≤ sp_sz a 31 + 0; omega
  | p :: L, a, hq, ha, hs => by
    have hs : sp_sz a 31 + (p.1 * (sp_sz p.2.2 31 - 1) + wh_s L) ≤ 16 := hs
    obtain ⟨-, -, -, q4, q5, q6⟩ := hq p List.mem_cons_self
    obtain ⟨h4, h5⟩ := whm_sz hP q4 (by omega) q6 p.1 a ha (by omega)
    have h6 := whl_sz hP L (wh_m P p.2.2 p.1 a) (fun q hq' => hq q (List.mem_cons_of_mem _ hq')) h4 (by omega)
    show sp_sz (wh_l P L (wh_m P p.2.2 p.1 a)) 31 ≤ sp_sz a 31 + (p.1 * (sp_sz p.2.2 31 - 1) + wh_s L)
    omega
theorem fp_ir {P : Nat} (hP : ag_pr P) {f : Nat → Nat} (hf : sp_ok P f) (h16 : sp_sz f 31 ≤ 16) (h : fp_T P f) : pz_ir P (sp_sz f 31 - 1) (pe_f f) := by
  obtain ⟨h1, h2⟩ := h
  have hx := fun d => dd_ex hP hf (by omega) h16 d
  exact dd_test (F := fun d => Classical.choose (hx d)) hP hf h1 (fun d => (Classical.choose_spec (hx d)).1) (fun d => (Classical.choose_spec (hx d)).2) (fun d hd1 hd2 => h2 d _ hd1 hd2 (Classical.choose_spec (hx d)).1 (Classical.choose_spec (hx d)).2)
