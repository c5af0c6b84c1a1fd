/-! Rows for open cells, and for polynomials in a pool with open cells -/
theorem va_up_app {f : List Nat} {g : Nat → Nat} {j : Nat} : va_up (fun t => (f[t]?).map g) f.length (some (g j)) = fun t => ((f ++ [j])[t]?).map g := funext (fun t => by
  by_cases h : t = f.length
  · subst h
    rw [va_up_self, List.getElem?_append_right (Nat.le_refl _), Nat.sub_self]
    rfl
  · rw [va_up_ne _ _ h]
    by_cases h1 : t < f.length
    · rw [List.getElem?_append_left h1]
    · rw [List.getElem?_eq_none (by omega), List.getElem?_eq_none (by rw [List.length_append, List.length_cons, List.length_nil]; omega)])
/-- open cell i becomes x; open cell i is closed -/
def od_s (i : Nat) (x : od_E) : List (Nat × od_E) → List (Nat × od_E)
  | [] => []
  | q :: O => (bif q.1 == i then (i, x) else q) :: od_s i x O
def od_d (i : Nat) : List (Nat × od_E) → List (Nat × od_E)
  | [] => []
  | q :: O => bif q.1 == i then od_d i O else q :: od_d i O
theorem od_s_ne {i j : Nat} {x : od_E} (h : j ≠ i) : ∀ O : List (Nat × od_E), od_l (od_s i x O) j = od_l O j
  | [] => rfl
  | q :: O => by
    rw [od_s]
    by_cases hq : q.1 = i
    · rw [show (q.1 == i) = true from beq_iff_eq.mpr hq, cond_true, od_l_ne h, od_s_ne h O, od_l, if_neg (fun h1 => h (h1.symm.trans hq))]
    · rw [show (q.1 == i) = false from beq_eq_false_iff_ne.mpr hq, cond_false, od_l, od_l, od_s_ne h O]
theorem od_s_self {i : Nat} {x y : od_E} : ∀ O : List (Nat × od_E), od_l O i = some y → od_l (od_s i x O) i = some x
  | [], h => by cases h
  | q :: O, h => by
    rw [od_s]
    by_cases hq : q.1 = i
    · rw [show (q.1 == i) = true from beq_iff_eq.mpr hq, cond_true, od_l_self]
    · rw [show (q.1 == i) = false from beq_eq_false_iff_ne.mpr hq, cond_false, od_l, if_neg hq]
      rw [od_l, if_neg hq] at h
      exact od_s_self O h
theorem od_d_ne {i j : Nat} (h : j ≠ i) : ∀ O : List (Nat × od_E), od_l (od_d i O) j = od_l O j
  | [] => rfl
  | q :: O => by
    rw [od_d]
    by_cases hq : q.1 = i
    · rw [show (q.1 == i) = true from beq_iff_eq.mpr hq, cond_true, od_d_ne h O, od_l, if_neg (fun h1 => h (h1.symm.trans hq))]
    · rw [show (q.1 == i) = false from beq_eq_false_iff_ne.mpr hq, cond_false, od_l, od_l, od_d_ne h O]
theorem od_d_self {i : Nat} : ∀ O : List (Nat × od_E), od_l (od_d i O) i = none
  | [] => rfl
  | q :: O => by
    rw [od_d]
    by_cases hq : q.1 = i
    · rw [show (q.1 == i) = true from beq_iff_eq.mpr hq, cond_true, od_d_self O]
    · rw [show (q.1 == i) = false from beq_eq_false_iff_ne.mpr hq, cond_false, od_l, if_neg hq, od_d_self O]
theorem en_o_us {k : ClassId × ClassId × ClassId} {g : Nat → Nat} {P i : Nat} {O : List (Nat × od_E)} {σ : st_T} {x y : od_E} (h : od_l O i = some y) : va_up (en_o k g P O σ) i (od_c k g P x) = en_o k g P (od_s i x O) σ := funext (fun j => by
  by_cases hj : j = i
  · subst hj
    rw [va_up_self, en_o_s (od_s_self O h)]
  · rw [va_up_ne _ _ hj]
    unfold en_o
    rw [od_s_ne hj])
section OZ
variable {p : Program} {l : Launch} {e : Env} {R : Room} {s : State} {m : MethodId} {args : Array Value} {below : List Frame} {meth : Method} {c : Code} {H : Heap} {locs : List Loc} {cells slots : Nat} {Q : State → Prop}
variable {cc : ByteArray} {pc : Nat} {ls : Array Slot} {rest : List Value} {D : va_G} {A : Nat → Prop} {H0 : Heap} {g g' : Nat → Nat} {nL N P : Nat} {own : String} {k : ClassId × ClassId × ClassId} {O O' : List (Nat × od_E)} {σ : st_T}
theorem oz_grow {v : va_E} {H1 : Heap} (hW : pw_H D cl_s A H0 g' (N + 1) (va_up (en_o k g P O σ) N v) H1 locs) (hN : N < 153) (hoc : oc_b O N = true) (hg : ∀ j, j < N → g' j = g j) (h4 : ∀ t, t < 15 → σ 204 t < 117) (hO : ∀ i, i < N → od_l O' i = od_l O i) (hv : va_at D cl_s (g' N, v) H1 → va_at D cl_s (g' N, en_o k g' P O' σ N) H1) : pw_H D cl_s A H0 g' (N + 1) (en_o k g' P O' σ) H1 locs :=
  pw_eqv hW (fun i hi h => by
    by_cases hiN : i = N
    · subst hiN
      rw [va_up_self] at h
      exact hv h
    · rw [va_up_ne _ _ hiN] at h
      have h1 := en_o_gg (g' := g') (by omega) hoc hg h4 (by omega) h
      have e : en_o k g' P O' σ i = en_o k g' P O σ i := by unfold en_o; rw [hO i (by omega)]
      rw [e]
      exact h1)
theorem oz_new (S : pw_S p m c cc nL s args wa_g own D cl_s (ty_s k)) (hW : pw_H D cl_s A H0 g N (en_o k g P O σ) H locs) (hN : N < 153) (hoc : oc_b O N = true) (h4 : ∀ t, t < 15 → σ 204 t < 117) {C : String} {T : u_T} {NF ci index : Nat} (fs : List od_T) (ty : Nat → FieldType) (hty : ∀ k, k < NF → parseFieldDescriptor (T k).2.2.1 = some (ty k)) (hc : cl_s[ci]? = some (C, T, NF)) (hin : ∀ w ∈ u_ws C T NF, w ∈ wa_g) (hcl : Cond.classLink own index C ∈ wa_g) (hinst : Cond.instantiable C NF ∈ wa_g) (hini : Cond.initialized C ∈ wa_g) (hfs : ∀ j, j < NF → defaultValue (ty j) = vp_V (fs.map (od_v g P)) j) (hfb : od_k N (.o ci fs) = true) (hr : cells + 1 ≤ R.cells ∧ slots + NF ≤ R.slots) (hdg : decode cc pc = .ok (.new index, 3))
    (kk : ∀ (g' : Nat → Nat) (H1 : Heap), (∀ j, j < N → g' j = g j) → pw_H D cl_s A H0 g' (N + 1) (en_o k g' P ((N, .o ci fs) :: O) σ) H1 locs → W p l e R s m args below meth c H1 locs (cells + 1) (slots + NF) Q (F0 m (pc + 3) ls (.ref (g' N) :: rest))) : W p l e R s m args below meth c H locs cells slots Q (F0 m pc ls rest) := by
  refine pw_new (fs := fs.map (od_v g P)) S hW ty hty hc hin hcl hinst hini hfs hr hdg (fun q H1 hW1 => ?_)
  have hg : ∀ j, j < N → va_up g N q j = g j := fun j hj => va_up_ne _ _ (by omega)
  have h := kk (va_up g N q) H1 hg (oz_grow hW1 hN hoc hg h4 (fun i hi => od_l_ne (by omega)) (fun hv => by
    rw [en_o_s od_l_self, od_gg hfb hg]
    exact hv))
  rw [va_up_self] at h
  exact h
theorem oz_newr (S : pw_S p m c cc nL s args wa_g own D cl_s (ty_s k)) (hW : pw_H D cl_s A H0 g N (en_o k g P O σ) H locs) (hN : N < 153) (hoc : oc_b O N = true) (h4 : ∀ t, t < 15 → σ 204 t < 117) (t0 : Nat) (cb : Bool) {C : String} {index : Nat} (ht : (ty_s k)[t0]? = some (bif cb then k.2.2 else k.2.1, .object C)) {n0 : Nat} (hn0 : n0 < 100) (hcl : Cond.classLink own index C ∈ wa_g) (hover : va_AO C s) (hr : cells + 1 ≤ R.cells ∧ slots + n0 ≤ R.slots) (hdg : decode cc pc = .ok (.anewarray index, 3))
    (kk : ∀ (g' : Nat → Nat) (H1 : Heap), (∀ j, j < N → g' j = g j) → pw_H D cl_s A H0 g' (N + 1) (en_o k g' P ((N, .a cb n0 []) :: O) σ) H1 locs → W p l e R s m args below meth c H1 locs (cells + 1) (slots + n0) Q (F0 m (pc + 3) ls (.ref (g' N) :: rest))) : W p l e R s m args below meth c H locs cells slots Q (F0 m pc ls (.int (nI n0) :: rest)) := by
  have hz : ¬ (nI n0 < 0) := fun h => by
    have h1 := Int32.lt_iff_toInt_lt.mp h
    rw [nn_T (by omega)] at h1
    have h2 : (0 : Int32).toInt = 0 := by decide
    omega
  refine pw_newr S hW t0 ht hcl hover hz (nI_clamp (by omega)) (by omega) hr hdg (fun q H1 hW1 => ?_)
  have hg : ∀ j, j < N → va_up g N q j = g j := fun j hj => va_up_ne _ _ (by omega)
  have h := kk (va_up g N q) H1 hg (oz_grow hW1 hN hoc hg h4 (fun i hi => od_l_ne (by omega)) (fun hv => by
    rw [en_o_s od_l_self]
    exact hv))
  rw [va_up_self] at h
  exact h
theorem oz_putF (S : pw_S p m c cc nL s args wa_g own D cl_s (ty_s k)) (hW : pw_H D cl_s A H0 g N (en_o k g P O σ) H locs) {C ref : String} {T : u_T} {NF ci index : Nat} {fs : List od_T} {ty : FieldType} (ty0 : Nat → FieldType) (hty : ∀ k, k < NF → parseFieldDescriptor (T k).2.2.1 = some (ty0 k)) (hnm : ∀ a, a < NF → ∀ b, b < NF → a ≠ b → (T a).2.1 ≠ (T b).2.1) (i : Nat) (hi : i < N) (ho : od_l O i = some (.o ci fs)) (kf : Nat) (hk : kf < NF) (hc : cl_s[ci]? = some (C, T, NF)) (hin : ∀ w ∈ u_ws C T NF, w ∈ wa_g) (hlink : Cond.fieldLink own index ref (T kf).2.1 (T kf).2.2.1 ∈ wa_g) (href : (T kf).1 = ref) (hfin : (T kf).2.2.2 = true) (hin2 : meth.name = "<init>") (hdecl : (T kf).1 = own) (hd : parseFieldDescriptor (T kf).2.2.1 = some ty) (w : od_T) (hn : narrow ty (od_v g P w) = od_v g P w) (hfit : fits ty (od_v g P w) = true) (hl : kf < fs.length) (hdg : decode cc pc = .ok (.putfield index, 3))
    (kk : ∀ (H1 : Heap) (locs1 : List Loc), pw_H D cl_s A H0 g N (en_o k g P (od_s i (.o ci (fs.set kf w)) O) σ) H1 locs1 → W p l e R s m args below meth c H1 locs1 cells slots Q (F0 m (pc + 3) ls rest)) : W p l e R s m args below meth c H locs cells slots Q (F0 m pc ls (od_v g P w :: .ref (g i) :: rest)) :=
  pw_putF S hW ty0 hty hnm i hi (en_o_s ho) kf hk hc hin hlink href hfin hin2 hdecl hd hn hfit (by rw [List.length_map]; exact hl) hdg (fun H1 locs1 hW1 => kk H1 locs1 (by
    rw [← en_o_us ho]
    show pw_H D cl_s A H0 g N (va_up (en_o k g P O σ) i (.inr (ci, (fs.set kf w).map (od_v g P)))) H1 locs1
    rw [List.map_set]
    exact hW1))
theorem oz_get (S : pw_S p m c cc nL s args wa_g own D cl_s (ty_s k)) (hW : pw_H D cl_s A H0 g N (en_o k g P O σ) H locs) {C ref : String} {T : u_T} {NF ci index : Nat} {fs : List od_T} (i : Nat) (hi : i < N) (ho : od_l O i = some (.o ci fs)) (kf : Nat) (hk : kf < NF) (hc : cl_s[ci]? = some (C, T, NF)) (hin : ∀ w ∈ u_ws C T NF, w ∈ wa_g) (hlink : Cond.fieldLink own index ref (T kf).2.1 (T kf).2.2.1 ∈ wa_g) (href : (T kf).1 = ref) (w : od_T) (hv : fs[kf]? = some w) (hdg : decode cc pc = .ok (.getfield index, 3))
    (kk : W p l e R s m args below meth c H locs cells slots Q (F0 m (pc + 3) ls (od_v g P w :: rest))) : W p l e R s m args below meth c H locs cells slots Q (F0 m pc ls (.ref (g i) :: rest)) :=
  pw_get S hW i hi (en_o_s ho) kf hk hc hin hlink href (v := od_v g P w) (by rw [List.getElem?_map, hv]; rfl) hdg kk
theorem oz_getR (S : pw_S p m c cc nL s args wa_g own D cl_s (ty_s k)) (hW : pw_H D cl_s A H0 g N (en_o k g P O σ) H locs) {C ref : String} {T : u_T} {NF ci index : Nat} {fs : List od_T} (i : Nat) (hi : i < N) (ho : od_l O i = some (.o ci fs)) (kf : Nat) (hk : kf < NF) (hc : cl_s[ci]? = some (C, T, NF)) (hin : ∀ w ∈ u_ws C T NF, w ∈ wa_g) (hlink : Cond.fieldLink own index ref (T kf).2.1 (T kf).2.2.1 ∈ wa_g) (href : (T kf).1 = ref) (j : Nat) (hv : fs[kf]? = some (.r j)) (hdg : decode cc pc = .ok (.getfield index, 3))
    (kk : W p l e R s m args below meth c H locs cells slots Q (F0 m (pc + 3) ls (.ref (g j) :: rest))) : W p l e R s m args below meth c H locs cells slots Q (F0 m pc ls (.ref (g i) :: rest)) :=
  oz_get S hW i hi ho kf hk hc hin hlink href (.r j) hv hdg kk
theorem oz_ast (S : pw_S p m c cc nL s args wa_g own D cl_s (ty_s k)) (hW : pw_H D cl_s A H0 g N (en_o k g P O σ) H locs) (t0 : Nat) {cb : Bool} {r : vw_C} {n t ci : Nat} {vs : List Value} {f : List Nat} (ht : (ty_s k)[t0]? = some (bif cb then k.2.2 else k.2.1, .object r.1)) (i : Nat) (hi : i < N) (ho : od_l O i = some (.a cb n f)) (j : Nat) (hj : j < N) (hv : en_o k g P O σ j = .inr (ci, vs)) (hc : cl_s[ci]? = some r) (hf : f.length = t) (htn : t < n) (hn : n < 100) (hdg : decode cc pc = .ok (.aastore, 1))
    (kk : ∀ (H1 : Heap) (locs1 : List Loc), pw_H D cl_s A H0 g N (en_o k g P (od_s i (.a cb n (f ++ [j])) O) σ) H1 locs1 → W p l e R s m args below meth c H1 locs1 cells slots Q (F0 m (pc + 1) ls rest)) : W p l e R s m args below meth c H locs cells slots Q (F0 m pc ls (.ref (g j) :: .int (nI t) :: .ref (g i) :: rest)) :=
  pw_aast S hW t0 ht i hi (en_o_s ho) j hj hv hc (vp_in_nI htn (by omega)) hdg (fun H1 locs1 hW1 => kk H1 locs1 (by
    rw [← en_o_us ho]
    show pw_H D cl_s A H0 g N (va_up (en_o k g P O σ) i (.inl (bif cb then k.2.2 else k.2.1, n, .inr (.inr (.inr (.inr (fun t => ((f ++ [j])[t]?).map g))))))) H1 locs1
    rw [← va_up_app, hf]
    rw [nI_clamp (by omega)] at hW1
    exact hW1))
theorem oz_close (hW : pw_H D cl_s A H0 g N (en_o k g P O σ) H locs) (i : Nat) {x : od_E} (ho : od_l O i = some x) (hv : ∀ H, va_at D cl_s (g i, od_c k g P x) H → va_at D cl_s (g i, en_s k g σ i) H) : pw_H D cl_s A H0 g N (en_o k g P (od_d i O) σ) H locs :=
  pw_eqv hW (fun j hj h => by
    by_cases hji : j = i
    · subst hji
      rw [en_o_s ho] at h
      rw [en_o_n (od_d_self O)]
      exact hv H h
    · have e : en_o k g P (od_d i O) σ j = en_o k g P O σ j := by unfold en_o; rw [od_d_ne hji]
      rw [e]
      exact h)
/-- a new array of ints that is as the state says -/
theorem oz_newi (S : pw_S p m c cc nL s args wa_g own D cl_s (ty_s k)) (hW : pw_H D cl_s A H0 g N (en_o k g P O σ) H locs) (hN : N < 153) (hoc : oc_b O N = true) (hON : od_l O N = none) (h4 : ∀ t, t < 15 → σ 204 t < 117) {n0 : Nat} (hn0 : n0 < 10000) (hv : ∀ g', en_s k g' σ N = .inl (k.1, n0, .inl (fun _ => 0))) (harr : Cond.arrayClass .int ∈ wa_g) (hr : cells + 1 ≤ R.cells ∧ slots + n0 ≤ R.slots) (hdg : decode cc pc = .ok (.newarray .int, 2))
    (kk : ∀ (g' : Nat → Nat) (H1 : Heap), (∀ j, j < N → g' j = g j) → pw_H D cl_s A H0 g' (N + 1) (en_o k g' P O σ) H1 locs → W p l e R s m args below meth c H1 locs (cells + 1) (slots + n0) Q (F0 m (pc + 2) ls (.ref (g' N) :: rest))) : W p l e R s m args below meth c H locs cells slots Q (F0 m pc ls (.int (nI n0) :: rest)) := by
  have hz : ¬ (nI n0 < 0) := fun h => by
    have h1 := Int32.lt_iff_toInt_lt.mp h
    rw [nn_T (by omega)] at h1
    have h2 : (0 : Int32).toInt = 0 := by decide
    omega
  refine pw_newi S hW 0 rfl harr hz (nI_clamp (by omega)) (by omega) hr hdg (fun q H1 hW1 => ?_)
  have hg : ∀ j, j < N → va_up g N q j = g j := fun j hj => va_up_ne _ _ (by omega)
  have h := kk (va_up g N q) H1 hg (oz_grow hW1 hN hoc hg h4 (fun i hi => rfl) (fun h => by
    rw [en_o_n hON, hv]
    exact h))
  rw [va_up_self] at h
  exact h
/-! a polynomial that is not open -/
theorem eo_dg {j v : Nat} (h : kd_k j = 0) (hN : N ≤ 153) (hj : od_l O j = none) : ∀ i, i < N → va_up (en_o k g P O σ) j (.inr (4, [.ref (g (j + 1)), .int (sd_i v)])) i = en_o k g P O (st_up σ 200 j v) i := by
  intro i hi
  have h1 := en_up_dg (k := k) (g := g) (σ := σ) (v := v) h i (by omega)
  by_cases hij : i = j
  · subst hij
    rw [va_up_self] at h1 ⊢
    rw [en_o_n hj]
    exact h1
  · rw [va_up_ne _ _ hij] at h1 ⊢
    unfold en_o
    rw [h1]
theorem eo_cf {j t v : Nat} (h : kd_k j = 0) (hN : N ≤ 153) (hj : od_l O (j + 1) = none) : ∀ i, i < N → va_up (en_o k g P O σ) (j + 1) (.inl (k.1, 31, .inl (upd (fun t => nI (σ j t)) t (nI v)))) i = en_o k g P O (st_up σ j t v) i := by
  intro i hi
  have h1 := en_up_cf (k := k) (g := g) (σ := σ) (t := t) (v := v) h i (by omega)
  by_cases hij : i = j + 1
  · subst hij
    rw [va_up_self] at h1 ⊢
    rw [en_o_n hj]
    exact h1
  · rw [va_up_ne _ _ hij] at h1 ⊢
    unfold en_o
    rw [h1]
/-- polynomial j stands in the pool, and is not open -/
def qo_in (O : List (Nat × od_E)) (N j : Nat) : Prop := kd_k j = 0 ∧ j + 1 < N ∧ N ≤ 153 ∧ od_l O j = none ∧ od_l O (j + 1) = none
theorem qo_ald (S : pw_S p m c cc nL s args wa_g own D cl_s (ty_s k)) (hW : pw_H D cl_s A H0 g N (en_o k g P O σ) H locs) {j n : Nat} (h : qo_in O N j) (hn : n < 31) (hdg : decode cc pc = .ok (.iaload, 1)) (kk : W p l e R s m args below meth c H locs cells slots Q (F0 m (pc + 1) ls (.int (nI (σ j n)) :: rest))) : W p l e R s m args below meth c H locs cells slots Q (F0 m pc ls (.int (nI n) :: .ref (g (j + 1)) :: rest)) :=
  pw_iald S hW 0 rfl (j + 1) h.2.1 (by rw [en_o_n h.2.2.2.2]; exact en_ar h.1) (vp_in_nI hn (by decide)) (by rw [nI_clamp (by omega)]) hdg kk
theorem qo_ast (S : pw_S p m c cc nL s args wa_g own D cl_s (ty_s k)) (hW : pw_H D cl_s A H0 g N (en_o k g P O σ) H locs) {j n v : Nat} (h : qo_in O N j) (hn : n < 31) (hdg : decode cc pc = .ok (.iastore, 1)) (kk : ∀ (H1 : Heap) (locs1 : List Loc), pw_H D cl_s A H0 g N (en_o k g P O (st_up σ j n v)) H1 locs1 → W p l e R s m args below meth c H1 locs1 cells slots Q (F0 m (pc + 1) ls rest)) : W p l e R s m args below meth c H locs cells slots Q (F0 m pc ls (.int (nI v) :: .int (nI n) :: .ref (g (j + 1)) :: rest)) :=
  pw_iast S hW 0 rfl (j + 1) h.2.1 (by rw [en_o_n h.2.2.2.2]; exact en_ar h.1) (vp_in_nI hn (by decide)) hdg (fun H1 locs1 hW1 => kk H1 locs1 (by
    rw [nI_clamp (by omega)] at hW1
    exact pw_eq hW1 (eo_cf h.1 h.2.2.1 h.2.2.2.2)))
theorem qo_getc (S : pw_S p m c cc nL s args wa_g own D cl_s (ty_s k)) (hW : pw_H D cl_s A H0 g N (en_o k g P O σ) H locs) {j : Nat} (h : qo_in O N j) {index : Nat} (hlink : Cond.fieldLink own index "PrimePolynomials$Polynomial" "c" "[I" ∈ wa_g) (hdg : decode cc pc = .ok (.getfield index, 3)) (kk : W p l e R s m args below meth c H locs cells slots Q (F0 m (pc + 3) ls (.ref (g (j + 1)) :: rest))) : W p l e R s m args below meth c H locs cells slots Q (F0 m pc ls (.ref (g (j)) :: rest)) :=
  pw_get S hW j (by have := h.2.1; omega) (by rw [en_o_n h.2.2.2.1]; exact en_k0 h.1) 0 (by decide) rfl wu_Poly hlink rfl rfl hdg kk
theorem qo_putd (S : pw_S p m c cc nL s args wa_g own D cl_s (ty_s k)) (hW : pw_H D cl_s A H0 g N (en_o k g P O σ) H locs) {j v : Nat} (h : qo_in O N j) {index : Nat} (hlink : Cond.fieldLink own index "PrimePolynomials$Polynomial" "degree" "I" ∈ wa_g) (hdg : decode cc pc = .ok (.putfield index, 3)) (kk : ∀ (H1 : Heap) (locs1 : List Loc), pw_H D cl_s A H0 g N (en_o k g P O (st_up σ 200 j v)) H1 locs1 → W p l e R s m args below meth c H1 locs1 cells slots Q (F0 m (pc + 3) ls rest)) : W p l e R s m args below meth c H locs cells slots Q (F0 m pc ls (.int (sd_i v) :: .ref (g j) :: rest)) :=
  pw_put S hW ty_Poly to_Poly nm_Poly j (by have := h.2.1; omega) (by rw [en_o_n h.2.2.2.1]; exact en_k0 h.1) 1 (by decide) rfl wu_Poly hlink rfl rfl (ty := .int) (by decide +kernel) rfl rfl (Nat.le_of_ble_eq_true rfl) hdg (fun H1 locs1 hW1 => kk H1 locs1 (pw_eq hW1 (eo_dg h.1 h.2.2.1 h.2.2.2.1)))
end OZ
abbrev mo_V (l : Launch) (D : va_G) (k : ClassId × ClassId × ClassId) (g : Nat → Nat) (N P : Nat) (O : List (Nat × od_E)) (y : MethodName) (ws : List Cond) (rm : Room) (As : List Value) (σ : st_T) (post : st_T → Prop) : Prop := ct_V l y ws rm As D cl_s (ty_s k) g N (en_o k g P O) σ post
