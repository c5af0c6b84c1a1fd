/-! One pool: N cells by their numbers 0 .. N - 1, cell i at the address g i with the content E i. All contracts speak of it -/
def pw_w (g : Nat → Nat) (N : Nat) (E : Nat → va_E) : va_W := (List.range N).map (fun i => (g i, E i))
theorem pw_len {g : Nat → Nat} {N : Nat} {E : Nat → va_E} : (pw_w g N E).length = N := by unfold pw_w; rw [List.length_map, List.length_range]
theorem pw_at {g : Nat → Nat} {N : Nat} {E : Nat → va_E} {i : Nat} (h : i < N) : (pw_w g N E)[i]? = some (g i, E i) := by
  unfold pw_w
  rw [List.getElem?_map, List.getElem?_range h]
  rfl
theorem pw_ix {g : Nat → Nat} {N : Nat} {E : Nat → va_E} {i : Nat} {q : Nat × va_E} (h : (pw_w g N E)[i]? = some q) : i < N ∧ q = (g i, E i) := by
  have h1 : i < N := by
    have h2 := (List.getElem?_eq_some_iff.mp h).1
    rwa [pw_len] at h2
  rw [pw_at h1] at h
  exact ⟨h1, (Option.some.inj h).symm⟩
theorem pw_set {g : Nat → Nat} {N : Nat} {E : Nat → va_E} {i : Nat} (h : i < N) (v : va_E) : (pw_w g N E).set i (g i, v) = pw_w g N (va_up E i v) := by
  apply List.ext_getElem?
  intro j
  by_cases hN : j < N
  · rw [pw_at hN]
    by_cases hj : j = i
    · subst hj
      rw [List.getElem?_set_self (by rw [pw_len]; exact h), va_up_self]
    · rw [List.getElem?_set_ne (Ne.symm hj), pw_at hN, va_up_ne _ _ hj]
  · rw [List.getElem?_eq_none (by rw [List.length_set, pw_len]; omega), List.getElem?_eq_none (by rw [pw_len]; omega)]
theorem pw_cg {g : Nat → Nat} {N : Nat} {E F : Nat → va_E} (h : ∀ i, i < N → E i = F i) : pw_w g N E = pw_w g N F := by
  unfold pw_w
  refine List.map_congr_left (fun i hi => ?_)
  rw [h i (List.mem_range.mp hi)]
theorem pw_push {g : Nat → Nat} {N : Nat} {E : Nat → va_E} (q : Nat) (v : va_E) : pw_w g N E ++ [(q, v)] = pw_w (va_up g N q) (N + 1) (va_up E N v) := by
  unfold pw_w
  rw [List.range_succ, List.map_append, List.map_cons, List.map_nil, va_up_self, va_up_self]
  congr 1
  refine List.map_congr_left (fun i hi => ?_)
  have h1 := List.mem_range.mp hi
  rw [va_up_ne _ _ (by omega), va_up_ne _ _ (by omega)]
/-- the addresses that a method may change -/
def pw_A (g : Nat → Nat) (N sz : Nat) : Nat → Prop := fun q => (∃ i, i < N ∧ g i = q) ∨ sz ≤ q
/-- the pool at a place of a walk -/
def pw_H (D : va_G) (cl : List vw_C) (A : Nat → Prop) (H0 : Heap) (g : Nat → Nat) (N : Nat) (E : Nat → va_E) (H : Heap) (locs : List Loc) : Prop := va_P D cl (pw_w g N E) H ∧ va_D A (pw_w g N E) ∧ va_S A H0 H locs ∧ ∀ q, H0.size ≤ q → A q
theorem pw_D_any {A : Nat → Prop} {g : Nat → Nat} {N : Nat} {E F : Nat → va_E} (h : va_D A (pw_w g N E)) : va_D A (pw_w g N F) := by
  refine ⟨fun i j x y hi hj hxy => ?_, fun k q hk => ?_⟩
  · obtain ⟨h1, rfl⟩ := pw_ix hi
    obtain ⟨h2, rfl⟩ := pw_ix hj
    exact h.1 i j (g i, E i) (g j, E j) (pw_at h1) (pw_at h2) hxy
  · obtain ⟨h1, rfl⟩ := pw_ix hk
    exact h.2 k (g k, E k) (pw_at h1)
theorem pw_D_A {A : Nat → Prop} {g : Nat → Nat} {N sz : Nat} {E : Nat → va_E} (h : va_D A (pw_w g N E)) : va_D (pw_A g N sz) (pw_w g N E) := by
  refine ⟨h.1, fun k q hk => ?_⟩
  obtain ⟨h1, rfl⟩ := pw_ix hk
  exact Or.inl ⟨k, h1, rfl⟩
theorem pw_eq {D : va_G} {cl : List vw_C} {A : Nat → Prop} {H0 : Heap} {g : Nat → Nat} {N : Nat} {E F : Nat → va_E} {H : Heap} {locs : List Loc} (h : pw_H D cl A H0 g N E H locs) (e : ∀ i, i < N → E i = F i) : pw_H D cl A H0 g N F H locs := by
  unfold pw_H at h ⊢
  rwa [pw_cg e] at h
theorem pw_sub {D : va_G} {cl : List vw_C} {A : Nat → Prop} {H0 : Heap} {g : Nat → Nat} {N : Nat} {E : Nat → va_E} {H : Heap} {locs : List Loc} (h : pw_H D cl A H0 g N E H locs) : ∀ q, pw_A g N H.size q → A q := by
  intro q hq
  rcases hq with ⟨i, hi, rfl⟩ | hq
  · exact h.2.1.2 i _ (pw_at hi)
  · exact h.2.2.2 q (Nat.le_trans h.2.2.1.1 hq)
/-- a method's start, the world behind it, its contracts: void and int (boolean) -/
def ct_pre (D : va_G) (cl : List vw_C) (tys : List (ClassId × FieldType)) (g : Nat → Nat) (N : Nat) (E : Nat → va_E) (sz : Nat) (U : State) : Prop := U.heap.size = sz ∧ va_P D cl (pw_w g N E) U.heap ∧ va_K D cl tys U ∧ va_D (fun _ => True) (pw_w g N E)
def ct_B {S : Type} (D : va_G) (cl : List vw_C) (tys : List (ClassId × FieldType)) (g : Nat → Nat) (N : Nat) (en : S → Nat → va_E) (A : Nat → Prop) (u : S) (t : State) : Prop := va_P D cl (pw_w g N (en u)) t.heap ∧ va_K D cl tys t ∧ va_D A (pw_w g N (en u))
def ct_V {S : Type} (l : Launch) (y : MethodName) (ws : List Cond) (rm : Room) (As : List Value) (D : va_G) (cl : List vw_C) (tys : List (ClassId × FieldType)) (g : Nat → Nat) (N : Nat) (en : S → Nat → va_E) (u : S) (post : S → Prop) : Prop :=
  ∀ sz : Nat, Met l y ws rm (va_Pc As (ct_pre D cl tys g N (en u) sz)) (va_Qv post (ct_B D cl tys g N en (pw_A g N sz)) (pw_A g N sz)) 0 0 (pw_A g N sz)
def ct_I {S : Type} (l : Launch) (y : MethodName) (ws : List Cond) (rm : Room) (As : List Value) (D : va_G) (cl : List vw_C) (tys : List (ClassId × FieldType)) (g : Nat → Nat) (N : Nat) (en : S → Nat → va_E) (u : S) (post : Int32 → S → Prop) : Prop :=
  ∀ sz : Nat, Met l y ws rm (va_Pc As (ct_pre D cl tys g N (en u) sz)) (va_Qi post (ct_B D cl tys g N en (pw_A g N sz)) (pw_A g N sz)) 0 0 (pw_A g N sz)
theorem ct_blind {D : va_G} {cl : List vw_C} {tys : List (ClassId × FieldType)} {g : Nat → Nat} {N : Nat} {E : Nat → va_E} {sz : Nat} {As : List Value} : FrameBlind (va_Pc As (ct_pre D cl tys g N E sz)) := fun a U g' mk q => by
  obtain ⟨q0, q1, qP, qK, qD⟩ := q
  exact ⟨q0, q1, qP, va_K.moved (u := U) (U := U.calling g' mk a) (Vm.Alike.refl U.vm) qK, qD⟩
section PWA
variable {p : Program} {l : Launch} {e : Env} {R : Room} {s : State} {m : MethodId} {args : Array Value} {below : List Frame} {meth : Method} {c : Code} {H : Heap} {locs : List Loc} {cells slots : Nat} {Q : State → Prop}
variable {cc : ByteArray} {pc : Nat} {ls : Array Slot} {rest : List Value} {D : va_G} {cl : List vw_C} {A : Nat → Prop} {tys : List (ClassId × FieldType)} {H0 : Heap} {g : Nat → Nat} {N nL : Nat} {E : Nat → va_E} {Ts : List Cond} {own : String}
/-- what a walk stands on: the machine, the code, the words, the tables -/
def pw_S (p : Program) (m : MethodId) (c : Code) (cc : ByteArray) (nL : Nat) (s : State) (args : Array Value) (Ts : List Cond) (own : String) (D : va_G) (cl : List vw_C) (tys : List (ClassId × FieldType)) : Prop := CallFix p m c cc nL s args Ts own ∧ va_K D cl tys s
theorem pw_get (S : pw_S p m c cc nL s args Ts own D cl tys) (hW : pw_H D cl A H0 g N E H locs) {C ref : String} {T : u_T} {NF ci index : Nat} {fs : List Value} {v : Value} (i : Nat) (hi : i < N) (he : E i = .inr (ci, fs)) (k : Nat) (hk : k < NF) (hc : cl[ci]? = some (C, T, NF)) (hin : ∀ w ∈ u_ws C T NF, w ∈ Ts) (hlink : Cond.fieldLink own index ref (T k).2.1 (T k).2.2.1 ∈ Ts) (href : (T k).1 = ref) (hv : fs[k]? = some v) (hdg : decode cc pc = .ok (.getfield index, 3))
    (kk : W p l e R s m args below meth c H locs cells slots Q (F0 m (pc + 3) ls (v :: rest))) : W p l e R s m args below meth c H locs cells slots Q (F0 m pc ls (.ref (g i) :: rest)) :=
  va_get S.1.1 S.1.2.1 S.1.2.2.2.2 hin S.1.2.2.2.1 S.2 hW.1 i (by rw [pw_at hi, he]) hc k hk (S.1.2.2.2.2 _ hlink) (fun x h => by rw [← href]; exact h) hv hdg kk
theorem pw_getN (S : pw_S p m c cc nL s args Ts own D cl tys) (hW : pw_H D cl A H0 g N E H locs) {C ref host : String} {T : u_T} {NF ci index : Nat} {fs : List Value} {v : Value} (i : Nat) (hi : i < N) (he : E i = .inr (ci, fs)) (k : Nat) (hk : k < NF) (hc : cl[ci]? = some (C, T, NF)) (hin : ∀ w ∈ u_ws C T NF, w ∈ Ts) (hlink : Cond.fieldLinkNest own index ref (T k).2.1 (T k).2.2.1 host ∈ Ts) (href : (T k).1 = ref) (hv : fs[k]? = some v) (hdg : decode cc pc = .ok (.getfield index, 3))
    (kk : W p l e R s m args below meth c H locs cells slots Q (F0 m (pc + 3) ls (v :: rest))) : W p l e R s m args below meth c H locs cells slots Q (F0 m pc ls (.ref (g i) :: rest)) :=
  va_getN S.1.1 S.1.2.1 S.1.2.2.2.2 hin S.1.2.2.2.1 S.2 hW.1 i (by rw [pw_at hi, he]) hc k hk (S.1.2.2.2.2 _ hlink) (fun x h => by rw [← href]; exact h) hv hdg kk
theorem pw_put (S : pw_S p m c cc nL s args Ts own D cl tys) (hW : pw_H D cl A H0 g N E H locs) {C ref : String} {T : u_T} {NF ci index : Nat} {fs : List Value} {v : Value} {ty : FieldType} (ty0 : Nat → FieldType) (hty : ∀ k, k < NF → parseFieldDescriptor (T k).2.2.1 = some (ty0 k)) (hnm : ∀ a, a < NF → ∀ b, b < NF → a ≠ b → (T a).2.1 ≠ (T b).2.1) (i : Nat) (hi : i < N) (he : E i = .inr (ci, fs)) (k : Nat) (hk : k < NF) (hc : cl[ci]? = some (C, T, NF)) (hin : ∀ w ∈ u_ws C T NF, w ∈ Ts) (hlink : Cond.fieldLink own index ref (T k).2.1 (T k).2.2.1 ∈ Ts) (href : (T k).1 = ref) (hfin : (T k).2.2.2 = false) (hd : parseFieldDescriptor (T k).2.2.1 = some ty) (hn : narrow ty v = v) (hfit : fits ty v = true) (hl : k < fs.length) (hdg : decode cc pc = .ok (.putfield index, 3))
    (kk : ∀ (H1 : Heap) (locs1 : List Loc), pw_H D cl A H0 g N (va_up E i (.inr (ci, fs.set k v))) H1 locs1 → W p l e R s m args below meth c H1 locs1 cells slots Q (F0 m (pc + 3) ls rest)) : W p l e R s m args below meth c H locs cells slots Q (F0 m pc ls (v :: .ref (g i) :: rest)) :=
  va_put S.1.1 S.1.2.1 S.1.2.2.2.2 hin ty0 hty hnm S.1.2.2.2.1 S.2 hW.1 hW.2.1 hW.2.2.1 i (by rw [pw_at hi, he]) hc k hk (S.1.2.2.2.2 _ hlink) (fun x h => by rw [← href]; exact h) hfin hd hn hfit hl hdg (fun H1 locs1 hP hD hS => kk H1 locs1 ⟨by rw [← pw_set hi]; exact hP, by rw [← pw_set hi]; exact hD, hS, hW.2.2.2⟩)
theorem pw_putN (S : pw_S p m c cc nL s args Ts own D cl tys) (hW : pw_H D cl A H0 g N E H locs) {C ref host : String} {T : u_T} {NF ci index : Nat} {fs : List Value} {v : Value} {ty : FieldType} (ty0 : Nat → FieldType) (hty : ∀ k, k < NF → parseFieldDescriptor (T k).2.2.1 = some (ty0 k)) (hnm : ∀ a, a < NF → ∀ b, b < NF → a ≠ b → (T a).2.1 ≠ (T b).2.1) (i : Nat) (hi : i < N) (he : E i = .inr (ci, fs)) (k : Nat) (hk : k < NF) (hc : cl[ci]? = some (C, T, NF)) (hin : ∀ w ∈ u_ws C T NF, w ∈ Ts) (hlink : Cond.fieldLinkNest own index ref (T k).2.1 (T k).2.2.1 host ∈ Ts) (href : (T k).1 = ref) (hfin : (T k).2.2.2 = false) (hd : parseFieldDescriptor (T k).2.2.1 = some ty) (hn : narrow ty v = v) (hfit : fits ty v = true) (hl : k < fs.length) (hdg : decode cc pc = .ok (.putfield index, 3))
    (kk : ∀ (H1 : Heap) (locs1 : List Loc), pw_H D cl A H0 g N (va_up E i (.inr (ci, fs.set k v))) H1 locs1 → W p l e R s m args below meth c H1 locs1 cells slots Q (F0 m (pc + 3) ls rest)) : W p l e R s m args below meth c H locs cells slots Q (F0 m pc ls (v :: .ref (g i) :: rest)) :=
  va_putN S.1.1 S.1.2.1 S.1.2.2.2.2 hin ty0 hty hnm S.1.2.2.2.1 S.2 hW.1 hW.2.1 hW.2.2.1 i (by rw [pw_at hi, he]) hc k hk (S.1.2.2.2.2 _ hlink) (fun x h => by rw [← href]; exact h) hfin hd hn hfit hl hdg (fun H1 locs1 hP hD hS => kk H1 locs1 ⟨by rw [← pw_set hi]; exact hP, by rw [← pw_set hi]; exact hD, hS, hW.2.2.2⟩)
theorem pw_putF (S : pw_S p m c cc nL s args Ts own D cl tys) (hW : pw_H D cl A H0 g N E H locs) {C ref : String} {T : u_T} {NF ci index : Nat} {fs : List Value} {v : Value} {ty : FieldType} (ty0 : Nat → FieldType) (hty : ∀ k, k < NF → parseFieldDescriptor (T k).2.2.1 = some (ty0 k)) (hnm : ∀ a, a < NF → ∀ b, b < NF → a ≠ b → (T a).2.1 ≠ (T b).2.1) (i : Nat) (hi : i < N) (he : E i = .inr (ci, fs)) (k : Nat) (hk : k < NF) (hc : cl[ci]? = some (C, T, NF)) (hin : ∀ w ∈ u_ws C T NF, w ∈ Ts) (hlink : Cond.fieldLink own index ref (T k).2.1 (T k).2.2.1 ∈ Ts) (href : (T k).1 = ref) (hfin : (T k).2.2.2 = true) (hin2 : meth.name = "<init>") (hdecl : (T k).1 = own) (hd : parseFieldDescriptor (T k).2.2.1 = some ty) (hn : narrow ty v = v) (hfit : fits ty v = true) (hl : k < fs.length) (hdg : decode cc pc = .ok (.putfield index, 3))
    (kk : ∀ (H1 : Heap) (locs1 : List Loc), pw_H D cl A H0 g N (va_up E i (.inr (ci, fs.set k v))) H1 locs1 → W p l e R s m args below meth c H1 locs1 cells slots Q (F0 m (pc + 3) ls rest)) : W p l e R s m args below meth c H locs cells slots Q (F0 m pc ls (v :: .ref (g i) :: rest)) :=
  va_putF S.1.1 S.1.2.1 S.1.2.2.2.2 hin ty0 hty hnm S.1.2.2.2.1 S.2 hW.1 hW.2.1 hW.2.2.1 i (by rw [pw_at hi, he]) hc k hk (S.1.2.2.2.2 _ hlink) (fun x h => by rw [← href]; exact h) hfin hin2 hdecl hd hn hfit hl hdg (fun H1 locs1 hP hD hS => kk H1 locs1 ⟨by rw [← pw_set hi]; exact hP, by rw [← pw_set hi]; exact hD, hS, hW.2.2.2⟩)
theorem pw_iald (S : pw_S p m c cc nL s args Ts own D cl tys) (hW : pw_H D cl A H0 g N E H locs) (t0 : Nat) {cA : ClassId} {n : Nat} {f : Nat → Int32} (ht : tys[t0]? = some (cA, .int)) (i : Nat) (hi : i < N) (he : E i = .inl (cA, n, .inl f)) {j : Int32} (hin : vp_in j n) {v : Int32} (hv : f j.toNatClampNeg = v) (hdg : decode cc pc = .ok (.iaload, 1))
    (kk : W p l e R s m args below meth c H locs cells slots Q (F0 m (pc + 1) ls (.int v :: rest))) : W p l e R s m args below meth c H locs cells slots Q (F0 m pc ls (.int j :: .ref (g i) :: rest)) :=
  va_iald S.1.1 S.1.2.1 S.2 hW.1 i t0 (by rw [pw_at hi, he]) ht hin hdg (by rw [hv]; exact kk)
theorem pw_iast (S : pw_S p m c cc nL s args Ts own D cl tys) (hW : pw_H D cl A H0 g N E H locs) (t0 : Nat) {cA : ClassId} {n : Nat} {f : Nat → Int32} (ht : tys[t0]? = some (cA, .int)) (i : Nat) (hi : i < N) (he : E i = .inl (cA, n, .inl f)) {j x : Int32} (hin : vp_in j n) (hdg : decode cc pc = .ok (.iastore, 1))
    (kk : ∀ (H1 : Heap) (locs1 : List Loc), pw_H D cl A H0 g N (va_up E i (.inl (cA, n, .inl (upd f j.toNatClampNeg x)))) H1 locs1 → W p l e R s m args below meth c H1 locs1 cells slots Q (F0 m (pc + 1) ls rest)) : W p l e R s m args below meth c H locs cells slots Q (F0 m pc ls (.int x :: .int j :: .ref (g i) :: rest)) :=
  va_iast S.1.1 S.1.2.1 S.2 hW.1 hW.2.1 hW.2.2.1 i t0 (by rw [pw_at hi, he]) ht hin hdg (fun H1 locs1 hP hD hS => kk H1 locs1 ⟨by rw [← pw_set hi]; exact hP, by rw [← pw_set hi]; exact hD, hS, hW.2.2.2⟩)
theorem pw_alen (S : pw_S p m c cc nL s args Ts own D cl tys) (hW : pw_H D cl A H0 g N E H locs) (t0 : Nat) {cA : ClassId} {x : vp_A} {ty : FieldType} (ht : tys[t0]? = some (cA, ty)) (i : Nat) (hi : i < N) (he : E i = .inl (cA, x)) {v : Int32} (hv : Int32.ofNat x.1 = v) (hdg : decode cc pc = .ok (.arraylength, 1))
    (kk : W p l e R s m args below meth c H locs cells slots Q (F0 m (pc + 1) ls (.int v :: rest))) : W p l e R s m args below meth c H locs cells slots Q (F0 m pc ls (.ref (g i) :: rest)) :=
  va_alen S.1.1 S.1.2.1 S.2 hW.1 i t0 (by rw [pw_at hi, he]) ht hv hdg kk
theorem pw_aald (S : pw_S p m c cc nL s args Ts own D cl tys) (hW : pw_H D cl A H0 g N E H locs) (t0 : Nat) {cA : ClassId} {C : String} {n : Nat} {f : Nat → Option Nat} (ht : tys[t0]? = some (cA, .object C)) (i : Nat) (hi : i < N) (he : E i = .inl (cA, n, .inr (.inr (.inr (.inr f))))) {j : Int32} (hin : vp_in j n) {q : Nat} (hv : f j.toNatClampNeg = some q) (hdg : decode cc pc = .ok (.aaload, 1))
    (kk : W p l e R s m args below meth c H locs cells slots Q (F0 m (pc + 1) ls (.ref q :: rest))) : W p l e R s m args below meth c H locs cells slots Q (F0 m pc ls (.int j :: .ref (g i) :: rest)) :=
  va_aldq S.1.1 S.1.2.1 S.2 hW.1 i t0 (by rw [pw_at hi, he]) ht hin hdg (by rw [hv]; exact kk)
theorem pw_aast (S : pw_S p m c cc nL s args Ts own D cl tys) (hW : pw_H D cl A H0 g N E H locs) (t0 : Nat) {cA : ClassId} {r : vw_C} {n ci : Nat} {vs : List Value} {f : Nat → Option Nat} (ht : tys[t0]? = some (cA, .object r.1)) (i : Nat) (hi : i < N) (he : E i = .inl (cA, n, .inr (.inr (.inr (.inr f))))) (k : Nat) (hk : k < N) (hv : E k = .inr (ci, vs)) (hc : cl[ci]? = some r) {j : Int32} (hin : vp_in j n) (hdg : decode cc pc = .ok (.aastore, 1))
    (kk : ∀ (H1 : Heap) (locs1 : List Loc), pw_H D cl A H0 g N (va_up E i (.inl (cA, n, .inr (.inr (.inr (.inr (va_up f j.toNatClampNeg (some (g k))))))))) H1 locs1 → W p l e R s m args below meth c H1 locs1 cells slots Q (F0 m (pc + 1) ls rest)) : W p l e R s m args below meth c H locs cells slots Q (F0 m pc ls (.ref (g k) :: .int j :: .ref (g i) :: rest)) :=
  va_astq S.1.1 S.1.2.1 S.2 hW.1 hW.2.1 hW.2.2.1 i t0 k ci (by rw [pw_at hi, he]) ht (by rw [pw_at hk, hv]) hc hin hdg (fun H1 locs1 hP hD hS => kk H1 locs1 ⟨by rw [← pw_set hi]; exact hP, by rw [← pw_set hi]; exact hD, hS, hW.2.2.2⟩)
end PWA
section PWC
variable {p : Program} {l : Launch} {e : Env} {R : Room} {s : State} {m : MethodId} {args : Array Value} {below : List Frame} {meth : Method} {c : Code} {H : Heap} {locs : List Loc} {cells slots : Nat} {Q : State → Prop}
variable {cc bytes : ByteArray} {pc : Nat} {ls : Array Slot} {rest : List Value} {D : va_G} {cl : List vw_C} {A : Nat → Prop} {tys : List (ClassId × FieldType)} {H0 : Heap} {g : Nat → Nat} {N nL : Nat} {Ts ws : List Cond} {own : String} {y : MethodName} {rm : Room} {As st : List Value} {index maxL n : Nat} {ret : Option FieldType}
theorem ct_atU {E : Nat → va_E} {U : State} (S : pw_S p m c cc nL s args Ts own D cl tys) (hW : pw_H D cl A H0 g N E H locs) (hU : U.heap = H) (hWm : s.WarmedH U.vm) : va_Pc As (ct_pre D cl tys g N E H.size) As.toArray U :=
  ⟨rfl, by rw [hU], by rw [hU]; exact hW.1, va_K.moved hWm.alike S.2, hW.2.1.weaken (fun _ _ _ _ => trivial)⟩
/-- behind a call: the pool as the contract says -/
theorem pw_back {S : Type} {en : S → Nat → va_E} {E : Nat → va_E} {u : S} {t : State} {H1 : Heap} {locs1 : List Loc} (hW : pw_H D cl A H0 g N E H locs) (ht : t.heap = H1) (hB : ct_B D cl tys g N en (pw_A g N H.size) u t) (hS : va_S A H0 H1 locs1) : pw_H D cl A H0 g N (en u) H1 locs1 :=
  ⟨by rw [← ht]; exact hB.1, hB.2.2.weaken (fun k q _ h => pw_sub hW _ h), hS, hW.2.2.2⟩
theorem pw_callV {S0 : Type} {en : S0 → Nat → va_E} {u : S0} {post : S0 → Prop} (S : pw_S p m c cc nL s args Ts own D cl tys) (hW : pw_H D cl A H0 g N (en u) H locs) {C : String} {T : u_T} {NF ci i : Nat} {fs : List Value} (hM : ct_V l y ws rm (.ref (g i) :: As) D cl tys g N en u post) (cw : CallW R s args own C index y bytes maxL ret ws rm 0 0 n) (hi : i < N) (he : en u i = .inr (ci, fs)) (hc : cl[ci]? = some (C, T, NF)) (hn : As.length = n) (hsize : ls.size = nL) (hst : st = As.reverse ++ .ref (g i) :: rest) (hroom : 2 * (F0 m pc ls st).monitorRoom + (rest.map fun v => v.category).sum ≤ 8) (hf : cells ≤ R.cells ∧ slots ≤ R.slots) (hdg : decode cc pc = .ok (.invokevirtual index, 3))
    (kk : ∀ (u' : S0) (H1 : Heap) (locs1 : List Loc), post u' → pw_H D cl A H0 g N (en u') H1 locs1 → W p l e R s m args below meth c H1 locs1 cells slots Q (F0 m (pc + 3) ls rest)) : W p l e R s m args below meth c H locs cells slots Q (F0 m pc ls st) :=
  va_callv (va_runV (As := As) (rest := rest) S.1 (hM H.size) cw ⟨ct_blind, va_recv S.2 hW.1 hc (by rw [pw_at hi, he]), fun U hU hWm => ct_atU S hW hU hWm⟩ rfl hn hsize hst hroom hdg hf) hW.2.2.1 (fun q _ h => pw_sub hW q h) (fun q h => pw_sub hW q h) (fun u' t H1 locs1 ht _ hp hB _ _ hS => kk u' H1 locs1 hp (pw_back hW ht hB hS))
theorem pw_callVI {S0 : Type} {en : S0 → Nat → va_E} {u : S0} {post : Int32 → S0 → Prop} (S : pw_S p m c cc nL s args Ts own D cl tys) (hW : pw_H D cl A H0 g N (en u) H locs) {C : String} {T : u_T} {NF ci i : Nat} {fs : List Value} (hM : ct_I l y ws rm (.ref (g i) :: As) D cl tys g N en u post) (cw : CallW R s args own C index y bytes maxL ret ws rm 0 0 n) (hi : i < N) (he : en u i = .inr (ci, fs)) (hc : cl[ci]? = some (C, T, NF)) (hn : As.length = n) (hsize : ls.size = nL) (hst : st = As.reverse ++ .ref (g i) :: rest) (hroom : 2 * (F0 m pc ls st).monitorRoom + (rest.map fun v => v.category).sum ≤ 8) (hf : cells ≤ R.cells ∧ slots ≤ R.slots) (hdg : decode cc pc = .ok (.invokevirtual index, 3))
    (kk : ∀ (r : Int32) (u' : S0) (H1 : Heap) (locs1 : List Loc), post r u' → pw_H D cl A H0 g N (en u') H1 locs1 → W p l e R s m args below meth c H1 locs1 cells slots Q (F0 m (pc + 3) ls (.int r :: rest))) : W p l e R s m args below meth c H locs cells slots Q (F0 m pc ls st) :=
  va_calli (va_runV (As := As) (rest := rest) S.1 (hM H.size) cw ⟨ct_blind, va_recv S.2 hW.1 hc (by rw [pw_at hi, he]), fun U hU hWm => ct_atU S hW hU hWm⟩ rfl hn hsize hst hroom hdg hf) hW.2.2.1 (fun q _ h => pw_sub hW q h) (fun q h => pw_sub hW q h) (fun r u' t H1 locs1 ht _ hp hB _ _ hS => kk r u' H1 locs1 hp (pw_back hW ht hB hS))
theorem pw_callSI {S0 : Type} {en : S0 → Nat → va_E} {u : S0} {post : Int32 → S0 → Prop} (S : pw_S p m c cc nL s args Ts own D cl tys) (hW : pw_H D cl A H0 g N (en u) H locs) (hM : ct_I l y ws rm As D cl tys g N en u post) (cw : CallB R s args own index y bytes maxL ret ws rm 0 0 n ∧ (Cond.static y).before args s = true) (hn : As.length = n) (hsize : ls.size = nL) (hst : st = As.reverse ++ rest) (hroom : 2 * (F0 m pc ls st).monitorRoom + (rest.map fun v => v.category).sum ≤ 8) (hf : cells ≤ R.cells ∧ slots ≤ R.slots) (hdg : decode cc pc = .ok (.invokestatic index, 3))
    (kk : ∀ (r : Int32) (u' : S0) (H1 : Heap) (locs1 : List Loc), post r u' → pw_H D cl A H0 g N (en u') H1 locs1 → W p l e R s m args below meth c H1 locs1 cells slots Q (F0 m (pc + 3) ls (.int r :: rest))) : W p l e R s m args below meth c H locs cells slots Q (F0 m pc ls st) :=
  va_calli (va_runS (As := As) (rest := rest) S.1 (hM H.size) cw ⟨ct_blind, fun U hU hWm => ct_atU S hW hU hWm⟩ rfl hn hsize hst hroom hdg hf) hW.2.2.1 (fun q _ h => pw_sub hW q h) (fun q h => pw_sub hW q h) (fun r u' t H1 locs1 ht _ hp hB _ _ hS => kk r u' H1 locs1 hp (pw_back hW ht hB hS))
end PWC
/-- a void method's contract out of the walk of its body -/
theorem ct_V_in {S0 : Type} {l : Launch} {y : MethodName} {ws : List Cond} {rm : Room} {As : List Value} {D : va_G} {cl : List vw_C} {tys : List (ClassId × FieldType)} {g : Nat → Nat} {N : Nat} {en : S0 → Nat → va_E} {u : S0} {post : S0 → Prop} {cc : ByteArray} {maxL : Nat} (hy : plainName y.cls = true) (hw : ws = Cond.code y cc maxL none :: wa_g) (hlen : (lg_sl As).length ≤ maxL)
    (body : ∀ (p : Program) (e : Env) (s : State) (m : MethodId) (args : Array Value) (below : List Frame) (meth : Method) (c : Code) (A : Nat → Prop) (ls : Array Slot) (Q : State → Prop), pw_S p m c cc maxL s args wa_g y.cls D cl tys → lv_has ls maxL (lv_args 0 As) → pw_H D cl A s.heap g N (en u) s.heap [] →
      (∀ (pc : Nat) (ls : Array Slot) (H : Heap) (locs : List Loc) (u' : S0), decode cc pc = .ok (.return_, 1) → post u' → pw_H D cl A s.heap g N (en u') H locs → W p l e rm s m args below meth c H locs 0 0 Q (F0 m pc ls [])) → W p l e rm s m args below meth c s.heap [] 0 0 Q (F0 m 0 ls [])) : ct_V l y ws rm As D cl tys g N en u post := by
  intro sz
  refine Met.ofW (cc := cc) (maxL := maxL) (ret := none) hy hw ?_
  intro p e s m args below meth c s₁ B hml hv
  obtain ⟨rfl, hsz, hP, hK, hD0⟩ := hv
  have hx := B.exec
  have hb := B.bytes
  have hr := B.returns
  have hts := atoms_spec (ws := ws) B.pre
  have hown := findClass_of_methodNamed B.named
  have hlocks := B.notSynchronized
  subst hsz
  have hl := lv_entry As (n := maxL) hlen
  rw [lg_entry_eq]
  refine body p e s m _ below meth c (pw_A g N s.heap.size) _ _ ⟨⟨hx, hb, hml, hown, fun w h => hts w (by rw [hw]; exact List.mem_cons_of_mem _ h)⟩, hK⟩ hl ⟨hP, pw_D_A hD0, va_S.rf, fun q h => Or.inr h⟩ (fun pc ls H locs u' hd hp hW => ?_)
  exact W.vret hx hb hr (fun t ht hWm => ⟨⟨u', rfl, hp, by rw [ht]; exact hW.1, va_K.moved hWm.alike hK, hW.2.1⟩, hW.2.2.1.F ht⟩) hW.2.2.1.2.2 hd
/-- an int method's -/
theorem ct_I_in {S0 : Type} {l : Launch} {y : MethodName} {ws : List Cond} {rm : Room} {As : List Value} {D : va_G} {cl : List vw_C} {tys : List (ClassId × FieldType)} {g : Nat → Nat} {N : Nat} {en : S0 → Nat → va_E} {u : S0} {post : Int32 → S0 → Prop} {cc : ByteArray} {maxL : Nat} (hy : plainName y.cls = true) (hw : ws = Cond.code y cc maxL (some .int) :: wa_g) (hlen : (lg_sl As).length ≤ maxL)
    (body : ∀ (p : Program) (e : Env) (s : State) (m : MethodId) (args : Array Value) (below : List Frame) (meth : Method) (c : Code) (A : Nat → Prop) (ls : Array Slot) (Q : State → Prop), pw_S p m c cc maxL s args wa_g y.cls D cl tys → lv_has ls maxL (lv_args 0 As) → pw_H D cl A s.heap g N (en u) s.heap [] →
      (∀ (pc : Nat) (ls : Array Slot) (H : Heap) (locs : List Loc) (r : Int32) (u' : S0), decode cc pc = .ok (.ireturn, 1) → post r u' → pw_H D cl A s.heap g N (en u') H locs → W p l e rm s m args below meth c H locs 0 0 Q (F0 m pc ls [.int r])) → W p l e rm s m args below meth c s.heap [] 0 0 Q (F0 m 0 ls [])) : ct_I l y ws rm As D cl tys g N en u post := by
  intro sz
  refine Met.ofW (cc := cc) (maxL := maxL) (ret := some .int) hy hw ?_
  intro p e s m args below meth c s₁ B hml hv
  obtain ⟨rfl, hsz, hP, hK, hD0⟩ := hv
  have hx := B.exec
  have hb := B.bytes
  have hr := B.returns
  have hts := atoms_spec (ws := ws) B.pre
  have hown := findClass_of_methodNamed B.named
  have hlocks := B.notSynchronized
  subst hsz
  have hl := lv_entry As (n := maxL) hlen
  rw [lg_entry_eq]
  refine body p e s m _ below meth c (pw_A g N s.heap.size) _ _ ⟨⟨hx, hb, hml, hown, fun w h => hts w (by rw [hw]; exact List.mem_cons_of_mem _ h)⟩, hK⟩ hl ⟨hP, pw_D_A hD0, va_S.rf, fun q h => Or.inr h⟩ (fun pc ls H locs r u' hd hp hW => ?_)
  exact W.iret hx hb hr (fun t ht hWm => ⟨⟨r, u', rfl, hp, by rw [ht]; exact hW.1, va_K.moved hWm.alike hK, hW.2.1⟩, hW.2.2.1.F ht⟩) hW.2.2.1.2.2 hd
/-- a boolean method's -/
theorem ct_Z_in {S0 : Type} {l : Launch} {y : MethodName} {ws : List Cond} {rm : Room} {As : List Value} {D : va_G} {cl : List vw_C} {tys : List (ClassId × FieldType)} {g : Nat → Nat} {N : Nat} {en : S0 → Nat → va_E} {u : S0} {post : Int32 → S0 → Prop} {cc : ByteArray} {maxL : Nat} (hy : plainName y.cls = true) (hw : ws = Cond.code y cc maxL (some .boolean) :: wa_g) (hlen : (lg_sl As).length ≤ maxL)
    (body : ∀ (p : Program) (e : Env) (s : State) (m : MethodId) (args : Array Value) (below : List Frame) (meth : Method) (c : Code) (A : Nat → Prop) (ls : Array Slot) (Q : State → Prop), pw_S p m c cc maxL s args wa_g y.cls D cl tys → lv_has ls maxL (lv_args 0 As) → pw_H D cl A s.heap g N (en u) s.heap [] →
      (∀ (pc : Nat) (ls : Array Slot) (H : Heap) (locs : List Loc) (r : Int32) (u' : S0), decode cc pc = .ok (.ireturn, 1) → narrow .boolean (.int r) = .int r → post r u' → pw_H D cl A s.heap g N (en u') H locs → W p l e rm s m args below meth c H locs 0 0 Q (F0 m pc ls [.int r])) → W p l e rm s m args below meth c s.heap [] 0 0 Q (F0 m 0 ls [])) : ct_I l y ws rm As D cl tys g N en u post := by
  intro sz
  refine Met.ofW (cc := cc) (maxL := maxL) (ret := some .boolean) hy hw ?_
  intro p e s m args below meth c s₁ B hml hv
  obtain ⟨rfl, hsz, hP, hK, hD0⟩ := hv
  have hx := B.exec
  have hb := B.bytes
  have hr := B.returns
  have hts := atoms_spec (ws := ws) B.pre
  have hown := findClass_of_methodNamed B.named
  have hlocks := B.notSynchronized
  subst hsz
  have hl := lv_entry As (n := maxL) hlen
  rw [lg_entry_eq]
  refine body p e s m _ below meth c (pw_A g N s.heap.size) _ _ ⟨⟨hx, hb, hml, hown, fun w h => hts w (by rw [hw]; exact List.mem_cons_of_mem _ h)⟩, hK⟩ hl ⟨hP, pw_D_A hD0, va_S.rf, fun q h => Or.inr h⟩ (fun pc ls H locs r u' hd hn hp hW => ?_)
  exact W.zret hx hb hr hn (fun t ht hWm => ⟨⟨r, u', rfl, hp, by rw [ht]; exact hW.1, va_K.moved hWm.alike hK, hW.2.1⟩, hW.2.2.1.F ht⟩) hW.2.2.1.2.2 hd
