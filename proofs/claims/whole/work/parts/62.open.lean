/-! Constructors: a pool that grows; cells that are still open -/
theorem pw_eqv {D : va_G} {cl : List vw_C} {A : Nat → Prop} {H0 : Heap} {g : Nat → Nat} {N : Nat} {E F : Nat → va_E} {H : Heap} {locs : List Loc} (h : pw_H D cl A H0 g N E H locs) (e : ∀ i, i < N → va_at D cl (g i, E i) H → va_at D cl (g i, F i) H) : pw_H D cl A H0 g N F H locs :=
  ⟨fun k q hk => by
    obtain ⟨h1, rfl⟩ := pw_ix hk
    exact e k h1 (h.1 k (g k, E k) (pw_at h1)), pw_D_any h.2.1, h.2.2.1, h.2.2.2⟩
theorem arrV_cg {cA : ClassId} {n : Nat} {f f' : Nat → Value} (h : ∀ t, t < n → f' t = f t) : arrV cA n f' = arrV cA n f := by
  unfold arrV
  have e : (fun (j : Fin n) => f' j.val) = fun (j : Fin n) => f j.val := funext (fun j => h j.val j.isLt)
  rw [e]
theorem va_arr {D : va_G} {cl : List vw_C} {q n : Nat} {cA : ClassId} {f f' : Nat → Option Nat} {H : Heap} (hf : ∀ t, t < n → f' t = f t) (h : va_at D cl (q, .inl (cA, n, .inr (.inr (.inr (.inr f))))) H) : va_at D cl (q, .inl (cA, n, .inr (.inr (.inr (.inr f'))))) H := by
  have h1 : H[q]? = some (arrV cA n (fun j => va_rf (f j))) := h
  show H[q]? = some (arrV cA n (fun j => va_rf (f' j)))
  rw [h1, arrV_cg (f' := fun j => va_rf (f' j)) (f := fun j => va_rf (f j)) (fun t ht => by rw [hf t ht])]
def od_T : Type := Nat × Nat
def od_E : Type := (Nat × List od_T) ⊕ (Bool × Nat × List Nat)
def od_T.r (j : Nat) : od_T := (0, j)
def od_T.n : od_T := (1, 0)
def od_T.p : od_T := (2, 0)
def od_T.i (x : Nat) : od_T := (3, x)
def od_E.o (ci : Nat) (fs : List od_T) : od_E := Sum.inl (ci, fs)
def od_E.a (c : Bool) (n : Nat) (f : List Nat) : od_E := Sum.inr (c, n, f)
def od_v (g : Nat → Nat) (P : Nat) (w : od_T) : Value := match (show Nat × Nat from w) with
  | (0, j) => .ref (g j)
  | (1, _) => .null
  | (2, _) => .int (nI P)
  | (_, x) => .int (nI x)
def od_c (k : ClassId × ClassId × ClassId) (g : Nat → Nat) (P : Nat) (x : od_E) : va_E := match (show (Nat × List od_T) ⊕ (Bool × Nat × List Nat) from x) with
  | .inl (ci, fs) => .inr (ci, fs.map (od_v g P))
  | .inr (c, n, f) => .inl (bif c then k.2.2 else k.2.1, n, .inr (.inr (.inr (.inr (fun t => (f[t]?).map g)))))
def od_l : List (Nat × od_E) → Nat → Option od_E
  | [], _ => none
  | q :: O, i => if q.1 = i then some q.2 else od_l O i
/-- the pool while constructors run: the cells in O are open, all others as the state says -/
def en_o (k : ClassId × ClassId × ClassId) (g : Nat → Nat) (P : Nat) (O : List (Nat × od_E)) (σ : st_T) (i : Nat) : va_E := match od_l O i with
  | some x => od_c k g P x
  | none => en_s k g σ i
section ENO
variable {k : ClassId × ClassId × ClassId} {g g' : Nat → Nat} {P N i q : Nat} {O O' : List (Nat × od_E)} {σ : st_T} {D : va_G} {cl : List vw_C} {x : od_E} {H : Heap}
theorem en_o_s (h : od_l O i = some x) : en_o k g P O σ i = od_c k g P x := by unfold en_o; rw [h]
theorem en_o_n (h : od_l O i = none) : en_o k g P O σ i = en_s k g σ i := by unfold en_o; rw [h]
theorem od_l_self : od_l ((i, x) :: O) i = some x := by unfold od_l; rw [if_pos rfl]
theorem od_l_ne {j : Nat} (h : j ≠ i) : od_l ((i, x) :: O) j = od_l O j := by rw [od_l, if_neg (fun h1 => h h1.symm)]
theorem en_o_up : va_up (en_o k g P O σ) i (od_c k g P x) = en_o k g P ((i, x) :: O) σ := funext (fun j => by
  by_cases h : j = i
  · subst h
    rw [va_up_self, en_o_s od_l_self]
  · rw [va_up_ne _ _ h]
    unfold en_o
    rw [od_l_ne h])
def od_b (N : Nat) (w : od_T) : Bool := match (show Nat × Nat from w) with
  | (0, j) => decide (j < N)
  | _ => true
def od_k (N : Nat) (x : od_E) : Bool := match (show (Nat × List od_T) ⊕ (Bool × Nat × List Nat) from x) with
  | .inl (_, fs) => fs.all (od_b N)
  | .inr (_, _, f) => f.all (fun j => decide (j < N))
def rf_b (N i : Nat) : Bool :=
  if kd_k i = 0 then decide (i + 1 < N) else if kd_k i = 10 then decide (i + 1 < N) else
  if kd_k i = 2 then decide (132 < N) else if kd_k i = 3 then decide (16 < N) else if kd_k i = 4 then decide (30 < N) else if kd_k i = 5 then decide (70 < N) else if kd_k i = 6 then decide (130 < N) else
  if kd_k i = 7 then decide (147 < N) else if kd_k i = 8 then decide (60 < N) else if kd_k i = 9 then decide (116 < N) else if kd_k i = 11 then decide (152 < N) else true
def oc_f (O : List (Nat × od_E)) (N i : Nat) : Bool := match od_l O i with
  | some x => od_k N x
  | none => rf_b N i
def oc_b (O : List (Nat × od_E)) (N : Nat) : Bool := (List.range N).all (oc_f O N)
theorem oc_at (h : oc_b O N = true) (hi : i < N) : oc_f O N i = true := by
  unfold oc_b at h
  exact List.all_eq_true.mp h i (List.mem_range.mpr hi)
theorem od_gg (hb : od_k N x = true) (hg : ∀ j, j < N → g' j = g j) : od_c k g' P x = od_c k g P x := by
  rcases x with ⟨ci, fs⟩ | ⟨c, n, f⟩
  · have hb : ∀ w ∈ fs, od_b N w = true := List.all_eq_true.mp hb
    show (.inr (ci, fs.map (od_v g' P)) : va_E) = .inr (ci, fs.map (od_v g P))
    rw [List.map_congr_left (fun w hw => ?_)]
    have h1 := hb w hw
    obtain ⟨t, j⟩ := w
    match t with
    | 0 =>
      have h2 : j < N := of_decide_eq_true h1
      show Value.ref (g' j) = .ref (g j)
      rw [hg j h2]
    | 1 => rfl
    | 2 => rfl
    | t + 3 => rfl
  · have hb : ∀ w ∈ f, decide (w < N) = true := List.all_eq_true.mp hb
    have e : (fun t : Nat => (f[t]?).map g') = fun t : Nat => (f[t]?).map g := funext (fun (t : Nat) => by
      cases h1 : f[t]? with
      | none => rfl
      | some j =>
        have h2 : j < N := of_decide_eq_true (hb j (List.mem_of_getElem? h1))
        show some (g' j) = some (g j)
        rw [hg j h2])
    show (.inl (bif c then k.2.2 else k.2.1, n, .inr (.inr (.inr (.inr (fun t => (f[t]?).map g'))))) : va_E) = .inl (bif c then k.2.2 else k.2.1, n, .inr (.inr (.inr (.inr (fun t => (f[t]?).map g)))))
    rw [e]
theorem en_gg (hi : i < 153) (hb : rf_b N i = true) (hg : ∀ j, j < N → g' j = g j) (h4 : ∀ t, t < 15 → σ 204 t < 117) (h : va_at D cl (q, en_s k g σ i) H) : va_at D cl (q, en_s k g' σ i) H := by
  rcases kd_all hi with h1 | h1 | h1 | h1 | h1 | h1 | h1 | h1 | h1 | h1 | h1 | h1 | h1 | h1 | h1
  · have hb : i + 1 < N := by simpa [rf_b, h1] using hb
    rw [en_k0 h1] at h ⊢
    rw [hg _ hb]
    exact h
  · rw [en_k1 h1] at h ⊢
    exact h
  · have hb : i + 1 < N := by simpa [rf_b, h1] using hb
    rw [en_k10 h1] at h ⊢
    rw [hg _ hb]
    exact h
  · have hb : 132 < N := by simpa [rf_b, h1] using hb
    rw [en_k2 h1] at h ⊢
    rw [hg 1 (by omega), hg 18 (by omega), hg 62 (by omega), hg 117 (by omega), hg 132 (by omega)]
    exact h
  · have hb : 16 < N := by simpa [rf_b, h1] using hb
    rw [en_k3 h1] at h ⊢
    rw [hg 2 (by omega), hg 4 (by omega), hg 6 (by omega), hg 8 (by omega), hg 10 (by omega), hg 12 (by omega), hg 14 (by omega), hg 16 (by omega)]
    exact h
  · have hb : 30 < N := by simpa [rf_b, h1] using hb
    rw [en_k4 h1] at h ⊢
    rw [hg 1 (by omega), hg 19 (by omega), hg 21 (by omega), hg 23 (by omega), hg 24 (by omega), hg 26 (by omega), hg 28 (by omega), hg 30 (by omega)]
    exact h
  · have hb : 70 < N := by simpa [rf_b, h1] using hb
    rw [en_k5 h1] at h ⊢
    rw [hg 1 (by omega), hg 18 (by omega), hg 63 (by omega), hg 64 (by omega), hg 66 (by omega), hg 68 (by omega), hg 70 (by omega)]
    exact h
  · have hb : 130 < N := by simpa [rf_b, h1] using hb
    rw [en_k6 h1] at h ⊢
    rw [hg 1 (by omega), hg 18 (by omega), hg 118 (by omega), hg 120 (by omega), hg 122 (by omega), hg 124 (by omega), hg 126 (by omega), hg 128 (by omega), hg 130 (by omega)]
    exact h
  · have hb : 147 < N := by simpa [rf_b, h1] using hb
    rw [en_k7 h1] at h ⊢
    exact va_arr (fun t ht => by rw [hg _ (by omega)]) h
  · have hb : 60 < N := by simpa [rf_b, h1] using hb
    rw [en_k8 h1] at h ⊢
    exact va_arr (fun t ht => by rw [hg _ (by omega)]) h
  · have hb : 116 < N := by simpa [rf_b, h1] using hb
    rw [en_k9 h1] at h ⊢
    exact va_arr (fun t ht => by
      have := h4 t ht
      rw [hg _ (by omega)]) h
  · have hb : 152 < N := by simpa [rf_b, h1] using hb
    rw [en_k11 h1] at h ⊢
    rw [hg 150 (by omega), hg 151 (by omega), hg 152 (by omega)]
    exact h
  · rw [en_k12 h1] at h ⊢
    exact h
  · rw [en_k13 h1] at h ⊢
    exact h
  · rw [en_k14 h1] at h ⊢
    exact h
/-- new addresses behind the old ones: the old cells stay as they are -/
theorem en_o_gg (hN : N ≤ 153) (hoc : oc_b O N = true) (hg : ∀ j, j < N → g' j = g j) (h4 : ∀ t, t < 15 → σ 204 t < 117) (hi : i < N) (h : va_at D cl (q, en_o k g P O σ i) H) : va_at D cl (q, en_o k g' P O σ i) H := by
  have h1 := oc_at hoc hi
  unfold oc_f at h1
  cases h2 : od_l O i with
  | some x =>
    rw [h2] at h1
    rw [en_o_s h2] at h ⊢
    rw [od_gg (P := P) (k := k) h1 hg]
    exact h
  | none =>
    rw [h2] at h1
    rw [en_o_n h2] at h ⊢
    exact en_gg (by omega) h1 hg h4 h
end ENO
section PWN
variable {p : Program} {l : Launch} {e : Env} {R : Room} {s : State} {m : MethodId} {args : Array Value} {below : List Frame} {meth : Method} {c : Code} {H : Heap} {locs : List Loc} {cells slots : Nat} {Q : State → Prop}
variable {cc : ByteArray} {pc : Nat} {ls : Array Slot} {rest : List Value} {D : va_G} {cl : List vw_C} {A : Nat → Prop} {tys : List (ClassId × FieldType)} {H0 : Heap} {g : Nat → Nat} {N nL : Nat} {E : Nat → va_E} {Ts : List Cond} {own : String}
theorem pw_grow {q : Nat} {v : va_E} {H1 : Heap} (hW : pw_H D cl A H0 g N E H locs) (hP : va_P D cl (pw_w g N E ++ [(q, v)]) H1) (hD : va_D A (pw_w g N E ++ [(q, v)])) (hS : va_S A H0 H1 locs) : pw_H D cl A H0 (va_up g N q) (N + 1) (va_up E N v) H1 locs :=
  ⟨by rw [← pw_push]; exact hP, by rw [← pw_push]; exact hD, hS, hW.2.2.2⟩
theorem pw_new (S : pw_S p m c cc nL s args Ts own D cl tys) (hW : pw_H D cl A H0 g N E H locs) {C : String} {T : u_T} {NF ci index : Nat} {fs : List Value} (ty : Nat → FieldType) (hty : ∀ k, k < NF → parseFieldDescriptor (T k).2.2.1 = some (ty k)) (hc : cl[ci]? = some (C, T, NF)) (hin : ∀ w ∈ u_ws C T NF, w ∈ Ts) (hcl : Cond.classLink own index C ∈ Ts) (hinst : Cond.instantiable C NF ∈ Ts) (hini : Cond.initialized C ∈ Ts) (hfs : ∀ j, j < NF → defaultValue (ty j) = vp_V fs j) (hr : cells + 1 ≤ R.cells ∧ slots + NF ≤ R.slots) (hdg : decode cc pc = .ok (.new index, 3))
    (kk : ∀ (q : Nat) (H1 : Heap), pw_H D cl A H0 (va_up g N q) (N + 1) (va_up E N (.inr (ci, fs))) H1 locs → W p l e R s m args below meth c H1 locs (cells + 1) (slots + NF) Q (F0 m (pc + 3) ls (.ref q :: rest))) : W p l e R s m args below meth c H locs cells slots Q (F0 m pc ls rest) :=
  va_new S.1.1 S.1.2.1 S.1.2.2.2.2 hin ty hty S.1.2.2.2.1 (S.1.2.2.2.2 _ hcl) (S.1.2.2.2.2 _ hinst) (S.1.2.2.2.2 _ hini) S.2 hW.1 hW.2.1 hW.2.2.1 hW.2.2.2 hc hfs hr.1 hr.2 hdg (fun q H1 hP hD hS => kk q H1 (pw_grow hW hP hD hS))
theorem pw_newi (S : pw_S p m c cc nL s args Ts own D cl tys) (hW : pw_H D cl A H0 g N E H locs) (t0 : Nat) {cA : ClassId} (ht : tys[t0]? = some (cA, .int)) {n : Int32} {n0 : Nat} (harr : Cond.arrayClass .int ∈ Ts) (hn : ¬ n < 0) (hN : n.toNatClampNeg = n0) (hbytes : n0 * 4 ≤ 536870912) (hr : cells + 1 ≤ R.cells ∧ slots + n0 ≤ R.slots) (hdg : decode cc pc = .ok (.newarray .int, 2))
    (kk : ∀ (q : Nat) (H1 : Heap), pw_H D cl A H0 (va_up g N q) (N + 1) (va_up E N (.inl (cA, n0, .inl (fun _ => 0)))) H1 locs → W p l e R s m args below meth c H1 locs (cells + 1) (slots + n0) Q (F0 m (pc + 2) ls (.ref q :: rest))) : W p l e R s m args below meth c H locs cells slots Q (F0 m pc ls (.int n :: rest)) :=
  va_newa (atype := .int) (ty := .int) (a0 := (n0, .inl (fun _ => 0))) S.1.1 S.1.2.1 (S.1.2.2.2.2 _ harr) rfl S.2 hW.1 hW.2.1 hW.2.2.1 hW.2.2.2 (fun _ => rfl) hn hN hbytes hr.1 hr.2 hdg (fun q cB H1 hK hP hD hS => by
    have h1 : s.vm.findClass ("[" ++ FieldType.int.toString) = some cB := (hK.2 tys.length (cB, .int) (by simp)).2
    have h2 : s.vm.findClass ("[" ++ FieldType.int.toString) = some cA := (S.2.2 t0 (cA, .int) ht).2
    have e : cB = cA := Option.some.inj (h1.symm.trans h2)
    subst e
    exact kk q H1 (pw_grow hW hP hD hS))
theorem pw_newr (S : pw_S p m c cc nL s args Ts own D cl tys) (hW : pw_H D cl A H0 g N E H locs) (t0 : Nat) {cA : ClassId} {C : String} {index : Nat} (ht : tys[t0]? = some (cA, .object C)) {n : Int32} {n0 : Nat} (hcl : Cond.classLink own index C ∈ Ts) (hover : va_AO C s) (hn : ¬ n < 0) (hN : n.toNatClampNeg = n0) (hbytes : n0 * 4 ≤ 536870912) (hr : cells + 1 ≤ R.cells ∧ slots + n0 ≤ R.slots) (hdg : decode cc pc = .ok (.anewarray index, 3))
    (kk : ∀ (q : Nat) (H1 : Heap), pw_H D cl A H0 (va_up g N q) (N + 1) (va_up E N (.inl (cA, n0, .inr (.inr (.inr (.inr (fun _ => none))))))) H1 locs → W p l e R s m args below meth c H1 locs (cells + 1) (slots + n0) Q (F0 m (pc + 3) ls (.ref q :: rest))) : W p l e R s m args below meth c H locs cells slots Q (F0 m pc ls (.int n :: rest)) :=
  va_newq (C := C) (index := index) S.1.1 S.1.2.1 S.1.2.2.2.1 (S.1.2.2.2.2 _ hcl) hover S.2 hW.1 hW.2.1 hW.2.2.1 hW.2.2.2 hn hN hbytes hr.1 hr.2 hdg (fun q cB H1 hK hP hD hS => by
    obtain ⟨_, _, _, _, _, h1⟩ := (hK.2 tys.length (cB, .object C) (by simp)).2
    obtain ⟨_, _, _, _, _, h2⟩ := (S.2.2 t0 (cA, .object C) ht).2
    have e : cB = cA := Option.some.inj (h1.symm.trans h2)
    subst e
    exact kk q H1 (pw_grow hW hP hD hS))
end PWN
/-- a constructor's contract: the pool behind it, with new cells -/
abbrev cn_T : Type := (Nat → Nat) × Nat × (Nat → va_E)
def ct_pN (D : va_G) (cl : List vw_C) (tys : List (ClassId × FieldType)) (Z : State → Prop) (g : Nat → Nat) (N : Nat) (E : Nat → va_E) (sz : Nat) (U : State) : Prop := ct_pre D cl tys g N E sz U ∧ Z U
def ct_BN (D : va_G) (cl : List vw_C) (tys : List (ClassId × FieldType)) (A : Nat → Prop) (u : cn_T) (t : State) : Prop := va_P D cl (pw_w u.1 u.2.1 u.2.2) t.heap ∧ va_K D cl tys t ∧ va_D A (pw_w u.1 u.2.1 u.2.2)
def ct_N (l : Launch) (y : MethodName) (ws : List Cond) (rm : Room) (As : List Value) (D : va_G) (cl : List vw_C) (tys : List (ClassId × FieldType)) (Z : State → Prop) (g : Nat → Nat) (N : Nat) (E : Nat → va_E) (mc ms : Nat) (post : cn_T → Prop) : Prop :=
  ∀ sz : Nat, Met l y ws rm (va_Pc As (ct_pN D cl tys Z g N E sz)) (va_Qv post (ct_BN D cl tys (pw_A g N sz)) (pw_A g N sz)) mc ms (pw_A g N sz)
/-- a word of the state that calls keep -/
def zs_ok (Z : State → Prop) : Prop := (∀ s U : State, s.WarmedH U.vm → Z s → Z U) ∧ ∀ (U : State) (g : JFrame) (mk : MethodId) (a : Array Value), Z U → Z (U.calling g mk a)
theorem ct_N_in {l : Launch} {y : MethodName} {ws : List Cond} {rm : Room} {As : List Value} {D : va_G} {cl : List vw_C} {tys : List (ClassId × FieldType)} {Z : State → Prop} {g : Nat → Nat} {N : Nat} {E : Nat → va_E} {mc ms : Nat} {post : cn_T → Prop} {cc : ByteArray} {maxL : Nat} (hy : plainName y.cls = true) (hw : ws = Cond.code y cc maxL none :: wa_g) (hlen : (lg_sl As).length ≤ maxL)
    (body : ∀ (p : Program) (e : Env) (s : State) (m : MethodId) (args : Array Value) (below : List Frame) (meth : Method) (c : Code) (A : Nat → Prop) (ls : Array Slot) (Q : State → Prop), pw_S p m c cc maxL s args wa_g y.cls D cl tys → Z s → meth.name = y.name → lv_has ls maxL (lv_args 0 As) → pw_H D cl A s.heap g N E s.heap [] →
      (∀ (pc : Nat) (ls : Array Slot) (H : Heap) (locs : List Loc) (g' : Nat → Nat) (N' : Nat) (E' : Nat → va_E), decode cc pc = .ok (.return_, 1) → post (g', N', E') → pw_H D cl A s.heap g' N' E' H locs → W p l e rm s m args below meth c H locs mc ms Q (F0 m pc ls [])) → W p l e rm s m args below meth c s.heap [] 0 0 Q (F0 m 0 ls [])) : ct_N l y ws rm As D cl tys Z g N E mc ms post := by
  intro sz
  refine Met.ofW (cc := cc) (maxL := maxL) (ret := none) hy hw ?_
  intro p e s m args below meth c s₁ B hml hv
  obtain ⟨rfl, ⟨hsz, hP, hK, hD0⟩, hZ⟩ := hv
  have hx := B.exec
  have hb := B.bytes
  have hr := B.returns
  have hts := atoms_spec (ws := ws) B.pre
  have hown := findClass_of_methodNamed B.named
  have hlocks := B.notSynchronized
  have hnm := (name_of_methodNamed B.named B.method).1
  subst hsz
  have hl := lv_entry As (n := maxL) hlen
  rw [lg_entry_eq]
  refine body p e s m _ below meth c (pw_A g N s.heap.size) _ _ ⟨⟨hx, hb, hml, hown, fun w h => hts w (by rw [hw]; exact List.mem_cons_of_mem _ h)⟩, hK⟩ hZ hnm hl ⟨hP, pw_D_A hD0, va_S.rf, fun q h => Or.inr h⟩ (fun pc ls H locs g' N' E' hd hp hW => ?_)
  exact W.vret hx hb hr (fun t ht hWm => ⟨⟨(g', N', E'), rfl, hp, by rw [ht]; exact hW.1, va_K.moved hWm.alike hK, hW.2.1⟩, hW.2.2.1.F ht⟩) hW.2.2.1.2.2 hd
section PWD
variable {p : Program} {l : Launch} {e : Env} {R : Room} {s : State} {m : MethodId} {args : Array Value} {below : List Frame} {meth : Method} {c : Code} {H : Heap} {locs : List Loc} {cells slots : Nat} {Q : State → Prop}
variable {cc bytes : ByteArray} {pc : Nat} {ls : Array Slot} {rest : List Value} {D : va_G} {cl : List vw_C} {A : Nat → Prop} {tys : List (ClassId × FieldType)} {H0 : Heap} {g : Nat → Nat} {N nL : Nat} {Ts ws : List Cond} {own host : String} {y : MethodName} {rm : Room} {As st : List Value} {index maxL n mc ms b : Nat} {E : Nat → va_E} {Z : State → Prop} {post : cn_T → Prop}
theorem ct_blindN {sz : Nat} (hzs : zs_ok Z) : FrameBlind (va_Pc As (ct_pN D cl tys Z g N E sz)) := fun a U g' mk q => by
  obtain ⟨q0, ⟨q1, qP, qK, qD⟩, qZ⟩ := q
  exact ⟨q0, ⟨q1, qP, va_K.moved (u := U) (U := U.calling g' mk a) (Vm.Alike.refl U.vm) qK, qD⟩, hzs.2 U g' mk a qZ⟩
theorem pw_callC (S : pw_S p m c cc nL s args Ts own D cl tys) (hzs : zs_ok Z) (hZ : Z s) (hW : pw_H D cl A H0 g N E H locs) (hM : ct_N l y ws rm (.ref b :: As) D cl tys Z g N E mc ms post) (cw : CallB R s args own index y bytes maxL none ws rm mc ms n ∧ y.name = "<init>" ∧ (Cond.instanceMethod y).before args s = true) (hn : As.length = n) (hsize : ls.size = nL) (hst : st = As.reverse ++ .ref b :: rest) (hroom : 2 * (F0 m pc ls st).monitorRoom + (rest.map fun v => v.category).sum ≤ 8) (hf : cells + mc ≤ R.cells ∧ slots + ms ≤ R.slots) (hdg : decode cc pc = .ok (.invokespecial index, 3))
    (kk : ∀ (g' : Nat → Nat) (N' : Nat) (E' : Nat → va_E) (H1 : Heap) (locs1 : List Loc), post (g', N', E') → pw_H D cl A H0 g' N' E' H1 locs1 → W p l e R s m args below meth c H1 locs1 (cells + mc) (slots + ms) Q (F0 m (pc + 3) ls rest)) : W p l e R s m args below meth c H locs cells slots Q (F0 m pc ls st) :=
  va_callv (va_runI (As := As) (rest := rest) S.1 (hM H.size) cw ⟨ct_blindN hzs, fun U hU hWm => ⟨rfl, ⟨by rw [hU], by rw [hU]; exact hW.1, va_K.moved hWm.alike S.2, hW.2.1.weaken (fun _ _ _ _ => trivial)⟩, hzs.1 s U hWm hZ⟩⟩ rfl hn hsize hst hroom hdg hf) hW.2.2.1 (fun q _ h => pw_sub hW q h) (fun q h => pw_sub hW q h) (fun u' t H1 locs1 ht _ hp hB _ _ hS => kk u'.1 u'.2.1 u'.2.2 H1 locs1 hp ⟨by rw [← ht]; exact hB.1, hB.2.2.weaken (fun k q _ h => pw_sub hW _ h), hS, hW.2.2.2⟩)
theorem pw_callN (S : pw_S p m c cc nL s args Ts own D cl tys) (hzs : zs_ok Z) (hZ : Z s) (hW : pw_H D cl A H0 g N E H locs) (hM : ct_N l y ws rm (.ref b :: As) D cl tys Z g N E mc ms post) (cw : va_CN R s args own index y host bytes maxL none ws rm mc ms n ∧ y.name = "<init>" ∧ (Cond.instanceMethod y).before args s = true) (hn : As.length = n) (hsize : ls.size = nL) (hst : st = As.reverse ++ .ref b :: rest) (hroom : 2 * (F0 m pc ls st).monitorRoom + (rest.map fun v => v.category).sum ≤ 8) (hf : cells + mc ≤ R.cells ∧ slots + ms ≤ R.slots) (hdg : decode cc pc = .ok (.invokespecial index, 3))
    (kk : ∀ (g' : Nat → Nat) (N' : Nat) (E' : Nat → va_E) (H1 : Heap) (locs1 : List Loc), post (g', N', E') → pw_H D cl A H0 g' N' E' H1 locs1 → W p l e R s m args below meth c H1 locs1 (cells + mc) (slots + ms) Q (F0 m (pc + 3) ls rest)) : W p l e R s m args below meth c H locs cells slots Q (F0 m pc ls st) :=
  va_callv (va_runIN (As := As) (rest := rest) S.1 (hM H.size) cw ⟨ct_blindN hzs, fun U hU hWm => ⟨rfl, ⟨by rw [hU], by rw [hU]; exact hW.1, va_K.moved hWm.alike S.2, hW.2.1.weaken (fun _ _ _ _ => trivial)⟩, hzs.1 s U hWm hZ⟩⟩ rfl hn hsize hst hroom hdg hf) hW.2.2.1 (fun q _ h => pw_sub hW q h) (fun q h => pw_sub hW q h) (fun u' t H1 locs1 ht _ hp hB _ _ hS => kk u'.1 u'.2.1 u'.2.2 H1 locs1 hp ⟨by rw [← ht]; exact hB.1, hB.2.2.weaken (fun k q _ h => pw_sub hW _ h), hS, hW.2.2.2⟩)
end PWD
