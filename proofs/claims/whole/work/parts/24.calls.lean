/-! Contracts over the state; calls of static void methods; a polynomial's writes as one -/
abbrev mt_V (l : Launch) (D : va_G) (k : ClassId × ClassId × ClassId) (g : Nat → Nat) (y : MethodName) (ws : List Cond) (rm : Room) (As : List Value) (σ : st_T) (post : st_T → Prop) : Prop := ct_V l y ws rm As D cl_s (ty_s k) g 153 (en_s k g) σ post
abbrev mt_I (l : Launch) (D : va_G) (k : ClassId × ClassId × ClassId) (g : Nat → Nat) (y : MethodName) (ws : List Cond) (rm : Room) (As : List Value) (σ : st_T) (post : Int32 → st_T → Prop) : Prop := ct_I l y ws rm As D cl_s (ty_s k) g 153 (en_s k g) σ post
section PWS
variable {p : Program} {l : Launch} {e : Env} {R : Room} {s : State} {m : MethodId} {args : Array Value} {below : List Frame} {meth : Method} {c : Code} {H : Heap} {locs : List Loc} {cells slots : Nat} {Q : State → Prop}
variable {cc bytes : ByteArray} {pc : Nat} {ls : Array Slot} {rest : List Value} {D : va_G} {cl : List vw_C} {A : Nat → Prop} {tys : List (ClassId × FieldType)} {H0 : Heap} {g : Nat → Nat} {N nL : Nat} {Ts ws : List Cond} {own : String} {y : MethodName} {rm : Room} {As st : List Value} {index maxL n : Nat} {ret : Option FieldType}
theorem pw_callSV {S0 : Type} {en : S0 → Nat → va_E} {u : S0} {post : S0 → Prop} (S : pw_S p m c cc nL s args Ts own D cl tys) (hW : pw_H D cl A H0 g N (en u) H locs) (hM : ct_V l y ws rm As D cl tys g N en u post) (cw : CallB R s args own index y bytes maxL ret ws rm 0 0 n ∧ (Cond.static y).before args s = true) (hn : As.length = n) (hsize : ls.size = nL) (hst : st = As.reverse ++ rest) (hroom : 2 * (F0 m pc ls st).monitorRoom + (rest.map fun v => v.category).sum ≤ 8) (hf : cells ≤ R.cells ∧ slots ≤ R.slots) (hdg : decode cc pc = .ok (.invokestatic index, 3))
    (kk : ∀ (u' : S0) (H1 : Heap) (locs1 : List Loc), post u' → pw_H D cl A H0 g N (en u') H1 locs1 → W p l e R s m args below meth c H1 locs1 cells slots Q (F0 m (pc + 3) ls rest)) : W p l e R s m args below meth c H locs cells slots Q (F0 m pc ls st) :=
  va_callv (va_runS (As := As) (rest := rest) S.1 (hM H.size) cw ⟨ct_blind, fun U hU hWm => ct_atU S hW hU hWm⟩ rfl hn hsize hst hroom hdg hf) hW.2.2.1 (fun q _ h => pw_sub hW q h) (fun q h => pw_sub hW q h) (fun u' t H1 locs1 ht _ hp hB _ _ hS => kk u' H1 locs1 hp (pw_back hW ht hB hS))
end PWS
/-- the first n places of row j become v -/
def st_fl (σ : st_T) (j n v : Nat) : st_T := fun a b => if a = j then (if b < n then v else σ a b) else σ a b
theorem st_fl_0 (σ : st_T) (j v : Nat) : st_fl σ j 0 v = σ := funext (fun a => funext (fun b => by
  unfold st_fl
  split
  · rw [if_neg (by omega)]
  · rfl))
theorem st_fl_s (σ : st_T) (j n v : Nat) : st_up (st_fl σ j n v) j n v = st_fl σ j (n + 1) v := funext (fun a => funext (fun b => by
  unfold st_up st_fl
  by_cases h : a = j
  · rw [if_pos h, if_pos h, if_pos h]
    by_cases h1 : b = n
    · rw [if_pos h1, if_pos (by omega)]
    · rw [if_neg h1]
      by_cases h2 : b < n
      · rw [if_pos h2, if_pos (by omega)]
      · rw [if_neg h2, if_neg (by omega)]
  · rw [if_neg h, if_neg h, if_neg h]))
/-- the first n places of row j become those of f -/
def st_cp (σ : st_T) (j n : Nat) (f : Nat → Nat) : st_T := fun a b => if a = j then (if b < n then f b else σ a b) else σ a b
theorem st_cp_0 (σ : st_T) (j : Nat) (f : Nat → Nat) : st_cp σ j 0 f = σ := funext (fun a => funext (fun b => by
  unfold st_cp
  split
  · rw [if_neg (by omega)]
  · rfl))
theorem st_cp_s (σ : st_T) (j n : Nat) (f : Nat → Nat) {v : Nat} (hv : v = f n) : st_up (st_cp σ j n f) j n v = st_cp σ j (n + 1) f := funext (fun a => funext (fun b => by
  unfold st_up st_cp
  by_cases h : a = j
  · rw [if_pos h, if_pos h, if_pos h]
    by_cases h1 : b = n
    · rw [if_pos h1, if_pos (by omega), h1, hv]
    · rw [if_neg h1]
      by_cases h2 : b < n
      · rw [if_pos h2, if_pos (by omega)]
      · rw [if_neg h2, if_neg (by omega)]
  · rw [if_neg h, if_neg h, if_neg h]))
theorem st_cp_row {σ : st_T} {j n a : Nat} {f : Nat → Nat} (h : a ≠ j) : st_cp σ j n f a = σ a := funext (fun b => by unfold st_cp; rw [if_neg h])
theorem st_cp_at {σ : st_T} {j n b : Nat} {f : Nat → Nat} (h : b < n) : st_cp σ j n f j b = f b := by unfold st_cp; rw [if_pos rfl, if_pos h]
theorem st_cp_hi {σ : st_T} {j n b : Nat} {f : Nat → Nat} (h : n ≤ b) : st_cp σ j n f j b = σ j b := by unfold st_cp; rw [if_pos rfl, if_neg (by omega)]
theorem st_fl_row {σ : st_T} {j n v a : Nat} (h : a ≠ j) : st_fl σ j n v a = σ a := funext (fun b => by unfold st_fl; rw [if_neg h])
theorem st_fl_all {σ : st_T} {j v : Nat} (h : ∀ b, 31 ≤ b → σ j b = v) : st_fl σ j 31 v j = fun _ => v := funext (fun b => by
  unfold st_fl
  rw [if_pos rfl]
  by_cases hb : b < 31
  · rw [if_pos hb]
  · rw [if_neg hb, h b (by omega)])
theorem st_cp_all {σ : st_T} {j : Nat} {f : Nat → Nat} (h : ∀ b, 31 ≤ b → σ j b = f b) : st_cp σ j 31 f j = f := funext (fun b => by
  unfold st_cp
  rw [if_pos rfl]
  by_cases hb : b < 31
  · rw [if_pos hb]
  · rw [if_neg hb, h b (by omega)])
/-- polynomial j becomes f, its size with it -/
theorem st_po_at {σ : st_T} {j : Nat} {f : Nat → Nat} : st_po σ j f j = f := funext (fun b => by unfold st_po; rw [if_pos rfl])
theorem st_po_sz {σ : st_T} {j : Nat} {f : Nat → Nat} (h : j ≠ 200) : st_po σ j f 200 j = sp_sz f 31 := by unfold st_po; rw [if_neg (by omega), if_pos ⟨rfl, rfl⟩]
theorem st_po_sz2 {σ : st_T} {j i : Nat} {f : Nat → Nat} (h : j ≠ 200) (hi : i ≠ j) : st_po σ j f 200 i = σ 200 i := by unfold st_po; rw [if_neg (by omega), if_neg (by omega)]
theorem st_po_row {σ : st_T} {j a : Nat} {f : Nat → Nat} (h : a ≠ j) (h2 : a ≠ 200) : st_po σ j f a = σ a := funext (fun b => by unfold st_po; rw [if_neg h, if_neg (by omega)])
/-- writes in row j, then its size -/
theorem st_po_of {σ τ : st_T} {j v : Nat} {f : Nat → Nat} (hj : j ≠ 200) (h1 : τ j = f) (h2 : ∀ a, a ≠ j → τ a = σ a) (hv : v = sp_sz f 31) : st_up τ 200 j v = st_po σ j f := funext (fun a => funext (fun b => by
  unfold st_up st_po
  by_cases ha : a = j
  · rw [if_neg (by omega), if_pos ha, ha, h1]
  · rw [if_neg ha]
    by_cases h3 : a = 200
    · rw [if_pos h3]
      by_cases h4 : b = j
      · rw [if_pos h4, if_pos ⟨h3, h4⟩, hv]
      · rw [if_neg h4, if_neg (by omega), h2 a ha]
    · rw [if_neg h3, if_neg (by omega), h2 a ha]))
theorem st_po_po {σ : st_T} {j : Nat} {f h : Nat → Nat} (hj : j ≠ 200) : st_po (st_po σ j f) j h = st_po σ j h := funext (fun a => funext (fun b => by
  unfold st_po
  by_cases h1 : a = j
  · simp only [h1, if_true]
  · by_cases h2 : a = 200 ∧ b = j
    · simp only [h1, h2, if_false, if_true, and_self]
    · simp only [h1, h2, if_false]))
/-- the class's polynomials: coefficients below P, sizes right -/
def st_wf (P : Nat) (σ : st_T) : Prop := σ 203 0 = P ∧ ∀ j, kd_k j = 0 → sp_ok P (σ j) ∧ σ 200 j = sp_sz (σ j) 31
theorem st_wf_po {P : Nat} {σ : st_T} {j : Nat} {f : Nat → Nat} (h : st_wf P σ) (hj : kd_k j = 0) (hf : sp_ok P f) : st_wf P (st_po σ j f) := by
  have h1 := kd_po hj
  refine ⟨?_, fun i hi => ?_⟩
  · rw [st_po_row (by omega) (by omega)]
    exact h.1
  · have h2 := kd_po hi
    by_cases he : i = j
    · subst he
      rw [st_po_at, st_po_sz (by omega)]
      exact ⟨hf, rfl⟩
    · rw [st_po_row he (by omega), st_po_sz2 (by omega) he]
      exact h.2 i hi
