/-! Constructors: the nest's words, rooms, the first state; Polynomial.<init>; new Polynomial() (printed by gen/ctor1.py) -/
abbrev nw_Ring_11 : Cond := .methodLinkNest rc_Ring 11 ym_Poly_init "PrimePolynomials"
abbrev nw_Frob_11 : Cond := .methodLinkNest rc_Frob 11 ym_Poly_init "PrimePolynomials"
abbrev nw_Parts_19 : Cond := .methodLinkNest rc_Parts 19 ym_Poly_init "PrimePolynomials"
abbrev nw_Parts_41 : Cond := .methodLinkNest rc_Parts 41 ym_Part_init "PrimePolynomials"
abbrev nw_Part_9 : Cond := .methodLinkNest rc_Part 9 ym_Poly_init "PrimePolynomials"
abbrev nw_Field_11 : Cond := .methodLinkNest rc_Field 11 ym_Poly_init "PrimePolynomials"
abbrev nw_PP_53 : Cond := .methodLinkNest rc_PP 53 ym_Poly_init "PrimePolynomials"
/-- what constructors stand on beside the good words: the links to private constructors, the classes of the arrays -/
def nw_s (U : State) : Prop := va_Nw nw_Ring_11 U ∧ va_Nw nw_Frob_11 U ∧ va_Nw nw_Parts_19 U ∧ va_Nw nw_Parts_41 U ∧ va_Nw nw_Part_9 U ∧ va_Nw nw_Field_11 U ∧ va_Nw nw_PP_53 U ∧ va_AO rc_Poly U ∧ va_AO rc_Part U
theorem nw_zs : zs_ok nw_s := ⟨fun s U hW h => ⟨va_Nw.warmM hW h.1, va_Nw.warmM hW h.2.1, va_Nw.warmM hW h.2.2.1, va_Nw.warmM hW h.2.2.2.1, va_Nw.warmM hW h.2.2.2.2.1, va_Nw.warmM hW h.2.2.2.2.2.1, va_Nw.warmM hW h.2.2.2.2.2.2.1, va_AO.moved hW.alike h.2.2.2.2.2.2.2.1, va_AO.moved hW.alike h.2.2.2.2.2.2.2.2⟩, fun U g mk a h => ⟨va_Nw.same rfl rfl h.1, va_Nw.same rfl rfl h.2.1, va_Nw.same rfl rfl h.2.2.1, va_Nw.same rfl rfl h.2.2.2.1, va_Nw.same rfl rfl h.2.2.2.2.1, va_Nw.same rfl rfl h.2.2.2.2.2.1, va_Nw.same rfl rfl h.2.2.2.2.2.2.1, va_AO.moved (u := U) (Vm.Alike.refl U.vm) h.2.2.2.2.2.2.2.1, va_AO.moved (u := U) (Vm.Alike.refl U.vm) h.2.2.2.2.2.2.2.2⟩⟩
theorem hz_Ring_11 {s : State} (h : nw_s s) : va_Nw nw_Ring_11 s := h.1
theorem hz_Frob_11 {s : State} (h : nw_s s) : va_Nw nw_Frob_11 s := h.2.1
theorem hz_Parts_19 {s : State} (h : nw_s s) : va_Nw nw_Parts_19 s := h.2.2.1
theorem hz_Parts_41 {s : State} (h : nw_s s) : va_Nw nw_Parts_41 s := h.2.2.2.1
theorem hz_Part_9 {s : State} (h : nw_s s) : va_Nw nw_Part_9 s := h.2.2.2.2.1
theorem hz_Field_11 {s : State} (h : nw_s s) : va_Nw nw_Field_11 s := h.2.2.2.2.2.1
theorem hz_PP_53 {s : State} (h : nw_s s) : va_Nw nw_PP_53 s := h.2.2.2.2.2.2.1
theorem hz_AOp {s : State} (h : nw_s s) : va_AO rc_Poly s := h.2.2.2.2.2.2.2.1
theorem hz_AOt {s : State} (h : nw_s s) : va_AO rc_Part s := h.2.2.2.2.2.2.2.2
abbrev rn_Poly : Room := { frames := 1, cells := 1, slots := 31, locals := 20 }
abbrev rn_Part : Room := { frames := 2, cells := 2, slots := 33, locals := 40 }
abbrev rn_Ring : Room := { frames := 2, cells := 16, slots := 264, locals := 40 }
abbrev rn_Frob : Room := { frames := 3, cells := 43, slots := 708, locals := 65 }
abbrev rn_Parts : Room := { frames := 3, cells := 54, slots := 687, locals := 60 }
abbrev rn_Field : Room := { frames := 2, cells := 14, slots := 231, locals := 40 }
abbrev rn_PP : Room := { frames := 4, cells := 148, slots := 2197, locals := 87 }
abbrev rn_Model : Room := { frames := 1, cells := 3, slots := 1088, locals := 21 }
/-- the state when all is made, but x: 0 everywhere; the parts' cells in their order -/
def st_z (P : Nat) : st_T := fun a b => if a = 203 then (if b = 0 then P else 0) else if a = 204 then 72 + 3 * (b % 15) else 0
theorem st_z_row {P a : Nat} (h1 : a ≠ 203) (h2 : a ≠ 204) : st_z P a = fun _ => 0 := funext (fun b => by unfold st_z; rw [if_neg h1, if_neg h2])
theorem st_z_4 (P : Nat) : ∀ t, t < 15 → st_z P 204 t < 117 := fun t ht => by
  show 72 + 3 * (t % 15) < 117
  have := Nat.mod_lt t (show 0 < 15 by decide)
  omega
/-- with x in its place -/
def st_0 (P : Nat) : st_T := st_po (st_z P) 21 (va_up (fun _ => 0) 1 1)
theorem st_0_row {P a : Nat} (h1 : a ≠ 203) (h2 : a ≠ 204) (h3 : a ≠ 21) (h4 : a ≠ 200) : st_0 P a = fun _ => 0 := by
  unfold st_0
  rw [st_po_row h3 h4, st_z_row h1 h2]
theorem st_0_sz {P j : Nat} (h : j ≠ 21) : st_0 P 200 j = 0 := by
  unfold st_0
  rw [st_po_sz2 (by decide) h, st_z_row (by decide) (by decide)]
theorem st_0_4 (P : Nat) : ∀ t, t < 15 → st_0 P 204 t < 117 := fun t ht => by
  unfold st_0
  rw [st_po_row (by decide) (by decide)]
  exact st_z_4 P t ht
theorem dm_Poly_init_0 : decode bm_Poly_init 0 = .ok (.aload_n 0, 1) := by decide +kernel
theorem dm_Poly_init_1 : decode bm_Poly_init 1 = .ok (.invokespecial 3, 3) := by decide +kernel
theorem dm_Poly_init_4 : decode bm_Poly_init 4 = .ok (.aload_n 0, 1) := by decide +kernel
theorem dm_Poly_init_5 : decode bm_Poly_init 5 = .ok (.bipush 31, 2) := by decide +kernel
theorem dm_Poly_init_7 : decode bm_Poly_init 7 = .ok (.newarray .int, 2) := by decide +kernel
theorem dm_Poly_init_9 : decode bm_Poly_init 9 = .ok (.putfield 9, 3) := by decide +kernel
theorem dm_Poly_init_12 : decode bm_Poly_init 12 = .ok (.aload_n 0, 1) := by decide +kernel
theorem dm_Poly_init_13 : decode bm_Poly_init 13 = .ok (.iconst (-1), 1) := by decide +kernel
theorem dm_Poly_init_14 : decode bm_Poly_init 14 = .ok (.putfield 15, 3) := by decide +kernel
theorem dm_Poly_init_17 : decode bm_Poly_init 17 = .ok (.return_, 1) := by decide +kernel
theorem dm_Part_init_0 : decode bm_Part_init 0 = .ok (.aload_n 0, 1) := by decide +kernel
theorem dm_Part_init_1 : decode bm_Part_init 1 = .ok (.invokespecial 1, 3) := by decide +kernel
theorem dm_Part_init_4 : decode bm_Part_init 4 = .ok (.aload_n 0, 1) := by decide +kernel
theorem dm_Part_init_5 : decode bm_Part_init 5 = .ok (.new 7, 3) := by decide +kernel
theorem dm_Part_init_8 : decode bm_Part_init 8 = .ok (.dup, 1) := by decide +kernel
theorem dm_Part_init_9 : decode bm_Part_init 9 = .ok (.invokespecial 9, 3) := by decide +kernel
theorem dm_Part_init_12 : decode bm_Part_init 12 = .ok (.putfield 10, 3) := by decide +kernel
theorem dm_Part_init_15 : decode bm_Part_init 15 = .ok (.return_, 1) := by decide +kernel
theorem dm_Ring_init_0 : decode bm_Ring_init 0 = .ok (.aload_n 0, 1) := by decide +kernel
theorem dm_Ring_init_1 : decode bm_Ring_init 1 = .ok (.invokespecial 3, 3) := by decide +kernel
theorem dm_Ring_init_4 : decode bm_Ring_init 4 = .ok (.aload_n 0, 1) := by decide +kernel
theorem dm_Ring_init_5 : decode bm_Ring_init 5 = .ok (.new 9, 3) := by decide +kernel
theorem dm_Ring_init_8 : decode bm_Ring_init 8 = .ok (.dup, 1) := by decide +kernel
theorem dm_Ring_init_9 : decode bm_Ring_init 9 = .ok (.invokespecial 11, 3) := by decide +kernel
theorem dm_Ring_init_12 : decode bm_Ring_init 12 = .ok (.putfield 12, 3) := by decide +kernel
theorem dm_Ring_init_15 : decode bm_Ring_init 15 = .ok (.aload_n 0, 1) := by decide +kernel
theorem dm_Ring_init_16 : decode bm_Ring_init 16 = .ok (.new 9, 3) := by decide +kernel
theorem dm_Ring_init_19 : decode bm_Ring_init 19 = .ok (.dup, 1) := by decide +kernel
theorem dm_Ring_init_20 : decode bm_Ring_init 20 = .ok (.invokespecial 11, 3) := by decide +kernel
theorem dm_Ring_init_23 : decode bm_Ring_init 23 = .ok (.putfield 18, 3) := by decide +kernel
theorem dm_Ring_init_26 : decode bm_Ring_init 26 = .ok (.aload_n 0, 1) := by decide +kernel
theorem dm_Ring_init_27 : decode bm_Ring_init 27 = .ok (.new 9, 3) := by decide +kernel
theorem dm_Ring_init_30 : decode bm_Ring_init 30 = .ok (.dup, 1) := by decide +kernel
theorem dm_Ring_init_31 : decode bm_Ring_init 31 = .ok (.invokespecial 11, 3) := by decide +kernel
theorem dm_Ring_init_34 : decode bm_Ring_init 34 = .ok (.putfield 21, 3) := by decide +kernel
theorem dm_Ring_init_37 : decode bm_Ring_init 37 = .ok (.aload_n 0, 1) := by decide +kernel
theorem dm_Ring_init_38 : decode bm_Ring_init 38 = .ok (.new 9, 3) := by decide +kernel
theorem dm_Ring_init_41 : decode bm_Ring_init 41 = .ok (.dup, 1) := by decide +kernel
theorem dm_Ring_init_42 : decode bm_Ring_init 42 = .ok (.invokespecial 11, 3) := by decide +kernel
theorem dm_Ring_init_45 : decode bm_Ring_init 45 = .ok (.putfield 24, 3) := by decide +kernel
theorem dm_Ring_init_48 : decode bm_Ring_init 48 = .ok (.aload_n 0, 1) := by decide +kernel
theorem dm_Ring_init_49 : decode bm_Ring_init 49 = .ok (.new 9, 3) := by decide +kernel
theorem dm_Ring_init_52 : decode bm_Ring_init 52 = .ok (.dup, 1) := by decide +kernel
theorem dm_Ring_init_53 : decode bm_Ring_init 53 = .ok (.invokespecial 11, 3) := by decide +kernel
theorem dm_Ring_init_56 : decode bm_Ring_init 56 = .ok (.putfield 27, 3) := by decide +kernel
theorem dm_Ring_init_59 : decode bm_Ring_init 59 = .ok (.aload_n 0, 1) := by decide +kernel
theorem dm_Ring_init_60 : decode bm_Ring_init 60 = .ok (.new 9, 3) := by decide +kernel
theorem dm_Ring_init_63 : decode bm_Ring_init 63 = .ok (.dup, 1) := by decide +kernel
theorem dm_Ring_init_64 : decode bm_Ring_init 64 = .ok (.invokespecial 11, 3) := by decide +kernel
theorem dm_Ring_init_67 : decode bm_Ring_init 67 = .ok (.putfield 30, 3) := by decide +kernel
theorem dm_Ring_init_70 : decode bm_Ring_init 70 = .ok (.aload_n 0, 1) := by decide +kernel
theorem dm_Ring_init_71 : decode bm_Ring_init 71 = .ok (.new 9, 3) := by decide +kernel
theorem dm_Ring_init_74 : decode bm_Ring_init 74 = .ok (.dup, 1) := by decide +kernel
theorem dm_Ring_init_75 : decode bm_Ring_init 75 = .ok (.invokespecial 11, 3) := by decide +kernel
theorem dm_Ring_init_78 : decode bm_Ring_init 78 = .ok (.putfield 33, 3) := by decide +kernel
theorem dm_Ring_init_81 : decode bm_Ring_init 81 = .ok (.aload_n 0, 1) := by decide +kernel
theorem dm_Ring_init_82 : decode bm_Ring_init 82 = .ok (.new 9, 3) := by decide +kernel
theorem dm_Ring_init_85 : decode bm_Ring_init 85 = .ok (.dup, 1) := by decide +kernel
theorem dm_Ring_init_86 : decode bm_Ring_init 86 = .ok (.invokespecial 11, 3) := by decide +kernel
theorem dm_Ring_init_89 : decode bm_Ring_init 89 = .ok (.putfield 36, 3) := by decide +kernel
theorem dm_Ring_init_92 : decode bm_Ring_init 92 = .ok (.aload_n 0, 1) := by decide +kernel
theorem dm_Ring_init_93 : decode bm_Ring_init 93 = .ok (.iload_n 1, 1) := by decide +kernel
theorem dm_Ring_init_94 : decode bm_Ring_init 94 = .ok (.putfield 39, 3) := by decide +kernel
theorem dm_Ring_init_97 : decode bm_Ring_init 97 = .ok (.return_, 1) := by decide +kernel
theorem dm_Frob_init_0 : decode bm_Frob_init 0 = .ok (.aload_n 0, 1) := by decide +kernel
theorem dm_Frob_init_1 : decode bm_Frob_init 1 = .ok (.invokespecial 3, 3) := by decide +kernel
theorem dm_Frob_init_4 : decode bm_Frob_init 4 = .ok (.aload_n 0, 1) := by decide +kernel
theorem dm_Frob_init_5 : decode bm_Frob_init 5 = .ok (.new 9, 3) := by decide +kernel
theorem dm_Frob_init_8 : decode bm_Frob_init 8 = .ok (.dup, 1) := by decide +kernel
theorem dm_Frob_init_9 : decode bm_Frob_init 9 = .ok (.invokespecial 11, 3) := by decide +kernel
theorem dm_Frob_init_12 : decode bm_Frob_init 12 = .ok (.putfield 12, 3) := by decide +kernel
theorem dm_Frob_init_15 : decode bm_Frob_init 15 = .ok (.aload_n 0, 1) := by decide +kernel
theorem dm_Frob_init_16 : decode bm_Frob_init 16 = .ok (.new 9, 3) := by decide +kernel
theorem dm_Frob_init_19 : decode bm_Frob_init 19 = .ok (.dup, 1) := by decide +kernel
theorem dm_Frob_init_20 : decode bm_Frob_init 20 = .ok (.invokespecial 11, 3) := by decide +kernel
theorem dm_Frob_init_23 : decode bm_Frob_init 23 = .ok (.putfield 18, 3) := by decide +kernel
theorem dm_Frob_init_26 : decode bm_Frob_init 26 = .ok (.aload_n 0, 1) := by decide +kernel
theorem dm_Frob_init_27 : decode bm_Frob_init 27 = .ok (.bipush 15, 2) := by decide +kernel
theorem dm_Frob_init_29 : decode bm_Frob_init 29 = .ok (.anewarray 9, 3) := by decide +kernel
theorem dm_Frob_init_32 : decode bm_Frob_init 32 = .ok (.putfield 21, 3) := by decide +kernel
theorem dm_Frob_init_35 : decode bm_Frob_init 35 = .ok (.aload_n 0, 1) := by decide +kernel
theorem dm_Frob_init_36 : decode bm_Frob_init 36 = .ok (.new 9, 3) := by decide +kernel
theorem dm_Frob_init_39 : decode bm_Frob_init 39 = .ok (.dup, 1) := by decide +kernel
theorem dm_Frob_init_40 : decode bm_Frob_init 40 = .ok (.invokespecial 11, 3) := by decide +kernel
theorem dm_Frob_init_43 : decode bm_Frob_init 43 = .ok (.putfield 25, 3) := by decide +kernel
theorem dm_Frob_init_46 : decode bm_Frob_init 46 = .ok (.aload_n 0, 1) := by decide +kernel
theorem dm_Frob_init_47 : decode bm_Frob_init 47 = .ok (.new 9, 3) := by decide +kernel
theorem dm_Frob_init_50 : decode bm_Frob_init 50 = .ok (.dup, 1) := by decide +kernel
theorem dm_Frob_init_51 : decode bm_Frob_init 51 = .ok (.invokespecial 11, 3) := by decide +kernel
theorem dm_Frob_init_54 : decode bm_Frob_init 54 = .ok (.putfield 28, 3) := by decide +kernel
theorem dm_Frob_init_57 : decode bm_Frob_init 57 = .ok (.aload_n 0, 1) := by decide +kernel
theorem dm_Frob_init_58 : decode bm_Frob_init 58 = .ok (.new 9, 3) := by decide +kernel
theorem dm_Frob_init_61 : decode bm_Frob_init 61 = .ok (.dup, 1) := by decide +kernel
theorem dm_Frob_init_62 : decode bm_Frob_init 62 = .ok (.invokespecial 11, 3) := by decide +kernel
theorem dm_Frob_init_65 : decode bm_Frob_init 65 = .ok (.putfield 31, 3) := by decide +kernel
theorem dm_Frob_init_68 : decode bm_Frob_init 68 = .ok (.aload_n 0, 1) := by decide +kernel
theorem dm_Frob_init_69 : decode bm_Frob_init 69 = .ok (.new 9, 3) := by decide +kernel
theorem dm_Frob_init_72 : decode bm_Frob_init 72 = .ok (.dup, 1) := by decide +kernel
theorem dm_Frob_init_73 : decode bm_Frob_init 73 = .ok (.invokespecial 11, 3) := by decide +kernel
theorem dm_Frob_init_76 : decode bm_Frob_init 76 = .ok (.putfield 34, 3) := by decide +kernel
theorem dm_Frob_init_79 : decode bm_Frob_init 79 = .ok (.aload_n 0, 1) := by decide +kernel
theorem dm_Frob_init_80 : decode bm_Frob_init 80 = .ok (.aload_n 1, 1) := by decide +kernel
theorem dm_Frob_init_81 : decode bm_Frob_init 81 = .ok (.putfield 37, 3) := by decide +kernel
theorem dm_Frob_init_84 : decode bm_Frob_init 84 = .ok (.aload_n 0, 1) := by decide +kernel
theorem dm_Frob_init_85 : decode bm_Frob_init 85 = .ok (.getfield 18, 3) := by decide +kernel
theorem dm_Frob_init_88 : decode bm_Frob_init 88 = .ok (.iconst 1, 1) := by decide +kernel
theorem dm_Frob_init_89 : decode bm_Frob_init 89 = .ok (.iconst 1, 1) := by decide +kernel
theorem dm_Frob_init_90 : decode bm_Frob_init 90 = .ok (.invokevirtual 41, 3) := by decide +kernel
theorem dm_Frob_init_93 : decode bm_Frob_init 93 = .ok (.iconst 0, 1) := by decide +kernel
theorem dm_Frob_init_94 : decode bm_Frob_init 94 = .ok (.istore_n 2, 1) := by decide +kernel
theorem dm_Frob_init_95 : decode bm_Frob_init 95 = .ok (.iload_n 2, 1) := by decide +kernel
theorem dm_Frob_init_96 : decode bm_Frob_init 96 = .ok (.bipush 15, 2) := by decide +kernel
theorem dm_Frob_init_98 : decode bm_Frob_init 98 = .ok (.if_icmp .ge 22, 3) := by decide +kernel
theorem dm_Frob_init_101 : decode bm_Frob_init 101 = .ok (.aload_n 0, 1) := by decide +kernel
theorem dm_Frob_init_102 : decode bm_Frob_init 102 = .ok (.getfield 21, 3) := by decide +kernel
theorem dm_Frob_init_105 : decode bm_Frob_init 105 = .ok (.iload_n 2, 1) := by decide +kernel
theorem dm_Frob_init_106 : decode bm_Frob_init 106 = .ok (.new 9, 3) := by decide +kernel
theorem dm_Frob_init_109 : decode bm_Frob_init 109 = .ok (.dup, 1) := by decide +kernel
theorem dm_Frob_init_110 : decode bm_Frob_init 110 = .ok (.invokespecial 11, 3) := by decide +kernel
theorem dm_Frob_init_113 : decode bm_Frob_init 113 = .ok (.aastore, 1) := by decide +kernel
theorem dm_Frob_init_114 : decode bm_Frob_init 114 = .ok (.iinc 2 1, 3) := by decide +kernel
theorem dm_Frob_init_117 : decode bm_Frob_init 117 = .ok (.goto (-22), 3) := by decide +kernel
theorem dm_Frob_init_120 : decode bm_Frob_init 120 = .ok (.return_, 1) := by decide +kernel
theorem dm_Parts_init_0 : decode bm_Parts_init 0 = .ok (.aload_n 0, 1) := by decide +kernel
theorem dm_Parts_init_1 : decode bm_Parts_init 1 = .ok (.invokespecial 3, 3) := by decide +kernel
theorem dm_Parts_init_4 : decode bm_Parts_init 4 = .ok (.aload_n 0, 1) := by decide +kernel
theorem dm_Parts_init_5 : decode bm_Parts_init 5 = .ok (.bipush 15, 2) := by decide +kernel
theorem dm_Parts_init_7 : decode bm_Parts_init 7 = .ok (.anewarray 9, 3) := by decide +kernel
theorem dm_Parts_init_10 : decode bm_Parts_init 10 = .ok (.putfield 11, 3) := by decide +kernel
theorem dm_Parts_init_13 : decode bm_Parts_init 13 = .ok (.aload_n 0, 1) := by decide +kernel
theorem dm_Parts_init_14 : decode bm_Parts_init 14 = .ok (.new 17, 3) := by decide +kernel
theorem dm_Parts_init_17 : decode bm_Parts_init 17 = .ok (.dup, 1) := by decide +kernel
theorem dm_Parts_init_18 : decode bm_Parts_init 18 = .ok (.invokespecial 19, 3) := by decide +kernel
theorem dm_Parts_init_21 : decode bm_Parts_init 21 = .ok (.putfield 20, 3) := by decide +kernel
theorem dm_Parts_init_24 : decode bm_Parts_init 24 = .ok (.aload_n 0, 1) := by decide +kernel
theorem dm_Parts_init_25 : decode bm_Parts_init 25 = .ok (.new 17, 3) := by decide +kernel
theorem dm_Parts_init_28 : decode bm_Parts_init 28 = .ok (.dup, 1) := by decide +kernel
theorem dm_Parts_init_29 : decode bm_Parts_init 29 = .ok (.invokespecial 19, 3) := by decide +kernel
theorem dm_Parts_init_32 : decode bm_Parts_init 32 = .ok (.putfield 24, 3) := by decide +kernel
theorem dm_Parts_init_35 : decode bm_Parts_init 35 = .ok (.aload_n 0, 1) := by decide +kernel
theorem dm_Parts_init_36 : decode bm_Parts_init 36 = .ok (.new 17, 3) := by decide +kernel
theorem dm_Parts_init_39 : decode bm_Parts_init 39 = .ok (.dup, 1) := by decide +kernel
theorem dm_Parts_init_40 : decode bm_Parts_init 40 = .ok (.invokespecial 19, 3) := by decide +kernel
theorem dm_Parts_init_43 : decode bm_Parts_init 43 = .ok (.putfield 27, 3) := by decide +kernel
theorem dm_Parts_init_46 : decode bm_Parts_init 46 = .ok (.aload_n 0, 1) := by decide +kernel
theorem dm_Parts_init_47 : decode bm_Parts_init 47 = .ok (.new 17, 3) := by decide +kernel
theorem dm_Parts_init_50 : decode bm_Parts_init 50 = .ok (.dup, 1) := by decide +kernel
theorem dm_Parts_init_51 : decode bm_Parts_init 51 = .ok (.invokespecial 19, 3) := by decide +kernel
theorem dm_Parts_init_54 : decode bm_Parts_init 54 = .ok (.putfield 30, 3) := by decide +kernel
theorem dm_Parts_init_57 : decode bm_Parts_init 57 = .ok (.aload_n 0, 1) := by decide +kernel
theorem dm_Parts_init_58 : decode bm_Parts_init 58 = .ok (.aload_n 1, 1) := by decide +kernel
theorem dm_Parts_init_59 : decode bm_Parts_init 59 = .ok (.putfield 33, 3) := by decide +kernel
theorem dm_Parts_init_62 : decode bm_Parts_init 62 = .ok (.aload_n 0, 1) := by decide +kernel
theorem dm_Parts_init_63 : decode bm_Parts_init 63 = .ok (.aload_n 2, 1) := by decide +kernel
theorem dm_Parts_init_64 : decode bm_Parts_init 64 = .ok (.putfield 37, 3) := by decide +kernel
theorem dm_Parts_init_67 : decode bm_Parts_init 67 = .ok (.iconst 0, 1) := by decide +kernel
theorem dm_Parts_init_68 : decode bm_Parts_init 68 = .ok (.istore_n 3, 1) := by decide +kernel
theorem dm_Parts_init_69 : decode bm_Parts_init 69 = .ok (.iload_n 3, 1) := by decide +kernel
theorem dm_Parts_init_70 : decode bm_Parts_init 70 = .ok (.bipush 15, 2) := by decide +kernel
theorem dm_Parts_init_72 : decode bm_Parts_init 72 = .ok (.if_icmp .ge 22, 3) := by decide +kernel
theorem dm_Parts_init_75 : decode bm_Parts_init 75 = .ok (.aload_n 0, 1) := by decide +kernel
theorem dm_Parts_init_76 : decode bm_Parts_init 76 = .ok (.getfield 11, 3) := by decide +kernel
theorem dm_Parts_init_79 : decode bm_Parts_init 79 = .ok (.iload_n 3, 1) := by decide +kernel
theorem dm_Parts_init_80 : decode bm_Parts_init 80 = .ok (.new 9, 3) := by decide +kernel
theorem dm_Parts_init_83 : decode bm_Parts_init 83 = .ok (.dup, 1) := by decide +kernel
theorem dm_Parts_init_84 : decode bm_Parts_init 84 = .ok (.invokespecial 41, 3) := by decide +kernel
theorem dm_Parts_init_87 : decode bm_Parts_init 87 = .ok (.aastore, 1) := by decide +kernel
theorem dm_Parts_init_88 : decode bm_Parts_init 88 = .ok (.iinc 3 1, 3) := by decide +kernel
theorem dm_Parts_init_91 : decode bm_Parts_init 91 = .ok (.goto (-22), 3) := by decide +kernel
theorem dm_Parts_init_94 : decode bm_Parts_init 94 = .ok (.return_, 1) := by decide +kernel
theorem dm_Field_init_0 : decode bm_Field_init 0 = .ok (.aload_n 0, 1) := by decide +kernel
theorem dm_Field_init_1 : decode bm_Field_init 1 = .ok (.invokespecial 3, 3) := by decide +kernel
theorem dm_Field_init_4 : decode bm_Field_init 4 = .ok (.aload_n 0, 1) := by decide +kernel
theorem dm_Field_init_5 : decode bm_Field_init 5 = .ok (.new 9, 3) := by decide +kernel
theorem dm_Field_init_8 : decode bm_Field_init 8 = .ok (.dup, 1) := by decide +kernel
theorem dm_Field_init_9 : decode bm_Field_init 9 = .ok (.invokespecial 11, 3) := by decide +kernel
theorem dm_Field_init_12 : decode bm_Field_init 12 = .ok (.putfield 12, 3) := by decide +kernel
theorem dm_Field_init_15 : decode bm_Field_init 15 = .ok (.aload_n 0, 1) := by decide +kernel
theorem dm_Field_init_16 : decode bm_Field_init 16 = .ok (.new 9, 3) := by decide +kernel
theorem dm_Field_init_19 : decode bm_Field_init 19 = .ok (.dup, 1) := by decide +kernel
theorem dm_Field_init_20 : decode bm_Field_init 20 = .ok (.invokespecial 11, 3) := by decide +kernel
theorem dm_Field_init_23 : decode bm_Field_init 23 = .ok (.putfield 18, 3) := by decide +kernel
theorem dm_Field_init_26 : decode bm_Field_init 26 = .ok (.aload_n 0, 1) := by decide +kernel
theorem dm_Field_init_27 : decode bm_Field_init 27 = .ok (.new 9, 3) := by decide +kernel
theorem dm_Field_init_30 : decode bm_Field_init 30 = .ok (.dup, 1) := by decide +kernel
theorem dm_Field_init_31 : decode bm_Field_init 31 = .ok (.invokespecial 11, 3) := by decide +kernel
theorem dm_Field_init_34 : decode bm_Field_init 34 = .ok (.putfield 21, 3) := by decide +kernel
theorem dm_Field_init_37 : decode bm_Field_init 37 = .ok (.aload_n 0, 1) := by decide +kernel
theorem dm_Field_init_38 : decode bm_Field_init 38 = .ok (.new 9, 3) := by decide +kernel
theorem dm_Field_init_41 : decode bm_Field_init 41 = .ok (.dup, 1) := by decide +kernel
theorem dm_Field_init_42 : decode bm_Field_init 42 = .ok (.invokespecial 11, 3) := by decide +kernel
theorem dm_Field_init_45 : decode bm_Field_init 45 = .ok (.putfield 24, 3) := by decide +kernel
theorem dm_Field_init_48 : decode bm_Field_init 48 = .ok (.aload_n 0, 1) := by decide +kernel
theorem dm_Field_init_49 : decode bm_Field_init 49 = .ok (.new 9, 3) := by decide +kernel
theorem dm_Field_init_52 : decode bm_Field_init 52 = .ok (.dup, 1) := by decide +kernel
theorem dm_Field_init_53 : decode bm_Field_init 53 = .ok (.invokespecial 11, 3) := by decide +kernel
theorem dm_Field_init_56 : decode bm_Field_init 56 = .ok (.putfield 27, 3) := by decide +kernel
theorem dm_Field_init_59 : decode bm_Field_init 59 = .ok (.aload_n 0, 1) := by decide +kernel
theorem dm_Field_init_60 : decode bm_Field_init 60 = .ok (.new 9, 3) := by decide +kernel
theorem dm_Field_init_63 : decode bm_Field_init 63 = .ok (.dup, 1) := by decide +kernel
theorem dm_Field_init_64 : decode bm_Field_init 64 = .ok (.invokespecial 11, 3) := by decide +kernel
theorem dm_Field_init_67 : decode bm_Field_init 67 = .ok (.putfield 30, 3) := by decide +kernel
theorem dm_Field_init_70 : decode bm_Field_init 70 = .ok (.aload_n 0, 1) := by decide +kernel
theorem dm_Field_init_71 : decode bm_Field_init 71 = .ok (.new 9, 3) := by decide +kernel
theorem dm_Field_init_74 : decode bm_Field_init 74 = .ok (.dup, 1) := by decide +kernel
theorem dm_Field_init_75 : decode bm_Field_init 75 = .ok (.invokespecial 11, 3) := by decide +kernel
theorem dm_Field_init_78 : decode bm_Field_init 78 = .ok (.putfield 33, 3) := by decide +kernel
theorem dm_Field_init_81 : decode bm_Field_init 81 = .ok (.aload_n 0, 1) := by decide +kernel
theorem dm_Field_init_82 : decode bm_Field_init 82 = .ok (.aload_n 1, 1) := by decide +kernel
theorem dm_Field_init_83 : decode bm_Field_init 83 = .ok (.putfield 36, 3) := by decide +kernel
theorem dm_Field_init_86 : decode bm_Field_init 86 = .ok (.aload_n 0, 1) := by decide +kernel
theorem dm_Field_init_87 : decode bm_Field_init 87 = .ok (.aload_n 2, 1) := by decide +kernel
theorem dm_Field_init_88 : decode bm_Field_init 88 = .ok (.putfield 40, 3) := by decide +kernel
theorem dm_Field_init_91 : decode bm_Field_init 91 = .ok (.return_, 1) := by decide +kernel
theorem dm_PP_init_0 : decode bm_PP_init 0 = .ok (.aload_n 0, 1) := by decide +kernel
theorem dm_PP_init_1 : decode bm_PP_init 1 = .ok (.invokespecial 3, 3) := by decide +kernel
theorem dm_PP_init_4 : decode bm_PP_init 4 = .ok (.aload_n 0, 1) := by decide +kernel
theorem dm_PP_init_5 : decode bm_PP_init 5 = .ok (.new 9, 3) := by decide +kernel
theorem dm_PP_init_8 : decode bm_PP_init 8 = .ok (.dup, 1) := by decide +kernel
theorem dm_PP_init_9 : decode bm_PP_init 9 = .ok (.iload_n 1, 1) := by decide +kernel
theorem dm_PP_init_10 : decode bm_PP_init 10 = .ok (.invokestatic 11, 3) := by decide +kernel
theorem dm_PP_init_13 : decode bm_PP_init 13 = .ok (.invokespecial 15, 3) := by decide +kernel
theorem dm_PP_init_16 : decode bm_PP_init 16 = .ok (.putfield 18, 3) := by decide +kernel
theorem dm_PP_init_19 : decode bm_PP_init 19 = .ok (.aload_n 0, 1) := by decide +kernel
theorem dm_PP_init_20 : decode bm_PP_init 20 = .ok (.new 22, 3) := by decide +kernel
theorem dm_PP_init_23 : decode bm_PP_init 23 = .ok (.dup, 1) := by decide +kernel
theorem dm_PP_init_24 : decode bm_PP_init 24 = .ok (.aload_n 0, 1) := by decide +kernel
theorem dm_PP_init_25 : decode bm_PP_init 25 = .ok (.getfield 18, 3) := by decide +kernel
theorem dm_PP_init_28 : decode bm_PP_init 28 = .ok (.invokespecial 24, 3) := by decide +kernel
theorem dm_PP_init_31 : decode bm_PP_init 31 = .ok (.putfield 27, 3) := by decide +kernel
theorem dm_PP_init_34 : decode bm_PP_init 34 = .ok (.aload_n 0, 1) := by decide +kernel
theorem dm_PP_init_35 : decode bm_PP_init 35 = .ok (.new 31, 3) := by decide +kernel
theorem dm_PP_init_38 : decode bm_PP_init 38 = .ok (.dup, 1) := by decide +kernel
theorem dm_PP_init_39 : decode bm_PP_init 39 = .ok (.aload_n 0, 1) := by decide +kernel
theorem dm_PP_init_40 : decode bm_PP_init 40 = .ok (.getfield 18, 3) := by decide +kernel
theorem dm_PP_init_43 : decode bm_PP_init 43 = .ok (.aload_n 0, 1) := by decide +kernel
theorem dm_PP_init_44 : decode bm_PP_init 44 = .ok (.getfield 27, 3) := by decide +kernel
theorem dm_PP_init_47 : decode bm_PP_init 47 = .ok (.invokespecial 33, 3) := by decide +kernel
theorem dm_PP_init_50 : decode bm_PP_init 50 = .ok (.putfield 36, 3) := by decide +kernel
theorem dm_PP_init_53 : decode bm_PP_init 53 = .ok (.aload_n 0, 1) := by decide +kernel
theorem dm_PP_init_54 : decode bm_PP_init 54 = .ok (.new 40, 3) := by decide +kernel
theorem dm_PP_init_57 : decode bm_PP_init 57 = .ok (.dup, 1) := by decide +kernel
theorem dm_PP_init_58 : decode bm_PP_init 58 = .ok (.aload_n 0, 1) := by decide +kernel
theorem dm_PP_init_59 : decode bm_PP_init 59 = .ok (.getfield 18, 3) := by decide +kernel
theorem dm_PP_init_62 : decode bm_PP_init 62 = .ok (.aload_n 0, 1) := by decide +kernel
theorem dm_PP_init_63 : decode bm_PP_init 63 = .ok (.getfield 27, 3) := by decide +kernel
theorem dm_PP_init_66 : decode bm_PP_init 66 = .ok (.invokespecial 42, 3) := by decide +kernel
theorem dm_PP_init_69 : decode bm_PP_init 69 = .ok (.putfield 43, 3) := by decide +kernel
theorem dm_PP_init_72 : decode bm_PP_init 72 = .ok (.aload_n 0, 1) := by decide +kernel
theorem dm_PP_init_73 : decode bm_PP_init 73 = .ok (.bipush 8, 2) := by decide +kernel
theorem dm_PP_init_75 : decode bm_PP_init 75 = .ok (.anewarray 47, 3) := by decide +kernel
theorem dm_PP_init_78 : decode bm_PP_init 78 = .ok (.putfield 49, 3) := by decide +kernel
theorem dm_PP_init_81 : decode bm_PP_init 81 = .ok (.iconst 0, 1) := by decide +kernel
theorem dm_PP_init_82 : decode bm_PP_init 82 = .ok (.istore_n 2, 1) := by decide +kernel
theorem dm_PP_init_83 : decode bm_PP_init 83 = .ok (.iload_n 2, 1) := by decide +kernel
theorem dm_PP_init_84 : decode bm_PP_init 84 = .ok (.bipush 8, 2) := by decide +kernel
theorem dm_PP_init_86 : decode bm_PP_init 86 = .ok (.if_icmp .ge 22, 3) := by decide +kernel
theorem dm_PP_init_89 : decode bm_PP_init 89 = .ok (.aload_n 0, 1) := by decide +kernel
theorem dm_PP_init_90 : decode bm_PP_init 90 = .ok (.getfield 49, 3) := by decide +kernel
theorem dm_PP_init_93 : decode bm_PP_init 93 = .ok (.iload_n 2, 1) := by decide +kernel
theorem dm_PP_init_94 : decode bm_PP_init 94 = .ok (.new 47, 3) := by decide +kernel
theorem dm_PP_init_97 : decode bm_PP_init 97 = .ok (.dup, 1) := by decide +kernel
theorem dm_PP_init_98 : decode bm_PP_init 98 = .ok (.invokespecial 53, 3) := by decide +kernel
theorem dm_PP_init_101 : decode bm_PP_init 101 = .ok (.aastore, 1) := by decide +kernel
theorem dm_PP_init_102 : decode bm_PP_init 102 = .ok (.iinc 2 1, 3) := by decide +kernel
theorem dm_PP_init_105 : decode bm_PP_init 105 = .ok (.goto (-22), 3) := by decide +kernel
theorem dm_PP_init_108 : decode bm_PP_init 108 = .ok (.return_, 1) := by decide +kernel
theorem dm_Model_init_0 : decode bm_Model_init 0 = .ok (.aload_n 0, 1) := by decide +kernel
theorem dm_Model_init_1 : decode bm_Model_init 1 = .ok (.invokespecial 1, 3) := by decide +kernel
theorem dm_Model_init_4 : decode bm_Model_init 4 = .ok (.aload_n 0, 1) := by decide +kernel
theorem dm_Model_init_5 : decode bm_Model_init 5 = .ok (.sipush 1056, 3) := by decide +kernel
theorem dm_Model_init_8 : decode bm_Model_init 8 = .ok (.newarray .int, 2) := by decide +kernel
theorem dm_Model_init_10 : decode bm_Model_init 10 = .ok (.putfield 7, 3) := by decide +kernel
theorem dm_Model_init_13 : decode bm_Model_init 13 = .ok (.aload_n 0, 1) := by decide +kernel
theorem dm_Model_init_14 : decode bm_Model_init 14 = .ok (.bipush 16, 2) := by decide +kernel
theorem dm_Model_init_16 : decode bm_Model_init 16 = .ok (.newarray .int, 2) := by decide +kernel
theorem dm_Model_init_18 : decode bm_Model_init 18 = .ok (.putfield 13, 3) := by decide +kernel
theorem dm_Model_init_21 : decode bm_Model_init 21 = .ok (.aload_n 0, 1) := by decide +kernel
theorem dm_Model_init_22 : decode bm_Model_init 22 = .ok (.bipush 16, 2) := by decide +kernel
theorem dm_Model_init_24 : decode bm_Model_init 24 = .ok (.newarray .int, 2) := by decide +kernel
theorem dm_Model_init_26 : decode bm_Model_init 26 = .ok (.putfield 16, 3) := by decide +kernel
theorem dm_Model_init_29 : decode bm_Model_init 29 = .ok (.iload_n 1, 1) := by decide +kernel
theorem dm_Model_init_30 : decode bm_Model_init 30 = .ok (.iconst 2, 1) := by decide +kernel
theorem dm_Model_init_31 : decode bm_Model_init 31 = .ok (.if_icmp .ge 7, 3) := by decide +kernel
theorem dm_Model_init_34 : decode bm_Model_init 34 = .ok (.iconst 2, 1) := by decide +kernel
theorem dm_Model_init_35 : decode bm_Model_init 35 = .ok (.goto 4, 3) := by decide +kernel
theorem dm_Model_init_38 : decode bm_Model_init 38 = .ok (.iload_n 1, 1) := by decide +kernel
theorem dm_Model_init_39 : decode bm_Model_init 39 = .ok (.istore_n 2, 1) := by decide +kernel
theorem dm_Model_init_40 : decode bm_Model_init 40 = .ok (.iload_n 2, 1) := by decide +kernel
theorem dm_Model_init_41 : decode bm_Model_init 41 = .ok (.invokestatic 19, 3) := by decide +kernel
theorem dm_Model_init_44 : decode bm_Model_init 44 = .ok (.ifCond .ne 9, 3) := by decide +kernel
theorem dm_Model_init_47 : decode bm_Model_init 47 = .ok (.iinc 2 (-1), 3) := by decide +kernel
theorem dm_Model_init_50 : decode bm_Model_init 50 = .ok (.goto (-10), 3) := by decide +kernel
theorem dm_Model_init_53 : decode bm_Model_init 53 = .ok (.aload_n 0, 1) := by decide +kernel
theorem dm_Model_init_54 : decode bm_Model_init 54 = .ok (.iload_n 2, 1) := by decide +kernel
theorem dm_Model_init_55 : decode bm_Model_init 55 = .ok (.putfield 23, 3) := by decide +kernel
theorem dm_Model_init_58 : decode bm_Model_init 58 = .ok (.return_, 1) := by decide +kernel
section OB
variable {p : Program} {l : Launch} {e : Env} {R : Room} {s : State} {m : MethodId} {args : Array Value} {below : List Frame} {meth : Method} {c : Code} {H : Heap} {locs : List Loc} {cells slots : Nat} {Q : State → Prop}
variable {cc : ByteArray} {pc : Nat} {ls : Array Slot} {rest : List Value} {D : va_G} {A : Nat → Prop} {H0 : Heap} {g g' : Nat → Nat} {nL N P : Nat} {own : String} {k : ClassId × ClassId × ClassId} {O O' : List (Nat × od_E)} {σ : st_T}
theorem oz_obj (S : pw_S p m c cc nL s args wa_g own D cl_s (ty_s k)) (hsize : ls.size = nL) {idx : Nat} (hlink : Cond.methodLink own idx Lib.objectInit ∈ wa_g) {a : Nat} (hd : decode cc pc = .ok (.invokespecial idx, 3)) (hR : 1 ≤ R.frames ∧ 20 ≤ R.locals) (hrest : (rest.map fun v => v.category).sum ≤ 8) (kk : W p l e R s m args below meth c H locs cells slots Q (F0 m (pc + 3) ls rest)) : W p l e R s m args below meth c H locs cells slots Q (F0 m pc ls (.ref a :: rest)) :=
  W.objInit (g := F0 m pc ls (.ref a :: rest)) S.1.1 S.1.2.1 S.1.2.2.2.1 (S.1.2.2.2.2 _ hlink) (S.1.2.2.2.2 _ (wa_in 18 (by decide +kernel) rfl)) (S.1.2.2.2.2 _ (wa_in 19 (by decide +kernel) rfl)) rfl (hsize.trans S.1.2.2.1.symm) rfl hd hR.1 (by
    have h := lv_room (m := m) (pc := pc) (ls := ls) (rest := .ref a :: rest) hrest
    omega) kk
end OB
set_option maxHeartbeats 4000000 in
set_option maxRecDepth 100000 in
theorem mn_Poly_init (l : Launch) (D : va_G) (k : ClassId × ClassId × ClassId) (g : Nat → Nat) (N : Nat) (E : Nat → va_E) {b : Nat} (hbN : b < N) (hE : E b = .inr (4, [.null, .int 0])) : ct_N l ym_Poly_init wm_Poly_init rn_Poly [.ref (g b)] D cl_s (ty_s k) nw_s g N E 1 31 (fun u => u.2.1 = N + 1 ∧ (∀ j, j < N → u.1 j = g j) ∧ u.2.2 b = .inr (4, [.ref (u.1 N), .int (sd_i 0)]) ∧ u.2.2 N = .inl (k.1, 31, .inl (fun _ => 0)) ∧ ∀ i, i < N → i ≠ b → u.2.2 i = E i) := by
  refine ct_N_in (cc := bm_Poly_init) (maxL := 1) (by decide) rfl (Nat.le_of_ble_eq_true rfl) ?_
  intro p e s m args below meth c A ls Q S hZ hnm hl hW hret
  have S : pw_S p m c bm_Poly_init 1 s args wa_g rc_Poly D cl_s (ty_s k) := S
  have hx := S.1.1
  have hb := S.1.2.1
  have hl : lv_has ls 1 [(0, .ref (g b))] := hl
  refine lv_aload_n hx hb dm_Poly_init_0 rfl (lv_at hl 0 rfl) ?_
  refine oz_obj S hl.1 (wa_in 39 (by decide +kernel) rfl) dm_Poly_init_1 ⟨by decide, by decide⟩ (Nat.le_of_ble_eq_true rfl) ?_
  refine lv_aload_n hx hb dm_Poly_init_4 rfl (lv_at hl 0 rfl) ?_
  refine lv_bipush (v := nI 31) hx hb dm_Poly_init_5 (by decide) ?_
  refine pw_newi (n0 := 31) S hW 0 rfl (wa_in 58 (by decide +kernel) rfl) (by decide) (by decide) (by decide) ⟨by decide, by decide⟩ dm_Poly_init_7 (fun q H1 hW1 => ?_)
  have hg : va_up g N q b = g b := va_up_ne _ _ (by omega)
  rw [← hg]
  have hE1 : va_up E N (.inl (k.1, 31, .inl (fun _ => 0))) b = .inr (4, [.null, .int 0]) := by rw [va_up_ne _ _ (by omega)]; exact hE
  refine pw_putF (v := .ref q) S hW1 ty_Poly to_Poly nm_Poly b (by omega) hE1 0 (by decide) rfl wu_Poly (wa_in 40 (by decide +kernel) rfl) rfl rfl hnm rfl (ty := .array .int) (by decide +kernel) rfl rfl (Nat.le_of_ble_eq_true rfl) dm_Poly_init_9 (fun H2 locs2 hW2 => ?_)
  refine lv_aload_n hx hb dm_Poly_init_12 rfl (lv_at hl 0 rfl) ?_
  refine lv_iconst (v := -1) hx hb dm_Poly_init_13 (by decide) ?_
  rw [← hg]
  refine pw_put (v := .int (-1)) S hW2 ty_Poly to_Poly nm_Poly b (by omega) (va_up_self _ _ _) 1 (by decide) rfl wu_Poly (wa_in 46 (by decide +kernel) rfl) rfl rfl (ty := .int) (by decide +kernel) rfl rfl (Nat.le_of_ble_eq_true rfl) dm_Poly_init_14 (fun H3 locs3 hW3 => ?_)
  refine hret _ _ _ _ _ _ _ dm_Poly_init_17 ⟨rfl, fun j hj => va_up_ne _ _ (by omega), ?_, ?_, fun i hi hib => ?_⟩ hW3
  · show va_up _ b _ b = _
    rw [va_up_self, sd_0]
    show _ = (.inr (4, [.ref (va_up g N q N), .int (-1)]) : va_E)
    rw [va_up_self]
    rfl
  · show va_up _ b _ N = _
    rw [va_up_ne _ _ (by omega), va_up_ne _ _ (by omega), va_up_self]
  · show va_up _ b _ i = _
    rw [va_up_ne _ _ hib, va_up_ne _ _ hib, va_up_ne _ _ (by omega)]
section MKP
variable {p : Program} {l : Launch} {e : Env} {R : Room} {s : State} {m : MethodId} {args : Array Value} {below : List Frame} {meth : Method} {c : Code} {H : Heap} {locs : List Loc} {cells slots : Nat} {Q : State → Prop}
variable {cc : ByteArray} {pc : Nat} {ls : Array Slot} {rest : List Value} {D : va_G} {A : Nat → Prop} {H0 : Heap} {g g' : Nat → Nat} {nL N P : Nat} {own : String} {k : ClassId × ClassId × ClassId} {O O' : List (Nat × od_E)} {σ : st_T}
/-- new Polynomial(): two cells more, as the state says -/
theorem mk_poly (S : pw_S p m c cc nL s args wa_g own D cl_s (ty_s k)) (hZ : nw_s s) (hW : pw_H D cl_s A H0 g N (en_o k g P O σ) H locs) (hkd : kd_k N = 0) (hoc : oc_b O N = true) (hO1 : od_l O N = none) (hO2 : od_l O (N + 1) = none) (h4 : ∀ t, t < 15 → σ 204 t < 117) (hz1 : σ N = fun _ => 0) (hz2 : σ 200 N = 0) {i1 i2 : Nat} (hcl : Cond.classLink own i1 rc_Poly ∈ wa_g) (hNw : va_Nw (.methodLinkNest own i2 ym_Poly_init "PrimePolynomials") s) (hR : 2 ≤ R.frames ∧ 40 ≤ R.locals) (hr : cells + 2 ≤ R.cells ∧ slots + 33 ≤ R.slots) (hsize : ls.size = nL) (hrest : (rest.map fun v => v.category).sum ≤ 7) (d1 : decode cc pc = .ok (.new i1, 3)) (d2 : decode cc (pc + 3) = .ok (.dup, 1)) (d3 : decode cc (pc + 3 + 1) = .ok (.invokespecial i2, 3))
    (kk : ∀ (g' : Nat → Nat) (H1 : Heap) (locs1 : List Loc), (∀ j, j < N → g' j = g j) → pw_H D cl_s A H0 g' (N + 2) (en_o k g' P O σ) H1 locs1 → W p l e R s m args below meth c H1 locs1 (cells + 2) (slots + 33) Q (F0 m (pc + 7) ls (.ref (g' N) :: rest))) : W p l e R s m args below meth c H locs cells slots Q (F0 m pc ls rest) := by
  have hN := (kd_po hkd).2.1
  refine oz_new S hW (by omega) hoc h4 [.n, .i 0] ty_Poly to_Poly (ci := 4) rfl wu_Poly hcl (wa_in 35 (by decide +kernel) rfl) (wa_in 3 (by decide +kernel) rfl) (fun j hj => ?_) rfl ⟨by omega, by omega⟩ d1 (fun g1 H1 hg1 hW1 => ?_)
  · match j, hj with
    | 0, _ => rfl
    | 1, _ => rfl
    | j + 2, hj => exact absurd hj (by omega)
  refine lv_dup S.1.1 S.1.2.1 d2 rfl ?_
  refine pw_callN (rest := .ref (g1 N) :: rest) (As := []) S nw_zs hZ hW1 (mn_Poly_init l D k g1 (N + 1) _ (b := N) (by omega) (by rw [en_o_s od_l_self]; rfl)) ⟨va_cnB 0 S.1.2.2.2.2 (wa_C ci_Poly_init) rfl rfl rfl hNw (S.1.2.2.2.2 _ (wa_in 3 (by decide +kernel) rfl)) (by decide +kernel) ⟨hR.1, hR.2⟩, rfl, S.1.2.2.2.2 _ (wa_in 37 (by decide +kernel) rfl)⟩ rfl hsize rfl (lv_room (by
    have e1 : (Value.ref (g1 N)).category = 1 := rfl
    rw [List.map_cons, List.sum_cons, e1]
    omega)) ⟨by show cells + 1 + 1 ≤ _; omega, by show slots + 2 + 31 ≤ _; omega⟩ d3 (fun g2 N2 E2 H2 locs2 hp hW2 => ?_)
  obtain ⟨hN2, hg2, hb2, ha2, ho2⟩ := hp
  have hN2 : N2 = N + 1 + 1 := hN2
  subst hN2
  have hg2 : ∀ j, j < N + 1 → g2 j = g1 j := hg2
  have hgg : ∀ j, j < N → g2 j = g j := fun j hj => (hg2 j (by omega)).trans (hg1 j hj)
  rw [← hg2 N (by omega)]
  refine kk g2 H2 locs2 hgg (pw_eqv hW2 (fun i hi h => ?_))
  by_cases hi1 : i = N
  · subst hi1
    rw [en_o_n hO1, en_k0 hkd, hz2]
    have e : E2 i = .inr (4, [.ref (g2 (i + 1)), .int (sd_i 0)]) := hb2
    rw [e] at h
    exact h
  · by_cases hi2 : i = N + 1
    · subst hi2
      rw [en_o_n hO2, en_ar hkd, hz1]
      have e : E2 (N + 1) = .inl (k.1, 31, .inl (fun _ => 0)) := ha2
      rw [e] at h
      exact h
    · have e : E2 i = en_o k g1 P ((N, .o 4 [.n, .i 0]) :: O) σ i := ho2 i (by omega) hi1
      rw [e] at h
      have e2 : en_o k g1 P ((N, .o 4 [.n, .i 0]) :: O) σ i = en_o k g1 P O σ i := by unfold en_o; rw [od_l_ne hi1]
      rw [e2] at h
      have h1 := oc_at hoc (show i < N by omega)
      exact en_o_gg (N := N) (by omega) hoc (fun j hj => hg2 j (by omega)) h4 (by omega) h
end MKP
