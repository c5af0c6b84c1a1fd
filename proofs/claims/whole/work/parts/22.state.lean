/-! The cells of class and reference by their numbers; the state: rows of natural numbers. Row j: the coefficients of the polynomial in cell j; 200: sizes (degree + 1) by cell; 201, 202: often, each of a part by cell; 203: P, count, lead; 204: the cells of the parts in their order; 205: the reference's p, parts, factored, lead, k; 206, 207: its often, degrees; 300 + s: its polynomial s -/
abbrev st_T : Type := Nat → Nat → Nat
def st_up (σ : st_T) (r i v : Nat) : st_T := fun a b => if a = r then (if b = i then v else σ a b) else σ a b
theorem st_up_row {σ : st_T} {r i v a : Nat} (h : a ≠ r) : st_up σ r i v a = σ a := funext (fun b => by unfold st_up; rw [if_neg h])
theorem st_up_at {σ : st_T} {r i v : Nat} : st_up σ r i v r = va_up (σ r) i v := funext (fun b => by unfold st_up va_up; rw [if_pos rfl])
def kd_l : List Nat := [2, 3, 0, 1, 0, 1, 0, 1, 0, 1, 0, 1, 0, 1, 0, 1, 0, 1, 4, 0, 1, 0, 1, 8, 0, 1, 0, 1, 0, 1, 0, 1, 0, 1, 0, 1, 0, 1, 0, 1, 0, 1, 0, 1, 0, 1, 0, 1, 0, 1, 0, 1, 0, 1, 0, 1, 0, 1, 0, 1, 0, 1, 5, 9, 0, 1, 0, 1, 0, 1, 0, 1, 10, 0, 1, 10, 0, 1, 10, 0, 1, 10, 0, 1, 10, 0, 1, 10, 0, 1, 10, 0, 1, 10, 0, 1, 10, 0, 1, 10, 0, 1, 10, 0, 1, 10, 0, 1, 10, 0, 1, 10, 0, 1, 10, 0, 1, 6, 0, 1, 0, 1, 0, 1, 0, 1, 0, 1, 0, 1, 0, 1, 7, 0, 1, 0, 1, 0, 1, 0, 1, 0, 1, 0, 1, 0, 1, 0, 1, 11, 12, 13, 14]
def kd_k (i : Nat) : Nat := kd_l.getD i 99
theorem kd_lt {i : Nat} (h : kd_k i ≠ 99) : i < 153 := Nat.lt_of_not_le (fun hle => h (by unfold kd_k; rw [List.getD_eq_getElem?_getD, List.getElem?_eq_none (show kd_l.length ≤ i from hle)]; rfl))
theorem kd_po {i : Nat} (h : kd_k i = 0) : kd_k (i + 1) = 1 ∧ i < 148 ∧ 2 ≤ i := (by decide +kernel : ∀ i, i < 153 → kd_k i = 0 → kd_k (i + 1) = 1 ∧ i < 148 ∧ 2 ≤ i) i (kd_lt (by omega)) h
theorem kd_ar {i : Nat} (h : kd_k i = 1) : kd_k (i - 1) = 0 ∧ i < 149 ∧ 3 ≤ i := (by decide +kernel : ∀ i, i < 153 → kd_k i = 1 → kd_k (i - 1) = 0 ∧ i < 149 ∧ 3 ≤ i) i (kd_lt (by omega)) h
theorem kd_pa {i : Nat} (h : kd_k i = 10) : kd_k (i + 1) = 0 ∧ i < 117 ∧ 72 ≤ i := (by decide +kernel : ∀ i, i < 153 → kd_k i = 10 → kd_k (i + 1) = 0 ∧ i < 117 ∧ 72 ≤ i) i (kd_lt (by omega)) h
def en_s (k : ClassId × ClassId × ClassId) (g : Nat → Nat) (σ : st_T) (i : Nat) : va_E :=
  if kd_k i = 0 then .inr (4, [.ref (g (i + 1)), .int (sd_i (σ 200 i))]) else
  if kd_k i = 1 then .inl (k.1, 31, .inl (fun t => nI (σ (i - 1) t))) else
  if kd_k i = 10 then .inr (2, [.ref (g (i + 1)), .int (nI (σ 201 i)), .int (nI (σ 202 i))]) else
  if kd_k i = 2 then .inr (6, [.ref (g 1), .ref (g 18), .ref (g 62), .ref (g 117), .ref (g 132)]) else
  if kd_k i = 3 then .inr (5, [.int (nI (σ 203 0)), .ref (g 2), .ref (g 4), .ref (g 6), .ref (g 8), .ref (g 10), .ref (g 12), .ref (g 14), .ref (g 16)]) else
  if kd_k i = 4 then .inr (1, [.ref (g 1), .ref (g 19), .ref (g 21), .ref (g 23), .ref (g 24), .ref (g 26), .ref (g 28), .ref (g 30)]) else
  if kd_k i = 5 then .inr (3, [.ref (g 1), .ref (g 18), .ref (g 63), .int (nI (σ 203 1)), .int (nI (σ 203 2)), .ref (g 64), .ref (g 66), .ref (g 68), .ref (g 70)]) else
  if kd_k i = 6 then .inr (0, [.ref (g 1), .ref (g 18), .ref (g 118), .ref (g 120), .ref (g 122), .ref (g 124), .ref (g 126), .ref (g 128), .ref (g 130)]) else
  if kd_k i = 7 then .inl (k.2.1, 8, .inr (.inr (.inr (.inr (fun t => some (g (133 + 2 * t))))))) else
  if kd_k i = 8 then .inl (k.2.1, 15, .inr (.inr (.inr (.inr (fun t => some (g (32 + 2 * t))))))) else
  if kd_k i = 9 then .inl (k.2.2, 15, .inr (.inr (.inr (.inr (fun t => some (g (σ 204 t))))))) else
  if kd_k i = 11 then .inr (7, [.int (nI (σ 205 0)), .ref (g 150), .int (nI (σ 205 1)), .ref (g 151), .ref (g 152), .int (nI (σ 205 2)), .int (nI (σ 205 3)), .int (nI (σ 205 4))]) else
  if kd_k i = 12 then .inl (k.1, 1056, .inl (fun t => nI (σ (300 + t / 32) (t % 32)))) else
  if kd_k i = 13 then .inl (k.1, 16, .inl (fun t => nI (σ 206 t))) else
  if kd_k i = 14 then .inl (k.1, 16, .inl (fun t => nI (σ 207 t))) else .inr (0, [])
theorem en_k0 {k : ClassId × ClassId × ClassId} {g : Nat → Nat} {σ : st_T} {i : Nat} (h : kd_k i = 0) : en_s k g σ i = .inr (4, [.ref (g (i + 1)), .int (sd_i (σ 200 i))]) := by unfold en_s; rw [ if_pos h]
theorem en_k1 {k : ClassId × ClassId × ClassId} {g : Nat → Nat} {σ : st_T} {i : Nat} (h : kd_k i = 1) : en_s k g σ i = .inl (k.1, 31, .inl (fun t => nI (σ (i - 1) t))) := by unfold en_s; rw [if_neg (show ¬ kd_k i = 0 by omega), if_pos h]
theorem en_k10 {k : ClassId × ClassId × ClassId} {g : Nat → Nat} {σ : st_T} {i : Nat} (h : kd_k i = 10) : en_s k g σ i = .inr (2, [.ref (g (i + 1)), .int (nI (σ 201 i)), .int (nI (σ 202 i))]) := by unfold en_s; rw [if_neg (show ¬ kd_k i = 0 by omega), if_neg (show ¬ kd_k i = 1 by omega), if_pos h]
theorem en_k2 {k : ClassId × ClassId × ClassId} {g : Nat → Nat} {σ : st_T} {i : Nat} (h : kd_k i = 2) : en_s k g σ i = .inr (6, [.ref (g 1), .ref (g 18), .ref (g 62), .ref (g 117), .ref (g 132)]) := by unfold en_s; rw [if_neg (show ¬ kd_k i = 0 by omega), if_neg (show ¬ kd_k i = 1 by omega), if_neg (show ¬ kd_k i = 10 by omega), if_pos h]
theorem en_k3 {k : ClassId × ClassId × ClassId} {g : Nat → Nat} {σ : st_T} {i : Nat} (h : kd_k i = 3) : en_s k g σ i = .inr (5, [.int (nI (σ 203 0)), .ref (g 2), .ref (g 4), .ref (g 6), .ref (g 8), .ref (g 10), .ref (g 12), .ref (g 14), .ref (g 16)]) := by unfold en_s; rw [if_neg (show ¬ kd_k i = 0 by omega), if_neg (show ¬ kd_k i = 1 by omega), if_neg (show ¬ kd_k i = 10 by omega), if_neg (show ¬ kd_k i = 2 by omega), if_pos h]
theorem en_k4 {k : ClassId × ClassId × ClassId} {g : Nat → Nat} {σ : st_T} {i : Nat} (h : kd_k i = 4) : en_s k g σ i = .inr (1, [.ref (g 1), .ref (g 19), .ref (g 21), .ref (g 23), .ref (g 24), .ref (g 26), .ref (g 28), .ref (g 30)]) := by unfold en_s; rw [if_neg (show ¬ kd_k i = 0 by omega), if_neg (show ¬ kd_k i = 1 by omega), if_neg (show ¬ kd_k i = 10 by omega), if_neg (show ¬ kd_k i = 2 by omega), if_neg (show ¬ kd_k i = 3 by omega), if_pos h]
theorem en_k5 {k : ClassId × ClassId × ClassId} {g : Nat → Nat} {σ : st_T} {i : Nat} (h : kd_k i = 5) : en_s k g σ i = .inr (3, [.ref (g 1), .ref (g 18), .ref (g 63), .int (nI (σ 203 1)), .int (nI (σ 203 2)), .ref (g 64), .ref (g 66), .ref (g 68), .ref (g 70)]) := by unfold en_s; rw [if_neg (show ¬ kd_k i = 0 by omega), if_neg (show ¬ kd_k i = 1 by omega), if_neg (show ¬ kd_k i = 10 by omega), if_neg (show ¬ kd_k i = 2 by omega), if_neg (show ¬ kd_k i = 3 by omega), if_neg (show ¬ kd_k i = 4 by omega), if_pos h]
theorem en_k6 {k : ClassId × ClassId × ClassId} {g : Nat → Nat} {σ : st_T} {i : Nat} (h : kd_k i = 6) : en_s k g σ i = .inr (0, [.ref (g 1), .ref (g 18), .ref (g 118), .ref (g 120), .ref (g 122), .ref (g 124), .ref (g 126), .ref (g 128), .ref (g 130)]) := by unfold en_s; rw [if_neg (show ¬ kd_k i = 0 by omega), if_neg (show ¬ kd_k i = 1 by omega), if_neg (show ¬ kd_k i = 10 by omega), if_neg (show ¬ kd_k i = 2 by omega), if_neg (show ¬ kd_k i = 3 by omega), if_neg (show ¬ kd_k i = 4 by omega), if_neg (show ¬ kd_k i = 5 by omega), if_pos h]
theorem en_k7 {k : ClassId × ClassId × ClassId} {g : Nat → Nat} {σ : st_T} {i : Nat} (h : kd_k i = 7) : en_s k g σ i = .inl (k.2.1, 8, .inr (.inr (.inr (.inr (fun t => some (g (133 + 2 * t))))))) := by unfold en_s; rw [if_neg (show ¬ kd_k i = 0 by omega), if_neg (show ¬ kd_k i = 1 by omega), if_neg (show ¬ kd_k i = 10 by omega), if_neg (show ¬ kd_k i = 2 by omega), if_neg (show ¬ kd_k i = 3 by omega), if_neg (show ¬ kd_k i = 4 by omega), if_neg (show ¬ kd_k i = 5 by omega), if_neg (show ¬ kd_k i = 6 by omega), if_pos h]
theorem en_k8 {k : ClassId × ClassId × ClassId} {g : Nat → Nat} {σ : st_T} {i : Nat} (h : kd_k i = 8) : en_s k g σ i = .inl (k.2.1, 15, .inr (.inr (.inr (.inr (fun t => some (g (32 + 2 * t))))))) := by unfold en_s; rw [if_neg (show ¬ kd_k i = 0 by omega), if_neg (show ¬ kd_k i = 1 by omega), if_neg (show ¬ kd_k i = 10 by omega), if_neg (show ¬ kd_k i = 2 by omega), if_neg (show ¬ kd_k i = 3 by omega), if_neg (show ¬ kd_k i = 4 by omega), if_neg (show ¬ kd_k i = 5 by omega), if_neg (show ¬ kd_k i = 6 by omega), if_neg (show ¬ kd_k i = 7 by omega), if_pos h]
theorem en_k9 {k : ClassId × ClassId × ClassId} {g : Nat → Nat} {σ : st_T} {i : Nat} (h : kd_k i = 9) : en_s k g σ i = .inl (k.2.2, 15, .inr (.inr (.inr (.inr (fun t => some (g (σ 204 t))))))) := by unfold en_s; rw [if_neg (show ¬ kd_k i = 0 by omega), if_neg (show ¬ kd_k i = 1 by omega), if_neg (show ¬ kd_k i = 10 by omega), if_neg (show ¬ kd_k i = 2 by omega), if_neg (show ¬ kd_k i = 3 by omega), if_neg (show ¬ kd_k i = 4 by omega), if_neg (show ¬ kd_k i = 5 by omega), if_neg (show ¬ kd_k i = 6 by omega), if_neg (show ¬ kd_k i = 7 by omega), if_neg (show ¬ kd_k i = 8 by omega), if_pos h]
theorem en_k11 {k : ClassId × ClassId × ClassId} {g : Nat → Nat} {σ : st_T} {i : Nat} (h : kd_k i = 11) : en_s k g σ i = .inr (7, [.int (nI (σ 205 0)), .ref (g 150), .int (nI (σ 205 1)), .ref (g 151), .ref (g 152), .int (nI (σ 205 2)), .int (nI (σ 205 3)), .int (nI (σ 205 4))]) := by unfold en_s; rw [if_neg (show ¬ kd_k i = 0 by omega), if_neg (show ¬ kd_k i = 1 by omega), if_neg (show ¬ kd_k i = 10 by omega), if_neg (show ¬ kd_k i = 2 by omega), if_neg (show ¬ kd_k i = 3 by omega), if_neg (show ¬ kd_k i = 4 by omega), if_neg (show ¬ kd_k i = 5 by omega), if_neg (show ¬ kd_k i = 6 by omega), if_neg (show ¬ kd_k i = 7 by omega), if_neg (show ¬ kd_k i = 8 by omega), if_neg (show ¬ kd_k i = 9 by omega), if_pos h]
theorem en_k12 {k : ClassId × ClassId × ClassId} {g : Nat → Nat} {σ : st_T} {i : Nat} (h : kd_k i = 12) : en_s k g σ i = .inl (k.1, 1056, .inl (fun t => nI (σ (300 + t / 32) (t % 32)))) := by unfold en_s; rw [if_neg (show ¬ kd_k i = 0 by omega), if_neg (show ¬ kd_k i = 1 by omega), if_neg (show ¬ kd_k i = 10 by omega), if_neg (show ¬ kd_k i = 2 by omega), if_neg (show ¬ kd_k i = 3 by omega), if_neg (show ¬ kd_k i = 4 by omega), if_neg (show ¬ kd_k i = 5 by omega), if_neg (show ¬ kd_k i = 6 by omega), if_neg (show ¬ kd_k i = 7 by omega), if_neg (show ¬ kd_k i = 8 by omega), if_neg (show ¬ kd_k i = 9 by omega), if_neg (show ¬ kd_k i = 11 by omega), if_pos h]
theorem en_k13 {k : ClassId × ClassId × ClassId} {g : Nat → Nat} {σ : st_T} {i : Nat} (h : kd_k i = 13) : en_s k g σ i = .inl (k.1, 16, .inl (fun t => nI (σ 206 t))) := by unfold en_s; rw [if_neg (show ¬ kd_k i = 0 by omega), if_neg (show ¬ kd_k i = 1 by omega), if_neg (show ¬ kd_k i = 10 by omega), if_neg (show ¬ kd_k i = 2 by omega), if_neg (show ¬ kd_k i = 3 by omega), if_neg (show ¬ kd_k i = 4 by omega), if_neg (show ¬ kd_k i = 5 by omega), if_neg (show ¬ kd_k i = 6 by omega), if_neg (show ¬ kd_k i = 7 by omega), if_neg (show ¬ kd_k i = 8 by omega), if_neg (show ¬ kd_k i = 9 by omega), if_neg (show ¬ kd_k i = 11 by omega), if_neg (show ¬ kd_k i = 12 by omega), if_pos h]
theorem en_k14 {k : ClassId × ClassId × ClassId} {g : Nat → Nat} {σ : st_T} {i : Nat} (h : kd_k i = 14) : en_s k g σ i = .inl (k.1, 16, .inl (fun t => nI (σ 207 t))) := by unfold en_s; rw [if_neg (show ¬ kd_k i = 0 by omega), if_neg (show ¬ kd_k i = 1 by omega), if_neg (show ¬ kd_k i = 10 by omega), if_neg (show ¬ kd_k i = 2 by omega), if_neg (show ¬ kd_k i = 3 by omega), if_neg (show ¬ kd_k i = 4 by omega), if_neg (show ¬ kd_k i = 5 by omega), if_neg (show ¬ kd_k i = 6 by omega), if_neg (show ¬ kd_k i = 7 by omega), if_neg (show ¬ kd_k i = 8 by omega), if_neg (show ¬ kd_k i = 9 by omega), if_neg (show ¬ kd_k i = 11 by omega), if_neg (show ¬ kd_k i = 12 by omega), if_neg (show ¬ kd_k i = 13 by omega), if_pos h]
theorem en_PP {k : ClassId × ClassId × ClassId} {g : Nat → Nat} {σ : st_T} : en_s k g σ 0 = .inr (6, [.ref (g 1), .ref (g 18), .ref (g 62), .ref (g 117), .ref (g 132)]) := en_k2 (i := 0) rfl
theorem en_Ring {k : ClassId × ClassId × ClassId} {g : Nat → Nat} {σ : st_T} : en_s k g σ 1 = .inr (5, [.int (nI (σ 203 0)), .ref (g 2), .ref (g 4), .ref (g 6), .ref (g 8), .ref (g 10), .ref (g 12), .ref (g 14), .ref (g 16)]) := en_k3 (i := 1) rfl
theorem en_Frob {k : ClassId × ClassId × ClassId} {g : Nat → Nat} {σ : st_T} : en_s k g σ 18 = .inr (1, [.ref (g 1), .ref (g 19), .ref (g 21), .ref (g 23), .ref (g 24), .ref (g 26), .ref (g 28), .ref (g 30)]) := en_k4 (i := 18) rfl
theorem en_Parts {k : ClassId × ClassId × ClassId} {g : Nat → Nat} {σ : st_T} : en_s k g σ 62 = .inr (3, [.ref (g 1), .ref (g 18), .ref (g 63), .int (nI (σ 203 1)), .int (nI (σ 203 2)), .ref (g 64), .ref (g 66), .ref (g 68), .ref (g 70)]) := en_k5 (i := 62) rfl
theorem en_Field {k : ClassId × ClassId × ClassId} {g : Nat → Nat} {σ : st_T} : en_s k g σ 117 = .inr (0, [.ref (g 1), .ref (g 18), .ref (g 118), .ref (g 120), .ref (g 122), .ref (g 124), .ref (g 126), .ref (g 128), .ref (g 130)]) := en_k6 (i := 117) rfl
theorem en_registers {k : ClassId × ClassId × ClassId} {g : Nat → Nat} {σ : st_T} : en_s k g σ 132 = .inl (k.2.1, 8, .inr (.inr (.inr (.inr (fun t => some (g (133 + 2 * t))))))) := en_k7 (i := 132) rfl
theorem en_images {k : ClassId × ClassId × ClassId} {g : Nat → Nat} {σ : st_T} : en_s k g σ 23 = .inl (k.2.1, 15, .inr (.inr (.inr (.inr (fun t => some (g (32 + 2 * t))))))) := en_k8 (i := 23) rfl
theorem en_list {k : ClassId × ClassId × ClassId} {g : Nat → Nat} {σ : st_T} : en_s k g σ 63 = .inl (k.2.2, 15, .inr (.inr (.inr (.inr (fun t => some (g (σ 204 t))))))) := en_k9 (i := 63) rfl
theorem en_Model {k : ClassId × ClassId × ClassId} {g : Nat → Nat} {σ : st_T} : en_s k g σ 149 = .inr (7, [.int (nI (σ 205 0)), .ref (g 150), .int (nI (σ 205 1)), .ref (g 151), .ref (g 152), .int (nI (σ 205 2)), .int (nI (σ 205 3)), .int (nI (σ 205 4))]) := en_k11 (i := 149) rfl
theorem en_mc {k : ClassId × ClassId × ClassId} {g : Nat → Nat} {σ : st_T} : en_s k g σ 150 = .inl (k.1, 1056, .inl (fun t => nI (σ (300 + t / 32) (t % 32)))) := en_k12 (i := 150) rfl
theorem en_moften {k : ClassId × ClassId × ClassId} {g : Nat → Nat} {σ : st_T} : en_s k g σ 151 = .inl (k.1, 16, .inl (fun t => nI (σ 206 t))) := en_k13 (i := 151) rfl
theorem en_mdegrees {k : ClassId × ClassId × ClassId} {g : Nat → Nat} {σ : st_T} : en_s k g σ 152 = .inl (k.1, 16, .inl (fun t => nI (σ 207 t))) := en_k14 (i := 152) rfl
theorem en_ar {k : ClassId × ClassId × ClassId} {g : Nat → Nat} {σ : st_T} {j : Nat} (h : kd_k j = 0) : en_s k g σ (j + 1) = .inl (k.1, 31, .inl (fun t => nI (σ j t))) := by rw [en_k1 (kd_po h).1, Nat.add_sub_cancel]
theorem kd_all {i : Nat} (h : i < 153) : kd_k i = 0 ∨ kd_k i = 1 ∨ kd_k i = 10 ∨ kd_k i = 2 ∨ kd_k i = 3 ∨ kd_k i = 4 ∨ kd_k i = 5 ∨ kd_k i = 6 ∨ kd_k i = 7 ∨ kd_k i = 8 ∨ kd_k i = 9 ∨ kd_k i = 11 ∨ kd_k i = 12 ∨ kd_k i = 13 ∨ kd_k i = 14 := (by decide +kernel : ∀ i, i < 153 → (kd_k i = 0 ∨ kd_k i = 1 ∨ kd_k i = 10 ∨ kd_k i = 2 ∨ kd_k i = 3 ∨ kd_k i = 4 ∨ kd_k i = 5 ∨ kd_k i = 6 ∨ kd_k i = 7 ∨ kd_k i = 8 ∨ kd_k i = 9 ∨ kd_k i = 11 ∨ kd_k i = 12 ∨ kd_k i = 13 ∨ kd_k i = 14)) i h
/-- two states that agree on the rows that cell i shows -/
theorem en_cg {k : ClassId × ClassId × ClassId} {g : Nat → Nat} {σ τ : st_T} {i : Nat} (hi : i < 153) (h0 : kd_k i = 0 → σ 200 i = τ 200 i) (h1 : kd_k i = 1 → σ (i - 1) = τ (i - 1)) (h2 : kd_k i = 10 → σ 201 i = τ 201 i ∧ σ 202 i = τ 202 i) (h3 : kd_k i = 3 → σ 203 0 = τ 203 0) (h4 : kd_k i = 5 → σ 203 1 = τ 203 1 ∧ σ 203 2 = τ 203 2) (h5 : kd_k i = 9 → σ 204 = τ 204) (h6 : kd_k i = 11 → σ 205 = τ 205) (h7 : kd_k i = 12 → ∀ a, 300 ≤ a → σ a = τ a) (h8 : kd_k i = 13 → σ 206 = τ 206) (h9 : kd_k i = 14 → σ 207 = τ 207) : en_s k g σ i = en_s k g τ i := by
  rcases kd_all hi with h | h | h | h | h | h | h | h | h | h | h | h | h | h | h
  · rw [en_k0 h, en_k0 h, h0 h]
  · rw [en_k1 h, en_k1 h, h1 h]
  · rw [en_k10 h, en_k10 h, (h2 h).1, (h2 h).2]
  · rw [en_k2 h, en_k2 h]
  · rw [en_k3 h, en_k3 h, h3 h]
  · rw [en_k4 h, en_k4 h]
  · rw [en_k5 h, en_k5 h, (h4 h).1, (h4 h).2]
  · rw [en_k6 h, en_k6 h]
  · rw [en_k7 h, en_k7 h]
  · rw [en_k8 h, en_k8 h]
  · rw [en_k9 h, en_k9 h, h5 h]
  · rw [en_k11 h, en_k11 h, h6 h]
  · rw [en_k12 h, en_k12 h]
    have e : (fun t => nI (σ (300 + t / 32) (t % 32))) = fun t => nI (τ (300 + t / 32) (t % 32)) := funext (fun t => by rw [h7 h _ (by omega)])
    rw [e]
  · rw [en_k13 h, en_k13 h, h8 h]
  · rw [en_k14 h, en_k14 h, h9 h]
theorem en_up_dg {k : ClassId × ClassId × ClassId} {g : Nat → Nat} {σ : st_T} {j v : Nat} (h : kd_k j = 0) : ∀ i, i < 153 → va_up (en_s k g σ) (j) (.inr (4, [.ref (g (j + 1)), .int (sd_i v)])) i = en_s k g (st_up σ 200 j v) i := by
  intro i hi
  by_cases hit : i = j
  · subst hit
    rw [va_up_self, en_k0 h, st_up_at, va_up_self]
  · rw [va_up_ne _ _ hit]
    refine en_cg hi (fun _ => ?_) (fun hk => ?_) (fun _ => ⟨?_, ?_⟩) (fun _ => ?_) (fun _ => ⟨?_, ?_⟩) (fun _ => ?_) (fun _ => ?_) (fun _ a ha => ?_) (fun _ => ?_) (fun _ => ?_)
    · rw [st_up_at, va_up_ne _ _ hit]
    · have := (kd_ar hk).2.1; rw [st_up_row (by omega)]
    · rw [st_up_row (by omega)]
    · rw [st_up_row (by omega)]
    · rw [st_up_row (by omega)]
    · rw [st_up_row (by omega)]
    · rw [st_up_row (by omega)]
    · rw [st_up_row (by omega)]
    · rw [st_up_row (by omega)]
    · rw [st_up_row (by omega)]
    · rw [st_up_row (by omega)]
    · rw [st_up_row (by omega)]
theorem en_up_cf {k : ClassId × ClassId × ClassId} {g : Nat → Nat} {σ : st_T} {j t v : Nat} (h : kd_k j = 0) : ∀ i, i < 153 → va_up (en_s k g σ) (j + 1) (.inl (k.1, 31, .inl (upd (fun t => nI (σ j t)) t (nI v)))) i = en_s k g (st_up σ j t v) i := by
  intro i hi
  by_cases hit : i = j + 1
  · subst hit
    rw [va_up_self, en_ar h, st_up_at]
    have e : upd (fun t => nI (σ j t)) t (nI v) = fun s => nI (va_up (σ j) t v s) := funext (fun s => by
      unfold upd va_up
      split <;> rfl)
    rw [e]
  · rw [va_up_ne _ _ hit]
    have hj := kd_po h
    refine en_cg hi (fun _ => ?_) (fun hk => ?_) (fun _ => ⟨?_, ?_⟩) (fun _ => ?_) (fun _ => ⟨?_, ?_⟩) (fun _ => ?_) (fun _ => ?_) (fun _ a ha => ?_) (fun _ => ?_) (fun _ => ?_)
    · rw [st_up_row (by omega)]
    · have := (kd_ar hk).2; rw [st_up_row (by omega)]
    · rw [st_up_row (by omega)]
    · rw [st_up_row (by omega)]
    · rw [st_up_row (by omega)]
    · rw [st_up_row (by omega)]
    · rw [st_up_row (by omega)]
    · rw [st_up_row (by omega)]
    · rw [st_up_row (by omega)]
    · rw [st_up_row (by omega)]
    · rw [st_up_row (by omega)]
    · rw [st_up_row (by omega)]
/-- polynomial j becomes f -/
def st_po (σ : st_T) (j : Nat) (f : Nat → Nat) : st_T := fun a b => if a = j then f b else if a = 200 ∧ b = j then sp_sz f 31 else σ a b
