/-! Rows: what writes -/
def rsz (w : am_W) (i j ro wi s : Nat) : am_W := w.set i (.inr (4, [.int (nI ro), .int (nI wi), .ref j, .int (nI s)]))
def rar (w : am_W) (j n : Nat) (g : Nat → Int32) : am_W := w.set j (.inl (0, n, .inl g))
def cpy (g f : Nat → Int32) (n : Nat) : Nat → Int32 := fun t => if t < n then g t else f t
def rs_go (f : Nat → Int32) (wi c : Nat) : Nat → Nat → Int32 → Int32
  | 0, _, a => a
  | n + 1, r, a => rs_go f wi c n (r + 1) (a + f (r * wi + c))
def shf (f : Nat → Int32) (wi t : Nat) : Nat → Int32 := fun u => if u < t then f (u + wi) else f u
theorem shf_0 (f : Nat → Int32) (wi : Nat) : shf f wi 0 = f := by funext u; simp [shf]
theorem shf_at (f : Nat → Int32) (wi t : Nat) : shf f wi t (t + wi) = f (t + wi) := by
  unfold shf
  rw [if_neg (by omega)]
theorem shf_upd (f : Nat → Int32) (wi t : Nat) : upd (shf f wi t) t (f (t + wi)) = shf f wi (t + 1) := by
  funext u
  unfold upd shf
  by_cases h : u = t
  · subst h; simp
  · by_cases h2 : u < t
    · simp [h, h2, Nat.lt_succ_of_lt h2]
    · rw [if_neg h, if_neg h2, if_neg (by omega)]
theorem cpy_0 (g f : Nat → Int32) : cpy g f 0 = f := by funext u; simp [cpy]
theorem cpy_upd (g f : Nat → Int32) (t : Nat) : upd (cpy g f t) t (g t) = cpy g f (t + 1) := by
  funext u
  unfold upd cpy
  by_cases h : u = t
  · subst h; simp
  · by_cases h2 : u < t
    · simp [h, h2, Nat.lt_succ_of_lt h2]
    · rw [if_neg h, if_neg h2, if_neg (by omega)]
theorem set_self {w : am_W} {p : Nat} {c : va_E} (h : w[p]? = some c) : w.set p c = w := by
  obtain ⟨hlt, e⟩ := List.getElem?_eq_some_iff.mp h
  rw [← e, List.set_getElem_self]
def imin (a b : Int32) : Int32 := if b < a then b else a
def imax (a b : Int32) : Int32 := if a < b then b else a
theorem imin_nI {a b : Nat} (ha : a < 2 ^ 31) (hb : b < 2 ^ 31) : imin (nI a) (nI b) = nI (min a b) := by
  unfold imin
  simp only [nI_ltN hb ha]
  by_cases q : b < a
  · rw [if_pos q, Nat.min_eq_right (by omega)]
  · rw [if_neg q, Nat.min_eq_left (by omega)]
theorem imax_nI {a b : Nat} (ha : a < 2 ^ 31) (hb : b < 2 ^ 31) : imax (nI a) (nI b) = nI (max a b) := by
  unfold imax
  simp only [nI_ltN ha hb]
  by_cases q : a < b
  · rw [if_pos q, Nat.max_eq_right (by omega)]
  · rw [if_neg q, Nat.max_eq_left (by omega)]
section ROWSB
variable {X : am_X} {d : Nat} {Q : am_Q} {w : am_W} {i j ro wi sz : Nat} {f : Nat → Int32}
theorem RowsAt.ij (h : RowsAt w i j ro wi sz f) : i ≠ j := by
  intro e
  subst e
  have := h.1.symm.trans h.2.1
  cases this
theorem RowsAt.onA (h : RowsAt w i j ro wi sz f) (g : Nat → Int32) : RowsAt (rar w j (ro * wi) g) i j ro wi sz g :=
  ⟨(set_ne h.ij.symm).trans h.1, set_at h.2.1, h.2.2⟩
theorem RowsAt.onS (h : RowsAt w i j ro wi sz f) {s : Nat} (hs : s ≤ ro) : RowsAt (rsz w i j ro wi s) i j ro wi s f :=
  ⟨set_at h.1, (set_ne h.ij).trans h.2.1, h.2.2.1, h.2.2.2.1, hs, h.2.2.2.2.2⟩
theorem RowsAt.oth {w' : am_W} (h : RowsAt w i j ro wi sz f) (h1 : w'[i]? = w[i]?) (h2 : w'[j]? = w[j]?) : RowsAt w' i j ro wi sz f := ⟨h1.trans h.1, h2.trans h.2.1, h.2.2⟩
theorem RowsAt.pu (h : RowsAt w i j ro wi sz f) (s : Nat) : am_put w i 3 (.int (nI s)) = rsz w i j ro wi s := put_at h.1
theorem RowsAt.as (h : RowsAt w i j ro wi sz f) (t : Nat) (x : Int32) : am_ast w j t x = rar w j (ro * wi) (upd f t x) := ast_at h.2.1
theorem rows_set (h : RowsAt w i j ro wi sz f) {r c : Nat} {v : Int32} (hr : r < sz) (hc : c < wi) : Cl X (d + 1) 35 [.ref i, .int (nI r), .int (nI c), .int v] w Q = Q none (rar w j (ro * wi) (upd f (r * wi + c) v)) := by
  have hb := h.big
  have h5 := h.2.2.2.2.1
  have h6 := h.2.2.2.2.2.1
  have h7 := h.2.2.2.2.2.2
  have hcell : r * wi + c < ro * wi := by
    have : (r + 1) * wi ≤ ro * wi := Nat.mul_le_mul_right _ (by omega)
    rw [Nat.succ_mul] at this
    omega
  rw [e35]
  simp only [s35_0, s35_1, s35_2, s35_5, s35_6, s35_7, s35_8, s35_10, s35_11, s35_14, s35_15, s35_16, s35_19, s35_22, s35_23, s35_26, s35_27, s35_28, s35_31, s35_34, s35_36, s35_37, s35_40, s35_41, s35_44, s35_45, s35_48, s35_50, s35_51, s35_52, h.f1, h.f2, h.f3, h.ar, h.i1, h.j1, OpV_some, OpN_some, OpA_some, OpR_some, Option.toList_some, Option.toList_none, List.cons_append, List.nil_append, true_and, and_true, nI11, or_true, true_or, or_false, false_or, pk_mul, nI_add, nI_lt0 (show r < 2 ^ 31 by omega), nI_lt0 (show c < 2 ^ 31 by omega), nI_ltN (show r < 2 ^ 31 by omega) (show sz < 2 ^ 31 by omega), nI_ltN (show c < 2 ^ 31 by omega) (show wi < 2 ^ 31 by omega), nI_ltN (show r * wi + c < 2 ^ 31 by omega) (show ro * wi < 2 ^ 31 by omega), hr, hc, hcell, if_true, if_false, true_or, nI1z, in_nI hcell (show ro * wi < 2 ^ 31 by omega), cl_nI (show r * wi + c < 2 ^ 31 by omega), h.as]
theorem rows_sum_loop (h : RowsAt w i j ro wi sz f) {c : Nat} (hc : c < wi) : ∀ (n r : Nat) (a : Int32), r + n = sz → Wp X (Cl X (d + 1)) 36 Q (4, [some (.ref i), some (.int (nI c)), some (.int a), some (.int (nI r))], [], w, 0, 0) = Q (some (.int (rs_go f wi c n r a))) w
  | 0, r, a, e => by
    have h5 := h.2.2.2.2.1
    have h6 := h.2.2.2.2.2.1
    rw [s36_4]
    simp only [s36_0, s36_1, s36_2, s36_3, s36_5, s36_6, s36_9, s36_12, s36_13, s36_14, s36_15, s36_16, s36_19, s36_20, s36_21, s36_24, s36_27, s36_28, h.f3, h.i1, OpV_some, OpN_some, OpA_some, OpR_some, Option.toList_some, Option.toList_none, List.cons_append, List.nil_append, true_and, and_true, nI11, or_true, true_or, or_false, false_or, nI_ltN (show r < 2 ^ 31 by omega) (show sz < 2 ^ 31 by omega), show ¬ r < sz by omega, if_false, rs_go]
  | n + 1, r, a, e => by
    have h5 := h.2.2.2.2.1
    have h6 := h.2.2.2.2.2.1
    have ih := rows_sum_loop h hc n (r + 1) (a + f (r * wi + c)) (by omega)
    rw [s36_4]
    simp only [s36_0, s36_1, s36_2, s36_3, s36_5, s36_6, s36_9, s36_12, s36_13, s36_14, s36_15, s36_16, s36_19, s36_20, s36_21, s36_24, s36_27, s36_28, h.f3, h.i1, h.cl, OpV_some, OpN_some, OpA_some, OpR_some, Option.toList_some, Option.toList_none, List.cons_append, List.nil_append, true_and, and_true, nI11, or_true, true_or, or_false, false_or, nI_ltN (show r < 2 ^ 31 by omega) (show sz < 2 ^ 31 by omega), show r < sz by omega, if_true, rows_get h (show r < sz by omega) hc, nI_add]
    exact ih
theorem rows_sum (h : RowsAt w i j ro wi sz f) {c : Nat} (hc : c < wi) : Cl X (d + 2) 36 [.ref i, .int (nI c)] w Q = Q (some (.int (rs_go f wi c sz 0 (nI 0)))) w := by
  rw [e36]
  simp only [s36_0, s36_1, s36_2, s36_3, s36_5, s36_6, s36_9, s36_12, s36_13, s36_14, s36_15, s36_16, s36_19, s36_20, s36_21, s36_24, s36_27, s36_28]
  exact rows_sum_loop h hc sz 0 (nI 0) (by omega)
theorem rows_empty (h : RowsAt w i j ro wi sz f) : Cl X (d + 1) 37 [.ref i] w Q = Q none (rsz w i j ro wi 0) := by
  rw [e37]
  simp only [s37_0, s37_1, s37_2, s37_5, h.f3, h.i1, h.pu, OpV_some, OpN_some, OpA_some, OpR_some, Option.toList_some, Option.toList_none, List.cons_append, List.nil_append, true_and, and_true, nI11, or_true, true_or, or_false, false_or]
theorem rows_add (h : RowsAt w i j ro wi sz f) : Cl X (d + 1) 38 [.ref i] w Q = if sz < ro then Q (some (.int (nI 1))) (rsz w i j ro wi (sz + 1)) else Q (some (.int (nI 0))) w := by
  have h5 := h.2.2.2.2.1
  have h6 := h.2.2.2.2.2.1
  rw [e38]
  simp only [s38_0, s38_1, s38_4, s38_5, s38_8, s38_11, s38_12, s38_13, s38_14, s38_15, s38_18, s38_19, s38_20, s38_23, s38_24, h.f0, h.f3, h.i1, h.pu, OpV_some, OpN_some, OpA_some, OpR_some, Option.toList_some, Option.toList_none, List.cons_append, List.nil_append, true_and, and_true, nI11, or_true, true_or, or_false, false_or, nI_ltN (show sz < 2 ^ 31 by omega) (show ro < 2 ^ 31 by omega), nI_add, b01_0, b01_1]
theorem rows_drop (h : RowsAt w i j ro wi sz f) (hs : 0 < sz) : Cl X (d + 1) 40 [.ref i] w Q = Q none (rsz w i j ro wi (sz - 1)) := by
  have h5 := h.2.2.2.2.1
  have h6 := h.2.2.2.2.2.1
  rw [e40]
  simp only [s40_0, s40_1, s40_4, s40_7, s40_8, s40_9, s40_12, s40_13, s40_14, s40_17, h.f3, h.i1, h.pu, OpV_some, OpN_some, OpA_some, OpR_some, Option.toList_some, Option.toList_none, List.cons_append, List.nil_append, true_and, and_true, nI11, or_true, true_or, or_false, false_or, nI_gt0 (show sz < 2 ^ 31 by omega), hs, if_true, nI_subN (show 1 ≤ sz by omega)]
theorem rows_addL_loop : ∀ (n t : Nat) (w : am_W), RowsAt w i j ro wi ro (shf f wi t) → t + wi + n = ro * wi → Wp X (Cl X (d + 1)) 39 Q (10, [some (.ref i), some (.int (nI t))], [], w, 0, 0) = Q none (rar w j (ro * wi) (shf f wi (t + n)))
  | 0, t, w, h, e => by
    have hb := h.big
    rw [s39_10]
    simp only [s39_0, s39_1, s39_4, s39_7, s39_8, s39_9, s39_11, s39_12, s39_15, s39_16, s39_17, s39_20, s39_21, s39_24, s39_25, s39_28, s39_29, s39_30, s39_33, s39_34, s39_35, s39_38, s39_39, s39_40, s39_41, s39_44, s39_47, h.f1, h.f2, h.i1, h.j1, h.ar, OpV_some, OpN_some, OpA_some, OpR_some, Option.toList_some, Option.toList_none, List.cons_append, List.nil_append, true_and, and_true, nI11, or_true, true_or, or_false, false_or, nI_add, nI_ltN (show t + wi < 2 ^ 31 by omega) (show ro * wi < 2 ^ 31 by omega), show ¬ t + wi < ro * wi by omega, if_false, true_or]
    have : rar w j (ro * wi) (shf f wi (t + 0)) = w := by
      unfold rar
      rw [Nat.add_zero]
      exact set_self h.2.1
    rw [this]
  | n + 1, t, w, h, e => by
    have hb := h.big
    have ih := rows_addL_loop n (t + 1) (rar w j (ro * wi) (shf f wi (t + 1))) (h.onA _) (by omega)
    rw [s39_10]
    simp only [s39_0, s39_1, s39_4, s39_7, s39_8, s39_9, s39_11, s39_12, s39_15, s39_16, s39_17, s39_20, s39_21, s39_24, s39_25, s39_28, s39_29, s39_30, s39_33, s39_34, s39_35, s39_38, s39_39, s39_40, s39_41, s39_44, s39_47, h.f1, h.f2, h.i1, h.j1, h.ar, OpV_some, OpN_some, OpA_some, OpR_some, Option.toList_some, Option.toList_none, List.cons_append, List.nil_append, true_and, and_true, nI11, or_true, true_or, or_false, false_or, nI_add, nI_ltN (show t + wi < 2 ^ 31 by omega) (show ro * wi < 2 ^ 31 by omega), show t + wi < ro * wi by omega, if_true, true_or, in_nI (show t + wi < ro * wi by omega) (show ro * wi < 2 ^ 31 by omega), in_nI (show t < ro * wi by omega) (show ro * wi < 2 ^ 31 by omega), cl_nI (show t + wi < 2 ^ 31 by omega), cl_nI (show t < 2 ^ 31 by omega), h.as, shf_at, shf_upd]
    rw [ih]
    unfold rar
    rw [List.set_set, show t + 1 + n = t + (n + 1) by omega]
theorem rows_addL (h : RowsAt w i j ro wi sz f) (hwi : wi ≤ ro * wi) : Cl X (d + 2) 39 [.ref i] w Q = if sz < ro then Q none (rsz w i j ro wi (sz + 1)) else Q none (rar w j (ro * wi) (shf f wi (ro * wi - wi))) := by
  have h5 := h.2.2.2.2.1
  rw [e39]
  simp only [s39_0, s39_1, s39_4, s39_7, s39_8, s39_9, s39_11, s39_12, s39_15, s39_16, s39_17, s39_20, s39_21, s39_24, s39_25, s39_28, s39_29, s39_30, s39_33, s39_34, s39_35, s39_38, s39_39, s39_40, s39_41, s39_44, s39_47, h.i1, h.cl, OpV_some, OpN_some, OpA_some, OpR_some, Option.toList_some, Option.toList_none, List.cons_append, List.nil_append, true_and, and_true, nI11, or_true, true_or, or_false, false_or, rows_add h, nI1z, nI0z, if_true, if_false]
  by_cases hs : sz < ro
  · simp only [hs, if_true]
  · simp only [hs, if_false]
    have e : sz = ro := by omega
    subst e
    have := rows_addL_loop (X := X) (d := d) (Q := Q) (i := i) (j := j) (ro := sz) (wi := wi) (f := f) (sz * wi - wi) 0 w (by rw [shf_0]; exact h) (by omega)
    rw [Nat.zero_add] at this
    exact this
theorem math_min (a b : Int32) : Cl X (d + 1) 145 [.int a, .int b] w Q = Q (some (.int (imin a b))) w := by
  unfold imin
  rw [e145]
  simp only [s145_0, s145_1, s145_2, s145_5, s145_6, s145_9, s145_10, OpV_some, OpN_some, OpA_some, OpR_some, Option.toList_some, Option.toList_none, List.cons_append, List.nil_append, true_and, and_true, nI11, or_true, true_or, or_false, false_or]
  by_cases h : b < a <;> simp only [h, if_true, if_false]
theorem math_max (a b : Int32) : Cl X (d + 1) 144 [.int a, .int b] w Q = Q (some (.int (imax a b))) w := by
  unfold imax
  rw [e144]
  simp only [s144_0, s144_1, s144_2, s144_5, s144_6, s144_9, s144_10, OpV_some, OpN_some, OpA_some, OpR_some, Option.toList_some, Option.toList_none, List.cons_append, List.nil_append, true_and, and_true, nI11, or_true, true_or, or_false, false_or]
  by_cases h : a < b <;> simp only [h, if_true, if_false]
theorem rows_copy_loop {i2 j2 ro2 sz2 : Nat} {g : Nat → Int32} {n0 : Nat} (hn0 : n0 ≤ ro * wi) (hn2 : n0 ≤ ro2 * wi) (hj : j ≠ j2) (hi2 : i2 ≠ j) : ∀ (n t : Nat) (w : am_W), RowsAt w i j ro wi sz (cpy g f t) → RowsAt w i2 j2 ro2 wi sz2 g → t + n = n0 → Wp X (Cl X (d + 1)) 41 Q (31, [some (.ref i), some (.ref i2), some (.int (nI n0)), some (.int (nI t))], [], w, 0, 0) = Q none (rar w j (ro * wi) (cpy g f n0))
  | 0, t, w, h, h2, e => by
    have hb := h.big
    rw [s41_31]
    simp only [s41_0, s41_1, s41_2, s41_5, s41_6, s41_9, s41_12, s41_15, s41_16, s41_19, s41_20, s41_21, s41_24, s41_25, s41_28, s41_29, s41_30, s41_32, s41_33, s41_36, s41_37, s41_40, s41_41, s41_42, s41_45, s41_46, s41_47, s41_48, s41_51, s41_54, OpV_some, OpN_some, OpA_some, OpR_some, Option.toList_some, Option.toList_none, List.cons_append, List.nil_append, true_and, and_true, nI11, or_true, true_or, or_false, false_or, nI_ltN (show t < 2 ^ 31 by omega) (show n0 < 2 ^ 31 by omega), show ¬ t < n0 by omega, if_false]
    have : rar w j (ro * wi) (cpy g f n0) = w := by
      unfold rar
      rw [show n0 = t by omega]
      exact set_self h.2.1
    rw [this]
  | n + 1, t, w, h, h2, e => by
    have hb := h.big
    have hb2 := h2.big
    have ih := rows_copy_loop hn0 hn2 hj hi2 n (t + 1) (rar w j (ro * wi) (cpy g f (t + 1))) (h.onA _) (h2.oth (set_ne (Ne.symm hi2)) (set_ne hj)) (by omega)
    rw [s41_31]
    simp only [s41_0, s41_1, s41_2, s41_5, s41_6, s41_9, s41_12, s41_15, s41_16, s41_19, s41_20, s41_21, s41_24, s41_25, s41_28, s41_29, s41_30, s41_32, s41_33, s41_36, s41_37, s41_40, s41_41, s41_42, s41_45, s41_46, s41_47, s41_48, s41_51, s41_54, h.f2, h.i1, h.j1, h.ar, h2.f2, h2.i1, h2.j1, h2.ar, OpV_some, OpN_some, OpA_some, OpR_some, Option.toList_some, Option.toList_none, List.cons_append, List.nil_append, true_and, and_true, nI11, or_true, true_or, or_false, false_or, nI_ltN (show t < 2 ^ 31 by omega) (show n0 < 2 ^ 31 by omega), show t < n0 by omega, if_true, in_nI (show t < ro * wi by omega) (show ro * wi < 2 ^ 31 by omega), in_nI (show t < ro2 * wi by omega) (show ro2 * wi < 2 ^ 31 by omega), cl_nI (show t < 2 ^ 31 by omega), h.as, cpy_upd, nI_add]
    rw [ih]
    unfold rar
    rw [List.set_set]
/-- one table becomes as another of the same shape -/
theorem rows_copy {i2 j2 sz2 : Nat} {g : Nat → Int32} (h : RowsAt w i j ro wi sz f) (h2 : RowsAt w i2 j2 ro wi sz2 g) (hi : i ≠ i2) (hj : j ≠ j2) (hi2 : i2 ≠ j) (hj2 : i ≠ j2) : Cl X (d + 2) 41 [.ref i, .ref i2] w Q = Q none (rar (rsz w i j ro wi sz2) j (ro * wi) (cpy g f (ro * wi))) := by
  have hb := h.big
  have h5 := h2.2.2.2.2.1
  have h6 := h.2.2.2.2.2.1
  have hA := h.onS h5
  have hB : RowsAt (rsz w i j ro wi sz2) i2 j2 ro wi sz2 g := h2.oth (set_ne hi) (set_ne hj2)
  have e1 : imin (nI ro) (nI sz2) = nI sz2 := by rw [imin_nI (by omega) (by omega), Nat.min_eq_right h5]
  have e2 : imin (nI (ro * wi)) (nI (ro * wi)) = nI (ro * wi) := by rw [imin_nI (by omega) (by omega), Nat.min_self]
  rw [e41]
  simp only [s41_0, s41_1, s41_2, s41_5, s41_6, s41_9, s41_12, s41_15, s41_16, s41_19, s41_20, s41_21, s41_24, s41_25, s41_28, s41_29, s41_30, s41_32, s41_33, s41_36, s41_37, s41_40, s41_41, s41_42, s41_45, s41_46, s41_47, s41_48, s41_51, s41_54, h.f0, h.i1, h2.f3, h2.i1, math_min, e1, h.f3, h.pu, OpV_some, OpN_some, OpA_some, OpR_some, Option.toList_some, Option.toList_none, List.cons_append, List.nil_append, true_and, and_true, nI11, or_true, true_or, or_false, false_or, hA.f2, hA.i1, hA.j1, hA.ar, hB.f2, hB.j1, hB.ar, true_or, e2]
  exact rows_copy_loop (Nat.le_refl _) (Nat.le_refl _) hj hi2 (ro * wi) 0 _ (by rw [cpy_0]; exact hA) hB (by omega)
end ROWSB
