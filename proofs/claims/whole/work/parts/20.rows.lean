/-! numbers -/
theorem b01_0 : (nI 0 = 0 ∨ nI 0 = 1) = True := by decide
theorem b01_1 : (nI 1 = 0 ∨ nI 1 = 1) = True := by decide
theorem nIz : nI 0 = 0 := rfl
theorem nI1z : (nI 1 = 0) = False := by decide
theorem nI11 : (nI 1 = 1) = True := by decide
theorem nI0z : (nI 0 = 0) = True := by decide
theorem nI_ite {P : Prop} [Decidable P] : (nI (if P then 1 else 0) = 0) = ¬ P := by
  by_cases h : P <;> simp [h, nI1z, nI0z]
theorem nI_lt0 {n : Nat} (h : n < 2 ^ 31) : (nI n < 0) = False := by simpa using nI_pos h
theorem nI_ltN {a b : Nat} (ha : a < 2 ^ 31) (hb : b < 2 ^ 31) : (nI a < nI b) = (a < b) := propext (nI_ltI ha hb)
theorem nI_eqN {a b : Nat} (ha : a < 2 ^ 31) (hb : b < 2 ^ 31) : (nI a = nI b) = (a = b) := propext (nI_eq ha hb)
theorem nI_eq0 {a : Nat} (ha : a < 2 ^ 31) : (nI a = 0) = (a = 0) := by
  rw [← nIz, nI_eqN ha (by decide)]
theorem nI_gt0 {a : Nat} (ha : a < 2 ^ 31) : ((0 : Int32) < nI a) = (0 < a) := by
  rw [← nIz, nI_ltN (by decide) ha]
theorem nI_subN {a b : Nat} (h : b ≤ a) : nI a - nI b = nI (a - b) := pk_sub h
theorem in_nI {a n : Nat} (h : a < n) (hn : n < 2 ^ 31) : vp_in (nI a) n = True := eq_true (vp_in_nI h hn)
theorem cl_nI {a : Nat} (h : a < 2 ^ 31) : (nI a).toNatClampNeg = a := nI_clamp h
/-! cells -/
theorem set_at {w : am_W} {p : Nat} {c c' : va_E} (h : w[p]? = some c) : (w.set p c')[p]? = some c' := by
  rw [List.getElem?_set_self (List.getElem?_eq_some_iff.mp h).1]
theorem set_ne {w : am_W} {p q : Nat} {c' : va_E} (h : p ≠ q) : (w.set p c')[q]? = w[q]? := List.getElem?_set_ne h
theorem fld_at {w : am_W} {p ci f : Nat} {fs : List Value} (h : w[p]? = some (.inr (ci, fs))) : am_fld w p ci f = fs[f]? := by simp [am_fld, h]
theorem cls_at {w : am_W} {p ci : Nat} {fs : List Value} (h : w[p]? = some (.inr (ci, fs))) : am_cls w p = some ci := by simp [am_cls, h]
theorem arr_at {X : am_X} {w : am_W} {p t n : Nat} {f : Nat → Int32} (hp : p < 1000) (h : w[p]? = some (.inl (t, n, .inl f))) : am_arr X w p = some (t, n, f) := by simp [am_arr, hp, h]
theorem put_at {w : am_W} {p ci f : Nat} {fs : List Value} {v : Value} (h : w[p]? = some (.inr (ci, fs))) : am_put w p f v = w.set p (.inr (ci, fs.set f v)) := by simp [am_put, h]
theorem ast_at {w : am_W} {p t n i : Nat} {f : Nat → Int32} {x : Int32} (h : w[p]? = some (.inl (t, n, .inl f))) : am_ast w p i x = w.set p (.inl (t, n, .inl (upd f i x))) := by simp [am_ast, h]
/-! a table of rows: its object at i, its cells at j; so many rows of room, so wide, so many there, what they hold -/
def RowsAt (w : am_W) (i j ro wi sz : Nat) (f : Nat → Int32) : Prop :=
  w[i]? = some (.inr (4, [.int (nI ro), .int (nI wi), .ref j, .int (nI sz)])) ∧ w[j]? = some (.inl (0, ro * wi, .inl f)) ∧ i < 1000 ∧ j < 1000 ∧ sz ≤ ro ∧ ro ≤ 100 ∧ wi ≤ 100
section ROWS
variable {X : am_X} {d : Nat} {Q : am_Q} {w : am_W} {i j ro wi sz : Nat} {f : Nat → Int32}
theorem RowsAt.f0 (h : RowsAt w i j ro wi sz f) : am_fld w i 4 0 = some (.int (nI ro)) := fld_at h.1
theorem RowsAt.f1 (h : RowsAt w i j ro wi sz f) : am_fld w i 4 1 = some (.int (nI wi)) := fld_at h.1
theorem RowsAt.f2 (h : RowsAt w i j ro wi sz f) : am_fld w i 4 2 = some (.ref j) := fld_at h.1
theorem RowsAt.f3 (h : RowsAt w i j ro wi sz f) : am_fld w i 4 3 = some (.int (nI sz)) := fld_at h.1
theorem RowsAt.cl (h : RowsAt w i j ro wi sz f) : am_cls w i = some 4 := cls_at h.1
theorem RowsAt.ar (h : RowsAt w i j ro wi sz f) : am_arr X w j = some (0, ro * wi, f) := arr_at h.2.2.2.1 h.2.1
theorem RowsAt.i1 (h : RowsAt w i j ro wi sz f) : (i < 1000) = True := eq_true h.2.2.1
theorem RowsAt.j1 (h : RowsAt w i j ro wi sz f) : (j < 1000) = True := eq_true h.2.2.2.1
theorem RowsAt.big (h : RowsAt w i j ro wi sz f) : ro * wi ≤ 10000 := Nat.mul_le_mul h.2.2.2.2.2.1 h.2.2.2.2.2.2
theorem rows_has (h : RowsAt w i j ro wi sz f) (x : Int32) : Cl X (d + 1) 33 [.ref i, .int x] w Q = Q (some (.int (nI (if 0 ≤ x ∧ x < nI sz then 1 else 0)))) w := by
  rw [e33]
  simp only [s33_0, s33_1, s33_4, s33_5, s33_6, s33_9, s33_12, s33_13, s33_16, s33_17, h.f3, h.i1, OpV_some, OpN_some, OpA_some, OpR_some, Option.toList_some, Option.toList_none, List.cons_append, List.nil_append, true_and, and_true, nI11, or_true, true_or, or_false, false_or]
  by_cases h1 : x < 0
  · have h2 : ¬ (0 ≤ x ∧ x < nI sz) := fun q => (by rw [i32_nle]; exact h1 : ¬ 0 ≤ x) q.1
    simp only [h1, h2, if_true, if_false, b01_0, true_and]
  · have h0 : 0 ≤ x := by rw [← i32_nlt]; exact h1
    by_cases h3 : x < nI sz
    · simp only [h1, h3, h0, if_true, if_false, b01_1, true_and, and_self]
    · simp only [h1, h3, h0, if_true, if_false, b01_0, true_and]
theorem rows_get (h : RowsAt w i j ro wi sz f) {r c : Nat} (hr : r < sz) (hc : c < wi) : Cl X (d + 1) 34 [.ref i, .int (nI r), .int (nI c)] w Q = Q (some (.int (f (r * wi + c)))) w := by
  have hb := h.big
  have h5 := h.2.2.2.2.1
  have h6 := h.2.2.2.2.2.1
  have h7 := h.2.2.2.2.2.2
  have hcell : r * wi + c < ro * wi := by
    have : (r + 1) * wi ≤ ro * wi := Nat.mul_le_mul_right _ (by omega)
    rw [Nat.succ_mul] at this
    omega
  rw [e34]
  simp only [s34_0, s34_1, s34_2, s34_5, s34_6, s34_7, s34_8, s34_9, s34_10, s34_13, s34_14, s34_15, s34_18, s34_21, s34_22, s34_25, s34_26, s34_27, s34_30, s34_33, s34_34, s34_35, s34_38, s34_39, s34_42, s34_43, s34_46, s34_47, s34_49, s34_51, s34_54, s34_55, s34_58, s34_59, s34_60, s34_63, s34_64, h.f1, h.f2, h.f3, h.ar, h.i1, h.j1, OpV_some, OpN_some, OpA_some, OpR_some, Option.toList_some, Option.toList_none, List.cons_append, List.nil_append, true_and, and_true, nI11, or_true, true_or, or_false, false_or, pk_mul, nI_add, nI_lt0 (show r < 2 ^ 31 by omega), nI_lt0 (show c < 2 ^ 31 by omega), nI_ltN (show r < 2 ^ 31 by omega) (show sz < 2 ^ 31 by omega), nI_ltN (show c < 2 ^ 31 by omega) (show wi < 2 ^ 31 by omega), nI_ltN (show r * wi + c < 2 ^ 31 by omega) (show ro * wi < 2 ^ 31 by omega), hr, hc, hcell, if_true, if_false, true_or, nI1z, in_nI hcell (show ro * wi < 2 ^ 31 by omega), cl_nI (show r * wi + c < 2 ^ 31 by omega)]
end ROWS
