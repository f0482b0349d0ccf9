/-! the reference's places, all at once: its object (trace, numbers) and its rows -/
def fu (a : Nat → Int32) (f : Nat) (v : Int32) : Nat → Int32 := fun g => if g = f then v else a g
def ua (A : Nat → Nat → Int32) (i : Nat) (r : Nat → Int32) : Nat → Nat → Int32 := fun j => if j = i then r else A j
theorem fu_s (a : Nat → Int32) (f : Nat) (v : Int32) : fu a f v f = v := if_pos rfl
theorem fu_n (a : Nat → Int32) {f g : Nat} (v : Int32) (h : (g == f) = false) : fu a f v g = a g := if_neg (by simpa using h)
theorem ua_s (A : Nat → Nat → Int32) (i : Nat) (r : Nat → Int32) : ua A i r i = r := if_pos rfl
theorem ua_n (A : Nat → Nat → Int32) {i j : Nat} (r : Nat → Int32) (h : (j == i) = false) : ua A i r j = A j := if_neg (by simpa using h)
theorem ua_ua (A : Nat → Nat → Int32) (i : Nat) (r r' : Nat → Int32) : ua (ua A i r) i r' = ua A i r' := by funext j; unfold ua; split <;> rfl
theorem ua_id (A : Nat → Nat → Int32) (i : Nat) : ua A i (A i) = A := by funext j; unfold ua; split <;> simp [*]
theorem fu_fu (a : Nat → Int32) (f : Nat) (v v' : Int32) : fu (fu a f v) f v' = fu a f v' := by funext j; unfold fu; split <;> rfl
def mob (tr : Int64) (a : Nat → Int32) : va_E := .inr (8, [.int (a 0), .long tr, .ref 58, .int (a 3), .int (a 4), .int (a 5), .int (a 6), .int (a 7), .int (a 8), .int (a 9), .int (a 10), .int (a 11), .int (a 12), .int (a 13), .int (a 14), .ref 59, .ref 60, .ref 61, .ref 62, .ref 63, .ref 64, .ref 65, .ref 66, .int (a 23), .int (a 24), .int (a 25), .int (a 26), .int (a 27), .ref 67, .ref 68, .int (a 30), .int (a 31)])
def mwc (tr : Int64) (a : Nat → Int32) (A : Nat → Nat → Int32) : List va_E := [mob tr a, .inl (0, 300, .inl (A 0)), .inl (0, 16, .inl (A 1)), .inl (0, 16, .inl (A 2)), .inl (0, 64, .inl (A 3)), .inl (0, 24, .inl (A 4)), .inl (0, 134, .inl (A 5)), .inl (0, 268, .inl (A 6)), .inl (1, 2, .inl (A 7)), .inl (0, 12, .inl (A 8)), .inl (0, 8, .inl (A 9)), .inl (0, 8000, .inl (A 10))]
def mw (u : am_W) (tr : Int64) (a : Nat → Int32) (A : Nat → Nat → Int32) : am_W := spl u 57 (mwc tr a A)
theorem mwc_len (tr : Int64) (a : Nat → Int32) (A : Nat → Nat → Int32) : (mwc tr a A).length = 12 := rfl
section MW
variable {X : am_X} {u : am_W} {tr : Int64} {a : Nat → Int32} {A : Nat → Nat → Int32}
theorem mw_at (H : 69 ≤ u.length) {i : Nat} (hi : i < 12) : (mw u tr a A)[57 + i]? = (mwc tr a A)[i]? := spl_get (by omega) (by rw [mwc_len]; exact hi)
theorem mw_st (H : 69 ≤ u.length) {i : Nat} (hi : i < 12) (c : va_E) : (mw u tr a A).set (57 + i) c = spl u 57 ((mwc tr a A).set i c) := spl_set (by omega) (by rw [mwc_len]; exact hi) c
theorem mw_out (H : 69 ≤ u.length) {p : Nat} (hp : p < 57 ∨ 69 ≤ p) : (mw u tr a A)[p]? = u[p]? := spl_out (by rw [mwc_len]; omega) (by rw [mwc_len]; omega)
theorem mw_len (H : 69 ≤ u.length) : (mw u tr a A).length = u.length := spl_len (by rw [mwc_len]; omega)
theorem mw_cl (H : 69 ≤ u.length) : am_cls (mw u tr a A) 57 = some 8 := cls_at (mw_at H (i := 0) (by decide))
theorem mI0 (H : 69 ≤ u.length) : am_fld (mw u tr a A) 57 8 0 = some (.int (a 0)) := fld_at (mw_at H (i := 0) (by decide))
theorem mP0 (H : 69 ≤ u.length) (v : Int32) : am_put (mw u tr a A) 57 0 (.int v) = mw u tr (fu a 0 v) A := by
  rw [put_at (mw_at H (i := 0) (by decide))]
  exact mw_st H (i := 0) (by decide) _
theorem mI3 (H : 69 ≤ u.length) : am_fld (mw u tr a A) 57 8 3 = some (.int (a 3)) := fld_at (mw_at H (i := 0) (by decide))
theorem mP3 (H : 69 ≤ u.length) (v : Int32) : am_put (mw u tr a A) 57 3 (.int v) = mw u tr (fu a 3 v) A := by
  rw [put_at (mw_at H (i := 0) (by decide))]
  exact mw_st H (i := 0) (by decide) _
theorem mI4 (H : 69 ≤ u.length) : am_fld (mw u tr a A) 57 8 4 = some (.int (a 4)) := fld_at (mw_at H (i := 0) (by decide))
theorem mP4 (H : 69 ≤ u.length) (v : Int32) : am_put (mw u tr a A) 57 4 (.int v) = mw u tr (fu a 4 v) A := by
  rw [put_at (mw_at H (i := 0) (by decide))]
  exact mw_st H (i := 0) (by decide) _
theorem mI5 (H : 69 ≤ u.length) : am_fld (mw u tr a A) 57 8 5 = some (.int (a 5)) := fld_at (mw_at H (i := 0) (by decide))
theorem mP5 (H : 69 ≤ u.length) (v : Int32) : am_put (mw u tr a A) 57 5 (.int v) = mw u tr (fu a 5 v) A := by
  rw [put_at (mw_at H (i := 0) (by decide))]
  exact mw_st H (i := 0) (by decide) _
theorem mI6 (H : 69 ≤ u.length) : am_fld (mw u tr a A) 57 8 6 = some (.int (a 6)) := fld_at (mw_at H (i := 0) (by decide))
theorem mP6 (H : 69 ≤ u.length) (v : Int32) : am_put (mw u tr a A) 57 6 (.int v) = mw u tr (fu a 6 v) A := by
  rw [put_at (mw_at H (i := 0) (by decide))]
  exact mw_st H (i := 0) (by decide) _
theorem mI7 (H : 69 ≤ u.length) : am_fld (mw u tr a A) 57 8 7 = some (.int (a 7)) := fld_at (mw_at H (i := 0) (by decide))
theorem mP7 (H : 69 ≤ u.length) (v : Int32) : am_put (mw u tr a A) 57 7 (.int v) = mw u tr (fu a 7 v) A := by
  rw [put_at (mw_at H (i := 0) (by decide))]
  exact mw_st H (i := 0) (by decide) _
theorem mI8 (H : 69 ≤ u.length) : am_fld (mw u tr a A) 57 8 8 = some (.int (a 8)) := fld_at (mw_at H (i := 0) (by decide))
theorem mP8 (H : 69 ≤ u.length) (v : Int32) : am_put (mw u tr a A) 57 8 (.int v) = mw u tr (fu a 8 v) A := by
  rw [put_at (mw_at H (i := 0) (by decide))]
  exact mw_st H (i := 0) (by decide) _
theorem mI9 (H : 69 ≤ u.length) : am_fld (mw u tr a A) 57 8 9 = some (.int (a 9)) := fld_at (mw_at H (i := 0) (by decide))
theorem mP9 (H : 69 ≤ u.length) (v : Int32) : am_put (mw u tr a A) 57 9 (.int v) = mw u tr (fu a 9 v) A := by
  rw [put_at (mw_at H (i := 0) (by decide))]
  exact mw_st H (i := 0) (by decide) _
theorem mI10 (H : 69 ≤ u.length) : am_fld (mw u tr a A) 57 8 10 = some (.int (a 10)) := fld_at (mw_at H (i := 0) (by decide))
theorem mP10 (H : 69 ≤ u.length) (v : Int32) : am_put (mw u tr a A) 57 10 (.int v) = mw u tr (fu a 10 v) A := by
  rw [put_at (mw_at H (i := 0) (by decide))]
  exact mw_st H (i := 0) (by decide) _
theorem mI11 (H : 69 ≤ u.length) : am_fld (mw u tr a A) 57 8 11 = some (.int (a 11)) := fld_at (mw_at H (i := 0) (by decide))
theorem mP11 (H : 69 ≤ u.length) (v : Int32) : am_put (mw u tr a A) 57 11 (.int v) = mw u tr (fu a 11 v) A := by
  rw [put_at (mw_at H (i := 0) (by decide))]
  exact mw_st H (i := 0) (by decide) _
theorem mI12 (H : 69 ≤ u.length) : am_fld (mw u tr a A) 57 8 12 = some (.int (a 12)) := fld_at (mw_at H (i := 0) (by decide))
theorem mP12 (H : 69 ≤ u.length) (v : Int32) : am_put (mw u tr a A) 57 12 (.int v) = mw u tr (fu a 12 v) A := by
  rw [put_at (mw_at H (i := 0) (by decide))]
  exact mw_st H (i := 0) (by decide) _
theorem mI13 (H : 69 ≤ u.length) : am_fld (mw u tr a A) 57 8 13 = some (.int (a 13)) := fld_at (mw_at H (i := 0) (by decide))
theorem mP13 (H : 69 ≤ u.length) (v : Int32) : am_put (mw u tr a A) 57 13 (.int v) = mw u tr (fu a 13 v) A := by
  rw [put_at (mw_at H (i := 0) (by decide))]
  exact mw_st H (i := 0) (by decide) _
theorem mI14 (H : 69 ≤ u.length) : am_fld (mw u tr a A) 57 8 14 = some (.int (a 14)) := fld_at (mw_at H (i := 0) (by decide))
theorem mP14 (H : 69 ≤ u.length) (v : Int32) : am_put (mw u tr a A) 57 14 (.int v) = mw u tr (fu a 14 v) A := by
  rw [put_at (mw_at H (i := 0) (by decide))]
  exact mw_st H (i := 0) (by decide) _
theorem mI23 (H : 69 ≤ u.length) : am_fld (mw u tr a A) 57 8 23 = some (.int (a 23)) := fld_at (mw_at H (i := 0) (by decide))
theorem mP23 (H : 69 ≤ u.length) (v : Int32) : am_put (mw u tr a A) 57 23 (.int v) = mw u tr (fu a 23 v) A := by
  rw [put_at (mw_at H (i := 0) (by decide))]
  exact mw_st H (i := 0) (by decide) _
theorem mI24 (H : 69 ≤ u.length) : am_fld (mw u tr a A) 57 8 24 = some (.int (a 24)) := fld_at (mw_at H (i := 0) (by decide))
theorem mP24 (H : 69 ≤ u.length) (v : Int32) : am_put (mw u tr a A) 57 24 (.int v) = mw u tr (fu a 24 v) A := by
  rw [put_at (mw_at H (i := 0) (by decide))]
  exact mw_st H (i := 0) (by decide) _
theorem mI25 (H : 69 ≤ u.length) : am_fld (mw u tr a A) 57 8 25 = some (.int (a 25)) := fld_at (mw_at H (i := 0) (by decide))
theorem mP25 (H : 69 ≤ u.length) (v : Int32) : am_put (mw u tr a A) 57 25 (.int v) = mw u tr (fu a 25 v) A := by
  rw [put_at (mw_at H (i := 0) (by decide))]
  exact mw_st H (i := 0) (by decide) _
theorem mI26 (H : 69 ≤ u.length) : am_fld (mw u tr a A) 57 8 26 = some (.int (a 26)) := fld_at (mw_at H (i := 0) (by decide))
theorem mP26 (H : 69 ≤ u.length) (v : Int32) : am_put (mw u tr a A) 57 26 (.int v) = mw u tr (fu a 26 v) A := by
  rw [put_at (mw_at H (i := 0) (by decide))]
  exact mw_st H (i := 0) (by decide) _
theorem mI27 (H : 69 ≤ u.length) : am_fld (mw u tr a A) 57 8 27 = some (.int (a 27)) := fld_at (mw_at H (i := 0) (by decide))
theorem mP27 (H : 69 ≤ u.length) (v : Int32) : am_put (mw u tr a A) 57 27 (.int v) = mw u tr (fu a 27 v) A := by
  rw [put_at (mw_at H (i := 0) (by decide))]
  exact mw_st H (i := 0) (by decide) _
theorem mI30 (H : 69 ≤ u.length) : am_fld (mw u tr a A) 57 8 30 = some (.int (a 30)) := fld_at (mw_at H (i := 0) (by decide))
theorem mP30 (H : 69 ≤ u.length) (v : Int32) : am_put (mw u tr a A) 57 30 (.int v) = mw u tr (fu a 30 v) A := by
  rw [put_at (mw_at H (i := 0) (by decide))]
  exact mw_st H (i := 0) (by decide) _
theorem mI31 (H : 69 ≤ u.length) : am_fld (mw u tr a A) 57 8 31 = some (.int (a 31)) := fld_at (mw_at H (i := 0) (by decide))
theorem mP31 (H : 69 ≤ u.length) (v : Int32) : am_put (mw u tr a A) 57 31 (.int v) = mw u tr (fu a 31 v) A := by
  rw [put_at (mw_at H (i := 0) (by decide))]
  exact mw_st H (i := 0) (by decide) _
theorem mI1 (H : 69 ≤ u.length) : am_fld (mw u tr a A) 57 8 1 = some (.long tr) := fld_at (mw_at H (i := 0) (by decide))
theorem mP1 (H : 69 ≤ u.length) (v : Int64) : am_put (mw u tr a A) 57 1 (.long v) = mw u v a A := by
  rw [put_at (mw_at H (i := 0) (by decide))]
  exact mw_st H (i := 0) (by decide) _
theorem mR2 (H : 69 ≤ u.length) : am_fld (mw u tr a A) 57 8 2 = some (.ref 58) := fld_at (mw_at H (i := 0) (by decide))
theorem mR15 (H : 69 ≤ u.length) : am_fld (mw u tr a A) 57 8 15 = some (.ref 59) := fld_at (mw_at H (i := 0) (by decide))
theorem mR16 (H : 69 ≤ u.length) : am_fld (mw u tr a A) 57 8 16 = some (.ref 60) := fld_at (mw_at H (i := 0) (by decide))
theorem mR17 (H : 69 ≤ u.length) : am_fld (mw u tr a A) 57 8 17 = some (.ref 61) := fld_at (mw_at H (i := 0) (by decide))
theorem mR18 (H : 69 ≤ u.length) : am_fld (mw u tr a A) 57 8 18 = some (.ref 62) := fld_at (mw_at H (i := 0) (by decide))
theorem mR19 (H : 69 ≤ u.length) : am_fld (mw u tr a A) 57 8 19 = some (.ref 63) := fld_at (mw_at H (i := 0) (by decide))
theorem mR20 (H : 69 ≤ u.length) : am_fld (mw u tr a A) 57 8 20 = some (.ref 64) := fld_at (mw_at H (i := 0) (by decide))
theorem mR21 (H : 69 ≤ u.length) : am_fld (mw u tr a A) 57 8 21 = some (.ref 65) := fld_at (mw_at H (i := 0) (by decide))
theorem mR22 (H : 69 ≤ u.length) : am_fld (mw u tr a A) 57 8 22 = some (.ref 66) := fld_at (mw_at H (i := 0) (by decide))
theorem mR28 (H : 69 ≤ u.length) : am_fld (mw u tr a A) 57 8 28 = some (.ref 67) := fld_at (mw_at H (i := 0) (by decide))
theorem mR29 (H : 69 ≤ u.length) : am_fld (mw u tr a A) 57 8 29 = some (.ref 68) := fld_at (mw_at H (i := 0) (by decide))
theorem mA0 (H : 69 ≤ u.length) : am_arr X (mw u tr a A) 58 = some (0, 300, A 0) := arr_at (by decide) (mw_at H (i := 1) (by decide))
theorem mS0 (H : 69 ≤ u.length) (j : Nat) (x : Int32) : am_ast (mw u tr a A) 58 j x = mw u tr a (ua A 0 (upd (A 0) j x)) := by
  rw [ast_at (mw_at H (i := 1) (by decide))]
  exact mw_st H (i := 1) (by decide) _
theorem mA1 (H : 69 ≤ u.length) : am_arr X (mw u tr a A) 59 = some (0, 16, A 1) := arr_at (by decide) (mw_at H (i := 2) (by decide))
theorem mS1 (H : 69 ≤ u.length) (j : Nat) (x : Int32) : am_ast (mw u tr a A) 59 j x = mw u tr a (ua A 1 (upd (A 1) j x)) := by
  rw [ast_at (mw_at H (i := 2) (by decide))]
  exact mw_st H (i := 2) (by decide) _
theorem mA2 (H : 69 ≤ u.length) : am_arr X (mw u tr a A) 60 = some (0, 16, A 2) := arr_at (by decide) (mw_at H (i := 3) (by decide))
theorem mS2 (H : 69 ≤ u.length) (j : Nat) (x : Int32) : am_ast (mw u tr a A) 60 j x = mw u tr a (ua A 2 (upd (A 2) j x)) := by
  rw [ast_at (mw_at H (i := 3) (by decide))]
  exact mw_st H (i := 3) (by decide) _
theorem mA3 (H : 69 ≤ u.length) : am_arr X (mw u tr a A) 61 = some (0, 64, A 3) := arr_at (by decide) (mw_at H (i := 4) (by decide))
theorem mS3 (H : 69 ≤ u.length) (j : Nat) (x : Int32) : am_ast (mw u tr a A) 61 j x = mw u tr a (ua A 3 (upd (A 3) j x)) := by
  rw [ast_at (mw_at H (i := 4) (by decide))]
  exact mw_st H (i := 4) (by decide) _
theorem mA4 (H : 69 ≤ u.length) : am_arr X (mw u tr a A) 62 = some (0, 24, A 4) := arr_at (by decide) (mw_at H (i := 5) (by decide))
theorem mS4 (H : 69 ≤ u.length) (j : Nat) (x : Int32) : am_ast (mw u tr a A) 62 j x = mw u tr a (ua A 4 (upd (A 4) j x)) := by
  rw [ast_at (mw_at H (i := 5) (by decide))]
  exact mw_st H (i := 5) (by decide) _
theorem mA5 (H : 69 ≤ u.length) : am_arr X (mw u tr a A) 63 = some (0, 134, A 5) := arr_at (by decide) (mw_at H (i := 6) (by decide))
theorem mS5 (H : 69 ≤ u.length) (j : Nat) (x : Int32) : am_ast (mw u tr a A) 63 j x = mw u tr a (ua A 5 (upd (A 5) j x)) := by
  rw [ast_at (mw_at H (i := 6) (by decide))]
  exact mw_st H (i := 6) (by decide) _
theorem mA6 (H : 69 ≤ u.length) : am_arr X (mw u tr a A) 64 = some (0, 268, A 6) := arr_at (by decide) (mw_at H (i := 7) (by decide))
theorem mS6 (H : 69 ≤ u.length) (j : Nat) (x : Int32) : am_ast (mw u tr a A) 64 j x = mw u tr a (ua A 6 (upd (A 6) j x)) := by
  rw [ast_at (mw_at H (i := 7) (by decide))]
  exact mw_st H (i := 7) (by decide) _
theorem mA7 (H : 69 ≤ u.length) : am_arr X (mw u tr a A) 65 = some (1, 2, A 7) := arr_at (by decide) (mw_at H (i := 8) (by decide))
theorem mS7 (H : 69 ≤ u.length) (j : Nat) (x : Int32) : am_ast (mw u tr a A) 65 j x = mw u tr a (ua A 7 (upd (A 7) j x)) := by
  rw [ast_at (mw_at H (i := 8) (by decide))]
  exact mw_st H (i := 8) (by decide) _
theorem mA8 (H : 69 ≤ u.length) : am_arr X (mw u tr a A) 66 = some (0, 12, A 8) := arr_at (by decide) (mw_at H (i := 9) (by decide))
theorem mS8 (H : 69 ≤ u.length) (j : Nat) (x : Int32) : am_ast (mw u tr a A) 66 j x = mw u tr a (ua A 8 (upd (A 8) j x)) := by
  rw [ast_at (mw_at H (i := 9) (by decide))]
  exact mw_st H (i := 9) (by decide) _
theorem mA9 (H : 69 ≤ u.length) : am_arr X (mw u tr a A) 67 = some (0, 8, A 9) := arr_at (by decide) (mw_at H (i := 10) (by decide))
theorem mS9 (H : 69 ≤ u.length) (j : Nat) (x : Int32) : am_ast (mw u tr a A) 67 j x = mw u tr a (ua A 9 (upd (A 9) j x)) := by
  rw [ast_at (mw_at H (i := 10) (by decide))]
  exact mw_st H (i := 10) (by decide) _
theorem mA10 (H : 69 ≤ u.length) : am_arr X (mw u tr a A) 68 = some (0, 8000, A 10) := arr_at (by decide) (mw_at H (i := 11) (by decide))
theorem mS10 (H : 69 ≤ u.length) (j : Nat) (x : Int32) : am_ast (mw u tr a A) 68 j x = mw u tr a (ua A 10 (upd (A 10) j x)) := by
  rw [ast_at (mw_at H (i := 11) (by decide))]
  exact mw_st H (i := 11) (by decide) _
theorem lt57 : ((57 : Nat) < 1000) = True := eq_true (by decide)
theorem lt58 : ((58 : Nat) < 1000) = True := eq_true (by decide)
theorem lt59 : ((59 : Nat) < 1000) = True := eq_true (by decide)
theorem lt60 : ((60 : Nat) < 1000) = True := eq_true (by decide)
theorem lt61 : ((61 : Nat) < 1000) = True := eq_true (by decide)
theorem lt62 : ((62 : Nat) < 1000) = True := eq_true (by decide)
theorem lt63 : ((63 : Nat) < 1000) = True := eq_true (by decide)
theorem lt64 : ((64 : Nat) < 1000) = True := eq_true (by decide)
theorem lt65 : ((65 : Nat) < 1000) = True := eq_true (by decide)
theorem lt66 : ((66 : Nat) < 1000) = True := eq_true (by decide)
theorem lt67 : ((67 : Nat) < 1000) = True := eq_true (by decide)
theorem lt68 : ((68 : Nat) < 1000) = True := eq_true (by decide)
end MW
