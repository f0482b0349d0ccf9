/-! a row of cells laid into a world -/
def spl (u : am_W) (lo : Nat) (cs : List va_E) : am_W := u.take lo ++ (cs ++ u.drop (lo + cs.length))
section SPL
variable {u : am_W} {lo : Nat} {cs cs' : List va_E}
theorem spl_tl (h : lo ≤ u.length) : (u.take lo).length = lo := by rw [List.length_take]; omega
theorem spl_get (h : lo ≤ u.length) {i : Nat} (hi : i < cs.length) : (spl u lo cs)[lo + i]? = cs[i]? := by
  unfold spl
  rw [List.getElem?_append_right (by rw [spl_tl h]; omega), spl_tl h, Nat.add_sub_cancel_left, List.getElem?_append_left hi]
theorem spl_set (h : lo ≤ u.length) {i : Nat} (hi : i < cs.length) (c : va_E) : (spl u lo cs).set (lo + i) c = spl u lo (cs.set i c) := by
  unfold spl
  rw [List.set_append_right _ _ (by rw [spl_tl h]; omega), spl_tl h, Nat.add_sub_cancel_left, List.set_append_left _ _ hi, List.length_set]
theorem spl_len (h : lo + cs.length ≤ u.length) : (spl u lo cs).length = u.length := by
  unfold spl
  simp only [List.length_append, List.length_take, List.length_drop]
  omega
theorem spl_out (h : lo + cs.length ≤ u.length) {p : Nat} (hp : p < lo ∨ lo + cs.length ≤ p) : (spl u lo cs)[p]? = u[p]? := by
  unfold spl
  rcases hp with hp | hp
  · rw [List.getElem?_append_left (by rw [spl_tl (by omega)]; exact hp), List.getElem?_take_of_lt hp]
  · rw [List.getElem?_append_right (by rw [spl_tl (by omega)]; omega), spl_tl (by omega), List.getElem?_append_right (by omega), List.getElem?_drop]
    congr 1
    omega
theorem spl_self (h2 : lo + cs.length ≤ u.length) (h : ∀ i, i < cs.length → u[lo + i]? = cs[i]?) : spl u lo cs = u := by
  apply List.ext_getElem?
  intro p
  by_cases hp : p < lo ∨ lo + cs.length ≤ p
  · exact spl_out h2 hp
  · obtain ⟨i, rfl⟩ : ∃ i, p = lo + i := ⟨p - lo, by omega⟩
    rw [spl_get (by omega) (by omega), h i (by omega)]
theorem spl_idem (h : lo + cs.length ≤ u.length) (he : cs.length = cs'.length) : spl (spl u lo cs) lo cs' = spl u lo cs' := by
  have hl := spl_len h
  apply List.ext_getElem?
  intro p
  by_cases hp : p < lo ∨ lo + cs'.length ≤ p
  · rw [spl_out (by omega) hp, spl_out (by omega) (by omega), spl_out (by omega) hp]
  · obtain ⟨i, rfl⟩ : ∃ i, p = lo + i := ⟨p - lo, by omega⟩
    rw [spl_get (by omega) (by omega), spl_get (by omega) (by omega)]
end SPL
/-! the reader's places, all at once: its object (place, behind, token, value), doors, ropes, riders, bytes, numbers -/
abbrev TS : Type := Nat × Nat × Nat × Nat
abbrev RSt : Type := Tab × Tab × Tab
def rdo (le : Nat) (t : TS) : va_E := .inr (1, [.ref 36, .ref 38, .ref 40, .ref 42, .int (nI le), .int (nI t.1), .int (nI t.2.1), .int (nI t.2.2.1), .int (nI t.2.2.2), .ref 43])
def rdc (le : Nat) (t : TS) (r : RSt) (B N : Nat → Nat) : List va_E := [rdo le t,
  .inr (4, [.int (nI 8), .int (nI 2), .ref 37, .int (nI r.1.1)]), .inl (0, 8 * 2, .inl (nIf r.1.2)),
  .inr (4, [.int (nI 8), .int (nI 5), .ref 39, .int (nI r.2.1.1)]), .inl (0, 8 * 5, .inl (nIf r.2.1.2)),
  .inr (4, [.int (nI 4), .int (nI 5), .ref 41, .int (nI r.2.2.1)]), .inl (0, 4 * 5, .inl (nIf r.2.2.2)),
  .inl (0, 300, .inl (nIf B)), .inl (0, 4, .inl (nIf N))]
def rdw (u : am_W) (le : Nat) (t : TS) (r : RSt) (B N : Nat → Nat) : am_W := spl u 35 (rdc le t r B N)
def rOK (r : RSt) : Prop := r.1.1 ≤ 8 ∧ r.2.1.1 ≤ 8 ∧ r.2.2.1 ≤ 4
section RDW
variable {X : am_X} {d : Nat} {Q : am_Q} {u : am_W} {le : Nat} {t : TS} {r : RSt} {B N : Nat → Nat}
theorem rdw_at (H : 44 ≤ u.length) {i : Nat} (hi : i < 9) : (rdw u le t r B N)[35 + i]? = (rdc le t r B N)[i]? := spl_get (by omega) (by simpa [rdc] using hi)
theorem rdw_D (H : 44 ≤ u.length) (h : r.1.1 ≤ 8) : RowsAt (rdw u le t r B N) 36 37 8 2 r.1.1 (nIf r.1.2) := ⟨rdw_at H (i := 1) (by decide), rdw_at H (i := 2) (by decide), by decide, by decide, h, by decide, by decide⟩
theorem rdw_R (H : 44 ≤ u.length) (h : r.2.1.1 ≤ 8) : RowsAt (rdw u le t r B N) 38 39 8 5 r.2.1.1 (nIf r.2.1.2) := ⟨rdw_at H (i := 3) (by decide), rdw_at H (i := 4) (by decide), by decide, by decide, h, by decide, by decide⟩
theorem rdw_P (H : 44 ≤ u.length) (h : r.2.2.1 ≤ 4) : RowsAt (rdw u le t r B N) 40 41 4 5 r.2.2.1 (nIf r.2.2.2) := ⟨rdw_at H (i := 5) (by decide), rdw_at H (i := 6) (by decide), by decide, by decide, h, by decide, by decide⟩
theorem rdw_ob (H : 44 ≤ u.length) (h3 : le ≤ 300) (h4 : ∀ i, i < le → B i < 256) : TkAt (rdw u le t r B N) le t.1 t.2.1 t.2.2.1 t.2.2.2 B := ⟨rdw_at H (i := 0) (by decide), rdw_at H (i := 7) (by decide), h3, h4⟩
theorem rdw_st (H : 44 ≤ u.length) {i : Nat} (hi : i < 9) (c : va_E) : (rdw u le t r B N).set (35 + i) c = spl u 35 ((rdc le t r B N).set i c) := spl_set (by omega) (by simpa [rdc] using hi) c
theorem rdw_sD (H : 44 ≤ u.length) (n : Nat) : rsz (rdw u le t r B N) 36 37 8 2 n = rdw u le t ((n, r.1.2), r.2) B N := rdw_st H (i := 1) (by decide) _
theorem rdw_aD (H : 44 ≤ u.length) (f : Nat → Nat) : rar (rdw u le t r B N) 37 (8 * 2) (nIf f) = rdw u le t ((r.1.1, f), r.2) B N := rdw_st H (i := 2) (by decide) _
theorem rdw_sR (H : 44 ≤ u.length) (n : Nat) : rsz (rdw u le t r B N) 38 39 8 5 n = rdw u le t (r.1, (n, r.2.1.2), r.2.2) B N := rdw_st H (i := 3) (by decide) _
theorem rdw_aR (H : 44 ≤ u.length) (f : Nat → Nat) : rar (rdw u le t r B N) 39 (8 * 5) (nIf f) = rdw u le t (r.1, (r.2.1.1, f), r.2.2) B N := rdw_st H (i := 4) (by decide) _
theorem rdw_sP (H : 44 ≤ u.length) (n : Nat) : rsz (rdw u le t r B N) 40 41 4 5 n = rdw u le t (r.1, r.2.1, (n, r.2.2.2)) B N := rdw_st H (i := 5) (by decide) _
theorem rdw_aP (H : 44 ≤ u.length) (f : Nat → Nat) : rar (rdw u le t r B N) 41 (4 * 5) (nIf f) = rdw u le t (r.1, r.2.1, (r.2.2.1, f)) B N := rdw_st H (i := 6) (by decide) _
theorem rdw_arB (H : 44 ≤ u.length) : am_arr X (rdw u le t r B N) 42 = some (0, 300, nIf B) := arr_at (by decide) (rdw_at H (i := 7) (by decide))
theorem rdw_arN (H : 44 ≤ u.length) : am_arr X (rdw u le t r B N) 43 = some (0, 4, nIf N) := arr_at (by decide) (rdw_at H (i := 8) (by decide))
theorem rdw_B (H : 44 ≤ u.length) (i v : Nat) : am_ast (rdw u le t r B N) 42 i (nI v) = rdw u le t r (upN B i v) N := by
  rw [ast_at (rdw_at H (i := 7) (by decide)), upd_nIf]
  exact rdw_st H (i := 7) (by decide) _
theorem rdw_N (H : 44 ≤ u.length) (i v : Nat) : am_ast (rdw u le t r B N) 43 i (nI v) = rdw u le t r B (upN N i v) := by
  rw [ast_at (rdw_at H (i := 8) (by decide)), upd_nIf]
  exact rdw_st H (i := 8) (by decide) _
theorem rdw_f (H : 44 ≤ u.length) (f : Nat) : am_fld (rdw u le t r B N) 35 1 f = ([.ref 36, .ref 38, .ref 40, .ref 42, .int (nI le), .int (nI t.1), .int (nI t.2.1), .int (nI t.2.2.1), .int (nI t.2.2.2), .ref 43] : List Value)[f]? := fld_at (rdw_at H (i := 0) (by decide))
theorem rdw_f0 (H : 44 ≤ u.length) : am_fld (rdw u le t r B N) 35 1 0 = some (.ref 36) := rdw_f H 0
theorem rdw_f1 (H : 44 ≤ u.length) : am_fld (rdw u le t r B N) 35 1 1 = some (.ref 38) := rdw_f H 1
theorem rdw_f2 (H : 44 ≤ u.length) : am_fld (rdw u le t r B N) 35 1 2 = some (.ref 40) := rdw_f H 2
theorem rdw_f3 (H : 44 ≤ u.length) : am_fld (rdw u le t r B N) 35 1 3 = some (.ref 42) := rdw_f H 3
theorem rdw_f4 (H : 44 ≤ u.length) : am_fld (rdw u le t r B N) 35 1 4 = some (.int (nI le)) := rdw_f H 4
theorem rdw_f5 (H : 44 ≤ u.length) : am_fld (rdw u le t r B N) 35 1 5 = some (.int (nI t.1)) := rdw_f H 5
theorem rdw_f6 (H : 44 ≤ u.length) : am_fld (rdw u le t r B N) 35 1 6 = some (.int (nI t.2.1)) := rdw_f H 6
theorem rdw_f7 (H : 44 ≤ u.length) : am_fld (rdw u le t r B N) 35 1 7 = some (.int (nI t.2.2.1)) := rdw_f H 7
theorem rdw_f8 (H : 44 ≤ u.length) : am_fld (rdw u le t r B N) 35 1 8 = some (.int (nI t.2.2.2)) := rdw_f H 8
theorem rdw_f9 (H : 44 ≤ u.length) : am_fld (rdw u le t r B N) 35 1 9 = some (.ref 43) := rdw_f H 9
theorem rdw_cl (H : 44 ≤ u.length) : am_cls (rdw u le t r B N) 35 = some 1 := cls_at (rdw_at H (i := 0) (by decide))
theorem rdw_p4 (H : 44 ≤ u.length) (v : Nat) : am_put (rdw u le t r B N) 35 4 (.int (nI v)) = rdw u v t r B N := by
  rw [put_at (rdw_at H (i := 0) (by decide))]
  exact rdw_st H (i := 0) (by decide) _
theorem rdw_p6 (H : 44 ≤ u.length) (v : Nat) : am_put (rdw u le t r B N) 35 6 (.int (nI v)) = rdw u le (t.1, v, t.2.2) r B N := by
  rw [put_at (rdw_at H (i := 0) (by decide))]
  exact rdw_st H (i := 0) (by decide) _
theorem rdw_ro (H : 44 ≤ u.length) (t' : TS) : ro (rdw u le t' r B N) le t.1 t.2.1 t.2.2.1 t.2.2.2 = rdw u le t r B N := rdw_st H (i := 0) (by decide) _
theorem rdw_RB (H : 44 ≤ u.length) (h3 : le ≤ 300) (h4 : ∀ i, i < le → B i < 256) : RB (rdw u le t r B N) le B := ⟨⟨_, rdw_at H (i := 0) (by decide)⟩, rdw_at H (i := 7) (by decide), h3, h4⟩
/-- the token behind the one at hand -/
def tkn (B : Nat → Nat) (le : Nat) (t : TS) : TS := (skp B le t.2.1, nxt B le (skp B le t.2.1) t.2.2.2)
theorem rw_next (H : 44 ≤ u.length) (h3 : le ≤ 300) (h4 : ∀ i, i < le → B i < 256) (hb : t.2.1 ≤ le) : Cl X (d + 4) 21 [.ref 35] (rdw u le t r B N) Q = Q none (rdw u le (tkn B le t) r B N) := by
  rw [← rdw_ro H (0, 0, 0, 0), rd_next (rdw_RB H h3 h4) hb]
  have := rdw_ro (le := le) (r := r) (B := B) (N := N) (t := tkn B le t) H (0, 0, 0, 0)
  rw [← this]
  rfl
theorem rw_item (H : 44 ≤ u.length) (h3 : le ≤ 300) (h4 : ∀ i, i < le → B i < 256) (hp : t.1 ≤ t.2.1) (hb : t.2.1 ≤ le) (ht : t.2.2.1 < 2 ^ 31) : Cl X (d + 6) 11 [.ref 35] (rdw u le t r B N) Q = Q (some (.int (itI (itW B t.1 t.2.1 t.2.2.1)))) (rdw u le t r B N) := by
  rw [← rdw_ro H (0, 0, 0, 0), rd_item (rdw_RB H h3 h4) hp hb ht]
end RDW
