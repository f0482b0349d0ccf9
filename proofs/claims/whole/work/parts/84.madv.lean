/-! advances by the reference -/
theorem wv_1 (B : Nat → Nat) (pl : Nat) : wv B pl 1 = 256 * 0 + B (pl + 0) := rfl
theorem wv_2 (B : Nat → Nat) (pl : Nat) : wv B pl 2 = 256 * (256 * 0 + B (pl + 0)) + B (pl + 1) := rfl
theorem wv_3 (B : Nat → Nat) (pl : Nat) : wv B pl 3 = 256 * (256 * (256 * 0 + B (pl + 0)) + B (pl + 1)) + B (pl + 2) := rfl
theorem wv_4 (B : Nat → Nat) (pl : Nat) : wv B pl 4 = 256 * (256 * (256 * (256 * 0 + B (pl + 0)) + B (pl + 1)) + B (pl + 2)) + B (pl + 3) := rfl
theorem wv_5 (B : Nat → Nat) (pl : Nat) : wv B pl 5 = 256 * (256 * (256 * (256 * (256 * 0 + B (pl + 0)) + B (pl + 1)) + B (pl + 2)) + B (pl + 3)) + B (pl + 4) := rfl
theorem wv_6 (B : Nat → Nat) (pl : Nat) : wv B pl 6 = 256 * (256 * (256 * (256 * (256 * (256 * 0 + B (pl + 0)) + B (pl + 1)) + B (pl + 2)) + B (pl + 3)) + B (pl + 4)) + B (pl + 5) := rfl
theorem wk_iff0 {B : Nat → Nat} {pl be n : Nat} (hn : 1 ≤ n) (hbe : be = pl + n) (hl : ∀ i, i < n → 97 ≤ B (pl + i) ∧ B (pl + i) ≤ 122) : wv B pl (min n 6) = 495689952371 ↔ isW B pl be 0 = true := by
  rw [isW_0]
  rcases (show n = 1 ∨ n = 2 ∨ n = 3 ∨ n = 4 ∨ n = 5 ∨ 6 ≤ n by omega) with h | h | h | h | h | h
  · subst h
    rw [show min 1 6 = 1 by decide, wv_1]
    have l0 := hl 0 (by omega)
    omega
  · subst h
    rw [show min 2 6 = 2 by decide, wv_2]
    have l0 := hl 0 (by omega)
    have l1 := hl 1 (by omega)
    omega
  · subst h
    rw [show min 3 6 = 3 by decide, wv_3]
    have l0 := hl 0 (by omega)
    have l1 := hl 1 (by omega)
    have l2 := hl 2 (by omega)
    omega
  · subst h
    rw [show min 4 6 = 4 by decide, wv_4]
    have l0 := hl 0 (by omega)
    have l1 := hl 1 (by omega)
    have l2 := hl 2 (by omega)
    have l3 := hl 3 (by omega)
    omega
  · subst h
    rw [show min 5 6 = 5 by decide, wv_5]
    have l0 := hl 0 (by omega)
    have l1 := hl 1 (by omega)
    have l2 := hl 2 (by omega)
    have l3 := hl 3 (by omega)
    have l4 := hl 4 (by omega)
    omega
  · rw [Nat.min_eq_right h, wv_6]
    have l0 := hl 0 (by omega)
    have l1 := hl 1 (by omega)
    have l2 := hl 2 (by omega)
    have l3 := hl 3 (by omega)
    have l4 := hl 4 (by omega)
    have l5 := hl 5 (by omega)
    omega
theorem wk_iff1 {B : Nat → Nat} {pl be n : Nat} (hn : 1 ≤ n) (hbe : be = pl + n) (hl : ∀ i, i < n → 97 ≤ B (pl + i) ∧ B (pl + i) ≤ 122) : wv B pl (min n 6) = 1685024626 ↔ isW B pl be 1 = true := by
  rw [isW_1]
  rcases (show n = 1 ∨ n = 2 ∨ n = 3 ∨ n = 4 ∨ n = 5 ∨ 6 ≤ n by omega) with h | h | h | h | h | h
  · subst h
    rw [show min 1 6 = 1 by decide, wv_1]
    have l0 := hl 0 (by omega)
    omega
  · subst h
    rw [show min 2 6 = 2 by decide, wv_2]
    have l0 := hl 0 (by omega)
    have l1 := hl 1 (by omega)
    omega
  · subst h
    rw [show min 3 6 = 3 by decide, wv_3]
    have l0 := hl 0 (by omega)
    have l1 := hl 1 (by omega)
    have l2 := hl 2 (by omega)
    omega
  · subst h
    rw [show min 4 6 = 4 by decide, wv_4]
    have l0 := hl 0 (by omega)
    have l1 := hl 1 (by omega)
    have l2 := hl 2 (by omega)
    have l3 := hl 3 (by omega)
    omega
  · subst h
    rw [show min 5 6 = 5 by decide, wv_5]
    have l0 := hl 0 (by omega)
    have l1 := hl 1 (by omega)
    have l2 := hl 2 (by omega)
    have l3 := hl 3 (by omega)
    have l4 := hl 4 (by omega)
    omega
  · rw [Nat.min_eq_right h, wv_6]
    have l0 := hl 0 (by omega)
    have l1 := hl 1 (by omega)
    have l2 := hl 2 (by omega)
    have l3 := hl 3 (by omega)
    have l4 := hl 4 (by omega)
    have l5 := hl 5 (by omega)
    omega
theorem wk_iff2 {B : Nat → Nat} {pl be n : Nat} (hn : 1 ≤ n) (hbe : be = pl + n) (hl : ∀ i, i < n → 97 ≤ B (pl + i) ∧ B (pl + i) ≤ 122) : wv B pl (min n 6) = 1919905893 ↔ isW B pl be 2 = true := by
  rw [isW_2]
  rcases (show n = 1 ∨ n = 2 ∨ n = 3 ∨ n = 4 ∨ n = 5 ∨ 6 ≤ n by omega) with h | h | h | h | h | h
  · subst h
    rw [show min 1 6 = 1 by decide, wv_1]
    have l0 := hl 0 (by omega)
    omega
  · subst h
    rw [show min 2 6 = 2 by decide, wv_2]
    have l0 := hl 0 (by omega)
    have l1 := hl 1 (by omega)
    omega
  · subst h
    rw [show min 3 6 = 3 by decide, wv_3]
    have l0 := hl 0 (by omega)
    have l1 := hl 1 (by omega)
    have l2 := hl 2 (by omega)
    omega
  · subst h
    rw [show min 4 6 = 4 by decide, wv_4]
    have l0 := hl 0 (by omega)
    have l1 := hl 1 (by omega)
    have l2 := hl 2 (by omega)
    have l3 := hl 3 (by omega)
    omega
  · subst h
    rw [show min 5 6 = 5 by decide, wv_5]
    have l0 := hl 0 (by omega)
    have l1 := hl 1 (by omega)
    have l2 := hl 2 (by omega)
    have l3 := hl 3 (by omega)
    have l4 := hl 4 (by omega)
    omega
  · rw [Nat.min_eq_right h, wv_6]
    have l0 := hl 0 (by omega)
    have l1 := hl 1 (by omega)
    have l2 := hl 2 (by omega)
    have l3 := hl 3 (by omega)
    have l4 := hl 4 (by omega)
    have l5 := hl 5 (by omega)
    omega
theorem wk_iff3 {B : Nat → Nat} {pl be n : Nat} (hn : 1 ≤ n) (hbe : be = pl + n) (hl : ∀ i, i < n → 97 ≤ B (pl + i) ∧ B (pl + i) ≤ 122) : wv B pl (min n 6) = 491394458994 ↔ isW B pl be 3 = true := by
  rw [isW_3]
  rcases (show n = 1 ∨ n = 2 ∨ n = 3 ∨ n = 4 ∨ n = 5 ∨ 6 ≤ n by omega) with h | h | h | h | h | h
  · subst h
    rw [show min 1 6 = 1 by decide, wv_1]
    have l0 := hl 0 (by omega)
    omega
  · subst h
    rw [show min 2 6 = 2 by decide, wv_2]
    have l0 := hl 0 (by omega)
    have l1 := hl 1 (by omega)
    omega
  · subst h
    rw [show min 3 6 = 3 by decide, wv_3]
    have l0 := hl 0 (by omega)
    have l1 := hl 1 (by omega)
    have l2 := hl 2 (by omega)
    omega
  · subst h
    rw [show min 4 6 = 4 by decide, wv_4]
    have l0 := hl 0 (by omega)
    have l1 := hl 1 (by omega)
    have l2 := hl 2 (by omega)
    have l3 := hl 3 (by omega)
    omega
  · subst h
    rw [show min 5 6 = 5 by decide, wv_5]
    have l0 := hl 0 (by omega)
    have l1 := hl 1 (by omega)
    have l2 := hl 2 (by omega)
    have l3 := hl 3 (by omega)
    have l4 := hl 4 (by omega)
    omega
  · rw [Nat.min_eq_right h, wv_6]
    have l0 := hl 0 (by omega)
    have l1 := hl 1 (by omega)
    have l2 := hl 2 (by omega)
    have l3 := hl 3 (by omega)
    have l4 := hl 4 (by omega)
    have l5 := hl 5 (by omega)
    omega
theorem wk_it {B : Nat → Nat} {pl be n : Nat} (hn : 1 ≤ n) (hbe : be = pl + n) (hl : ∀ i, i < n → 97 ≤ B (pl + i) ∧ B (pl + i) ≤ 122) : wkI (wv B pl (min n 6)) = if itW B pl be 1 < 4 then nI (itW B pl be 1) else -9 := by
  have i0 := wk_iff0 hn hbe hl
  have i1 := wk_iff1 hn hbe hl
  have i2 := wk_iff2 hn hbe hl
  have i3 := wk_iff3 hn hbe hl
  unfold wkI itW
  rw [if_pos rfl]
  by_cases q0 : isW B pl be 0 = true
  · rw [if_pos (i0.mpr q0), if_pos q0]; rfl
  · rw [if_neg (fun z => q0 (i0.mp z)), if_neg q0]
    by_cases q1 : isW B pl be 1 = true
    · rw [if_pos (i1.mpr q1), if_pos q1]; rfl
    · rw [if_neg (fun z => q1 (i1.mp z)), if_neg q1]
      by_cases q2 : isW B pl be 2 = true
      · rw [if_pos (i2.mpr q2), if_pos q2]; rfl
      · rw [if_neg (fun z => q2 (i2.mp z)), if_neg q2]
        by_cases q3 : isW B pl be 3 = true
        · rw [if_pos (i3.mpr q3), if_pos q3]; rfl
        · rw [if_neg (fun z => q3 (i3.mp z)), if_neg q3]; rfl
def t4 (a : Nat → Int32) (x y z v : Int32) : Nat → Int32 := fun j => if j = 4 then x else if j = 5 then y else if j = 6 then z else if j = 7 then v else a j
theorem t4_4 (a : Nat → Int32) (x y z v : Int32) : t4 a x y z v 4 = x := rfl
theorem t4_5 (a : Nat → Int32) (x y z v : Int32) : t4 a x y z v 5 = y := rfl
theorem t4_6 (a : Nat → Int32) (x y z v : Int32) : t4 a x y z v 6 = z := rfl
theorem t4_7 (a : Nat → Int32) (x y z v : Int32) : t4 a x y z v 7 = v := rfl
theorem t4_n (a : Nat → Int32) (x y z v : Int32) {j : Nat} (h : j < 4 ∨ 7 < j) : t4 a x y z v j = a j := by
  unfold t4
  rw [if_neg (by omega), if_neg (by omega), if_neg (by omega), if_neg (by omega)]
theorem t4_u4 (a : Nat → Int32) (x y z v t : Int32) : fu (t4 a x y z v) 4 t = t4 a t y z v := by
  funext j; unfold fu t4; by_cases h : j = 4 <;> simp [h]
theorem t4_u5 (a : Nat → Int32) (x y z v t : Int32) : fu (t4 a x y z v) 5 t = t4 a x t z v := by
  funext j; unfold fu t4; by_cases h : j = 5 <;> simp [h]
theorem t4_u6 (a : Nat → Int32) (x y z v t : Int32) : fu (t4 a x y z v) 6 t = t4 a x y t v := by
  funext j; unfold fu t4; by_cases h : j = 6 <;> simp [h]
theorem t4_u7 (a : Nat → Int32) (x y z v t : Int32) : fu (t4 a x y z v) 7 t = t4 a x y z t := by
  funext j; unfold fu t4; by_cases h : j = 7 <;> simp [h]
theorem t4_id (a : Nat → Int32) : t4 a (a 4) (a 5) (a 6) (a 7) = a := by
  funext j; unfold t4
  by_cases h : j = 4
  · simp [h]
  · by_cases h2 : j = 5
    · simp [h2]
    · by_cases h3 : j = 6
      · simp [h3]
      · by_cases h4 : j = 7 <;> simp [h, h2, h3, h4]
def mnv (B : Nat → Nat) : Nat → Nat → Nat → Nat × Nat
  | 0, i, v => (i, v)
  | n + 1, i, v => if fig (B i) = true then mnv B n (i + 1) (if 99 < v then v else 10 * v + (B i - 48)) else (i, v)
theorem mnv_nmv (B : Nat → Nat) : ∀ (n i v : Nat), (nmv B n i (min 100 v)).1 = (mnv B n i v).1 ∧ (nmv B n i (min 100 v)).2 = min 100 (mnv B n i v).2 ∧ (v ≤ 999 → (mnv B n i v).2 ≤ 999)
  | 0, i, v => ⟨rfl, rfl, fun h => h⟩
  | n + 1, i, v => by
    unfold nmv mnv
    by_cases q : fig (B i) = true
    · rw [if_pos q, if_pos q]
      have hb : B i ≤ 57 := (of_decide_eq_true q).2
      have e : min 100 (min 100 v * 10 + (B i - 48)) = min 100 (if 99 < v then v else 10 * v + (B i - 48)) := by
        split <;> omega
      rw [e]
      obtain ⟨a, b, c⟩ := mnv_nmv B n (i + 1) (if 99 < v then v else 10 * v + (B i - 48))
      exact ⟨a, b, fun h => c (by split <;> omega)⟩
    · rw [if_neg q, if_neg q]
      exact ⟨rfl, rfl, fun h => h⟩
/-- the reference's sort of a token -/
def mtok (B : Nat → Nat) (T : TS) : Nat := if T.2.2.1 = 1 ∧ ¬ itW B T.1 T.2.1 T.2.2.1 < 4 then 4 else T.2.2.1
def vOK (B : Nat → Nat) (T : TS) (v : Int32) : Prop := (T.2.2.1 = 2 → v = nI T.2.2.2) ∧ (T.2.2.1 = 1 → itW B T.1 T.2.1 T.2.2.1 < 4 → v = nI (itW B T.1 T.2.1 T.2.2.1))
theorem scn_all {p : Nat → Bool} : ∀ (n i j : Nat), i ≤ j → j < scn p n i → p j = true
  | 0, i, j, h1, h2 => by
    have : j < i := h2
    omega
  | n + 1, i, j, h1, h2 => by
    unfold scn at h2
    by_cases q : p i = true
    · rw [if_pos q] at h2
      by_cases e : j = i
      · rw [e]; exact q
      · exact scn_all n (i + 1) j (by omega) h2
    · rw [if_neg q] at h2
      omega
section MADV
variable {X : am_X} {d : Nat} {Q : am_Q} {u w : am_W} {tr : Int64} {A : Nat → Nat → Int32} {le : Nat} {B : Nat → Nat} {a : Nat → Int32}
theorem inL {c : Nat} (hc : c < 256) : (nI 97 ≤ nI c ∧ nI c ≤ nI 122) = (ltr c = true) := by
  rw [nI_leN (by omega) (by omega), nI_leN (by omega) (by omega)]
  unfold ltr
  rw [decide_eq_true_eq]
theorem inF {c : Nat} (hc : c < 256) : (nI 48 ≤ nI c ∧ nI c ≤ nI 57) = (fig c = true) := by
  rw [nI_leN (by omega) (by omega), nI_leN (by omega) (by omega)]
  unfold fig
  rw [decide_eq_true_eq]
theorem m_adv_skip (H : 69 ≤ u.length) (h3 : a 3 = nI le) (hA : ∀ i, i < le → A 0 i = nI (B i)) (hle : le ≤ 300) (hB : ∀ i, i < le → B i < 256) (y z v : Int32) (l1 l2 l3 : Option Value) : ∀ (n i : Nat), i + n = le → Wp X (Cl X (d + 4)) 93 Q (0, [some (.ref 57), l1, l2, l3], [], mw u tr (t4 a (nI i) y z v) A, 0, 0) = Wp X (Cl X (d + 4)) 93 Q (26, [some (.ref 57), l1, l2, l3], [], mw u tr (t4 a (nI (scn (fun i => decide (B i = 32)) n i)) y z v) A, 0, 0)
  | 0, i, e => by
    have h3' : (t4 a (nI i) y z v) 3 = nI le := h3
    have hbt : bt B le i = -1 := if_neg (by omega)
    rw [s93_0]
    simp only [s93_1, s93_2, s93_5, s93_8, s93_10, OpV_some, OpN_some, OpA_some, OpR_some, Option.toList_some, Option.toList_none, List.cons_append, List.nil_append, true_and, and_true, nI11, or_true, true_or, or_false, false_or, mI0 H, mP0 H, mI3 H, mP3 H, mI4 H, mP4 H, mI5 H, mP5 H, mI6 H, mP6 H, mI7 H, mP7 H, mI8 H, mP8 H, mI9 H, mP9 H, mI10 H, mP10 H, mI11 H, mP11 H, mI12 H, mP12 H, mI13 H, mP13 H, mI14 H, mP14 H, mI23 H, mP23 H, mI24 H, mP24 H, mI25 H, mP25 H, mI26 H, mP26 H, mI27 H, mP27 H, mI30 H, mP30 H, mI31 H, mP31 H, mI1 H, mP1 H, mR2 H, mR15 H, mR16 H, mR17 H, mR18 H, mR19 H, mR20 H, mR21 H, mR22 H, mR28 H, mR29 H, mA0 H, mS0 H, mA1 H, mS1 H, mA2 H, mS2 H, mA3 H, mS3 H, mA4 H, mS4 H, mA5 H, mS5 H, mA6 H, mS6 H, mA7 H, mS7 H, mA8 H, mS8 H, mA9 H, mS9 H, mA10 H, mS10 H, mw_cl H, fu_s, fu_n, ua_s, ua_n, Nat.reduceBEq, lt57, lt58, lt59, lt60, lt61, lt62, lt63, lt64, lt65, lt66, lt67, lt68, t4_4, m_byteAt H h3' hA hle (show i < 10000 by omega), hbt, show ((-1 : Int32) = nI 32) = False by decide, if_false, scn]
  | n + 1, i, e => by
    have h3' : (t4 a (nI i) y z v) 3 = nI le := h3
    have hb := hB i (by omega)
    have hbt : bt B le i = nI (B i) := if_pos (by omega)
    have ih := m_adv_skip H h3 hA hle hB y z v l1 l2 l3 n (i + 1) (by omega)
    rw [s93_0]
    simp only [s93_1, s93_2, s93_5, s93_8, s93_10, s93_13, s93_14, s93_15, s93_18, s93_19, s93_20, s93_23, OpV_some, OpN_some, OpA_some, OpR_some, Option.toList_some, Option.toList_none, List.cons_append, List.nil_append, true_and, and_true, nI11, or_true, true_or, or_false, false_or, mI0 H, mP0 H, mI3 H, mP3 H, mI4 H, mP4 H, mI5 H, mP5 H, mI6 H, mP6 H, mI7 H, mP7 H, mI8 H, mP8 H, mI9 H, mP9 H, mI10 H, mP10 H, mI11 H, mP11 H, mI12 H, mP12 H, mI13 H, mP13 H, mI14 H, mP14 H, mI23 H, mP23 H, mI24 H, mP24 H, mI25 H, mP25 H, mI26 H, mP26 H, mI27 H, mP27 H, mI30 H, mP30 H, mI31 H, mP31 H, mI1 H, mP1 H, mR2 H, mR15 H, mR16 H, mR17 H, mR18 H, mR19 H, mR20 H, mR21 H, mR22 H, mR28 H, mR29 H, mA0 H, mS0 H, mA1 H, mS1 H, mA2 H, mS2 H, mA3 H, mS3 H, mA4 H, mS4 H, mA5 H, mS5 H, mA6 H, mS6 H, mA7 H, mS7 H, mA8 H, mS8 H, mA9 H, mS9 H, mA10 H, mS10 H, mw_cl H, fu_s, fu_n, ua_s, ua_n, Nat.reduceBEq, lt57, lt58, lt59, lt60, lt61, lt62, lt63, lt64, lt65, lt66, lt67, lt68, t4_4, t4_u4, m_byteAt H h3' hA hle (show i < 10000 by omega), hbt, nI_eqN (show B i < 2 ^ 31 by omega) (show 32 < 2 ^ 31 by omega), nI_add, scn, decide_eq_true_eq]
    by_cases q : B i = 32
    · simp only [q, if_true]; exact ih
    · simp only [q, if_false]
theorem m_adv_word (H : 69 ≤ u.length) (h3 : a 3 = nI le) (hA : ∀ i, i < le → A 0 i = nI (B i)) (hle : le ≤ 300) (hB : ∀ i, i < le → B i < 256) {pl : Nat} (y v : Int32) (l1 : Int32) : ∀ (n j : Nat), pl + j + n = le → Wp X (Cl X (d + 4)) 93 Q (68, [some (.ref 57), some (.int l1), some (.long (nL (wv B pl (min j 6)))), some (.retAddr 0)], [], mw u tr (t4 a (nI (pl + j)) y (nI pl) v) A, 0, 0) = Wp X (Cl X (d + 4)) 93 Q (130, [some (.ref 57), some (.int l1), some (.long (nL (wv B pl (min (scn (fun i => ltr (B i)) n (pl + j) - pl) 6)))), some (.retAddr 0)], [], mw u tr (t4 a (nI (scn (fun i => ltr (B i)) n (pl + j))) y (nI pl) v) A, 0, 0)
  | 0, j, e => by
    have h3' : (t4 a (nI (pl + j)) y (nI pl) v) 3 = nI le := h3
    have hbt : bt B le (pl + j) = -1 := if_neg (by omega)
    rw [s93_68]
    simp only [s93_69, s93_70, s93_73, s93_76, s93_78, s93_80, s93_83, OpV_some, OpN_some, OpA_some, OpR_some, Option.toList_some, Option.toList_none, List.cons_append, List.nil_append, true_and, and_true, nI11, or_true, true_or, or_false, false_or, mI0 H, mP0 H, mI3 H, mP3 H, mI4 H, mP4 H, mI5 H, mP5 H, mI6 H, mP6 H, mI7 H, mP7 H, mI8 H, mP8 H, mI9 H, mP9 H, mI10 H, mP10 H, mI11 H, mP11 H, mI12 H, mP12 H, mI13 H, mP13 H, mI14 H, mP14 H, mI23 H, mP23 H, mI24 H, mP24 H, mI25 H, mP25 H, mI26 H, mP26 H, mI27 H, mP27 H, mI30 H, mP30 H, mI31 H, mP31 H, mI1 H, mP1 H, mR2 H, mR15 H, mR16 H, mR17 H, mR18 H, mR19 H, mR20 H, mR21 H, mR22 H, mR28 H, mR29 H, mA0 H, mS0 H, mA1 H, mS1 H, mA2 H, mS2 H, mA3 H, mS3 H, mA4 H, mS4 H, mA5 H, mS5 H, mA6 H, mS6 H, mA7 H, mS7 H, mA8 H, mS8 H, mA9 H, mS9 H, mA10 H, mS10 H, mw_cl H, fu_s, fu_n, ua_s, ua_n, Nat.reduceBEq, lt57, lt58, lt59, lt60, lt61, lt62, lt63, lt64, lt65, lt66, lt67, lt68, t4_4, m_byteAt H h3' hA hle (show pl + j < 10000 by omega), hbt, m_in, show (nI 97 ≤ (-1 : Int32) ∧ (-1 : Int32) ≤ nI 122) = False by decide, if_false, nI0z, if_true, scn, show pl + j - pl = j by omega]
  | n + 1, j, e => by
    have h3' : (t4 a (nI (pl + j)) y (nI pl) v) 3 = nI le := h3
    have hb := hB (pl + j) (by omega)
    have hbt : bt B le (pl + j) = nI (B (pl + j)) := if_pos (by omega)
    have ih := m_adv_word H h3 hA hle hB (pl := pl) y v l1 n (j + 1) (by omega)
    rw [s93_68]
    simp only [s93_69, s93_70, s93_73, s93_76, s93_78, s93_80, s93_83, OpV_some, OpN_some, OpA_some, OpR_some, Option.toList_some, Option.toList_none, List.cons_append, List.nil_append, true_and, and_true, nI11, or_true, true_or, or_false, false_or, mI0 H, mP0 H, mI3 H, mP3 H, mI4 H, mP4 H, mI5 H, mP5 H, mI6 H, mP6 H, mI7 H, mP7 H, mI8 H, mP8 H, mI9 H, mP9 H, mI10 H, mP10 H, mI11 H, mP11 H, mI12 H, mP12 H, mI13 H, mP13 H, mI14 H, mP14 H, mI23 H, mP23 H, mI24 H, mP24 H, mI25 H, mP25 H, mI26 H, mP26 H, mI27 H, mP27 H, mI30 H, mP30 H, mI31 H, mP31 H, mI1 H, mP1 H, mR2 H, mR15 H, mR16 H, mR17 H, mR18 H, mR19 H, mR20 H, mR21 H, mR22 H, mR28 H, mR29 H, mA0 H, mS0 H, mA1 H, mS1 H, mA2 H, mS2 H, mA3 H, mS3 H, mA4 H, mS4 H, mA5 H, mS5 H, mA6 H, mS6 H, mA7 H, mS7 H, mA8 H, mS8 H, mA9 H, mS9 H, mA10 H, mS10 H, mw_cl H, fu_s, fu_n, ua_s, ua_n, Nat.reduceBEq, lt57, lt58, lt59, lt60, lt61, lt62, lt63, lt64, lt65, lt66, lt67, lt68, t4_4, m_byteAt H h3' hA hle (show pl + j < 10000 by omega), hbt, m_in, inL hb, nI_ite, scn]
    by_cases q : ltr (B (pl + j)) = true
    · have hq := of_decide_eq_true q
      simp only [q, not_true, if_false, if_true, s93_86, s93_87, s93_90, s93_91, s93_94, s93_95, s93_97, s93_100, s93_101, s93_102, s93_103, s93_106, s93_109, s93_112, s93_115, s93_116, s93_117, s93_118, s93_119, s93_122, s93_123, s93_124, s93_127, OpV_some, OpN_some, OpA_some, OpR_some, Option.toList_some, Option.toList_none, List.cons_append, List.nil_append, true_and, and_true, nI11, or_true, true_or, or_false, false_or, mI0 H, mP0 H, mI3 H, mP3 H, mI4 H, mP4 H, mI5 H, mP5 H, mI6 H, mP6 H, mI7 H, mP7 H, mI8 H, mP8 H, mI9 H, mP9 H, mI10 H, mP10 H, mI11 H, mP11 H, mI12 H, mP12 H, mI13 H, mP13 H, mI14 H, mP14 H, mI23 H, mP23 H, mI24 H, mP24 H, mI25 H, mP25 H, mI26 H, mP26 H, mI27 H, mP27 H, mI30 H, mP30 H, mI31 H, mP31 H, mI1 H, mP1 H, mR2 H, mR15 H, mR16 H, mR17 H, mR18 H, mR19 H, mR20 H, mR21 H, mR22 H, mR28 H, mR29 H, mA0 H, mS0 H, mA1 H, mS1 H, mA2 H, mS2 H, mA3 H, mS3 H, mA4 H, mS4 H, mA5 H, mS5 H, mA6 H, mS6 H, mA7 H, mS7 H, mA8 H, mS8 H, mA9 H, mS9 H, mA10 H, mS10 H, mw_cl H, fu_s, fu_n, ua_s, ua_n, Nat.reduceBEq, lt57, lt58, lt59, lt60, lt61, lt62, lt63, lt64, lt65, lt66, lt67, lt68, t4_4, t4_6, t4_u4, nI_subN (show pl ≤ pl + j by omega), show pl + j - pl = j by omega, nI_ltN (show j < 2 ^ 31 by omega) (show 6 < 2 ^ 31 by omega), m_byteAt H h3' hA hle (show pl + j < 10000 by omega), hbt, m_add, nI_eq0 (show B (pl + j) < 2 ^ 31 by omega), show ¬ B (pl + j) = 0 by omega, nI_add]
      have e2 : pl + (j + 1) = pl + j + 1 := by omega
      rw [e2] at ih
      by_cases q6 : j < 6
      · have e3 : (256 : Int64) * nL (wv B pl (min j 6)) + (nI (B (pl + j))).toInt64 = nL (wv B pl (min (j + 1) 6)) := by
          rw [L256, nI_long (by omega), nL_mulN, nL_addN, Nat.min_eq_left (show j ≤ 6 by omega), Nat.min_eq_left (show j + 1 ≤ 6 by omega)]
          rfl
        simp only [q6, if_true, e3]
        exact ih
      · rw [Nat.min_eq_right (show 6 ≤ j + 1 by omega)] at ih
        simp only [q6, if_false, Nat.min_eq_right (show 6 ≤ j by omega)]
        exact ih
    · simp only [q, not_false_eq_true, if_true, if_false, Bool.false_eq_true, show pl + j - pl = j by omega]
theorem m_adv_num (H : 69 ≤ u.length) (h3 : a 3 = nI le) (hA : ∀ i, i < le → A 0 i = nI (B i)) (hle : le ≤ 300) (hB : ∀ i, i < le → B i < 256) (y z : Int32) (l1 : Int32) (l2 l3 : Option Value) : ∀ (n i v : Nat), i + n = le → v ≤ 999 → Wp X (Cl X (d + 4)) 93 Q (175, [some (.ref 57), some (.int l1), l2, l3], [], mw u tr (t4 a (nI i) y z (nI v)) A, 0, 0) = Wp X (Cl X (d + 4)) 93 Q (245, [some (.ref 57), some (.int l1), l2, l3], [], mw u tr (t4 a (nI (mnv B n i v).1) y z (nI (mnv B n i v).2)) A, 0, 0)
  | 0, i, v, e, hv => by
    have h3' : (t4 a (nI i) y z (nI v)) 3 = nI le := h3
    have hbt : bt B le i = -1 := if_neg (by omega)
    rw [s93_175]
    simp only [s93_176, s93_177, s93_180, s93_183, s93_185, s93_187, s93_190, OpV_some, OpN_some, OpA_some, OpR_some, Option.toList_some, Option.toList_none, List.cons_append, List.nil_append, true_and, and_true, nI11, or_true, true_or, or_false, false_or, mI0 H, mP0 H, mI3 H, mP3 H, mI4 H, mP4 H, mI5 H, mP5 H, mI6 H, mP6 H, mI7 H, mP7 H, mI8 H, mP8 H, mI9 H, mP9 H, mI10 H, mP10 H, mI11 H, mP11 H, mI12 H, mP12 H, mI13 H, mP13 H, mI14 H, mP14 H, mI23 H, mP23 H, mI24 H, mP24 H, mI25 H, mP25 H, mI26 H, mP26 H, mI27 H, mP27 H, mI30 H, mP30 H, mI31 H, mP31 H, mI1 H, mP1 H, mR2 H, mR15 H, mR16 H, mR17 H, mR18 H, mR19 H, mR20 H, mR21 H, mR22 H, mR28 H, mR29 H, mA0 H, mS0 H, mA1 H, mS1 H, mA2 H, mS2 H, mA3 H, mS3 H, mA4 H, mS4 H, mA5 H, mS5 H, mA6 H, mS6 H, mA7 H, mS7 H, mA8 H, mS8 H, mA9 H, mS9 H, mA10 H, mS10 H, mw_cl H, fu_s, fu_n, ua_s, ua_n, Nat.reduceBEq, lt57, lt58, lt59, lt60, lt61, lt62, lt63, lt64, lt65, lt66, lt67, lt68, t4_4, m_byteAt H h3' hA hle (show i < 10000 by omega), hbt, m_in, show (nI 48 ≤ (-1 : Int32) ∧ (-1 : Int32) ≤ nI 57) = False by decide, if_false, nI0z, if_true, mnv]
  | n + 1, i, v, e, hv => by
    have h3' : (t4 a (nI i) y z (nI v)) 3 = nI le := h3
    have hb := hB i (by omega)
    have hbt : bt B le i = nI (B i) := if_pos (by omega)
    have ih := fun v hv => m_adv_num H h3 hA hle hB y z l1 l2 l3 n (i + 1) v (by omega) hv
    rw [s93_175]
    simp only [s93_176, s93_177, s93_180, s93_183, s93_185, s93_187, s93_190, OpV_some, OpN_some, OpA_some, OpR_some, Option.toList_some, Option.toList_none, List.cons_append, List.nil_append, true_and, and_true, nI11, or_true, true_or, or_false, false_or, mI0 H, mP0 H, mI3 H, mP3 H, mI4 H, mP4 H, mI5 H, mP5 H, mI6 H, mP6 H, mI7 H, mP7 H, mI8 H, mP8 H, mI9 H, mP9 H, mI10 H, mP10 H, mI11 H, mP11 H, mI12 H, mP12 H, mI13 H, mP13 H, mI14 H, mP14 H, mI23 H, mP23 H, mI24 H, mP24 H, mI25 H, mP25 H, mI26 H, mP26 H, mI27 H, mP27 H, mI30 H, mP30 H, mI31 H, mP31 H, mI1 H, mP1 H, mR2 H, mR15 H, mR16 H, mR17 H, mR18 H, mR19 H, mR20 H, mR21 H, mR22 H, mR28 H, mR29 H, mA0 H, mS0 H, mA1 H, mS1 H, mA2 H, mS2 H, mA3 H, mS3 H, mA4 H, mS4 H, mA5 H, mS5 H, mA6 H, mS6 H, mA7 H, mS7 H, mA8 H, mS8 H, mA9 H, mS9 H, mA10 H, mS10 H, mw_cl H, fu_s, fu_n, ua_s, ua_n, Nat.reduceBEq, lt57, lt58, lt59, lt60, lt61, lt62, lt63, lt64, lt65, lt66, lt67, lt68, t4_4, m_byteAt H h3' hA hle (show i < 10000 by omega), hbt, m_in, inF hb, nI_ite, mnv]
    by_cases q : fig (B i) = true
    · have hq := of_decide_eq_true q
      have e1 : nI (10 * v + B i) - nI 48 = nI (10 * v + (B i - 48)) := by
        rw [nI_subN (by omega), show 10 * v + B i - 48 = 10 * v + (B i - 48) by omega]
      simp only [q, not_true, if_false, if_true, s93_193, s93_194, s93_195, s93_198, s93_200, s93_203, s93_204, s93_207, s93_210, s93_212, s93_213, s93_216, s93_217, s93_218, s93_219, s93_222, s93_225, s93_226, s93_228, s93_229, s93_232, s93_233, s93_234, s93_237, s93_238, s93_239, s93_242, OpV_some, OpN_some, OpA_some, OpR_some, Option.toList_some, Option.toList_none, List.cons_append, List.nil_append, true_and, and_true, nI11, or_true, true_or, or_false, false_or, mI0 H, mP0 H, mI3 H, mP3 H, mI4 H, mP4 H, mI5 H, mP5 H, mI6 H, mP6 H, mI7 H, mP7 H, mI8 H, mP8 H, mI9 H, mP9 H, mI10 H, mP10 H, mI11 H, mP11 H, mI12 H, mP12 H, mI13 H, mP13 H, mI14 H, mP14 H, mI23 H, mP23 H, mI24 H, mP24 H, mI25 H, mP25 H, mI26 H, mP26 H, mI27 H, mP27 H, mI30 H, mP30 H, mI31 H, mP31 H, mI1 H, mP1 H, mR2 H, mR15 H, mR16 H, mR17 H, mR18 H, mR19 H, mR20 H, mR21 H, mR22 H, mR28 H, mR29 H, mA0 H, mS0 H, mA1 H, mS1 H, mA2 H, mS2 H, mA3 H, mS3 H, mA4 H, mS4 H, mA5 H, mS5 H, mA6 H, mS6 H, mA7 H, mS7 H, mA8 H, mS8 H, mA9 H, mS9 H, mA10 H, mS10 H, mw_cl H, fu_s, fu_n, ua_s, ua_n, Nat.reduceBEq, lt57, lt58, lt59, lt60, lt61, lt62, lt63, lt64, lt65, lt66, lt67, lt68, t4_4, t4_7, t4_u4, t4_u7, nI_ltN (show 99 < 2 ^ 31 by omega) (show v < 2 ^ 31 by omega), m_byteAt H h3' hA hle (show i < 10000 by omega), hbt, pk_mul, nI_add, e1]
      by_cases q9 : 99 < v
      · simp only [q9, if_true]
        exact ih _ hv
      · simp only [q9, if_false]
        exact ih _ (by omega)
    · simp only [q, not_false_eq_true, if_true, if_false, Bool.false_eq_true]
theorem m_adv (H : 69 ≤ u.length) (h3 : a 3 = nI le) (hA : ∀ i, i < le → A 0 i = nI (B i)) (hle : le ≤ 300) (hB : ∀ i, i < le → B i < 256) {t : TS} (h4 : a 4 = nI t.2.1) (ht : t.2.1 ≤ le) (hQ : ∀ v, vOK B (tkn B le t) v → Q none (mw u tr (t4 a (nI (tkn B le t).2.1) (nI (mtok B (tkn B le t))) (nI (tkn B le t).1) v) A)) : Cl X (d + 5) 93 [.ref 57] (mw u tr a A) Q := by
  have hs := scn_ge (fun i => decide (B i = 32)) (le - t.2.1) t.2.1
  have hsk : skp B le t.2.1 = scn (fun i => decide (B i = 32)) (le - t.2.1) t.2.1 := rfl
  have hT : tkn B le t = (skp B le t.2.1, nxt B le (skp B le t.2.1) t.2.2.2) := rfl
  rw [e93]
  conv in mw u tr a A => rw [← t4_id a, h4]
  rw [m_adv_skip H h3 hA hle hB _ _ _ none none none (le - t.2.1) t.2.1 (by omega), ← hsk]
  rw [hT] at hQ
  rw [← hsk] at hs
  generalize skp B le t.2.1 = pl at hs hQ
  have h3' : ∀ x y z v, (t4 a x y z v) 3 = nI le := fun _ _ _ _ => h3
  by_cases hp : le ≤ pl
  · have hbt : bt B le pl = -1 := if_neg (by omega)
    have hn : nxt B le pl t.2.2.2 = (pl, 0, t.2.2.2) := if_pos hp
    rw [hn] at hQ
    have hQ := hQ (a 7) ⟨fun z => absurd (show (0 : Nat) = 2 from z) (by decide), fun z => absurd (show (0 : Nat) = 1 from z) (by decide)⟩
    simp only [s93_26, s93_27, s93_28, s93_31, s93_34, s93_35, s93_36, s93_39, s93_42, s93_43, s93_44, s93_47, s93_48, s93_49, s93_52, s93_310, OpV_some, OpN_some, OpA_some, OpR_some, Option.toList_some, Option.toList_none, List.cons_append, List.nil_append, true_and, and_true, nI11, or_true, true_or, or_false, false_or, mI0 H, mP0 H, mI3 H, mP3 H, mI4 H, mP4 H, mI5 H, mP5 H, mI6 H, mP6 H, mI7 H, mP7 H, mI8 H, mP8 H, mI9 H, mP9 H, mI10 H, mP10 H, mI11 H, mP11 H, mI12 H, mP12 H, mI13 H, mP13 H, mI14 H, mP14 H, mI23 H, mP23 H, mI24 H, mP24 H, mI25 H, mP25 H, mI26 H, mP26 H, mI27 H, mP27 H, mI30 H, mP30 H, mI31 H, mP31 H, mI1 H, mP1 H, mR2 H, mR15 H, mR16 H, mR17 H, mR18 H, mR19 H, mR20 H, mR21 H, mR22 H, mR28 H, mR29 H, mA0 H, mS0 H, mA1 H, mS1 H, mA2 H, mS2 H, mA3 H, mS3 H, mA4 H, mS4 H, mA5 H, mS5 H, mA6 H, mS6 H, mA7 H, mS7 H, mA8 H, mS8 H, mA9 H, mS9 H, mA10 H, mS10 H, mw_cl H, fu_s, fu_n, ua_s, ua_n, Nat.reduceBEq, lt57, lt58, lt59, lt60, lt61, lt62, lt63, lt64, lt65, lt66, lt67, lt68, t4_4, t4_u5, t4_u6, m_byteAt H (h3' _ _ _ _) hA hle (show pl < 10000 by omega), hbt, show ((-1 : Int32) < 0) = True by decide, if_true]
    exact hQ
  · have hb := hB pl (by omega)
    have hbt : bt B le pl = nI (B pl) := if_pos (by omega)
    simp only [s93_26, s93_27, s93_28, s93_31, s93_34, s93_35, s93_36, s93_39, s93_42, s93_43, s93_44, s93_47, s93_48, s93_49, s93_52, s93_55, s93_56, s93_58, s93_60, s93_63, OpV_some, OpN_some, OpA_some, OpR_some, Option.toList_some, Option.toList_none, List.cons_append, List.nil_append, true_and, and_true, nI11, or_true, true_or, or_false, false_or, mI0 H, mP0 H, mI3 H, mP3 H, mI4 H, mP4 H, mI5 H, mP5 H, mI6 H, mP6 H, mI7 H, mP7 H, mI8 H, mP8 H, mI9 H, mP9 H, mI10 H, mP10 H, mI11 H, mP11 H, mI12 H, mP12 H, mI13 H, mP13 H, mI14 H, mP14 H, mI23 H, mP23 H, mI24 H, mP24 H, mI25 H, mP25 H, mI26 H, mP26 H, mI27 H, mP27 H, mI30 H, mP30 H, mI31 H, mP31 H, mI1 H, mP1 H, mR2 H, mR15 H, mR16 H, mR17 H, mR18 H, mR19 H, mR20 H, mR21 H, mR22 H, mR28 H, mR29 H, mA0 H, mS0 H, mA1 H, mS1 H, mA2 H, mS2 H, mA3 H, mS3 H, mA4 H, mS4 H, mA5 H, mS5 H, mA6 H, mS6 H, mA7 H, mS7 H, mA8 H, mS8 H, mA9 H, mS9 H, mA10 H, mS10 H, mw_cl H, fu_s, fu_n, ua_s, ua_n, Nat.reduceBEq, lt57, lt58, lt59, lt60, lt61, lt62, lt63, lt64, lt65, lt66, lt67, lt68, t4_4, t4_u6, m_byteAt H (h3' _ _ _ _) hA hle (show pl < 10000 by omega), hbt, nI_lt0 (show B pl < 2 ^ 31 by omega), if_false, m_in, inL hb, nI_ite]
    unfold nxt at hQ
    rw [if_neg hp] at hQ
    by_cases h1 : ltr (B pl) = true
    · rw [if_pos h1] at hQ
      have hsc := scn_ge (fun i => ltr (B i)) (le - pl) pl
      have hgt : pl < scn (fun i => ltr (B i)) (le - pl) pl := by
        obtain ⟨m, hm⟩ : ∃ m, le - pl = m + 1 := ⟨le - pl - 1, by omega⟩
        rw [hm]
        unfold scn
        rw [if_pos h1]
        have := scn_ge (fun i => ltr (B i)) m (pl + 1)
        omega
      have hall := scn_all (p := fun i => ltr (B i)) (le - pl) pl
      simp only [h1, not_true, if_false, s93_66, s93_67, OpV_some, OpN_some, OpA_some, OpR_some, Option.toList_some, Option.toList_none, List.cons_append, List.nil_append, true_and, and_true, nI11, or_true, true_or, or_false, false_or]
      have hw := m_adv_word (X := X) (d := d) (Q := Q) (tr := tr) H h3 hA hle hB (pl := pl) (a 5) (a 7) (nI (B pl)) (le - pl) 0 (by omega)
      simp only [Nat.add_zero] at hw
      have e0 : (0 : Int64) = nL (wv B pl (min 0 6)) := rfl
      rw [e0, hw]
      generalize scn (fun i => ltr (B i)) (le - pl) pl = be at hsc hgt hall hQ
      have hwl := wv_lt B pl (min (be - pl) 6) (fun i hi => hB (pl + i) (by omega))
      have hp6 : 256 ^ (min (be - pl) 6) ≤ 256 ^ 6 := Nat.pow_le_pow_right (by decide) (Nat.min_le_right _ _)
      have h26 : 256 ^ 6 = 281474976710656 := by decide
      have hit := wk_it (B := B) (pl := pl) (be := be) (n := be - pl) (by omega) (by omega) (fun i hi => of_decide_eq_true (hall (pl + i) (by omega) (by omega)))
      simp only [s93_130, s93_131, s93_132, s93_135, s93_138, s93_139, s93_140, s93_143, s93_145, s93_148, s93_149, s93_152, s93_153, s93_156, s93_310, OpV_some, OpN_some, OpA_some, OpR_some, Option.toList_some, Option.toList_none, List.cons_append, List.nil_append, true_and, and_true, nI11, or_true, true_or, or_false, false_or, mI0 H, mP0 H, mI3 H, mP3 H, mI4 H, mP4 H, mI5 H, mP5 H, mI6 H, mP6 H, mI7 H, mP7 H, mI8 H, mP8 H, mI9 H, mP9 H, mI10 H, mP10 H, mI11 H, mP11 H, mI12 H, mP12 H, mI13 H, mP13 H, mI14 H, mP14 H, mI23 H, mP23 H, mI24 H, mP24 H, mI25 H, mP25 H, mI26 H, mP26 H, mI27 H, mP27 H, mI30 H, mP30 H, mI31 H, mP31 H, mI1 H, mP1 H, mR2 H, mR15 H, mR16 H, mR17 H, mR18 H, mR19 H, mR20 H, mR21 H, mR22 H, mR28 H, mR29 H, mA0 H, mS0 H, mA1 H, mS1 H, mA2 H, mS2 H, mA3 H, mS3 H, mA4 H, mS4 H, mA5 H, mS5 H, mA6 H, mS6 H, mA7 H, mS7 H, mA8 H, mS8 H, mA9 H, mS9 H, mA10 H, mS10 H, mw_cl H, fu_s, fu_n, ua_s, ua_n, Nat.reduceBEq, lt57, lt58, lt59, lt60, lt61, lt62, lt63, lt64, lt65, lt66, lt67, lt68, t4_u7, t4_7, t4_u5, m_wordOf (show wv B pl (min (be - pl) 6) < 2 ^ 62 by omega), hit]
      have hm1 : mtok B (pl, be, 1, t.2.2.2) = if itW B pl be 1 < 4 then 1 else 4 := by
        show (if 1 = 1 ∧ ¬ itW B pl be 1 < 4 then 4 else 1) = _
        by_cases q : itW B pl be 1 < 4
        · rw [if_neg (fun z => z.2 q), if_pos q]
        · rw [if_pos ⟨rfl, q⟩, if_neg q]
      rw [hm1] at hQ
      by_cases q : itW B pl be 1 < 4
      · have hQ := hQ (nI (itW B pl be 1)) ⟨fun z => absurd (show (1 : Nat) = 2 from z) (by decide), fun _ _ => rfl⟩
        simp only [q, if_true] at hQ
        simp only [q, if_true, nI_ne9 (show itW B pl be 1 < 2 ^ 31 by omega), if_false, s93_152, s93_153, s93_156, s93_310, OpV_some, OpN_some, OpA_some, OpR_some, Option.toList_some, Option.toList_none, List.cons_append, List.nil_append, true_and, and_true, nI11, or_true, true_or, or_false, false_or, mI0 H, mP0 H, mI3 H, mP3 H, mI4 H, mP4 H, mI5 H, mP5 H, mI6 H, mP6 H, mI7 H, mP7 H, mI8 H, mP8 H, mI9 H, mP9 H, mI10 H, mP10 H, mI11 H, mP11 H, mI12 H, mP12 H, mI13 H, mP13 H, mI14 H, mP14 H, mI23 H, mP23 H, mI24 H, mP24 H, mI25 H, mP25 H, mI26 H, mP26 H, mI27 H, mP27 H, mI30 H, mP30 H, mI31 H, mP31 H, mI1 H, mP1 H, mR2 H, mR15 H, mR16 H, mR17 H, mR18 H, mR19 H, mR20 H, mR21 H, mR22 H, mR28 H, mR29 H, mA0 H, mS0 H, mA1 H, mS1 H, mA2 H, mS2 H, mA3 H, mS3 H, mA4 H, mS4 H, mA5 H, mS5 H, mA6 H, mS6 H, mA7 H, mS7 H, mA8 H, mS8 H, mA9 H, mS9 H, mA10 H, mS10 H, mw_cl H, fu_s, fu_n, ua_s, ua_n, Nat.reduceBEq, lt57, lt58, lt59, lt60, lt61, lt62, lt63, lt64, lt65, lt66, lt67, lt68, t4_u5]
        exact hQ
      · have hQ := hQ (-9) ⟨fun z => absurd (show (1 : Nat) = 2 from z) (by decide), fun _ z => absurd (show itW B pl be 1 < 4 from z) q⟩
        simp only [q, if_false] at hQ
        simp only [q, if_false, if_true, s93_148, s93_149, s93_152, s93_153, s93_156, s93_310, OpV_some, OpN_some, OpA_some, OpR_some, Option.toList_some, Option.toList_none, List.cons_append, List.nil_append, true_and, and_true, nI11, or_true, true_or, or_false, false_or, mI0 H, mP0 H, mI3 H, mP3 H, mI4 H, mP4 H, mI5 H, mP5 H, mI6 H, mP6 H, mI7 H, mP7 H, mI8 H, mP8 H, mI9 H, mP9 H, mI10 H, mP10 H, mI11 H, mP11 H, mI12 H, mP12 H, mI13 H, mP13 H, mI14 H, mP14 H, mI23 H, mP23 H, mI24 H, mP24 H, mI25 H, mP25 H, mI26 H, mP26 H, mI27 H, mP27 H, mI30 H, mP30 H, mI31 H, mP31 H, mI1 H, mP1 H, mR2 H, mR15 H, mR16 H, mR17 H, mR18 H, mR19 H, mR20 H, mR21 H, mR22 H, mR28 H, mR29 H, mA0 H, mS0 H, mA1 H, mS1 H, mA2 H, mS2 H, mA3 H, mS3 H, mA4 H, mS4 H, mA5 H, mS5 H, mA6 H, mS6 H, mA7 H, mS7 H, mA8 H, mS8 H, mA9 H, mS9 H, mA10 H, mS10 H, mw_cl H, fu_s, fu_n, ua_s, ua_n, Nat.reduceBEq, lt57, lt58, lt59, lt60, lt61, lt62, lt63, lt64, lt65, lt66, lt67, lt68, t4_u5]
        exact hQ
    · rw [if_neg h1] at hQ
      simp only [h1, Bool.false_eq_true, not_false_eq_true, if_true, s93_159, s93_160, s93_162, s93_164, s93_167, s93_170, s93_171, s93_172, OpV_some, OpN_some, OpA_some, OpR_some, Option.toList_some, Option.toList_none, List.cons_append, List.nil_append, true_and, and_true, nI11, or_true, true_or, or_false, false_or, mI0 H, mP0 H, mI3 H, mP3 H, mI4 H, mP4 H, mI5 H, mP5 H, mI6 H, mP6 H, mI7 H, mP7 H, mI8 H, mP8 H, mI9 H, mP9 H, mI10 H, mP10 H, mI11 H, mP11 H, mI12 H, mP12 H, mI13 H, mP13 H, mI14 H, mP14 H, mI23 H, mP23 H, mI24 H, mP24 H, mI25 H, mP25 H, mI26 H, mP26 H, mI27 H, mP27 H, mI30 H, mP30 H, mI31 H, mP31 H, mI1 H, mP1 H, mR2 H, mR15 H, mR16 H, mR17 H, mR18 H, mR19 H, mR20 H, mR21 H, mR22 H, mR28 H, mR29 H, mA0 H, mS0 H, mA1 H, mS1 H, mA2 H, mS2 H, mA3 H, mS3 H, mA4 H, mS4 H, mA5 H, mS5 H, mA6 H, mS6 H, mA7 H, mS7 H, mA8 H, mS8 H, mA9 H, mS9 H, mA10 H, mS10 H, mw_cl H, fu_s, fu_n, ua_s, ua_n, Nat.reduceBEq, lt57, lt58, lt59, lt60, lt61, lt62, lt63, lt64, lt65, lt66, lt67, lt68, m_in, inF hb, nI_ite]
      by_cases h2 : fig (B pl) = true
      · rw [if_pos h2] at hQ
        obtain ⟨m1, m2, m3⟩ := mnv_nmv B (le - pl) pl 0
        obtain ⟨n1, n2, n3⟩ := nmv_ge B (le - pl) pl 0 (by omega)
        rw [show min 100 0 = 0 by decide] at m1 m2
        have m3 := m3 (by omega)
        simp only [h2, not_true, if_false, t4_u7]
        rw [m_adv_num H h3 hA hle hB _ _ _ _ _ (le - pl) pl 0 (by omega) (by omega)]
        rw [m1, m2] at hQ
        rw [m1] at n1 n2
        generalize mnv B (le - pl) pl 0 = z at hQ m1 m2 m3 n1 n2
        have hmt : ∀ k, mtok B (pl, z.1, ntk B pl z.1 (min 100 z.2), k) = ntk B pl z.1 (min 100 z.2) := fun k => by
          unfold mtok
          rw [if_neg]
          intro q
          have q1 : ntk B pl z.1 (min 100 z.2) = 1 := q.1
          unfold ntk at q1
          split at q1 <;> cases q1
        rw [hmt] at hQ
        have hQ := hQ (nI z.2) ⟨fun q => by
          have q1 : ntk B pl z.1 (min 100 z.2) = 2 := q
          unfold ntk at q1
          split at q1
          · cases q1
          · rename_i hn
            show nI z.2 = nI (min 100 z.2)
            rw [Nat.min_eq_right (by omega)], fun q => by
          have q1 : ntk B pl z.1 (min 100 z.2) = 1 := q
          unfold ntk at q1
          split at q1 <;> cases q1⟩
        unfold ntk at hQ
        simp only [s93_245, s93_246, s93_247, s93_250, s93_252, s93_255, s93_256, s93_258, s93_261, s93_262, s93_265, s93_266, s93_269, s93_270, s93_271, s93_274, s93_275, s93_278, s93_279, s93_282, s93_310, OpV_some, OpN_some, OpA_some, OpR_some, Option.toList_some, Option.toList_none, List.cons_append, List.nil_append, true_and, and_true, nI11, or_true, true_or, or_false, false_or, mI0 H, mP0 H, mI3 H, mP3 H, mI4 H, mP4 H, mI5 H, mP5 H, mI6 H, mP6 H, mI7 H, mP7 H, mI8 H, mP8 H, mI9 H, mP9 H, mI10 H, mP10 H, mI11 H, mP11 H, mI12 H, mP12 H, mI13 H, mP13 H, mI14 H, mP14 H, mI23 H, mP23 H, mI24 H, mP24 H, mI25 H, mP25 H, mI26 H, mP26 H, mI27 H, mP27 H, mI30 H, mP30 H, mI31 H, mP31 H, mI1 H, mP1 H, mR2 H, mR15 H, mR16 H, mR17 H, mR18 H, mR19 H, mR20 H, mR21 H, mR22 H, mR28 H, mR29 H, mA0 H, mS0 H, mA1 H, mS1 H, mA2 H, mS2 H, mA3 H, mS3 H, mA4 H, mS4 H, mA5 H, mS5 H, mA6 H, mS6 H, mA7 H, mS7 H, mA8 H, mS8 H, mA9 H, mS9 H, mA10 H, mS10 H, mw_cl H, fu_s, fu_n, ua_s, ua_n, Nat.reduceBEq, lt57, lt58, lt59, lt60, lt61, lt62, lt63, lt64, lt65, lt66, lt67, lt68, t4_4, t4_6, t4_7, t4_u5, nI_ltN (show 99 < 2 ^ 31 by omega) (show z.2 < 2 ^ 31 by omega), nI_eqN (show B pl < 2 ^ 31 by omega) (show 48 < 2 ^ 31 by omega), nI_subN n1, nI_ltN (show 1 < 2 ^ 31 by omega) (show z.1 - pl < 2 ^ 31 by omega)]
        have e9 : (99 < min 100 z.2) = (99 < z.2) := propext (by omega)
        simp only [e9] at hQ
        by_cases q1 : 99 < z.2
        · simp only [q1, or_true, if_true] at hQ ⊢
          exact hQ
        · by_cases q2 : B pl = 48
          · by_cases q3 : 1 < z.1 - pl
            · simp only [q1, q2, q3, and_self, true_or, if_true, if_false] at hQ ⊢
              exact hQ
            · simp only [q1, q2, q3, and_false, or_self, if_true, if_false] at hQ ⊢
              exact hQ
          · simp only [q1, q2, false_and, or_self, if_false] at hQ ⊢
            exact hQ
      · rw [if_neg h2] at hQ
        simp only [h2, Bool.false_eq_true, not_false_eq_true, if_true, s93_285, s93_286, s93_287, s93_290, s93_291, s93_292, s93_295, s93_296, s93_297, s93_299, s93_302, s93_303, s93_306, s93_307, s93_310, OpV_some, OpN_some, OpA_some, OpR_some, Option.toList_some, Option.toList_none, List.cons_append, List.nil_append, true_and, and_true, nI11, or_true, true_or, or_false, false_or, mI0 H, mP0 H, mI3 H, mP3 H, mI4 H, mP4 H, mI5 H, mP5 H, mI6 H, mP6 H, mI7 H, mP7 H, mI8 H, mP8 H, mI9 H, mP9 H, mI10 H, mP10 H, mI11 H, mP11 H, mI12 H, mP12 H, mI13 H, mP13 H, mI14 H, mP14 H, mI23 H, mP23 H, mI24 H, mP24 H, mI25 H, mP25 H, mI26 H, mP26 H, mI27 H, mP27 H, mI30 H, mP30 H, mI31 H, mP31 H, mI1 H, mP1 H, mR2 H, mR15 H, mR16 H, mR17 H, mR18 H, mR19 H, mR20 H, mR21 H, mR22 H, mR28 H, mR29 H, mA0 H, mS0 H, mA1 H, mS1 H, mA2 H, mS2 H, mA3 H, mS3 H, mA4 H, mS4 H, mA5 H, mS5 H, mA6 H, mS6 H, mA7 H, mS7 H, mA8 H, mS8 H, mA9 H, mS9 H, mA10 H, mS10 H, mw_cl H, fu_s, fu_n, ua_s, ua_n, Nat.reduceBEq, lt57, lt58, lt59, lt60, lt61, lt62, lt63, lt64, lt65, lt66, lt67, lt68, t4_4, t4_u4, t4_u5, nI_add, nI_eqN (show B pl < 2 ^ 31 by omega) (show 59 < 2 ^ 31 by omega)]
        by_cases q : B pl = 59
        · rw [if_pos q] at hQ
          have hQ := hQ (a 7) ⟨fun z => absurd (show (3 : Nat) = 2 from z) (by decide), fun z => absurd (show (3 : Nat) = 1 from z) (by decide)⟩
          simp only [q, if_true]
          exact hQ
        · rw [if_neg q] at hQ
          have hQ := hQ (a 7) ⟨fun z => absurd (show (4 : Nat) = 2 from z) (by decide), fun z => absurd (show (4 : Nat) = 1 from z) (by decide)⟩
          simp only [q, if_false]
          exact hQ
end MADV
