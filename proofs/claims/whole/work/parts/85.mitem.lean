/-! items by the reference -/
theorem ssl_at : ∀ (n s : Nat) (h : Nat → Nat) (j : Nat), ssl n s h j = if s * 2 ≤ j ∧ j < (s + n) * 2 then 1 else h j
  | 0, s, h, j => by unfold ssl; rw [if_neg (by omega)]
  | n + 1, s, h, j => by
    unfold ssl
    rw [ssl_at n (s + 1)]
    by_cases q : (s + 1) * 2 ≤ j ∧ j < (s + 1 + n) * 2
    · rw [if_pos q, if_pos (by omega)]
    · rw [if_neg q]
      unfold upN
      by_cases q1 : j = s * 2 + 1
      · rw [if_pos q1, if_pos (by omega)]
      · rw [if_neg q1]
        by_cases q2 : j = s * 2
        · rw [if_pos q2, if_pos (by omega)]
        · rw [if_neg q2, if_neg (by omega)]
def AH (a : Nat → Int32) (B : Nat → Nat) (T : TS) : Prop := a 4 = nI T.2.1 ∧ a 5 = nI (mtok B T) ∧ a 6 = nI T.1 ∧ vOK B T (a 7)
def DR (a : Nat → Int32) (A : Nat → Nat → Int32) (r : RSt) : Prop := a 12 = nI r.1.1 ∧ a 13 = nI r.2.1.1 ∧ a 14 = nI r.2.2.1 ∧ (∀ s, s < r.1.1 → A 1 (8 + s) = nI (r.1.2 (s * 2)) ∧ A 2 (8 + s) = nI (r.1.2 (s * 2 + 1))) ∧ (∀ k, k < r.2.1.1 → A 3 (32 + 4 * k) = nI (r.2.1.2 (k * 5)) ∧ A 3 (32 + 4 * k + 1) = nI (r.2.1.2 (k * 5 + 1)) ∧ A 3 (32 + 4 * k + 2) = nI (r.2.1.2 (k * 5 + 2)) ∧ A 3 (32 + 4 * k + 3) = nI (r.2.1.2 (k * 5 + 3))) ∧ (∀ q, q < r.2.2.1 → A 4 (12 + 3 * q) = nI (r.2.2.2 (q * 5)) ∧ A 4 (12 + 3 * q + 1) = nI (r.2.2.2 (q * 5 + 2)) ∧ A 4 (12 + 3 * q + 2) = nI (r.2.2.2 (q * 5 + 3)))
def D1 (A : Nat → Nat → Int32) : Prop := ∀ s, s < 8 → A 1 (8 + s) = nI 1 ∧ A 2 (8 + s) = nI 1
theorem mtok2 {B : Nat → Nat} {T : TS} : mtok B T = 2 ↔ T.2.2.1 = 2 := by
  unfold mtok
  constructor
  · intro z
    split at z
    · cases z
    · exact z
  · intro z
    rw [if_neg (by omega)]; exact z
theorem mtok3 {B : Nat → Nat} {T : TS} : mtok B T = 3 ↔ T.2.2.1 = 3 := by
  unfold mtok
  constructor
  · intro z
    split at z
    · cases z
    · exact z
  · intro z
    rw [if_neg (by omega)]; exact z
theorem mtok_le {B : Nat → Nat} {T : TS} (h : T.2.2.1 ≤ 4) : mtok B T ≤ 4 := by
  unfold mtok
  split
  · decide
  · exact h
theorem okN_iff {k i v n0 nS : Nat} : okN k i v n0 nS = true ↔ ¬ (k = 2 ∧ i = 1 ∧ v = n0) ∧ lsN (k * 4 + i) ≤ v ∧ v ≤ msN nS (k * 4 + i) := by
  unfold okN
  rw [decide_eq_true_eq]
section MITEM
variable {X : am_X} {d : Nat} {Q : am_Q} {u w : am_W} {tr : Int64} {A : Nat → Nat → Int32} {le : Nat} {B : Nat → Nat} {a : Nat → Int32} {s : CSt}
theorem Rel.dft (R : Rel tr a A s) (V : Valid s) {a' : Nat → Int32} {A' : Nat → Nat → Int32} (h3 : a' 3 = a 3) (h9 : a' 9 = a 9) (h10 : a' 10 = a 10) (h11 : a' 11 = a 11) (h23 : a' 23 = a 23) (e0 : A' 0 = A 0) (e5 : A' 5 = A 5) (e6 : A' 6 = A 6) (e7 : A' 7 = A 7) (e8 : A' 8 = A 8) (e1 : ∀ j, j < 8 → A' 1 j = A 1 j) (e2 : ∀ j, j < 8 → A' 2 j = A 2 j) (e3 : ∀ j, j < 32 → A' 3 j = A 3 j) (e4 : ∀ j, j < 12 → A' 4 j = A 4 j) : Rel tr a' A' s := by
  have hS := Rel.nS V
  have hR := Rel.nR V
  have hP := Rel.nP V
  obtain ⟨r0, r1, r2, r3, r4, r5, r6, r7⟩ := R
  refine ⟨r0, ?_, ⟨?_, fun k hk => ?_⟩, ⟨?_, fun k hk => ?_⟩, ⟨?_, fun k hk => ?_⟩, ?_, ?_, ?_⟩
  · rw [h3, e0]; exact r1
  · rw [h9]; exact r2.1
  · rw [e1 k (by omega), e2 k (by omega)]; exact r2.2 k hk
  · rw [h10]; exact r3.1
  · rw [e3 _ (by omega), e3 _ (by omega), e3 _ (by omega)]; exact r3.2 k hk
  · rw [h11]; exact r4.1
  · rw [e4 _ (by omega)]; exact r4.2 k hk
  · rw [e5]; exact r5
  · rw [h23, e8]; exact r6
  · rw [e7, e6]; exact r7
theorem m_isWell (H : 69 ≤ u.length) : Cl X (d + 1) 94 [.ref 57] (mw u tr a A) Q = Q (some (.int (nI (if a 8 < 0 then 1 else 0)))) (mw u tr a A) := by
  rw [e94]
  simp only [s94_0, s94_1, s94_4, s94_7, s94_8, s94_11, s94_12, OpV_some, OpN_some, OpA_some, OpR_some, Option.toList_some, Option.toList_none, List.cons_append, List.nil_append, true_and, and_true, nI11, or_true, true_or, or_false, false_or, mI0 H, mP0 H, mI3 H, mP3 H, mI4 H, mP4 H, mI5 H, mP5 H, mI6 H, mP6 H, mI7 H, mP7 H, mI8 H, mP8 H, mI9 H, mP9 H, mI10 H, mP10 H, mI11 H, mP11 H, mI12 H, mP12 H, mI13 H, mP13 H, mI14 H, mP14 H, mI23 H, mP23 H, mI24 H, mP24 H, mI25 H, mP25 H, mI26 H, mP26 H, mI27 H, mP27 H, mI30 H, mP30 H, mI31 H, mP31 H, mI1 H, mP1 H, mR2 H, mR15 H, mR16 H, mR17 H, mR18 H, mR19 H, mR20 H, mR21 H, mR22 H, mR28 H, mR29 H, mA0 H, mS0 H, mA1 H, mS1 H, mA2 H, mS2 H, mA3 H, mS3 H, mA4 H, mS4 H, mA5 H, mS5 H, mA6 H, mS6 H, mA7 H, mS7 H, mA8 H, mS8 H, mA9 H, mS9 H, mA10 H, mS10 H, mw_cl H, fu_s, fu_n, ua_s, ua_n, Nat.reduceBEq, lt57, lt58, lt59, lt60, lt61, lt62, lt63, lt64, lt65, lt66, lt67, lt68, b01_0, b01_1]
  by_cases q : a 8 < 0 <;> simp only [q, if_true, if_false]
theorem m_takes_ill (H : 69 ≤ u.length) (h8 : ¬ a 8 < 0) (b : Int32) : Cl X (d + 2) 95 [.ref 57, .int b] (mw u tr a A) Q = Q (some (.int (nI 0))) (mw u tr a A) := by
  rw [e95]
  simp only [s95_0, s95_1, s95_4, s95_7, s95_8, s95_9, s95_10, s95_13, s95_14, s95_15, s95_18, s95_21, s95_22, s95_23, s95_24, s95_27, s95_28, s95_29, s95_32, s95_33, OpV_some, OpN_some, OpA_some, OpR_some, Option.toList_some, Option.toList_none, List.cons_append, List.nil_append, true_and, and_true, nI11, or_true, true_or, or_false, false_or, mI0 H, mP0 H, mI3 H, mP3 H, mI4 H, mP4 H, mI5 H, mP5 H, mI6 H, mP6 H, mI7 H, mP7 H, mI8 H, mP8 H, mI9 H, mP9 H, mI10 H, mP10 H, mI11 H, mP11 H, mI12 H, mP12 H, mI13 H, mP13 H, mI14 H, mP14 H, mI23 H, mP23 H, mI24 H, mP24 H, mI25 H, mP25 H, mI26 H, mP26 H, mI27 H, mP27 H, mI30 H, mP30 H, mI31 H, mP31 H, mI1 H, mP1 H, mR2 H, mR15 H, mR16 H, mR17 H, mR18 H, mR19 H, mR20 H, mR21 H, mR22 H, mR28 H, mR29 H, mA0 H, mS0 H, mA1 H, mS1 H, mA2 H, mS2 H, mA3 H, mS3 H, mA4 H, mS4 H, mA5 H, mS5 H, mA6 H, mS6 H, mA7 H, mS7 H, mA8 H, mS8 H, mA9 H, mS9 H, mA10 H, mS10 H, mw_cl H, fu_s, fu_n, ua_s, ua_n, Nat.reduceBEq, lt57, lt58, lt59, lt60, lt61, lt62, lt63, lt64, lt65, lt66, lt67, lt68, m_isWell H, h8, if_false, nI0z, if_true]
theorem m_takes_no (H : 69 ≤ u.length) (h8 : a 8 < 0) : Cl X (d + 2) 95 [.ref 57, .int (nI 0)] (mw u tr a A) Q = Q (some (.int (nI 0))) (mw u tr (fu a 8 (a 6)) A) := by
  rw [e95]
  simp only [s95_0, s95_1, s95_4, s95_7, s95_8, s95_9, s95_10, s95_13, s95_14, s95_15, s95_18, s95_21, s95_22, s95_23, s95_24, s95_27, s95_28, s95_29, s95_32, s95_33, OpV_some, OpN_some, OpA_some, OpR_some, Option.toList_some, Option.toList_none, List.cons_append, List.nil_append, true_and, and_true, nI11, or_true, true_or, or_false, false_or, mI0 H, mP0 H, mI3 H, mP3 H, mI4 H, mP4 H, mI5 H, mP5 H, mI6 H, mP6 H, mI7 H, mP7 H, mI8 H, mP8 H, mI9 H, mP9 H, mI10 H, mP10 H, mI11 H, mP11 H, mI12 H, mP12 H, mI13 H, mP13 H, mI14 H, mP14 H, mI23 H, mP23 H, mI24 H, mP24 H, mI25 H, mP25 H, mI26 H, mP26 H, mI27 H, mP27 H, mI30 H, mP30 H, mI31 H, mP31 H, mI1 H, mP1 H, mR2 H, mR15 H, mR16 H, mR17 H, mR18 H, mR19 H, mR20 H, mR21 H, mR22 H, mR28 H, mR29 H, mA0 H, mS0 H, mA1 H, mS1 H, mA2 H, mS2 H, mA3 H, mS3 H, mA4 H, mS4 H, mA5 H, mS5 H, mA6 H, mS6 H, mA7 H, mS7 H, mA8 H, mS8 H, mA9 H, mS9 H, mA10 H, mS10 H, mw_cl H, fu_s, fu_n, ua_s, ua_n, Nat.reduceBEq, lt57, lt58, lt59, lt60, lt61, lt62, lt63, lt64, lt65, lt66, lt67, lt68, m_isWell H, h8, if_true, nI1z, nI0z, if_false]
theorem m_takes (H : 69 ≤ u.length) (h8 : a 8 < 0) (h3 : a 3 = nI le) (hA : ∀ i, i < le → A 0 i = nI (B i)) (hle : le ≤ 300) (hB : ∀ i, i < le → B i < 256) {T : TS} (ah : AH a B T) (ht : T.2.1 ≤ le) (hQ : ∀ v, vOK B (tkn B le T) v → Q (some (.int (a 7))) (mw u tr (t4 a (nI (tkn B le T).2.1) (nI (mtok B (tkn B le T))) (nI (tkn B le T).1) v) A)) : Cl X (d + 6) 95 [.ref 57, .int (nI 1)] (mw u tr a A) Q := by
  rw [e95]
  simp only [s95_0, s95_1, s95_4, s95_7, s95_8, s95_9, s95_10, s95_13, s95_14, s95_15, s95_18, s95_21, s95_22, s95_23, s95_24, s95_27, s95_28, s95_29, s95_32, s95_33, OpV_some, OpN_some, OpA_some, OpR_some, Option.toList_some, Option.toList_none, List.cons_append, List.nil_append, true_and, and_true, nI11, or_true, true_or, or_false, false_or, mI0 H, mP0 H, mI3 H, mP3 H, mI4 H, mP4 H, mI5 H, mP5 H, mI6 H, mP6 H, mI7 H, mP7 H, mI8 H, mP8 H, mI9 H, mP9 H, mI10 H, mP10 H, mI11 H, mP11 H, mI12 H, mP12 H, mI13 H, mP13 H, mI14 H, mP14 H, mI23 H, mP23 H, mI24 H, mP24 H, mI25 H, mP25 H, mI26 H, mP26 H, mI27 H, mP27 H, mI30 H, mP30 H, mI31 H, mP31 H, mI1 H, mP1 H, mR2 H, mR15 H, mR16 H, mR17 H, mR18 H, mR19 H, mR20 H, mR21 H, mR22 H, mR28 H, mR29 H, mA0 H, mS0 H, mA1 H, mS1 H, mA2 H, mS2 H, mA3 H, mS3 H, mA4 H, mS4 H, mA5 H, mS5 H, mA6 H, mS6 H, mA7 H, mS7 H, mA8 H, mS8 H, mA9 H, mS9 H, mA10 H, mS10 H, mw_cl H, fu_s, fu_n, ua_s, ua_n, Nat.reduceBEq, lt57, lt58, lt59, lt60, lt61, lt62, lt63, lt64, lt65, lt66, lt67, lt68, m_isWell H, h8, if_true, nI1z, if_false]
  refine m_adv H h3 hA hle hB ah.1 ht fun v hv => ?_
  simp only [s95_0, s95_1, s95_4, s95_7, s95_8, s95_9, s95_10, s95_13, s95_14, s95_15, s95_18, s95_21, s95_22, s95_23, s95_24, s95_27, s95_28, s95_29, s95_32, s95_33, OpV_some, OpN_some, OpA_some, OpR_some, Option.toList_some, Option.toList_none, List.cons_append, List.nil_append, true_and, and_true, nI11, or_true, true_or, or_false, false_or]
  exact hQ v hv
theorem m_number_ill (H : 69 ≤ u.length) (h8 : ¬ a 8 < 0) (p q : Int32) : Cl X (d + 3) 96 [.ref 57, .int p, .int q] (mw u tr a A) Q = Q (some (.int (nI 0))) (mw u tr a A) := by
  rw [e96]
  simp only [s96_0, s96_1, s96_2, s96_5, s96_6, s96_9, s96_10, s96_13, s96_14, s96_15, s96_18, s96_21, s96_22, s96_25, s96_26, s96_29, OpV_some, OpN_some, OpA_some, OpR_some, Option.toList_some, Option.toList_none, List.cons_append, List.nil_append, true_and, and_true, nI11, or_true, true_or, or_false, false_or, mI0 H, mP0 H, mI3 H, mP3 H, mI4 H, mP4 H, mI5 H, mP5 H, mI6 H, mP6 H, mI7 H, mP7 H, mI8 H, mP8 H, mI9 H, mP9 H, mI10 H, mP10 H, mI11 H, mP11 H, mI12 H, mP12 H, mI13 H, mP13 H, mI14 H, mP14 H, mI23 H, mP23 H, mI24 H, mP24 H, mI25 H, mP25 H, mI26 H, mP26 H, mI27 H, mP27 H, mI30 H, mP30 H, mI31 H, mP31 H, mI1 H, mP1 H, mR2 H, mR15 H, mR16 H, mR17 H, mR18 H, mR19 H, mR20 H, mR21 H, mR22 H, mR28 H, mR29 H, mA0 H, mS0 H, mA1 H, mS1 H, mA2 H, mS2 H, mA3 H, mS3 H, mA4 H, mS4 H, mA5 H, mS5 H, mA6 H, mS6 H, mA7 H, mS7 H, mA8 H, mS8 H, mA9 H, mS9 H, mA10 H, mS10 H, mw_cl H, fu_s, fu_n, ua_s, ua_n, Nat.reduceBEq, lt57, lt58, lt59, lt60, lt61, lt62, lt63, lt64, lt65, lt66, lt67, lt68, m_in, m_takes_ill H h8, nI_ite]
  by_cases z : a 5 = nI 2
  · by_cases y : p ≤ a 7 ∧ a 7 ≤ q
    · simp only [z, y, and_self, not_true, if_true, if_false, s96_0, s96_1, s96_2, s96_5, s96_6, s96_9, s96_10, s96_13, s96_14, s96_15, s96_18, s96_21, s96_22, s96_25, s96_26, s96_29, OpV_some, OpN_some, OpA_some, OpR_some, Option.toList_some, Option.toList_none, List.cons_append, List.nil_append, true_and, and_true, nI11, or_true, true_or, or_false, false_or, m_takes_ill H h8]
    · simp only [z, y, not_false_eq_true, if_true, s96_0, s96_1, s96_2, s96_5, s96_6, s96_9, s96_10, s96_13, s96_14, s96_15, s96_18, s96_21, s96_22, s96_25, s96_26, s96_29, OpV_some, OpN_some, OpA_some, OpR_some, Option.toList_some, Option.toList_none, List.cons_append, List.nil_append, true_and, and_true, nI11, or_true, true_or, or_false, false_or, m_takes_ill H h8]
  · simp only [z, if_false, s96_0, s96_1, s96_2, s96_5, s96_6, s96_9, s96_10, s96_13, s96_14, s96_15, s96_18, s96_21, s96_22, s96_25, s96_26, s96_29, OpV_some, OpN_some, OpA_some, OpR_some, Option.toList_some, Option.toList_none, List.cons_append, List.nil_append, true_and, and_true, nI11, or_true, true_or, or_false, false_or, m_takes_ill H h8]
theorem m_number (H : 69 ≤ u.length) (h8 : a 8 < 0) (h3 : a 3 = nI le) (hA : ∀ i, i < le → A 0 i = nI (B i)) (hle : le ≤ 300) (hB : ∀ i, i < le → B i < 256) {T : TS} (ah : AH a B T) (ht : T.2.1 ≤ le) (htk : T.2.2.1 ≤ 4) (hva : T.2.2.1 = 2 → T.2.2.2 ≤ 100) {lo hi : Nat} (hlo : lo < 1000) (hhi : hi < 1000)
    (hQ1 : (T.2.2.1 = 2 ∧ lo ≤ T.2.2.2 ∧ T.2.2.2 ≤ hi) → ∀ v, vOK B (tkn B le T) v → Q (some (.int (nI T.2.2.2))) (mw u tr (t4 a (nI (tkn B le T).2.1) (nI (mtok B (tkn B le T))) (nI (tkn B le T).1) v) A))
    (hQ2 : ¬ (T.2.2.1 = 2 ∧ lo ≤ T.2.2.2 ∧ T.2.2.2 ≤ hi) → Q (some (.int (nI 0))) (mw u tr (fu a 8 (nI T.1)) A)) : Cl X (d + 7) 96 [.ref 57, .int (nI lo), .int (nI hi)] (mw u tr a A) Q := by
  have hmt := mtok_le (B := B) htk
  have e5 : (a 5 = nI 2) = (T.2.2.1 = 2) := by
    rw [ah.2.1, nI_eqN (by omega) (by decide)]
    exact propext mtok2
  rw [e96]
  simp only [s96_0, s96_1, s96_2, s96_5, s96_6, s96_9, s96_10, s96_13, s96_14, s96_15, s96_18, s96_21, s96_22, s96_25, OpV_some, OpN_some, OpA_some, OpR_some, Option.toList_some, Option.toList_none, List.cons_append, List.nil_append, true_and, and_true, nI11, or_true, true_or, or_false, false_or, mI0 H, mP0 H, mI3 H, mP3 H, mI4 H, mP4 H, mI5 H, mP5 H, mI6 H, mP6 H, mI7 H, mP7 H, mI8 H, mP8 H, mI9 H, mP9 H, mI10 H, mP10 H, mI11 H, mP11 H, mI12 H, mP12 H, mI13 H, mP13 H, mI14 H, mP14 H, mI23 H, mP23 H, mI24 H, mP24 H, mI25 H, mP25 H, mI26 H, mP26 H, mI27 H, mP27 H, mI30 H, mP30 H, mI31 H, mP31 H, mI1 H, mP1 H, mR2 H, mR15 H, mR16 H, mR17 H, mR18 H, mR19 H, mR20 H, mR21 H, mR22 H, mR28 H, mR29 H, mA0 H, mS0 H, mA1 H, mS1 H, mA2 H, mS2 H, mA3 H, mS3 H, mA4 H, mS4 H, mA5 H, mS5 H, mA6 H, mS6 H, mA7 H, mS7 H, mA8 H, mS8 H, mA9 H, mS9 H, mA10 H, mS10 H, mw_cl H, fu_s, fu_n, ua_s, ua_n, Nat.reduceBEq, lt57, lt58, lt59, lt60, lt61, lt62, lt63, lt64, lt65, lt66, lt67, lt68, e5, m_in, nI_ite]
  by_cases z : T.2.2.1 = 2
  · have hv := hva z
    have e7 : a 7 = nI T.2.2.2 := ah.2.2.2.1 z
    simp only [z, if_true, e7, nI_leN (show lo < 2 ^ 31 by omega) (show T.2.2.2 < 2 ^ 31 by omega), nI_leN (show T.2.2.2 < 2 ^ 31 by omega) (show hi < 2 ^ 31 by omega)]
    by_cases y : lo ≤ T.2.2.2 ∧ T.2.2.2 ≤ hi
    · simp only [y, and_self, not_true, if_false, s96_21, s96_22, s96_25, s96_26, OpV_some, OpN_some, OpA_some, OpR_some, Option.toList_some, Option.toList_none, List.cons_append, List.nil_append, true_and, and_true, nI11, or_true, true_or, or_false, false_or, mI0 H, mP0 H, mI3 H, mP3 H, mI4 H, mP4 H, mI5 H, mP5 H, mI6 H, mP6 H, mI7 H, mP7 H, mI8 H, mP8 H, mI9 H, mP9 H, mI10 H, mP10 H, mI11 H, mP11 H, mI12 H, mP12 H, mI13 H, mP13 H, mI14 H, mP14 H, mI23 H, mP23 H, mI24 H, mP24 H, mI25 H, mP25 H, mI26 H, mP26 H, mI27 H, mP27 H, mI30 H, mP30 H, mI31 H, mP31 H, mI1 H, mP1 H, mR2 H, mR15 H, mR16 H, mR17 H, mR18 H, mR19 H, mR20 H, mR21 H, mR22 H, mR28 H, mR29 H, mA0 H, mS0 H, mA1 H, mS1 H, mA2 H, mS2 H, mA3 H, mS3 H, mA4 H, mS4 H, mA5 H, mS5 H, mA6 H, mS6 H, mA7 H, mS7 H, mA8 H, mS8 H, mA9 H, mS9 H, mA10 H, mS10 H, mw_cl H, fu_s, fu_n, ua_s, ua_n, Nat.reduceBEq, lt57, lt58, lt59, lt60, lt61, lt62, lt63, lt64, lt65, lt66, lt67, lt68]
      refine m_takes H h8 h3 hA hle hB ah ht fun v hv => ?_
      simp only [s96_29, OpV_some, OpN_some, OpA_some, OpR_some, Option.toList_some, Option.toList_none, List.cons_append, List.nil_append, true_and, and_true, nI11, or_true, true_or, or_false, false_or, e7]
      exact hQ1 ⟨z, y⟩ v hv
    · simp only [y, not_false_eq_true, if_true, s96_21, s96_22, s96_25, s96_26, s96_29, OpV_some, OpN_some, OpA_some, OpR_some, Option.toList_some, Option.toList_none, List.cons_append, List.nil_append, true_and, and_true, nI11, or_true, true_or, or_false, false_or, mI0 H, mP0 H, mI3 H, mP3 H, mI4 H, mP4 H, mI5 H, mP5 H, mI6 H, mP6 H, mI7 H, mP7 H, mI8 H, mP8 H, mI9 H, mP9 H, mI10 H, mP10 H, mI11 H, mP11 H, mI12 H, mP12 H, mI13 H, mP13 H, mI14 H, mP14 H, mI23 H, mP23 H, mI24 H, mP24 H, mI25 H, mP25 H, mI26 H, mP26 H, mI27 H, mP27 H, mI30 H, mP30 H, mI31 H, mP31 H, mI1 H, mP1 H, mR2 H, mR15 H, mR16 H, mR17 H, mR18 H, mR19 H, mR20 H, mR21 H, mR22 H, mR28 H, mR29 H, mA0 H, mS0 H, mA1 H, mS1 H, mA2 H, mS2 H, mA3 H, mS3 H, mA4 H, mS4 H, mA5 H, mS5 H, mA6 H, mS6 H, mA7 H, mS7 H, mA8 H, mS8 H, mA9 H, mS9 H, mA10 H, mS10 H, mw_cl H, fu_s, fu_n, ua_s, ua_n, Nat.reduceBEq, lt57, lt58, lt59, lt60, lt61, lt62, lt63, lt64, lt65, lt66, lt67, lt68, m_takes_no H h8, ah.2.2.1]
      exact hQ2 fun q => y q.2
  · simp only [z, if_false, s96_21, s96_22, s96_25, s96_26, s96_29, OpV_some, OpN_some, OpA_some, OpR_some, Option.toList_some, Option.toList_none, List.cons_append, List.nil_append, true_and, and_true, nI11, or_true, true_or, or_false, false_or, mI0 H, mP0 H, mI3 H, mP3 H, mI4 H, mP4 H, mI5 H, mP5 H, mI6 H, mP6 H, mI7 H, mP7 H, mI8 H, mP8 H, mI9 H, mP9 H, mI10 H, mP10 H, mI11 H, mP11 H, mI12 H, mP12 H, mI13 H, mP13 H, mI14 H, mP14 H, mI23 H, mP23 H, mI24 H, mP24 H, mI25 H, mP25 H, mI26 H, mP26 H, mI27 H, mP27 H, mI30 H, mP30 H, mI31 H, mP31 H, mI1 H, mP1 H, mR2 H, mR15 H, mR16 H, mR17 H, mR18 H, mR19 H, mR20 H, mR21 H, mR22 H, mR28 H, mR29 H, mA0 H, mS0 H, mA1 H, mS1 H, mA2 H, mS2 H, mA3 H, mS3 H, mA4 H, mS4 H, mA5 H, mS5 H, mA6 H, mS6 H, mA7 H, mS7 H, mA8 H, mS8 H, mA9 H, mS9 H, mA10 H, mS10 H, mw_cl H, fu_s, fu_n, ua_s, ua_n, Nat.reduceBEq, lt57, lt58, lt59, lt60, lt61, lt62, lt63, lt64, lt65, lt66, lt67, lt68, m_takes_no H h8, ah.2.2.1]
    exact hQ2 fun q => z q.1
theorem AH.t4 {a : Nat → Int32} {T : TS} {v : Int32} (hv : vOK B T v) : AH (t4 a (nI T.2.1) (nI (mtok B T)) (nI T.1) v) B T := ⟨rfl, rfl, rfl, hv⟩
/-- sills -/
theorem m_rd0 (H : 69 ≤ u.length) (R : Rel tr a A s) (V : Valid s) (h8 : a 8 < 0) (hA : ∀ i, i < le → A 0 i = nI (B i)) (h3 : a 3 = nI le) (hle : le ≤ 300) (hB : ∀ i, i < le → B i < 256) {t : TS} {r : RSt} {N : Nat → Nat} (ht : t.2.1 ≤ le) (ah : AH a B (tkn B le t)) (D : DR a A r) (d1 : D1 A) (h0 : r.2.1.1 = 0 ∧ r.2.2.1 = 0)
    (hQ1 : (rdn B le 0 r.1.1 1 0 t N).1 = true → ∀ a' A', Rel tr a' A' s → AH a' B (tkn B le (rdn B le 0 r.1.1 1 0 t N).2.1) → DR a' A' (adI 0 (rdn B le 0 r.1.1 1 0 t N).2.2 r) → a' 8 = a 8 → a' 3 = a 3 → A' 0 = A 0 → Q none (mw u tr a' A'))
    (hQ2 : (rdn B le 0 r.1.1 1 0 t N).1 = false → ∀ a' A', Rel tr a' A' s → a' 8 = nI (rdn B le 0 r.1.1 1 0 t N).2.1.1 → Q none (mw u tr a' A')) : Cl X (d + 8) 97 [.ref 57, .int (nI 0)] (mw u tr a A) Q := by
  obtain ⟨k1, k2, k3, k4, k5, k6⟩ := tkn_ok B ht
  rw [e97]
  simp only [s97_0, s97_1, s97_4, s97_5, s97_6, s97_8, OpV_some, OpN_some, OpA_some, OpR_some, Option.toList_some, Option.toList_none, List.cons_append, List.nil_append, true_and, and_true, nI11, or_true, true_or, or_false, false_or, mI0 H, mP0 H, mI3 H, mP3 H, mI4 H, mP4 H, mI5 H, mP5 H, mI6 H, mP6 H, mI7 H, mP7 H, mI8 H, mP8 H, mI9 H, mP9 H, mI10 H, mP10 H, mI11 H, mP11 H, mI12 H, mP12 H, mI13 H, mP13 H, mI14 H, mP14 H, mI23 H, mP23 H, mI24 H, mP24 H, mI25 H, mP25 H, mI26 H, mP26 H, mI27 H, mP27 H, mI30 H, mP30 H, mI31 H, mP31 H, mI1 H, mP1 H, mR2 H, mR15 H, mR16 H, mR17 H, mR18 H, mR19 H, mR20 H, mR21 H, mR22 H, mR28 H, mR29 H, mA0 H, mS0 H, mA1 H, mS1 H, mA2 H, mS2 H, mA3 H, mS3 H, mA4 H, mS4 H, mA5 H, mS5 H, mA6 H, mS6 H, mA7 H, mS7 H, mA8 H, mS8 H, mA9 H, mS9 H, mA10 H, mS10 H, mw_cl H, fu_s, fu_n, ua_s, ua_n, Nat.reduceBEq, lt57, lt58, lt59, lt60, lt61, lt62, lt63, lt64, lt65, lt66, lt67, lt68, nI0z, if_true]
  refine m_number H h8 h3 hA hle hB ah k3 k4 k5 (by decide) (by decide) (fun c v hv => ?_) (fun c => ?_)
  · have hx : rdn B le 0 r.1.1 1 0 t N = (true, tkn B le t, upN N 0 (tkn B le t).2.2.2) := by
      unfold rdn rdn
      rw [if_pos ⟨c.1, okN_iff.mpr ⟨fun q => absurd q.1 (by decide), c.2.1, c.2.2⟩⟩]
    rw [hx] at hQ1
    have t48 : ∀ x y z v, (t4 a x y z v) 8 = a 8 := fun _ _ _ _ => rfl
    simp only [s97_11, s97_12, s97_13, s97_14, s97_17, s97_20, s97_21, s97_24, s97_25, s97_28, s97_31, s97_292, OpV_some, OpN_some, OpA_some, OpR_some, Option.toList_some, Option.toList_none, List.cons_append, List.nil_append, true_and, and_true, nI11, or_true, true_or, or_false, false_or, mI0 H, mP0 H, mI3 H, mP3 H, mI4 H, mP4 H, mI5 H, mP5 H, mI6 H, mP6 H, mI7 H, mP7 H, mI8 H, mP8 H, mI9 H, mP9 H, mI10 H, mP10 H, mI11 H, mP11 H, mI12 H, mP12 H, mI13 H, mP13 H, mI14 H, mP14 H, mI23 H, mP23 H, mI24 H, mP24 H, mI25 H, mP25 H, mI26 H, mP26 H, mI27 H, mP27 H, mI30 H, mP30 H, mI31 H, mP31 H, mI1 H, mP1 H, mR2 H, mR15 H, mR16 H, mR17 H, mR18 H, mR19 H, mR20 H, mR21 H, mR22 H, mR28 H, mR29 H, mA0 H, mS0 H, mA1 H, mS1 H, mA2 H, mS2 H, mA3 H, mS3 H, mA4 H, mS4 H, mA5 H, mS5 H, mA6 H, mS6 H, mA7 H, mS7 H, mA8 H, mS8 H, mA9 H, mS9 H, mA10 H, mS10 H, mw_cl H, fu_s, fu_n, ua_s, ua_n, Nat.reduceBEq, lt57, lt58, lt59, lt60, lt61, lt62, lt63, lt64, lt65, lt66, lt67, lt68, m_isWell H, t48, h8, if_true, nI1z, if_false]
    refine hQ1 rfl _ _ (R.cg rfl rfl rfl rfl rfl fun _ _ => rfl) ⟨rfl, rfl, rfl, hv⟩ ?_ rfl rfl rfl
    have hN : upN N 0 (tkn B le t).2.2.2 0 = (tkn B le t).2.2.2 := upN_s _ _ _
    have c2 : (tkn B le t).2.2.2 ≤ 8 := c.2.2
    unfold adI
    rw [if_pos rfl]
    refine ⟨?_, ?_, ?_, fun q hq => ?_, fun k hk => ?_, fun k hk => ?_⟩
    · show nI (tkn B le t).2.2.2 = nI (upN N 0 (tkn B le t).2.2.2 0)
      rw [hN]
    · exact D.2.1
    · exact D.2.2.1
    · have hq2 : q < upN N 0 (tkn B le t).2.2.2 0 := hq
      rw [hN] at hq2
      show A 1 (8 + q) = nI (ssl (upN N 0 (tkn B le t).2.2.2 0) 0 r.1.2 (q * 2)) ∧ A 2 (8 + q) = nI (ssl (upN N 0 (tkn B le t).2.2.2 0) 0 r.1.2 (q * 2 + 1))
      rw [hN, ssl_at, ssl_at, if_pos (by omega), if_pos (by omega)]
      exact d1 q (by omega)
    · have hk2 : k < r.2.1.1 := hk
      omega
    · have hk2 : k < r.2.2.1 := hk
      omega
  · have hx : rdn B le 0 r.1.1 1 0 t N = (false, tkn B le t, N) := by
      unfold rdn
      rw [if_neg]
      rintro ⟨q1, q2⟩
      have := okN_iff.mp q2
      exact c ⟨q1, this.2.1, this.2.2⟩
    rw [hx] at hQ2
    have hn : ¬ nI (tkn B le t).1 < 0 := by rw [nI_lt0 (by omega)]; exact id
    simp only [s97_11, s97_12, s97_13, s97_14, s97_17, s97_20, s97_21, s97_24, s97_25, s97_28, s97_31, s97_292, OpV_some, OpN_some, OpA_some, OpR_some, Option.toList_some, Option.toList_none, List.cons_append, List.nil_append, true_and, and_true, nI11, or_true, true_or, or_false, false_or, mI0 H, mP0 H, mI3 H, mP3 H, mI4 H, mP4 H, mI5 H, mP5 H, mI6 H, mP6 H, mI7 H, mP7 H, mI8 H, mP8 H, mI9 H, mP9 H, mI10 H, mP10 H, mI11 H, mP11 H, mI12 H, mP12 H, mI13 H, mP13 H, mI14 H, mP14 H, mI23 H, mP23 H, mI24 H, mP24 H, mI25 H, mP25 H, mI26 H, mP26 H, mI27 H, mP27 H, mI30 H, mP30 H, mI31 H, mP31 H, mI1 H, mP1 H, mR2 H, mR15 H, mR16 H, mR17 H, mR18 H, mR19 H, mR20 H, mR21 H, mR22 H, mR28 H, mR29 H, mA0 H, mS0 H, mA1 H, mS1 H, mA2 H, mS2 H, mA3 H, mS3 H, mA4 H, mS4 H, mA5 H, mS5 H, mA6 H, mS6 H, mA7 H, mS7 H, mA8 H, mS8 H, mA9 H, mS9 H, mA10 H, mS10 H, mw_cl H, fu_s, fu_n, ua_s, ua_n, Nat.reduceBEq, lt57, lt58, lt59, lt60, lt61, lt62, lt63, lt64, lt65, lt66, lt67, lt68, m_isWell H, hn, if_false, nI0z, if_true]
    exact hQ2 rfl _ _ (R.cg rfl rfl rfl rfl rfl fun _ _ => rfl) rfl
end MITEM
