/-! the reference's tokens -/
def nL (n : Nat) : Int64 := Int64.ofNat n
theorem nL_toInt {n : Nat} (h : n < 2 ^ 62) : (nL n).toInt = (n : Int) := by
  unfold nL
  exact Int64.toInt_ofNat_of_lt (by omega)
theorem nL_inj {p q : Nat} (hp : p < 2 ^ 62) (hq : q < 2 ^ 62) : (nL p = nL q) = (p = q) := by
  apply propext
  constructor
  · intro e
    have : (nL p).toInt = (nL q).toInt := by rw [e]
    rw [nL_toInt hp, nL_toInt hq] at this
    omega
  · intro e; rw [e]
theorem nI_long {c : Nat} (hc : c < 2 ^ 31) : (nI c).toInt64 = nL c := by
  apply Int64.toInt_inj.mp
  rw [Int32.toInt_toInt64, nI_toInt hc, nL_toInt (by omega)]
theorem nL_addN (p q : Nat) : nL p + nL q = nL (p + q) := (Int64.ofNat_add p q).symm
theorem nL_mulN (p q : Nat) : nL p * nL q = nL (p * q) := (Int64.ofNat_mul p q).symm
theorem L256 : (256 : Int64) = nL 256 := rfl
theorem L0 : (0 : Int64) = nL 0 := rfl
theorem lcmp0 (x y : Int64) : (lg_cmp x y = 0) = (x = y) := propext (lg_cmp_eq x y)
def wkI (v : Nat) : Int32 := if v = 495689952371 then nI 0 else if v = 1685024626 then nI 1 else if v = 1919905893 then nI 2 else if v = 491394458994 then nI 3 else -9
def wv (B : Nat → Nat) (pl : Nat) : Nat → Nat
  | 0 => 0
  | n + 1 => 256 * wv B pl n + B (pl + n)
theorem wv_lt (B : Nat → Nat) (pl : Nat) : ∀ n, (∀ i, i < n → B (pl + i) < 256) → wv B pl n < 256 ^ n
  | 0, _ => by show 0 < 1; decide
  | n + 1, h => by
    have h1 := wv_lt B pl n (fun i hi => h i (by omega))
    have h2 := h n (by omega)
    show 256 * wv B pl n + B (pl + n) < 256 ^ (n + 1)
    rw [Nat.pow_succ']
    omega
section MTOK
variable {X : am_X} {d : Nat} {Q : am_Q} {u w : am_W} {tr : Int64} {A : Nat → Nat → Int32} {le : Nat} {B : Nat → Nat}
theorem m_add (x : Int64) (c : Int32) : Cl X (d + 1) 90 [.long x, .int c] w Q = Q (some (.long (if c = 0 then x else 256 * x + c.toInt64))) w := by
  rw [e90]
  simp only [s90_0, s90_1, s90_4, s90_5, s90_8, s90_11, s90_12, s90_13, s90_14, s90_15, s90_16, OpV_some, OpN_some, OpA_some, OpR_some, Option.toList_some, Option.toList_none, List.cons_append, List.nil_append, true_and, and_true, nI11, or_true, true_or, or_false, false_or]
  by_cases h : c = 0 <;> simp only [h, if_true, if_false]
theorem m_named0 : Cl X (d + 2) 91 [.int (nI 115), .int (nI 105), .int (nI 108), .int (nI 108), .int (nI 115)] w Q = Q (some (.long (nL 495689952371))) w := by
  have e : (256 * (256 * (256 * (256 * (256 * (0 : Int64) + (nI 115).toInt64) + (nI 105).toInt64) + (nI 108).toInt64) + (nI 108).toInt64) + (nI 115).toInt64) = nL 495689952371 := by decide
  rw [e91]
  simp only [s91_0, s91_1, s91_2, s91_5, s91_6, s91_9, s91_10, s91_13, s91_14, s91_17, s91_19, s91_22, OpV_some, OpN_some, OpA_some, OpR_some, Option.toList_some, Option.toList_none, List.cons_append, List.nil_append, true_and, and_true, nI11, or_true, true_or, or_false, false_or, m_add, show (nI 105 = 0) = False by decide, show (nI 108 = 0) = False by decide, show (nI 115 = 0) = False by decide, show (nI 0 = 0) = True by decide, if_true, if_false, e]
theorem m_named1 : Cl X (d + 2) 91 [.int (nI 100), .int (nI 111), .int (nI 111), .int (nI 114), .int (nI 0)] w Q = Q (some (.long (nL 1685024626))) w := by
  have e : (256 * (256 * (256 * (256 * (0 : Int64) + (nI 100).toInt64) + (nI 111).toInt64) + (nI 111).toInt64) + (nI 114).toInt64) = nL 1685024626 := by decide
  rw [e91]
  simp only [s91_0, s91_1, s91_2, s91_5, s91_6, s91_9, s91_10, s91_13, s91_14, s91_17, s91_19, s91_22, OpV_some, OpN_some, OpA_some, OpR_some, Option.toList_some, Option.toList_none, List.cons_append, List.nil_append, true_and, and_true, nI11, or_true, true_or, or_false, false_or, m_add, show (nI 100 = 0) = False by decide, show (nI 111 = 0) = False by decide, show (nI 114 = 0) = False by decide, show (nI 0 = 0) = True by decide, if_true, if_false, e]
theorem m_named2 : Cl X (d + 2) 91 [.int (nI 114), .int (nI 111), .int (nI 112), .int (nI 101), .int (nI 0)] w Q = Q (some (.long (nL 1919905893))) w := by
  have e : (256 * (256 * (256 * (256 * (0 : Int64) + (nI 114).toInt64) + (nI 111).toInt64) + (nI 112).toInt64) + (nI 101).toInt64) = nL 1919905893 := by decide
  rw [e91]
  simp only [s91_0, s91_1, s91_2, s91_5, s91_6, s91_9, s91_10, s91_13, s91_14, s91_17, s91_19, s91_22, OpV_some, OpN_some, OpA_some, OpR_some, Option.toList_some, Option.toList_none, List.cons_append, List.nil_append, true_and, and_true, nI11, or_true, true_or, or_false, false_or, m_add, show (nI 101 = 0) = False by decide, show (nI 111 = 0) = False by decide, show (nI 112 = 0) = False by decide, show (nI 114 = 0) = False by decide, show (nI 0 = 0) = True by decide, if_true, if_false, e]
theorem m_named3 : Cl X (d + 2) 91 [.int (nI 114), .int (nI 105), .int (nI 100), .int (nI 101), .int (nI 114)] w Q = Q (some (.long (nL 491394458994))) w := by
  have e : (256 * (256 * (256 * (256 * (256 * (0 : Int64) + (nI 114).toInt64) + (nI 105).toInt64) + (nI 100).toInt64) + (nI 101).toInt64) + (nI 114).toInt64) = nL 491394458994 := by decide
  rw [e91]
  simp only [s91_0, s91_1, s91_2, s91_5, s91_6, s91_9, s91_10, s91_13, s91_14, s91_17, s91_19, s91_22, OpV_some, OpN_some, OpA_some, OpR_some, Option.toList_some, Option.toList_none, List.cons_append, List.nil_append, true_and, and_true, nI11, or_true, true_or, or_false, false_or, m_add, show (nI 100 = 0) = False by decide, show (nI 101 = 0) = False by decide, show (nI 105 = 0) = False by decide, show (nI 114 = 0) = False by decide, show (nI 0 = 0) = True by decide, if_true, if_false, e]
theorem m_wordOf {v : Nat} (hv : v < 2 ^ 62) : Cl X (d + 3) 92 [.long (nL v)] w Q = Q (some (.int (wkI v))) w := by
  rw [e92]
  unfold wkI
  simp only [s92_0, s92_1, s92_3, s92_5, s92_7, s92_9, s92_11, s92_14, s92_15, s92_18, s92_19, s92_22, s92_23, s92_25, s92_27, s92_29, s92_31, s92_32, s92_35, s92_36, s92_39, s92_40, s92_43, s92_45, s92_46, s92_47, s92_49, s92_52, s92_53, s92_56, s92_57, s92_59, s92_61, s92_63, s92_65, s92_66, s92_69, s92_70, s92_73, s92_74, s92_77, s92_78, s92_80, s92_82, s92_84, s92_86, s92_88, s92_91, s92_92, s92_95, s92_96, s92_99, s92_101, OpV_some, OpN_some, OpA_some, OpR_some, Option.toList_some, Option.toList_none, List.cons_append, List.nil_append, true_and, and_true, nI11, or_true, true_or, or_false, false_or, m_named0, m_named1, m_named2, m_named3, lcmp0, nL_inj hv (show 495689952371 < 2 ^ 62 by decide), nL_inj hv (show 1685024626 < 2 ^ 62 by decide), nL_inj hv (show 1919905893 < 2 ^ 62 by decide), nL_inj hv (show 491394458994 < 2 ^ 62 by decide)]
  by_cases h0 : v = 495689952371
  · simp only [h0, if_true, s92_0, s92_1, s92_3, s92_5, s92_7, s92_9, s92_11, s92_14, s92_15, s92_18, s92_19, s92_22, s92_23, s92_25, s92_27, s92_29, s92_31, s92_32, s92_35, s92_36, s92_39, s92_40, s92_43, s92_45, s92_46, s92_47, s92_49, s92_52, s92_53, s92_56, s92_57, s92_59, s92_61, s92_63, s92_65, s92_66, s92_69, s92_70, s92_73, s92_74, s92_77, s92_78, s92_80, s92_82, s92_84, s92_86, s92_88, s92_91, s92_92, s92_95, s92_96, s92_99, s92_101, OpV_some, OpN_some, OpA_some, OpR_some, Option.toList_some, Option.toList_none, List.cons_append, List.nil_append, true_and, and_true, nI11, or_true, true_or, or_false, false_or, show (nI 0 = -9) = False by decide, if_false]
  · by_cases h1 : v = 1685024626
    · simp only [h1, show ¬ (1685024626 = 495689952371) by decide, if_true, if_false, s92_0, s92_1, s92_3, s92_5, s92_7, s92_9, s92_11, s92_14, s92_15, s92_18, s92_19, s92_22, s92_23, s92_25, s92_27, s92_29, s92_31, s92_32, s92_35, s92_36, s92_39, s92_40, s92_43, s92_45, s92_46, s92_47, s92_49, s92_52, s92_53, s92_56, s92_57, s92_59, s92_61, s92_63, s92_65, s92_66, s92_69, s92_70, s92_73, s92_74, s92_77, s92_78, s92_80, s92_82, s92_84, s92_86, s92_88, s92_91, s92_92, s92_95, s92_96, s92_99, s92_101, OpV_some, OpN_some, OpA_some, OpR_some, Option.toList_some, Option.toList_none, List.cons_append, List.nil_append, true_and, and_true, nI11, or_true, true_or, or_false, false_or, show (nI 1 = -9) = False by decide]
    · by_cases h2 : v = 1919905893
      · simp only [h2, show ¬ (1919905893 = 495689952371) by decide, show ¬ (1919905893 = 1685024626) by decide, if_true, if_false, s92_0, s92_1, s92_3, s92_5, s92_7, s92_9, s92_11, s92_14, s92_15, s92_18, s92_19, s92_22, s92_23, s92_25, s92_27, s92_29, s92_31, s92_32, s92_35, s92_36, s92_39, s92_40, s92_43, s92_45, s92_46, s92_47, s92_49, s92_52, s92_53, s92_56, s92_57, s92_59, s92_61, s92_63, s92_65, s92_66, s92_69, s92_70, s92_73, s92_74, s92_77, s92_78, s92_80, s92_82, s92_84, s92_86, s92_88, s92_91, s92_92, s92_95, s92_96, s92_99, s92_101, OpV_some, OpN_some, OpA_some, OpR_some, Option.toList_some, Option.toList_none, List.cons_append, List.nil_append, true_and, and_true, nI11, or_true, true_or, or_false, false_or]
      · by_cases h3 : v = 491394458994
        · simp only [h3, show ¬ (491394458994 = 495689952371) by decide, show ¬ (491394458994 = 1685024626) by decide, show ¬ (491394458994 = 1919905893) by decide, if_true, if_false, s92_0, s92_1, s92_3, s92_5, s92_7, s92_9, s92_11, s92_14, s92_15, s92_18, s92_19, s92_22, s92_23, s92_25, s92_27, s92_29, s92_31, s92_32, s92_35, s92_36, s92_39, s92_40, s92_43, s92_45, s92_46, s92_47, s92_49, s92_52, s92_53, s92_56, s92_57, s92_59, s92_61, s92_63, s92_65, s92_66, s92_69, s92_70, s92_73, s92_74, s92_77, s92_78, s92_80, s92_82, s92_84, s92_86, s92_88, s92_91, s92_92, s92_95, s92_96, s92_99, s92_101, OpV_some, OpN_some, OpA_some, OpR_some, Option.toList_some, Option.toList_none, List.cons_append, List.nil_append, true_and, and_true, nI11, or_true, true_or, or_false, false_or]
        · simp only [h0, h1, h2, h3, if_true, if_false, s92_0, s92_1, s92_3, s92_5, s92_7, s92_9, s92_11, s92_14, s92_15, s92_18, s92_19, s92_22, s92_23, s92_25, s92_27, s92_29, s92_31, s92_32, s92_35, s92_36, s92_39, s92_40, s92_43, s92_45, s92_46, s92_47, s92_49, s92_52, s92_53, s92_56, s92_57, s92_59, s92_61, s92_63, s92_65, s92_66, s92_69, s92_70, s92_73, s92_74, s92_77, s92_78, s92_80, s92_82, s92_84, s92_86, s92_88, s92_91, s92_92, s92_95, s92_96, s92_99, s92_101, OpV_some, OpN_some, OpA_some, OpR_some, Option.toList_some, Option.toList_none, List.cons_append, List.nil_append, true_and, and_true, nI11, or_true, true_or, or_false, false_or]
theorem m_byteAt (H : 69 ≤ u.length) {a : Nat → Int32} (h3 : a 3 = nI le) (hA : ∀ i, i < le → A 0 i = nI (B i)) (hle : le ≤ 300) {i : Nat} (hi : i < 10000) : Cl X (d + 1) 89 [.ref 57, .int (nI i)] (mw u tr a A) Q = Q (some (.int (bt B le i))) (mw u tr a A) := by
  rw [e89]
  unfold bt
  by_cases q : i < le
  · simp only [s89_0, s89_1, s89_2, s89_5, s89_8, s89_9, s89_12, s89_13, s89_14, s89_17, s89_18, OpV_some, OpN_some, OpA_some, OpR_some, Option.toList_some, Option.toList_none, List.cons_append, List.nil_append, true_and, and_true, nI11, or_true, true_or, or_false, false_or, mI0 H, mP0 H, mI3 H, mP3 H, mI4 H, mP4 H, mI5 H, mP5 H, mI6 H, mP6 H, mI7 H, mP7 H, mI8 H, mP8 H, mI9 H, mP9 H, mI10 H, mP10 H, mI11 H, mP11 H, mI12 H, mP12 H, mI13 H, mP13 H, mI14 H, mP14 H, mI23 H, mP23 H, mI24 H, mP24 H, mI25 H, mP25 H, mI26 H, mP26 H, mI27 H, mP27 H, mI30 H, mP30 H, mI31 H, mP31 H, mI1 H, mP1 H, mR2 H, mR15 H, mR16 H, mR17 H, mR18 H, mR19 H, mR20 H, mR21 H, mR22 H, mR28 H, mR29 H, mA0 H, mS0 H, mA1 H, mS1 H, mA2 H, mS2 H, mA3 H, mS3 H, mA4 H, mS4 H, mA5 H, mS5 H, mA6 H, mS6 H, mA7 H, mS7 H, mA8 H, mS8 H, mA9 H, mS9 H, mA10 H, mS10 H, mw_cl H, fu_s, fu_n, ua_s, ua_n, Nat.reduceBEq, lt57, lt58, lt59, lt60, lt61, lt62, lt63, lt64, lt65, lt66, lt67, lt68, h3, nI_ltN (show i < 2 ^ 31 by omega) (show le < 2 ^ 31 by omega), q, if_true, in_nI (show i < 300 by omega) (show 300 < 2 ^ 31 by omega), cl_nI (show i < 2 ^ 31 by omega), hA i q]
  · simp only [s89_0, s89_1, s89_2, s89_5, s89_8, s89_9, s89_12, s89_13, s89_14, s89_17, s89_18, OpV_some, OpN_some, OpA_some, OpR_some, Option.toList_some, Option.toList_none, List.cons_append, List.nil_append, true_and, and_true, nI11, or_true, true_or, or_false, false_or, mI0 H, mP0 H, mI3 H, mP3 H, mI4 H, mP4 H, mI5 H, mP5 H, mI6 H, mP6 H, mI7 H, mP7 H, mI8 H, mP8 H, mI9 H, mP9 H, mI10 H, mP10 H, mI11 H, mP11 H, mI12 H, mP12 H, mI13 H, mP13 H, mI14 H, mP14 H, mI23 H, mP23 H, mI24 H, mP24 H, mI25 H, mP25 H, mI26 H, mP26 H, mI27 H, mP27 H, mI30 H, mP30 H, mI31 H, mP31 H, mI1 H, mP1 H, mR2 H, mR15 H, mR16 H, mR17 H, mR18 H, mR19 H, mR20 H, mR21 H, mR22 H, mR28 H, mR29 H, mA0 H, mS0 H, mA1 H, mS1 H, mA2 H, mS2 H, mA3 H, mS3 H, mA4 H, mS4 H, mA5 H, mS5 H, mA6 H, mS6 H, mA7 H, mS7 H, mA8 H, mS8 H, mA9 H, mS9 H, mA10 H, mS10 H, mw_cl H, fu_s, fu_n, ua_s, ua_n, Nat.reduceBEq, lt57, lt58, lt59, lt60, lt61, lt62, lt63, lt64, lt65, lt66, lt67, lt68, h3, nI_ltN (show i < 2 ^ 31 by omega) (show le < 2 ^ 31 by omega), q, if_false]
end MTOK
/-! a word by its letters, and by its number -/
theorem isW_0 (B : Nat → Nat) (pl be : Nat) : isW B pl be 0 = true ↔ be - pl = 5 ∧ B (pl + 0) = 115 ∧ B (pl + 1) = 105 ∧ B (pl + 2) = 108 ∧ B (pl + 3) = 108 ∧ B (pl + 4) = 115 := by
  unfold isW
  have e : wl 0 = 5 := rfl
  rw [e]
  by_cases q : be - pl = 5
  · rw [if_pos q]
    have c : ∀ i, wch 0 i = ((am_tx.getD 0 []).getD i 0).toBitVec.toNat := fun _ => rfl
    unfold isWl isWl isWl isWl isWl isWl
    simp only [show wch 0 0 = 115 by decide, show wch 0 1 = 105 by decide, show wch 0 2 = 108 by decide, show wch 0 3 = 108 by decide, show wch 0 4 = 115 by decide]
    skip
    simp [q]
  · rw [if_neg q]
    simp [q]
theorem isW_1 (B : Nat → Nat) (pl be : Nat) : isW B pl be 1 = true ↔ be - pl = 4 ∧ B (pl + 0) = 100 ∧ B (pl + 1) = 111 ∧ B (pl + 2) = 111 ∧ B (pl + 3) = 114 := by
  unfold isW
  have e : wl 1 = 4 := rfl
  rw [e]
  by_cases q : be - pl = 4
  · rw [if_pos q]
    have c : ∀ i, wch 1 i = ((am_tx.getD 1 []).getD i 0).toBitVec.toNat := fun _ => rfl
    unfold isWl isWl isWl isWl isWl
    simp only [show wch 1 0 = 100 by decide, show wch 1 1 = 111 by decide, show wch 1 2 = 111 by decide, show wch 1 3 = 114 by decide]
    skip
    simp [q]
  · rw [if_neg q]
    simp [q]
theorem isW_2 (B : Nat → Nat) (pl be : Nat) : isW B pl be 2 = true ↔ be - pl = 4 ∧ B (pl + 0) = 114 ∧ B (pl + 1) = 111 ∧ B (pl + 2) = 112 ∧ B (pl + 3) = 101 := by
  unfold isW
  have e : wl 2 = 4 := rfl
  rw [e]
  by_cases q : be - pl = 4
  · rw [if_pos q]
    have c : ∀ i, wch 2 i = ((am_tx.getD 2 []).getD i 0).toBitVec.toNat := fun _ => rfl
    unfold isWl isWl isWl isWl isWl
    simp only [show wch 2 0 = 114 by decide, show wch 2 1 = 111 by decide, show wch 2 2 = 112 by decide, show wch 2 3 = 101 by decide]
    skip
    simp [q]
  · rw [if_neg q]
    simp [q]
theorem isW_3 (B : Nat → Nat) (pl be : Nat) : isW B pl be 3 = true ↔ be - pl = 5 ∧ B (pl + 0) = 114 ∧ B (pl + 1) = 105 ∧ B (pl + 2) = 100 ∧ B (pl + 3) = 101 ∧ B (pl + 4) = 114 := by
  unfold isW
  have e : wl 3 = 5 := rfl
  rw [e]
  by_cases q : be - pl = 5
  · rw [if_pos q]
    have c : ∀ i, wch 3 i = ((am_tx.getD 3 []).getD i 0).toBitVec.toNat := fun _ => rfl
    unfold isWl isWl isWl isWl isWl isWl
    simp only [show wch 3 0 = 114 by decide, show wch 3 1 = 105 by decide, show wch 3 2 = 100 by decide, show wch 3 3 = 101 by decide, show wch 3 4 = 114 by decide]
    skip
    simp [q]
  · rw [if_neg q]
    simp [q]
