/-! settles by the reference -/
def cpl (f : Nat → Int32) (lo e : Nat) : Nat → Int32 := fun u => if u < e then f (lo + u) else f u
theorem cpl_0 (f : Nat → Int32) (lo : Nat) : cpl f lo 0 = f := by funext u; unfold cpl; rw [if_neg (by omega)]
theorem cpl_at (f : Nat → Int32) {lo e : Nat} (h : e ≤ lo) : cpl f lo e (lo + e) = f (lo + e) := if_neg (by omega)
theorem cpl_up (f : Nat → Int32) (lo e : Nat) : upd (cpl f lo e) e (f (lo + e)) = cpl f lo (e + 1) := by
  funext u
  unfold upd cpl
  by_cases h : u = e
  · subst h; rw [if_pos rfl, if_pos (by omega)]
  · rw [if_neg h]
    by_cases h2 : u < e
    · rw [if_pos h2, if_pos (by omega)]
    · rw [if_neg h2, if_neg (by omega)]
def zrl (f : Nat → Int32) (e : Nat) : Nat → Int32 := fun u => if u < e then nI 0 else f u
theorem zrl_0 (f : Nat → Int32) : zrl f 0 = f := by funext u; unfold zrl; rw [if_neg (by omega)]
theorem zrl_up (f : Nat → Int32) (e : Nat) : upd (zrl f e) e (nI 0) = zrl f (e + 1) := by
  funext u
  unfold upd zrl
  by_cases h : u = e
  · subst h; rw [if_pos rfl, if_pos (by omega)]
  · rw [if_neg h]
    by_cases h2 : u < e
    · rw [if_pos h2, if_pos (by omega)]
    · rw [if_neg h2, if_neg (by omega)]
/-- what is told, as it may be told -/
def RdV (r : RSt) : Prop := DoorOK r.1.2 r.1.1 ∧ RopeOK r.2.1.2 r.2.1.1 r.1.1 ∧ (∀ k, k < r.2.1.1 → r.2.1.2 (k * 5 + 2) ≤ 9 ∧ r.2.1.2 (k * 5 + 4) = 0) ∧ RiderOK r.2.2.2 r.2.2.1 r.1.1 ∧ ∀ q, q < r.2.2.1 → r.2.2.2 (q * 5 + 1) = 0 ∧ r.2.2.2 (q * 5 + 4) = 0
section MSETTLE
variable {X : am_X} {d : Nat} {Q : am_Q} {u w : am_W} {tr : Int64} {a : Nat → Int32} {s : CSt}
theorem m_st1 (H : 69 ≤ u.length) {A : Nat → Nat → Int32} (f1 f2 : Nat → Int32) : ∀ (n e : Nat), e + n = 8 → Wp X (Cl X d) 99 Q (26, [some (.ref 57), some (.int (nI e))], [], mw u tr a (ua (ua A 1 (cpl f1 8 e)) 2 (cpl f2 8 e)), 0, 0) = Wp X (Cl X d) 99 Q (70, [some (.ref 57), some (.int (nI 0))], [], mw u tr a (ua (ua A 1 (cpl f1 8 8)) 2 (cpl f2 8 8)), 0, 0)
  | 0, e, he => by
    have : e = 8 := by omega
    subst this
    rw [s99_26]
    simp only [s99_27, s99_29, s99_68, s99_69, OpV_some, OpN_some, OpA_some, OpR_some, Option.toList_some, Option.toList_none, List.cons_append, List.nil_append, true_and, and_true, nI11, or_true, true_or, or_false, false_or, show (nI 8 < nI 8) = False by decide, if_false]
  | n + 1, e, he => by
    have ih := m_st1 H (A := A) f1 f2 n (e + 1) (by omega)
    have c1 := cpl_at f1 (show e ≤ 8 by omega)
    have c2 := cpl_at f2 (show e ≤ 8 by omega)
    have cm : ∀ g1 g2 g3, ua (ua (ua A 1 g1) 2 g2) 1 g3 = ua (ua A 1 g3) 2 g2 := fun g1 g2 g3 => by
      funext j
      unfold ua
      by_cases q : j = 1
      · subst q; rfl
      · rw [if_neg q, if_neg q, if_neg q]
    rw [s99_26]
    simp only [s99_27, s99_29, s99_32, s99_33, s99_36, s99_37, s99_38, s99_41, s99_43, s99_44, s99_45, s99_46, s99_47, s99_48, s99_51, s99_52, s99_53, s99_56, s99_58, s99_59, s99_60, s99_61, s99_62, s99_65, OpV_some, OpN_some, OpA_some, OpR_some, Option.toList_some, Option.toList_none, List.cons_append, List.nil_append, true_and, and_true, nI11, or_true, true_or, or_false, false_or, mI0 H, mP0 H, mI3 H, mP3 H, mI4 H, mP4 H, mI5 H, mP5 H, mI6 H, mP6 H, mI7 H, mP7 H, mI8 H, mP8 H, mI9 H, mP9 H, mI10 H, mP10 H, mI11 H, mP11 H, mI12 H, mP12 H, mI13 H, mP13 H, mI14 H, mP14 H, mI23 H, mP23 H, mI24 H, mP24 H, mI25 H, mP25 H, mI26 H, mP26 H, mI27 H, mP27 H, mI30 H, mP30 H, mI31 H, mP31 H, mI1 H, mP1 H, mR2 H, mR15 H, mR16 H, mR17 H, mR18 H, mR19 H, mR20 H, mR21 H, mR22 H, mR28 H, mR29 H, mA0 H, mS0 H, mA1 H, mS1 H, mA2 H, mS2 H, mA3 H, mS3 H, mA4 H, mS4 H, mA5 H, mS5 H, mA6 H, mS6 H, mA7 H, mS7 H, mA8 H, mS8 H, mA9 H, mS9 H, mA10 H, mS10 H, mw_cl H, fu_s, fu_n, ua_s, ua_n, Nat.reduceBEq, lt57, lt58, lt59, lt60, lt61, lt62, lt63, lt64, lt65, lt66, lt67, lt68, ua_ua, nI_ltN (show e < 2 ^ 31 by omega) (show 8 < 2 ^ 31 by omega), show e < 8 by omega, if_true, nI_add, in_nI (show 8 + e < 16 by omega) (show 16 < 2 ^ 31 by omega), cl_nI (show 8 + e < 2 ^ 31 by omega), in_nI (show e < 16 by omega) (show 16 < 2 ^ 31 by omega), cl_nI (show e < 2 ^ 31 by omega), c1, c2, cpl_up, cm]
    exact ih
theorem m_st2 (H : 69 ≤ u.length) {A : Nat → Nat → Int32} (f : Nat → Int32) : ∀ (n e : Nat), e + n = 32 → Wp X (Cl X d) 99 Q (70, [some (.ref 57), some (.int (nI e))], [], mw u tr a (ua A 3 (cpl f 32 e)), 0, 0) = Wp X (Cl X d) 99 Q (99, [some (.ref 57), some (.int (nI 0))], [], mw u tr a (ua A 3 (cpl f 32 32)), 0, 0)
  | 0, e, he => by
    have : e = 32 := by omega
    subst this
    rw [s99_70]
    simp only [s99_71, s99_73, s99_97, s99_98, OpV_some, OpN_some, OpA_some, OpR_some, Option.toList_some, Option.toList_none, List.cons_append, List.nil_append, true_and, and_true, nI11, or_true, true_or, or_false, false_or, show (nI 32 < nI 32) = False by decide, if_false]
  | n + 1, e, he => by
    have ih := m_st2 H (A := A) f n (e + 1) (by omega)
    have c1 := cpl_at f (show e ≤ 32 by omega)
    rw [s99_70]
    simp only [s99_71, s99_73, s99_76, s99_77, s99_80, s99_81, s99_82, s99_85, s99_87, s99_88, s99_89, s99_90, s99_91, s99_94, OpV_some, OpN_some, OpA_some, OpR_some, Option.toList_some, Option.toList_none, List.cons_append, List.nil_append, true_and, and_true, nI11, or_true, true_or, or_false, false_or, mI0 H, mP0 H, mI3 H, mP3 H, mI4 H, mP4 H, mI5 H, mP5 H, mI6 H, mP6 H, mI7 H, mP7 H, mI8 H, mP8 H, mI9 H, mP9 H, mI10 H, mP10 H, mI11 H, mP11 H, mI12 H, mP12 H, mI13 H, mP13 H, mI14 H, mP14 H, mI23 H, mP23 H, mI24 H, mP24 H, mI25 H, mP25 H, mI26 H, mP26 H, mI27 H, mP27 H, mI30 H, mP30 H, mI31 H, mP31 H, mI1 H, mP1 H, mR2 H, mR15 H, mR16 H, mR17 H, mR18 H, mR19 H, mR20 H, mR21 H, mR22 H, mR28 H, mR29 H, mA0 H, mS0 H, mA1 H, mS1 H, mA2 H, mS2 H, mA3 H, mS3 H, mA4 H, mS4 H, mA5 H, mS5 H, mA6 H, mS6 H, mA7 H, mS7 H, mA8 H, mS8 H, mA9 H, mS9 H, mA10 H, mS10 H, mw_cl H, fu_s, fu_n, ua_s, ua_n, Nat.reduceBEq, lt57, lt58, lt59, lt60, lt61, lt62, lt63, lt64, lt65, lt66, lt67, lt68, ua_ua, nI_ltN (show e < 2 ^ 31 by omega) (show 32 < 2 ^ 31 by omega), show e < 32 by omega, if_true, nI_add, in_nI (show 32 + e < 64 by omega) (show 64 < 2 ^ 31 by omega), cl_nI (show 32 + e < 2 ^ 31 by omega), in_nI (show e < 64 by omega) (show 64 < 2 ^ 31 by omega), cl_nI (show e < 2 ^ 31 by omega), c1, cpl_up]
    exact ih
theorem m_st3 (H : 69 ≤ u.length) {A : Nat → Nat → Int32} (f : Nat → Int32) : ∀ (n e : Nat), e + n = 12 → Wp X (Cl X d) 99 Q (99, [some (.ref 57), some (.int (nI e))], [], mw u tr a (ua A 4 (cpl f 12 e)), 0, 0) = Wp X (Cl X d) 99 Q (128, [some (.ref 57), some (.int (nI 0))], [], mw u tr a (ua A 4 (cpl f 12 12)), 0, 0)
  | 0, e, he => by
    have : e = 12 := by omega
    subst this
    rw [s99_99]
    simp only [s99_100, s99_102, s99_126, s99_127, OpV_some, OpN_some, OpA_some, OpR_some, Option.toList_some, Option.toList_none, List.cons_append, List.nil_append, true_and, and_true, nI11, or_true, true_or, or_false, false_or, show (nI 12 < nI 12) = False by decide, if_false]
  | n + 1, e, he => by
    have ih := m_st3 H (A := A) f n (e + 1) (by omega)
    have c1 := cpl_at f (show e ≤ 12 by omega)
    rw [s99_99]
    simp only [s99_100, s99_102, s99_105, s99_106, s99_109, s99_110, s99_111, s99_114, s99_116, s99_117, s99_118, s99_119, s99_120, s99_123, OpV_some, OpN_some, OpA_some, OpR_some, Option.toList_some, Option.toList_none, List.cons_append, List.nil_append, true_and, and_true, nI11, or_true, true_or, or_false, false_or, mI0 H, mP0 H, mI3 H, mP3 H, mI4 H, mP4 H, mI5 H, mP5 H, mI6 H, mP6 H, mI7 H, mP7 H, mI8 H, mP8 H, mI9 H, mP9 H, mI10 H, mP10 H, mI11 H, mP11 H, mI12 H, mP12 H, mI13 H, mP13 H, mI14 H, mP14 H, mI23 H, mP23 H, mI24 H, mP24 H, mI25 H, mP25 H, mI26 H, mP26 H, mI27 H, mP27 H, mI30 H, mP30 H, mI31 H, mP31 H, mI1 H, mP1 H, mR2 H, mR15 H, mR16 H, mR17 H, mR18 H, mR19 H, mR20 H, mR21 H, mR22 H, mR28 H, mR29 H, mA0 H, mS0 H, mA1 H, mS1 H, mA2 H, mS2 H, mA3 H, mS3 H, mA4 H, mS4 H, mA5 H, mS5 H, mA6 H, mS6 H, mA7 H, mS7 H, mA8 H, mS8 H, mA9 H, mS9 H, mA10 H, mS10 H, mw_cl H, fu_s, fu_n, ua_s, ua_n, Nat.reduceBEq, lt57, lt58, lt59, lt60, lt61, lt62, lt63, lt64, lt65, lt66, lt67, lt68, ua_ua, nI_ltN (show e < 2 ^ 31 by omega) (show 12 < 2 ^ 31 by omega), show e < 12 by omega, if_true, nI_add, in_nI (show 12 + e < 24 by omega) (show 24 < 2 ^ 31 by omega), cl_nI (show 12 + e < 2 ^ 31 by omega), in_nI (show e < 24 by omega) (show 24 < 2 ^ 31 by omega), cl_nI (show e < 2 ^ 31 by omega), c1, cpl_up]
    exact ih
theorem m_st4 (H : 69 ≤ u.length) {A : Nat → Nat → Int32} (f : Nat → Int32) : ∀ (n e : Nat), e + n = 134 → Wp X (Cl X d) 99 Q (128, [some (.ref 57), some (.int (nI e))], [], mw u tr a (ua A 5 (zrl f e)), 0, 0) = Wp X (Cl X d) 99 Q (150, [some (.ref 57), some (.int (nI 0))], [], mw u tr a (ua A 5 (zrl f 134)), 0, 0)
  | 0, e, he => by
    have : e = 134 := by omega
    subst this
    rw [s99_128]
    simp only [s99_129, s99_132, s99_148, s99_149, OpV_some, OpN_some, OpA_some, OpR_some, Option.toList_some, Option.toList_none, List.cons_append, List.nil_append, true_and, and_true, nI11, or_true, true_or, or_false, false_or, show (nI 134 < nI 134) = False by decide, if_false]
  | n + 1, e, he => by
    have ih := m_st4 H (A := A) f n (e + 1) (by omega)
    rw [s99_128]
    simp only [s99_129, s99_132, s99_135, s99_136, s99_139, s99_140, s99_141, s99_142, s99_145, OpV_some, OpN_some, OpA_some, OpR_some, Option.toList_some, Option.toList_none, List.cons_append, List.nil_append, true_and, and_true, nI11, or_true, true_or, or_false, false_or, mI0 H, mP0 H, mI3 H, mP3 H, mI4 H, mP4 H, mI5 H, mP5 H, mI6 H, mP6 H, mI7 H, mP7 H, mI8 H, mP8 H, mI9 H, mP9 H, mI10 H, mP10 H, mI11 H, mP11 H, mI12 H, mP12 H, mI13 H, mP13 H, mI14 H, mP14 H, mI23 H, mP23 H, mI24 H, mP24 H, mI25 H, mP25 H, mI26 H, mP26 H, mI27 H, mP27 H, mI30 H, mP30 H, mI31 H, mP31 H, mI1 H, mP1 H, mR2 H, mR15 H, mR16 H, mR17 H, mR18 H, mR19 H, mR20 H, mR21 H, mR22 H, mR28 H, mR29 H, mA0 H, mS0 H, mA1 H, mS1 H, mA2 H, mS2 H, mA3 H, mS3 H, mA4 H, mS4 H, mA5 H, mS5 H, mA6 H, mS6 H, mA7 H, mS7 H, mA8 H, mS8 H, mA9 H, mS9 H, mA10 H, mS10 H, mw_cl H, fu_s, fu_n, ua_s, ua_n, Nat.reduceBEq, lt57, lt58, lt59, lt60, lt61, lt62, lt63, lt64, lt65, lt66, lt67, lt68, ua_ua, nI_ltN (show e < 2 ^ 31 by omega) (show 134 < 2 ^ 31 by omega), show e < 134 by omega, if_true, nI_add, in_nI (show e < 134 by omega) (show 134 < 2 ^ 31 by omega), cl_nI (show e < 2 ^ 31 by omega), zrl_up]
    exact ih
theorem m_st5 (H : 69 ≤ u.length) {A : Nat → Nat → Int32} {nP : Nat} (h4 : nP ≤ 4) (ha : a 11 = nI nP) : ∀ (n e : Nat) (f : Nat → Int32), e + n = nP → (∀ q, q < e → f (4 * q) = A 4 (3 * q) ∧ f (4 * q + 1) = nI 0 ∧ f (4 * q + 2) = A 4 (3 * q + 2) ∧ f (4 * q + 3) = nI 0) → (∀ j, j < 134 → 4 * e ≤ j → f j = nI 0) → ∃ f', (∀ q, q < nP → f' (4 * q) = A 4 (3 * q) ∧ f' (4 * q + 1) = nI 0 ∧ f' (4 * q + 2) = A 4 (3 * q + 2) ∧ f' (4 * q + 3) = nI 0) ∧ (∀ j, j < 134 → 4 * nP ≤ j → f' j = nI 0) ∧ Wp X (Cl X d) 99 Q (150, [some (.ref 57), some (.int (nI e))], [], mw u tr a (ua A 5 f), 0, 0) = Wp X (Cl X d) 99 Q (202, [some (.ref 57), some (.int (nI 0))], [], mw u tr a (ua A 5 f'), 0, 0)
  | 0, e, f, he, h1, h2 => by
    have : e = nP := by omega
    subst this
    refine ⟨f, h1, h2, ?_⟩
    rw [s99_150]
    simp only [s99_151, s99_152, s99_155, s99_200, s99_201, OpV_some, OpN_some, OpA_some, OpR_some, Option.toList_some, Option.toList_none, List.cons_append, List.nil_append, true_and, and_true, nI11, or_true, true_or, or_false, false_or, mI0 H, mP0 H, mI3 H, mP3 H, mI4 H, mP4 H, mI5 H, mP5 H, mI6 H, mP6 H, mI7 H, mP7 H, mI8 H, mP8 H, mI9 H, mP9 H, mI10 H, mP10 H, mI11 H, mP11 H, mI12 H, mP12 H, mI13 H, mP13 H, mI14 H, mP14 H, mI23 H, mP23 H, mI24 H, mP24 H, mI25 H, mP25 H, mI26 H, mP26 H, mI27 H, mP27 H, mI30 H, mP30 H, mI31 H, mP31 H, mI1 H, mP1 H, mR2 H, mR15 H, mR16 H, mR17 H, mR18 H, mR19 H, mR20 H, mR21 H, mR22 H, mR28 H, mR29 H, mA0 H, mS0 H, mA1 H, mS1 H, mA2 H, mS2 H, mA3 H, mS3 H, mA4 H, mS4 H, mA5 H, mS5 H, mA6 H, mS6 H, mA7 H, mS7 H, mA8 H, mS8 H, mA9 H, mS9 H, mA10 H, mS10 H, mw_cl H, fu_s, fu_n, ua_s, ua_n, Nat.reduceBEq, lt57, lt58, lt59, lt60, lt61, lt62, lt63, lt64, lt65, lt66, lt67, lt68, ha, nI_ltN (show e < 2 ^ 31 by omega) (show e < 2 ^ 31 by omega), Nat.lt_irrefl, if_false]
  | n + 1, e, f, he, h1, h2 => by
    obtain ⟨f', i1, i2, ih⟩ := m_st5 H h4 ha n (e + 1) (upd (upd f (4 * e) (A 4 (3 * e))) (4 * e + 2) (A 4 (3 * e + 2))) (by omega) (fun q hq => by
      by_cases c : q = e
      · subst c
        refine ⟨?_, ?_, ?_, ?_⟩
        · rw [upd_n _ _ (by omega), upd_s]
        · rw [upd_n _ _ (by omega), upd_n _ _ (by omega)]; exact h2 _ (by omega) (by omega)
        · rw [upd_s]
        · rw [upd_n _ _ (by omega), upd_n _ _ (by omega)]; exact h2 _ (by omega) (by omega)
      · obtain ⟨b0, b1, b2, b3⟩ := h1 q (by omega)
        rw [upd_n _ _ (by omega), upd_n _ _ (by omega), upd_n _ _ (by omega), upd_n _ _ (by omega), upd_n _ _ (by omega), upd_n _ _ (by omega), upd_n _ _ (by omega), upd_n _ _ (by omega)]
        exact ⟨b0, b1, b2, b3⟩) (fun j hj h5 => by
      rw [upd_n _ _ (by omega), upd_n _ _ (by omega)]; exact h2 j hj (by omega))
    refine ⟨f', i1, i2, ?_⟩
    rw [s99_150, ← ih]
    simp only [s99_151, s99_152, s99_155, s99_158, s99_159, s99_162, s99_163, s99_164, s99_165, s99_166, s99_169, s99_170, s99_171, s99_172, s99_173, s99_174, s99_175, s99_178, s99_179, s99_180, s99_181, s99_182, s99_183, s99_184, s99_187, s99_188, s99_189, s99_190, s99_191, s99_192, s99_193, s99_194, s99_197, OpV_some, OpN_some, OpA_some, OpR_some, Option.toList_some, Option.toList_none, List.cons_append, List.nil_append, true_and, and_true, nI11, or_true, true_or, or_false, false_or, mI0 H, mP0 H, mI3 H, mP3 H, mI4 H, mP4 H, mI5 H, mP5 H, mI6 H, mP6 H, mI7 H, mP7 H, mI8 H, mP8 H, mI9 H, mP9 H, mI10 H, mP10 H, mI11 H, mP11 H, mI12 H, mP12 H, mI13 H, mP13 H, mI14 H, mP14 H, mI23 H, mP23 H, mI24 H, mP24 H, mI25 H, mP25 H, mI26 H, mP26 H, mI27 H, mP27 H, mI30 H, mP30 H, mI31 H, mP31 H, mI1 H, mP1 H, mR2 H, mR15 H, mR16 H, mR17 H, mR18 H, mR19 H, mR20 H, mR21 H, mR22 H, mR28 H, mR29 H, mA0 H, mS0 H, mA1 H, mS1 H, mA2 H, mS2 H, mA3 H, mS3 H, mA4 H, mS4 H, mA5 H, mS5 H, mA6 H, mS6 H, mA7 H, mS7 H, mA8 H, mS8 H, mA9 H, mS9 H, mA10 H, mS10 H, mw_cl H, fu_s, fu_n, ua_s, ua_n, Nat.reduceBEq, lt57, lt58, lt59, lt60, lt61, lt62, lt63, lt64, lt65, lt66, lt67, lt68, ua_ua, ha, nI_ltN (show e < 2 ^ 31 by omega) (show nP < 2 ^ 31 by omega), show e < nP by omega, if_true, pk_mul, nI_add, in_nI (show 4 * e < 134 by omega) (show 134 < 2 ^ 31 by omega), cl_nI (show 4 * e < 2 ^ 31 by omega), in_nI (show 4 * e + 2 < 134 by omega) (show 134 < 2 ^ 31 by omega), cl_nI (show 4 * e + 2 < 2 ^ 31 by omega), in_nI (show 3 * e < 24 by omega) (show 24 < 2 ^ 31 by omega), cl_nI (show 3 * e < 2 ^ 31 by omega), in_nI (show 3 * e + 2 < 24 by omega) (show 24 < 2 ^ 31 by omega), cl_nI (show 3 * e + 2 < 2 ^ 31 by omega)]
theorem m_st6 (H : 69 ≤ u.length) {A : Nat → Nat → Int32} {nR : Nat} (h8 : nR ≤ 8) (ha : a 10 = nI nR) : ∀ (n e : Nat) (f : Nat → Int32), e + n = nR → (∀ k, k < e → f (16 + k) = A 3 (4 * k + 3)) → ∃ f', (∀ k, k < nR → f' (16 + k) = A 3 (4 * k + 3)) ∧ (∀ j, j < 16 ∨ 16 + nR ≤ j → f' j = f j) ∧ Wp X (Cl X d) 99 Q (202, [some (.ref 57), some (.int (nI e))], [], mw u tr a (ua A 5 f), 0, 0) = Wp X (Cl X d) 99 Q (235, [some (.ref 57), some (.int (nI nR))], [], mw u tr a (ua A 5 f'), 0, 0)
  | 0, e, f, he, h1 => by
    have : e = nR := by omega
    subst this
    refine ⟨f, h1, fun _ _ => rfl, ?_⟩
    rw [s99_202]
    simp only [s99_203, s99_204, s99_207, OpV_some, OpN_some, OpA_some, OpR_some, Option.toList_some, Option.toList_none, List.cons_append, List.nil_append, true_and, and_true, nI11, or_true, true_or, or_false, false_or, mI0 H, mP0 H, mI3 H, mP3 H, mI4 H, mP4 H, mI5 H, mP5 H, mI6 H, mP6 H, mI7 H, mP7 H, mI8 H, mP8 H, mI9 H, mP9 H, mI10 H, mP10 H, mI11 H, mP11 H, mI12 H, mP12 H, mI13 H, mP13 H, mI14 H, mP14 H, mI23 H, mP23 H, mI24 H, mP24 H, mI25 H, mP25 H, mI26 H, mP26 H, mI27 H, mP27 H, mI30 H, mP30 H, mI31 H, mP31 H, mI1 H, mP1 H, mR2 H, mR15 H, mR16 H, mR17 H, mR18 H, mR19 H, mR20 H, mR21 H, mR22 H, mR28 H, mR29 H, mA0 H, mS0 H, mA1 H, mS1 H, mA2 H, mS2 H, mA3 H, mS3 H, mA4 H, mS4 H, mA5 H, mS5 H, mA6 H, mS6 H, mA7 H, mS7 H, mA8 H, mS8 H, mA9 H, mS9 H, mA10 H, mS10 H, mw_cl H, fu_s, fu_n, ua_s, ua_n, Nat.reduceBEq, lt57, lt58, lt59, lt60, lt61, lt62, lt63, lt64, lt65, lt66, lt67, lt68, ha, nI_ltN (show e < 2 ^ 31 by omega) (show e < 2 ^ 31 by omega), Nat.lt_irrefl, if_false]
  | n + 1, e, f, he, h1 => by
    obtain ⟨f', i1, i2, ih⟩ := m_st6 H h8 ha n (e + 1) (upd f (16 + e) (A 3 (4 * e + 3))) (by omega) (fun k hk => by
      by_cases c : k = e
      · rw [c, upd_s]
      · rw [upd_n _ _ (by omega)]; exact h1 k (by omega))
    refine ⟨f', i1, fun j hj => ?_, ?_⟩
    · rw [i2 j (by omega), upd_n _ _ (by omega)]
    · rw [s99_202, ← ih]
      simp only [s99_203, s99_204, s99_207, s99_210, s99_211, s99_214, s99_216, s99_217, s99_218, s99_219, s99_222, s99_223, s99_224, s99_225, s99_226, s99_227, s99_228, s99_229, s99_232, OpV_some, OpN_some, OpA_some, OpR_some, Option.toList_some, Option.toList_none, List.cons_append, List.nil_append, true_and, and_true, nI11, or_true, true_or, or_false, false_or, mI0 H, mP0 H, mI3 H, mP3 H, mI4 H, mP4 H, mI5 H, mP5 H, mI6 H, mP6 H, mI7 H, mP7 H, mI8 H, mP8 H, mI9 H, mP9 H, mI10 H, mP10 H, mI11 H, mP11 H, mI12 H, mP12 H, mI13 H, mP13 H, mI14 H, mP14 H, mI23 H, mP23 H, mI24 H, mP24 H, mI25 H, mP25 H, mI26 H, mP26 H, mI27 H, mP27 H, mI30 H, mP30 H, mI31 H, mP31 H, mI1 H, mP1 H, mR2 H, mR15 H, mR16 H, mR17 H, mR18 H, mR19 H, mR20 H, mR21 H, mR22 H, mR28 H, mR29 H, mA0 H, mS0 H, mA1 H, mS1 H, mA2 H, mS2 H, mA3 H, mS3 H, mA4 H, mS4 H, mA5 H, mS5 H, mA6 H, mS6 H, mA7 H, mS7 H, mA8 H, mS8 H, mA9 H, mS9 H, mA10 H, mS10 H, mw_cl H, fu_s, fu_n, ua_s, ua_n, Nat.reduceBEq, lt57, lt58, lt59, lt60, lt61, lt62, lt63, lt64, lt65, lt66, lt67, lt68, ua_ua, ha, nI_ltN (show e < 2 ^ 31 by omega) (show nR < 2 ^ 31 by omega), show e < nR by omega, if_true, pk_mul, nI_add, in_nI (show 16 + e < 134 by omega) (show 134 < 2 ^ 31 by omega), cl_nI (show 16 + e < 2 ^ 31 by omega), in_nI (show 4 * e + 3 < 64 by omega) (show 64 < 2 ^ 31 by omega), cl_nI (show 4 * e + 3 < 2 ^ 31 by omega)]
theorem m_settles (H : 69 ≤ u.length) {A : Nat → Nat → Int32} (R : Rel tr a A s) {r : RSt} (D : DR a A r) (hr : RdV r) (hQ : ∀ a' A', Rel tr a' A' (st_city s r) → Q none (mw u tr a' A')) : Cl X (d + 1) 99 [.ref 57] (mw u tr a A) Q := by
  obtain ⟨v1, v2, v3, v4, v5⟩ := hr
  have hS := v1.2.1
  have hR := v2.1
  have hP := v4.1
  have hR8 := v2.1
  rw [e99]
  simp only [s99_0, s99_1, s99_2, s99_5, s99_8, s99_9, s99_10, s99_13, s99_16, s99_17, s99_18, s99_21, s99_24, s99_25, OpV_some, OpN_some, OpA_some, OpR_some, Option.toList_some, Option.toList_none, List.cons_append, List.nil_append, true_and, and_true, nI11, or_true, true_or, or_false, false_or, mI0 H, mP0 H, mI3 H, mP3 H, mI4 H, mP4 H, mI5 H, mP5 H, mI6 H, mP6 H, mI7 H, mP7 H, mI8 H, mP8 H, mI9 H, mP9 H, mI10 H, mP10 H, mI11 H, mP11 H, mI12 H, mP12 H, mI13 H, mP13 H, mI14 H, mP14 H, mI23 H, mP23 H, mI24 H, mP24 H, mI25 H, mP25 H, mI26 H, mP26 H, mI27 H, mP27 H, mI30 H, mP30 H, mI31 H, mP31 H, mI1 H, mP1 H, mR2 H, mR15 H, mR16 H, mR17 H, mR18 H, mR19 H, mR20 H, mR21 H, mR22 H, mR28 H, mR29 H, mA0 H, mS0 H, mA1 H, mS1 H, mA2 H, mS2 H, mA3 H, mS3 H, mA4 H, mS4 H, mA5 H, mS5 H, mA6 H, mS6 H, mA7 H, mS7 H, mA8 H, mS8 H, mA9 H, mS9 H, mA10 H, mS10 H, mw_cl H, fu_s, fu_n, ua_s, ua_n, Nat.reduceBEq, lt57, lt58, lt59, lt60, lt61, lt62, lt63, lt64, lt65, lt66, lt67, lt68, D.1, D.2.1, D.2.2.1]
  have E1 := m_st1 (X := X) (d := d) (Q := Q) (tr := tr) (a := fu (fu (fu a 9 (nI r.1.1)) 10 (nI r.2.1.1)) 11 (nI r.2.2.1)) (A := A) H (A 1) (A 2) 8 0 (by omega)
  have i12 : ua (ua A 1 (A 1)) 2 (A 2) = A := by rw [ua_id, ua_id]
  rw [cpl_0, cpl_0, i12] at E1
  rw [E1]
  have E2 := m_st2 (X := X) (d := d) (Q := Q) (tr := tr) (a := fu (fu (fu a 9 (nI r.1.1)) 10 (nI r.2.1.1)) 11 (nI r.2.2.1)) (A := ua (ua A 1 (cpl (A 1) 8 8)) 2 (cpl (A 2) 8 8)) H (A 3) 32 0 (by omega)
  have i3 : ua (ua (ua A 1 (cpl (A 1) 8 8)) 2 (cpl (A 2) 8 8)) 3 (A 3) = ua (ua A 1 (cpl (A 1) 8 8)) 2 (cpl (A 2) 8 8) := ua_id (ua (ua A 1 (cpl (A 1) 8 8)) 2 (cpl (A 2) 8 8)) 3
  rw [cpl_0, i3] at E2
  rw [E2]
  have E3 := m_st3 (X := X) (d := d) (Q := Q) (tr := tr) (a := fu (fu (fu a 9 (nI r.1.1)) 10 (nI r.2.1.1)) 11 (nI r.2.2.1)) (A := ua (ua (ua A 1 (cpl (A 1) 8 8)) 2 (cpl (A 2) 8 8)) 3 (cpl (A 3) 32 32)) H (A 4) 12 0 (by omega)
  have i4 : ua (ua (ua (ua A 1 (cpl (A 1) 8 8)) 2 (cpl (A 2) 8 8)) 3 (cpl (A 3) 32 32)) 4 (A 4) = ua (ua (ua A 1 (cpl (A 1) 8 8)) 2 (cpl (A 2) 8 8)) 3 (cpl (A 3) 32 32) := ua_id (ua (ua (ua A 1 (cpl (A 1) 8 8)) 2 (cpl (A 2) 8 8)) 3 (cpl (A 3) 32 32)) 4
  rw [cpl_0, i4] at E3
  rw [E3]
  generalize hA4 : ua (ua (ua (ua A 1 (cpl (A 1) 8 8)) 2 (cpl (A 2) 8 8)) 3 (cpl (A 3) 32 32)) 4 (cpl (A 4) 12 12) = A4
  have q0 : A4 0 = A 0 := by rw [← hA4]; rfl
  have q1 : A4 1 = cpl (A 1) 8 8 := by rw [← hA4]; rfl
  have q2 : A4 2 = cpl (A 2) 8 8 := by rw [← hA4]; rfl
  have q3 : A4 3 = cpl (A 3) 32 32 := by rw [← hA4]; rfl
  have q4 : A4 4 = cpl (A 4) 12 12 := by rw [← hA4]; rfl
  have q6 : A4 6 = A 6 := by rw [← hA4]; rfl
  have q7 : A4 7 = A 7 := by rw [← hA4]; rfl
  have q8 : A4 8 = A 8 := by rw [← hA4]; rfl
  have E4 := m_st4 (X := X) (d := d) (Q := Q) (tr := tr) (a := fu (fu (fu a 9 (nI r.1.1)) 10 (nI r.2.1.1)) 11 (nI r.2.2.1)) (A := A4) H (A4 5) 134 0 (by omega)
  rw [zrl_0, ua_id] at E4
  rw [E4]
  obtain ⟨f5, p1, p2, E5⟩ := m_st5 (X := X) (d := d) (Q := Q) (tr := tr) (a := fu (fu (fu a 9 (nI r.1.1)) 10 (nI r.2.1.1)) 11 (nI r.2.2.1)) (A := A4) H hP rfl r.2.2.1 0 (zrl (A4 5) 134) (by omega) (fun q hq => absurd hq (by omega)) (fun j hj _ => if_pos hj)
  rw [E5]
  obtain ⟨f6, p3, p4, E6⟩ := m_st6 (X := X) (d := d) (Q := Q) (tr := tr) (a := fu (fu (fu a 9 (nI r.1.1)) 10 (nI r.2.1.1)) 11 (nI r.2.2.1)) (A := A4) H hR rfl r.2.1.1 0 f5 (by omega) (fun k hk => absurd hk (by omega))
  rw [E6]
  simp only [s99_235, s99_236, s99_237, s99_240, s99_241, s99_242, s99_245, s99_246, s99_249, s99_250, s99_251, s99_252, s99_253, s99_256, s99_257, s99_258, s99_259, OpV_some, OpN_some, OpA_some, OpR_some, Option.toList_some, Option.toList_none, List.cons_append, List.nil_append, true_and, and_true, nI11, or_true, true_or, or_false, false_or, mI0 H, mP0 H, mI3 H, mP3 H, mI4 H, mP4 H, mI5 H, mP5 H, mI6 H, mP6 H, mI7 H, mP7 H, mI8 H, mP8 H, mI9 H, mP9 H, mI10 H, mP10 H, mI11 H, mP11 H, mI12 H, mP12 H, mI13 H, mP13 H, mI14 H, mP14 H, mI23 H, mP23 H, mI24 H, mP24 H, mI25 H, mP25 H, mI26 H, mP26 H, mI27 H, mP27 H, mI30 H, mP30 H, mI31 H, mP31 H, mI1 H, mP1 H, mR2 H, mR15 H, mR16 H, mR17 H, mR18 H, mR19 H, mR20 H, mR21 H, mR22 H, mR28 H, mR29 H, mA0 H, mS0 H, mA1 H, mS1 H, mA2 H, mS2 H, mA3 H, mS3 H, mA4 H, mS4 H, mA5 H, mS5 H, mA6 H, mS6 H, mA7 H, mS7 H, mA8 H, mS8 H, mA9 H, mS9 H, mA10 H, mS10 H, mw_cl H, fu_s, fu_n, ua_s, ua_n, Nat.reduceBEq, lt57, lt58, lt59, lt60, lt61, lt62, lt63, lt64, lt65, lt66, lt67, lt68, ua_ua, in_nI (show 0 < 2 by omega) (show 2 < 2 ^ 31 by omega), cl_nI (show 0 < 2 ^ 31 by omega), in_nI (show 1 < 2 by omega) (show 2 < 2 ^ 31 by omega), cl_nI (show 1 < 2 ^ 31 by omega), b01_0]
  refine hQ _ _ ⟨R.1, ⟨rfl, fun i hi => absurd hi (Nat.not_lt_zero _)⟩, ⟨rfl, fun k hk => ?_⟩, ⟨rfl, fun k hk => ?_⟩, ⟨rfl, fun q hq => ?_⟩, ?_, ⟨rfl, fun i hi => absurd hi (Nat.not_lt_zero _)⟩, fun i hi => ?_⟩
  · have hk2 : k < r.1.1 := hk
    obtain ⟨b1, b2⟩ := D.2.2.2.1 k hk2
    show A4 1 k = nI (cpN r.1.2 s.2.1.2 (8 * 2) (k * 2)) ∧ A4 2 k = nI (cpN r.1.2 s.2.1.2 (8 * 2) (k * 2 + 1))
    rw [q1, q2]
    unfold cpl cpN
    rw [if_pos (by omega), if_pos (by omega), if_pos (by omega), if_pos (by omega)]
    exact ⟨b1, b2⟩
  · have hk2 : k < r.2.1.1 := hk
    obtain ⟨b0, b1, b2, b3⟩ := D.2.2.2.2.1 k hk2
    show A4 3 (4 * k) = nI (cpN r.2.1.2 s.2.2.1.1.2 (8 * 5) (k * 5)) ∧ A4 3 (4 * k + 1) = nI (cpN r.2.1.2 s.2.2.1.1.2 (8 * 5) (k * 5 + 1)) ∧ A4 3 (4 * k + 2) = nI (cpN r.2.1.2 s.2.2.1.1.2 (8 * 5) (k * 5 + 2))
    rw [q3]
    unfold cpl cpN
    rw [if_pos (by omega), if_pos (by omega), if_pos (by omega), if_pos (by omega), if_pos (by omega), if_pos (by omega)]
    exact ⟨b0, b1, b2⟩
  · have hq2 : q < r.2.2.1 := hq
    obtain ⟨b0, b1, b2⟩ := D.2.2.2.2.2 q hq2
    show A4 4 (3 * q + 1) = nI (cpN r.2.2.2 s.2.2.1.2.1.2 (4 * 5) (q * 5 + 2))
    rw [q4]
    unfold cpl cpN
    rw [if_pos (by omega), if_pos (by omega)]
    exact b1
  · show NowR f6 ((r.2.1.1, cpN r.2.1.2 s.2.2.1.1.2 (8 * 5)), (r.2.2.1, cpN r.2.2.2 s.2.2.1.2.1.2 (4 * 5)), (0, s.2.2.1.2.2.1.2), (0, s.2.2.1.2.2.2.2))
    refine ⟨fun q hq => ?_, fun k hk => ?_, ?_, fun i hi => absurd hi (Nat.not_lt_zero _), ?_, fun t ht => absurd (show t < 0 * 4 from ht) (by omega)⟩
    · have hq2 : q < r.2.2.1 := hq
      obtain ⟨b0, b1, b2⟩ := D.2.2.2.2.2 q hq2
      obtain ⟨c0, c1, c2, c3⟩ := p1 q hq2
      obtain ⟨w1, w4⟩ := v5 q hq2
      show f6 (4 * q) = nI (cpN r.2.2.2 s.2.2.1.2.1.2 (4 * 5) (q * 5)) ∧ f6 (4 * q + 1) = nI (cpN r.2.2.2 s.2.2.1.2.1.2 (4 * 5) (q * 5 + 1)) ∧ f6 (4 * q + 2) = nI (cpN r.2.2.2 s.2.2.1.2.1.2 (4 * 5) (q * 5 + 3)) ∧ f6 (4 * q + 3) = nI (cpN r.2.2.2 s.2.2.1.2.1.2 (4 * 5) (q * 5 + 4))
      rw [p4 _ (by omega), p4 _ (by omega), p4 _ (by omega), p4 _ (by omega), c0, c1, c2, c3, q4]
      unfold cpl cpN
      rw [if_pos (by omega), if_pos (by omega), if_pos (by omega), if_pos (by omega), if_pos (by omega), if_pos (by omega), w1, w4]
      exact ⟨b0, rfl, b2, rfl⟩
    · have hk2 : k < r.2.1.1 := hk
      obtain ⟨b0, b1, b2, b3⟩ := D.2.2.2.2.1 k hk2
      obtain ⟨w2, w4⟩ := v3 k hk2
      show f6 (16 + k) = nI (cpN r.2.1.2 s.2.2.1.1.2 (8 * 5) (k * 5 + 3)) ∧ f6 (24 + k) = nI (cpN r.2.1.2 s.2.2.1.1.2 (8 * 5) (k * 5 + 4))
      rw [p3 k hk2, p4 _ (by omega), p2 _ (by omega) (by omega), q3]
      unfold cpl cpN
      rw [if_pos (by omega), if_pos (by omega), if_pos (by omega), w4]
      exact ⟨b3, rfl⟩
    · rw [p4 _ (by omega)]; exact p2 _ (by omega) (by omega)
    · rw [p4 _ (by omega)]; exact p2 _ (by omega) (by omega)
  · show upd (upd (A4 7) 0 (nI 0)) 1 (nI 0) i = nI (upN (upN s.2.2.2.2.1 0 0) 1 0 i) ∧ (upN (upN s.2.2.2.2.1 0 0) 1 0 i = 1 → _)
    rcases (show i = 0 ∨ i = 1 by omega) with e | e <;> subst e
    · exact ⟨rfl, fun z => absurd (show (0 : Nat) = 1 from z) (by decide)⟩
    · exact ⟨rfl, fun z => absurd (show (0 : Nat) = 1 from z) (by decide)⟩
end MSETTLE
