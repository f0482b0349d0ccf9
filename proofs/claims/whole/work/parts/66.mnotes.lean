/-! deeds and rides are noted, by the reference -/
theorem upd_s (f : Nat → Int32) (j : Nat) (x : Int32) : upd f j x j = x := if_pos rfl
theorem upd_n (f : Nat → Int32) {j k : Nat} (x : Int32) (h : k ≠ j) : upd f j x k = f k := if_neg h
theorem upN_s (f : Nat → Nat) (j x : Nat) : upN f j x j = x := if_pos rfl
theorem upN_n (f : Nat → Nat) {j k : Nat} (x : Nat) (h : k ≠ j) : upN f j x k = f k := if_neg h
def shm (f : Nat → Int32) (lo wi e : Nat) : Nat → Int32 := fun u => if lo ≤ u ∧ u < lo + e then f (u + wi) else f u
theorem shm_0 (f : Nat → Int32) (lo wi : Nat) : shm f lo wi 0 = f := by funext u; unfold shm; rw [if_neg (by omega)]
theorem shm_at (f : Nat → Int32) (lo wi e : Nat) : shm f lo wi e (lo + wi + e) = f (lo + wi + e) := if_neg (by omega)
theorem shm_up (f : Nat → Int32) (lo wi e : Nat) : upd (shm f lo wi e) (lo + e) (f (lo + wi + e)) = shm f lo wi (e + 1) := by
  funext u
  unfold upd shm
  by_cases h : u = lo + e
  · subst h
    rw [if_pos rfl, if_pos (by omega)]
    congr 1
    omega
  · rw [if_neg h]
    by_cases h2 : lo ≤ u ∧ u < lo + e
    · rw [if_pos h2, if_pos (by omega)]
    · rw [if_neg h2, if_neg (by omega)]
def nt1 (f : Nat → Int32) (n : Nat) (v0 v1 v2 v3 v4 v5 : Int32) : Nat → Int32 := upd (upd (upd (upd (upd (upd (upd f (33 + 6 * n) v0) (33 + 6 * n + 1) v1) (33 + 6 * n + 2) v2) (33 + 6 * n + 3) v3) (33 + 6 * n + 4) v4) (33 + 6 * n + 5) v5) 32 (nI (n + 1))
def nts (f : Nat → Int32) (n : Nat) (v0 v1 v2 v3 v4 v5 : Int32) : Nat → Int32 := if n = 10 then nt1 (upd (shm f 33 6 54) 32 (nI 9)) 9 v0 v1 v2 v3 v4 v5 else nt1 f n v0 v1 v2 v3 v4 v5
def kr1 (f : Nat → Int32) (n : Nat) (v0 v1 v2 v3 : Int32) : Nat → Int32 := upd (upd (upd (upd (upd f (94 + 4 * n) v0) (94 + 4 * n + 1) v1) (94 + 4 * n + 2) v2) (94 + 4 * n + 3) v3) 93 (nI (n + 1))
def krs (f : Nat → Int32) (n : Nat) (v0 v1 v2 v3 : Int32) : Nat → Int32 := if n = 10 then kr1 (upd (shm f 94 4 36) 93 (nI 9)) 9 v0 v1 v2 v3 else kr1 f n v0 v1 v2 v3
section MNOTES
variable {X : am_X} {d : Nat} {Q : am_Q} {u : am_W} {tr : Int64} {a : Nat → Int32} {A : Nat → Nat → Int32} {v0 v1 v2 v3 v4 v5 : Int32}
theorem m_notes_tail (H : 69 ≤ u.length) {n : Nat} (hn : n ≤ 9) (hA : A 5 32 = nI n) (l7 : Option Value) : Wp X (Cl X d) 113 Q (57, [some (.ref 57), some (.int v0), some (.int v1), some (.int v2), some (.int v3), some (.int v4), some (.int v5), l7], [], mw u tr a A, 0, 0) = Q none (mw u tr a (ua A 5 (nt1 (A 5) n v0 v1 v2 v3 v4 v5))) := by
  have r0 : ∀ f x, upd f (33 + 6 * n) x 32 = f 32 := fun f x => upd_n f x (by omega)
  have r1 : ∀ f x, upd f (33 + 6 * n + 1) x 32 = f 32 := fun f x => upd_n f x (by omega)
  have r2 : ∀ f x, upd f (33 + 6 * n + 2) x 32 = f 32 := fun f x => upd_n f x (by omega)
  have r3 : ∀ f x, upd f (33 + 6 * n + 3) x 32 = f 32 := fun f x => upd_n f x (by omega)
  have r4 : ∀ f x, upd f (33 + 6 * n + 4) x 32 = f 32 := fun f x => upd_n f x (by omega)
  have r5 : ∀ f x, upd f (33 + 6 * n + 5) x 32 = f 32 := fun f x => upd_n f x (by omega)
  unfold nt1
  simp only [s113_57, s113_59, s113_61, s113_62, s113_65, s113_67, s113_68, s113_69, s113_70, s113_72, s113_73, s113_76, s113_78, s113_79, s113_80, s113_81, s113_84, s113_86, s113_87, s113_88, s113_89, s113_90, s113_91, s113_94, s113_96, s113_97, s113_98, s113_99, s113_100, s113_101, s113_104, s113_106, s113_107, s113_108, s113_110, s113_111, s113_112, s113_115, s113_117, s113_118, s113_119, s113_121, s113_122, s113_123, s113_126, s113_128, s113_129, s113_130, s113_132, s113_133, s113_134, s113_137, s113_139, s113_140, s113_141, s113_142, s113_143, s113_144, OpV_some, OpN_some, OpA_some, OpR_some, Option.toList_some, Option.toList_none, List.cons_append, List.nil_append, true_and, and_true, nI11, or_true, true_or, or_false, false_or, mI0 H, mP0 H, mI3 H, mP3 H, mI4 H, mP4 H, mI5 H, mP5 H, mI6 H, mP6 H, mI7 H, mP7 H, mI8 H, mP8 H, mI9 H, mP9 H, mI10 H, mP10 H, mI11 H, mP11 H, mI12 H, mP12 H, mI13 H, mP13 H, mI14 H, mP14 H, mI23 H, mP23 H, mI24 H, mP24 H, mI25 H, mP25 H, mI26 H, mP26 H, mI27 H, mP27 H, mI30 H, mP30 H, mI31 H, mP31 H, mI1 H, mP1 H, mR2 H, mR15 H, mR16 H, mR17 H, mR18 H, mR19 H, mR20 H, mR21 H, mR22 H, mR28 H, mR29 H, mA0 H, mS0 H, mA1 H, mS1 H, mA2 H, mS2 H, mA3 H, mS3 H, mA4 H, mS4 H, mA5 H, mS5 H, mA6 H, mS6 H, mA7 H, mS7 H, mA8 H, mS8 H, mA9 H, mS9 H, mA10 H, mS10 H, mw_cl H, fu_s, fu_n, ua_s, ua_n, Nat.reduceBEq, lt57, lt58, lt59, lt60, lt61, lt62, lt63, lt64, lt65, lt66, lt67, lt68, ua_ua, in_nI (show 32 < 134 by decide) (show 134 < 2 ^ 31 by decide), cl_nI (show 32 < 2 ^ 31 by decide), hA, pk_mul, nI_add, in_nI (show 33 + 6 * n < 134 by omega) (show 134 < 2 ^ 31 by decide), cl_nI (show 33 + 6 * n < 2 ^ 31 by omega), in_nI (show 33 + 6 * n + 1 < 134 by omega) (show 134 < 2 ^ 31 by decide), cl_nI (show 33 + 6 * n + 1 < 2 ^ 31 by omega), in_nI (show 33 + 6 * n + 2 < 134 by omega) (show 134 < 2 ^ 31 by decide), cl_nI (show 33 + 6 * n + 2 < 2 ^ 31 by omega), in_nI (show 33 + 6 * n + 3 < 134 by omega) (show 134 < 2 ^ 31 by decide), cl_nI (show 33 + 6 * n + 3 < 2 ^ 31 by omega), in_nI (show 33 + 6 * n + 4 < 134 by omega) (show 134 < 2 ^ 31 by decide), cl_nI (show 33 + 6 * n + 4 < 2 ^ 31 by omega), in_nI (show 33 + 6 * n + 5 < 134 by omega) (show 134 < 2 ^ 31 by decide), cl_nI (show 33 + 6 * n + 5 < 2 ^ 31 by omega), r0, r1, r2, r3, r4, r5]
theorem m_notes_loop (H : 69 ≤ u.length) (f : Nat → Int32) : ∀ (n e : Nat), e + n = 54 → Wp X (Cl X d) 113 Q (15, [some (.ref 57), some (.int v0), some (.int v1), some (.int v2), some (.int v3), some (.int v4), some (.int v5), some (.int (nI e))], [], mw u tr a (ua A 5 (shm f 33 6 e)), 0, 0) = Wp X (Cl X d) 113 Q (48, [some (.ref 57), some (.int v0), some (.int v1), some (.int v2), some (.int v3), some (.int v4), some (.int v5), some (.int (nI 54))], [], mw u tr a (ua A 5 (shm f 33 6 54)), 0, 0)
  | 0, e, he => by
    have : e = 54 := by omega
    subst this
    rw [s113_15]
    simp only [s113_17, s113_19, OpV_some, OpN_some, OpA_some, OpR_some, Option.toList_some, Option.toList_none, List.cons_append, List.nil_append, true_and, and_true, nI11, or_true, true_or, or_false, false_or, show (nI 54 < nI 54) = False by decide, if_false]
  | n + 1, e, he => by
    have ih := m_notes_loop H f n (e + 1) (by omega)
    have h1 : shm f 33 6 e (39 + e) = f (39 + e) := shm_at f 33 6 e
    have h2 : upd (shm f 33 6 e) (33 + e) (f (39 + e)) = shm f 33 6 (e + 1) := shm_up f 33 6 e
    rw [s113_15]
    simp only [s113_17, s113_19, s113_22, s113_23, s113_26, s113_28, s113_30, s113_31, s113_32, s113_35, s113_37, s113_39, s113_40, s113_41, s113_42, s113_45, OpV_some, OpN_some, OpA_some, OpR_some, Option.toList_some, Option.toList_none, List.cons_append, List.nil_append, true_and, and_true, nI11, or_true, true_or, or_false, false_or, mI0 H, mP0 H, mI3 H, mP3 H, mI4 H, mP4 H, mI5 H, mP5 H, mI6 H, mP6 H, mI7 H, mP7 H, mI8 H, mP8 H, mI9 H, mP9 H, mI10 H, mP10 H, mI11 H, mP11 H, mI12 H, mP12 H, mI13 H, mP13 H, mI14 H, mP14 H, mI23 H, mP23 H, mI24 H, mP24 H, mI25 H, mP25 H, mI26 H, mP26 H, mI27 H, mP27 H, mI30 H, mP30 H, mI31 H, mP31 H, mI1 H, mP1 H, mR2 H, mR15 H, mR16 H, mR17 H, mR18 H, mR19 H, mR20 H, mR21 H, mR22 H, mR28 H, mR29 H, mA0 H, mS0 H, mA1 H, mS1 H, mA2 H, mS2 H, mA3 H, mS3 H, mA4 H, mS4 H, mA5 H, mS5 H, mA6 H, mS6 H, mA7 H, mS7 H, mA8 H, mS8 H, mA9 H, mS9 H, mA10 H, mS10 H, mw_cl H, fu_s, fu_n, ua_s, ua_n, Nat.reduceBEq, lt57, lt58, lt59, lt60, lt61, lt62, lt63, lt64, lt65, lt66, lt67, lt68, ua_ua, nI_ltN (show e < 2 ^ 31 by omega) (show 54 < 2 ^ 31 by decide), show e < 54 by omega, if_true, nI_add, in_nI (show 39 + e < 134 by omega) (show 134 < 2 ^ 31 by decide), cl_nI (show 39 + e < 2 ^ 31 by omega), in_nI (show 33 + e < 134 by omega) (show 134 < 2 ^ 31 by decide), cl_nI (show 33 + e < 2 ^ 31 by omega), h1, h2]
    exact ih
theorem m_notes (H : 69 ≤ u.length) {n : Nat} (hn : n ≤ 10) (hA : A 5 32 = nI n) : Cl X (d + 1) 113 [.ref 57, .int v0, .int v1, .int v2, .int v3, .int v4, .int v5] (mw u tr a A) Q = Q none (mw u tr a (ua A 5 (nts (A 5) n v0 v1 v2 v3 v4 v5))) := by
  rw [e113]
  unfold nts
  simp only [s113_0, s113_1, s113_4, s113_6, s113_7, s113_9, s113_12, s113_13, OpV_some, OpN_some, OpA_some, OpR_some, Option.toList_some, Option.toList_none, List.cons_append, List.nil_append, true_and, and_true, nI11, or_true, true_or, or_false, false_or, mI0 H, mP0 H, mI3 H, mP3 H, mI4 H, mP4 H, mI5 H, mP5 H, mI6 H, mP6 H, mI7 H, mP7 H, mI8 H, mP8 H, mI9 H, mP9 H, mI10 H, mP10 H, mI11 H, mP11 H, mI12 H, mP12 H, mI13 H, mP13 H, mI14 H, mP14 H, mI23 H, mP23 H, mI24 H, mP24 H, mI25 H, mP25 H, mI26 H, mP26 H, mI27 H, mP27 H, mI30 H, mP30 H, mI31 H, mP31 H, mI1 H, mP1 H, mR2 H, mR15 H, mR16 H, mR17 H, mR18 H, mR19 H, mR20 H, mR21 H, mR22 H, mR28 H, mR29 H, mA0 H, mS0 H, mA1 H, mS1 H, mA2 H, mS2 H, mA3 H, mS3 H, mA4 H, mS4 H, mA5 H, mS5 H, mA6 H, mS6 H, mA7 H, mS7 H, mA8 H, mS8 H, mA9 H, mS9 H, mA10 H, mS10 H, mw_cl H, fu_s, fu_n, ua_s, ua_n, Nat.reduceBEq, lt57, lt58, lt59, lt60, lt61, lt62, lt63, lt64, lt65, lt66, lt67, lt68, in_nI (show 32 < 134 by decide) (show 134 < 2 ^ 31 by decide), cl_nI (show 32 < 2 ^ 31 by decide), hA, nI_eqN (show n < 2 ^ 31 by omega) (show 10 < 2 ^ 31 by decide)]
  by_cases h : n = 10
  · simp only [h, if_true]
    have := m_notes_loop (X := X) (d := d) (Q := Q) (tr := tr) (a := a) (A := A) (v0 := v0) (v1 := v1) (v2 := v2) (v3 := v3) (v4 := v4) (v5 := v5) H (A 5) 54 0 (by omega)
    rw [shm_0, ua_id] at this
    rw [this]
    simp only [s113_48, s113_49, s113_52, s113_54, s113_56, OpV_some, OpN_some, OpA_some, OpR_some, Option.toList_some, Option.toList_none, List.cons_append, List.nil_append, true_and, and_true, nI11, or_true, true_or, or_false, false_or, mI0 H, mP0 H, mI3 H, mP3 H, mI4 H, mP4 H, mI5 H, mP5 H, mI6 H, mP6 H, mI7 H, mP7 H, mI8 H, mP8 H, mI9 H, mP9 H, mI10 H, mP10 H, mI11 H, mP11 H, mI12 H, mP12 H, mI13 H, mP13 H, mI14 H, mP14 H, mI23 H, mP23 H, mI24 H, mP24 H, mI25 H, mP25 H, mI26 H, mP26 H, mI27 H, mP27 H, mI30 H, mP30 H, mI31 H, mP31 H, mI1 H, mP1 H, mR2 H, mR15 H, mR16 H, mR17 H, mR18 H, mR19 H, mR20 H, mR21 H, mR22 H, mR28 H, mR29 H, mA0 H, mS0 H, mA1 H, mS1 H, mA2 H, mS2 H, mA3 H, mS3 H, mA4 H, mS4 H, mA5 H, mS5 H, mA6 H, mS6 H, mA7 H, mS7 H, mA8 H, mS8 H, mA9 H, mS9 H, mA10 H, mS10 H, mw_cl H, fu_s, fu_n, ua_s, ua_n, Nat.reduceBEq, lt57, lt58, lt59, lt60, lt61, lt62, lt63, lt64, lt65, lt66, lt67, lt68, ua_ua, in_nI (show 32 < 134 by decide) (show 134 < 2 ^ 31 by decide), cl_nI (show 32 < 2 ^ 31 by decide)]
    rw [m_notes_tail H (show 9 ≤ 9 by decide) (by rw [ua_s, upd_s]), ua_ua, ua_s]
  · simp only [h, if_false]
    rw [m_notes_tail H (show n ≤ 9 by omega) hA]
theorem m_kr_tail (H : 69 ≤ u.length) {n : Nat} (hn : n ≤ 9) (hA : A 5 93 = nI n) (l3 : Option Value) : Wp X (Cl X d) 114 Q (53, [some (.ref 57), some (.int v0), some (.int v1), l3], [], mw u tr a A, 0, 0) = Q none (mw u tr a (ua A 5 (kr1 (A 5) n v0 v1 (a 24) (a 25)))) := by
  have r0 : ∀ f x, upd f (94 + 4 * n) x 93 = f 93 := fun f x => upd_n f x (by omega)
  have r1 : ∀ f x, upd f (94 + 4 * n + 1) x 93 = f 93 := fun f x => upd_n f x (by omega)
  have r2 : ∀ f x, upd f (94 + 4 * n + 2) x 93 = f 93 := fun f x => upd_n f x (by omega)
  have r3 : ∀ f x, upd f (94 + 4 * n + 3) x 93 = f 93 := fun f x => upd_n f x (by omega)
  unfold kr1
  simp only [s114_53, s114_55, s114_56, s114_57, s114_60, s114_62, s114_63, s114_64, s114_65, s114_66, s114_67, s114_70, s114_71, s114_72, s114_73, s114_74, s114_77, s114_78, s114_79, s114_80, s114_81, s114_82, s114_83, s114_86, s114_87, s114_88, s114_89, s114_90, s114_93, s114_94, s114_95, s114_98, s114_99, s114_100, s114_101, s114_102, s114_105, s114_106, s114_107, s114_110, s114_112, s114_113, s114_114, s114_115, s114_116, s114_117, OpV_some, OpN_some, OpA_some, OpR_some, Option.toList_some, Option.toList_none, List.cons_append, List.nil_append, true_and, and_true, nI11, or_true, true_or, or_false, false_or, mI0 H, mP0 H, mI3 H, mP3 H, mI4 H, mP4 H, mI5 H, mP5 H, mI6 H, mP6 H, mI7 H, mP7 H, mI8 H, mP8 H, mI9 H, mP9 H, mI10 H, mP10 H, mI11 H, mP11 H, mI12 H, mP12 H, mI13 H, mP13 H, mI14 H, mP14 H, mI23 H, mP23 H, mI24 H, mP24 H, mI25 H, mP25 H, mI26 H, mP26 H, mI27 H, mP27 H, mI30 H, mP30 H, mI31 H, mP31 H, mI1 H, mP1 H, mR2 H, mR15 H, mR16 H, mR17 H, mR18 H, mR19 H, mR20 H, mR21 H, mR22 H, mR28 H, mR29 H, mA0 H, mS0 H, mA1 H, mS1 H, mA2 H, mS2 H, mA3 H, mS3 H, mA4 H, mS4 H, mA5 H, mS5 H, mA6 H, mS6 H, mA7 H, mS7 H, mA8 H, mS8 H, mA9 H, mS9 H, mA10 H, mS10 H, mw_cl H, fu_s, fu_n, ua_s, ua_n, Nat.reduceBEq, lt57, lt58, lt59, lt60, lt61, lt62, lt63, lt64, lt65, lt66, lt67, lt68, ua_ua, in_nI (show 93 < 134 by decide) (show 134 < 2 ^ 31 by decide), cl_nI (show 93 < 2 ^ 31 by decide), hA, pk_mul, nI_add, in_nI (show 94 + 4 * n < 134 by omega) (show 134 < 2 ^ 31 by decide), cl_nI (show 94 + 4 * n < 2 ^ 31 by omega), in_nI (show 94 + 4 * n + 1 < 134 by omega) (show 134 < 2 ^ 31 by decide), cl_nI (show 94 + 4 * n + 1 < 2 ^ 31 by omega), in_nI (show 94 + 4 * n + 2 < 134 by omega) (show 134 < 2 ^ 31 by decide), cl_nI (show 94 + 4 * n + 2 < 2 ^ 31 by omega), in_nI (show 94 + 4 * n + 3 < 134 by omega) (show 134 < 2 ^ 31 by decide), cl_nI (show 94 + 4 * n + 3 < 2 ^ 31 by omega), r0, r1, r2, r3]
theorem m_kr_loop (H : 69 ≤ u.length) (f : Nat → Int32) : ∀ (n e : Nat), e + n = 36 → Wp X (Cl X d) 114 Q (14, [some (.ref 57), some (.int v0), some (.int v1), some (.int (nI e))], [], mw u tr a (ua A 5 (shm f 94 4 e)), 0, 0) = Wp X (Cl X d) 114 Q (44, [some (.ref 57), some (.int v0), some (.int v1), some (.int (nI 36))], [], mw u tr a (ua A 5 (shm f 94 4 36)), 0, 0)
  | 0, e, he => by
    have : e = 36 := by omega
    subst this
    rw [s114_14]
    simp only [s114_15, s114_17, OpV_some, OpN_some, OpA_some, OpR_some, Option.toList_some, Option.toList_none, List.cons_append, List.nil_append, true_and, and_true, nI11, or_true, true_or, or_false, false_or, show (nI 36 < nI 36) = False by decide, if_false]
  | n + 1, e, he => by
    have ih := m_kr_loop H f n (e + 1) (by omega)
    have h1 : shm f 94 4 e (98 + e) = f (98 + e) := shm_at f 94 4 e
    have h2 : upd (shm f 94 4 e) (94 + e) (f (98 + e)) = shm f 94 4 (e + 1) := shm_up f 94 4 e
    rw [s114_14]
    simp only [s114_15, s114_17, s114_20, s114_21, s114_24, s114_26, s114_27, s114_28, s114_29, s114_32, s114_34, s114_35, s114_36, s114_37, s114_38, s114_41, OpV_some, OpN_some, OpA_some, OpR_some, Option.toList_some, Option.toList_none, List.cons_append, List.nil_append, true_and, and_true, nI11, or_true, true_or, or_false, false_or, mI0 H, mP0 H, mI3 H, mP3 H, mI4 H, mP4 H, mI5 H, mP5 H, mI6 H, mP6 H, mI7 H, mP7 H, mI8 H, mP8 H, mI9 H, mP9 H, mI10 H, mP10 H, mI11 H, mP11 H, mI12 H, mP12 H, mI13 H, mP13 H, mI14 H, mP14 H, mI23 H, mP23 H, mI24 H, mP24 H, mI25 H, mP25 H, mI26 H, mP26 H, mI27 H, mP27 H, mI30 H, mP30 H, mI31 H, mP31 H, mI1 H, mP1 H, mR2 H, mR15 H, mR16 H, mR17 H, mR18 H, mR19 H, mR20 H, mR21 H, mR22 H, mR28 H, mR29 H, mA0 H, mS0 H, mA1 H, mS1 H, mA2 H, mS2 H, mA3 H, mS3 H, mA4 H, mS4 H, mA5 H, mS5 H, mA6 H, mS6 H, mA7 H, mS7 H, mA8 H, mS8 H, mA9 H, mS9 H, mA10 H, mS10 H, mw_cl H, fu_s, fu_n, ua_s, ua_n, Nat.reduceBEq, lt57, lt58, lt59, lt60, lt61, lt62, lt63, lt64, lt65, lt66, lt67, lt68, ua_ua, nI_ltN (show e < 2 ^ 31 by omega) (show 36 < 2 ^ 31 by decide), show e < 36 by omega, if_true, nI_add, in_nI (show 98 + e < 134 by omega) (show 134 < 2 ^ 31 by decide), cl_nI (show 98 + e < 2 ^ 31 by omega), in_nI (show 94 + e < 134 by omega) (show 134 < 2 ^ 31 by decide), cl_nI (show 94 + e < 2 ^ 31 by omega), h1, h2]
    exact ih
theorem m_keepsRide (H : 69 ≤ u.length) {n : Nat} (hn : n ≤ 10) (hA : A 5 93 = nI n) : Cl X (d + 1) 114 [.ref 57, .int v0, .int v1] (mw u tr a A) Q = Q none (mw u tr a (ua A 5 (krs (A 5) n v0 v1 (a 24) (a 25)))) := by
  rw [e114]
  unfold krs
  simp only [s114_0, s114_1, s114_4, s114_6, s114_7, s114_9, s114_12, s114_13, OpV_some, OpN_some, OpA_some, OpR_some, Option.toList_some, Option.toList_none, List.cons_append, List.nil_append, true_and, and_true, nI11, or_true, true_or, or_false, false_or, mI0 H, mP0 H, mI3 H, mP3 H, mI4 H, mP4 H, mI5 H, mP5 H, mI6 H, mP6 H, mI7 H, mP7 H, mI8 H, mP8 H, mI9 H, mP9 H, mI10 H, mP10 H, mI11 H, mP11 H, mI12 H, mP12 H, mI13 H, mP13 H, mI14 H, mP14 H, mI23 H, mP23 H, mI24 H, mP24 H, mI25 H, mP25 H, mI26 H, mP26 H, mI27 H, mP27 H, mI30 H, mP30 H, mI31 H, mP31 H, mI1 H, mP1 H, mR2 H, mR15 H, mR16 H, mR17 H, mR18 H, mR19 H, mR20 H, mR21 H, mR22 H, mR28 H, mR29 H, mA0 H, mS0 H, mA1 H, mS1 H, mA2 H, mS2 H, mA3 H, mS3 H, mA4 H, mS4 H, mA5 H, mS5 H, mA6 H, mS6 H, mA7 H, mS7 H, mA8 H, mS8 H, mA9 H, mS9 H, mA10 H, mS10 H, mw_cl H, fu_s, fu_n, ua_s, ua_n, Nat.reduceBEq, lt57, lt58, lt59, lt60, lt61, lt62, lt63, lt64, lt65, lt66, lt67, lt68, in_nI (show 93 < 134 by decide) (show 134 < 2 ^ 31 by decide), cl_nI (show 93 < 2 ^ 31 by decide), hA, nI_eqN (show n < 2 ^ 31 by omega) (show 10 < 2 ^ 31 by decide)]
  by_cases h : n = 10
  · simp only [h, if_true]
    have := m_kr_loop (X := X) (d := d) (Q := Q) (tr := tr) (a := a) (A := A) (v0 := v0) (v1 := v1) H (A 5) 36 0 (by omega)
    rw [shm_0, ua_id] at this
    rw [this]
    simp only [s114_44, s114_45, s114_48, s114_50, s114_52, OpV_some, OpN_some, OpA_some, OpR_some, Option.toList_some, Option.toList_none, List.cons_append, List.nil_append, true_and, and_true, nI11, or_true, true_or, or_false, false_or, mI0 H, mP0 H, mI3 H, mP3 H, mI4 H, mP4 H, mI5 H, mP5 H, mI6 H, mP6 H, mI7 H, mP7 H, mI8 H, mP8 H, mI9 H, mP9 H, mI10 H, mP10 H, mI11 H, mP11 H, mI12 H, mP12 H, mI13 H, mP13 H, mI14 H, mP14 H, mI23 H, mP23 H, mI24 H, mP24 H, mI25 H, mP25 H, mI26 H, mP26 H, mI27 H, mP27 H, mI30 H, mP30 H, mI31 H, mP31 H, mI1 H, mP1 H, mR2 H, mR15 H, mR16 H, mR17 H, mR18 H, mR19 H, mR20 H, mR21 H, mR22 H, mR28 H, mR29 H, mA0 H, mS0 H, mA1 H, mS1 H, mA2 H, mS2 H, mA3 H, mS3 H, mA4 H, mS4 H, mA5 H, mS5 H, mA6 H, mS6 H, mA7 H, mS7 H, mA8 H, mS8 H, mA9 H, mS9 H, mA10 H, mS10 H, mw_cl H, fu_s, fu_n, ua_s, ua_n, Nat.reduceBEq, lt57, lt58, lt59, lt60, lt61, lt62, lt63, lt64, lt65, lt66, lt67, lt68, ua_ua, in_nI (show 93 < 134 by decide) (show 134 < 2 ^ 31 by decide), cl_nI (show 93 < 2 ^ 31 by decide)]
    rw [m_kr_tail H (show 9 ≤ 9 by decide) (by rw [ua_s, upd_s]), ua_ua, ua_s]
  · simp only [h, if_false]
    rw [m_kr_tail H (show n ≤ 9 by omega) hA]
end MNOTES
/-! what the notes are, place by place -/
theorem nt1_lo (f : Nat → Int32) {n j : Nat} (v0 v1 v2 v3 v4 v5 : Int32) (h : j < 32 ∨ 33 ≤ j) (h2 : j < 33 + 6 * n ∨ 33 + 6 * n + 6 ≤ j) : nt1 f n v0 v1 v2 v3 v4 v5 j = f j := by
  unfold nt1
  rw [upd_n _ _ (by omega), upd_n _ _ (by omega), upd_n _ _ (by omega), upd_n _ _ (by omega), upd_n _ _ (by omega), upd_n _ _ (by omega), upd_n _ _ (by omega)]
theorem nt1_new (f : Nat → Int32) (n : Nat) (v0 v1 v2 v3 v4 v5 : Int32) : nt1 f n v0 v1 v2 v3 v4 v5 32 = nI (n + 1) ∧ nt1 f n v0 v1 v2 v3 v4 v5 (33 + 6 * n) = v0 ∧ nt1 f n v0 v1 v2 v3 v4 v5 (33 + 6 * n + 1) = v1 ∧ nt1 f n v0 v1 v2 v3 v4 v5 (33 + 6 * n + 2) = v2 ∧ nt1 f n v0 v1 v2 v3 v4 v5 (33 + 6 * n + 3) = v3 ∧ nt1 f n v0 v1 v2 v3 v4 v5 (33 + 6 * n + 4) = v4 ∧ nt1 f n v0 v1 v2 v3 v4 v5 (33 + 6 * n + 5) = v5 := by
  unfold nt1
  refine ⟨upd_s _ _ _, ?_, ?_, ?_, ?_, ?_, ?_⟩
  · rw [upd_n _ _ (by omega), upd_n _ _ (by omega), upd_n _ _ (by omega), upd_n _ _ (by omega), upd_n _ _ (by omega), upd_n _ _ (by omega), upd_s]
  · rw [upd_n _ _ (by omega), upd_n _ _ (by omega), upd_n _ _ (by omega), upd_n _ _ (by omega), upd_n _ _ (by omega), upd_s]
  · rw [upd_n _ _ (by omega), upd_n _ _ (by omega), upd_n _ _ (by omega), upd_n _ _ (by omega), upd_s]
  · rw [upd_n _ _ (by omega), upd_n _ _ (by omega), upd_n _ _ (by omega), upd_s]
  · rw [upd_n _ _ (by omega), upd_n _ _ (by omega), upd_s]
  · rw [upd_n _ _ (by omega), upd_s]
theorem kr1_lo (f : Nat → Int32) {n j : Nat} (v0 v1 v2 v3 : Int32) (h : j < 93 ∨ 94 ≤ j) (h2 : j < 94 + 4 * n ∨ 94 + 4 * n + 4 ≤ j) : kr1 f n v0 v1 v2 v3 j = f j := by
  unfold kr1
  rw [upd_n _ _ (by omega), upd_n _ _ (by omega), upd_n _ _ (by omega), upd_n _ _ (by omega), upd_n _ _ (by omega)]
theorem kr1_new (f : Nat → Int32) (n : Nat) (v0 v1 v2 v3 : Int32) : kr1 f n v0 v1 v2 v3 93 = nI (n + 1) ∧ kr1 f n v0 v1 v2 v3 (94 + 4 * n) = v0 ∧ kr1 f n v0 v1 v2 v3 (94 + 4 * n + 1) = v1 ∧ kr1 f n v0 v1 v2 v3 (94 + 4 * n + 2) = v2 ∧ kr1 f n v0 v1 v2 v3 (94 + 4 * n + 3) = v3 := by
  unfold kr1
  refine ⟨upd_s _ _ _, ?_, ?_, ?_, ?_⟩
  · rw [upd_n _ _ (by omega), upd_n _ _ (by omega), upd_n _ _ (by omega), upd_n _ _ (by omega), upd_s]
  · rw [upd_n _ _ (by omega), upd_n _ _ (by omega), upd_n _ _ (by omega), upd_s]
  · rw [upd_n _ _ (by omega), upd_n _ _ (by omega), upd_s]
  · rw [upd_n _ _ (by omega), upd_s]
theorem dgo_at (l r : Nat) (O : Nat → Nat) : ∀ (n c : Nat) (D : Nat → Nat), c + n = 5 → ∀ j, dgo l r O n c D j = if l * 7 + (2 + c) ≤ j ∧ j < l * 7 + 7 then O (r * 5 + (j - (l * 7 + 2))) else D j
  | 0, c, D, h, j => by
    unfold dgo
    rw [if_neg (by omega)]
  | n + 1, c, D, h, j => by
    unfold dgo
    rw [dgo_at l r O n (c + 1) _ (by omega) j]
    by_cases h1 : l * 7 + (2 + (c + 1)) ≤ j ∧ j < l * 7 + 7
    · rw [if_pos h1, if_pos (by omega)]
    · rw [if_neg h1]
      unfold upN
      by_cases h2 : j = l * 7 + (2 + c)
      · rw [if_pos h2, if_pos (by omega), h2]
        congr 1
        omega
      · rw [if_neg h2, if_neg (by omega)]
theorem dnew_old (D : Nat → Nat) {n so r : Nat} (O : Nat → Nat) (hn : n ≤ 10) {j : Nat} (hj : j < (adN 10 n - 1) * 7) : dnew D n so r O j = if n < 10 then D j else D (j + 7) := by
  unfold dnew
  rw [dgo_at _ _ _ 5 0 _ rfl, if_neg (by omega), upN_n _ _ (by omega), upN_n _ _ (by omega)]
  unfold adS
  by_cases h : n < 10
  · rw [if_pos h, if_pos h]
  · rw [if_neg h, if_neg h]
    have : adN 10 n = n := if_neg h
    rw [this] at hj
    exact if_pos (by omega)
theorem dnew_new (D : Nat → Nat) (n so r : Nat) (O : Nat → Nat) : dnew D n so r O ((adN 10 n - 1) * 7) = so ∧ dnew D n so r O ((adN 10 n - 1) * 7 + 1) = r ∧ ∀ c, c < 5 → dnew D n so r O ((adN 10 n - 1) * 7 + (2 + c)) = O (r * 5 + c) := by
  unfold dnew
  refine ⟨?_, ?_, fun c hc => ?_⟩
  · rw [dgo_at _ _ _ 5 0 _ rfl, if_neg (by omega), upN_n _ _ (by omega), upN_s]
  · rw [dgo_at _ _ _ 5 0 _ rfl, if_neg (by omega), upN_s]
  · rw [dgo_at _ _ _ 5 0 _ rfl, if_pos (by omega)]
    congr 1
    omega
theorem mnew_old (M : Nat → Nat) {n r k tk en : Nat} (hn : n ≤ 10) {j : Nat} (hj : j < (adN 10 n - 1) * 4) : mnew M n r k tk en j = if n < 10 then M j else M (j + 4) := by
  unfold mnew
  rw [upN_n _ _ (by omega), upN_n _ _ (by omega), upN_n _ _ (by omega), upN_n _ _ (by omega)]
  unfold adS
  by_cases h : n < 10
  · rw [if_pos h, if_pos h]
  · rw [if_neg h, if_neg h]
    have : adN 10 n = n := if_neg h
    rw [this] at hj
    exact if_pos (by omega)
theorem mnew_new (M : Nat → Nat) (n r k tk en : Nat) : mnew M n r k tk en ((adN 10 n - 1) * 4) = r ∧ mnew M n r k tk en ((adN 10 n - 1) * 4 + 1) = k ∧ mnew M n r k tk en ((adN 10 n - 1) * 4 + 2) = tk ∧ mnew M n r k tk en ((adN 10 n - 1) * 4 + 3) = en := by
  unfold mnew
  refine ⟨?_, ?_, ?_, upN_s _ _ _⟩
  · rw [upN_n _ _ (by omega), upN_n _ _ (by omega), upN_n _ _ (by omega), upN_s]
  · rw [upN_n _ _ (by omega), upN_n _ _ (by omega), upN_s]
  · rw [upN_n _ _ (by omega), upN_s]
theorem DeedR.cg {f f' : Nat → Int32} {D D' : Nat → Nat} {i j : Nat} (hf : ∀ c, c < 6 → f' (33 + 6 * i + c) = f (33 + 6 * j + c)) (hD : ∀ c, c < 7 → D' (i * 7 + c) = D (j * 7 + c)) (h : DeedR f D j) : DeedR f' D' i := by
  have f0 : f' (33 + 6 * i) = f (33 + 6 * j) := hf 0 (by decide)
  have f1 := hf 1 (by decide)
  have f2 := hf 2 (by decide)
  have f3 := hf 3 (by decide)
  have f4 := hf 4 (by decide)
  have f5 := hf 5 (by decide)
  have d0 : D' (i * 7) = D (j * 7) := hD 0 (by decide)
  have d1 := hD 1 (by decide)
  have d2 := hD 2 (by decide)
  have d3 := hD 3 (by decide)
  have d5 := hD 5 (by decide)
  have d6 := hD 6 (by decide)
  unfold DeedR at h ⊢
  rw [f0, f1, f2, f3, f4, f5, d0, d1, d2, d3, d5, d6]
  exact h
/-- a deed is noted on both sides -/
theorem nts_R {f : Nat → Int32} {n : NSt} (h : NowR f n) (hn : n.2.2.1.1 ≤ 10) (hP : n.2.1.1 ≤ 4) (hR : n.1.1 ≤ 8) {so r : Nat} {O : Nat → Nat} {v0 v1 v2 v3 v4 v5 : Int32}
    (hv : (so ≠ 2 → v0 = nI so ∧ v1 = nI r ∧ v2 = nI (O (r * 5)) ∧ v3 = nI (O (r * 5 + 1)) ∧ v4 = nI (O (r * 5 + 3)) ∧ v5 = nI (O (r * 5 + 4))) ∧ (so = 2 → (v0 = nI 2 ∨ v0 = nI 3) ∧ v1 = nI r ∧ v2 = nI (O (r * 5 + 3)) ∧ v3 = nI (O (r * 5 + 4)))) :
    NowR (nts f n.2.2.1.1 v0 v1 v2 v3 v4 v5) (st_deed n so r O) := by
  obtain ⟨a1, a2, a3, a4, a5, a6⟩ := h
  obtain ⟨p0, p1, p2⟩ := dnew_new n.2.2.1.2 n.2.2.1.1 so r O
  have key : ∃ (f1 : Nat → Int32) (l : Nat), nts f n.2.2.1.1 v0 v1 v2 v3 v4 v5 = nt1 f1 l v0 v1 v2 v3 v4 v5 ∧ l ≤ 9 ∧ adN 10 n.2.2.1.1 = l + 1 ∧ (∀ j, j < 32 ∨ 93 ≤ j → f1 j = f j) ∧ ∀ i, i < l → DeedR f1 (dnew n.2.2.1.2 n.2.2.1.1 so r O) i := by
    by_cases q : n.2.2.1.1 = 10
    · refine ⟨upd (shm f 33 6 54) 32 (nI 9), 9, if_pos q, by decide, by unfold adN; rw [if_neg (by omega), q], fun j hj => ?_, fun i hi => ?_⟩
      · rw [upd_n _ _ (by omega)]
        exact if_neg (by omega)
      · refine DeedR.cg (j := i + 1) (fun c hc => ?_) (fun c hc => ?_) (a4 (i + 1) (by omega))
        · rw [upd_n _ _ (by omega)]
          unfold shm
          rw [if_pos (by omega)]
          congr 1
          omega
        · rw [dnew_old _ _ (by omega) (by unfold adN; rw [if_neg (by omega)]; omega), if_neg (by omega), show i * 7 + c + 7 = (i + 1) * 7 + c by omega]
    · have ha : adN 10 n.2.2.1.1 = n.2.2.1.1 + 1 := if_pos (by omega)
      refine ⟨f, n.2.2.1.1, if_neg q, by omega, ha, fun j hj => rfl, fun i hi => ?_⟩
      refine DeedR.cg (j := i) (fun c hc => rfl) (fun c hc => ?_) (a4 i hi)
      rw [dnew_old _ _ hn (by omega), if_pos (by omega)]
  obtain ⟨f1, l, e, hl, ha, hlo, hold⟩ := key
  rw [ha, Nat.add_sub_cancel] at p0 p1 p2
  have p22 := p2 0 (by decide)
  have p23 := p2 1 (by decide)
  have p25 := p2 3 (by decide)
  have p26 := p2 4 (by decide)
  obtain ⟨n0, n1, n2, n3, n4, n5, n6⟩ := nt1_new f1 l v0 v1 v2 v3 v4 v5
  have lo : ∀ j, j < 32 ∨ 93 ≤ j → nt1 f1 l v0 v1 v2 v3 v4 v5 j = f j := fun j hj => by
    rw [nt1_lo _ _ _ _ _ _ _ (by omega) (by omega), hlo j hj]
  rw [e]
  refine ⟨fun r' hr' => ?_, fun k hk => ?_, ?_, fun i hi => ?_, ?_, fun t ht => ?_⟩
  · have hr4 : r' < n.2.1.1 := hr'
    rw [lo _ (by omega), lo _ (by omega), lo _ (by omega), lo _ (by omega)]
    exact a1 r' hr'
  · have hk8 : k < n.1.1 := hk
    rw [lo _ (by omega), lo _ (by omega)]
    exact a2 k hk
  · show _ = nI (adN 10 n.2.2.1.1)
    rw [ha]
    exact n0
  · have hi2 : i < adN 10 n.2.2.1.1 := hi
    show DeedR _ (dnew n.2.2.1.2 n.2.2.1.1 so r O) i
    by_cases q : i < l
    · exact DeedR.cg (j := i) (fun c hc => nt1_lo _ _ _ _ _ _ _ (by omega) (by omega)) (fun c hc => rfl) (hold i q)
    · have : i = l := by omega
      subst this
      unfold DeedR
      rw [n1, n2, n3, n4, n5, n6, p0, p1]
      have p22' : dnew n.2.2.1.2 n.2.2.1.1 so r O (i * 7 + 2) = O (r * 5) := p22
      have p23' : dnew n.2.2.1.2 n.2.2.1.1 so r O (i * 7 + 3) = O (r * 5 + 1) := p23
      have p25' : dnew n.2.2.1.2 n.2.2.1.1 so r O (i * 7 + 5) = O (r * 5 + 3) := p25
      have p26' : dnew n.2.2.1.2 n.2.2.1.1 so r O (i * 7 + 6) = O (r * 5 + 4) := p26
      rw [p22', p23', p25', p26']
      exact hv
  · rw [lo _ (by omega)]
    exact a5
  · rw [lo _ (by omega)]
    exact a6 t ht
/-- a ride is noted on both sides -/
theorem krs_R {f : Nat → Int32} {n : NSt} (h : NowR f n) (hn : n.2.2.2.1 ≤ 10) (hD : n.2.2.1.1 ≤ 10) (hP : n.2.1.1 ≤ 4) (hR : n.1.1 ≤ 8) {r k tk en : Nat} : NowR (krs f n.2.2.2.1 (nI r) (nI k) (nI tk) (nI en)) (n.1, n.2.1, n.2.2.1, (adN 10 n.2.2.2.1, mnew n.2.2.2.2 n.2.2.2.1 r k tk en)) := by
  obtain ⟨a1, a2, a3, a4, a5, a6⟩ := h
  obtain ⟨p0, p1, p2, p3⟩ := mnew_new n.2.2.2.2 n.2.2.2.1 r k tk en
  have key : ∃ (f1 : Nat → Int32) (l : Nat), krs f n.2.2.2.1 (nI r) (nI k) (nI tk) (nI en) = kr1 f1 l (nI r) (nI k) (nI tk) (nI en) ∧ l ≤ 9 ∧ adN 10 n.2.2.2.1 = l + 1 ∧ (∀ j, j < 93 → f1 j = f j) ∧ ∀ t, t < l * 4 → f1 (94 + t) = nI (mnew n.2.2.2.2 n.2.2.2.1 r k tk en t) := by
    by_cases q : n.2.2.2.1 = 10
    · refine ⟨upd (shm f 94 4 36) 93 (nI 9), 9, if_pos q, by decide, by unfold adN; rw [if_neg (by omega), q], fun j hj => ?_, fun t ht => ?_⟩
      · rw [upd_n _ _ (by omega)]
        exact if_neg (by omega)
      · rw [upd_n _ _ (by omega), mnew_old _ (by omega) (by unfold adN; rw [if_neg (by omega)]; omega), if_neg (by omega), ← a6 (t + 4) (by omega)]
        unfold shm
        rw [if_pos (by omega)]
        congr 1
    · have ha : adN 10 n.2.2.2.1 = n.2.2.2.1 + 1 := if_pos (by omega)
      refine ⟨f, n.2.2.2.1, if_neg q, by omega, ha, fun j hj => rfl, fun t ht => ?_⟩
      rw [mnew_old _ hn (by omega), if_pos (by omega)]
      exact a6 t ht
  obtain ⟨f1, l, e, hl, ha, hlo, hold⟩ := key
  rw [ha, Nat.add_sub_cancel] at p0 p1 p2 p3
  obtain ⟨n0, n1, n2, n3, n4⟩ := kr1_new f1 l (nI r) (nI k) (nI tk) (nI en)
  have lo : ∀ j, j < 93 → kr1 f1 l (nI r) (nI k) (nI tk) (nI en) j = f j := fun j hj => by
    rw [kr1_lo _ _ _ _ _ (by omega) (by omega), hlo j hj]
  rw [e]
  refine ⟨fun r' hr' => ?_, fun k hk => ?_, ?_, fun i hi => ?_, ?_, fun t ht => ?_⟩
  · have hr4 : r' < n.2.1.1 := hr'
    rw [lo _ (by omega), lo _ (by omega), lo _ (by omega), lo _ (by omega)]
    exact a1 r' hr'
  · have hk8 : k < n.1.1 := hk
    rw [lo _ (by omega), lo _ (by omega)]
    exact a2 k hk
  · rw [lo _ (by omega)]
    exact a3
  · have hi2 : i < n.2.2.1.1 := hi
    exact DeedR.cg (j := i) (fun c hc => lo _ (by omega)) (fun c hc => rfl) (a4 i hi)
  · show _ = nI (adN 10 n.2.2.2.1)
    rw [ha]
    exact n0
  · have ht2 : t < adN 10 n.2.2.2.1 * 4 := ht
    show _ = nI (mnew n.2.2.2.2 n.2.2.2.1 r k tk en t)
    by_cases q : t < l * 4
    · rw [kr1_lo _ _ _ _ _ (by omega) (by omega)]
      exact hold t q
    · rcases (show t = l * 4 ∨ t = l * 4 + 1 ∨ t = l * 4 + 2 ∨ t = l * 4 + 3 by omega) with q | q | q | q <;> subst q
      · rw [p0, show 94 + l * 4 = 94 + 4 * l by omega]; exact n1
      · rw [p1, show 94 + (l * 4 + 1) = 94 + 4 * l + 1 by omega]; exact n2
      · rw [p2, show 94 + (l * 4 + 2) = 94 + 4 * l + 2 by omega]; exact n3
      · rw [p3, show 94 + (l * 4 + 3) = 94 + 4 * l + 3 by omega]; exact n4
