/-! soonest and tune by the reference -/
section MTUNE
variable {X : am_X} {d : Nat} {Q : am_Q} {u w : am_W} {tr : Int64} {a : Nat → Int32} {A : Nat → Nat → Int32} {s : CSt}
theorem bt0_up (g : Nat → Nat) (f9 : Nat → Int32) (nR : Nat) : ∀ k, k < nR → cpy (nIf (bt0 g)) f9 nR k = nI (bt0 g k) := fun k hk => if_pos hk
theorem m_soonest (H : 69 ≤ u.length) (R : Rel tr a A s) (V : Valid s) (p t b y : Int32) (hQ : ∀ a' A', Rel tr a' A' s → Q (some (.int (sp_soonest s p t b y))) (mw u tr a' A')) : Cl X (d + 3) 123 [.ref 57, .int p, .int t, .int b, .int y] (mw u tr a A) Q := by
  have h8 := Rel.nR V
  have hS := Rel.nS V
  rw [e123]
  unfold sp_soonest at hQ
  simp only [s123_0, s123_1, s123_2, s123_5, s123_6, s123_7, s123_10, s123_13, s123_14, s123_17, s123_20, s123_21, s123_22, s123_25, s123_28, s123_30, s123_31, s123_32, s123_35, s123_38, s123_39, OpV_some, OpN_some, OpA_some, OpR_some, Option.toList_some, Option.toList_none, List.cons_append, List.nil_append, true_and, and_true, nI11, or_true, true_or, or_false, false_or, mI0 H, mP0 H, mI3 H, mP3 H, mI4 H, mP4 H, mI5 H, mP5 H, mI6 H, mP6 H, mI7 H, mP7 H, mI8 H, mP8 H, mI9 H, mP9 H, mI10 H, mP10 H, mI11 H, mP11 H, mI12 H, mP12 H, mI13 H, mP13 H, mI14 H, mP14 H, mI23 H, mP23 H, mI24 H, mP24 H, mI25 H, mP25 H, mI26 H, mP26 H, mI27 H, mP27 H, mI30 H, mP30 H, mI31 H, mP31 H, mI1 H, mP1 H, mR2 H, mR15 H, mR16 H, mR17 H, mR18 H, mR19 H, mR20 H, mR21 H, mR22 H, mR28 H, mR29 H, mA0 H, mS0 H, mA1 H, mS1 H, mA2 H, mS2 H, mA3 H, mS3 H, mA4 H, mS4 H, mA5 H, mS5 H, mA6 H, mS6 H, mA7 H, mS7 H, mA8 H, mS8 H, mA9 H, mS9 H, mA10 H, mS10 H, mw_cl H, fu_s, fu_n, ua_s, ua_n, Nat.reduceBEq, lt57, lt58, lt59, lt60, lt61, lt62, lt63, lt64, lt65, lt66, lt67, lt68, m_isSill H, m_isMinute, m_in, nI_ite, R.si, rng_sub p (show s.2.1.1 < 2 ^ 30 by omega), rng_sub b (show s.2.1.1 < 2 ^ 30 by omega), rng_le t 999 (by decide), rng_le y 1 (by decide)]
  by_cases hA : ((0 ≤ p ∧ p < nI s.2.1.1) ∧ (0 ≤ t ∧ t < nI 1000)) ∧ ((0 ≤ b ∧ b < nI s.2.1.1) ∧ (0 ≤ y ∧ y < nI 2))
  · obtain ⟨⟨hp, ht⟩, hb, hy⟩ := hA
    obtain ⟨p, hp1, rfl⟩ : ∃ j, j < s.2.1.1 ∧ p = nI j := (ix p (by omega)).resolve_right (not_not_intro hp)
    obtain ⟨t, ht1, rfl⟩ : ∃ j, j < 1000 ∧ t = nI j := (ix t (by decide)).resolve_right (not_not_intro ht)
    obtain ⟨b, hb1, rfl⟩ : ∃ j, j < s.2.1.1 ∧ b = nI j := (ix b (by omega)).resolve_right (not_not_intro hb)
    obtain ⟨y, hy1, rfl⟩ : ∃ j, j < 2 ∧ y = nI j := (ix y (by decide)).resolve_right (not_not_intro hy)
    simp only [hp, ht, hb, hy, and_self, if_true, cl_of (show p < 2 ^ 31 by omega), cl_of (show t < 2 ^ 31 by omega), cl_of (show b < 2 ^ 31 by omega), cl_of (show y < 2 ^ 31 by omega)] at hQ
    simp only [hp, ht, hb, hy, and_self, not_true, if_false, s123_40, s123_41, s123_44, s123_45, s123_46, s123_47, s123_48, OpV_some, OpN_some, OpA_some, OpR_some, Option.toList_some, Option.toList_none, List.cons_append, List.nil_append, true_and, and_true, nI11, or_true, true_or, or_false, false_or, mI0 H, mP0 H, mI3 H, mP3 H, mI4 H, mP4 H, mI5 H, mP5 H, mI6 H, mP6 H, mI7 H, mP7 H, mI8 H, mP8 H, mI9 H, mP9 H, mI10 H, mP10 H, mI11 H, mP11 H, mI12 H, mP12 H, mI13 H, mP13 H, mI14 H, mP14 H, mI23 H, mP23 H, mI24 H, mP24 H, mI25 H, mP25 H, mI26 H, mP26 H, mI27 H, mP27 H, mI30 H, mP30 H, mI31 H, mP31 H, mI1 H, mP1 H, mR2 H, mR15 H, mR16 H, mR17 H, mR18 H, mR19 H, mR20 H, mR21 H, mR22 H, mR28 H, mR29 H, mA0 H, mS0 H, mA1 H, mS1 H, mA2 H, mS2 H, mA3 H, mS3 H, mA4 H, mS4 H, mA5 H, mS5 H, mA6 H, mS6 H, mA7 H, mS7 H, mA8 H, mS8 H, mA9 H, mS9 H, mA10 H, mS10 H, mw_cl H, fu_s, fu_n, ua_s, ua_n, Nat.reduceBEq, lt57, lt58, lt59, lt60, lt61, lt62, lt63, lt64, lt65, lt66, lt67, lt68, m_beats H (R.th (nI 0)).ro h8 (R.bts V)]
    refine m_sb (nS := s.2.1.1) (nR := s.2.2.1.1.1) (h := s.2.1.2) (g := s.2.2.1.1.2) H (R.th (nI 0)).si (R.th (nI 0)).ro (by omega) hp1 hb1 ⟨R.stM V, fun k hk => by rw [ua_s]; exact if_pos hk⟩ fun f' hf' => ?_
    have RR : Rel tr (fu a 0 (nI 0)) (ua (ua A 9 (cpy (nIf (bt0 s.2.2.1.1.2)) (A 9) s.2.2.1.1.1)) 10 f') s := R.cg rfl rfl rfl rfl rfl fun i hi => by
      unfold ua
      rw [if_neg (by omega), if_neg (by omega)]
    have hQ := hQ _ _ RR
    generalize swy s.2.1.2 s.2.2.1.1.2 s.2.2.1.1.1 p t b = z at hQ hf'
    by_cases hm : z.1 ≤ 999
    · have e1 := hf' hm
      simp only [hm, if_true] at hQ
      simp only [hm, if_true, s123_51, s123_53, s123_55, s123_57, s123_60, s123_62, s123_65, s123_67, s123_70, s123_71, s123_74, s123_76, s123_78, s123_79, s123_80, s123_81, s123_82, OpV_some, OpN_some, OpA_some, OpR_some, Option.toList_some, Option.toList_none, List.cons_append, List.nil_append, true_and, and_true, nI11, or_true, true_or, or_false, false_or, mI0 H, mP0 H, mI3 H, mP3 H, mI4 H, mP4 H, mI5 H, mP5 H, mI6 H, mP6 H, mI7 H, mP7 H, mI8 H, mP8 H, mI9 H, mP9 H, mI10 H, mP10 H, mI11 H, mP11 H, mI12 H, mP12 H, mI13 H, mP13 H, mI14 H, mP14 H, mI23 H, mP23 H, mI24 H, mP24 H, mI25 H, mP25 H, mI26 H, mP26 H, mI27 H, mP27 H, mI30 H, mP30 H, mI31 H, mP31 H, mI1 H, mP1 H, mR2 H, mR15 H, mR16 H, mR17 H, mR18 H, mR19 H, mR20 H, mR21 H, mR22 H, mR28 H, mR29 H, mA0 H, mS0 H, mA1 H, mS1 H, mA2 H, mS2 H, mA3 H, mS3 H, mA4 H, mS4 H, mA5 H, mS5 H, mA6 H, mS6 H, mA7 H, mS7 H, mA8 H, mS8 H, mA9 H, mS9 H, mA10 H, mS10 H, mw_cl H, fu_s, fu_n, ua_s, ua_n, Nat.reduceBEq, lt57, lt58, lt59, lt60, lt61, lt62, lt63, lt64, lt65, lt66, lt67, lt68, nI_ne9 (show z.1 < 2 ^ 31 by omega), if_false, nI_eq0 (show y < 2 ^ 31 by omega), pk_mul, nI_add, in_nI (show 8 * z.1 + b < 8000 by omega) (show 8000 < 2 ^ 31 by omega), cl_nI (show 8 * z.1 + b < 2 ^ 31 by omega), e1]
      by_cases y0 : y = 0
      · simp only [y0, if_true] at hQ ⊢
        exact hQ
      · simp only [y0, if_false] at hQ ⊢
        exact hQ
    · simp only [hm, if_false] at hQ
      simp only [hm, if_false, s123_51, s123_53, s123_55, s123_57, s123_60, s123_62, s123_65, s123_67, s123_70, s123_71, s123_74, s123_76, s123_78, s123_79, s123_80, s123_81, s123_82, OpV_some, OpN_some, OpA_some, OpR_some, Option.toList_some, Option.toList_none, List.cons_append, List.nil_append, true_and, and_true, nI11, or_true, true_or, or_false, false_or, if_true]
      exact hQ
  · simp only [hA, if_false] at hQ
    have hQ := hQ _ _ (R.th (nI 0))
    by_cases h1 : 0 ≤ p ∧ p < nI s.2.1.1
    · by_cases h2 : 0 ≤ t ∧ t < nI 1000
      · by_cases h3 : 0 ≤ b ∧ b < nI s.2.1.1
        · have h4 : ¬ (0 ≤ y ∧ y < nI 2) := fun q => hA ⟨⟨h1, h2⟩, h3, q⟩
          simp only [h1, h2, h3, h4, and_self, not_true, not_false_eq_true, if_false, if_true]
          exact hQ
        · simp only [h1, h2, h3, and_self, not_true, not_false_eq_true, if_false, if_true, s123_38, s123_39, OpV_some, OpN_some, OpA_some, OpR_some, Option.toList_some, Option.toList_none, List.cons_append, List.nil_append, true_and, and_true, nI11, or_true, true_or, or_false, false_or]
          exact hQ
      · simp only [h1, h2, and_self, not_true, not_false_eq_true, if_false, if_true, s123_38, s123_39, OpV_some, OpN_some, OpA_some, OpR_some, Option.toList_some, Option.toList_none, List.cons_append, List.nil_append, true_and, and_true, nI11, or_true, true_or, or_false, false_or]
        exact hQ
    · simp only [h1, not_false_eq_true, if_true, s123_38, s123_39, OpV_some, OpN_some, OpA_some, OpR_some, Option.toList_some, Option.toList_none, List.cons_append, List.nil_append, true_and, and_true, nI11, or_true, true_or, or_false, false_or]
      exact hQ
theorem tng_rope {g : Nat → Nat} {nR nS k be : Nat} (hg : RopeOK g nR nS) (h1 : 1 ≤ be) (h9 : be ≤ 9) : RopeOK (tng g k be) nR nS := ⟨hg.1, fun q hq => by
  obtain ⟨g1, g2, g3, g4, g5, g6, g7⟩ := hg.2 q hq
  unfold tng
  rw [upN_n _ _ (show q * 5 ≠ k * 5 + 2 by omega), upN_n _ _ (show q * 5 ≠ k * 5 + 4 by omega), upN_n _ _ (show q * 5 + 1 ≠ k * 5 + 2 by omega), upN_n _ _ (show q * 5 + 1 ≠ k * 5 + 4 by omega), upN_n _ _ (show q * 5 + 3 ≠ k * 5 + 2 by omega), upN_n _ _ (show q * 5 + 3 ≠ k * 5 + 4 by omega), upN_n _ _ (show q * 5 + 4 ≠ k * 5 + 2 by omega)]
  refine ⟨g1, g2, g3, ?_, ?_, g6, ?_⟩
  · by_cases e : q = k
    · rw [e, upN_s]; exact h1
    · rw [upN_n _ _ (by omega), upN_n _ _ (by omega)]; exact g4
  · by_cases e : q = k
    · rw [e, upN_s]; omega
    · rw [upN_n _ _ (by omega), upN_n _ _ (by omega)]; exact g5
  · by_cases e : q = k
    · rw [e, upN_s]; omega
    · rw [upN_n _ _ (by omega)]; exact g7⟩
theorem m_tune_loop (H : 69 ≤ u.length) (V : Valid s) {k p t b : Nat} (hk : k < s.2.2.1.1.1) (hp : p < s.2.1.1) (ht : t ≤ 999) (hb : b < s.2.1.1) {y : Nat} (hy : y < 2) : ∀ (n be bb bm : Nat) (A : Nat → Nat → Int32) (l9 l10 : Option Value), be + n = 10 → 1 ≤ be → (bb = 0 → bm = 1000) → bb ≤ 9 → bm ≤ 1000 → Rel tr a A s → (∀ A', Rel tr a A' s → Q (some (.int (if (tnl s.2.1.2 s.2.2.1.1.2 s.2.2.1.1.1 k p t b n be bb bm).1 = 0 then -9 else nI (if y = 0 then (tnl s.2.1.2 s.2.2.1.1.2 s.2.2.1.1.1 k p t b n be bb bm).1 else (tnl s.2.1.2 s.2.2.1.1.2 s.2.2.1.1.1 k p t b n be bb bm).2)))) (mw u tr a A')) →
    Wp X (Cl X (d + 3)) 131 Q (60, [some (.ref 57), some (.int (nI k)), some (.int (nI p)), some (.int (nI t)), some (.int (nI b)), some (.int (nI y)), some (.int (bbI bb)), some (.int (if bb = 0 then -9 else nI bm)), some (.int (nI be)), l9, l10], [], mw u tr a A, 0, 0)
  | 0, be, bb, bm, A, l9, l10, e, h1, hbm, hbb, hbm2, R, hQ => by
    have hQ := hQ A R
    unfold tnl at hQ
    rw [s131_60]
    unfold bbI
    simp only [s131_62, s131_64, s131_151, s131_153, s131_156, s131_158, s131_161, s131_163, OpV_some, OpN_some, OpA_some, OpR_some, Option.toList_some, Option.toList_none, List.cons_append, List.nil_append, true_and, and_true, nI11, or_true, true_or, or_false, false_or, nI_ltN (show be < 2 ^ 31 by omega) (show 10 < 2 ^ 31 by omega), show ¬ be < 10 by omega, if_false, nI_eq0 (show y < 2 ^ 31 by omega)]
    by_cases y0 : y = 0
    · by_cases b0 : bb = 0
      · simp only [y0, b0, if_true] at hQ ⊢; exact hQ
      · simp only [y0, b0, if_true, if_false] at hQ ⊢; exact hQ
    · by_cases b0 : bb = 0
      · simp only [y0, b0, if_true, if_false] at hQ ⊢; exact hQ
      · simp only [y0, b0, if_false] at hQ ⊢; exact hQ
  | n + 1, be, bb, bm, A, l9, l10, e, h1, hbm, hbb, hbm2, R, hQ => by
    have h8 := Rel.nR V
    have hS := Rel.nS V
    have loop := fun bb bm A l9 l10 => m_tune_loop H V hk hp ht hb (y := y) hy n (be + 1) bb bm A l9 l10 (by omega) (by omega)
    unfold tnl at hQ
    rw [s131_60]
    simp only [s131_62, s131_64, s131_67, s131_68, s131_71, s131_72, s131_75, s131_76, s131_78, s131_79, s131_80, s131_81, s131_82, s131_84, OpV_some, OpN_some, OpA_some, OpR_some, Option.toList_some, Option.toList_none, List.cons_append, List.nil_append, true_and, and_true, nI11, or_true, true_or, or_false, false_or, mI0 H, mP0 H, mI3 H, mP3 H, mI4 H, mP4 H, mI5 H, mP5 H, mI6 H, mP6 H, mI7 H, mP7 H, mI8 H, mP8 H, mI9 H, mP9 H, mI10 H, mP10 H, mI11 H, mP11 H, mI12 H, mP12 H, mI13 H, mP13 H, mI14 H, mP14 H, mI23 H, mP23 H, mI24 H, mP24 H, mI25 H, mP25 H, mI26 H, mP26 H, mI27 H, mP27 H, mI30 H, mP30 H, mI31 H, mP31 H, mI1 H, mP1 H, mR2 H, mR15 H, mR16 H, mR17 H, mR18 H, mR19 H, mR20 H, mR21 H, mR22 H, mR28 H, mR29 H, mA0 H, mS0 H, mA1 H, mS1 H, mA2 H, mS2 H, mA3 H, mS3 H, mA4 H, mS4 H, mA5 H, mS5 H, mA6 H, mS6 H, mA7 H, mS7 H, mA8 H, mS8 H, mA9 H, mS9 H, mA10 H, mS10 H, mw_cl H, fu_s, fu_n, ua_s, ua_n, Nat.reduceBEq, lt57, lt58, lt59, lt60, lt61, lt62, lt63, lt64, lt65, lt66, lt67, lt68, ua_ua, nI_ltN (show be < 2 ^ 31 by omega) (show 10 < 2 ^ 31 by omega), show be < 10 by omega, if_true, m_beats H R.ro h8 (R.bts V), in_nI (show k < 8 by omega) (show 8 < 2 ^ 31 by omega), cl_nI (show k < 2 ^ 31 by omega)]
    have RR : ∀ f9, Rel tr a (ua A 9 f9) s := fun f9 => R.cg rfl rfl rfl rfl rfl fun i hi => if_neg (by omega)
    refine m_sb (nS := s.2.1.1) (nR := s.2.2.1.1.1) (h := s.2.1.2) (g := tng s.2.2.1.1.2 k be) H R.si R.ro ht hp hb ⟨⟨R.dr, fun q hq => ?_, V.2.2.1, tng_rope V.2.2.2.1.1 h1 (by omega)⟩, fun q hq => ?_⟩ fun f' hf' => ?_
    · obtain ⟨c0, c1, c3⟩ := (R.stM V).2.1 q hq
      unfold tng
      rw [upN_n _ _ (show q * 5 ≠ k * 5 + 2 by omega), upN_n _ _ (show q * 5 ≠ k * 5 + 4 by omega), upN_n _ _ (show q * 5 + 1 ≠ k * 5 + 2 by omega), upN_n _ _ (show q * 5 + 1 ≠ k * 5 + 4 by omega), upN_n _ _ (show q * 5 + 3 ≠ k * 5 + 2 by omega), upN_n _ _ (show q * 5 + 3 ≠ k * 5 + 4 by omega)]
      exact ⟨c0, c1, c3⟩
    · rw [ua_s]
      unfold bt0 tng
      by_cases e2 : q = k
      · rw [e2, upd_s, upN_n _ _ (by omega), upN_s, upN_s, if_neg (by decide)]
      · rw [upd_n _ _ e2, upN_n _ _ (by omega), upN_n _ _ (by omega), upN_n _ _ (by omega), upN_n _ _ (by omega)]
        exact if_pos hq
    · have RR2 : Rel tr a (ua (ua A 9 (upd (cpy (nIf (bt0 s.2.2.1.1.2)) (A 9) s.2.2.1.1.1) k (nI be))) 10 f') s := R.cg rfl rfl rfl rfl rfl fun i hi => by
        unfold ua
        rw [if_neg (by omega), if_neg (by omega)]
      generalize swy s.2.1.2 (tng s.2.2.1.1.2 k be) s.2.2.1.1.1 p t b = z at hQ hf'
      by_cases hm : z.1 ≤ 999
      · simp only [hm, true_and] at hQ
        simp only [hm, if_true, s131_87, s131_89, s131_91, s131_93, s131_96, s131_98, s131_100, s131_103, s131_105, s131_107, s131_110, s131_111, s131_114, s131_115, s131_117, s131_119, s131_122, s131_124, s131_127, s131_129, s131_131, s131_133, s131_136, s131_138, s131_141, s131_143, s131_145, s131_148, OpV_some, OpN_some, OpA_some, OpR_some, Option.toList_some, Option.toList_none, List.cons_append, List.nil_append, true_and, and_true, nI11, or_true, true_or, or_false, false_or, nI_ne9 (show z.1 < 2 ^ 31 by omega), if_false]
        by_cases b0 : bb = 0
        · have hb0 := hbm b0
          simp only [show z.1 < bm by omega, if_true] at hQ
          simp only [b0, if_true, s131_115, s131_117, s131_119, s131_122, s131_124, s131_127, s131_129, s131_131, s131_133, s131_136, s131_138, s131_141, s131_143, s131_145, s131_148, OpV_some, OpN_some, OpA_some, OpR_some, Option.toList_some, Option.toList_none, List.cons_append, List.nil_append, true_and, and_true, nI11, or_true, true_or, or_false, false_or, nI1z, if_false, nI_add]
          have := loop be z.1 _ (some (.int (nI z.1))) (some (.int (nI 1))) (fun q => absurd q (by omega)) (by omega) (by omega) RR2 hQ
          have eb : bbI be = nI be := if_neg (by omega)
          rw [eb, if_neg (show ¬ be = 0 by omega)] at this
          exact this
        · simp only [b0, if_false, nI_ne9 (show bm < 2 ^ 31 by omega), nI_ltN (show z.1 < 2 ^ 31 by omega) (show bm < 2 ^ 31 by omega)]
          by_cases c : z.1 < bm
          · simp only [c, if_true] at hQ
            simp only [c, if_true, s131_115, s131_117, s131_119, s131_122, s131_124, s131_127, s131_129, s131_131, s131_133, s131_136, s131_138, s131_141, s131_143, s131_145, s131_148, OpV_some, OpN_some, OpA_some, OpR_some, Option.toList_some, Option.toList_none, List.cons_append, List.nil_append, true_and, and_true, nI11, or_true, true_or, or_false, false_or, nI1z, if_false, nI_add]
            have := loop be z.1 _ (some (.int (nI z.1))) (some (.int (nI 1))) (fun q => absurd q (by omega)) (by omega) (by omega) RR2 hQ
            have eb : bbI be = nI be := if_neg (by omega)
            rw [eb, if_neg (show ¬ be = 0 by omega)] at this
            exact this
          · simp only [c, if_false] at hQ
            simp only [c, if_false, s131_115, s131_117, s131_119, s131_122, s131_124, s131_127, s131_129, s131_131, s131_133, s131_136, s131_138, s131_141, s131_143, s131_145, s131_148, OpV_some, OpN_some, OpA_some, OpR_some, Option.toList_some, Option.toList_none, List.cons_append, List.nil_append, true_and, and_true, nI11, or_true, true_or, or_false, false_or, nI0z, if_true, nI_add]
            have := loop bb bm _ (some (.int (nI z.1))) (some (.int (nI 0))) hbm hbb hbm2 RR2 hQ
            rw [if_neg b0] at this
            exact this
      · simp only [hm, false_and, if_false] at hQ
        simp only [hm, if_false, s131_87, s131_89, s131_91, s131_93, s131_96, s131_98, s131_100, s131_103, s131_105, s131_107, s131_110, s131_111, s131_114, s131_115, s131_117, s131_119, s131_122, s131_124, s131_127, s131_129, s131_131, s131_133, s131_136, s131_138, s131_141, s131_143, s131_145, s131_148, OpV_some, OpN_some, OpA_some, OpR_some, Option.toList_some, Option.toList_none, List.cons_append, List.nil_append, true_and, and_true, nI11, or_true, true_or, or_false, false_or, if_true, nI0z, nI_add]
        exact loop bb bm _ _ _ hbm hbb hbm2 RR2 hQ
theorem m_tune (H : 69 ≤ u.length) (R : Rel tr a A s) (V : Valid s) (k p t b y : Int32) (hQ : ∀ a' A', Rel tr a' A' s → Q (some (.int (sp_tune s k p t b y))) (mw u tr a' A')) : Cl X (d + 4) 131 [.ref 57, .int k, .int p, .int t, .int b, .int y] (mw u tr a A) Q := by
  have h8 := Rel.nR V
  have hS := Rel.nS V
  rw [e131]
  unfold sp_tune at hQ
  simp only [s131_0, s131_1, s131_2, s131_5, s131_6, s131_7, s131_10, s131_13, s131_14, s131_15, s131_18, s131_21, s131_22, s131_25, s131_28, s131_29, s131_31, s131_34, s131_37, s131_39, s131_40, s131_41, s131_44, s131_47, s131_48, OpV_some, OpN_some, OpA_some, OpR_some, Option.toList_some, Option.toList_none, List.cons_append, List.nil_append, true_and, and_true, nI11, or_true, true_or, or_false, false_or, mI0 H, mP0 H, mI3 H, mP3 H, mI4 H, mP4 H, mI5 H, mP5 H, mI6 H, mP6 H, mI7 H, mP7 H, mI8 H, mP8 H, mI9 H, mP9 H, mI10 H, mP10 H, mI11 H, mP11 H, mI12 H, mP12 H, mI13 H, mP13 H, mI14 H, mP14 H, mI23 H, mP23 H, mI24 H, mP24 H, mI25 H, mP25 H, mI26 H, mP26 H, mI27 H, mP27 H, mI30 H, mP30 H, mI31 H, mP31 H, mI1 H, mP1 H, mR2 H, mR15 H, mR16 H, mR17 H, mR18 H, mR19 H, mR20 H, mR21 H, mR22 H, mR28 H, mR29 H, mA0 H, mS0 H, mA1 H, mS1 H, mA2 H, mS2 H, mA3 H, mS3 H, mA4 H, mS4 H, mA5 H, mS5 H, mA6 H, mS6 H, mA7 H, mS7 H, mA8 H, mS8 H, mA9 H, mS9 H, mA10 H, mS10 H, mw_cl H, fu_s, fu_n, ua_s, ua_n, Nat.reduceBEq, lt57, lt58, lt59, lt60, lt61, lt62, lt63, lt64, lt65, lt66, lt67, lt68, m_isSill H, m_isRope H, m_isMinute, m_in, nI_ite, R.si, R.ro, rng_sub k (show s.2.2.1.1.1 < 2 ^ 30 by omega), rng_sub p (show s.2.1.1 < 2 ^ 30 by omega), rng_sub b (show s.2.1.1 < 2 ^ 30 by omega), rng_le t 999 (by decide), rng_le y 1 (by decide)]
  by_cases hA : (((0 ≤ k ∧ k < nI s.2.2.1.1.1) ∧ (0 ≤ p ∧ p < nI s.2.1.1)) ∧ (0 ≤ t ∧ t < nI 1000)) ∧ ((0 ≤ b ∧ b < nI s.2.1.1) ∧ (0 ≤ y ∧ y < nI 2))
  · obtain ⟨⟨⟨hk, hp⟩, ht⟩, hb, hy⟩ := hA
    obtain ⟨k, hk1, rfl⟩ : ∃ j, j < s.2.2.1.1.1 ∧ k = nI j := (ix k (by omega)).resolve_right (not_not_intro hk)
    obtain ⟨p, hp1, rfl⟩ : ∃ j, j < s.2.1.1 ∧ p = nI j := (ix p (by omega)).resolve_right (not_not_intro hp)
    obtain ⟨t, ht1, rfl⟩ : ∃ j, j < 1000 ∧ t = nI j := (ix t (by decide)).resolve_right (not_not_intro ht)
    obtain ⟨b, hb1, rfl⟩ : ∃ j, j < s.2.1.1 ∧ b = nI j := (ix b (by omega)).resolve_right (not_not_intro hb)
    obtain ⟨y, hy1, rfl⟩ : ∃ j, j < 2 ∧ y = nI j := (ix y (by decide)).resolve_right (not_not_intro hy)
    simp only [hk, hp, ht, hb, hy, and_self, if_true, cl_of (show k < 2 ^ 31 by omega), cl_of (show p < 2 ^ 31 by omega), cl_of (show t < 2 ^ 31 by omega), cl_of (show b < 2 ^ 31 by omega), cl_of (show y < 2 ^ 31 by omega)] at hQ
    simp only [hk, hp, ht, hb, hy, and_self, not_true, if_false, s131_49, s131_51, s131_53, s131_55, s131_57, s131_58, OpV_some, OpN_some, OpA_some, OpR_some, Option.toList_some, Option.toList_none, List.cons_append, List.nil_append, true_and, and_true, nI11, or_true, true_or, or_false, false_or]
    exact m_tune_loop H V hk1 hp1 (by omega) hb1 hy1 9 1 0 1000 A none none (by omega) (by omega) (fun _ => rfl) (by omega) (by omega) (R.th (nI 0)) fun A' R' => hQ _ _ R'
  · simp only [hA, if_false] at hQ
    have hQ := hQ _ _ (R.th (nI 0))
    by_cases h0 : 0 ≤ k ∧ k < nI s.2.2.1.1.1
    · by_cases h1 : 0 ≤ p ∧ p < nI s.2.1.1
      · by_cases h2 : 0 ≤ t ∧ t < nI 1000
        · by_cases h3 : 0 ≤ b ∧ b < nI s.2.1.1
          · have h4 : ¬ (0 ≤ y ∧ y < nI 2) := fun q => hA ⟨⟨⟨h0, h1⟩, h2⟩, h3, q⟩
            simp only [h0, h1, h2, h3, h4, and_self, not_true, not_false_eq_true, if_false, if_true]
            exact hQ
          · simp only [h0, h1, h2, h3, and_self, not_true, not_false_eq_true, if_false, if_true, s131_47, s131_48, OpV_some, OpN_some, OpA_some, OpR_some, Option.toList_some, Option.toList_none, List.cons_append, List.nil_append, true_and, and_true, nI11, or_true, true_or, or_false, false_or]
            exact hQ
        · simp only [h0, h1, h2, and_self, not_true, not_false_eq_true, if_false, if_true, s131_47, s131_48, OpV_some, OpN_some, OpA_some, OpR_some, Option.toList_some, Option.toList_none, List.cons_append, List.nil_append, true_and, and_true, nI11, or_true, true_or, or_false, false_or]
          exact hQ
      · simp only [h0, h1, and_self, not_true, not_false_eq_true, if_false, if_true, s131_47, s131_48, OpV_some, OpN_some, OpA_some, OpR_some, Option.toList_some, Option.toList_none, List.cons_append, List.nil_append, true_and, and_true, nI11, or_true, true_or, or_false, false_or]
        exact hQ
    · simp only [h0, not_false_eq_true, if_true, s131_47, s131_48, OpV_some, OpN_some, OpA_some, OpR_some, Option.toList_some, Option.toList_none, List.cons_append, List.nil_append, true_and, and_true, nI11, or_true, true_or, or_false, false_or]
      exact hQ
end MTUNE
