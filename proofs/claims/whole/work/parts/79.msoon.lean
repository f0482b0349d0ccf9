/-! soonest by the reference -/
theorem stK_cg {h g : Nat → Nat} {nR fr : Nat} {T T' : Nat → Nat → Option Nat} {t s : Nat} (hT : ∀ k, mayT h g nR fr k t s = true → T (t - g (k * 5 + 2)) (oth g k s) = T' (t - g (k * 5 + 2)) (oth g k s)) : ∀ (n k : Nat) (b : Option Nat), stK h g nR fr T t s n k b = stK h g nR fr T' t s n k b
  | 0, k, b => rfl
  | n + 1, k, b => by
    unfold stK
    by_cases q : mayT h g nR fr k t s = true
    · rw [if_pos q, if_pos q, hT k q, stK_cg hT n]
    · rw [if_neg q, if_neg q, stK_cg hT n]
theorem fvT_eq {h g : Nat → Nat} {nR nS a : Nat} (hg : RopeOK g nR nS) {fr t s : Nat} (ht : fr ≤ t) : fvT h g nR fr a t s = stK h g nR fr (fvT h g nR fr a) t s nR 0 (if t = fr then (if s = a then some 0 else none) else fvT h g nR fr a (t - 1) s) := by
  have e0 : fvT h g nR fr a t s = stK h g nR fr (hist h g nR fr a (t - fr)) t s nR 0 (if t - fr = 0 then (if s = a then some 0 else none) else hist h g nR fr a (t - fr) (t - 1) s) := if_pos (by omega)
  rw [e0, stK_cg (T' := fvT h g nR fr a) fun k hm => by
    obtain ⟨m1, m2, m3, m4, m5⟩ := of_decide_eq_true hm
    have g4 := (hg.2 k (canB_iff.mp m1).1).2.2.2.1
    exact hist_st (t - fr) _ _ m3 (by omega)]
  by_cases q : t = fr
  · rw [if_pos (by omega), if_pos q]
  · rw [if_neg (by omega), if_neg q, hist_st (t - fr) (t - 1) s (by omega) (by omega)]
section MSOON
variable {X : am_X} {d : Nat} {Q : am_Q} {u w : am_W} {tr : Int64} {a : Nat → Int32} {A : Nat → Nat → Int32} {s : CSt} {nS nR : Nat} {h g : Nat → Nat}
theorem sub_lt {t be fr : Nat} (ht : t < 2 ^ 30) (hb : be < 2 ^ 30) (hf : fr < 2 ^ 30) : (nI t - nI be < nI fr) = ¬ (be ≤ t ∧ fr ≤ t - be) := by
  rw [Int32.lt_iff_toInt_lt, nI_sub_toInt ht hb, nI_toInt (by omega)]
  apply propext
  omega
theorem m_sb_may (H : 69 ≤ u.length) (S : StM A nS nR h g) (hB : ∀ k, k < nR → A 9 k = nI (bt0 g k)) {fr t si k : Nat} (ht : t ≤ 999) (hfr : fr ≤ t) (hs : si < nS) (hk : k < nR) (a0 bb best : Int32) (l8 l9 l10 : Option Value) : Wp X (Cl X (d + 1)) 122 Q (73, [some (.ref 57), some (.int a0), some (.int (nI fr)), some (.int bb), some (.int (nI t)), some (.int (nI si)), some (.int best), some (.int (nI k)), l8, l9, l10], [], mw u tr a A, 0, 0) = Wp X (Cl X (d + 1)) 122 Q (150, [some (.ref 57), some (.int a0), some (.int (nI fr)), some (.int bb), some (.int (nI t)), some (.int (nI si)), some (.int best), some (.int (nI k)), some (.int (nI t - nI (bt0 g k))), some (.int (nI (if mayT h g nR fr k t si = true then 1 else 0))), l10], [], mw u tr a A, 0, 0) := by
  obtain ⟨h8, hr⟩ := S.2.2.2
  have hd8 := S.2.2.1.2.1
  obtain ⟨g1, g2, g3, g4, g5, g6, g7⟩ := hr k hk
  have hb := hB k hk
  have hbl : bt0 g k ≤ 11 := by unfold bt0; split <;> omega
  simp only [s122_73, s122_75, s122_76, s122_79, s122_81, s122_82, s122_83, s122_85, s122_86, s122_89, s122_91, s122_92, OpV_some, OpN_some, OpA_some, OpR_some, Option.toList_some, Option.toList_none, List.cons_append, List.nil_append, true_and, and_true, nI11, or_true, true_or, or_false, false_or, mI0 H, mP0 H, mI3 H, mP3 H, mI4 H, mP4 H, mI5 H, mP5 H, mI6 H, mP6 H, mI7 H, mP7 H, mI8 H, mP8 H, mI9 H, mP9 H, mI10 H, mP10 H, mI11 H, mP11 H, mI12 H, mP12 H, mI13 H, mP13 H, mI14 H, mP14 H, mI23 H, mP23 H, mI24 H, mP24 H, mI25 H, mP25 H, mI26 H, mP26 H, mI27 H, mP27 H, mI30 H, mP30 H, mI31 H, mP31 H, mI1 H, mP1 H, mR2 H, mR15 H, mR16 H, mR17 H, mR18 H, mR19 H, mR20 H, mR21 H, mR22 H, mR28 H, mR29 H, mA0 H, mS0 H, mA1 H, mS1 H, mA2 H, mS2 H, mA3 H, mS3 H, mA4 H, mS4 H, mA5 H, mS5 H, mA6 H, mS6 H, mA7 H, mS7 H, mA8 H, mS8 H, mA9 H, mS9 H, mA10 H, mS10 H, mw_cl H, fu_s, fu_n, ua_s, ua_n, Nat.reduceBEq, lt57, lt58, lt59, lt60, lt61, lt62, lt63, lt64, lt65, lt66, lt67, lt68, in_nI (show k < 8 by omega) (show 8 < 2 ^ 31 by omega), cl_nI (show k < 2 ^ 31 by omega), hb, nI_gt0 (show bt0 g k < 2 ^ 31 by omega)]
  by_cases q1 : g (k * 5 + 4) = 1
  · have e0 : bt0 g k = 0 := if_pos q1
    have hm : mayT h g nR fr k t si = false := decide_eq_false fun z => by
      have := (canB_iff.mp z.1).2.1
      omega
    simp only [e0, show ¬ 0 < 0 by decide, if_false, s122_147, s122_148, OpV_some, OpN_some, OpA_some, OpR_some, Option.toList_some, Option.toList_none, List.cons_append, List.nil_append, true_and, and_true, nI11, or_true, true_or, or_false, false_or, hm, Bool.false_eq_true]
  · have e0 : bt0 g k = g (k * 5 + 2) := if_neg q1
    have q4 : g (k * 5 + 4) = 0 := by omega
    rw [e0] at hb
    simp only [e0, show 0 < g (k * 5 + 2) by omega, if_true, s122_95, s122_97, s122_98, s122_101, s122_102, s122_104, s122_106, s122_109, s122_112, s122_113, s122_115, s122_117, s122_120, s122_123, s122_124, s122_126, s122_127, s122_130, s122_132, s122_133, s122_135, s122_137, s122_140, s122_143, s122_144, s122_147, s122_148, OpV_some, OpN_some, OpA_some, OpR_some, Option.toList_some, Option.toList_none, List.cons_append, List.nil_append, true_and, and_true, nI11, or_true, true_or, or_false, false_or, mI0 H, mP0 H, mI3 H, mP3 H, mI4 H, mP4 H, mI5 H, mP5 H, mI6 H, mP6 H, mI7 H, mP7 H, mI8 H, mP8 H, mI9 H, mP9 H, mI10 H, mP10 H, mI11 H, mP11 H, mI12 H, mP12 H, mI13 H, mP13 H, mI14 H, mP14 H, mI23 H, mP23 H, mI24 H, mP24 H, mI25 H, mP25 H, mI26 H, mP26 H, mI27 H, mP27 H, mI30 H, mP30 H, mI31 H, mP31 H, mI1 H, mP1 H, mR2 H, mR15 H, mR16 H, mR17 H, mR18 H, mR19 H, mR20 H, mR21 H, mR22 H, mR28 H, mR29 H, mA0 H, mS0 H, mA1 H, mS1 H, mA2 H, mS2 H, mA3 H, mS3 H, mA4 H, mS4 H, mA5 H, mS5 H, mA6 H, mS6 H, mA7 H, mS7 H, mA8 H, mS8 H, mA9 H, mS9 H, mA10 H, mS10 H, mw_cl H, fu_s, fu_n, ua_s, ua_n, Nat.reduceBEq, lt57, lt58, lt59, lt60, lt61, lt62, lt63, lt64, lt65, lt66, lt67, lt68, sub_lt (show t < 2 ^ 30 by omega) (show g (k * 5 + 2) < 2 ^ 30 by omega) (show fr < 2 ^ 30 by omega), m_hangs H S hk (show si < 2 ^ 30 by omega), m_isOpen H S hs (show t < 2 ^ 30 by omega), in_nI (show k < 8 by omega) (show 8 < 2 ^ 31 by omega), cl_nI (show k < 2 ^ 31 by omega), hb, m_isThere H S hk g4 g5 (show si < 2 ^ 30 by omega) (show t < 2 ^ 29 by omega), nI_ite]
    unfold mayT
    have hc : (canB g nR k si = true) = (g (k * 5) = si ∨ g (k * 5 + 1) = si) := propext ⟨fun z => (canB_iff.mp z).2.2, fun z => canB_iff.mpr ⟨hk, q4, z⟩⟩
    simp only [hc, decide_eq_true_eq]
    by_cases c1 : g (k * 5 + 2) ≤ t ∧ fr ≤ t - g (k * 5 + 2)
    · by_cases c2 : g (k * 5) = si ∨ g (k * 5 + 1) = si
      · by_cases c3 : opnB h si t = true
        · by_cases c4 : thB g k (g (k * 5 + 2)) si t = true
          · simp only [c1.1, c1.2, c2, c3, c4, and_self, not_true, if_true, if_false]
          · simp only [c1.1, c1.2, c2, c3, c4, and_self, and_false, not_true, not_false_eq_true, if_true, if_false, Bool.false_eq_true]
        · simp only [c1.1, c1.2, c2, c3, and_self, and_false, false_and, not_true, not_false_eq_true, if_true, if_false, Bool.false_eq_true]
      · simp only [c1.1, c1.2, c2, and_self, and_false, false_and, not_true, not_false_eq_true, if_true, if_false]
    · have c5 : ¬ ((g (k * 5) = si ∨ g (k * 5 + 1) = si) ∧ g (k * 5 + 2) ≤ t ∧ fr ≤ t - g (k * 5 + 2) ∧ opnB h si t = true ∧ thB g k (g (k * 5 + 2)) si t = true) := fun z => c1 ⟨z.2.1, z.2.2.1⟩
      simp only [c1, c5, not_false_eq_true, if_true, if_false]
theorem m_sb_k (H : 69 ≤ u.length) (S : StM A nS nR h g) (hB : ∀ k, k < nR → A 9 k = nI (bt0 g k)) (ha : a 10 = nI nR) {fr t si a0 : Nat} (ht : t ≤ 999) (hfr : fr ≤ t) (hs : si < nS) (hf : ∀ t', fr ≤ t' → t' < t → ∀ q, q < nS → A 10 (8 * t' + q) = fgO (fvT h g nR fr a0 t' q)) (bb : Int32) : ∀ (n k : Nat) (b : Option Nat) (l8 l9 l10 : Option Value), k + n = nR → (∀ x, b = some x → x ≤ 8) → ∃ l8' l9' l10', Wp X (Cl X (d + 1)) 122 Q (64, [some (.ref 57), some (.int (nI a0)), some (.int (nI fr)), some (.int bb), some (.int (nI t)), some (.int (nI si)), some (.int (fgO b)), some (.int (nI k)), l8, l9, l10], [], mw u tr a A, 0, 0) = Wp X (Cl X (d + 1)) 122 Q (221, [some (.ref 57), some (.int (nI a0)), some (.int (nI fr)), some (.int bb), some (.int (nI t)), some (.int (nI si)), some (.int (fgO (stK h g nR fr (fvT h g nR fr a0) t si n k b))), some (.int (nI nR)), l8', l9', l10'], [], mw u tr a A, 0, 0)
  | 0, k, b, l8, l9, l10, e, hb => by
    have h8 := S.2.2.2.1
    refine ⟨l8, l9, l10, ?_⟩
    rw [s122_64]
    simp only [s122_66, s122_67, s122_70, OpV_some, OpN_some, OpA_some, OpR_some, Option.toList_some, Option.toList_none, List.cons_append, List.nil_append, true_and, and_true, nI11, or_true, true_or, or_false, false_or, mI0 H, mP0 H, mI3 H, mP3 H, mI4 H, mP4 H, mI5 H, mP5 H, mI6 H, mP6 H, mI7 H, mP7 H, mI8 H, mP8 H, mI9 H, mP9 H, mI10 H, mP10 H, mI11 H, mP11 H, mI12 H, mP12 H, mI13 H, mP13 H, mI14 H, mP14 H, mI23 H, mP23 H, mI24 H, mP24 H, mI25 H, mP25 H, mI26 H, mP26 H, mI27 H, mP27 H, mI30 H, mP30 H, mI31 H, mP31 H, mI1 H, mP1 H, mR2 H, mR15 H, mR16 H, mR17 H, mR18 H, mR19 H, mR20 H, mR21 H, mR22 H, mR28 H, mR29 H, mA0 H, mS0 H, mA1 H, mS1 H, mA2 H, mS2 H, mA3 H, mS3 H, mA4 H, mS4 H, mA5 H, mS5 H, mA6 H, mS6 H, mA7 H, mS7 H, mA8 H, mS8 H, mA9 H, mS9 H, mA10 H, mS10 H, mw_cl H, fu_s, fu_n, ua_s, ua_n, Nat.reduceBEq, lt57, lt58, lt59, lt60, lt61, lt62, lt63, lt64, lt65, lt66, lt67, lt68, ha, nI_ltN (show k < 2 ^ 31 by omega) (show nR < 2 ^ 31 by omega), show ¬ k < nR by omega, if_false, stK]
    rw [show k = nR by omega]
  | n + 1, k, b, l8, l9, l10, e, hb => by
    have hk : k < nR := by omega
    obtain ⟨h8, hr⟩ := S.2.2.2
    have hd8 := S.2.2.1.2.1
    obtain ⟨g1, g2, g3, g4, g5, g6, g7⟩ := hr k hk
    have ho : oth g k si < nS := oth_lt S.2.2.2 hk
    have ih := fun b l8 l9 l10 hb => m_sb_k H S hB ha ht hfr hs hf bb n (k + 1) b l8 l9 l10 (by omega) hb
    rw [s122_64]
    simp only [s122_66, s122_67, s122_70, OpV_some, OpN_some, OpA_some, OpR_some, Option.toList_some, Option.toList_none, List.cons_append, List.nil_append, true_and, and_true, nI11, or_true, true_or, or_false, false_or, mI0 H, mP0 H, mI3 H, mP3 H, mI4 H, mP4 H, mI5 H, mP5 H, mI6 H, mP6 H, mI7 H, mP7 H, mI8 H, mP8 H, mI9 H, mP9 H, mI10 H, mP10 H, mI11 H, mP11 H, mI12 H, mP12 H, mI13 H, mP13 H, mI14 H, mP14 H, mI23 H, mP23 H, mI24 H, mP24 H, mI25 H, mP25 H, mI26 H, mP26 H, mI27 H, mP27 H, mI30 H, mP30 H, mI31 H, mP31 H, mI1 H, mP1 H, mR2 H, mR15 H, mR16 H, mR17 H, mR18 H, mR19 H, mR20 H, mR21 H, mR22 H, mR28 H, mR29 H, mA0 H, mS0 H, mA1 H, mS1 H, mA2 H, mS2 H, mA3 H, mS3 H, mA4 H, mS4 H, mA5 H, mS5 H, mA6 H, mS6 H, mA7 H, mS7 H, mA8 H, mS8 H, mA9 H, mS9 H, mA10 H, mS10 H, mw_cl H, fu_s, fu_n, ua_s, ua_n, Nat.reduceBEq, lt57, lt58, lt59, lt60, lt61, lt62, lt63, lt64, lt65, lt66, lt67, lt68, ha, nI_ltN (show k < 2 ^ 31 by omega) (show nR < 2 ^ 31 by omega), hk, if_true]
    rw [m_sb_may H S hB ht hfr hs hk]
    unfold stK
    by_cases hm : mayT h g nR fr k t si = true
    · obtain ⟨m1, m2, m3, m4, m5⟩ := of_decide_eq_true hm
      have e0 : bt0 g k = g (k * 5 + 2) := by
        have := (canB_iff.mp m1).2.1
        unfold bt0
        rw [if_neg (by omega)]
      have hv := hf (t - g (k * 5 + 2)) m3 (by omega) (oth g k si) ho
      rw [if_pos hm, e0]
      simp only [hm, if_true, s122_150, s122_152, s122_155, s122_156, s122_159, s122_161, s122_163, s122_164, s122_165, s122_167, s122_169, s122_172, s122_173, s122_174, s122_177, s122_179, OpV_some, OpN_some, OpA_some, OpR_some, Option.toList_some, Option.toList_none, List.cons_append, List.nil_append, true_and, and_true, nI11, or_true, true_or, or_false, false_or, mI0 H, mP0 H, mI3 H, mP3 H, mI4 H, mP4 H, mI5 H, mP5 H, mI6 H, mP6 H, mI7 H, mP7 H, mI8 H, mP8 H, mI9 H, mP9 H, mI10 H, mP10 H, mI11 H, mP11 H, mI12 H, mP12 H, mI13 H, mP13 H, mI14 H, mP14 H, mI23 H, mP23 H, mI24 H, mP24 H, mI25 H, mP25 H, mI26 H, mP26 H, mI27 H, mP27 H, mI30 H, mP30 H, mI31 H, mP31 H, mI1 H, mP1 H, mR2 H, mR15 H, mR16 H, mR17 H, mR18 H, mR19 H, mR20 H, mR21 H, mR22 H, mR28 H, mR29 H, mA0 H, mS0 H, mA1 H, mS1 H, mA2 H, mS2 H, mA3 H, mS3 H, mA4 H, mS4 H, mA5 H, mS5 H, mA6 H, mS6 H, mA7 H, mS7 H, mA8 H, mS8 H, mA9 H, mS9 H, mA10 H, mS10 H, mw_cl H, fu_s, fu_n, ua_s, ua_n, Nat.reduceBEq, lt57, lt58, lt59, lt60, lt61, lt62, lt63, lt64, lt65, lt66, lt67, lt68, nI1z, if_false, nI_subN m2, m_across H S hk (show si < 2 ^ 30 by omega), pk_mul, nI_add, in_nI (show 8 * (t - g (k * 5 + 2)) + oth g k si < 8000 by omega) (show 8000 < 2 ^ 31 by omega), cl_nI (show 8 * (t - g (k * 5 + 2)) + oth g k si < 2 ^ 31 by omega), hv]
      cases hF : fvT h g nR fr a0 (t - g (k * 5 + 2)) (oth g k si) with
      | none =>
        have eU : upB b none = b := by cases b <;> rfl
        rw [eU]
        obtain ⟨x8, x9, x10, hih⟩ := ih b (some (.int (nI (t - g (k * 5 + 2))))) (some (.int (nI 1))) (some (.int (-9))) hb
        refine ⟨x8, x9, x10, ?_⟩
        rw [← hih]
        have e9 : fgO none = -9 := rfl
        simp only [e9, s122_181, s122_183, s122_185, s122_188, s122_190, s122_192, s122_195, s122_197, s122_198, s122_199, s122_201, s122_204, s122_206, s122_207, s122_208, s122_211, s122_213, s122_215, s122_218, OpV_some, OpN_some, OpA_some, OpR_some, Option.toList_some, Option.toList_none, List.cons_append, List.nil_append, true_and, and_true, nI11, or_true, true_or, or_false, false_or, if_true, nI_add]
      | some v =>
        have hv7 : v ≤ 7 := fvT_7 S.2.2.2 hd8 m3 ho hF
        have e9 : fgO (some v) = nI v := rfl
        cases b with
        | none =>
          obtain ⟨x8, x9, x10, hih⟩ := ih (some (v + 1)) (some (.int (nI (t - g (k * 5 + 2))))) (some (.int (nI 1))) (some (.int (nI v))) (fun x hx => by cases hx; omega)
          refine ⟨x8, x9, x10, ?_⟩
          show _ = Wp X (Cl X (d + 1)) 122 Q (221, [some (.ref 57), some (.int (nI a0)), some (.int (nI fr)), some (.int bb), some (.int (nI t)), some (.int (nI si)), some (.int (fgO (stK h g nR fr (fvT h g nR fr a0) t si n (k + 1) (some (v + 1))))), some (.int (nI nR)), x8, x9, x10], [], mw u tr a A, 0, 0)
          rw [← hih]
          have e9' : fgO none = -9 := rfl
          have e9'' : fgO (some (v + 1)) = nI (v + 1) := rfl
          simp only [e9, e9', e9'', nI_ne9 (show v < 2 ^ 31 by omega), s122_181, s122_183, s122_185, s122_188, s122_190, s122_192, s122_195, s122_197, s122_198, s122_199, s122_201, s122_204, s122_206, s122_207, s122_208, s122_211, s122_213, s122_215, s122_218, OpV_some, OpN_some, OpA_some, OpR_some, Option.toList_some, Option.toList_none, List.cons_append, List.nil_append, true_and, and_true, nI11, or_true, true_or, or_false, false_or, if_true, if_false, nI_add]
        | some b =>
          have hb8 := hb b rfl
          have eb : fgO (some b) = nI b := rfl
          obtain ⟨x8, x9, x10, hih⟩ := ih (some (if v + 1 < b then v + 1 else b)) (some (.int (nI (t - g (k * 5 + 2))))) (some (.int (nI 1))) (some (.int (nI v))) (fun x hx => by
            have : (if v + 1 < b then v + 1 else b) = x := Option.some.inj hx
            split at this <;> omega)
          refine ⟨x8, x9, x10, ?_⟩
          show _ = Wp X (Cl X (d + 1)) 122 Q (221, [some (.ref 57), some (.int (nI a0)), some (.int (nI fr)), some (.int bb), some (.int (nI t)), some (.int (nI si)), some (.int (fgO (stK h g nR fr (fvT h g nR fr a0) t si n (k + 1) (some (if v + 1 < b then v + 1 else b))))), some (.int (nI nR)), x8, x9, x10], [], mw u tr a A, 0, 0)
          rw [← hih]
          simp only [e9, eb, nI_ne9 (show v < 2 ^ 31 by omega), nI_ne9 (show b < 2 ^ 31 by omega), s122_181, s122_183, s122_185, s122_188, s122_190, s122_192, s122_195, s122_197, s122_198, s122_199, s122_201, s122_204, s122_206, s122_207, s122_208, s122_211, s122_213, s122_215, s122_218, OpV_some, OpN_some, OpA_some, OpR_some, Option.toList_some, Option.toList_none, List.cons_append, List.nil_append, true_and, and_true, nI11, or_true, true_or, or_false, false_or, if_true, if_false, nI_add, nI_ltN (show v + 1 < 2 ^ 31 by omega) (show b < 2 ^ 31 by omega)]
          by_cases c : v + 1 < b
          · have e3 : fgO (some (v + 1)) = nI (v + 1) := rfl
            simp only [c, if_true, e3]
          · simp only [c, if_false, eb]
    · have hmf : mayT h g nR fr k t si = false := Bool.eq_false_iff.mpr hm
      rw [if_neg hm, if_neg hm]
      have eU : upB b none = b := by cases b <;> rfl
      rw [eU]
      obtain ⟨x8, x9, x10, hih⟩ := ih b (some (.int (nI t - nI (bt0 g k)))) (some (.int (nI 0))) (some (.int (-9))) hb
      refine ⟨x8, x9, x10, ?_⟩
      rw [← hih]
      simp only [s122_150, s122_152, s122_155, s122_156, s122_159, s122_161, s122_163, s122_164, s122_165, s122_167, s122_169, s122_172, s122_173, s122_174, s122_177, s122_179, s122_181, s122_183, s122_185, s122_188, s122_190, s122_192, s122_195, s122_197, s122_198, s122_199, s122_201, s122_204, s122_206, s122_207, s122_208, s122_211, s122_213, s122_215, s122_218, OpV_some, OpN_some, OpA_some, OpR_some, Option.toList_some, Option.toList_none, List.cons_append, List.nil_append, true_and, and_true, nI11, or_true, true_or, or_false, false_or, nI0z, if_true, nI_add]
theorem m_sb_s (H : 69 ≤ u.length) (hS : nS ≤ 8) (ha9 : a 9 = nI nS) (ha : a 10 = nI nR) {fr t a0 : Nat} (ht : t ≤ 999) (hfr : fr ≤ t) (ha0 : a0 < nS) (bb : Int32) (hSB : StM A nS nR h g ∧ ∀ k, k < nR → A 9 k = nI (bt0 g k)) : ∀ (n si : Nat) (f : Nat → Int32) (l6 l7 l8 l9 l10 : Option Value), si + n = nS → (∀ t', fr ≤ t' → t' < t → ∀ q, q < nS → f (8 * t' + q) = fgO (fvT h g nR fr a0 t' q)) → (∀ q, q < si → f (8 * t + q) = fgO (fvT h g nR fr a0 t q)) →
    ∃ (f' : Nat → Int32) (l6' l7' l8' l9' l10' : Option Value), (∀ t', fr ≤ t' → t' < t + 1 → ∀ q, q < nS → f' (8 * t' + q) = fgO (fvT h g nR fr a0 t' q)) ∧ Wp X (Cl X (d + 1)) 122 Q (14, [some (.ref 57), some (.int (nI a0)), some (.int (nI fr)), some (.int bb), some (.int (nI t)), some (.int (nI si)), l6, l7, l8, l9, l10], [], mw u tr a (ua A 10 f), 0, 0) = Wp X (Cl X (d + 1)) 122 Q (242, [some (.ref 57), some (.int (nI a0)), some (.int (nI fr)), some (.int bb), some (.int (nI t)), some (.int (nI nS)), l6', l7', l8', l9', l10'], [], mw u tr a (ua A 10 f'), 0, 0)
  | 0, si, f, l6, l7, l8, l9, l10, e, h1, h2 => by
    refine ⟨f, l6, l7, l8, l9, l10, fun t' k1 k2 q hq => ?_, ?_⟩
    · by_cases e2 : t' = t
      · subst e2
        exact h2 q (by omega)
      · exact h1 t' k1 (by omega) q hq
    · rw [s122_14]
      simp only [s122_16, s122_17, s122_20, OpV_some, OpN_some, OpA_some, OpR_some, Option.toList_some, Option.toList_none, List.cons_append, List.nil_append, true_and, and_true, nI11, or_true, true_or, or_false, false_or, mI0 H, mP0 H, mI3 H, mP3 H, mI4 H, mP4 H, mI5 H, mP5 H, mI6 H, mP6 H, mI7 H, mP7 H, mI8 H, mP8 H, mI9 H, mP9 H, mI10 H, mP10 H, mI11 H, mP11 H, mI12 H, mP12 H, mI13 H, mP13 H, mI14 H, mP14 H, mI23 H, mP23 H, mI24 H, mP24 H, mI25 H, mP25 H, mI26 H, mP26 H, mI27 H, mP27 H, mI30 H, mP30 H, mI31 H, mP31 H, mI1 H, mP1 H, mR2 H, mR15 H, mR16 H, mR17 H, mR18 H, mR19 H, mR20 H, mR21 H, mR22 H, mR28 H, mR29 H, mA0 H, mS0 H, mA1 H, mS1 H, mA2 H, mS2 H, mA3 H, mS3 H, mA4 H, mS4 H, mA5 H, mS5 H, mA6 H, mS6 H, mA7 H, mS7 H, mA8 H, mS8 H, mA9 H, mS9 H, mA10 H, mS10 H, mw_cl H, fu_s, fu_n, ua_s, ua_n, Nat.reduceBEq, lt57, lt58, lt59, lt60, lt61, lt62, lt63, lt64, lt65, lt66, lt67, lt68, ha9, nI_ltN (show si < 2 ^ 31 by omega) (show nS < 2 ^ 31 by omega), show ¬ si < nS by omega, if_false]
      rw [show si = nS by omega]
  | n + 1, si, f, l6, l7, l8, l9, l10, e, h1, h2 => by
    have hs : si < nS := by omega
    have S' : StM (ua A 10 f) nS nR h g := hSB.1
    have hB' : ∀ k, k < nR → (ua A 10 f) 9 k = nI (bt0 g k) := hSB.2
    have hf' : ∀ t', fr ≤ t' → t' < t → ∀ q, q < nS → (ua A 10 f) 10 (8 * t' + q) = fgO (fvT h g nR fr a0 t' q) := h1
    have ini : ∃ b : Option Nat, (∀ x, b = some x → x ≤ 8) ∧ b = (if t = fr then (if si = a0 then some 0 else none) else fvT h g nR fr a0 (t - 1) si) ∧ Wp X (Cl X (d + 1)) 122 Q (14, [some (.ref 57), some (.int (nI a0)), some (.int (nI fr)), some (.int bb), some (.int (nI t)), some (.int (nI si)), l6, l7, l8, l9, l10], [], mw u tr a (ua A 10 f), 0, 0) = Wp X (Cl X (d + 1)) 122 Q (64, [some (.ref 57), some (.int (nI a0)), some (.int (nI fr)), some (.int bb), some (.int (nI t)), some (.int (nI si)), some (.int (fgO b)), some (.int (nI 0)), l8, l9, l10], [], mw u tr a (ua A 10 f), 0, 0) := by
      by_cases q1 : t = fr
      · by_cases q2 : si = a0
        · refine ⟨some 0, fun x hx => (by cases hx; omega), by rw [if_pos q1, if_pos q2], ?_⟩
          have e1 : fgO (some 0) = nI 0 := rfl
          rw [s122_14]
          simp only [s122_16, s122_17, s122_20, s122_23, s122_25, s122_26, s122_29, s122_31, s122_32, s122_35, s122_36, s122_39, s122_41, s122_44, s122_45, s122_48, s122_50, s122_52, s122_53, s122_54, s122_55, s122_57, s122_58, s122_59, s122_61, s122_62, OpV_some, OpN_some, OpA_some, OpR_some, Option.toList_some, Option.toList_none, List.cons_append, List.nil_append, true_and, and_true, nI11, or_true, true_or, or_false, false_or, mI0 H, mP0 H, mI3 H, mP3 H, mI4 H, mP4 H, mI5 H, mP5 H, mI6 H, mP6 H, mI7 H, mP7 H, mI8 H, mP8 H, mI9 H, mP9 H, mI10 H, mP10 H, mI11 H, mP11 H, mI12 H, mP12 H, mI13 H, mP13 H, mI14 H, mP14 H, mI23 H, mP23 H, mI24 H, mP24 H, mI25 H, mP25 H, mI26 H, mP26 H, mI27 H, mP27 H, mI30 H, mP30 H, mI31 H, mP31 H, mI1 H, mP1 H, mR2 H, mR15 H, mR16 H, mR17 H, mR18 H, mR19 H, mR20 H, mR21 H, mR22 H, mR28 H, mR29 H, mA0 H, mS0 H, mA1 H, mS1 H, mA2 H, mS2 H, mA3 H, mS3 H, mA4 H, mS4 H, mA5 H, mS5 H, mA6 H, mS6 H, mA7 H, mS7 H, mA8 H, mS8 H, mA9 H, mS9 H, mA10 H, mS10 H, mw_cl H, fu_s, fu_n, ua_s, ua_n, Nat.reduceBEq, lt57, lt58, lt59, lt60, lt61, lt62, lt63, lt64, lt65, lt66, lt67, lt68, ha9, nI_ltN (show si < 2 ^ 31 by omega) (show nS < 2 ^ 31 by omega), hs, if_true, nI_eqN (show t < 2 ^ 31 by omega) (show fr < 2 ^ 31 by omega), eq_true q1, nI_eqN (show si < 2 ^ 31 by omega) (show a0 < 2 ^ 31 by omega), eq_true q2, e1]
        · refine ⟨none, fun x hx => (by cases hx), by rw [if_pos q1, if_neg q2], ?_⟩
          have e1 : fgO none = -9 := rfl
          rw [s122_14]
          simp only [s122_16, s122_17, s122_20, s122_23, s122_25, s122_26, s122_29, s122_31, s122_32, s122_35, s122_36, s122_39, s122_41, s122_44, s122_45, s122_48, s122_50, s122_52, s122_53, s122_54, s122_55, s122_57, s122_58, s122_59, s122_61, s122_62, OpV_some, OpN_some, OpA_some, OpR_some, Option.toList_some, Option.toList_none, List.cons_append, List.nil_append, true_and, and_true, nI11, or_true, true_or, or_false, false_or, mI0 H, mP0 H, mI3 H, mP3 H, mI4 H, mP4 H, mI5 H, mP5 H, mI6 H, mP6 H, mI7 H, mP7 H, mI8 H, mP8 H, mI9 H, mP9 H, mI10 H, mP10 H, mI11 H, mP11 H, mI12 H, mP12 H, mI13 H, mP13 H, mI14 H, mP14 H, mI23 H, mP23 H, mI24 H, mP24 H, mI25 H, mP25 H, mI26 H, mP26 H, mI27 H, mP27 H, mI30 H, mP30 H, mI31 H, mP31 H, mI1 H, mP1 H, mR2 H, mR15 H, mR16 H, mR17 H, mR18 H, mR19 H, mR20 H, mR21 H, mR22 H, mR28 H, mR29 H, mA0 H, mS0 H, mA1 H, mS1 H, mA2 H, mS2 H, mA3 H, mS3 H, mA4 H, mS4 H, mA5 H, mS5 H, mA6 H, mS6 H, mA7 H, mS7 H, mA8 H, mS8 H, mA9 H, mS9 H, mA10 H, mS10 H, mw_cl H, fu_s, fu_n, ua_s, ua_n, Nat.reduceBEq, lt57, lt58, lt59, lt60, lt61, lt62, lt63, lt64, lt65, lt66, lt67, lt68, ha9, nI_ltN (show si < 2 ^ 31 by omega) (show nS < 2 ^ 31 by omega), hs, if_true, nI_eqN (show t < 2 ^ 31 by omega) (show fr < 2 ^ 31 by omega), eq_true q1, nI_eqN (show si < 2 ^ 31 by omega) (show a0 < 2 ^ 31 by omega), q2, if_false, e1]
      · refine ⟨fvT h g nR fr a0 (t - 1) si, fun x hx => ?_, by rw [if_neg q1], ?_⟩
        · have := fvT_7 S'.2.2.2 hS (show fr ≤ t - 1 by omega) hs hx
          omega
        · have hv := h1 (t - 1) (by omega) (by omega) si hs
          rw [s122_14]
          simp only [s122_16, s122_17, s122_20, s122_23, s122_25, s122_26, s122_29, s122_31, s122_32, s122_35, s122_36, s122_39, s122_41, s122_44, s122_45, s122_48, s122_50, s122_52, s122_53, s122_54, s122_55, s122_57, s122_58, s122_59, s122_61, s122_62, OpV_some, OpN_some, OpA_some, OpR_some, Option.toList_some, Option.toList_none, List.cons_append, List.nil_append, true_and, and_true, nI11, or_true, true_or, or_false, false_or, mI0 H, mP0 H, mI3 H, mP3 H, mI4 H, mP4 H, mI5 H, mP5 H, mI6 H, mP6 H, mI7 H, mP7 H, mI8 H, mP8 H, mI9 H, mP9 H, mI10 H, mP10 H, mI11 H, mP11 H, mI12 H, mP12 H, mI13 H, mP13 H, mI14 H, mP14 H, mI23 H, mP23 H, mI24 H, mP24 H, mI25 H, mP25 H, mI26 H, mP26 H, mI27 H, mP27 H, mI30 H, mP30 H, mI31 H, mP31 H, mI1 H, mP1 H, mR2 H, mR15 H, mR16 H, mR17 H, mR18 H, mR19 H, mR20 H, mR21 H, mR22 H, mR28 H, mR29 H, mA0 H, mS0 H, mA1 H, mS1 H, mA2 H, mS2 H, mA3 H, mS3 H, mA4 H, mS4 H, mA5 H, mS5 H, mA6 H, mS6 H, mA7 H, mS7 H, mA8 H, mS8 H, mA9 H, mS9 H, mA10 H, mS10 H, mw_cl H, fu_s, fu_n, ua_s, ua_n, Nat.reduceBEq, lt57, lt58, lt59, lt60, lt61, lt62, lt63, lt64, lt65, lt66, lt67, lt68, ha9, nI_ltN (show si < 2 ^ 31 by omega) (show nS < 2 ^ 31 by omega), hs, if_true, nI_eqN (show t < 2 ^ 31 by omega) (show fr < 2 ^ 31 by omega), q1, if_false, nI_subN (show 1 ≤ t by omega), pk_mul, nI_add, in_nI (show 8 * (t - 1) + si < 8000 by omega) (show 8000 < 2 ^ 31 by omega), cl_nI (show 8 * (t - 1) + si < 2 ^ 31 by omega), hv]
    obtain ⟨b, hb8, hbe, hini⟩ := ini
    obtain ⟨x8, x9, x10, hk⟩ := m_sb_k (X := X) (d := d) (Q := Q) (tr := tr) H S' hB' ha ht hfr hs hf' bb nR 0 b l8 l9 l10 (by omega) hb8
    rw [hbe, ← fvT_eq S'.2.2.2 hfr] at hk
    rw [hbe] at hini
    obtain ⟨f', y6, y7, y8, y9, y10, hr, hih⟩ := m_sb_s H hS ha9 ha ht hfr ha0 bb hSB n (si + 1) (upd f (8 * t + si) (fgO (fvT h g nR fr a0 t si))) (some (.int (fgO (fvT h g nR fr a0 t si)))) (some (.int (nI nR))) x8 x9 x10 (by omega) (fun t' k1 k2 q hq => by
      rw [upd_n _ _ (by omega)]; exact h1 t' k1 k2 q hq) (fun q hq => by
      by_cases e2 : q = si
      · rw [e2, upd_s]
      · rw [upd_n _ _ (by omega)]; exact h2 q (by omega))
    refine ⟨f', y6, y7, y8, y9, y10, hr, ?_⟩
    rw [hini, hk, ← hih]
    simp only [s122_221, s122_222, s122_225, s122_227, s122_229, s122_230, s122_232, s122_233, s122_235, s122_236, s122_239, OpV_some, OpN_some, OpA_some, OpR_some, Option.toList_some, Option.toList_none, List.cons_append, List.nil_append, true_and, and_true, nI11, or_true, true_or, or_false, false_or, mI0 H, mP0 H, mI3 H, mP3 H, mI4 H, mP4 H, mI5 H, mP5 H, mI6 H, mP6 H, mI7 H, mP7 H, mI8 H, mP8 H, mI9 H, mP9 H, mI10 H, mP10 H, mI11 H, mP11 H, mI12 H, mP12 H, mI13 H, mP13 H, mI14 H, mP14 H, mI23 H, mP23 H, mI24 H, mP24 H, mI25 H, mP25 H, mI26 H, mP26 H, mI27 H, mP27 H, mI30 H, mP30 H, mI31 H, mP31 H, mI1 H, mP1 H, mR2 H, mR15 H, mR16 H, mR17 H, mR18 H, mR19 H, mR20 H, mR21 H, mR22 H, mR28 H, mR29 H, mA0 H, mS0 H, mA1 H, mS1 H, mA2 H, mS2 H, mA3 H, mS3 H, mA4 H, mS4 H, mA5 H, mS5 H, mA6 H, mS6 H, mA7 H, mS7 H, mA8 H, mS8 H, mA9 H, mS9 H, mA10 H, mS10 H, mw_cl H, fu_s, fu_n, ua_s, ua_n, Nat.reduceBEq, lt57, lt58, lt59, lt60, lt61, lt62, lt63, lt64, lt65, lt66, lt67, lt68, ua_ua, pk_mul, nI_add, in_nI (show 8 * t + si < 8000 by omega) (show 8000 < 2 ^ 31 by omega), cl_nI (show 8 * t + si < 2 ^ 31 by omega)]
theorem m_sb_t (H : 69 ≤ u.length) (ha9 : a 9 = nI nS) (ha : a 10 = nI nR) {fr a0 b : Nat} (hfr : fr ≤ 999) (ha0 : a0 < nS) (hb : b < nS) (hSB : StM A nS nR h g ∧ ∀ k, k < nR → A 9 k = nI (bt0 g k)) (hQ : ∀ f', ((swy h g nR a0 fr b).1 ≤ 999 → f' (8 * (swy h g nR a0 fr b).1 + b) = nI (swy h g nR a0 fr b).2) → Q (some (.int (if (swy h g nR a0 fr b).1 ≤ 999 then nI (swy h g nR a0 fr b).1 else -9))) (mw u tr a (ua A 10 f'))) : ∀ (n t : Nat) (f : Nat → Int32) (l5 l6 l7 l8 l9 l10 : Option Value), t + n = 1000 → fr ≤ t → (∀ t', fr ≤ t' → t' < t → ∀ q, q < nS → f (8 * t' + q) = fgO (fvT h g nR fr a0 t' q)) → (∀ t', fr ≤ t' → t' < t → fvT h g nR fr a0 t' b = none) → Wp X (Cl X (d + 1)) 122 Q (3, [some (.ref 57), some (.int (nI a0)), some (.int (nI fr)), some (.int (nI b)), some (.int (nI t)), l5, l6, l7, l8, l9, l10], [], mw u tr a (ua A 10 f), 0, 0)
  | 0, t, f, l5, l6, l7, l8, l9, l10, e, h1, h2, h3 => by
    have hd8 := hSB.1.2.2.1.2.1
    obtain ⟨w1, w2⟩ := swy_fvT (h := h) hSB.1.2.2.2 hd8 ha0 hb hfr
    have hm : ¬ (swy h g nR a0 fr b).1 ≤ 999 := fun z => by
      obtain ⟨z1, z2, z3⟩ := w1 z
      rw [h3 _ z1 (by omega)] at z2
      cases z2
    have hQ := hQ f (fun z => absurd z hm)
    rw [if_neg hm] at hQ
    rw [s122_3]
    simp only [s122_5, s122_8, s122_268, s122_270, OpV_some, OpN_some, OpA_some, OpR_some, Option.toList_some, Option.toList_none, List.cons_append, List.nil_append, true_and, and_true, nI11, or_true, true_or, or_false, false_or, nI_ltN (show t < 2 ^ 31 by omega) (show 1000 < 2 ^ 31 by omega), show ¬ t < 1000 by omega, if_false]
    exact hQ
  | n + 1, t, f, l5, l6, l7, l8, l9, l10, e, h1, h2, h3 => by
    have hd8 := hSB.1.2.2.1.2.1
    obtain ⟨w1, w2⟩ := swy_fvT (h := h) hSB.1.2.2.2 hd8 ha0 hb hfr
    obtain ⟨f', y6, y7, y8, y9, y10, hr, hs⟩ := m_sb_s (X := X) (d := d) (Q := Q) (tr := tr) H hd8 ha9 ha (show t ≤ 999 by omega) h1 ha0 (nI b) hSB nS 0 f l6 l7 l8 l9 l10 (by omega) h2 (fun q hq => absurd hq (by omega))
    have hv := hr t h1 (by omega) b hb
    rw [s122_3]
    simp only [s122_5, s122_8, s122_11, s122_12, OpV_some, OpN_some, OpA_some, OpR_some, Option.toList_some, Option.toList_none, List.cons_append, List.nil_append, true_and, and_true, nI11, or_true, true_or, or_false, false_or, nI_ltN (show t < 2 ^ 31 by omega) (show 1000 < 2 ^ 31 by omega), show t < 1000 by omega, if_true]
    rw [hs]
    simp only [s122_242, s122_243, s122_246, s122_248, s122_250, s122_251, s122_252, s122_253, s122_254, s122_256, s122_259, s122_261, s122_262, s122_265, OpV_some, OpN_some, OpA_some, OpR_some, Option.toList_some, Option.toList_none, List.cons_append, List.nil_append, true_and, and_true, nI11, or_true, true_or, or_false, false_or, mI0 H, mP0 H, mI3 H, mP3 H, mI4 H, mP4 H, mI5 H, mP5 H, mI6 H, mP6 H, mI7 H, mP7 H, mI8 H, mP8 H, mI9 H, mP9 H, mI10 H, mP10 H, mI11 H, mP11 H, mI12 H, mP12 H, mI13 H, mP13 H, mI14 H, mP14 H, mI23 H, mP23 H, mI24 H, mP24 H, mI25 H, mP25 H, mI26 H, mP26 H, mI27 H, mP27 H, mI30 H, mP30 H, mI31 H, mP31 H, mI1 H, mP1 H, mR2 H, mR15 H, mR16 H, mR17 H, mR18 H, mR19 H, mR20 H, mR21 H, mR22 H, mR28 H, mR29 H, mA0 H, mS0 H, mA1 H, mS1 H, mA2 H, mS2 H, mA3 H, mS3 H, mA4 H, mS4 H, mA5 H, mS5 H, mA6 H, mS6 H, mA7 H, mS7 H, mA8 H, mS8 H, mA9 H, mS9 H, mA10 H, mS10 H, mw_cl H, fu_s, fu_n, ua_s, ua_n, Nat.reduceBEq, lt57, lt58, lt59, lt60, lt61, lt62, lt63, lt64, lt65, lt66, lt67, lt68, pk_mul, nI_add, in_nI (show 8 * t + b < 8000 by omega) (show 8000 < 2 ^ 31 by omega), cl_nI (show 8 * t + b < 2 ^ 31 by omega), hv]
    cases hF : fvT h g nR fr a0 t b with
    | none =>
      have e9 : fgO none = -9 := rfl
      simp only [e9, if_true]
      refine m_sb_t H ha9 ha hfr ha0 hb hSB hQ n (t + 1) f' _ _ _ _ _ _ (by omega) (by omega) hr fun t' k1 k2 => ?_
      by_cases e2 : t' = t
      · rw [e2]; exact hF
      · exact h3 t' k1 (by omega)
    | some v =>
      have hv7 := fvT_7 hSB.1.2.2.2 hd8 h1 hb hF
      have e9 : fgO (some v) = nI v := rfl
      have hm : (swy h g nR a0 fr b).1 ≤ 999 := Classical.byContradiction fun z => by
        rw [w2 z t h1 (by omega)] at hF
        cases hF
      obtain ⟨z1, z2, z3⟩ := w1 hm
      have et : (swy h g nR a0 fr b).1 = t := by
        rcases Nat.lt_trichotomy (swy h g nR a0 fr b).1 t with q | q | q
        · rw [h3 _ z1 q] at z2
          cases z2
        · exact q
        · rw [z3 t h1 q] at hF
          cases hF
      simp only [e9, nI_ne9 (show v < 2 ^ 31 by omega), if_false]
      have hQ := hQ f' (fun _ => by
        rw [et, hv, ← et, z2]
        rfl)
      rw [if_pos hm, et] at hQ
      exact hQ
theorem m_sb (H : 69 ≤ u.length) (ha9 : a 9 = nI nS) (ha : a 10 = nI nR) {fr a0 b : Nat} (hfr : fr ≤ 999) (ha0 : a0 < nS) (hb : b < nS) (hSB : StM A nS nR h g ∧ ∀ k, k < nR → A 9 k = nI (bt0 g k)) (hQ : ∀ f', ((swy h g nR a0 fr b).1 ≤ 999 → f' (8 * (swy h g nR a0 fr b).1 + b) = nI (swy h g nR a0 fr b).2) → Q (some (.int (if (swy h g nR a0 fr b).1 ≤ 999 then nI (swy h g nR a0 fr b).1 else -9))) (mw u tr a (ua A 10 f'))) : Cl X (d + 2) 122 [.ref 57, .int (nI a0), .int (nI fr), .int (nI b)] (mw u tr a A) Q := by
  rw [e122]
  simp only [s122_0, s122_1, OpV_some, OpN_some, OpA_some, OpR_some, Option.toList_some, Option.toList_none, List.cons_append, List.nil_append, true_and, and_true, nI11, or_true, true_or, or_false, false_or]
  have := m_sb_t (X := X) (d := d) (tr := tr) H ha9 ha hfr ha0 hb hSB hQ (1000 - fr) fr (A 10) none none none none none none (by omega) (Nat.le_refl _) (fun t' k1 k2 => absurd k2 (by omega)) (fun t' k1 k2 => absurd k2 (by omega))
  rw [ua_id] at this
  exact this
end MSOON
