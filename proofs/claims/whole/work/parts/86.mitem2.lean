/-! doors, ropes, riders by the reference -/
theorem nneg {n : Nat} (h : n < 2 ^ 31) : ¬ nI n < 0 := by rw [nI_lt0 h]; exact id
theorem g8 {b : Nat → Int32} {x y z v : Int32} (h : b 8 < 0) : (t4 b x y z v) 8 < 0 := h
theorem g3 {b : Nat → Int32} {x y z v : Int32} {n : Nat} (h : b 3 = nI n) : (t4 b x y z v) 3 = nI n := h
section MITEMB
variable {X : am_X} {d : Nat} {Q : am_Q} {u w : am_W} {tr : Int64} {A : Nat → Nat → Int32} {le : Nat} {B : Nat → Nat} {a : Nat → Int32} {s : CSt}
/-- a door -/
theorem m_rd1 (H : 69 ≤ u.length) (R : Rel tr a A s) (V : Valid s) (h8 : a 8 < 0) (hA : ∀ i, i < le → A 0 i = nI (B i)) (h3 : a 3 = nI le) (hle : le ≤ 300) (hB : ∀ i, i < le → B i < 256) {t : TS} {r : RSt} {N : Nat → Nat} (ht : t.2.1 ≤ le) (ah : AH a B (tkn B le t)) (D : DR a A r) (hD1 : 2 ≤ r.1.1) (hD8 : r.1.1 ≤ 8)
    (hQ1 : (rdn B le 1 r.1.1 3 0 t N).1 = true → ∀ a' A', Rel tr a' A' s → AH a' B (tkn B le (rdn B le 1 r.1.1 3 0 t N).2.1) → DR a' A' (adI 1 (rdn B le 1 r.1.1 3 0 t N).2.2 r) → a' 8 = a 8 → a' 3 = a 3 → A' 0 = A 0 → Q none (mw u tr a' A'))
    (hQ2 : (rdn B le 1 r.1.1 3 0 t N).1 = false → ∀ a' A', Rel tr a' A' s → a' 8 = nI (rdn B le 1 r.1.1 3 0 t N).2.1.1 → Q none (mw u tr a' A')) : Cl X (d + 8) 97 [.ref 57, .int (nI 1)] (mw u tr a A) Q := by
  obtain ⟨k1, k2, k3, k4, k5, k6⟩ := tkn_ok B ht
  have D12 : a 12 = nI r.1.1 := D.1
  have e1 : nI r.1.1 - nI 1 = nI (r.1.1 - 1) := nI_subN (by omega)
  rw [e97]
  simp only [s97_0, s97_1, s97_34, s97_35, s97_36, s97_39, s97_40, s97_41, s97_42, s97_45, s97_46, s97_47, OpV_some, OpN_some, OpA_some, OpR_some, Option.toList_some, Option.toList_none, List.cons_append, List.nil_append, true_and, and_true, nI11, or_true, true_or, or_false, false_or, mI0 H, mP0 H, mI3 H, mP3 H, mI4 H, mP4 H, mI5 H, mP5 H, mI6 H, mP6 H, mI7 H, mP7 H, mI8 H, mP8 H, mI9 H, mP9 H, mI10 H, mP10 H, mI11 H, mP11 H, mI12 H, mP12 H, mI13 H, mP13 H, mI14 H, mP14 H, mI23 H, mP23 H, mI24 H, mP24 H, mI25 H, mP25 H, mI26 H, mP26 H, mI27 H, mP27 H, mI30 H, mP30 H, mI31 H, mP31 H, mI1 H, mP1 H, mR2 H, mR15 H, mR16 H, mR17 H, mR18 H, mR19 H, mR20 H, mR21 H, mR22 H, mR28 H, mR29 H, mA0 H, mS0 H, mA1 H, mS1 H, mA2 H, mS2 H, mA3 H, mS3 H, mA4 H, mS4 H, mA5 H, mS5 H, mA6 H, mS6 H, mA7 H, mS7 H, mA8 H, mS8 H, mA9 H, mS9 H, mA10 H, mS10 H, mw_cl H, fu_s, fu_n, ua_s, ua_n, Nat.reduceBEq, lt57, lt58, lt59, lt60, lt61, lt62, lt63, lt64, lt65, lt66, lt67, lt68, nI1z, if_false, if_true, D12, e1]
  refine m_number H h8 h3 hA hle hB ah k3 k4 k5 (by decide) (show r.1.1 - 1 < 1000 by omega) (fun c v hv => ?_) (fun c => ?_)
  · have c0 : (tkn B le t).2.2.1 = 2 ∧ okN 1 0 (tkn B le t).2.2.2 (N 0) r.1.1 = true := ⟨c.1, okN_iff.mpr ⟨fun q => absurd q.1 (by decide), c.2.1, c.2.2⟩⟩
    obtain ⟨x1, x2, x3, x4, x5, x6⟩ := tkn_ok B k3
    have cv0 : (tkn B le t).2.2.2 ≤ r.1.1 - 1 := c.2.2
    simp only [s97_50, s97_51, s97_52, s97_53, s97_55, OpV_some, OpN_some, OpA_some, OpR_some, Option.toList_some, Option.toList_none, List.cons_append, List.nil_append, true_and, and_true, nI11, or_true, true_or, or_false, false_or, mI0 H, mP0 H, mI3 H, mP3 H, mI4 H, mP4 H, mI5 H, mP5 H, mI6 H, mP6 H, mI7 H, mP7 H, mI8 H, mP8 H, mI9 H, mP9 H, mI10 H, mP10 H, mI11 H, mP11 H, mI12 H, mP12 H, mI13 H, mP13 H, mI14 H, mP14 H, mI23 H, mP23 H, mI24 H, mP24 H, mI25 H, mP25 H, mI26 H, mP26 H, mI27 H, mP27 H, mI30 H, mP30 H, mI31 H, mP31 H, mI1 H, mP1 H, mR2 H, mR15 H, mR16 H, mR17 H, mR18 H, mR19 H, mR20 H, mR21 H, mR22 H, mR28 H, mR29 H, mA0 H, mS0 H, mA1 H, mS1 H, mA2 H, mS2 H, mA3 H, mS3 H, mA4 H, mS4 H, mA5 H, mS5 H, mA6 H, mS6 H, mA7 H, mS7 H, mA8 H, mS8 H, mA9 H, mS9 H, mA10 H, mS10 H, mw_cl H, fu_s, fu_n, ua_s, ua_n, Nat.reduceBEq, lt57, lt58, lt59, lt60, lt61, lt62, lt63, lt64, lt65, lt66, lt67, lt68]
    refine m_number H (g8 h8) (g3 h3) hA hle hB (AH.t4 hv) x3 x4 x5 (by decide) (by decide) (fun c v2 hv2 => ?_) (fun c => ?_)
    · have c1 : (tkn B le (tkn B le t)).2.2.1 = 2 ∧ okN 1 1 (tkn B le (tkn B le t)).2.2.2 (upN N 0 (tkn B le t).2.2.2 0) r.1.1 = true := ⟨c.1, okN_iff.mpr ⟨fun q => absurd q.1 (by decide), c.2.1, c.2.2⟩⟩
      obtain ⟨y1, y2, y3, y4, y5, y6⟩ := tkn_ok B x3
      simp only [s97_58, s97_59, s97_60, s97_61, s97_63, OpV_some, OpN_some, OpA_some, OpR_some, Option.toList_some, Option.toList_none, List.cons_append, List.nil_append, true_and, and_true, nI11, or_true, true_or, or_false, false_or, mI0 H, mP0 H, mI3 H, mP3 H, mI4 H, mP4 H, mI5 H, mP5 H, mI6 H, mP6 H, mI7 H, mP7 H, mI8 H, mP8 H, mI9 H, mP9 H, mI10 H, mP10 H, mI11 H, mP11 H, mI12 H, mP12 H, mI13 H, mP13 H, mI14 H, mP14 H, mI23 H, mP23 H, mI24 H, mP24 H, mI25 H, mP25 H, mI26 H, mP26 H, mI27 H, mP27 H, mI30 H, mP30 H, mI31 H, mP31 H, mI1 H, mP1 H, mR2 H, mR15 H, mR16 H, mR17 H, mR18 H, mR19 H, mR20 H, mR21 H, mR22 H, mR28 H, mR29 H, mA0 H, mS0 H, mA1 H, mS1 H, mA2 H, mS2 H, mA3 H, mS3 H, mA4 H, mS4 H, mA5 H, mS5 H, mA6 H, mS6 H, mA7 H, mS7 H, mA8 H, mS8 H, mA9 H, mS9 H, mA10 H, mS10 H, mw_cl H, fu_s, fu_n, ua_s, ua_n, Nat.reduceBEq, lt57, lt58, lt59, lt60, lt61, lt62, lt63, lt64, lt65, lt66, lt67, lt68]
      refine m_number H (g8 (g8 h8)) (g3 (g3 h3)) hA hle hB (AH.t4 hv2) y3 y4 y5 (by decide) (by decide) (fun c v3 hv3 => ?_) (fun c => ?_)
      · have c2 : (tkn B le (tkn B le (tkn B le t))).2.2.1 = 2 ∧ okN 1 2 (tkn B le (tkn B le (tkn B le t))).2.2.2 (upN (upN N 0 (tkn B le t).2.2.2) 1 (tkn B le (tkn B le t)).2.2.2 0) r.1.1 = true := ⟨c.1, okN_iff.mpr ⟨fun q => absurd q.1 (by decide), c.2.1, c.2.2⟩⟩
        have hx : rdn B le 1 r.1.1 3 0 t N = (true, tkn B le (tkn B le (tkn B le t)), upN (upN (upN N 0 (tkn B le t).2.2.2) 1 (tkn B le (tkn B le t)).2.2.2) 2 (tkn B le (tkn B le (tkn B le t))).2.2.2) := by
          unfold rdn; rw [if_pos c0]; unfold rdn; rw [if_pos c1]; unfold rdn; rw [if_pos c2]; rfl
        rw [hx] at hQ1
        simp only [s97_66, s97_68, s97_69, s97_72, s97_75, s97_76, s97_79, s97_81, s97_82, s97_83, s97_84, s97_85, s97_86, s97_89, s97_91, s97_92, s97_93, s97_95, s97_96, s97_292, OpV_some, OpN_some, OpA_some, OpR_some, Option.toList_some, Option.toList_none, List.cons_append, List.nil_append, true_and, and_true, nI11, or_true, true_or, or_false, false_or, mI0 H, mP0 H, mI3 H, mP3 H, mI4 H, mP4 H, mI5 H, mP5 H, mI6 H, mP6 H, mI7 H, mP7 H, mI8 H, mP8 H, mI9 H, mP9 H, mI10 H, mP10 H, mI11 H, mP11 H, mI12 H, mP12 H, mI13 H, mP13 H, mI14 H, mP14 H, mI23 H, mP23 H, mI24 H, mP24 H, mI25 H, mP25 H, mI26 H, mP26 H, mI27 H, mP27 H, mI30 H, mP30 H, mI31 H, mP31 H, mI1 H, mP1 H, mR2 H, mR15 H, mR16 H, mR17 H, mR18 H, mR19 H, mR20 H, mR21 H, mR22 H, mR28 H, mR29 H, mA0 H, mS0 H, mA1 H, mS1 H, mA2 H, mS2 H, mA3 H, mS3 H, mA4 H, mS4 H, mA5 H, mS5 H, mA6 H, mS6 H, mA7 H, mS7 H, mA8 H, mS8 H, mA9 H, mS9 H, mA10 H, mS10 H, mw_cl H, fu_s, fu_n, ua_s, ua_n, Nat.reduceBEq, lt57, lt58, lt59, lt60, lt61, lt62, lt63, lt64, lt65, lt66, lt67, lt68, m_isWell H]
        have t48 : ∀ b x y z v, (t4 b x y z v) 8 = b 8 := fun _ _ _ _ _ => rfl
        simp only [t48, h8, if_true, nI1z, if_false, nI_add, in_nI (show 8 + (tkn B le t).2.2.2 < 16 by omega) (show 16 < 2 ^ 31 by omega), cl_nI (show 8 + (tkn B le t).2.2.2 < 2 ^ 31 by omega), true_and]
        refine hQ1 rfl _ _ ?_ ?_ ?_ ?_ ?_ ?_
        · refine R.dft V ?_ ?_ ?_ ?_ ?_ ?_ ?_ ?_ ?_ ?_ (fun j hj => ?_) (fun j hj => ?_) (fun j hj => ?_) (fun j hj => ?_)
          · rfl
          · rfl
          · rfl
          · rfl
          · rfl
          · rfl
          · rfl
          · rfl
          · rfl
          · rfl
          · exact upd_n _ _ (by omega)
          · exact upd_n _ _ (by omega)
          · rfl
          · rfl
        · exact ⟨rfl, rfl, rfl, hv3⟩
        rotate_left
        · rfl
        · rfl
        · rfl
        have e0 : upN (upN (upN N 0 (tkn B le t).2.2.2) 1 (tkn B le (tkn B le t)).2.2.2) 2 (tkn B le (tkn B le (tkn B le t))).2.2.2 0 = (tkn B le t).2.2.2 := rfl
        have e1 : upN (upN (upN N 0 (tkn B le t).2.2.2) 1 (tkn B le (tkn B le t)).2.2.2) 2 (tkn B le (tkn B le (tkn B le t))).2.2.2 1 = (tkn B le (tkn B le t)).2.2.2 := rfl
        have e2 : upN (upN (upN N 0 (tkn B le t).2.2.2) 1 (tkn B le (tkn B le t)).2.2.2) 2 (tkn B le (tkn B le (tkn B le t))).2.2.2 2 = (tkn B le (tkn B le (tkn B le t))).2.2.2 := rfl
        unfold adI
        rw [if_neg (by decide), if_pos rfl]
        show DR _ _ ((r.1.1, upN (upN r.1.2 (upN (upN (upN N 0 (tkn B le t).2.2.2) 1 (tkn B le (tkn B le t)).2.2.2) 2 (tkn B le (tkn B le (tkn B le t))).2.2.2 0 * 2) (upN (upN (upN N 0 (tkn B le t).2.2.2) 1 (tkn B le (tkn B le t)).2.2.2) 2 (tkn B le (tkn B le (tkn B le t))).2.2.2 1)) (upN (upN (upN N 0 (tkn B le t).2.2.2) 1 (tkn B le (tkn B le t)).2.2.2) 2 (tkn B le (tkn B le (tkn B le t))).2.2.2 0 * 2 + 1) (upN (upN (upN N 0 (tkn B le t).2.2.2) 1 (tkn B le (tkn B le t)).2.2.2) 2 (tkn B le (tkn B le (tkn B le t))).2.2.2 2)), r.2)
        rw [e0, e1, e2]
        refine ⟨D.1, D.2.1, D.2.2.1, fun q hq => ?_, D.2.2.2.2.1, D.2.2.2.2.2⟩
        obtain ⟨b1, b2⟩ := D.2.2.2.1 q hq
        show upd (A 1) (8 + (tkn B le t).2.2.2) (nI (tkn B le (tkn B le t)).2.2.2) (8 + q) = nI (upN (upN r.1.2 ((tkn B le t).2.2.2 * 2) (tkn B le (tkn B le t)).2.2.2) ((tkn B le t).2.2.2 * 2 + 1) (tkn B le (tkn B le (tkn B le t))).2.2.2 (q * 2)) ∧ upd (A 2) (8 + (tkn B le t).2.2.2) (nI (tkn B le (tkn B le (tkn B le t))).2.2.2) (8 + q) = nI (upN (upN r.1.2 ((tkn B le t).2.2.2 * 2) (tkn B le (tkn B le t)).2.2.2) ((tkn B le t).2.2.2 * 2 + 1) (tkn B le (tkn B le (tkn B le t))).2.2.2 (q * 2 + 1))
        by_cases e : q = (tkn B le t).2.2.2
        · rw [← e, upd_s, upd_s, upN_n _ _ (by omega), upN_s, upN_s]
          exact ⟨rfl, rfl⟩
        · rw [upd_n _ _ (by omega), upd_n _ _ (by omega), upN_n _ _ (by omega), upN_n _ _ (by omega), upN_n _ _ (by omega), upN_n _ _ (by omega)]
          exact ⟨b1, b2⟩
      · have hx : rdn B le 1 r.1.1 3 0 t N = (false, tkn B le (tkn B le (tkn B le t)), upN (upN N 0 (tkn B le t).2.2.2) 1 (tkn B le (tkn B le t)).2.2.2) := by
          unfold rdn; rw [if_pos c0]; unfold rdn; rw [if_pos c1]; unfold rdn
          rw [if_neg]
          rintro ⟨q1, q2⟩
          have := okN_iff.mp q2
          exact c ⟨q1, this.2.1, this.2.2⟩
        rw [hx] at hQ2
        simp only [s97_66, s97_68, s97_69, s97_72, s97_75, s97_76, s97_79, s97_81, s97_82, s97_83, s97_84, s97_85, s97_86, s97_89, s97_91, s97_92, s97_93, s97_95, s97_96, s97_292, OpV_some, OpN_some, OpA_some, OpR_some, Option.toList_some, Option.toList_none, List.cons_append, List.nil_append, true_and, and_true, nI11, or_true, true_or, or_false, false_or, mI0 H, mP0 H, mI3 H, mP3 H, mI4 H, mP4 H, mI5 H, mP5 H, mI6 H, mP6 H, mI7 H, mP7 H, mI8 H, mP8 H, mI9 H, mP9 H, mI10 H, mP10 H, mI11 H, mP11 H, mI12 H, mP12 H, mI13 H, mP13 H, mI14 H, mP14 H, mI23 H, mP23 H, mI24 H, mP24 H, mI25 H, mP25 H, mI26 H, mP26 H, mI27 H, mP27 H, mI30 H, mP30 H, mI31 H, mP31 H, mI1 H, mP1 H, mR2 H, mR15 H, mR16 H, mR17 H, mR18 H, mR19 H, mR20 H, mR21 H, mR22 H, mR28 H, mR29 H, mA0 H, mS0 H, mA1 H, mS1 H, mA2 H, mS2 H, mA3 H, mS3 H, mA4 H, mS4 H, mA5 H, mS5 H, mA6 H, mS6 H, mA7 H, mS7 H, mA8 H, mS8 H, mA9 H, mS9 H, mA10 H, mS10 H, mw_cl H, fu_s, fu_n, ua_s, ua_n, Nat.reduceBEq, lt57, lt58, lt59, lt60, lt61, lt62, lt63, lt64, lt65, lt66, lt67, lt68, m_isWell H, nneg (show (tkn B le (tkn B le (tkn B le t))).1 < 2 ^ 31 by omega), if_false, nI0z, if_true]
        exact hQ2 rfl _ _ (R.cg rfl rfl rfl rfl rfl fun _ _ => rfl) rfl
    · have hx : rdn B le 1 r.1.1 3 0 t N = (false, tkn B le (tkn B le t), upN N 0 (tkn B le t).2.2.2) := by
        unfold rdn; rw [if_pos c0]; unfold rdn
        rw [if_neg]
        rintro ⟨q1, q2⟩
        have := okN_iff.mp q2
        exact c ⟨q1, this.2.1, this.2.2⟩
      rw [hx] at hQ2
      have hn := nneg (show (tkn B le (tkn B le t)).1 < 2 ^ 31 by omega)
      simp only [s97_58, s97_59, s97_60, s97_61, s97_63, s97_66, s97_68, s97_69, s97_72, s97_75, s97_76, s97_79, s97_81, s97_82, s97_83, s97_84, s97_85, s97_86, s97_89, s97_91, s97_92, s97_93, s97_95, s97_96, s97_292, OpV_some, OpN_some, OpA_some, OpR_some, Option.toList_some, Option.toList_none, List.cons_append, List.nil_append, true_and, and_true, nI11, or_true, true_or, or_false, false_or, mI0 H, mP0 H, mI3 H, mP3 H, mI4 H, mP4 H, mI5 H, mP5 H, mI6 H, mP6 H, mI7 H, mP7 H, mI8 H, mP8 H, mI9 H, mP9 H, mI10 H, mP10 H, mI11 H, mP11 H, mI12 H, mP12 H, mI13 H, mP13 H, mI14 H, mP14 H, mI23 H, mP23 H, mI24 H, mP24 H, mI25 H, mP25 H, mI26 H, mP26 H, mI27 H, mP27 H, mI30 H, mP30 H, mI31 H, mP31 H, mI1 H, mP1 H, mR2 H, mR15 H, mR16 H, mR17 H, mR18 H, mR19 H, mR20 H, mR21 H, mR22 H, mR28 H, mR29 H, mA0 H, mS0 H, mA1 H, mS1 H, mA2 H, mS2 H, mA3 H, mS3 H, mA4 H, mS4 H, mA5 H, mS5 H, mA6 H, mS6 H, mA7 H, mS7 H, mA8 H, mS8 H, mA9 H, mS9 H, mA10 H, mS10 H, mw_cl H, fu_s, fu_n, ua_s, ua_n, Nat.reduceBEq, lt57, lt58, lt59, lt60, lt61, lt62, lt63, lt64, lt65, lt66, lt67, lt68, m_number_ill (a := fu (t4 a (nI (tkn B le (tkn B le t)).2.1) (nI (mtok B (tkn B le (tkn B le t)))) (nI (tkn B le (tkn B le t)).1) v) 8 (nI (tkn B le (tkn B le t)).1)) H hn, m_isWell H, hn, if_false, nI0z, if_true]
      exact hQ2 rfl _ _ (R.cg rfl rfl rfl rfl rfl fun _ _ => rfl) rfl
  · have hx : rdn B le 1 r.1.1 3 0 t N = (false, tkn B le t, N) := by
      unfold rdn
      rw [if_neg]
      rintro ⟨q1, q2⟩
      have := okN_iff.mp q2
      exact c ⟨q1, this.2.1, this.2.2⟩
    rw [hx] at hQ2
    have hn := nneg (show (tkn B le t).1 < 2 ^ 31 by omega)
    simp only [s97_50, s97_51, s97_52, s97_53, s97_55, s97_58, s97_59, s97_60, s97_61, s97_63, s97_66, s97_68, s97_69, s97_72, s97_75, s97_76, s97_79, s97_81, s97_82, s97_83, s97_84, s97_85, s97_86, s97_89, s97_91, s97_92, s97_93, s97_95, s97_96, s97_292, OpV_some, OpN_some, OpA_some, OpR_some, Option.toList_some, Option.toList_none, List.cons_append, List.nil_append, true_and, and_true, nI11, or_true, true_or, or_false, false_or, mI0 H, mP0 H, mI3 H, mP3 H, mI4 H, mP4 H, mI5 H, mP5 H, mI6 H, mP6 H, mI7 H, mP7 H, mI8 H, mP8 H, mI9 H, mP9 H, mI10 H, mP10 H, mI11 H, mP11 H, mI12 H, mP12 H, mI13 H, mP13 H, mI14 H, mP14 H, mI23 H, mP23 H, mI24 H, mP24 H, mI25 H, mP25 H, mI26 H, mP26 H, mI27 H, mP27 H, mI30 H, mP30 H, mI31 H, mP31 H, mI1 H, mP1 H, mR2 H, mR15 H, mR16 H, mR17 H, mR18 H, mR19 H, mR20 H, mR21 H, mR22 H, mR28 H, mR29 H, mA0 H, mS0 H, mA1 H, mS1 H, mA2 H, mS2 H, mA3 H, mS3 H, mA4 H, mS4 H, mA5 H, mS5 H, mA6 H, mS6 H, mA7 H, mS7 H, mA8 H, mS8 H, mA9 H, mS9 H, mA10 H, mS10 H, mw_cl H, fu_s, fu_n, ua_s, ua_n, Nat.reduceBEq, lt57, lt58, lt59, lt60, lt61, lt62, lt63, lt64, lt65, lt66, lt67, lt68, m_number_ill (a := fu a 8 (nI (tkn B le t).1)) H hn, m_isWell H, hn, if_false, nI0z, if_true]
    exact hQ2 rfl _ _ (R.cg rfl rfl rfl rfl rfl fun _ _ => rfl) rfl
/-- a rider -/
theorem m_rd3 (H : 69 ≤ u.length) (R : Rel tr a A s) (V : Valid s) (h8 : a 8 < 0) (hA : ∀ i, i < le → A 0 i = nI (B i)) (h3 : a 3 = nI le) (hle : le ≤ 300) (hB : ∀ i, i < le → B i < 256) {t : TS} {r : RSt} {N : Nat → Nat} (ht : t.2.1 ≤ le) (ah : AH a B (tkn B le t)) (D : DR a A r) (hD1 : 2 ≤ r.1.1) (hD8 : r.1.1 ≤ 8) (hP : r.2.2.1 < 4)
    (hQ1 : (rdn B le 3 r.1.1 3 0 t N).1 = true → ∀ a' A', Rel tr a' A' s → AH a' B (tkn B le (rdn B le 3 r.1.1 3 0 t N).2.1) → DR a' A' (adI 3 (rdn B le 3 r.1.1 3 0 t N).2.2 r) → a' 8 = a 8 → a' 3 = a 3 → A' 0 = A 0 → Q none (mw u tr a' A'))
    (hQ2 : (rdn B le 3 r.1.1 3 0 t N).1 = false → ∀ a' A', Rel tr a' A' s → a' 8 = nI (rdn B le 3 r.1.1 3 0 t N).2.1.1 → Q none (mw u tr a' A')) : Cl X (d + 8) 97 [.ref 57, .int (nI 3)] (mw u tr a A) Q := by
  obtain ⟨k1, k2, k3, k4, k5, k6⟩ := tkn_ok B ht
  have D12 : a 12 = nI r.1.1 := D.1
  have D14 : a 14 = nI r.2.2.1 := D.2.2.1
  have t414 : ∀ (b : Nat → Int32) x y z v, (t4 b x y z v) 14 = b 14 := fun _ _ _ _ _ => rfl
  have e1 : nI r.1.1 - nI 1 = nI (r.1.1 - 1) := nI_subN (by omega)
  have RR : ∀ (b : Nat → Int32) w0 w1 w2, b 3 = a 3 → b 9 = a 9 → b 10 = a 10 → b 11 = a 11 → b 23 = a 23 → Rel tr b (ua A 4 (upd (upd (upd (A 4) (12 + 3 * r.2.2.1) w0) (12 + 3 * r.2.2.1 + 1) w1) (12 + 3 * r.2.2.1 + 2) w2)) s := fun b w0 w1 w2 b3 b9 b10 b11 b23 => R.dft V b3 b9 b10 b11 b23 rfl rfl rfl rfl rfl (fun j hj => rfl) (fun j hj => rfl) (fun j hj => rfl) (fun j hj => by
    rw [ua_s, upd_n _ _ (by omega), upd_n _ _ (by omega), upd_n _ _ (by omega)])
  rw [e97]
  simp only [s97_0, s97_1, s97_34, s97_35, s97_36, s97_99, s97_100, s97_101, s97_226, s97_228, s97_229, s97_230, s97_233, s97_234, s97_235, s97_236, s97_237, s97_240, s97_241, s97_242, s97_243, s97_244, s97_247, s97_248, s97_249, OpV_some, OpN_some, OpA_some, OpR_some, Option.toList_some, Option.toList_none, List.cons_append, List.nil_append, true_and, and_true, nI11, or_true, true_or, or_false, false_or, mI0 H, mP0 H, mI3 H, mP3 H, mI4 H, mP4 H, mI5 H, mP5 H, mI6 H, mP6 H, mI7 H, mP7 H, mI8 H, mP8 H, mI9 H, mP9 H, mI10 H, mP10 H, mI11 H, mP11 H, mI12 H, mP12 H, mI13 H, mP13 H, mI14 H, mP14 H, mI23 H, mP23 H, mI24 H, mP24 H, mI25 H, mP25 H, mI26 H, mP26 H, mI27 H, mP27 H, mI30 H, mP30 H, mI31 H, mP31 H, mI1 H, mP1 H, mR2 H, mR15 H, mR16 H, mR17 H, mR18 H, mR19 H, mR20 H, mR21 H, mR22 H, mR28 H, mR29 H, mA0 H, mS0 H, mA1 H, mS1 H, mA2 H, mS2 H, mA3 H, mS3 H, mA4 H, mS4 H, mA5 H, mS5 H, mA6 H, mS6 H, mA7 H, mS7 H, mA8 H, mS8 H, mA9 H, mS9 H, mA10 H, mS10 H, mw_cl H, fu_s, fu_n, ua_s, ua_n, Nat.reduceBEq, lt57, lt58, lt59, lt60, lt61, lt62, lt63, lt64, lt65, lt66, lt67, lt68, show (nI 3 = 0) = False by decide, show (nI 3 = nI 1) = False by decide, show (nI 3 = nI 2) = False by decide, if_false, D12, D14, e1, pk_mul, nI_add]
  refine m_number H h8 h3 hA hle hB ah k3 k4 k5 (by decide) (show r.1.1 - 1 < 1000 by omega) (fun c v hv => ?_) (fun c => ?_)
  · have c0 : (tkn B le t).2.2.1 = 2 ∧ okN 3 0 (tkn B le t).2.2.2 (N 0) r.1.1 = true := ⟨c.1, okN_iff.mpr ⟨fun q => absurd q.1 (by decide), c.2.1, c.2.2⟩⟩
    obtain ⟨x1, x2, x3, x4, x5, x6⟩ := tkn_ok B k3
    simp only [s97_252, s97_253, s97_254, s97_257, s97_258, s97_259, s97_260, s97_261, s97_262, s97_263, OpV_some, OpN_some, OpA_some, OpR_some, Option.toList_some, Option.toList_none, List.cons_append, List.nil_append, true_and, and_true, nI11, or_true, true_or, or_false, false_or, mI0 H, mP0 H, mI3 H, mP3 H, mI4 H, mP4 H, mI5 H, mP5 H, mI6 H, mP6 H, mI7 H, mP7 H, mI8 H, mP8 H, mI9 H, mP9 H, mI10 H, mP10 H, mI11 H, mP11 H, mI12 H, mP12 H, mI13 H, mP13 H, mI14 H, mP14 H, mI23 H, mP23 H, mI24 H, mP24 H, mI25 H, mP25 H, mI26 H, mP26 H, mI27 H, mP27 H, mI30 H, mP30 H, mI31 H, mP31 H, mI1 H, mP1 H, mR2 H, mR15 H, mR16 H, mR17 H, mR18 H, mR19 H, mR20 H, mR21 H, mR22 H, mR28 H, mR29 H, mA0 H, mS0 H, mA1 H, mS1 H, mA2 H, mS2 H, mA3 H, mS3 H, mA4 H, mS4 H, mA5 H, mS5 H, mA6 H, mS6 H, mA7 H, mS7 H, mA8 H, mS8 H, mA9 H, mS9 H, mA10 H, mS10 H, mw_cl H, fu_s, fu_n, ua_s, ua_n, Nat.reduceBEq, lt57, lt58, lt59, lt60, lt61, lt62, lt63, lt64, lt65, lt66, lt67, lt68, nI_add, in_nI (show 12 + 3 * r.2.2.1 < 24 by omega) (show 24 < 2 ^ 31 by omega), cl_nI (show 12 + 3 * r.2.2.1 < 2 ^ 31 by omega)]
    refine m_number H (g8 h8) (g3 h3) (show ∀ i, i < le → (ua A 4 _) 0 i = nI (B i) from hA) hle hB (AH.t4 hv) x3 x4 x5 (by decide) (by decide) (fun c v2 hv2 => ?_) (fun c => ?_)
    · have c1 : (tkn B le (tkn B le t)).2.2.1 = 2 ∧ okN 3 1 (tkn B le (tkn B le t)).2.2.2 (upN N 0 (tkn B le t).2.2.2 0) r.1.1 = true := ⟨c.1, okN_iff.mpr ⟨fun q => absurd q.1 (by decide), c.2.1, c.2.2⟩⟩
      obtain ⟨y1, y2, y3, y4, y5, y6⟩ := tkn_ok B x3
      simp only [s97_266, s97_267, s97_268, s97_271, s97_272, s97_273, s97_274, s97_275, s97_276, s97_278, OpV_some, OpN_some, OpA_some, OpR_some, Option.toList_some, Option.toList_none, List.cons_append, List.nil_append, true_and, and_true, nI11, or_true, true_or, or_false, false_or, mI0 H, mP0 H, mI3 H, mP3 H, mI4 H, mP4 H, mI5 H, mP5 H, mI6 H, mP6 H, mI7 H, mP7 H, mI8 H, mP8 H, mI9 H, mP9 H, mI10 H, mP10 H, mI11 H, mP11 H, mI12 H, mP12 H, mI13 H, mP13 H, mI14 H, mP14 H, mI23 H, mP23 H, mI24 H, mP24 H, mI25 H, mP25 H, mI26 H, mP26 H, mI27 H, mP27 H, mI30 H, mP30 H, mI31 H, mP31 H, mI1 H, mP1 H, mR2 H, mR15 H, mR16 H, mR17 H, mR18 H, mR19 H, mR20 H, mR21 H, mR22 H, mR28 H, mR29 H, mA0 H, mS0 H, mA1 H, mS1 H, mA2 H, mS2 H, mA3 H, mS3 H, mA4 H, mS4 H, mA5 H, mS5 H, mA6 H, mS6 H, mA7 H, mS7 H, mA8 H, mS8 H, mA9 H, mS9 H, mA10 H, mS10 H, mw_cl H, fu_s, fu_n, ua_s, ua_n, Nat.reduceBEq, lt57, lt58, lt59, lt60, lt61, lt62, lt63, lt64, lt65, lt66, lt67, lt68, ua_ua, nI_add, in_nI (show 12 + 3 * r.2.2.1 + 1 < 24 by omega) (show 24 < 2 ^ 31 by omega), cl_nI (show 12 + 3 * r.2.2.1 + 1 < 2 ^ 31 by omega)]
      refine m_number H (g8 (g8 h8)) (g3 (g3 h3)) (show ∀ i, i < le → (ua A 4 _) 0 i = nI (B i) from hA) hle hB (AH.t4 hv2) y3 y4 y5 (by decide) (by decide) (fun c v3 hv3 => ?_) (fun c => ?_)
      · have c2 : (tkn B le (tkn B le (tkn B le t))).2.2.1 = 2 ∧ okN 3 2 (tkn B le (tkn B le (tkn B le t))).2.2.2 (upN (upN N 0 (tkn B le t).2.2.2) 1 (tkn B le (tkn B le t)).2.2.2 0) r.1.1 = true := ⟨c.1, okN_iff.mpr ⟨fun q => absurd q.1 (by decide), c.2.1, c.2.2⟩⟩
        have hx : rdn B le 3 r.1.1 3 0 t N = (true, tkn B le (tkn B le (tkn B le t)), upN (upN (upN N 0 (tkn B le t).2.2.2) 1 (tkn B le (tkn B le t)).2.2.2) 2 (tkn B le (tkn B le (tkn B le t))).2.2.2) := by
          unfold rdn; rw [if_pos c0]; unfold rdn; rw [if_pos c1]; unfold rdn; rw [if_pos c2]; rfl
        rw [hx] at hQ1
        simp only [s97_281, s97_282, s97_283, s97_284, s97_287, s97_288, s97_289, s97_292, OpV_some, OpN_some, OpA_some, OpR_some, Option.toList_some, Option.toList_none, List.cons_append, List.nil_append, true_and, and_true, nI11, or_true, true_or, or_false, false_or, mI0 H, mP0 H, mI3 H, mP3 H, mI4 H, mP4 H, mI5 H, mP5 H, mI6 H, mP6 H, mI7 H, mP7 H, mI8 H, mP8 H, mI9 H, mP9 H, mI10 H, mP10 H, mI11 H, mP11 H, mI12 H, mP12 H, mI13 H, mP13 H, mI14 H, mP14 H, mI23 H, mP23 H, mI24 H, mP24 H, mI25 H, mP25 H, mI26 H, mP26 H, mI27 H, mP27 H, mI30 H, mP30 H, mI31 H, mP31 H, mI1 H, mP1 H, mR2 H, mR15 H, mR16 H, mR17 H, mR18 H, mR19 H, mR20 H, mR21 H, mR22 H, mR28 H, mR29 H, mA0 H, mS0 H, mA1 H, mS1 H, mA2 H, mS2 H, mA3 H, mS3 H, mA4 H, mS4 H, mA5 H, mS5 H, mA6 H, mS6 H, mA7 H, mS7 H, mA8 H, mS8 H, mA9 H, mS9 H, mA10 H, mS10 H, mw_cl H, fu_s, fu_n, ua_s, ua_n, Nat.reduceBEq, lt57, lt58, lt59, lt60, lt61, lt62, lt63, lt64, lt65, lt66, lt67, lt68, ua_ua, t414, D14, nI_add, in_nI (show 12 + 3 * r.2.2.1 + 2 < 24 by omega) (show 24 < 2 ^ 31 by omega), cl_nI (show 12 + 3 * r.2.2.1 + 2 < 2 ^ 31 by omega)]
        refine hQ1 rfl _ _ (RR _ _ _ _ rfl rfl rfl rfl rfl) ?_ ?_ ?_ ?_ ?_
        · exact ⟨rfl, rfl, rfl, hv3⟩
        rotate_left
        · rfl
        · rfl
        · rfl
        unfold adI
        rw [if_neg (by decide), if_neg (by decide), if_neg (by decide)]
        refine ⟨D.1, D.2.1, rfl, D.2.2.2.1, D.2.2.2.2.1, fun q hq => ?_⟩
        have hq2 : q < r.2.2.1 + 1 := hq
        show upd (upd (upd (A 4) (12 + 3 * r.2.2.1) _) (12 + 3 * r.2.2.1 + 1) _) (12 + 3 * r.2.2.1 + 2) _ (12 + 3 * q) = nI (pdn r.2.2.2 r.2.2.1 _ (q * 5)) ∧ upd (upd (upd (A 4) (12 + 3 * r.2.2.1) _) (12 + 3 * r.2.2.1 + 1) _) (12 + 3 * r.2.2.1 + 2) _ (12 + 3 * q + 1) = nI (pdn r.2.2.2 r.2.2.1 _ (q * 5 + 2)) ∧ upd (upd (upd (A 4) (12 + 3 * r.2.2.1) _) (12 + 3 * r.2.2.1 + 1) _) (12 + 3 * r.2.2.1 + 2) _ (12 + 3 * q + 2) = nI (pdn r.2.2.2 r.2.2.1 _ (q * 5 + 3))
        unfold pdn
        by_cases e : q = r.2.2.1
        · subst e
          refine ⟨?_, ?_, ?_⟩
          · rw [upd_n _ _ (by omega), upd_n _ _ (by omega), upd_s, upN_n _ _ (by omega), upN_n _ _ (by omega), upN_n _ _ (by omega), upN_n _ _ (by omega), upN_s]; rfl
          · rw [upd_n _ _ (by omega), upd_s, upN_n _ _ (by omega), upN_n _ _ (by omega), upN_s]; rfl
          · rw [upd_s, upN_n _ _ (by omega), upN_s]; rfl
        · obtain ⟨b0, b1, b2⟩ := D.2.2.2.2.2 q (by omega)
          refine ⟨?_, ?_, ?_⟩
          · rw [upd_n _ _ (by omega), upd_n _ _ (by omega), upd_n _ _ (by omega), upN_n _ _ (by omega), upN_n _ _ (by omega), upN_n _ _ (by omega), upN_n _ _ (by omega), upN_n _ _ (by omega)]; exact b0
          · rw [upd_n _ _ (by omega), upd_n _ _ (by omega), upd_n _ _ (by omega), upN_n _ _ (by omega), upN_n _ _ (by omega), upN_n _ _ (by omega), upN_n _ _ (by omega), upN_n _ _ (by omega)]; exact b1
          · rw [upd_n _ _ (by omega), upd_n _ _ (by omega), upd_n _ _ (by omega), upN_n _ _ (by omega), upN_n _ _ (by omega), upN_n _ _ (by omega), upN_n _ _ (by omega), upN_n _ _ (by omega)]; exact b2
      · have hx : rdn B le 3 r.1.1 3 0 t N = (false, tkn B le (tkn B le (tkn B le t)), upN (upN N 0 (tkn B le t).2.2.2) 1 (tkn B le (tkn B le t)).2.2.2) := by
          unfold rdn; rw [if_pos c0]; unfold rdn; rw [if_pos c1]; unfold rdn
          rw [if_neg]
          rintro ⟨q1, q2⟩
          have := okN_iff.mp q2
          exact c ⟨q1, this.2.1, this.2.2⟩
        rw [hx] at hQ2
        simp only [s97_281, s97_282, s97_283, s97_284, s97_287, s97_288, s97_289, s97_292, OpV_some, OpN_some, OpA_some, OpR_some, Option.toList_some, Option.toList_none, List.cons_append, List.nil_append, true_and, and_true, nI11, or_true, true_or, or_false, false_or, mI0 H, mP0 H, mI3 H, mP3 H, mI4 H, mP4 H, mI5 H, mP5 H, mI6 H, mP6 H, mI7 H, mP7 H, mI8 H, mP8 H, mI9 H, mP9 H, mI10 H, mP10 H, mI11 H, mP11 H, mI12 H, mP12 H, mI13 H, mP13 H, mI14 H, mP14 H, mI23 H, mP23 H, mI24 H, mP24 H, mI25 H, mP25 H, mI26 H, mP26 H, mI27 H, mP27 H, mI30 H, mP30 H, mI31 H, mP31 H, mI1 H, mP1 H, mR2 H, mR15 H, mR16 H, mR17 H, mR18 H, mR19 H, mR20 H, mR21 H, mR22 H, mR28 H, mR29 H, mA0 H, mS0 H, mA1 H, mS1 H, mA2 H, mS2 H, mA3 H, mS3 H, mA4 H, mS4 H, mA5 H, mS5 H, mA6 H, mS6 H, mA7 H, mS7 H, mA8 H, mS8 H, mA9 H, mS9 H, mA10 H, mS10 H, mw_cl H, fu_s, fu_n, ua_s, ua_n, Nat.reduceBEq, lt57, lt58, lt59, lt60, lt61, lt62, lt63, lt64, lt65, lt66, lt67, lt68, ua_ua, t414, D14, nI_add, in_nI (show 12 + 3 * r.2.2.1 + 2 < 24 by omega) (show 24 < 2 ^ 31 by omega), cl_nI (show 12 + 3 * r.2.2.1 + 2 < 2 ^ 31 by omega)]
        exact hQ2 rfl _ _ (RR _ _ _ _ rfl rfl rfl rfl rfl) rfl
    · have hx : rdn B le 3 r.1.1 3 0 t N = (false, tkn B le (tkn B le t), upN N 0 (tkn B le t).2.2.2) := by
        unfold rdn; rw [if_pos c0]; unfold rdn
        rw [if_neg]
        rintro ⟨q1, q2⟩
        have := okN_iff.mp q2
        exact c ⟨q1, this.2.1, this.2.2⟩
      rw [hx] at hQ2
      have hn := nneg (show (tkn B le (tkn B le t)).1 < 2 ^ 31 by omega)
      simp only [s97_266, s97_267, s97_268, s97_271, s97_272, s97_273, s97_274, s97_275, s97_276, s97_278, s97_281, s97_282, s97_283, s97_284, s97_287, s97_288, s97_289, s97_292, OpV_some, OpN_some, OpA_some, OpR_some, Option.toList_some, Option.toList_none, List.cons_append, List.nil_append, true_and, and_true, nI11, or_true, true_or, or_false, false_or, mI0 H, mP0 H, mI3 H, mP3 H, mI4 H, mP4 H, mI5 H, mP5 H, mI6 H, mP6 H, mI7 H, mP7 H, mI8 H, mP8 H, mI9 H, mP9 H, mI10 H, mP10 H, mI11 H, mP11 H, mI12 H, mP12 H, mI13 H, mP13 H, mI14 H, mP14 H, mI23 H, mP23 H, mI24 H, mP24 H, mI25 H, mP25 H, mI26 H, mP26 H, mI27 H, mP27 H, mI30 H, mP30 H, mI31 H, mP31 H, mI1 H, mP1 H, mR2 H, mR15 H, mR16 H, mR17 H, mR18 H, mR19 H, mR20 H, mR21 H, mR22 H, mR28 H, mR29 H, mA0 H, mS0 H, mA1 H, mS1 H, mA2 H, mS2 H, mA3 H, mS3 H, mA4 H, mS4 H, mA5 H, mS5 H, mA6 H, mS6 H, mA7 H, mS7 H, mA8 H, mS8 H, mA9 H, mS9 H, mA10 H, mS10 H, mw_cl H, fu_s, fu_n, ua_s, ua_n, Nat.reduceBEq, lt57, lt58, lt59, lt60, lt61, lt62, lt63, lt64, lt65, lt66, lt67, lt68, ua_ua, m_number_ill (a := fu (t4 a (nI (tkn B le (tkn B le t)).2.1) (nI (mtok B (tkn B le (tkn B le t)))) (nI (tkn B le (tkn B le t)).1) v) 8 (nI (tkn B le (tkn B le t)).1)) H hn, t414, D14, nI_add, in_nI (show 12 + 3 * r.2.2.1 + 1 < 24 by omega) (show 24 < 2 ^ 31 by omega), cl_nI (show 12 + 3 * r.2.2.1 + 1 < 2 ^ 31 by omega), in_nI (show 12 + 3 * r.2.2.1 + 2 < 24 by omega) (show 24 < 2 ^ 31 by omega), cl_nI (show 12 + 3 * r.2.2.1 + 2 < 2 ^ 31 by omega)]
      exact hQ2 rfl _ _ (RR _ _ _ _ rfl rfl rfl rfl rfl) rfl
  · have hx : rdn B le 3 r.1.1 3 0 t N = (false, tkn B le t, N) := by
      unfold rdn
      rw [if_neg]
      rintro ⟨q1, q2⟩
      have := okN_iff.mp q2
      exact c ⟨q1, this.2.1, this.2.2⟩
    rw [hx] at hQ2
    have hn := nneg (show (tkn B le t).1 < 2 ^ 31 by omega)
    simp only [s97_252, s97_253, s97_254, s97_257, s97_258, s97_259, s97_260, s97_261, s97_262, s97_263, s97_266, s97_267, s97_268, s97_271, s97_272, s97_273, s97_274, s97_275, s97_276, s97_278, s97_281, s97_282, s97_283, s97_284, s97_287, s97_288, s97_289, s97_292, OpV_some, OpN_some, OpA_some, OpR_some, Option.toList_some, Option.toList_none, List.cons_append, List.nil_append, true_and, and_true, nI11, or_true, true_or, or_false, false_or, mI0 H, mP0 H, mI3 H, mP3 H, mI4 H, mP4 H, mI5 H, mP5 H, mI6 H, mP6 H, mI7 H, mP7 H, mI8 H, mP8 H, mI9 H, mP9 H, mI10 H, mP10 H, mI11 H, mP11 H, mI12 H, mP12 H, mI13 H, mP13 H, mI14 H, mP14 H, mI23 H, mP23 H, mI24 H, mP24 H, mI25 H, mP25 H, mI26 H, mP26 H, mI27 H, mP27 H, mI30 H, mP30 H, mI31 H, mP31 H, mI1 H, mP1 H, mR2 H, mR15 H, mR16 H, mR17 H, mR18 H, mR19 H, mR20 H, mR21 H, mR22 H, mR28 H, mR29 H, mA0 H, mS0 H, mA1 H, mS1 H, mA2 H, mS2 H, mA3 H, mS3 H, mA4 H, mS4 H, mA5 H, mS5 H, mA6 H, mS6 H, mA7 H, mS7 H, mA8 H, mS8 H, mA9 H, mS9 H, mA10 H, mS10 H, mw_cl H, fu_s, fu_n, ua_s, ua_n, Nat.reduceBEq, lt57, lt58, lt59, lt60, lt61, lt62, lt63, lt64, lt65, lt66, lt67, lt68, ua_ua, m_number_ill (a := fu a 8 (nI (tkn B le t).1)) H hn, D14, nI_add, in_nI (show 12 + 3 * r.2.2.1 < 24 by omega) (show 24 < 2 ^ 31 by omega), cl_nI (show 12 + 3 * r.2.2.1 < 2 ^ 31 by omega), in_nI (show 12 + 3 * r.2.2.1 + 1 < 24 by omega) (show 24 < 2 ^ 31 by omega), cl_nI (show 12 + 3 * r.2.2.1 + 1 < 2 ^ 31 by omega), in_nI (show 12 + 3 * r.2.2.1 + 2 < 24 by omega) (show 24 < 2 ^ 31 by omega), cl_nI (show 12 + 3 * r.2.2.1 + 2 < 2 ^ 31 by omega)]
    exact hQ2 rfl _ _ (RR _ _ _ _ rfl rfl rfl rfl rfl) rfl
/-- a rope -/
theorem m_rd2 (H : 69 ≤ u.length) (R : Rel tr a A s) (V : Valid s) (h8 : a 8 < 0) (hA : ∀ i, i < le → A 0 i = nI (B i)) (h3 : a 3 = nI le) (hle : le ≤ 300) (hB : ∀ i, i < le → B i < 256) {t : TS} {r : RSt} {N : Nat → Nat} (ht : t.2.1 ≤ le) (ah : AH a B (tkn B le t)) (D : DR a A r) (hD1 : 2 ≤ r.1.1) (hD8 : r.1.1 ≤ 8) (hP : r.2.1.1 < 8)
    (hQ1 : (rdn B le 2 r.1.1 4 0 t N).1 = true → ∀ a' A', Rel tr a' A' s → AH a' B (tkn B le (rdn B le 2 r.1.1 4 0 t N).2.1) → DR a' A' (adI 2 (rdn B le 2 r.1.1 4 0 t N).2.2 r) → a' 8 = a 8 → a' 3 = a 3 → A' 0 = A 0 → Q none (mw u tr a' A'))
    (hQ2 : (rdn B le 2 r.1.1 4 0 t N).1 = false → ∀ a' A', Rel tr a' A' s → a' 8 = nI (rdn B le 2 r.1.1 4 0 t N).2.1.1 → Q none (mw u tr a' A')) : Cl X (d + 8) 97 [.ref 57, .int (nI 2)] (mw u tr a A) Q := by
  obtain ⟨k1, k2, k3, k4, k5, k6⟩ := tkn_ok B ht
  have D12 : a 12 = nI r.1.1 := D.1
  have D13 : a 13 = nI r.2.1.1 := D.2.1
  have t413 : ∀ (b : Nat → Int32) x y z v, (t4 b x y z v) 13 = b 13 := fun _ _ _ _ _ => rfl
  have t412 : ∀ (b : Nat → Int32) x y z v, (t4 b x y z v) 12 = b 12 := fun _ _ _ _ _ => rfl
  have e1 : nI r.1.1 - nI 1 = nI (r.1.1 - 1) := nI_subN (by omega)
  have RR : ∀ (b : Nat → Int32) w0 w1 w2 w3, b 3 = a 3 → b 9 = a 9 → b 10 = a 10 → b 11 = a 11 → b 23 = a 23 → Rel tr b (ua A 3 (upd (upd (upd (upd (A 3) (32 + 4 * r.2.1.1) w0) (32 + 4 * r.2.1.1 + 1) w1) (32 + 4 * r.2.1.1 + 2) w2) (32 + 4 * r.2.1.1 + 3) w3)) s := fun b w0 w1 w2 w3 b3 b9 b10 b11 b23 => R.dft V b3 b9 b10 b11 b23 rfl rfl rfl rfl rfl (fun j hj => rfl) (fun j hj => rfl) (fun j hj => by
    rw [ua_s, upd_n _ _ (by omega), upd_n _ _ (by omega), upd_n _ _ (by omega), upd_n _ _ (by omega)]) (fun j hj => rfl)
  rw [e97]
  simp only [s97_0, s97_1, s97_34, s97_35, s97_36, s97_99, s97_100, s97_101, s97_104, s97_106, s97_107, s97_108, s97_111, s97_112, s97_113, s97_114, s97_115, s97_116, s97_117, s97_120, s97_121, s97_122, OpV_some, OpN_some, OpA_some, OpR_some, Option.toList_some, Option.toList_none, List.cons_append, List.nil_append, true_and, and_true, nI11, or_true, true_or, or_false, false_or, mI0 H, mP0 H, mI3 H, mP3 H, mI4 H, mP4 H, mI5 H, mP5 H, mI6 H, mP6 H, mI7 H, mP7 H, mI8 H, mP8 H, mI9 H, mP9 H, mI10 H, mP10 H, mI11 H, mP11 H, mI12 H, mP12 H, mI13 H, mP13 H, mI14 H, mP14 H, mI23 H, mP23 H, mI24 H, mP24 H, mI25 H, mP25 H, mI26 H, mP26 H, mI27 H, mP27 H, mI30 H, mP30 H, mI31 H, mP31 H, mI1 H, mP1 H, mR2 H, mR15 H, mR16 H, mR17 H, mR18 H, mR19 H, mR20 H, mR21 H, mR22 H, mR28 H, mR29 H, mA0 H, mS0 H, mA1 H, mS1 H, mA2 H, mS2 H, mA3 H, mS3 H, mA4 H, mS4 H, mA5 H, mS5 H, mA6 H, mS6 H, mA7 H, mS7 H, mA8 H, mS8 H, mA9 H, mS9 H, mA10 H, mS10 H, mw_cl H, fu_s, fu_n, ua_s, ua_n, Nat.reduceBEq, lt57, lt58, lt59, lt60, lt61, lt62, lt63, lt64, lt65, lt66, lt67, lt68, show (nI 2 = 0) = False by decide, show (nI 2 = nI 1) = False by decide, if_true, if_false, D12, D13, e1, pk_mul, nI_add]
  refine m_number H h8 h3 hA hle hB ah k3 k4 k5 (by decide) (show r.1.1 - 1 < 1000 by omega) (fun c v hv => ?_) (fun c => ?_)
  · have c0 : (tkn B le t).2.2.1 = 2 ∧ okN 2 0 (tkn B le t).2.2.2 (N 0) r.1.1 = true := ⟨c.1, okN_iff.mpr ⟨fun q => absurd q.2.1 (by decide), c.2.1, c.2.2⟩⟩
    obtain ⟨x1, x2, x3, x4, x5, x6⟩ := tkn_ok B k3
    have cv0 : (tkn B le t).2.2.2 ≤ r.1.1 - 1 := c.2.2
    have hmt := mtok_le (B := B) x4
    have e5 : (nI (mtok B (tkn B le (tkn B le t))) = nI 2) = ((tkn B le (tkn B le t)).2.2.1 = 2) := by
      rw [nI_eqN (by omega) (by decide)]
      exact propext mtok2
    simp only [s97_125, s97_126, s97_127, s97_130, s97_131, s97_132, s97_133, s97_134, s97_137, s97_138, s97_139, s97_140, s97_141, s97_142, s97_145, s97_146, OpV_some, OpN_some, OpA_some, OpR_some, Option.toList_some, Option.toList_none, List.cons_append, List.nil_append, true_and, and_true, nI11, or_true, true_or, or_false, false_or, mI0 H, mP0 H, mI3 H, mP3 H, mI4 H, mP4 H, mI5 H, mP5 H, mI6 H, mP6 H, mI7 H, mP7 H, mI8 H, mP8 H, mI9 H, mP9 H, mI10 H, mP10 H, mI11 H, mP11 H, mI12 H, mP12 H, mI13 H, mP13 H, mI14 H, mP14 H, mI23 H, mP23 H, mI24 H, mP24 H, mI25 H, mP25 H, mI26 H, mP26 H, mI27 H, mP27 H, mI30 H, mP30 H, mI31 H, mP31 H, mI1 H, mP1 H, mR2 H, mR15 H, mR16 H, mR17 H, mR18 H, mR19 H, mR20 H, mR21 H, mR22 H, mR28 H, mR29 H, mA0 H, mS0 H, mA1 H, mS1 H, mA2 H, mS2 H, mA3 H, mS3 H, mA4 H, mS4 H, mA5 H, mS5 H, mA6 H, mS6 H, mA7 H, mS7 H, mA8 H, mS8 H, mA9 H, mS9 H, mA10 H, mS10 H, mw_cl H, fu_s, fu_n, ua_s, ua_n, Nat.reduceBEq, lt57, lt58, lt59, lt60, lt61, lt62, lt63, lt64, lt65, lt66, lt67, lt68, ua_ua, t4_5, e5, nI_add, in_nI (show 32 + 4 * r.2.1.1 < 64 by omega) (show 64 < 2 ^ 31 by omega), cl_nI (show 32 + 4 * r.2.1.1 < 2 ^ 31 by omega)]
    by_cases z : (tkn B le (tkn B le t)).2.2.1 = 2 ∧ okN 2 1 (tkn B le (tkn B le t)).2.2.2 (upN N 0 (tkn B le t).2.2.2 0) r.1.1 = true
    · have z2 := okN_iff.mp z.2
      have z3 : (tkn B le (tkn B le t)).2.2.2 ≤ r.1.1 - 1 := z2.2.2
      have z4 : ¬ (tkn B le (tkn B le t)).2.2.2 = (tkn B le t).2.2.2 := fun q => z2.1 ⟨rfl, rfl, q⟩
      have e7 : v = nI (tkn B le (tkn B le t)).2.2.2 := hv.1 z.1
      simp only [z.1, if_true, nI1z, s97_149, s97_150, s97_153, s97_154, s97_155, s97_158, s97_159, s97_160, s97_163, s97_166, s97_167, s97_170, s97_171, s97_174, s97_175, s97_178, s97_179, OpV_some, OpN_some, OpA_some, OpR_some, Option.toList_some, Option.toList_none, List.cons_append, List.nil_append, true_and, and_true, nI11, or_true, true_or, or_false, false_or, mI0 H, mP0 H, mI3 H, mP3 H, mI4 H, mP4 H, mI5 H, mP5 H, mI6 H, mP6 H, mI7 H, mP7 H, mI8 H, mP8 H, mI9 H, mP9 H, mI10 H, mP10 H, mI11 H, mP11 H, mI12 H, mP12 H, mI13 H, mP13 H, mI14 H, mP14 H, mI23 H, mP23 H, mI24 H, mP24 H, mI25 H, mP25 H, mI26 H, mP26 H, mI27 H, mP27 H, mI30 H, mP30 H, mI31 H, mP31 H, mI1 H, mP1 H, mR2 H, mR15 H, mR16 H, mR17 H, mR18 H, mR19 H, mR20 H, mR21 H, mR22 H, mR28 H, mR29 H, mA0 H, mS0 H, mA1 H, mS1 H, mA2 H, mS2 H, mA3 H, mS3 H, mA4 H, mS4 H, mA5 H, mS5 H, mA6 H, mS6 H, mA7 H, mS7 H, mA8 H, mS8 H, mA9 H, mS9 H, mA10 H, mS10 H, mw_cl H, fu_s, fu_n, ua_s, ua_n, Nat.reduceBEq, lt57, lt58, lt59, lt60, lt61, lt62, lt63, lt64, lt65, lt66, lt67, lt68, t4_7, t412, D12, e1, e7, m_in, nI_leN (show 0 < 2 ^ 31 by decide) (show (tkn B le (tkn B le t)).2.2.2 < 2 ^ 31 by omega), nI_leN (show (tkn B le (tkn B le t)).2.2.2 < 2 ^ 31 by omega) (show r.1.1 - 1 < 2 ^ 31 by omega), nI_ite, Nat.zero_le, z3, and_self, not_true, if_false, nI_eqN (show (tkn B le (tkn B le t)).2.2.2 < 2 ^ 31 by omega) (show (tkn B le t).2.2.2 < 2 ^ 31 by omega), z4]
      obtain ⟨y1, y2, y3, y4, y5, y6⟩ := tkn_ok B x3
      refine m_takes H (g8 h8) (g3 h3) (show ∀ i, i < le → (ua A 3 _) 0 i = nI (B i) from hA) hle hB (AH.t4 (T := tkn B le (tkn B le t)) (e7 ▸ hv)) x3 fun v2 hv2 => ?_
      simp only [s97_182, s97_183, s97_184, s97_187, s97_188, s97_189, s97_190, s97_191, s97_192, s97_194, OpV_some, OpN_some, OpA_some, OpR_some, Option.toList_some, Option.toList_none, List.cons_append, List.nil_append, true_and, and_true, nI11, or_true, true_or, or_false, false_or, mI0 H, mP0 H, mI3 H, mP3 H, mI4 H, mP4 H, mI5 H, mP5 H, mI6 H, mP6 H, mI7 H, mP7 H, mI8 H, mP8 H, mI9 H, mP9 H, mI10 H, mP10 H, mI11 H, mP11 H, mI12 H, mP12 H, mI13 H, mP13 H, mI14 H, mP14 H, mI23 H, mP23 H, mI24 H, mP24 H, mI25 H, mP25 H, mI26 H, mP26 H, mI27 H, mP27 H, mI30 H, mP30 H, mI31 H, mP31 H, mI1 H, mP1 H, mR2 H, mR15 H, mR16 H, mR17 H, mR18 H, mR19 H, mR20 H, mR21 H, mR22 H, mR28 H, mR29 H, mA0 H, mS0 H, mA1 H, mS1 H, mA2 H, mS2 H, mA3 H, mS3 H, mA4 H, mS4 H, mA5 H, mS5 H, mA6 H, mS6 H, mA7 H, mS7 H, mA8 H, mS8 H, mA9 H, mS9 H, mA10 H, mS10 H, mw_cl H, fu_s, fu_n, ua_s, ua_n, Nat.reduceBEq, lt57, lt58, lt59, lt60, lt61, lt62, lt63, lt64, lt65, lt66, lt67, lt68, ua_ua, t4_7, nI_add, in_nI (show 32 + 4 * r.2.1.1 + 1 < 64 by omega) (show 64 < 2 ^ 31 by omega), cl_nI (show 32 + 4 * r.2.1.1 + 1 < 2 ^ 31 by omega)]
      refine m_number H (g8 (g8 h8)) (g3 (g3 h3)) (show ∀ i, i < le → (ua A 3 _) 0 i = nI (B i) from hA) hle hB (AH.t4 hv2) y3 y4 y5 (by decide) (by decide) (fun c v3 hv3 => ?_) (fun c => ?_)
      · have c2 : (tkn B le (tkn B le (tkn B le t))).2.2.1 = 2 ∧ okN 2 2 (tkn B le (tkn B le (tkn B le t))).2.2.2 (upN (upN N 0 (tkn B le t).2.2.2) 1 (tkn B le (tkn B le t)).2.2.2 0) r.1.1 = true := ⟨c.1, okN_iff.mpr ⟨fun q => absurd q.2.1 (by decide), c.2.1, c.2.2⟩⟩
        obtain ⟨w1, w2, w3, w4, w5, w6⟩ := tkn_ok B y3
        simp only [s97_197, s97_198, s97_199, s97_202, s97_203, s97_204, s97_205, s97_206, s97_207, s97_209, OpV_some, OpN_some, OpA_some, OpR_some, Option.toList_some, Option.toList_none, List.cons_append, List.nil_append, true_and, and_true, nI11, or_true, true_or, or_false, false_or, mI0 H, mP0 H, mI3 H, mP3 H, mI4 H, mP4 H, mI5 H, mP5 H, mI6 H, mP6 H, mI7 H, mP7 H, mI8 H, mP8 H, mI9 H, mP9 H, mI10 H, mP10 H, mI11 H, mP11 H, mI12 H, mP12 H, mI13 H, mP13 H, mI14 H, mP14 H, mI23 H, mP23 H, mI24 H, mP24 H, mI25 H, mP25 H, mI26 H, mP26 H, mI27 H, mP27 H, mI30 H, mP30 H, mI31 H, mP31 H, mI1 H, mP1 H, mR2 H, mR15 H, mR16 H, mR17 H, mR18 H, mR19 H, mR20 H, mR21 H, mR22 H, mR28 H, mR29 H, mA0 H, mS0 H, mA1 H, mS1 H, mA2 H, mS2 H, mA3 H, mS3 H, mA4 H, mS4 H, mA5 H, mS5 H, mA6 H, mS6 H, mA7 H, mS7 H, mA8 H, mS8 H, mA9 H, mS9 H, mA10 H, mS10 H, mw_cl H, fu_s, fu_n, ua_s, ua_n, Nat.reduceBEq, lt57, lt58, lt59, lt60, lt61, lt62, lt63, lt64, lt65, lt66, lt67, lt68, ua_ua, nI_add, in_nI (show 32 + 4 * r.2.1.1 + 2 < 64 by omega) (show 64 < 2 ^ 31 by omega), cl_nI (show 32 + 4 * r.2.1.1 + 2 < 2 ^ 31 by omega)]
        refine m_number H (g8 (g8 (g8 h8))) (g3 (g3 (g3 h3))) (show ∀ i, i < le → (ua A 3 _) 0 i = nI (B i) from hA) hle hB (AH.t4 hv3) w3 w4 w5 (by decide) (by decide) (fun c v4 hv4 => ?_) (fun c => ?_)
        · have c3 : (tkn B le (tkn B le (tkn B le (tkn B le t)))).2.2.1 = 2 ∧ okN 2 3 (tkn B le (tkn B le (tkn B le (tkn B le t)))).2.2.2 (upN (upN (upN N 0 (tkn B le t).2.2.2) 1 (tkn B le (tkn B le t)).2.2.2) 2 (tkn B le (tkn B le (tkn B le t))).2.2.2 0) r.1.1 = true := ⟨c.1, okN_iff.mpr ⟨fun q => absurd q.2.1 (by decide), c.2.1, c.2.2⟩⟩
          have hx : rdn B le 2 r.1.1 4 0 t N = (true, tkn B le (tkn B le (tkn B le (tkn B le t))), upN (upN (upN (upN N 0 (tkn B le t).2.2.2) 1 (tkn B le (tkn B le t)).2.2.2) 2 (tkn B le (tkn B le (tkn B le t))).2.2.2) 3 (tkn B le (tkn B le (tkn B le (tkn B le t)))).2.2.2) := by
            unfold rdn; rw [if_pos c0]; unfold rdn; rw [if_pos z]; unfold rdn; rw [if_pos c2]; unfold rdn; rw [if_pos c3]; rfl
          rw [hx] at hQ1
          simp only [s97_212, s97_213, s97_214, s97_215, s97_218, s97_219, s97_220, s97_223, s97_292, OpV_some, OpN_some, OpA_some, OpR_some, Option.toList_some, Option.toList_none, List.cons_append, List.nil_append, true_and, and_true, nI11, or_true, true_or, or_false, false_or, mI0 H, mP0 H, mI3 H, mP3 H, mI4 H, mP4 H, mI5 H, mP5 H, mI6 H, mP6 H, mI7 H, mP7 H, mI8 H, mP8 H, mI9 H, mP9 H, mI10 H, mP10 H, mI11 H, mP11 H, mI12 H, mP12 H, mI13 H, mP13 H, mI14 H, mP14 H, mI23 H, mP23 H, mI24 H, mP24 H, mI25 H, mP25 H, mI26 H, mP26 H, mI27 H, mP27 H, mI30 H, mP30 H, mI31 H, mP31 H, mI1 H, mP1 H, mR2 H, mR15 H, mR16 H, mR17 H, mR18 H, mR19 H, mR20 H, mR21 H, mR22 H, mR28 H, mR29 H, mA0 H, mS0 H, mA1 H, mS1 H, mA2 H, mS2 H, mA3 H, mS3 H, mA4 H, mS4 H, mA5 H, mS5 H, mA6 H, mS6 H, mA7 H, mS7 H, mA8 H, mS8 H, mA9 H, mS9 H, mA10 H, mS10 H, mw_cl H, fu_s, fu_n, ua_s, ua_n, Nat.reduceBEq, lt57, lt58, lt59, lt60, lt61, lt62, lt63, lt64, lt65, lt66, lt67, lt68, ua_ua, t413, D13, nI_add, in_nI (show 32 + 4 * r.2.1.1 + 3 < 64 by omega) (show 64 < 2 ^ 31 by omega), cl_nI (show 32 + 4 * r.2.1.1 + 3 < 2 ^ 31 by omega)]
          refine hQ1 rfl _ _ (RR _ _ _ _ _ rfl rfl rfl rfl rfl) ?_ ?_ ?_ ?_ ?_
          · exact ⟨rfl, rfl, rfl, hv4⟩
          rotate_left
          · rfl
          · rfl
          · rfl
          unfold adI
          rw [if_neg (by decide), if_neg (by decide), if_pos rfl]
          refine ⟨D.1, rfl, D.2.2.1, D.2.2.2.1, fun q hq => ?_, D.2.2.2.2.2⟩
          have hq2 : q < r.2.1.1 + 1 := hq
          show upd (upd (upd (upd (A 3) (32 + 4 * r.2.1.1) _) (32 + 4 * r.2.1.1 + 1) _) (32 + 4 * r.2.1.1 + 2) _) (32 + 4 * r.2.1.1 + 3) _ (32 + 4 * q) = nI (rpn r.2.1.2 r.2.1.1 _ (q * 5)) ∧ upd (upd (upd (upd (A 3) (32 + 4 * r.2.1.1) _) (32 + 4 * r.2.1.1 + 1) _) (32 + 4 * r.2.1.1 + 2) _) (32 + 4 * r.2.1.1 + 3) _ (32 + 4 * q + 1) = nI (rpn r.2.1.2 r.2.1.1 _ (q * 5 + 1)) ∧ upd (upd (upd (upd (A 3) (32 + 4 * r.2.1.1) _) (32 + 4 * r.2.1.1 + 1) _) (32 + 4 * r.2.1.1 + 2) _) (32 + 4 * r.2.1.1 + 3) _ (32 + 4 * q + 2) = nI (rpn r.2.1.2 r.2.1.1 _ (q * 5 + 2)) ∧ upd (upd (upd (upd (A 3) (32 + 4 * r.2.1.1) _) (32 + 4 * r.2.1.1 + 1) _) (32 + 4 * r.2.1.1 + 2) _) (32 + 4 * r.2.1.1 + 3) _ (32 + 4 * q + 3) = nI (rpn r.2.1.2 r.2.1.1 _ (q * 5 + 3))
          unfold rpn
          by_cases e : q = r.2.1.1
          · subst e
            refine ⟨?_, ?_, ?_, ?_⟩
            · rw [upd_n _ _ (by omega), upd_n _ _ (by omega), upd_n _ _ (by omega), upd_s, upN_n _ _ (by omega), upN_n _ _ (by omega), upN_n _ _ (by omega), upN_n _ _ (by omega), upN_s]; rfl
            · rw [upd_n _ _ (by omega), upd_n _ _ (by omega), upd_s, upN_n _ _ (by omega), upN_n _ _ (by omega), upN_n _ _ (by omega), upN_s]; rfl
            · rw [upd_n _ _ (by omega), upd_s, upN_n _ _ (by omega), upN_n _ _ (by omega), upN_s]; rfl
            · rw [upd_s, upN_n _ _ (by omega), upN_s]; rfl
          · obtain ⟨b0, b1, b2, b3⟩ := D.2.2.2.2.1 q (by omega)
            refine ⟨?_, ?_, ?_, ?_⟩
            · rw [upd_n _ _ (by omega), upd_n _ _ (by omega), upd_n _ _ (by omega), upd_n _ _ (by omega), upN_n _ _ (by omega), upN_n _ _ (by omega), upN_n _ _ (by omega), upN_n _ _ (by omega), upN_n _ _ (by omega)]; exact b0
            · rw [upd_n _ _ (by omega), upd_n _ _ (by omega), upd_n _ _ (by omega), upd_n _ _ (by omega), upN_n _ _ (by omega), upN_n _ _ (by omega), upN_n _ _ (by omega), upN_n _ _ (by omega), upN_n _ _ (by omega)]; exact b1
            · rw [upd_n _ _ (by omega), upd_n _ _ (by omega), upd_n _ _ (by omega), upd_n _ _ (by omega), upN_n _ _ (by omega), upN_n _ _ (by omega), upN_n _ _ (by omega), upN_n _ _ (by omega), upN_n _ _ (by omega)]; exact b2
            · rw [upd_n _ _ (by omega), upd_n _ _ (by omega), upd_n _ _ (by omega), upd_n _ _ (by omega), upN_n _ _ (by omega), upN_n _ _ (by omega), upN_n _ _ (by omega), upN_n _ _ (by omega), upN_n _ _ (by omega)]; exact b3
        · have hx : rdn B le 2 r.1.1 4 0 t N = (false, tkn B le (tkn B le (tkn B le (tkn B le t))), upN (upN (upN N 0 (tkn B le t).2.2.2) 1 (tkn B le (tkn B le t)).2.2.2) 2 (tkn B le (tkn B le (tkn B le t))).2.2.2) := by
            unfold rdn; rw [if_pos c0]; unfold rdn; rw [if_pos z]; unfold rdn; rw [if_pos c2]; unfold rdn
            rw [if_neg]
            rintro ⟨q1, q2⟩
            have := okN_iff.mp q2
            exact c ⟨q1, this.2.1, this.2.2⟩
          rw [hx] at hQ2
          simp only [s97_212, s97_213, s97_214, s97_215, s97_218, s97_219, s97_220, s97_223, s97_292, OpV_some, OpN_some, OpA_some, OpR_some, Option.toList_some, Option.toList_none, List.cons_append, List.nil_append, true_and, and_true, nI11, or_true, true_or, or_false, false_or, mI0 H, mP0 H, mI3 H, mP3 H, mI4 H, mP4 H, mI5 H, mP5 H, mI6 H, mP6 H, mI7 H, mP7 H, mI8 H, mP8 H, mI9 H, mP9 H, mI10 H, mP10 H, mI11 H, mP11 H, mI12 H, mP12 H, mI13 H, mP13 H, mI14 H, mP14 H, mI23 H, mP23 H, mI24 H, mP24 H, mI25 H, mP25 H, mI26 H, mP26 H, mI27 H, mP27 H, mI30 H, mP30 H, mI31 H, mP31 H, mI1 H, mP1 H, mR2 H, mR15 H, mR16 H, mR17 H, mR18 H, mR19 H, mR20 H, mR21 H, mR22 H, mR28 H, mR29 H, mA0 H, mS0 H, mA1 H, mS1 H, mA2 H, mS2 H, mA3 H, mS3 H, mA4 H, mS4 H, mA5 H, mS5 H, mA6 H, mS6 H, mA7 H, mS7 H, mA8 H, mS8 H, mA9 H, mS9 H, mA10 H, mS10 H, mw_cl H, fu_s, fu_n, ua_s, ua_n, Nat.reduceBEq, lt57, lt58, lt59, lt60, lt61, lt62, lt63, lt64, lt65, lt66, lt67, lt68, ua_ua, t413, D13, nI_add, in_nI (show 32 + 4 * r.2.1.1 + 3 < 64 by omega) (show 64 < 2 ^ 31 by omega), cl_nI (show 32 + 4 * r.2.1.1 + 3 < 2 ^ 31 by omega)]
          exact hQ2 rfl _ _ (RR _ _ _ _ _ rfl rfl rfl rfl rfl) rfl
      · have hx : rdn B le 2 r.1.1 4 0 t N = (false, tkn B le (tkn B le (tkn B le t)), upN (upN N 0 (tkn B le t).2.2.2) 1 (tkn B le (tkn B le t)).2.2.2) := by
          unfold rdn; rw [if_pos c0]; unfold rdn; rw [if_pos z]; unfold rdn
          rw [if_neg]
          rintro ⟨q1, q2⟩
          have := okN_iff.mp q2
          exact c ⟨q1, this.2.1, this.2.2⟩
        rw [hx] at hQ2
        have hn := nneg (show (tkn B le (tkn B le (tkn B le t))).1 < 2 ^ 31 by omega)
        simp only [s97_197, s97_198, s97_199, s97_202, s97_203, s97_204, s97_205, s97_206, s97_207, s97_209, s97_212, s97_213, s97_214, s97_215, s97_218, s97_219, s97_220, s97_223, s97_292, OpV_some, OpN_some, OpA_some, OpR_some, Option.toList_some, Option.toList_none, List.cons_append, List.nil_append, true_and, and_true, nI11, or_true, true_or, or_false, false_or, mI0 H, mP0 H, mI3 H, mP3 H, mI4 H, mP4 H, mI5 H, mP5 H, mI6 H, mP6 H, mI7 H, mP7 H, mI8 H, mP8 H, mI9 H, mP9 H, mI10 H, mP10 H, mI11 H, mP11 H, mI12 H, mP12 H, mI13 H, mP13 H, mI14 H, mP14 H, mI23 H, mP23 H, mI24 H, mP24 H, mI25 H, mP25 H, mI26 H, mP26 H, mI27 H, mP27 H, mI30 H, mP30 H, mI31 H, mP31 H, mI1 H, mP1 H, mR2 H, mR15 H, mR16 H, mR17 H, mR18 H, mR19 H, mR20 H, mR21 H, mR22 H, mR28 H, mR29 H, mA0 H, mS0 H, mA1 H, mS1 H, mA2 H, mS2 H, mA3 H, mS3 H, mA4 H, mS4 H, mA5 H, mS5 H, mA6 H, mS6 H, mA7 H, mS7 H, mA8 H, mS8 H, mA9 H, mS9 H, mA10 H, mS10 H, mw_cl H, fu_s, fu_n, ua_s, ua_n, Nat.reduceBEq, lt57, lt58, lt59, lt60, lt61, lt62, lt63, lt64, lt65, lt66, lt67, lt68, ua_ua, m_number_ill H (a := fu (t4 (t4 a _ _ _ _) _ _ _ _) 8 (nI (tkn B le (tkn B le (tkn B le t))).1)) hn, t413, D13, nI_add, in_nI (show 32 + 4 * r.2.1.1 + 2 < 64 by omega) (show 64 < 2 ^ 31 by omega), cl_nI (show 32 + 4 * r.2.1.1 + 2 < 2 ^ 31 by omega), in_nI (show 32 + 4 * r.2.1.1 + 3 < 64 by omega) (show 64 < 2 ^ 31 by omega), cl_nI (show 32 + 4 * r.2.1.1 + 3 < 2 ^ 31 by omega)]
        exact hQ2 rfl _ _ (RR _ _ _ _ _ rfl rfl rfl rfl rfl) rfl
    · have hx : rdn B le 2 r.1.1 4 0 t N = (false, tkn B le (tkn B le t), upN N 0 (tkn B le t).2.2.2) := by
        unfold rdn; rw [if_pos c0]; unfold rdn; rw [if_neg z]
      rw [hx] at hQ2
      have hn := nneg (show (tkn B le (tkn B le t)).1 < 2 ^ 31 by omega)
      have fin : ∀ f3, Wp X (Cl X (d + 7)) 97 Q (179, [some (.ref 57), some (.int (nI 2)), some (.int (nI (32 + 4 * r.2.1.1))), some (.int (nI (tkn B le t).2.2.2)), none], [.int (nI 0), .ref 57, .int (nI (32 + 4 * r.2.1.1 + 1)), .ref 61], mw u tr (t4 a (nI (tkn B le (tkn B le t)).2.1) (nI (mtok B (tkn B le (tkn B le t)))) (nI (tkn B le (tkn B le t)).1) v) (ua A 3 (upd (A 3) (32 + 4 * r.2.1.1) f3)), 0, 0) := fun f3 => by
        have t48 : ∀ (b : Nat → Int32) x y z v, (t4 b x y z v) 8 = b 8 := fun _ _ _ _ _ => rfl
        have h8' : (t4 a (nI (tkn B le (tkn B le t)).2.1) (nI (mtok B (tkn B le (tkn B le t)))) (nI (tkn B le (tkn B le t)).1) v) 8 < 0 := h8
        simp only [s97_179, s97_182, s97_183, s97_184, s97_187, s97_188, s97_189, s97_190, s97_191, s97_192, s97_194, s97_197, s97_198, s97_199, s97_202, s97_203, s97_204, s97_205, s97_206, s97_207, s97_209, s97_212, s97_213, s97_214, s97_215, s97_218, s97_219, s97_220, s97_223, s97_292, OpV_some, OpN_some, OpA_some, OpR_some, Option.toList_some, Option.toList_none, List.cons_append, List.nil_append, true_and, and_true, nI11, or_true, true_or, or_false, false_or, mI0 H, mP0 H, mI3 H, mP3 H, mI4 H, mP4 H, mI5 H, mP5 H, mI6 H, mP6 H, mI7 H, mP7 H, mI8 H, mP8 H, mI9 H, mP9 H, mI10 H, mP10 H, mI11 H, mP11 H, mI12 H, mP12 H, mI13 H, mP13 H, mI14 H, mP14 H, mI23 H, mP23 H, mI24 H, mP24 H, mI25 H, mP25 H, mI26 H, mP26 H, mI27 H, mP27 H, mI30 H, mP30 H, mI31 H, mP31 H, mI1 H, mP1 H, mR2 H, mR15 H, mR16 H, mR17 H, mR18 H, mR19 H, mR20 H, mR21 H, mR22 H, mR28 H, mR29 H, mA0 H, mS0 H, mA1 H, mS1 H, mA2 H, mS2 H, mA3 H, mS3 H, mA4 H, mS4 H, mA5 H, mS5 H, mA6 H, mS6 H, mA7 H, mS7 H, mA8 H, mS8 H, mA9 H, mS9 H, mA10 H, mS10 H, mw_cl H, fu_s, fu_n, ua_s, ua_n, Nat.reduceBEq, lt57, lt58, lt59, lt60, lt61, lt62, lt63, lt64, lt65, lt66, lt67, lt68, ua_ua, m_takes_no H h8', t4_6, m_number_ill H (a := fu (t4 a _ _ _ _) 8 (nI (tkn B le (tkn B le t)).1)) hn, t413, D13, nI_add, in_nI (show 32 + 4 * r.2.1.1 + 1 < 64 by omega) (show 64 < 2 ^ 31 by omega), cl_nI (show 32 + 4 * r.2.1.1 + 1 < 2 ^ 31 by omega), in_nI (show 32 + 4 * r.2.1.1 + 2 < 64 by omega) (show 64 < 2 ^ 31 by omega), cl_nI (show 32 + 4 * r.2.1.1 + 2 < 2 ^ 31 by omega), in_nI (show 32 + 4 * r.2.1.1 + 3 < 64 by omega) (show 64 < 2 ^ 31 by omega), cl_nI (show 32 + 4 * r.2.1.1 + 3 < 2 ^ 31 by omega)]
        exact hQ2 rfl _ _ (RR _ _ _ _ _ rfl rfl rfl rfl rfl) rfl
      by_cases z1 : (tkn B le (tkn B le t)).2.2.1 = 2
      · have hva := x5 z1
        have e7 : v = nI (tkn B le (tkn B le t)).2.2.2 := hv.1 z1
        simp only [z1, if_true, s97_149, s97_150, s97_153, s97_154, s97_155, s97_158, s97_159, s97_160, s97_163, s97_166, s97_167, s97_170, s97_171, s97_174, s97_175, s97_178, OpV_some, OpN_some, OpA_some, OpR_some, Option.toList_some, Option.toList_none, List.cons_append, List.nil_append, true_and, and_true, nI11, or_true, true_or, or_false, false_or, mI0 H, mP0 H, mI3 H, mP3 H, mI4 H, mP4 H, mI5 H, mP5 H, mI6 H, mP6 H, mI7 H, mP7 H, mI8 H, mP8 H, mI9 H, mP9 H, mI10 H, mP10 H, mI11 H, mP11 H, mI12 H, mP12 H, mI13 H, mP13 H, mI14 H, mP14 H, mI23 H, mP23 H, mI24 H, mP24 H, mI25 H, mP25 H, mI26 H, mP26 H, mI27 H, mP27 H, mI30 H, mP30 H, mI31 H, mP31 H, mI1 H, mP1 H, mR2 H, mR15 H, mR16 H, mR17 H, mR18 H, mR19 H, mR20 H, mR21 H, mR22 H, mR28 H, mR29 H, mA0 H, mS0 H, mA1 H, mS1 H, mA2 H, mS2 H, mA3 H, mS3 H, mA4 H, mS4 H, mA5 H, mS5 H, mA6 H, mS6 H, mA7 H, mS7 H, mA8 H, mS8 H, mA9 H, mS9 H, mA10 H, mS10 H, mw_cl H, fu_s, fu_n, ua_s, ua_n, Nat.reduceBEq, lt57, lt58, lt59, lt60, lt61, lt62, lt63, lt64, lt65, lt66, lt67, lt68, t4_7, t412, D12, e1, e7, m_in, nI_leN (show 0 < 2 ^ 31 by decide) (show (tkn B le (tkn B le t)).2.2.2 < 2 ^ 31 by omega), nI_leN (show (tkn B le (tkn B le t)).2.2.2 < 2 ^ 31 by omega) (show r.1.1 - 1 < 2 ^ 31 by omega), nI_ite, Nat.zero_le, true_and, nI_eqN (show (tkn B le (tkn B le t)).2.2.2 < 2 ^ 31 by omega) (show (tkn B le t).2.2.2 < 2 ^ 31 by omega)]
        rw [e7] at fin
        by_cases z3 : (tkn B le (tkn B le t)).2.2.2 ≤ r.1.1 - 1
        · have z4 : (tkn B le (tkn B le t)).2.2.2 = (tkn B le t).2.2.2 := Classical.byContradiction fun q => z ⟨z1, okN_iff.mpr ⟨fun y => q y.2.2, Nat.zero_le _, z3⟩⟩
          have fin := fin (nI (tkn B le t).2.2.2)
          simp only [z3, not_true, if_false, eq_true z4, if_true, s97_178, OpV_some, OpN_some, OpA_some, OpR_some, Option.toList_some, Option.toList_none, List.cons_append, List.nil_append, true_and, and_true, nI11, or_true, true_or, or_false, false_or]
          exact fin
        · simp only [z3, not_false_eq_true, if_true, s97_178, OpV_some, OpN_some, OpA_some, OpR_some, Option.toList_some, Option.toList_none, List.cons_append, List.nil_append, true_and, and_true, nI11, or_true, true_or, or_false, false_or]
          exact fin _
      · simp only [z1, if_false, s97_178, OpV_some, OpN_some, OpA_some, OpR_some, Option.toList_some, Option.toList_none, List.cons_append, List.nil_append, true_and, and_true, nI11, or_true, true_or, or_false, false_or]
        exact fin _
  · have hx : rdn B le 2 r.1.1 4 0 t N = (false, tkn B le t, N) := by
      unfold rdn
      rw [if_neg]
      rintro ⟨q1, q2⟩
      have := okN_iff.mp q2
      exact c ⟨q1, this.2.1, this.2.2⟩
    rw [hx] at hQ2
    have hn := nneg (show (tkn B le t).1 < 2 ^ 31 by omega)
    have fin : ∀ b : Int32, Wp X (Cl X (d + 7)) 97 Q (179, [some (.ref 57), some (.int (nI 2)), some (.int (nI (32 + 4 * r.2.1.1))), some (.int (nI 0)), none], [.int b, .ref 57, .int (nI (32 + 4 * r.2.1.1 + 1)), .ref 61], mw u tr (fu a 8 (nI (tkn B le t).1)) (ua A 3 (upd (A 3) (32 + 4 * r.2.1.1) (nI 0))), 0, 0) := fun b => by
      simp only [s97_179, s97_182, s97_183, s97_184, s97_187, s97_188, s97_189, s97_190, s97_191, s97_192, s97_194, s97_197, s97_198, s97_199, s97_202, s97_203, s97_204, s97_205, s97_206, s97_207, s97_209, s97_212, s97_213, s97_214, s97_215, s97_218, s97_219, s97_220, s97_223, s97_292, OpV_some, OpN_some, OpA_some, OpR_some, Option.toList_some, Option.toList_none, List.cons_append, List.nil_append, true_and, and_true, nI11, or_true, true_or, or_false, false_or, mI0 H, mP0 H, mI3 H, mP3 H, mI4 H, mP4 H, mI5 H, mP5 H, mI6 H, mP6 H, mI7 H, mP7 H, mI8 H, mP8 H, mI9 H, mP9 H, mI10 H, mP10 H, mI11 H, mP11 H, mI12 H, mP12 H, mI13 H, mP13 H, mI14 H, mP14 H, mI23 H, mP23 H, mI24 H, mP24 H, mI25 H, mP25 H, mI26 H, mP26 H, mI27 H, mP27 H, mI30 H, mP30 H, mI31 H, mP31 H, mI1 H, mP1 H, mR2 H, mR15 H, mR16 H, mR17 H, mR18 H, mR19 H, mR20 H, mR21 H, mR22 H, mR28 H, mR29 H, mA0 H, mS0 H, mA1 H, mS1 H, mA2 H, mS2 H, mA3 H, mS3 H, mA4 H, mS4 H, mA5 H, mS5 H, mA6 H, mS6 H, mA7 H, mS7 H, mA8 H, mS8 H, mA9 H, mS9 H, mA10 H, mS10 H, mw_cl H, fu_s, fu_n, ua_s, ua_n, Nat.reduceBEq, lt57, lt58, lt59, lt60, lt61, lt62, lt63, lt64, lt65, lt66, lt67, lt68, ua_ua, m_takes_ill H (a := fu a 8 (nI (tkn B le t).1)) hn, m_number_ill H (a := fu a 8 (nI (tkn B le t).1)) hn, D13, nI_add, in_nI (show 32 + 4 * r.2.1.1 + 1 < 64 by omega) (show 64 < 2 ^ 31 by omega), cl_nI (show 32 + 4 * r.2.1.1 + 1 < 2 ^ 31 by omega), in_nI (show 32 + 4 * r.2.1.1 + 2 < 64 by omega) (show 64 < 2 ^ 31 by omega), cl_nI (show 32 + 4 * r.2.1.1 + 2 < 2 ^ 31 by omega), in_nI (show 32 + 4 * r.2.1.1 + 3 < 64 by omega) (show 64 < 2 ^ 31 by omega), cl_nI (show 32 + 4 * r.2.1.1 + 3 < 2 ^ 31 by omega)]
      exact hQ2 rfl _ _ (RR _ _ _ _ _ rfl rfl rfl rfl rfl) rfl
    simp only [s97_125, s97_126, s97_127, s97_130, s97_131, s97_132, s97_133, s97_134, s97_137, s97_138, s97_139, s97_140, s97_141, s97_142, s97_145, s97_146, s97_149, s97_150, s97_153, s97_154, s97_155, s97_158, s97_159, s97_160, s97_163, s97_166, s97_167, s97_170, s97_171, s97_174, s97_175, s97_178, OpV_some, OpN_some, OpA_some, OpR_some, Option.toList_some, Option.toList_none, List.cons_append, List.nil_append, true_and, and_true, nI11, or_true, true_or, or_false, false_or, mI0 H, mP0 H, mI3 H, mP3 H, mI4 H, mP4 H, mI5 H, mP5 H, mI6 H, mP6 H, mI7 H, mP7 H, mI8 H, mP8 H, mI9 H, mP9 H, mI10 H, mP10 H, mI11 H, mP11 H, mI12 H, mP12 H, mI13 H, mP13 H, mI14 H, mP14 H, mI23 H, mP23 H, mI24 H, mP24 H, mI25 H, mP25 H, mI26 H, mP26 H, mI27 H, mP27 H, mI30 H, mP30 H, mI31 H, mP31 H, mI1 H, mP1 H, mR2 H, mR15 H, mR16 H, mR17 H, mR18 H, mR19 H, mR20 H, mR21 H, mR22 H, mR28 H, mR29 H, mA0 H, mS0 H, mA1 H, mS1 H, mA2 H, mS2 H, mA3 H, mS3 H, mA4 H, mS4 H, mA5 H, mS5 H, mA6 H, mS6 H, mA7 H, mS7 H, mA8 H, mS8 H, mA9 H, mS9 H, mA10 H, mS10 H, mw_cl H, fu_s, fu_n, ua_s, ua_n, Nat.reduceBEq, lt57, lt58, lt59, lt60, lt61, lt62, lt63, lt64, lt65, lt66, lt67, lt68, ua_ua, nI_add, in_nI (show 32 + 4 * r.2.1.1 < 64 by omega) (show 64 < 2 ^ 31 by omega), cl_nI (show 32 + 4 * r.2.1.1 < 2 ^ 31 by omega), D12, e1, m_in, nI_ite]
    by_cases z1 : a 5 = nI 2
    · by_cases z2 : nI 0 ≤ a 7 ∧ a 7 ≤ nI (r.1.1 - 1)
      · by_cases z3 : a 7 = nI 0
        · simp only [eq_true z1, eq_true z2, eq_true z3, not_true, if_true, if_false, s97_174, s97_175, s97_178, OpV_some, OpN_some, OpA_some, OpR_some, Option.toList_some, Option.toList_none, List.cons_append, List.nil_append, true_and, and_true, nI11, or_true, true_or, or_false, false_or]
          exact fin _
        · simp only [eq_true z1, eq_true z2, eq_false z3, not_true, if_true, if_false, s97_174, s97_175, s97_178, OpV_some, OpN_some, OpA_some, OpR_some, Option.toList_some, Option.toList_none, List.cons_append, List.nil_append, true_and, and_true, nI11, or_true, true_or, or_false, false_or]
          exact fin _
      · simp only [eq_true z1, eq_false z2, not_false_eq_true, if_true, s97_174, s97_175, s97_178, OpV_some, OpN_some, OpA_some, OpR_some, Option.toList_some, Option.toList_none, List.cons_append, List.nil_append, true_and, and_true, nI11, or_true, true_or, or_false, false_or]
        exact fin _
    · simp only [eq_false z1, if_false, s97_174, s97_175, s97_178, OpV_some, OpN_some, OpA_some, OpR_some, Option.toList_some, Option.toList_none, List.cons_append, List.nil_append, true_and, and_true, nI11, or_true, true_or, or_false, false_or]
      exact fin _
end MITEMB
