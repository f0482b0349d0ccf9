/-! fits by the reference -/
def BM (x : Int32) (P : Nat → Bool) : Prop := ∀ i, i < 32 → x.toBitVec.getLsbD i = P i
theorem BM_0 : BM (nI 0) (fun _ => false) := by
  have : ∀ i, i < 32 → (nI 0).toBitVec.getLsbD i = false := by decide
  exact this
theorem BM_or {x y : Int32} {P R : Nat → Bool} (h1 : BM x P) (h2 : BM y R) : BM (x ||| y) (fun i => P i || R i) := fun i hi => by
  rw [Int32.toBitVec_or, BitVec.getLsbD_or, h1 i hi, h2 i hi]
theorem BM_sh : ∀ e, e < 6 → BM (nI 1 <<< (nI e &&& 31)) (fun i => decide (i = e)) := by
  have : ∀ e, e < 6 → ∀ i, i < 32 → (nI 1 <<< (nI e &&& 31)).toBitVec.getLsbD i = decide (i = e) := by decide
  exact this
theorem BM_full : ∀ n, n < 7 → BM (nI 1 <<< (nI n &&& 31) - nI 1) (fun i => decide (i < n)) := by
  have : ∀ n, n < 7 → ∀ i, i < 32 → (nI 1 <<< (nI n &&& 31) - nI 1).toBitVec.getLsbD i = decide (i < n) := by decide
  exact this
theorem BM_cg {x : Int32} {P R : Nat → Bool} (h : BM x P) (e : ∀ i, i < 32 → P i = R i) : BM x R := fun i hi => (h i hi).trans (e i hi)
theorem BM_eq {x y : Int32} {P R : Nat → Bool} (h1 : BM x P) (h2 : BM y R) : x = y ↔ ∀ i, i < 32 → P i = R i := by
  constructor
  · intro e i hi
    rw [← h1 i hi, ← h2 i hi, e]
  · intro e
    apply Int32.toBitVec_inj.mp
    apply BitVec.eq_of_getLsbD_eq
    intro i hi
    rw [h1 i hi, h2 i hi, e i hi]
theorem nI_leN {p q : Nat} (hp : p < 2 ^ 31) (hq : q < 2 ^ 31) : (nI p ≤ nI q) = (p ≤ q) := by
  rw [← i32_nlt, nI_ltN hq hp]
  apply propext
  omega
section MFITS
variable {X : am_X} {d : Nat} {Q : am_Q} {u w : am_W} {tr : Int64} {A : Nat → Nat → Int32} {s : CSt} {nS nR nSn : Nat} {h g Sn : Nat → Nat}
theorem m_look_loop (H : 69 ≤ u.length) {a : Nat → Int32} (ha : a 23 = nI nSn) (h6 : nSn ≤ 6) (hSn : ∀ i, i < nSn → A 8 (2 * i) = nI (Sn (i * 2)) ∧ A 8 (2 * i + 1) = nI (Sn (i * 2 + 1)) ∧ Sn (i * 2) < 8 ∧ Sn (i * 2 + 1) ≤ 999) {si fr to : Nat} (hsi : si < 8) (hfr : fr ≤ 999) (hto : to < 2 ^ 30) : ∀ (n e : Nat) (x : Int32) (P : Nat → Bool), e + n = nSn → BM x P → ∃ y, BM y (fun i => P i || (decide (e ≤ i ∧ i < nSn) && lkB Sn si fr to i)) ∧ Wp X (Cl X (d + 1)) 134 Q (6, [some (.ref 57), some (.int (nI si)), some (.int (nI fr)), some (.int (nI to)), some (.int x), some (.int (nI e))], [], mw u tr a A, 0, 0) = Q (some (.int y)) (mw u tr a A)
  | 0, e, x, P, he, hx => by
    refine ⟨x, BM_cg hx fun i _ => ?_, ?_⟩
    · rw [decide_eq_false (show ¬ (e ≤ i ∧ i < nSn) by omega), Bool.false_and, Bool.or_false]
    · rw [s134_6]
      simp only [s134_0, s134_1, s134_3, s134_4, s134_8, s134_9, s134_12, s134_15, s134_17, s134_18, s134_21, s134_22, s134_24, s134_25, s134_26, s134_27, s134_30, s134_31, s134_34, s134_35, s134_37, s134_38, s134_39, s134_40, s134_41, s134_42, s134_43, s134_46, s134_49, s134_50, s134_52, s134_53, s134_56, s134_57, s134_58, s134_60, s134_63, s134_66, s134_68, OpV_some, OpN_some, OpA_some, OpR_some, Option.toList_some, Option.toList_none, List.cons_append, List.nil_append, true_and, and_true, nI11, or_true, true_or, or_false, false_or, mI0 H, mP0 H, mI3 H, mP3 H, mI4 H, mP4 H, mI5 H, mP5 H, mI6 H, mP6 H, mI7 H, mP7 H, mI8 H, mP8 H, mI9 H, mP9 H, mI10 H, mP10 H, mI11 H, mP11 H, mI12 H, mP12 H, mI13 H, mP13 H, mI14 H, mP14 H, mI23 H, mP23 H, mI24 H, mP24 H, mI25 H, mP25 H, mI26 H, mP26 H, mI27 H, mP27 H, mI30 H, mP30 H, mI31 H, mP31 H, mI1 H, mP1 H, mR2 H, mR15 H, mR16 H, mR17 H, mR18 H, mR19 H, mR20 H, mR21 H, mR22 H, mR28 H, mR29 H, mA0 H, mS0 H, mA1 H, mS1 H, mA2 H, mS2 H, mA3 H, mS3 H, mA4 H, mS4 H, mA5 H, mS5 H, mA6 H, mS6 H, mA7 H, mS7 H, mA8 H, mS8 H, mA9 H, mS9 H, mA10 H, mS10 H, mw_cl H, fu_s, fu_n, ua_s, ua_n, Nat.reduceBEq, lt57, lt58, lt59, lt60, lt61, lt62, lt63, lt64, lt65, lt66, lt67, lt68, ha, nI_ltN (show e < 2 ^ 31 by omega) (show nSn < 2 ^ 31 by omega), show ¬ e < nSn by omega, if_false]
  | n + 1, e, x, P, he, hx => by
    obtain ⟨b0, b1, b2, b3⟩ := hSn e (by omega)
    by_cases c : lkB Sn si fr to e = true
    · have c' := of_decide_eq_true c
      obtain ⟨y, hy, ih⟩ := m_look_loop H ha h6 hSn hsi hfr hto n (e + 1) (x ||| nI 1 <<< (nI e &&& 31)) (fun i => P i || decide (i = e)) (by omega) (BM_or hx (BM_sh e (by omega)))
      refine ⟨y, BM_cg hy fun i _ => ?_, ?_⟩
      · by_cases q : i = e
        · subst q
          simp [c, show i < nSn by omega]
        · have e1 : decide (e + 1 ≤ i ∧ i < nSn) = decide (e ≤ i ∧ i < nSn) := by
            apply decide_eq_decide.mpr
            omega
          rw [e1, decide_eq_false q, Bool.or_false]
      · rw [s134_6, ← ih]
        simp only [s134_0, s134_1, s134_3, s134_4, s134_8, s134_9, s134_12, s134_15, s134_17, s134_18, s134_21, s134_22, s134_24, s134_25, s134_26, s134_27, s134_30, s134_31, s134_34, s134_35, s134_37, s134_38, s134_39, s134_40, s134_41, s134_42, s134_43, s134_46, s134_49, s134_50, s134_52, s134_53, s134_56, s134_57, s134_58, s134_60, s134_63, s134_66, s134_68, OpV_some, OpN_some, OpA_some, OpR_some, Option.toList_some, Option.toList_none, List.cons_append, List.nil_append, true_and, and_true, nI11, or_true, true_or, or_false, false_or, mI0 H, mP0 H, mI3 H, mP3 H, mI4 H, mP4 H, mI5 H, mP5 H, mI6 H, mP6 H, mI7 H, mP7 H, mI8 H, mP8 H, mI9 H, mP9 H, mI10 H, mP10 H, mI11 H, mP11 H, mI12 H, mP12 H, mI13 H, mP13 H, mI14 H, mP14 H, mI23 H, mP23 H, mI24 H, mP24 H, mI25 H, mP25 H, mI26 H, mP26 H, mI27 H, mP27 H, mI30 H, mP30 H, mI31 H, mP31 H, mI1 H, mP1 H, mR2 H, mR15 H, mR16 H, mR17 H, mR18 H, mR19 H, mR20 H, mR21 H, mR22 H, mR28 H, mR29 H, mA0 H, mS0 H, mA1 H, mS1 H, mA2 H, mS2 H, mA3 H, mS3 H, mA4 H, mS4 H, mA5 H, mS5 H, mA6 H, mS6 H, mA7 H, mS7 H, mA8 H, mS8 H, mA9 H, mS9 H, mA10 H, mS10 H, mw_cl H, fu_s, fu_n, ua_s, ua_n, Nat.reduceBEq, lt57, lt58, lt59, lt60, lt61, lt62, lt63, lt64, lt65, lt66, lt67, lt68, ha, nI_ltN (show e < 2 ^ 31 by omega) (show nSn < 2 ^ 31 by omega), show e < nSn by omega, if_true, pk_mul, nI_add, in_nI (show 2 * e < 12 by omega) (show 12 < 2 ^ 31 by omega), cl_nI (show 2 * e < 2 ^ 31 by omega), in_nI (show 2 * e + 1 < 12 by omega) (show 12 < 2 ^ 31 by omega), cl_nI (show 2 * e + 1 < 2 ^ 31 by omega), b0, b1, nI_eqN (show Sn (e * 2) < 2 ^ 31 by omega) (show si < 2 ^ 31 by omega), m_in, nI_leN (show fr < 2 ^ 31 by omega) (show Sn (e * 2 + 1) < 2 ^ 31 by omega), nI_leN (show Sn (e * 2 + 1) < 2 ^ 31 by omega) (show to < 2 ^ 31 by omega), nI_ite, c'.1, c'.2.1, c'.2.2, and_self, not_true, if_false]
    · obtain ⟨y, hy, ih⟩ := m_look_loop H ha h6 hSn hsi hfr hto n (e + 1) (x ||| nI 0) (fun i => P i || false) (by omega) (BM_or hx BM_0)
      refine ⟨y, BM_cg hy fun i _ => ?_, ?_⟩
      · by_cases q : i = e
        · subst q
          simp [c]
        · have e1 : decide (e + 1 ≤ i ∧ i < nSn) = decide (e ≤ i ∧ i < nSn) := by
            apply decide_eq_decide.mpr
            omega
          rw [e1, Bool.or_false]
      · rw [s134_6, ← ih]
        simp only [s134_0, s134_1, s134_3, s134_4, s134_8, s134_9, s134_12, s134_15, s134_17, s134_18, s134_21, s134_22, s134_24, s134_25, s134_26, s134_27, s134_30, s134_31, s134_34, s134_35, s134_37, s134_38, s134_39, s134_40, s134_41, s134_42, s134_43, s134_46, s134_49, s134_50, s134_52, s134_53, s134_56, s134_57, s134_58, s134_60, s134_63, s134_66, s134_68, OpV_some, OpN_some, OpA_some, OpR_some, Option.toList_some, Option.toList_none, List.cons_append, List.nil_append, true_and, and_true, nI11, or_true, true_or, or_false, false_or, mI0 H, mP0 H, mI3 H, mP3 H, mI4 H, mP4 H, mI5 H, mP5 H, mI6 H, mP6 H, mI7 H, mP7 H, mI8 H, mP8 H, mI9 H, mP9 H, mI10 H, mP10 H, mI11 H, mP11 H, mI12 H, mP12 H, mI13 H, mP13 H, mI14 H, mP14 H, mI23 H, mP23 H, mI24 H, mP24 H, mI25 H, mP25 H, mI26 H, mP26 H, mI27 H, mP27 H, mI30 H, mP30 H, mI31 H, mP31 H, mI1 H, mP1 H, mR2 H, mR15 H, mR16 H, mR17 H, mR18 H, mR19 H, mR20 H, mR21 H, mR22 H, mR28 H, mR29 H, mA0 H, mS0 H, mA1 H, mS1 H, mA2 H, mS2 H, mA3 H, mS3 H, mA4 H, mS4 H, mA5 H, mS5 H, mA6 H, mS6 H, mA7 H, mS7 H, mA8 H, mS8 H, mA9 H, mS9 H, mA10 H, mS10 H, mw_cl H, fu_s, fu_n, ua_s, ua_n, Nat.reduceBEq, lt57, lt58, lt59, lt60, lt61, lt62, lt63, lt64, lt65, lt66, lt67, lt68, ha, nI_ltN (show e < 2 ^ 31 by omega) (show nSn < 2 ^ 31 by omega), show e < nSn by omega, if_true, pk_mul, nI_add, in_nI (show 2 * e < 12 by omega) (show 12 < 2 ^ 31 by omega), cl_nI (show 2 * e < 2 ^ 31 by omega), in_nI (show 2 * e + 1 < 12 by omega) (show 12 < 2 ^ 31 by omega), cl_nI (show 2 * e + 1 < 2 ^ 31 by omega), b0, b1, nI_eqN (show Sn (e * 2) < 2 ^ 31 by omega) (show si < 2 ^ 31 by omega), m_in, nI_leN (show fr < 2 ^ 31 by omega) (show Sn (e * 2 + 1) < 2 ^ 31 by omega), nI_leN (show Sn (e * 2 + 1) < 2 ^ 31 by omega) (show to < 2 ^ 31 by omega), nI_ite]
        unfold lkB at c
        by_cases c1 : Sn (e * 2) = si
        · have c2 : ¬ (fr ≤ Sn (e * 2 + 1) ∧ Sn (e * 2 + 1) ≤ to) := fun z => c (decide_eq_true ⟨c1, z⟩)
          simp only [c1, c2, not_false_eq_true, if_true]
        · simp only [c1, if_false]
theorem m_look (H : 69 ≤ u.length) {a : Nat → Int32} (ha : a 23 = nI nSn) (h6 : nSn ≤ 6) (hSn : ∀ i, i < nSn → A 8 (2 * i) = nI (Sn (i * 2)) ∧ A 8 (2 * i + 1) = nI (Sn (i * 2 + 1)) ∧ Sn (i * 2) < 8 ∧ Sn (i * 2 + 1) ≤ 999) {si fr to : Nat} (hsi : si < 8) (hfr : fr ≤ 999) (hto : to < 2 ^ 30) : ∃ y, BM y (fun i => decide (i < nSn) && lkB Sn si fr to i) ∧ Cl X (d + 2) 134 [.ref 57, .int (nI si), .int (nI fr), .int (nI to)] (mw u tr a A) Q = Q (some (.int y)) (mw u tr a A) := by
  obtain ⟨y, hy, e⟩ := m_look_loop (X := X) (d := d) (Q := Q) (tr := tr) H ha h6 hSn hsi hfr hto nSn 0 (nI 0) (fun _ => false) (by omega) BM_0
  refine ⟨y, BM_cg hy fun i _ => ?_, ?_⟩
  · rw [Bool.false_or, decide_eq_decide.mpr (show (0 ≤ i ∧ i < nSn) ↔ i < nSn by omega)]
  · rw [e134, ← e]
    simp only [s134_0, s134_1, s134_3, s134_4, s134_8, s134_9, s134_12, s134_15, s134_17, s134_18, s134_21, s134_22, s134_24, s134_25, s134_26, s134_27, s134_30, s134_31, s134_34, s134_35, s134_37, s134_38, s134_39, s134_40, s134_41, s134_42, s134_43, s134_46, s134_49, s134_50, s134_52, s134_53, s134_56, s134_57, s134_58, s134_60, s134_63, s134_66, s134_68, OpV_some, OpN_some, OpA_some, OpR_some, Option.toList_some, Option.toList_none, List.cons_append, List.nil_append, true_and, and_true, nI11, or_true, true_or, or_false, false_or]
theorem m_frow_loop (H : 69 ≤ u.length) (S : StM A nS nR h g) (hB : ∀ k, k < nR → A 9 k = nI (bt0 g k)) (h6 : nSn ≤ 6) (hSn : ∀ i, i < nSn → A 8 (2 * i) = nI (Sn (i * 2)) ∧ A 8 (2 * i + 1) = nI (Sn (i * 2 + 1)) ∧ Sn (i * 2) < 8 ∧ Sn (i * 2 + 1) ≤ 999) {G n0 : Nat} (hG : G ≤ 5) (hn0 : n0 ≤ 4) (l2 l4 : Int32) : ∀ (n i row si fr : Nat) (met : Int32) (P : Nat → Bool) (a : Nat → Int32) (l8 : Option Value), i + n = n0 → row < 2 ^ 30 → a 10 = nI nR → a 23 = nI nSn → a 30 = nI fr → a 31 = nI si → si < nS → fr ≤ 999 → BM met (fun i => decide (i < nSn) && P i) →
    (∀ a' : Nat → Int32, (∀ j, j < 24 → a' j = a j) → Q (some (.int (nI (cI (mfr h g Sn nR nSn G n row si fr P))))) (mw u tr a' A)) →
    Wp X (Cl X (d + 2)) 135 Q (20, [some (.ref 57), some (.int (nI G)), some (.int l2), some (.int (nI n0)), some (.int l4), some (.int met), some (.int (nI row)), some (.int (nI i)), l8], [], mw u tr a A, 0, 0)
  | 0, i, row, si, fr, met, P, a, l8, e, hrow, h10, h23, h30, h31, hsi, hfr, hm, hQ => by
    have hd8 := S.2.2.1.2.1
    obtain ⟨y, hy, hl⟩ := m_look (X := X) (d := d) (Q := fun r w' => Wp X (Cl X (d + 2)) 135 Q (175, [some (.ref 57), some (.int (nI G)), some (.int l2), some (.int (nI n0)), some (.int l4), some (.int met), some (.int (nI row)), some (.int (nI i)), l8], r.toList ++ [.int met], w', 0, 0)) (tr := tr) H h23 h6 hSn (show si < 8 by omega) hfr (show 999 < 2 ^ 30 by decide)
    have hb := BM_eq (BM_or hm hy) (BM_full nSn (by omega))
    have hQ := hQ a fun _ _ => rfl
    rw [s135_20]
    simp only [s135_22, s135_23, s135_158, s135_160, s135_161, s135_162, s135_165, s135_166, s135_169, s135_172, OpV_some, OpN_some, OpA_some, OpR_some, Option.toList_some, Option.toList_none, List.cons_append, List.nil_append, true_and, and_true, nI11, or_true, true_or, or_false, false_or, mI0 H, mP0 H, mI3 H, mP3 H, mI4 H, mP4 H, mI5 H, mP5 H, mI6 H, mP6 H, mI7 H, mP7 H, mI8 H, mP8 H, mI9 H, mP9 H, mI10 H, mP10 H, mI11 H, mP11 H, mI12 H, mP12 H, mI13 H, mP13 H, mI14 H, mP14 H, mI23 H, mP23 H, mI24 H, mP24 H, mI25 H, mP25 H, mI26 H, mP26 H, mI27 H, mP27 H, mI30 H, mP30 H, mI31 H, mP31 H, mI1 H, mP1 H, mR2 H, mR15 H, mR16 H, mR17 H, mR18 H, mR19 H, mR20 H, mR21 H, mR22 H, mR28 H, mR29 H, mA0 H, mS0 H, mA1 H, mS1 H, mA2 H, mS2 H, mA3 H, mS3 H, mA4 H, mS4 H, mA5 H, mS5 H, mA6 H, mS6 H, mA7 H, mS7 H, mA8 H, mS8 H, mA9 H, mS9 H, mA10 H, mS10 H, mw_cl H, fu_s, fu_n, ua_s, ua_n, Nat.reduceBEq, lt57, lt58, lt59, lt60, lt61, lt62, lt63, lt64, lt65, lt66, lt67, lt68, nI_ltN (show i < 2 ^ 31 by omega) (show n0 < 2 ^ 31 by omega), show ¬ i < n0 by omega, if_false, h30, h31, hl]
    simp only [s135_175, s135_176, s135_178, s135_180, s135_181, s135_182, s135_185, s135_186, s135_187, s135_188, s135_191, s135_192, s135_195, s135_196, OpV_some, OpN_some, OpA_some, OpR_some, Option.toList_some, Option.toList_none, List.cons_append, List.nil_append, true_and, and_true, nI11, or_true, true_or, or_false, false_or, mI0 H, mP0 H, mI3 H, mP3 H, mI4 H, mP4 H, mI5 H, mP5 H, mI6 H, mP6 H, mI7 H, mP7 H, mI8 H, mP8 H, mI9 H, mP9 H, mI10 H, mP10 H, mI11 H, mP11 H, mI12 H, mP12 H, mI13 H, mP13 H, mI14 H, mP14 H, mI23 H, mP23 H, mI24 H, mP24 H, mI25 H, mP25 H, mI26 H, mP26 H, mI27 H, mP27 H, mI30 H, mP30 H, mI31 H, mP31 H, mI1 H, mP1 H, mR2 H, mR15 H, mR16 H, mR17 H, mR18 H, mR19 H, mR20 H, mR21 H, mR22 H, mR28 H, mR29 H, mA0 H, mS0 H, mA1 H, mS1 H, mA2 H, mS2 H, mA3 H, mS3 H, mA4 H, mS4 H, mA5 H, mS5 H, mA6 H, mS6 H, mA7 H, mS7 H, mA8 H, mS8 H, mA9 H, mS9 H, mA10 H, mS10 H, mw_cl H, fu_s, fu_n, ua_s, ua_n, Nat.reduceBEq, lt57, lt58, lt59, lt60, lt61, lt62, lt63, lt64, lt65, lt66, lt67, lt68, h23]
    have hiff : (met ||| y = nI 1 <<< (nI nSn &&& 31) - nI 1) ↔ mfr h g Sn nR nSn G 0 row si fr P := by
      rw [hb]
      constructor
      · intro z e2 he
        have := z e2 (by omega)
        rw [decide_eq_true he, Bool.true_and, Bool.true_and] at this
        exact this
      · intro z i2 _
        by_cases q : i2 < nSn
        · rw [decide_eq_true q, Bool.true_and, Bool.true_and]
          exact z i2 q
        · rw [decide_eq_false q]
          rfl
    by_cases q : met ||| y = nI 1 <<< (nI nSn &&& 31) - nI 1
    · rw [cI_t (hiff.mp q)] at hQ
      simp only [q, if_true, s135_191, s135_192, s135_195, s135_196, OpV_some, OpN_some, OpA_some, OpR_some, Option.toList_some, Option.toList_none, List.cons_append, List.nil_append, true_and, and_true, nI11, or_true, true_or, or_false, false_or, b01_1]
      exact hQ
    · rw [cI_f (fun z => q (hiff.mpr z))] at hQ
      simp only [q, if_false, s135_191, s135_192, s135_195, s135_196, OpV_some, OpN_some, OpA_some, OpR_some, Option.toList_some, Option.toList_none, List.cons_append, List.nil_append, true_and, and_true, nI11, or_true, true_or, or_false, false_or, b01_0]
      exact hQ
  | n + 1, i, row, si, fr, met, P, a, l8, e, hrow, h10, h23, h30, h31, hsi, hfr, hm, hQ => by
    obtain ⟨hn8, hr⟩ := S.2.2.2
    have hd8 := S.2.2.1.2.1
    have hk8 : row % 8 < 8 := Nat.mod_lt _ (by decide)
    have hmf : mfr h g Sn nR nSn G (n + 1) row si fr P = (okR h g nR G (row % 8) si fr ∧ mfr h g Sn nR nSn G n (row / 8) (rid h g (row % 8) G si fr).2.1 (rid h g (row % 8) G si fr).1 (fun e => P e || lkB Sn si fr (fat g (row % 8) si fr) e)) := rfl
    rw [hmf] at hQ
    rw [s135_20]
    simp only [s135_22, s135_23, s135_26, s135_28, s135_30, s135_31, s135_33, s135_35, s135_37, s135_38, s135_40, s135_41, s135_43, s135_46, OpV_some, OpN_some, OpA_some, OpR_some, Option.toList_some, Option.toList_none, List.cons_append, List.nil_append, true_and, and_true, nI11, or_true, true_or, or_false, false_or, mI0 H, mP0 H, mI3 H, mP3 H, mI4 H, mP4 H, mI5 H, mP5 H, mI6 H, mP6 H, mI7 H, mP7 H, mI8 H, mP8 H, mI9 H, mP9 H, mI10 H, mP10 H, mI11 H, mP11 H, mI12 H, mP12 H, mI13 H, mP13 H, mI14 H, mP14 H, mI23 H, mP23 H, mI24 H, mP24 H, mI25 H, mP25 H, mI26 H, mP26 H, mI27 H, mP27 H, mI30 H, mP30 H, mI31 H, mP31 H, mI1 H, mP1 H, mR2 H, mR15 H, mR16 H, mR17 H, mR18 H, mR19 H, mR20 H, mR21 H, mR22 H, mR28 H, mR29 H, mA0 H, mS0 H, mA1 H, mS1 H, mA2 H, mS2 H, mA3 H, mS3 H, mA4 H, mS4 H, mA5 H, mS5 H, mA6 H, mS6 H, mA7 H, mS7 H, mA8 H, mS8 H, mA9 H, mS9 H, mA10 H, mS10 H, mw_cl H, fu_s, fu_n, ua_s, ua_n, Nat.reduceBEq, lt57, lt58, lt59, lt60, lt61, lt62, lt63, lt64, lt65, lt66, lt67, lt68, nI_ltN (show i < 2 ^ 31 by omega) (show n0 < 2 ^ 31 by omega), show i < n0 by omega, if_true, nI_mod (show row < 2 ^ 31 by omega) (show 0 < 8 by decide) (show 8 < 2 ^ 31 by decide), nI_div (show row < 2 ^ 31 by omega) (show 0 < 8 by decide) (show 8 < 2 ^ 31 by decide), show (nI 8 = 0) = False by decide, not_false_eq_true, m_isRope H, h10, nI_ite, rng_sub (nI (row % 8)) (show nR < 2 ^ 30 by omega)]
    generalize row % 8 = k at hQ hk8
    have hin : ((0 : Int32) ≤ nI k ∧ nI k < nI nR) = (k < nR) := by
      rw [nI_ltN (by omega) (by omega)]
      exact propext ⟨fun q => q.2, fun q => ⟨nI_pos' (by omega), q⟩⟩
    simp only [hin]
    by_cases q1 : k < nR
    · obtain ⟨g1, g2, g3, g4, g5, g6, g7⟩ := hr k q1
      have hb := hB k q1
      have hb0 : (bt0 g k = 0) = (g (k * 5 + 4) = 1) := by
        unfold bt0
        apply propext
        constructor
        · intro z
          by_cases y : g (k * 5 + 4) = 1
          · exact y
          · rw [if_neg y] at z
            omega
        · intro z
          rw [if_pos z]
      have hbl : bt0 g k < 2 ^ 31 := by unfold bt0; split <;> omega
      simp only [q1, not_true, if_false, s135_49, s135_50, s135_53, s135_55, s135_56, s135_59, s135_60, s135_62, s135_63, s135_66, s135_69, OpV_some, OpN_some, OpA_some, OpR_some, Option.toList_some, Option.toList_none, List.cons_append, List.nil_append, true_and, and_true, nI11, or_true, true_or, or_false, false_or, mI0 H, mP0 H, mI3 H, mP3 H, mI4 H, mP4 H, mI5 H, mP5 H, mI6 H, mP6 H, mI7 H, mP7 H, mI8 H, mP8 H, mI9 H, mP9 H, mI10 H, mP10 H, mI11 H, mP11 H, mI12 H, mP12 H, mI13 H, mP13 H, mI14 H, mP14 H, mI23 H, mP23 H, mI24 H, mP24 H, mI25 H, mP25 H, mI26 H, mP26 H, mI27 H, mP27 H, mI30 H, mP30 H, mI31 H, mP31 H, mI1 H, mP1 H, mR2 H, mR15 H, mR16 H, mR17 H, mR18 H, mR19 H, mR20 H, mR21 H, mR22 H, mR28 H, mR29 H, mA0 H, mS0 H, mA1 H, mS1 H, mA2 H, mS2 H, mA3 H, mS3 H, mA4 H, mS4 H, mA5 H, mS5 H, mA6 H, mS6 H, mA7 H, mS7 H, mA8 H, mS8 H, mA9 H, mS9 H, mA10 H, mS10 H, mw_cl H, fu_s, fu_n, ua_s, ua_n, Nat.reduceBEq, lt57, lt58, lt59, lt60, lt61, lt62, lt63, lt64, lt65, lt66, lt67, lt68, in_nI (show k < 8 by omega) (show 8 < 2 ^ 31 by omega), cl_nI (show k < 2 ^ 31 by omega), hb, nI_eq0 hbl, hb0, h31, m_hangs H S q1 (show si < 2 ^ 30 by omega), nI_ite]
      by_cases q2 : g (k * 5 + 4) = 1
      · have hc : ¬ (okR h g nR G k si fr ∧ mfr h g Sn nR nSn G n (row / 8) (rid h g k G si fr).2.1 (rid h g k G si fr).1 (fun e => P e || lkB Sn si fr (fat g k si fr) e)) := fun z => by
          have := (canB_iff.mp z.1.1).2.1
          omega
        rw [cI_f hc] at hQ
        simp only [q2, if_true, s135_72, s135_73, OpV_some, OpN_some, OpA_some, OpR_some, Option.toList_some, Option.toList_none, List.cons_append, List.nil_append, true_and, and_true, nI11, or_true, true_or, or_false, false_or, b01_0]
        exact hQ a fun _ _ => rfl
      · have hbe : bt0 g k = g (k * 5 + 2) := if_neg q2
        by_cases q3 : g (k * 5) = si ∨ g (k * 5 + 1) = si
        · have hc : canB g nR k si = true := canB_iff.mpr ⟨q1, by omega, q3⟩
          have hlt := rid_lt h S.2.2.2 (s := si) (t := fr) q1 hG
          have hsn : (rid h g k G si fr).2.1 < nS := rdg_sill S.2.2.2 q1 _ _ _ hsi
          have hft := fat_le g (k := k) (s := si) (t := fr) g4
          rw [hbe] at hb
          have a24 : ∀ (z1 z2 z3 z4 : Int32) j, j < 24 → r4 a z1 z2 z3 z4 j = a j := fun z1 z2 z3 z4 j hj => by
            unfold r4
            rw [if_neg (by omega), if_neg (by omega), if_neg (by omega), if_neg (by omega)]
          simp only [q2, q3, not_true, if_false, s135_74, s135_75, s135_77, s135_78, s135_81, s135_83, s135_84, s135_85, s135_88, s135_89, s135_92, s135_93, s135_96, s135_97, s135_100, s135_103, s135_104, s135_107, s135_110, s135_113, s135_114, OpV_some, OpN_some, OpA_some, OpR_some, Option.toList_some, Option.toList_none, List.cons_append, List.nil_append, true_and, and_true, nI11, or_true, true_or, or_false, false_or, mI0 H, mP0 H, mI3 H, mP3 H, mI4 H, mP4 H, mI5 H, mP5 H, mI6 H, mP6 H, mI7 H, mP7 H, mI8 H, mP8 H, mI9 H, mP9 H, mI10 H, mP10 H, mI11 H, mP11 H, mI12 H, mP12 H, mI13 H, mP13 H, mI14 H, mP14 H, mI23 H, mP23 H, mI24 H, mP24 H, mI25 H, mP25 H, mI26 H, mP26 H, mI27 H, mP27 H, mI30 H, mP30 H, mI31 H, mP31 H, mI1 H, mP1 H, mR2 H, mR15 H, mR16 H, mR17 H, mR18 H, mR19 H, mR20 H, mR21 H, mR22 H, mR28 H, mR29 H, mA0 H, mS0 H, mA1 H, mS1 H, mA2 H, mS2 H, mA3 H, mS3 H, mA4 H, mS4 H, mA5 H, mS5 H, mA6 H, mS6 H, mA7 H, mS7 H, mA8 H, mS8 H, mA9 H, mS9 H, mA10 H, mS10 H, mw_cl H, fu_s, fu_n, ua_s, ua_n, Nat.reduceBEq, lt57, lt58, lt59, lt60, lt61, lt62, lt63, lt64, lt65, lt66, lt67, lt68, in_nI (show k < 8 by omega) (show 8 < 2 ^ 31 by omega), cl_nI (show k < 2 ^ 31 by omega), hb, h30, h31, m_rides H S q1 hsi q3 (show fr < 10000 by omega) hG, r4_25, r4_26, r4_27, nI_ite]
          unfold okR at hQ
          generalize rid h g k G si fr = x at hQ hlt hsn
          by_cases q4 : x.2.2 = true
          · rw [cI_f (fun z => by rw [q4] at z; exact absurd z.1.2.2 (by decide))] at hQ
            simp only [q4, not_true, if_false, b01_0, true_and]
            exact hQ _ (a24 _ _ _ _)
          · simp only [q4, Bool.false_eq_true, if_false, not_false_eq_true, if_true, nI_ltN (show 999 < 2 ^ 31 by omega) (show x.1 < 2 ^ 31 by omega)]
            by_cases q5 : x.1 ≤ 999
            · have hok : canB g nR k si = true ∧ x.1 ≤ 999 ∧ x.2.2 = false := ⟨hc, q5, Bool.eq_false_iff.mpr q4⟩
              rw [cI_cg (show (_ ∧ mfr h g Sn nR nSn G n (row / 8) x.2.1 x.1 (fun e => P e || lkB Sn si fr (fat g k si fr) e)) ↔ mfr h g Sn nR nSn G n (row / 8) x.2.1 x.1 (fun e => P e || lkB Sn si fr (fat g k si fr) e) from ⟨fun z => z.2, fun z => ⟨hok, z⟩⟩)] at hQ
              obtain ⟨y, hy, hl⟩ := m_look (X := X) (d := d) (a := r4 a (nI (fat g k si fr)) (nI x.1) (nI x.2.1) (nI (if x.2.2 = true then 1 else 0))) (Q := fun r w' => Wp X (Cl X (d + 2)) 135 Q (133, [some (.ref 57), some (.int (nI G)), some (.int l2), some (.int (nI n0)), some (.int l4), some (.int met), some (.int (nI (row / 8))), some (.int (nI i)), some (.int (nI k))], r.toList ++ [.int met], w', 0, 0)) (tr := tr) H ((a24 _ _ _ _ 23 (by decide)).trans h23) h6 hSn (show si < 8 by omega) hfr (show fat g k si fr < 2 ^ 30 by omega)
              have r30 : ∀ z1 z2 z3 z4, r4 a z1 z2 z3 z4 30 = a 30 := fun _ _ _ _ => rfl
              have r31 : ∀ z1 z2 z3 z4, r4 a z1 z2 z3 z4 31 = a 31 := fun _ _ _ _ => rfl
              have hxf : nI 0 = nI (if x.2.2 = true then 1 else 0) := by rw [if_neg q4]
              simp only [show ¬ 999 < x.1 by omega, if_false, s135_115, s135_117, s135_118, s135_119, s135_122, s135_123, s135_126, s135_127, s135_130, OpV_some, OpN_some, OpA_some, OpR_some, Option.toList_some, Option.toList_none, List.cons_append, List.nil_append, true_and, and_true, nI11, or_true, true_or, or_false, false_or, mI0 H, mP0 H, mI3 H, mP3 H, mI4 H, mP4 H, mI5 H, mP5 H, mI6 H, mP6 H, mI7 H, mP7 H, mI8 H, mP8 H, mI9 H, mP9 H, mI10 H, mP10 H, mI11 H, mP11 H, mI12 H, mP12 H, mI13 H, mP13 H, mI14 H, mP14 H, mI23 H, mP23 H, mI24 H, mP24 H, mI25 H, mP25 H, mI26 H, mP26 H, mI27 H, mP27 H, mI30 H, mP30 H, mI31 H, mP31 H, mI1 H, mP1 H, mR2 H, mR15 H, mR16 H, mR17 H, mR18 H, mR19 H, mR20 H, mR21 H, mR22 H, mR28 H, mR29 H, mA0 H, mS0 H, mA1 H, mS1 H, mA2 H, mS2 H, mA3 H, mS3 H, mA4 H, mS4 H, mA5 H, mS5 H, mA6 H, mS6 H, mA7 H, mS7 H, mA8 H, mS8 H, mA9 H, mS9 H, mA10 H, mS10 H, mw_cl H, fu_s, fu_n, ua_s, ua_n, Nat.reduceBEq, lt57, lt58, lt59, lt60, lt61, lt62, lt63, lt64, lt65, lt66, lt67, lt68, r4_24, r4_25, r4_26, r30, r31, h30, h31]
              rw [if_neg q4] at hl
              rw [hl]
              simp only [s135_133, s135_134, s135_136, s135_137, s135_138, s135_141, s135_144, s135_145, s135_146, s135_149, s135_152, s135_155, OpV_some, OpN_some, OpA_some, OpR_some, Option.toList_some, Option.toList_none, List.cons_append, List.nil_append, true_and, and_true, nI11, or_true, true_or, or_false, false_or, mI0 H, mP0 H, mI3 H, mP3 H, mI4 H, mP4 H, mI5 H, mP5 H, mI6 H, mP6 H, mI7 H, mP7 H, mI8 H, mP8 H, mI9 H, mP9 H, mI10 H, mP10 H, mI11 H, mP11 H, mI12 H, mP12 H, mI13 H, mP13 H, mI14 H, mP14 H, mI23 H, mP23 H, mI24 H, mP24 H, mI25 H, mP25 H, mI26 H, mP26 H, mI27 H, mP27 H, mI30 H, mP30 H, mI31 H, mP31 H, mI1 H, mP1 H, mR2 H, mR15 H, mR16 H, mR17 H, mR18 H, mR19 H, mR20 H, mR21 H, mR22 H, mR28 H, mR29 H, mA0 H, mS0 H, mA1 H, mS1 H, mA2 H, mS2 H, mA3 H, mS3 H, mA4 H, mS4 H, mA5 H, mS5 H, mA6 H, mS6 H, mA7 H, mS7 H, mA8 H, mS8 H, mA9 H, mS9 H, mA10 H, mS10 H, mw_cl H, fu_s, fu_n, ua_s, ua_n, Nat.reduceBEq, lt57, lt58, lt59, lt60, lt61, lt62, lt63, lt64, lt65, lt66, lt67, lt68, r4_25, r4_26, nI_add]
              refine m_frow_loop H S hB h6 hSn hG hn0 l2 l4 n (i + 1) (row / 8) x.2.1 x.1 (met ||| y) (fun e => P e || lkB Sn si fr (fat g k si fr) e) _ _ (by omega) (by omega) ?_ ?_ rfl rfl hsn q5 ?_ fun a' ha' => hQ a' fun j hj => ?_
              · exact h10
              · exact h23
              · refine BM_cg (BM_or hm hy) fun j _ => ?_
                by_cases q : j < nSn
                · rw [decide_eq_true q, Bool.true_and, Bool.true_and, Bool.true_and]
                · rw [decide_eq_false q]
                  rfl
              · rw [ha' j hj]
                unfold fu
                rw [if_neg (by omega), if_neg (by omega)]
                exact a24 _ _ _ _ j hj
            · rw [cI_f (fun z => q5 z.1.2.1)] at hQ
              simp only [show 999 < x.1 by omega, if_true, b01_0, true_and]
              exact hQ _ (a24 _ _ _ _)
        · have hc : ¬ (okR h g nR G k si fr ∧ mfr h g Sn nR nSn G n (row / 8) (rid h g k G si fr).2.1 (rid h g k G si fr).1 (fun e => P e || lkB Sn si fr (fat g k si fr) e)) := fun z => q3 (canB_iff.mp z.1.1).2.2
          rw [cI_f hc] at hQ
          simp only [q2, q3, not_false_eq_true, if_true, if_false, s135_72, s135_73, OpV_some, OpN_some, OpA_some, OpR_some, Option.toList_some, Option.toList_none, List.cons_append, List.nil_append, true_and, and_true, nI11, or_true, true_or, or_false, false_or, b01_0]
          exact hQ a fun _ _ => rfl
    · have hc : ¬ (okR h g nR G k si fr ∧ mfr h g Sn nR nSn G n (row / 8) (rid h g k G si fr).2.1 (rid h g k G si fr).1 (fun e => P e || lkB Sn si fr (fat g k si fr) e)) := fun z => q1 (canB_iff.mp z.1.1).1
      rw [cI_f hc] at hQ
      simp only [q1, not_false_eq_true, if_true, s135_72, s135_73, OpV_some, OpN_some, OpA_some, OpR_some, Option.toList_some, Option.toList_none, List.cons_append, List.nil_append, true_and, and_true, nI11, or_true, true_or, or_false, false_or, b01_0]
      exact hQ a fun _ _ => rfl
theorem m_frow (H : 69 ≤ u.length) (S : StM A nS nR h g) (hB : ∀ k, k < nR → A 9 k = nI (bt0 g k)) (h6 : nSn ≤ 6) (hSn : ∀ i, i < nSn → A 8 (2 * i) = nI (Sn (i * 2)) ∧ A 8 (2 * i + 1) = nI (Sn (i * 2 + 1)) ∧ Sn (i * 2) < 8 ∧ Sn (i * 2 + 1) ≤ 999) {G n row si : Nat} {a : Nat → Int32} (hG : G ≤ 5) (hn : n ≤ 4) (hrow : row < 2 ^ 30) (h10 : a 10 = nI nR) (h23 : a 23 = nI nSn) (hsi : si < nS)
    (hQ : ∀ a' : Nat → Int32, (∀ j, j < 24 → a' j = a j) → Q (some (.int (nI (cI (mfr h g Sn nR nSn G n row si 0 (fun _ => false)))))) (mw u tr a' A)) :
    Cl X (d + 3) 135 [.ref 57, .int (nI G), .int (nI si), .int (nI n), .int (nI row)] (mw u tr a A) Q := by
  rw [e135]
  simp only [s135_0, s135_1, s135_3, s135_5, s135_7, s135_8, s135_9, s135_12, s135_13, s135_14, s135_17, s135_18, OpV_some, OpN_some, OpA_some, OpR_some, Option.toList_some, Option.toList_none, List.cons_append, List.nil_append, true_and, and_true, nI11, or_true, true_or, or_false, false_or, mI0 H, mP0 H, mI3 H, mP3 H, mI4 H, mP4 H, mI5 H, mP5 H, mI6 H, mP6 H, mI7 H, mP7 H, mI8 H, mP8 H, mI9 H, mP9 H, mI10 H, mP10 H, mI11 H, mP11 H, mI12 H, mP12 H, mI13 H, mP13 H, mI14 H, mP14 H, mI23 H, mP23 H, mI24 H, mP24 H, mI25 H, mP25 H, mI26 H, mP26 H, mI27 H, mP27 H, mI30 H, mP30 H, mI31 H, mP31 H, mI1 H, mP1 H, mR2 H, mR15 H, mR16 H, mR17 H, mR18 H, mR19 H, mR20 H, mR21 H, mR22 H, mR28 H, mR29 H, mA0 H, mS0 H, mA1 H, mS1 H, mA2 H, mS2 H, mA3 H, mS3 H, mA4 H, mS4 H, mA5 H, mS5 H, mA6 H, mS6 H, mA7 H, mS7 H, mA8 H, mS8 H, mA9 H, mS9 H, mA10 H, mS10 H, mw_cl H, fu_s, fu_n, ua_s, ua_n, Nat.reduceBEq, lt57, lt58, lt59, lt60, lt61, lt62, lt63, lt64, lt65, lt66, lt67, lt68]
  refine m_frow_loop H S hB h6 hSn hG hn _ _ n 0 row si 0 (nI 0) (fun _ => false) _ _ (by omega) hrow h10 h23 rfl rfl hsi (by omega) (BM_cg BM_0 fun i _ => by rw [Bool.and_false]) fun a' ha' => hQ a' fun j hj => ?_
  rw [ha' j hj]
  unfold fu
  rw [if_neg (by omega), if_neg (by omega)]
theorem m_fits_all {l0 : Int32} (l1 l2 : Int32) {n0 : Nat} (hn : n0 ≤ 4) (l6 : Option Value) {r : Nat} : ∀ (n i : Nat), i + n = n0 → Wp X (Cl X d) 136 Q (43, [some (.ref r), some (.int l1), some (.int l2), some (.int (nI n0)), some (.int (nI (8 ^ i))), some (.int (nI i)), l6], [], w, 0, 0) = Wp X (Cl X d) 136 Q (68, [some (.ref r), some (.int l1), some (.int l2), some (.int (nI n0)), some (.int (nI (8 ^ n0))), some (.int (nI 0)), some (.int (nI 0))], [], w, 0, 0)
  | 0, i, e => by
    rw [s136_43]
    simp only [s136_45, s136_46, s136_62, s136_63, s136_65, s136_66, OpV_some, OpN_some, OpA_some, OpR_some, Option.toList_some, Option.toList_none, List.cons_append, List.nil_append, true_and, and_true, nI11, or_true, true_or, or_false, false_or, nI_ltN (show i < 2 ^ 31 by omega) (show n0 < 2 ^ 31 by omega), show ¬ i < n0 by omega, if_false]
    rw [show i = n0 by omega]
  | n + 1, i, e => by
    have ih := m_fits_all (l0 := l0) l1 l2 hn l6 (r := r) n (i + 1) (by omega)
    rw [s136_43]
    simp only [s136_45, s136_46, s136_49, s136_51, s136_53, s136_54, s136_56, s136_59, OpV_some, OpN_some, OpA_some, OpR_some, Option.toList_some, Option.toList_none, List.cons_append, List.nil_append, true_and, and_true, nI11, or_true, true_or, or_false, false_or, nI_ltN (show i < 2 ^ 31 by omega) (show n0 < 2 ^ 31 by omega), show i < n0 by omega, if_true, pk_mul, nI_add]
    rw [← Nat.pow_succ]
    exact ih
theorem m_fits_rows (H : 69 ≤ u.length) (S : StM A nS nR h g) (hB : ∀ k, k < nR → A 9 k = nI (bt0 g k)) (h6 : nSn ≤ 6) (hSn : ∀ i, i < nSn → A 8 (2 * i) = nI (Sn (i * 2)) ∧ A 8 (2 * i + 1) = nI (Sn (i * 2 + 1)) ∧ Sn (i * 2) < 8 ∧ Sn (i * 2 + 1) ≤ 999) {G n si N : Nat} (hG : G ≤ 5) (hn : n ≤ 4) (hsi : si < nS) (hN : N < 2 ^ 30) : ∀ (m row c : Nat) (a : Nat → Int32), row + m = N → a 10 = nI nR → a 23 = nI nSn →
    (∀ a' : Nat → Int32, (∀ j, j < 24 → a' j = a j) → Q (some (.int (nI (c + sm (fun t => cI (mfr h g Sn nR nSn G n (row + t) si 0 (fun _ => false))) m)))) (mw u tr a' A)) →
    Wp X (Cl X (d + 3)) 136 Q (68, [some (.ref 57), some (.int (nI G)), some (.int (nI si)), some (.int (nI n)), some (.int (nI N)), some (.int (nI c)), some (.int (nI row))], [], mw u tr a A, 0, 0)
  | 0, row, c, a, e, h10, h23, hQ => by
    have hQ := hQ a fun _ _ => rfl
    rw [s136_68]
    simp only [s136_70, s136_72, s136_103, s136_105, OpV_some, OpN_some, OpA_some, OpR_some, Option.toList_some, Option.toList_none, List.cons_append, List.nil_append, true_and, and_true, nI11, or_true, true_or, or_false, false_or, nI_ltN (show row < 2 ^ 31 by omega) (show N < 2 ^ 31 by omega), show ¬ row < N by omega, if_false]
    exact hQ
  | m + 1, row, c, a, e, h10, h23, hQ => by
    rw [s136_68]
    simp only [s136_70, s136_72, s136_75, s136_77, s136_78, s136_79, s136_80, s136_81, s136_83, OpV_some, OpN_some, OpA_some, OpR_some, Option.toList_some, Option.toList_none, List.cons_append, List.nil_append, true_and, and_true, nI11, or_true, true_or, or_false, false_or, mI0 H, mP0 H, mI3 H, mP3 H, mI4 H, mP4 H, mI5 H, mP5 H, mI6 H, mP6 H, mI7 H, mP7 H, mI8 H, mP8 H, mI9 H, mP9 H, mI10 H, mP10 H, mI11 H, mP11 H, mI12 H, mP12 H, mI13 H, mP13 H, mI14 H, mP14 H, mI23 H, mP23 H, mI24 H, mP24 H, mI25 H, mP25 H, mI26 H, mP26 H, mI27 H, mP27 H, mI30 H, mP30 H, mI31 H, mP31 H, mI1 H, mP1 H, mR2 H, mR15 H, mR16 H, mR17 H, mR18 H, mR19 H, mR20 H, mR21 H, mR22 H, mR28 H, mR29 H, mA0 H, mS0 H, mA1 H, mS1 H, mA2 H, mS2 H, mA3 H, mS3 H, mA4 H, mS4 H, mA5 H, mS5 H, mA6 H, mS6 H, mA7 H, mS7 H, mA8 H, mS8 H, mA9 H, mS9 H, mA10 H, mS10 H, mw_cl H, fu_s, fu_n, ua_s, ua_n, Nat.reduceBEq, lt57, lt58, lt59, lt60, lt61, lt62, lt63, lt64, lt65, lt66, lt67, lt68, nI_ltN (show row < 2 ^ 31 by omega) (show N < 2 ^ 31 by omega), show row < N by omega, if_true]
    refine m_frow H S hB h6 hSn hG hn (show row < 2 ^ 30 by omega) h10 h23 hsi fun a' ha' => ?_
    have hc := cI_le (mfr h g Sn nR nSn G n row si 0 (fun _ => false))
    have hQ2 : ∀ c', c' = c + cI (mfr h g Sn nR nSn G n row si 0 (fun _ => false)) → ∀ a'' : Nat → Int32, (∀ j, j < 24 → a'' j = a' j) → Q (some (.int (nI (c' + sm (fun t => cI (mfr h g Sn nR nSn G n (row + 1 + t) si 0 (fun _ => false))) m)))) (mw u tr a'' A) := fun c' hc' a'' h'' => by
      have := hQ a'' fun j hj => (h'' j hj).trans (ha' j hj)
      rw [sm_head, Nat.add_zero, ← Nat.add_assoc, ← hc'] at this
      have e2 : sm (fun i => cI (mfr h g Sn nR nSn G n (row + (i + 1)) si 0 (fun _ => false))) m = sm (fun t => cI (mfr h g Sn nR nSn G n (row + 1 + t) si 0 (fun _ => false))) m := sm_cg m fun t _ => by rw [show row + (t + 1) = row + 1 + t by omega]
      rw [e2] at this
      exact this
    have loop := fun c' => m_fits_rows H S hB h6 hSn hG hn hsi hN m (row + 1) c' a' (by omega) ((ha' 10 (by decide)).trans h10) ((ha' 23 (by decide)).trans h23)
    simp only [s136_86, s136_89, s136_90, s136_93, s136_94, s136_95, s136_97, s136_100, OpV_some, OpN_some, OpA_some, OpR_some, Option.toList_some, Option.toList_none, List.cons_append, List.nil_append, true_and, and_true, nI11, or_true, true_or, or_false, false_or, nI_eq0 (show cI (mfr h g Sn nR nSn G n row si 0 (fun _ => false)) < 2 ^ 31 by omega), nI_add]
    by_cases q : cI (mfr h g Sn nR nSn G n row si 0 (fun _ => false)) = 0
    · simp only [q, if_true, s136_93, s136_94, s136_95, s136_97, s136_100, OpV_some, OpN_some, OpA_some, OpR_some, Option.toList_some, Option.toList_none, List.cons_append, List.nil_append, true_and, and_true, nI11, or_true, true_or, or_false, false_or, nI_add]
      exact loop _ (hQ2 _ (by rw [q]))
    · simp only [q, if_false, s136_89, s136_90, s136_93, s136_94, s136_95, s136_97, s136_100, OpV_some, OpN_some, OpA_some, OpR_some, Option.toList_some, Option.toList_none, List.cons_append, List.nil_append, true_and, and_true, nI11, or_true, true_or, or_false, false_or, nI_add]
      exact loop _ (hQ2 _ (by rw [show cI (mfr h g Sn nR nSn G n row si 0 (fun _ => false)) = 1 by omega]))
theorem m_fits (H : 69 ≤ u.length) {a : Nat → Int32} (R : Rel tr a A s) (V : Valid s) (G p n : Int32) (hQ : ∀ a' A', Rel tr a' A' s → Q (some (.int (sp_fits s G p n))) (mw u tr a' A')) : Cl X (d + 4) 136 [.ref 57, .int G, .int p, .int n] (mw u tr a A) Q := by
  have h8 := Rel.nR V
  have hS := Rel.nS V
  rw [e136]
  unfold sp_fits at hQ
  simp only [s136_0, s136_1, s136_2, s136_5, s136_6, s136_7, s136_8, s136_11, s136_14, s136_15, s136_16, s136_19, s136_22, s136_23, s136_24, s136_25, s136_28, s136_31, s136_32, OpV_some, OpN_some, OpA_some, OpR_some, Option.toList_some, Option.toList_none, List.cons_append, List.nil_append, true_and, and_true, nI11, or_true, true_or, or_false, false_or, mI0 H, mP0 H, mI3 H, mP3 H, mI4 H, mP4 H, mI5 H, mP5 H, mI6 H, mP6 H, mI7 H, mP7 H, mI8 H, mP8 H, mI9 H, mP9 H, mI10 H, mP10 H, mI11 H, mP11 H, mI12 H, mP12 H, mI13 H, mP13 H, mI14 H, mP14 H, mI23 H, mP23 H, mI24 H, mP24 H, mI25 H, mP25 H, mI26 H, mP26 H, mI27 H, mP27 H, mI30 H, mP30 H, mI31 H, mP31 H, mI1 H, mP1 H, mR2 H, mR15 H, mR16 H, mR17 H, mR18 H, mR19 H, mR20 H, mR21 H, mR22 H, mR28 H, mR29 H, mA0 H, mS0 H, mA1 H, mS1 H, mA2 H, mS2 H, mA3 H, mS3 H, mA4 H, mS4 H, mA5 H, mS5 H, mA6 H, mS6 H, mA7 H, mS7 H, mA8 H, mS8 H, mA9 H, mS9 H, mA10 H, mS10 H, mw_cl H, fu_s, fu_n, ua_s, ua_n, Nat.reduceBEq, lt57, lt58, lt59, lt60, lt61, lt62, lt63, lt64, lt65, lt66, lt67, lt68, m_isSill H, m_in, nI_ite, R.si, rng_sub p (show s.2.1.1 < 2 ^ 30 by omega), rng_le n 4 (by decide)]
  by_cases hA : ((nI 1 ≤ G ∧ G ≤ nI 5) ∧ (0 ≤ p ∧ p < nI s.2.1.1)) ∧ (0 ≤ n ∧ n < nI 5)
  · obtain ⟨⟨hg, hp⟩, hn⟩ := hA
    obtain ⟨G, g1, g5, rfl⟩ := grip hg
    obtain ⟨p, hp1, rfl⟩ : ∃ j, j < s.2.1.1 ∧ p = nI j := (ix p (by omega)).resolve_right (not_not_intro hp)
    obtain ⟨n, hn1, rfl⟩ : ∃ j, j < 5 ∧ n = nI j := (ix n (by decide)).resolve_right (not_not_intro hn)
    simp only [hg, hp, hn, and_self, if_true, cl_of (show G < 2 ^ 31 by omega), cl_of (show p < 2 ^ 31 by omega), cl_of (show n < 2 ^ 31 by omega)] at hQ
    simp only [hg, hp, hn, and_self, not_true, if_false, s136_33, s136_34, s136_37, s136_38, s136_40, s136_41, OpV_some, OpN_some, OpA_some, OpR_some, Option.toList_some, Option.toList_none, List.cons_append, List.nil_append, true_and, and_true, nI11, or_true, true_or, or_false, false_or, mI0 H, mP0 H, mI3 H, mP3 H, mI4 H, mP4 H, mI5 H, mP5 H, mI6 H, mP6 H, mI7 H, mP7 H, mI8 H, mP8 H, mI9 H, mP9 H, mI10 H, mP10 H, mI11 H, mP11 H, mI12 H, mP12 H, mI13 H, mP13 H, mI14 H, mP14 H, mI23 H, mP23 H, mI24 H, mP24 H, mI25 H, mP25 H, mI26 H, mP26 H, mI27 H, mP27 H, mI30 H, mP30 H, mI31 H, mP31 H, mI1 H, mP1 H, mR2 H, mR15 H, mR16 H, mR17 H, mR18 H, mR19 H, mR20 H, mR21 H, mR22 H, mR28 H, mR29 H, mA0 H, mS0 H, mA1 H, mS1 H, mA2 H, mS2 H, mA3 H, mS3 H, mA4 H, mS4 H, mA5 H, mS5 H, mA6 H, mS6 H, mA7 H, mS7 H, mA8 H, mS8 H, mA9 H, mS9 H, mA10 H, mS10 H, mw_cl H, fu_s, fu_n, ua_s, ua_n, Nat.reduceBEq, lt57, lt58, lt59, lt60, lt61, lt62, lt63, lt64, lt65, lt66, lt67, lt68, m_beats H (R.th (nI 0)).ro h8 (R.bts V)]
    have e1 : nI 1 = nI (8 ^ 0) := rfl
    rw [e1, m_fits_all (l0 := 0) _ _ (show n ≤ 4 by omega) none n 0 (by omega)]
    have h84 : 8 ^ n ≤ 8 ^ 4 := Nat.pow_le_pow_right (by decide) (by omega)
    have h8e : 8 ^ 4 = 4096 := by decide
    have hv := V.2.2.2.2.1
    have hSn : ∀ i, i < s.2.2.2.1.1 → (ua A 9 (cpy (nIf (bt0 s.2.2.1.1.2)) (A 9) s.2.2.1.1.1)) 8 (2 * i) = nI (s.2.2.2.1.2 (i * 2)) ∧ (ua A 9 (cpy (nIf (bt0 s.2.2.1.1.2)) (A 9) s.2.2.1.1.1)) 8 (2 * i + 1) = nI (s.2.2.2.1.2 (i * 2 + 1)) ∧ s.2.2.2.1.2 (i * 2) < 8 ∧ s.2.2.2.1.2 (i * 2 + 1) ≤ 999 := fun i hi => ⟨(R.sn i hi).1, (R.sn i hi).2, by have := (hv.2 i hi).1; omega, (hv.2 i hi).2⟩
    have S' : StM (ua A 9 (cpy (nIf (bt0 s.2.2.1.1.2)) (A 9) s.2.2.1.1.1)) s.2.1.1 s.2.2.1.1.1 s.2.1.2 s.2.2.1.1.2 := R.stM V
    refine m_fits_rows (N := 8 ^ n) (nS := s.2.1.1) (nR := s.2.2.1.1.1) (h := s.2.1.2) (g := s.2.2.1.1.2) (Sn := s.2.2.2.1.2) (nSn := s.2.2.2.1.1) H S' (fun k hk => by rw [ua_s]; exact if_pos hk) hv.1 hSn g5 (show n ≤ 4 by omega) hp1 (by omega) (8 ^ n) 0 0 _ (by omega) (R.th (nI 0)).ro (R.th (nI 0)).sm fun a' ha' => ?_
    have RR : Rel tr a' (ua A 9 (cpy (nIf (bt0 s.2.2.1.1.2)) (A 9) s.2.2.1.1.1)) s := R.cg (ha' 3 (by decide)) (ha' 9 (by decide)) (ha' 10 (by decide)) (ha' 11 (by decide)) (ha' 23 (by decide)) fun i hi => if_neg (by omega)
    have hQ := hQ _ _ RR
    rw [← cfit_sm h8] at hQ
    have e2 : sm (fun t => cI (mfr s.2.1.2 s.2.2.1.1.2 s.2.2.2.1.2 s.2.2.1.1.1 s.2.2.2.1.1 G n (0 + t) p 0 (fun _ => false))) (8 ^ n) = sm (fun row => cI (crow s.2.1.2 s.2.2.1.1.2 s.2.2.2.1.2 s.2.2.1.1.1 s.2.2.2.1.1 G n row p 0)) (8 ^ n) := sm_cg _ fun t _ => by
      rw [Nat.zero_add]
      refine cI_cg ((mfr_iff V.2.2.2.1.1 g1 (fun e he => (hv.2 e he).2) n t p 0 (fun _ => false) (fun e _ z => by cases z)).trans ⟨fun z => z.2, fun z => ⟨fun e _ q => absurd q (by omega), z⟩⟩)
    rw [Nat.zero_add, e2]
    exact hQ
  · simp only [hA, if_false] at hQ
    have hQ := hQ _ _ (R.th (nI 0))
    by_cases h0 : nI 1 ≤ G ∧ G ≤ nI 5
    · by_cases h1 : 0 ≤ p ∧ p < nI s.2.1.1
      · have h2 : ¬ (0 ≤ n ∧ n < nI 5) := fun q => hA ⟨⟨h0, h1⟩, q⟩
        simp only [h0, h1, h2, and_self, not_true, not_false_eq_true, if_false, if_true]
        exact hQ
      · simp only [h0, h1, and_self, not_true, not_false_eq_true, if_false, if_true, s136_31, s136_32, OpV_some, OpN_some, OpA_some, OpR_some, Option.toList_some, Option.toList_none, List.cons_append, List.nil_append, true_and, and_true, nI11, or_true, true_or, or_false, false_or]
        exact hQ
    · simp only [h0, not_false_eq_true, if_true, s136_31, s136_32, OpV_some, OpN_some, OpA_some, OpR_some, Option.toList_some, Option.toList_none, List.cons_append, List.nil_append, true_and, and_true, nI11, or_true, true_or, or_false, false_or]
      exact hQ
end MFITS
