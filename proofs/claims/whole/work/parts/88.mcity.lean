/-! city by the reference -/
theorem adI_V {r : RSt} {k it : Nat} {N : Nat → Nat} (hr : RdV r) (hk : k < 4) (hN : ∀ i, i < numC k → okN k i (N i) (N 0) r.1.1 = true) (hm : mayB k it r.2.1.1 r.2.2.1 = true) (h0 : it = 0 → r.2.1.1 = 0 ∧ r.2.2.1 = 0) : RdV (adI k N r) := by
  obtain ⟨v1, v2, v3, v4, v5⟩ := hr
  obtain ⟨m2, m3, m0⟩ := mayB_2 hm
  have ok : ∀ i, i < numC k → ¬ (k = 2 ∧ i = 1 ∧ N i = N 0) ∧ lsN (k * 4 + i) ≤ N i ∧ N i ≤ msN r.1.1 (k * 4 + i) := fun i hi => okN_iff.mp (hN i hi)
  unfold adI
  rcases (show k = 0 ∨ k = 1 ∨ k = 2 ∨ k = 3 by omega) with e | e | e | e <;> subst e
  · have o0 := ok 0 (by decide)
    have a1 : 2 ≤ N 0 := o0.2.1
    have a2 : N 0 ≤ 8 := o0.2.2
    obtain ⟨z1, z2⟩ := h0 (m0 rfl)
    rw [if_pos rfl]
    refine ⟨⟨a1, a2, fun s hs => ?_⟩, ⟨by show r.2.1.1 ≤ 8; omega, fun k hk => ?_⟩, v3, ⟨by show r.2.2.1 ≤ 4; omega, fun k hk => ?_⟩, v5⟩
    · have hs2 : s < N 0 := hs
      show 1 ≤ ssl (N 0) 0 r.1.2 (s * 2) ∧ ssl (N 0) 0 r.1.2 (s * 2) ≤ 9 ∧ 1 ≤ ssl (N 0) 0 r.1.2 (s * 2 + 1) ∧ ssl (N 0) 0 r.1.2 (s * 2 + 1) ≤ 9
      rw [ssl_at, ssl_at, if_pos (by omega), if_pos (by omega)]
      omega
    · have : k < r.2.1.1 := hk
      omega
    · have : k < r.2.2.1 := hk
      omega
  · have o1 := ok 1 (by decide)
    have o2 := ok 2 (by decide)
    have b1 : 1 ≤ N 1 := o1.2.1
    have b2 : N 1 ≤ 9 := o1.2.2
    have c1 : 1 ≤ N 2 := o2.2.1
    have c2 : N 2 ≤ 9 := o2.2.2
    rw [if_neg (by decide), if_pos rfl]
    refine ⟨⟨v1.1, v1.2.1, fun s hs => ?_⟩, v2, v3, v4, v5⟩
    obtain ⟨w1, w2, w3, w4⟩ := v1.2.2 s hs
    show 1 ≤ upN (upN r.1.2 (N 0 * 2) (N 1)) (N 0 * 2 + 1) (N 2) (s * 2) ∧ upN (upN r.1.2 (N 0 * 2) (N 1)) (N 0 * 2 + 1) (N 2) (s * 2) ≤ 9 ∧ 1 ≤ upN (upN r.1.2 (N 0 * 2) (N 1)) (N 0 * 2 + 1) (N 2) (s * 2 + 1) ∧ upN (upN r.1.2 (N 0 * 2) (N 1)) (N 0 * 2 + 1) (N 2) (s * 2 + 1) ≤ 9
    by_cases e : s = N 0
    · subst e
      rw [upN_n _ _ (by omega), upN_s, upN_s]
      exact ⟨b1, b2, c1, c2⟩
    · rw [upN_n _ _ (by omega), upN_n _ _ (by omega), upN_n _ _ (by omega), upN_n _ _ (by omega)]
      exact ⟨w1, w2, w3, w4⟩
  · have o0 := ok 0 (by decide)
    have o1 := ok 1 (by decide)
    have o2 := ok 2 (by decide)
    have o3 := ok 3 (by decide)
    have a2 : N 0 ≤ r.1.1 - 1 := o0.2.2
    have b2 : N 1 ≤ r.1.1 - 1 := o1.2.2
    have ne : ¬ N 1 = N 0 := fun q => o1.1 ⟨rfl, rfl, q⟩
    have c1 : 1 ≤ N 2 := o2.2.1
    have c2 : N 2 ≤ 9 := o2.2.2
    have d2 : N 3 ≤ 17 := o3.2.2
    have n8 := m2 rfl
    have h2 := v1.1
    rw [if_neg (by decide), if_neg (by decide), if_pos rfl]
    have key : ∀ q, q < r.2.1.1 + 1 → (q = r.2.1.1 ∧ rpn r.2.1.2 r.2.1.1 N (q * 5) = N 0 ∧ rpn r.2.1.2 r.2.1.1 N (q * 5 + 1) = N 1 ∧ rpn r.2.1.2 r.2.1.1 N (q * 5 + 2) = N 2 ∧ rpn r.2.1.2 r.2.1.1 N (q * 5 + 3) = N 3 ∧ rpn r.2.1.2 r.2.1.1 N (q * 5 + 4) = 0) ∨ (q < r.2.1.1 ∧ ∀ c, c < 5 → rpn r.2.1.2 r.2.1.1 N (q * 5 + c) = r.2.1.2 (q * 5 + c)) := fun q hq => by
      unfold rpn
      by_cases e : q = r.2.1.1
      · left
        subst e
        refine ⟨rfl, ?_, ?_, ?_, ?_, upN_s _ _ _⟩
        · rw [upN_n _ _ (by omega), upN_n _ _ (by omega), upN_n _ _ (by omega), upN_n _ _ (by omega), upN_s]
        · rw [upN_n _ _ (by omega), upN_n _ _ (by omega), upN_n _ _ (by omega), upN_s]
        · rw [upN_n _ _ (by omega), upN_n _ _ (by omega), upN_s]
        · rw [upN_n _ _ (by omega), upN_s]
      · right
        refine ⟨by omega, fun c hc => ?_⟩
        rw [upN_n _ _ (by omega), upN_n _ _ (by omega), upN_n _ _ (by omega), upN_n _ _ (by omega), upN_n _ _ (by omega)]
    refine ⟨v1, ⟨by show r.2.1.1 + 1 ≤ 8; omega, fun q hq => ?_⟩, fun q hq => ?_, v4, v5⟩
    · show rpn r.2.1.2 r.2.1.1 N (q * 5) < r.1.1 ∧ rpn r.2.1.2 r.2.1.1 N (q * 5 + 1) < r.1.1 ∧ rpn r.2.1.2 r.2.1.1 N (q * 5) ≠ rpn r.2.1.2 r.2.1.1 N (q * 5 + 1) ∧ 1 ≤ rpn r.2.1.2 r.2.1.1 N (q * 5 + 2) ∧ rpn r.2.1.2 r.2.1.1 N (q * 5 + 2) ≤ 11 ∧ rpn r.2.1.2 r.2.1.1 N (q * 5 + 3) ≤ 999 ∧ rpn r.2.1.2 r.2.1.1 N (q * 5 + 4) ≤ 1
      rcases key q hq with ⟨_, e0, e1, e2, e3, e4⟩ | ⟨ql, e⟩
      · rw [e0, e1, e2, e3, e4]
        omega
      · have e0 : rpn r.2.1.2 r.2.1.1 N (q * 5) = r.2.1.2 (q * 5) := e 0 (by decide)
        rw [e0, e 1 (by decide), e 2 (by decide), e 3 (by decide), e 4 (by decide)]
        exact v2.2 q ql
    · show rpn r.2.1.2 r.2.1.1 N (q * 5 + 2) ≤ 9 ∧ rpn r.2.1.2 r.2.1.1 N (q * 5 + 4) = 0
      rcases key q hq with ⟨_, e0, e1, e2, e3, e4⟩ | ⟨ql, e⟩
      · rw [e2, e4]; exact ⟨c2, rfl⟩
      · rw [e 2 (by decide), e 4 (by decide)]; exact v3 q ql
  · have o0 := ok 0 (by decide)
    have o1 := ok 1 (by decide)
    have o2 := ok 2 (by decide)
    have a2 : N 0 ≤ r.1.1 - 1 := o0.2.2
    have b1 : 1 ≤ N 1 := o1.2.1
    have b2 : N 1 ≤ 5 := o1.2.2
    have c2 : N 2 ≤ 99 := o2.2.2
    have n4 := m3 rfl
    have h2 := v1.1
    rw [if_neg (by decide), if_neg (by decide), if_neg (by decide)]
    have key : ∀ q, q < r.2.2.1 + 1 → (q = r.2.2.1 ∧ pdn r.2.2.2 r.2.2.1 N (q * 5) = N 0 ∧ pdn r.2.2.2 r.2.2.1 N (q * 5 + 1) = 0 ∧ pdn r.2.2.2 r.2.2.1 N (q * 5 + 2) = N 1 ∧ pdn r.2.2.2 r.2.2.1 N (q * 5 + 3) = N 2 ∧ pdn r.2.2.2 r.2.2.1 N (q * 5 + 4) = 0) ∨ (q < r.2.2.1 ∧ ∀ c, c < 5 → pdn r.2.2.2 r.2.2.1 N (q * 5 + c) = r.2.2.2 (q * 5 + c)) := fun q hq => by
      unfold pdn
      by_cases e : q = r.2.2.1
      · left
        subst e
        refine ⟨rfl, ?_, ?_, ?_, ?_, upN_s _ _ _⟩
        · rw [upN_n _ _ (by omega), upN_n _ _ (by omega), upN_n _ _ (by omega), upN_n _ _ (by omega), upN_s]
        · rw [upN_n _ _ (by omega), upN_n _ _ (by omega), upN_n _ _ (by omega), upN_s]
        · rw [upN_n _ _ (by omega), upN_n _ _ (by omega), upN_s]
        · rw [upN_n _ _ (by omega), upN_s]
      · right
        refine ⟨by omega, fun c hc => ?_⟩
        rw [upN_n _ _ (by omega), upN_n _ _ (by omega), upN_n _ _ (by omega), upN_n _ _ (by omega), upN_n _ _ (by omega)]
    refine ⟨v1, v2, v3, ⟨by show r.2.2.1 + 1 ≤ 4; omega, fun q hq => ?_⟩, fun q hq => ?_⟩
    · show pdn r.2.2.2 r.2.2.1 N (q * 5) < r.1.1 ∧ pdn r.2.2.2 r.2.2.1 N (q * 5 + 1) ≤ 999 ∧ 1 ≤ pdn r.2.2.2 r.2.2.1 N (q * 5 + 2) ∧ pdn r.2.2.2 r.2.2.1 N (q * 5 + 2) ≤ 5 ∧ pdn r.2.2.2 r.2.2.1 N (q * 5 + 3) ≤ 99 ∧ pdn r.2.2.2 r.2.2.1 N (q * 5 + 4) ≤ 1
      rcases key q hq with ⟨_, e0, e1, e2, e3, e4⟩ | ⟨ql, e⟩
      · rw [e0, e1, e2, e3, e4]
        omega
      · have e0 : pdn r.2.2.2 r.2.2.1 N (q * 5) = r.2.2.2 (q * 5) := e 0 (by decide)
        rw [e0, e 1 (by decide), e 2 (by decide), e 3 (by decide), e 4 (by decide)]
        exact v4.2 q ql
    · show pdn r.2.2.2 r.2.2.1 N (q * 5 + 1) = 0 ∧ pdn r.2.2.2 r.2.2.1 N (q * 5 + 4) = 0
      rcases key q hq with ⟨_, e0, e1, e2, e3, e4⟩ | ⟨ql, e⟩
      · rw [e1, e4]; exact ⟨rfl, rfl⟩
      · rw [e 1 (by decide), e 4 (by decide)]; exact v5 q ql
theorem mtok0 {B : Nat → Nat} {T : TS} : mtok B T = 0 ↔ T.2.2.1 = 0 := by
  unfold mtok
  constructor
  · intro z
    split at z
    · cases z
    · exact z
  · intro z
    rw [if_neg (by omega)]; exact z
theorem mtok1 {B : Nat → Nat} {T : TS} : mtok B T = 1 ↔ T.2.2.1 = 1 ∧ itW B T.1 T.2.1 T.2.2.1 < 4 := by
  unfold mtok
  constructor
  · intro z
    split at z
    · cases z
    · rename_i hn
      exact ⟨z, Classical.byContradiction fun q => hn ⟨z, q⟩⟩
  · intro z
    rw [if_neg (fun q => q.2 z.2)]; exact z.1
theorem itW_1 {B : Nat → Nat} {pl be tk : Nat} (h : itW B pl be tk < 4) : tk = 1 := by
  apply Classical.byContradiction
  intro q
  unfold itW at h
  rw [if_neg q] at h
  omega
section MCITY
variable {X : am_X} {d : Nat} {Q : am_Q} {u w : am_W} {tr : Int64} {A : Nat → Nat → Int32} {le : Nat} {B : Nat → Nat} {a : Nat → Int32} {s : CSt}
theorem m_may (H : 69 ≤ u.length) {nR nP it : Nat} (h13 : a 13 = nI nR) (h14 : a 14 = nI nP) (hR : nR ≤ 8) (hP : nP ≤ 4) (hit : it < 10000) (l2 : Int32) (l3 : Option Value) : ∃ b : Bool, (∀ k, k < 4 → a 7 = nI k → b = mayB k it nR nP) ∧ Wp X (Cl X d) 98 Q (79, [some (.ref 57), some (.int (nI it)), some (.int l2), l3], [], mw u tr a A, 0, 0) = Wp X (Cl X d) 98 Q (145, [some (.ref 57), some (.int (nI it)), some (.int (nI (if b = true then 1 else 0))), l3], [], mw u tr a A, 0, 0) := by
  have n2 : (nI 2 = 0) = False := by decide
  have n3 : (nI 3 = 0) = False := by decide
  have n32 : (nI 3 = nI 2) = False := by decide
  by_cases c0 : a 7 = 0
  · refine ⟨decide (it = 0), fun k hk he => ?_, ?_⟩
    · have : k = 0 := by
        rw [he, nI_eq0 (by omega)] at c0
        exact c0
      subst this
      rfl
    · simp only [s98_79, s98_80, s98_83, s98_86, s98_87, s98_90, s98_91, s98_94, s98_95, s98_98, s98_99, s98_102, s98_103, s98_106, s98_107, s98_110, s98_112, s98_115, s98_116, s98_119, s98_120, s98_123, s98_124, s98_127, s98_128, s98_131, s98_132, s98_135, s98_136, s98_139, s98_140, s98_143, s98_144, OpV_some, OpN_some, OpA_some, OpR_some, Option.toList_some, Option.toList_none, List.cons_append, List.nil_append, true_and, and_true, nI11, or_true, true_or, or_false, false_or, mI0 H, mP0 H, mI3 H, mP3 H, mI4 H, mP4 H, mI5 H, mP5 H, mI6 H, mP6 H, mI7 H, mP7 H, mI8 H, mP8 H, mI9 H, mP9 H, mI10 H, mP10 H, mI11 H, mP11 H, mI12 H, mP12 H, mI13 H, mP13 H, mI14 H, mP14 H, mI23 H, mP23 H, mI24 H, mP24 H, mI25 H, mP25 H, mI26 H, mP26 H, mI27 H, mP27 H, mI30 H, mP30 H, mI31 H, mP31 H, mI1 H, mP1 H, mR2 H, mR15 H, mR16 H, mR17 H, mR18 H, mR19 H, mR20 H, mR21 H, mR22 H, mR28 H, mR29 H, mA0 H, mS0 H, mA1 H, mS1 H, mA2 H, mS2 H, mA3 H, mS3 H, mA4 H, mS4 H, mA5 H, mS5 H, mA6 H, mS6 H, mA7 H, mS7 H, mA8 H, mS8 H, mA9 H, mS9 H, mA10 H, mS10 H, mw_cl H, fu_s, fu_n, ua_s, ua_n, Nat.reduceBEq, lt57, lt58, lt59, lt60, lt61, lt62, lt63, lt64, lt65, lt66, lt67, lt68, c0, if_true, nI_eq0 (show it < 2 ^ 31 by omega)]
      by_cases q : it = 0
      · simp only [q, if_true, decide_true]
      · simp only [q, if_false, decide_false, Bool.false_eq_true]
  · by_cases c2 : a 7 = nI 2
    · refine ⟨decide (nR < 8), fun k hk he => ?_, ?_⟩
      · have : k = 2 := by
          rw [he, nI_eqN (by omega) (by decide)] at c2
          exact c2
        subst this
        rfl
      · simp only [s98_79, s98_80, s98_83, s98_86, s98_87, s98_90, s98_91, s98_94, s98_95, s98_98, s98_99, s98_102, s98_103, s98_106, s98_107, s98_110, s98_112, s98_115, s98_116, s98_119, s98_120, s98_123, s98_124, s98_127, s98_128, s98_131, s98_132, s98_135, s98_136, s98_139, s98_140, s98_143, s98_144, OpV_some, OpN_some, OpA_some, OpR_some, Option.toList_some, Option.toList_none, List.cons_append, List.nil_append, true_and, and_true, nI11, or_true, true_or, or_false, false_or, mI0 H, mP0 H, mI3 H, mP3 H, mI4 H, mP4 H, mI5 H, mP5 H, mI6 H, mP6 H, mI7 H, mP7 H, mI8 H, mP8 H, mI9 H, mP9 H, mI10 H, mP10 H, mI11 H, mP11 H, mI12 H, mP12 H, mI13 H, mP13 H, mI14 H, mP14 H, mI23 H, mP23 H, mI24 H, mP24 H, mI25 H, mP25 H, mI26 H, mP26 H, mI27 H, mP27 H, mI30 H, mP30 H, mI31 H, mP31 H, mI1 H, mP1 H, mR2 H, mR15 H, mR16 H, mR17 H, mR18 H, mR19 H, mR20 H, mR21 H, mR22 H, mR28 H, mR29 H, mA0 H, mS0 H, mA1 H, mS1 H, mA2 H, mS2 H, mA3 H, mS3 H, mA4 H, mS4 H, mA5 H, mS5 H, mA6 H, mS6 H, mA7 H, mS7 H, mA8 H, mS8 H, mA9 H, mS9 H, mA10 H, mS10 H, mw_cl H, fu_s, fu_n, ua_s, ua_n, Nat.reduceBEq, lt57, lt58, lt59, lt60, lt61, lt62, lt63, lt64, lt65, lt66, lt67, lt68, c2, n2, if_true, if_false, h13, nI_ltN (show nR < 2 ^ 31 by omega) (show 8 < 2 ^ 31 by omega)]
        by_cases q : nR < 8
        · simp only [q, if_true, decide_true]
        · simp only [q, if_false, decide_false, Bool.false_eq_true]
    · by_cases c3 : a 7 = nI 3
      · refine ⟨decide (nP < 4), fun k hk he => ?_, ?_⟩
        · have : k = 3 := by
            rw [he, nI_eqN (by omega) (by decide)] at c3
            exact c3
          subst this
          rfl
        · simp only [s98_79, s98_80, s98_83, s98_86, s98_87, s98_90, s98_91, s98_94, s98_95, s98_98, s98_99, s98_102, s98_103, s98_106, s98_107, s98_110, s98_112, s98_115, s98_116, s98_119, s98_120, s98_123, s98_124, s98_127, s98_128, s98_131, s98_132, s98_135, s98_136, s98_139, s98_140, s98_143, s98_144, OpV_some, OpN_some, OpA_some, OpR_some, Option.toList_some, Option.toList_none, List.cons_append, List.nil_append, true_and, and_true, nI11, or_true, true_or, or_false, false_or, mI0 H, mP0 H, mI3 H, mP3 H, mI4 H, mP4 H, mI5 H, mP5 H, mI6 H, mP6 H, mI7 H, mP7 H, mI8 H, mP8 H, mI9 H, mP9 H, mI10 H, mP10 H, mI11 H, mP11 H, mI12 H, mP12 H, mI13 H, mP13 H, mI14 H, mP14 H, mI23 H, mP23 H, mI24 H, mP24 H, mI25 H, mP25 H, mI26 H, mP26 H, mI27 H, mP27 H, mI30 H, mP30 H, mI31 H, mP31 H, mI1 H, mP1 H, mR2 H, mR15 H, mR16 H, mR17 H, mR18 H, mR19 H, mR20 H, mR21 H, mR22 H, mR28 H, mR29 H, mA0 H, mS0 H, mA1 H, mS1 H, mA2 H, mS2 H, mA3 H, mS3 H, mA4 H, mS4 H, mA5 H, mS5 H, mA6 H, mS6 H, mA7 H, mS7 H, mA8 H, mS8 H, mA9 H, mS9 H, mA10 H, mS10 H, mw_cl H, fu_s, fu_n, ua_s, ua_n, Nat.reduceBEq, lt57, lt58, lt59, lt60, lt61, lt62, lt63, lt64, lt65, lt66, lt67, lt68, c3, n3, n32, if_true, if_false, h14, nI_ltN (show nP < 2 ^ 31 by omega) (show 4 < 2 ^ 31 by omega)]
          by_cases q : nP < 4
          · simp only [q, if_true, decide_true]
          · simp only [q, if_false, decide_false, Bool.false_eq_true]
      · refine ⟨true, fun k hk he => ?_, ?_⟩
        · rcases (show k = 0 ∨ k = 1 ∨ k = 2 ∨ k = 3 by omega) with e | e | e | e <;> subst e
          · exact absurd he c0
          · rfl
          · exact absurd he c2
          · exact absurd he c3
        · simp only [s98_79, s98_80, s98_83, s98_86, s98_87, s98_90, s98_91, s98_94, s98_95, s98_98, s98_99, s98_102, s98_103, s98_106, s98_107, s98_110, s98_112, s98_115, s98_116, s98_119, s98_120, s98_123, s98_124, s98_127, s98_128, s98_131, s98_132, s98_135, s98_136, s98_139, s98_140, s98_143, s98_144, OpV_some, OpN_some, OpA_some, OpR_some, Option.toList_some, Option.toList_none, List.cons_append, List.nil_append, true_and, and_true, nI11, or_true, true_or, or_false, false_or, mI0 H, mP0 H, mI3 H, mP3 H, mI4 H, mP4 H, mI5 H, mP5 H, mI6 H, mP6 H, mI7 H, mP7 H, mI8 H, mP8 H, mI9 H, mP9 H, mI10 H, mP10 H, mI11 H, mP11 H, mI12 H, mP12 H, mI13 H, mP13 H, mI14 H, mP14 H, mI23 H, mP23 H, mI24 H, mP24 H, mI25 H, mP25 H, mI26 H, mP26 H, mI27 H, mP27 H, mI30 H, mP30 H, mI31 H, mP31 H, mI1 H, mP1 H, mR2 H, mR15 H, mR16 H, mR17 H, mR18 H, mR19 H, mR20 H, mR21 H, mR22 H, mR28 H, mR29 H, mA0 H, mS0 H, mA1 H, mS1 H, mA2 H, mS2 H, mA3 H, mS3 H, mA4 H, mS4 H, mA5 H, mS5 H, mA6 H, mS6 H, mA7 H, mS7 H, mA8 H, mS8 H, mA9 H, mS9 H, mA10 H, mS10 H, mw_cl H, fu_s, fu_n, ua_s, ua_n, Nat.reduceBEq, lt57, lt58, lt59, lt60, lt61, lt62, lt63, lt64, lt65, lt66, lt67, lt68, c0, c2, c3, if_true, if_false]
theorem m_ill179 (H : 69 ≤ u.length) {f : Nat} (hf : f < 2 ^ 31) (h8 : a 8 = nI f) (it l2 l3 : Int32) : Wp X (Cl X (d + 2)) 98 Q (179, [some (.ref 57), some (.int it), some (.int l2), some (.int l3)], [], mw u tr a A, 0, 0) = Q (some (.int (-10 - nI f))) (mw u tr a A) := by
  have hn : ¬ a 8 < 0 := by rw [h8]; exact nneg hf
  have fin : ∀ it', Wp X (Cl X (d + 2)) 98 Q (65, [some (.ref 57), some (.int it'), some (.int l2), some (.int l3)], [], mw u tr a A, 0, 0) = Q (some (.int (-10 - nI f))) (mw u tr a A) := fun it' => by
    rw [s98_65]
    simp only [s98_66, s98_69, s98_203, s98_204, s98_207, s98_210, s98_212, s98_213, s98_216, s98_217, OpV_some, OpN_some, OpA_some, OpR_some, Option.toList_some, Option.toList_none, List.cons_append, List.nil_append, true_and, and_true, nI11, or_true, true_or, or_false, false_or, mI0 H, mP0 H, mI3 H, mP3 H, mI4 H, mP4 H, mI5 H, mP5 H, mI6 H, mP6 H, mI7 H, mP7 H, mI8 H, mP8 H, mI9 H, mP9 H, mI10 H, mP10 H, mI11 H, mP11 H, mI12 H, mP12 H, mI13 H, mP13 H, mI14 H, mP14 H, mI23 H, mP23 H, mI24 H, mP24 H, mI25 H, mP25 H, mI26 H, mP26 H, mI27 H, mP27 H, mI30 H, mP30 H, mI31 H, mP31 H, mI1 H, mP1 H, mR2 H, mR15 H, mR16 H, mR17 H, mR18 H, mR19 H, mR20 H, mR21 H, mR22 H, mR28 H, mR29 H, mA0 H, mS0 H, mA1 H, mS1 H, mA2 H, mS2 H, mA3 H, mS3 H, mA4 H, mS4 H, mA5 H, mS5 H, mA6 H, mS6 H, mA7 H, mS7 H, mA8 H, mS8 H, mA9 H, mS9 H, mA10 H, mS10 H, mw_cl H, fu_s, fu_n, ua_s, ua_n, Nat.reduceBEq, lt57, lt58, lt59, lt60, lt61, lt62, lt63, lt64, lt65, lt66, lt67, lt68, m_isWell H, h8, nneg hf, if_false, nI0z, if_true]
  simp only [s98_179, s98_180, s98_181, s98_184, s98_185, s98_188, s98_189, s98_192, s98_193, s98_196, s98_197, s98_200, OpV_some, OpN_some, OpA_some, OpR_some, Option.toList_some, Option.toList_none, List.cons_append, List.nil_append, true_and, and_true, nI11, or_true, true_or, or_false, false_or, mI0 H, mP0 H, mI3 H, mP3 H, mI4 H, mP4 H, mI5 H, mP5 H, mI6 H, mP6 H, mI7 H, mP7 H, mI8 H, mP8 H, mI9 H, mP9 H, mI10 H, mP10 H, mI11 H, mP11 H, mI12 H, mP12 H, mI13 H, mP13 H, mI14 H, mP14 H, mI23 H, mP23 H, mI24 H, mP24 H, mI25 H, mP25 H, mI26 H, mP26 H, mI27 H, mP27 H, mI30 H, mP30 H, mI31 H, mP31 H, mI1 H, mP1 H, mR2 H, mR15 H, mR16 H, mR17 H, mR18 H, mR19 H, mR20 H, mR21 H, mR22 H, mR28 H, mR29 H, mA0 H, mS0 H, mA1 H, mS1 H, mA2 H, mS2 H, mA3 H, mS3 H, mA4 H, mS4 H, mA5 H, mS5 H, mA6 H, mS6 H, mA7 H, mS7 H, mA8 H, mS8 H, mA9 H, mS9 H, mA10 H, mS10 H, mw_cl H, fu_s, fu_n, ua_s, ua_n, Nat.reduceBEq, lt57, lt58, lt59, lt60, lt61, lt62, lt63, lt64, lt65, lt66, lt67, lt68, m_takes_ill H hn]
  by_cases z : a 5 = nI 3
  · simp only [eq_true z, if_true, s98_188, s98_189, s98_192, s98_193, s98_196, s98_197, s98_200, OpV_some, OpN_some, OpA_some, OpR_some, Option.toList_some, Option.toList_none, List.cons_append, List.nil_append, true_and, and_true, nI11, or_true, true_or, or_false, false_or, m_takes_ill H hn]
    exact fin _
  · simp only [eq_false z, if_false, s98_192, s98_193, s98_196, s98_197, s98_200, OpV_some, OpN_some, OpA_some, OpR_some, Option.toList_some, Option.toList_none, List.cons_append, List.nil_append, true_and, and_true, nI11, or_true, true_or, or_false, false_or, m_takes_ill H hn]
    exact fin _
theorem m_ill167 (H : 69 ≤ u.length) {f : Nat} (hf : f < 2 ^ 31) (h8 : a 8 = nI f) (it l2 l3 : Int32) : Wp X (Cl X (d + 2)) 98 Q (167, [some (.ref 57), some (.int it), some (.int l2), some (.int l3)], [], mw u tr a A, 0, 0) = Q (some (.int (-10 - nI f))) (mw u tr a A) := by
  have hn : ¬ a 8 < 0 := by rw [h8]; exact nneg hf
  simp only [s98_167, s98_168, s98_171, s98_174, s98_175, s98_176, OpV_some, OpN_some, OpA_some, OpR_some, Option.toList_some, Option.toList_none, List.cons_append, List.nil_append, true_and, and_true, nI11, or_true, true_or, or_false, false_or, mI0 H, mP0 H, mI3 H, mP3 H, mI4 H, mP4 H, mI5 H, mP5 H, mI6 H, mP6 H, mI7 H, mP7 H, mI8 H, mP8 H, mI9 H, mP9 H, mI10 H, mP10 H, mI11 H, mP11 H, mI12 H, mP12 H, mI13 H, mP13 H, mI14 H, mP14 H, mI23 H, mP23 H, mI24 H, mP24 H, mI25 H, mP25 H, mI26 H, mP26 H, mI27 H, mP27 H, mI30 H, mP30 H, mI31 H, mP31 H, mI1 H, mP1 H, mR2 H, mR15 H, mR16 H, mR17 H, mR18 H, mR19 H, mR20 H, mR21 H, mR22 H, mR28 H, mR29 H, mA0 H, mS0 H, mA1 H, mS1 H, mA2 H, mS2 H, mA3 H, mS3 H, mA4 H, mS4 H, mA5 H, mS5 H, mA6 H, mS6 H, mA7 H, mS7 H, mA8 H, mS8 H, mA9 H, mS9 H, mA10 H, mS10 H, mw_cl H, fu_s, fu_n, ua_s, ua_n, Nat.reduceBEq, lt57, lt58, lt59, lt60, lt61, lt62, lt63, lt64, lt65, lt66, lt67, lt68, m_isWell H, hn, if_false, nI0z, if_true]
  exact m_ill179 H hf h8 it l2 _
end MCITY
