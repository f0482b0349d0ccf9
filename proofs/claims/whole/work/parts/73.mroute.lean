/-! told ropes by the reference; route -/
def bt0 (g : Nat → Nat) (k : Nat) : Nat := if g (k * 5 + 4) = 1 then 0 else g (k * 5 + 2)
def fgs : Nat → Nat → Nat → Option Nat
  | 0, n, _ => some n
  | f + 1, n, v => if v = 0 then some n else if v % 10 < 1 ∨ 8 < v % 10 then none else fgs f (n + 1) (v / 10)
def fgO : Option Nat → Int32
  | none => -9
  | some n => nI n
def fgI (x : Int32) : Int32 := if x < 0 then -9 else fgO (fgs 10 0 (cl x))
theorem fgs_ge : ∀ (f n v m : Nat), fgs f n v = some m → n ≤ m ∧ m ≤ n + f
  | 0, n, v, m, h => by
    have : n = m := Option.some.inj h
    omega
  | f + 1, n, v, m, h => by
    unfold fgs at h
    split at h
    · have : n = m := Option.some.inj h
      omega
    · split at h
      · cases h
      · have := fgs_ge f (n + 1) (v / 10) m h
        omega
theorem rrd_fgs : ∀ (mo f tz : Nat) (F : Nat → Nat) (v : Nat), mo ≤ f → v < 10 ^ f → ((rrd mo tz F v).1 = true → fgs f tz v = some (rrd mo tz F v).2.1) ∧ (∀ n, fgs f tz v = some n → n ≤ tz + mo → (rrd mo tz F v).1 = true)
  | 0, 0, tz, F, v, _, hv => by
    have h0 : v = 0 := by simpa using hv
    subst h0
    exact ⟨fun _ => rfl, fun _ _ _ => rfl⟩
  | 0, f + 1, tz, F, v, _, hv => by
    unfold rrd fgs
    by_cases h0 : v = 0
    · rw [if_pos h0]
      exact ⟨fun _ => rfl, fun _ _ _ => decide_eq_true h0⟩
    · rw [if_neg h0]
      refine ⟨fun h => absurd (of_decide_eq_true h) h0, fun n h hn => ?_⟩
      split at h
      · cases h
      · have := (fgs_ge f (tz + 1) (v / 10) n h).1
        omega
  | mo + 1, 0, tz, F, v, h, _ => absurd h (by omega)
  | mo + 1, f + 1, tz, F, v, h, hv => by
    unfold rrd fgs
    by_cases h0 : v = 0
    · rw [if_pos h0, if_pos h0]
      exact ⟨fun _ => rfl, fun _ _ _ => rfl⟩
    · rw [if_neg h0, if_neg h0]
      by_cases h1 : v % 10 < 1 ∨ 8 < v % 10
      · rw [if_pos h1, if_pos h1]
        exact ⟨fun h => (by cases h), fun n h => (by cases h)⟩
      · rw [if_neg h1, if_neg h1]
        obtain ⟨a, b⟩ := rrd_fgs mo f (tz + 1) (upN F tz (v % 10 - 1)) (v / 10) (by omega) (by
          rw [Nat.pow_succ] at hv
          omega)
        exact ⟨a, fun n h hn => b n h (by omega)⟩
theorem rrd_keep : ∀ (mo tz : Nat) (F : Nat → Nat) (v q : Nat), q < tz → (rrd mo tz F v).2.2.1 q = F q
  | 0, tz, F, v, q, _ => rfl
  | mo + 1, tz, F, v, q, h => by
    unfold rrd
    split
    · rfl
    · split
      · rfl
      · rw [rrd_keep mo (tz + 1) _ _ q (by omega)]
        exact upN_n _ _ (by omega)
theorem rrd_dig : ∀ (mo tz : Nat) (F : Nat → Nat) (v : Nat), (rrd mo tz F v).1 = true → ∀ j, tz + j < (rrd mo tz F v).2.1 → v / 10 ^ j % 10 = (rrd mo tz F v).2.2.1 (tz + j) + 1
  | 0, tz, F, v, h, j, hj => by
    have : tz + j < tz := hj
    omega
  | mo + 1, tz, F, v, h, j, hj => by
    unfold rrd at h hj ⊢
    by_cases h0 : v = 0
    · rw [if_pos h0] at hj
      have : tz + j < tz := hj
      omega
    · rw [if_neg h0] at h hj ⊢
      by_cases h1 : v % 10 < 1 ∨ 8 < v % 10
      · rw [if_pos h1] at h
        cases h
      · rw [if_neg h1] at h hj ⊢
        cases j with
        | zero =>
          simp only [Nat.add_zero]
          rw [rrd_keep mo (tz + 1) _ _ tz (by omega), upN_s, Nat.pow_zero, Nat.div_one]
          omega
        | succ j =>
          have ih := rrd_dig mo (tz + 1) (upN F tz (v % 10 - 1)) (v / 10) h j (by rw [show tz + 1 + j = tz + (j + 1) by omega]; exact hj)
          rw [show tz + 1 + j = tz + (j + 1) by omega] at ih
          rw [← ih, Nat.div_div_eq_div_mul, Nat.pow_succ', ]
theorem rtv_fg {mo : Nat} (hmo : mo ≤ 6) (x : Int32) : ((rtv mo x).1 = true → fgI x = nI (rtv mo x).2.1) ∧ ((rtv mo x).1 = true ↔ (¬ fgI x = -9 ∧ ¬ nI mo < fgI x)) := by
  unfold rtv fgI
  by_cases h : x < 0
  · rw [if_pos h, if_pos h]
    exact ⟨fun h => (by cases h), fun h => (by cases h), fun h => absurd rfl h.1⟩
  · rw [if_neg h, if_neg h]
    have hc : cl x < 10 ^ 10 := by
      have : cl x < 2 ^ 31 := by
        unfold cl
        rw [Int32.toNatClampNeg]
        have := Int32.toInt_lt x
        omega
      omega
    obtain ⟨p, q⟩ := rrd_fgs mo 10 0 (fun _ => 0) (cl x) (by omega) hc
    refine ⟨fun h => by rw [p h]; rfl, fun h => ?_, fun h => ?_⟩
    · rw [p h]
      have hk := (rrd_ok mo 0 (fun _ => 0) (cl x) h).2.1
      generalize (rrd mo 0 (fun _ => 0) (cl x)).2.1 = n at hk
      refine ⟨?_, ?_⟩
      · intro e
        have e1 : (nI n).toInt = (-9 : Int32).toInt := by rw [show nI n = -9 from e]
        rw [nI_toInt (by omega)] at e1
        have : (-9 : Int32).toInt = -9 := by decide
        omega
      · show ¬ nI mo < nI n
        rw [nI_ltN (by omega) (by omega)]
        omega
    · cases hf : fgs 10 0 (cl x) with
      | none =>
        rw [hf] at h
        exact absurd rfl h.1
      | some n =>
        rw [hf] at h
        have hn := (fgs_ge 10 0 (cl x) n hf).2
        have h2 : ¬ nI mo < nI n := h.2
        rw [nI_ltN (by omega) (by omega)] at h2
        exact q n hf (by omega)
theorem nI_dec (n : Nat) : nI (n + 1) + (-1) = nI n := by
  rw [show nI (n + 1) + (-1) = nI (n + 1) - nI 1 by rw [Int32.sub_eq_add_neg]; rfl, nI_subN (by omega)]
  rfl
section MROUTE
variable {X : am_X} {d : Nat} {Q : am_Q} {u w : am_W} {tr : Int64} {A : Nat → Nat → Int32} {s : CSt} {nS nR : Nat} {h g : Nat → Nat}
theorem m_figure_loop {i : Nat} (l0 l1 : Int32) (hi : i < 100) : ∀ (n v : Nat), n < 100 → v < 2 ^ 31 → Wp X (Cl X d) 125 Q (7, [some (.int l0), some (.int l1), some (.int (nI i)), some (.int (nI v)), some (.int (nI (i + n)))], [], w, 0, 0) = Q (some (.int (nI (v / 10 ^ n % 10)))) w
  | 0, v, hn, hv => by
    rw [s125_7]
    simp only [s125_0, s125_1, s125_2, s125_3, s125_4, s125_5, s125_9, s125_10, s125_13, s125_14, s125_16, s125_17, s125_18, s125_21, s125_24, s125_25, s125_27, s125_28, OpV_some, OpN_some, OpA_some, OpR_some, Option.toList_some, Option.toList_none, List.cons_append, List.nil_append, true_and, and_true, nI11, or_true, true_or, or_false, false_or, nI_ltN (show i < 2 ^ 31 by omega) (show i + 0 < 2 ^ 31 by omega), show ¬ i < i + 0 by omega, if_false, nI_mod hv (show 0 < 10 by decide) (show 10 < 2 ^ 31 by decide), show (nI 10 = 0) = False by decide, not_false_eq_true, Nat.pow_zero, Nat.div_one]
  | n + 1, v, hn, hv => by
    have ih := m_figure_loop l0 l1 hi n (v / 10) (by omega) (by omega)
    have e : nI (i + (n + 1)) + (-1) = nI (i + n) := nI_dec (i + n)
    rw [s125_7]
    simp only [s125_0, s125_1, s125_2, s125_3, s125_4, s125_5, s125_9, s125_10, s125_13, s125_14, s125_16, s125_17, s125_18, s125_21, s125_24, s125_25, s125_27, s125_28, OpV_some, OpN_some, OpA_some, OpR_some, Option.toList_some, Option.toList_none, List.cons_append, List.nil_append, true_and, and_true, nI11, or_true, true_or, or_false, false_or, nI_ltN (show i < 2 ^ 31 by omega) (show i + (n + 1) < 2 ^ 31 by omega), show i < i + (n + 1) by omega, if_true, nI_div hv (show 0 < 10 by decide) (show 10 < 2 ^ 31 by decide), show (nI 10 = 0) = False by decide, not_false_eq_true, e]
    rw [ih, Nat.div_div_eq_div_mul, Nat.pow_succ']
theorem m_figure {v i m : Nat} (hv : v < 2 ^ 31) (hi : i < m) (hm : m ≤ 50) : Cl X (d + 1) 125 [.int (nI v), .int (nI m), .int (nI i)] w Q = Q (some (.int (nI (v / 10 ^ (m - 1 - i) % 10)))) w := by
  rw [e125]
  simp only [s125_0, s125_1, s125_2, s125_3, s125_4, s125_5, s125_9, s125_10, s125_13, s125_14, s125_16, s125_17, s125_18, s125_21, s125_24, s125_25, s125_27, s125_28, OpV_some, OpN_some, OpA_some, OpR_some, Option.toList_some, Option.toList_none, List.cons_append, List.nil_append, true_and, and_true, nI11, or_true, true_or, or_false, false_or, nI_subN (show 1 ≤ m by omega)]
  have := m_figure_loop (X := X) (d := d) (Q := Q) (w := w) (nI v) (nI m) (show i < 100 by omega) (m - 1 - i) v (by omega) hv
  rw [show i + (m - 1 - i) = m - 1 by omega] at this
  exact this
theorem m_figs_loop (l0 : Int32) (h0 : ¬ l0 < 0) : ∀ (f n v : Nat), v < 10 ^ f → v < 2 ^ 31 → Wp X (Cl X (d + 1)) 124 Q (4, [some (.int l0), some (.int (nI n)), some (.int (nI v))], [], w, 0, 0) = Q (some (.int (fgO (fgs f n v)))) w
  | 0, n, v, hf, hv => by
    have e0 : v = 0 := by simpa using hf
    subst e0
    rw [s124_4]
    simp only [s124_0, s124_1, s124_2, s124_3, s124_5, s124_8, s124_9, s124_11, s124_12, s124_13, s124_15, s124_18, s124_21, s124_23, s124_24, s124_27, s124_28, s124_30, s124_31, s124_32, s124_35, s124_36, s124_39, s124_41, s124_44, s124_45, OpV_some, OpN_some, OpA_some, OpR_some, Option.toList_some, Option.toList_none, List.cons_append, List.nil_append, true_and, and_true, nI11, or_true, true_or, or_false, false_or, show ((0 : Int32) < nI 0) = False by decide, if_false, h0, fgs, fgO]
  | f + 1, n, v, hf, hv => by
    have ih := m_figs_loop l0 h0 f (n + 1) (v / 10) (by rw [Nat.pow_succ] at hf; omega) (by omega)
    have hm : v % 10 < 10 := Nat.mod_lt _ (by decide)
    rw [s124_4]
    simp only [s124_0, s124_1, s124_2, s124_3, s124_5, s124_8, s124_9, s124_11, s124_12, s124_13, s124_15, s124_18, s124_21, s124_23, s124_24, s124_27, s124_28, s124_30, s124_31, s124_32, s124_35, s124_36, s124_39, s124_41, s124_44, s124_45, OpV_some, OpN_some, OpA_some, OpR_some, Option.toList_some, Option.toList_none, List.cons_append, List.nil_append, true_and, and_true, nI11, or_true, true_or, or_false, false_or, nI_gt0 hv, m_in, nI_mod hv (show 0 < 10 by decide) (show 10 < 2 ^ 31 by decide), nI_div hv (show 0 < 10 by decide) (show 10 < 2 ^ 31 by decide), show (nI 10 = 0) = False by decide, not_false_eq_true, h0, if_false, nI_ite, nI_add]
    unfold fgs
    have hr : (nI 1 ≤ nI (v % 10) ∧ nI (v % 10) ≤ nI 8) = ¬ (v % 10 < 1 ∨ 8 < v % 10) := by
      rw [← i32_nlt, ← i32_nlt, nI_ltN (by omega) (by omega), nI_ltN (by omega) (by omega)]
      apply propext
      omega
    by_cases q0 : v = 0
    · simp only [q0, show ¬ 0 < 0 by decide, if_false, if_true, fgO]
    · by_cases q1 : v % 10 < 1 ∨ 8 < v % 10
      · simp only [q0, show 0 < v by omega, if_true, if_false, hr, q1, not_true, not_false_eq_true, fgO]
      · simp only [q0, show 0 < v by omega, if_true, if_false, hr, q1, not_true, not_false_eq_true]
        exact ih
theorem m_figs (x : Int32) : Cl X (d + 2) 124 [.int x] w Q = Q (some (.int (fgI x))) w := by
  rw [e124]
  unfold fgI
  simp only [s124_0, s124_1, s124_2, s124_3, s124_5, s124_8, s124_9, s124_11, s124_12, s124_13, s124_15, s124_18, s124_21, s124_23, s124_24, s124_27, s124_28, s124_30, s124_31, s124_32, s124_35, s124_36, s124_39, s124_41, s124_44, s124_45, OpV_some, OpN_some, OpA_some, OpR_some, Option.toList_some, Option.toList_none, List.cons_append, List.nil_append, true_and, and_true, nI11, or_true, true_or, or_false, false_or]
  by_cases hx : x < 0
  · have h1 : ¬ (0 : Int32) < x := fun q => by
      rw [Int32.lt_iff_toInt_lt] at q hx
      omega
    rw [s124_4]
    simp only [s124_0, s124_1, s124_2, s124_3, s124_5, s124_8, s124_9, s124_11, s124_12, s124_13, s124_15, s124_18, s124_21, s124_23, s124_24, s124_27, s124_28, s124_30, s124_31, s124_32, s124_35, s124_36, s124_39, s124_41, s124_44, s124_45, OpV_some, OpN_some, OpA_some, OpR_some, Option.toList_some, Option.toList_none, List.cons_append, List.nil_append, true_and, and_true, nI11, or_true, true_or, or_false, false_or, h1, hx, if_false, if_true]
  · obtain ⟨v, hv, rfl⟩ : ∃ v, v < 2 ^ 31 ∧ x = nI v := by
      rcases pk_ix x (n := 2 ^ 31 - 1) (by decide) with q | q | ⟨j, hj, rfl⟩
      · exact absurd q hx
      · refine ⟨2 ^ 31 - 1, by decide, ?_⟩
        have hlt := Int32.toInt_lt x
        rw [Int32.le_iff_toInt_le, nI_toInt (by decide)] at q
        apply toInt_inj'
        rw [nI_toInt (by decide)]
        omega
      · exact ⟨j, by omega, rfl⟩
    rw [if_neg hx, cl_of hv]
    exact m_figs_loop (nI v) hx 10 0 v (by omega) hv
theorem m_beats_loop (H : 69 ≤ u.length) {a : Nat → Int32} (ha : a 10 = nI nR) (h8 : nR ≤ 8) (h2 : ∀ k, k < nR → A 3 (4 * k + 2) = nI (g (k * 5 + 2)) ∧ A 5 (24 + k) = nI (g (k * 5 + 4)) ∧ g (k * 5 + 4) ≤ 1) : ∀ (n k : Nat), k + n = nR → Wp X (Cl X d) 121 Q (2, [some (.ref 57), some (.int (nI k))], [], mw u tr a (ua A 9 (cpy (nIf (bt0 g)) (A 9) k)), 0, 0) = Q none (mw u tr a (ua A 9 (cpy (nIf (bt0 g)) (A 9) nR)))
  | 0, k, e => by
    rw [s121_2]
    simp only [s121_0, s121_1, s121_3, s121_4, s121_7, s121_10, s121_11, s121_14, s121_15, s121_16, s121_19, s121_21, s121_22, s121_23, s121_24, s121_25, s121_28, s121_29, s121_32, s121_33, s121_36, s121_37, s121_38, s121_39, s121_40, s121_41, s121_42, s121_43, s121_46, s121_49, OpV_some, OpN_some, OpA_some, OpR_some, Option.toList_some, Option.toList_none, List.cons_append, List.nil_append, true_and, and_true, nI11, or_true, true_or, or_false, false_or, mI0 H, mP0 H, mI3 H, mP3 H, mI4 H, mP4 H, mI5 H, mP5 H, mI6 H, mP6 H, mI7 H, mP7 H, mI8 H, mP8 H, mI9 H, mP9 H, mI10 H, mP10 H, mI11 H, mP11 H, mI12 H, mP12 H, mI13 H, mP13 H, mI14 H, mP14 H, mI23 H, mP23 H, mI24 H, mP24 H, mI25 H, mP25 H, mI26 H, mP26 H, mI27 H, mP27 H, mI30 H, mP30 H, mI31 H, mP31 H, mI1 H, mP1 H, mR2 H, mR15 H, mR16 H, mR17 H, mR18 H, mR19 H, mR20 H, mR21 H, mR22 H, mR28 H, mR29 H, mA0 H, mS0 H, mA1 H, mS1 H, mA2 H, mS2 H, mA3 H, mS3 H, mA4 H, mS4 H, mA5 H, mS5 H, mA6 H, mS6 H, mA7 H, mS7 H, mA8 H, mS8 H, mA9 H, mS9 H, mA10 H, mS10 H, mw_cl H, fu_s, fu_n, ua_s, ua_n, Nat.reduceBEq, lt57, lt58, lt59, lt60, lt61, lt62, lt63, lt64, lt65, lt66, lt67, lt68, ha, nI_ltN (show k < 2 ^ 31 by omega) (show nR < 2 ^ 31 by omega), show ¬ k < nR by omega, if_false]
    rw [show k = nR by omega]
  | n + 1, k, e => by
    obtain ⟨b2, b4, b1⟩ := h2 k (by omega)
    have ih := m_beats_loop H ha h8 h2 n (k + 1) (by omega)
    have hb : nIf (bt0 g) k = if g (k * 5 + 4) = 1 then nI 0 else nI (g (k * 5 + 2)) := by
      unfold nIf bt0
      split <;> rfl
    rw [s121_2]
    simp only [s121_0, s121_1, s121_3, s121_4, s121_7, s121_10, s121_11, s121_14, s121_15, s121_16, s121_19, s121_21, s121_22, s121_23, s121_24, s121_25, s121_28, s121_29, s121_32, s121_33, s121_36, s121_37, s121_38, s121_39, s121_40, s121_41, s121_42, s121_43, s121_46, s121_49, OpV_some, OpN_some, OpA_some, OpR_some, Option.toList_some, Option.toList_none, List.cons_append, List.nil_append, true_and, and_true, nI11, or_true, true_or, or_false, false_or, mI0 H, mP0 H, mI3 H, mP3 H, mI4 H, mP4 H, mI5 H, mP5 H, mI6 H, mP6 H, mI7 H, mP7 H, mI8 H, mP8 H, mI9 H, mP9 H, mI10 H, mP10 H, mI11 H, mP11 H, mI12 H, mP12 H, mI13 H, mP13 H, mI14 H, mP14 H, mI23 H, mP23 H, mI24 H, mP24 H, mI25 H, mP25 H, mI26 H, mP26 H, mI27 H, mP27 H, mI30 H, mP30 H, mI31 H, mP31 H, mI1 H, mP1 H, mR2 H, mR15 H, mR16 H, mR17 H, mR18 H, mR19 H, mR20 H, mR21 H, mR22 H, mR28 H, mR29 H, mA0 H, mS0 H, mA1 H, mS1 H, mA2 H, mS2 H, mA3 H, mS3 H, mA4 H, mS4 H, mA5 H, mS5 H, mA6 H, mS6 H, mA7 H, mS7 H, mA8 H, mS8 H, mA9 H, mS9 H, mA10 H, mS10 H, mw_cl H, fu_s, fu_n, ua_s, ua_n, Nat.reduceBEq, lt57, lt58, lt59, lt60, lt61, lt62, lt63, lt64, lt65, lt66, lt67, lt68, ua_ua, ha, nI_ltN (show k < 2 ^ 31 by omega) (show nR < 2 ^ 31 by omega), show k < nR by omega, if_true, pk_mul, nI_add, in_nI (show 24 + k < 134 by omega) (show 134 < 2 ^ 31 by omega), cl_nI (show 24 + k < 2 ^ 31 by omega), in_nI (show 4 * k + 2 < 64 by omega) (show 64 < 2 ^ 31 by omega), cl_nI (show 4 * k + 2 < 2 ^ 31 by omega), in_nI (show k < 8 by omega) (show 8 < 2 ^ 31 by omega), cl_nI (show k < 2 ^ 31 by omega), b2, b4, nI_eqN (show g (k * 5 + 4) < 2 ^ 31 by omega) (show 1 < 2 ^ 31 by omega)]
    by_cases q : g (k * 5 + 4) = 1
    · simp only [q, if_true] at hb ⊢
      rw [← hb, cpy_upd]
      exact ih
    · simp only [q, if_false] at hb ⊢
      rw [← hb, cpy_upd]
      exact ih
theorem m_beats (H : 69 ≤ u.length) {a : Nat → Int32} (ha : a 10 = nI nR) (h8 : nR ≤ 8) (h2 : ∀ k, k < nR → A 3 (4 * k + 2) = nI (g (k * 5 + 2)) ∧ A 5 (24 + k) = nI (g (k * 5 + 4)) ∧ g (k * 5 + 4) ≤ 1) : Cl X (d + 1) 121 [.ref 57] (mw u tr a A) Q = Q none (mw u tr a (ua A 9 (cpy (nIf (bt0 g)) (A 9) nR))) := by
  rw [e121]
  simp only [s121_0, s121_1, s121_3, s121_4, s121_7, s121_10, s121_11, s121_14, s121_15, s121_16, s121_19, s121_21, s121_22, s121_23, s121_24, s121_25, s121_28, s121_29, s121_32, s121_33, s121_36, s121_37, s121_38, s121_39, s121_40, s121_41, s121_42, s121_43, s121_46, s121_49, OpV_some, OpN_some, OpA_some, OpR_some, Option.toList_some, Option.toList_none, List.cons_append, List.nil_append, true_and, and_true, nI11, or_true, true_or, or_false, false_or]
  have := m_beats_loop (X := X) (d := d) (Q := Q) (tr := tr) H ha h8 h2 nR 0 (by omega)
  rw [cpy_0, ua_id] at this
  exact this
theorem m_goes_loop (H : 69 ≤ u.length) (S : StM A nS nR h g) (hB : ∀ k, k < nR → A 9 k = nI (bt0 g k)) {G v sz : Nat} {F : Nat → Nat} (hG : G ≤ 5) (hv : v < 2 ^ 31) (hsz : sz ≤ 6) (hF : ∀ j, j < sz → v / 10 ^ j % 10 = F j + 1) (l2 l3 : Int32) : ∀ (n i si mi : Nat) (a : Nat → Int32) (l7 : Option Value), i + n = sz → a 10 = nI nR → a 30 = nI mi → a 31 = nI si → si < nS → mi ≤ 999 →
    (∀ a' : Nat → Int32, (∀ j, j < 24 → a' j = a j) → ((flw h g nR G F sz n i si mi).1 = sz → a' 30 = nI (flw h g nR G F sz n i si mi).2.2 ∧ a' 31 = nI (flw h g nR G F sz n i si mi).2.1) → Q (some (.int (if (flw h g nR G F sz n i si mi).1 < sz then nI (flw h g nR G F sz n i si mi).1 else -9))) (mw u tr a' A)) →
    Wp X (Cl X (d + 2)) 126 Q (13, [some (.ref 57), some (.int (nI G)), some (.int l2), some (.int l3), some (.int (nI v)), some (.int (nI sz)), some (.int (nI i)), l7], [], mw u tr a A, 0, 0)
  | 0, i, si, mi, a, l7, e, h10, h30, h31, hsi, hmi, hQ => by
    have e' : i = sz := by omega
    unfold flw at hQ
    simp only [e', Nat.lt_irrefl, if_false] at hQ
    rw [s126_13]
    simp only [s126_15, s126_17, s126_132, s126_134, OpV_some, OpN_some, OpA_some, OpR_some, Option.toList_some, Option.toList_none, List.cons_append, List.nil_append, true_and, and_true, nI11, or_true, true_or, or_false, false_or, e', nI_ltN (show sz < 2 ^ 31 by omega) (show sz < 2 ^ 31 by omega), Nat.lt_irrefl, if_false]
    exact hQ a (fun _ _ => rfl) (fun _ => ⟨h30, h31⟩)
  | n + 1, i, si, mi, a, l7, e, h10, h30, h31, hsi, hmi, hQ => by
    obtain ⟨hn8, hr⟩ := S.2.2.2
    have hd8 := S.2.2.1.2.1
    have hfg := hF (sz - 1 - i) (by omega)
    have hf10 : v / 10 ^ (sz - 1 - i) % 10 < 10 := Nat.mod_lt _ (by decide)
    unfold flw at hQ
    rw [s126_13]
    simp only [s126_15, s126_17, s126_20, s126_22, s126_24, s126_26, s126_29, s126_30, s126_31, s126_33, s126_34, s126_36, s126_39, OpV_some, OpN_some, OpA_some, OpR_some, Option.toList_some, Option.toList_none, List.cons_append, List.nil_append, true_and, and_true, nI11, or_true, true_or, or_false, false_or, mI0 H, mP0 H, mI3 H, mP3 H, mI4 H, mP4 H, mI5 H, mP5 H, mI6 H, mP6 H, mI7 H, mP7 H, mI8 H, mP8 H, mI9 H, mP9 H, mI10 H, mP10 H, mI11 H, mP11 H, mI12 H, mP12 H, mI13 H, mP13 H, mI14 H, mP14 H, mI23 H, mP23 H, mI24 H, mP24 H, mI25 H, mP25 H, mI26 H, mP26 H, mI27 H, mP27 H, mI30 H, mP30 H, mI31 H, mP31 H, mI1 H, mP1 H, mR2 H, mR15 H, mR16 H, mR17 H, mR18 H, mR19 H, mR20 H, mR21 H, mR22 H, mR28 H, mR29 H, mA0 H, mS0 H, mA1 H, mS1 H, mA2 H, mS2 H, mA3 H, mS3 H, mA4 H, mS4 H, mA5 H, mS5 H, mA6 H, mS6 H, mA7 H, mS7 H, mA8 H, mS8 H, mA9 H, mS9 H, mA10 H, mS10 H, mw_cl H, fu_s, fu_n, ua_s, ua_n, Nat.reduceBEq, lt57, lt58, lt59, lt60, lt61, lt62, lt63, lt64, lt65, lt66, lt67, lt68, nI_ltN (show i < 2 ^ 31 by omega) (show sz < 2 ^ 31 by omega), show i < sz by omega, if_true, m_figure hv (show i < sz by omega) (show sz ≤ 50 by omega), hfg, nI_subN (show 1 ≤ F (sz - 1 - i) + 1 by omega), Nat.add_sub_cancel, m_isRope H, h10, nI_ite, rng_sub (nI (F (sz - 1 - i))) (show nR < 2 ^ 30 by omega)]
    generalize hk : F (sz - 1 - i) = k at hQ hfg
    have hk9 : k < 9 := by omega
    have hin : ((0 : Int32) ≤ nI k ∧ nI k < nI nR) = (k < nR) := by
      rw [nI_ltN (by omega) (by omega)]
      exact propext ⟨fun q => q.2, fun q => ⟨nI_pos' (by omega), q⟩⟩
    simp only [hin]
    by_cases q1 : k < nR
    · obtain ⟨g1, g2, g3, g4, g5, g6, g7⟩ := hr k q1
      have hb := hB k q1
      have hb0 : (bt0 g k = 0) = (g (k * 5 + 4) = 1) := by
        unfold bt0
        apply propext
        constructor
        · intro z
          by_cases y : g (k * 5 + 4) = 1
          · exact y
          · rw [if_neg y] at z
            omega
        · intro z
          rw [if_pos z]
      have hbl : bt0 g k < 2 ^ 31 := by unfold bt0; split <;> omega
      simp only [q1, not_true, if_false, s126_42, s126_43, s126_46, s126_48, s126_49, s126_52, s126_53, s126_55, s126_56, s126_59, s126_62, OpV_some, OpN_some, OpA_some, OpR_some, Option.toList_some, Option.toList_none, List.cons_append, List.nil_append, true_and, and_true, nI11, or_true, true_or, or_false, false_or, mI0 H, mP0 H, mI3 H, mP3 H, mI4 H, mP4 H, mI5 H, mP5 H, mI6 H, mP6 H, mI7 H, mP7 H, mI8 H, mP8 H, mI9 H, mP9 H, mI10 H, mP10 H, mI11 H, mP11 H, mI12 H, mP12 H, mI13 H, mP13 H, mI14 H, mP14 H, mI23 H, mP23 H, mI24 H, mP24 H, mI25 H, mP25 H, mI26 H, mP26 H, mI27 H, mP27 H, mI30 H, mP30 H, mI31 H, mP31 H, mI1 H, mP1 H, mR2 H, mR15 H, mR16 H, mR17 H, mR18 H, mR19 H, mR20 H, mR21 H, mR22 H, mR28 H, mR29 H, mA0 H, mS0 H, mA1 H, mS1 H, mA2 H, mS2 H, mA3 H, mS3 H, mA4 H, mS4 H, mA5 H, mS5 H, mA6 H, mS6 H, mA7 H, mS7 H, mA8 H, mS8 H, mA9 H, mS9 H, mA10 H, mS10 H, mw_cl H, fu_s, fu_n, ua_s, ua_n, Nat.reduceBEq, lt57, lt58, lt59, lt60, lt61, lt62, lt63, lt64, lt65, lt66, lt67, lt68, in_nI (show k < 8 by omega) (show 8 < 2 ^ 31 by omega), cl_nI (show k < 2 ^ 31 by omega), hb, nI_eq0 hbl, hb0, h31, m_hangs H S q1 (show si < 2 ^ 30 by omega), nI_ite]
      by_cases q2 : g (k * 5 + 4) = 1
      · have hc : ¬ (canB g nR k si = true ∧ (rid h g k G si mi).1 ≤ 999 ∧ (rid h g k G si mi).2.2 = false) := fun z => by
          have := z.1
          unfold canB at this
          simp [q2] at this
        simp only [hc, if_false, show i < sz by omega, if_true] at hQ
        simp only [q2, if_true, s126_65, s126_67, OpV_some, OpN_some, OpA_some, OpR_some, Option.toList_some, Option.toList_none, List.cons_append, List.nil_append, true_and, and_true, nI11, or_true, true_or, or_false, false_or]
        exact hQ a (fun _ _ => rfl) (fun z => absurd z (show ¬ i = sz by omega))
      · have hbe : bt0 g k = g (k * 5 + 2) := if_neg q2
        by_cases q3 : g (k * 5) = si ∨ g (k * 5 + 1) = si
        · have hc : canB g nR k si = true := by
            unfold canB
            have h0 : g (k * 5 + 4) = 0 := by omega
            simp [q1, h0, q3]
          have hlt := rid_lt h S.2.2.2 (s := si) (t := mi) q1 hG
          have hsn : (rid h g k G si mi).2.1 < nS := rdg_sill S.2.2.2 q1 _ _ _ hsi
          rw [hbe] at hb
          simp only [hc, true_and] at hQ
          simp only [q2, q3, not_true, if_false, s126_68, s126_69, s126_71, s126_72, s126_75, s126_77, s126_78, s126_79, s126_82, s126_83, s126_86, s126_87, s126_90, s126_91, s126_94, s126_97, s126_98, s126_101, s126_104, s126_107, s126_109, OpV_some, OpN_some, OpA_some, OpR_some, Option.toList_some, Option.toList_none, List.cons_append, List.nil_append, true_and, and_true, nI11, or_true, true_or, or_false, false_or, mI0 H, mP0 H, mI3 H, mP3 H, mI4 H, mP4 H, mI5 H, mP5 H, mI6 H, mP6 H, mI7 H, mP7 H, mI8 H, mP8 H, mI9 H, mP9 H, mI10 H, mP10 H, mI11 H, mP11 H, mI12 H, mP12 H, mI13 H, mP13 H, mI14 H, mP14 H, mI23 H, mP23 H, mI24 H, mP24 H, mI25 H, mP25 H, mI26 H, mP26 H, mI27 H, mP27 H, mI30 H, mP30 H, mI31 H, mP31 H, mI1 H, mP1 H, mR2 H, mR15 H, mR16 H, mR17 H, mR18 H, mR19 H, mR20 H, mR21 H, mR22 H, mR28 H, mR29 H, mA0 H, mS0 H, mA1 H, mS1 H, mA2 H, mS2 H, mA3 H, mS3 H, mA4 H, mS4 H, mA5 H, mS5 H, mA6 H, mS6 H, mA7 H, mS7 H, mA8 H, mS8 H, mA9 H, mS9 H, mA10 H, mS10 H, mw_cl H, fu_s, fu_n, ua_s, ua_n, Nat.reduceBEq, lt57, lt58, lt59, lt60, lt61, lt62, lt63, lt64, lt65, lt66, lt67, lt68, in_nI (show k < 8 by omega) (show 8 < 2 ^ 31 by omega), cl_nI (show k < 2 ^ 31 by omega), hb, h30, h31, m_rides H S q1 hsi q3 (show mi < 10000 by omega) hG, r4_25, r4_26, r4_27, nI_ite]
          generalize rid h g k G si mi = x at hQ hlt hsn
          by_cases q4 : x.2.2 = true
          · simp only [q4, Bool.true_eq_false, and_false, if_false, show i < sz by omega, if_true] at hQ
            simp only [q4, not_true, if_false]
            exact hQ _ (fun j hj => r4_n _ _ _ _ _ (by
              have : (Nat.ble 24 j) = false := by
                rw [Bool.eq_false_iff]
                intro z
                have := Nat.le_of_ble_eq_true z
                omega
              rw [this]; rfl)) (fun z => absurd z (show ¬ i = sz by omega))
          · simp only [q4, not_false_eq_true, if_true, nI_ltN (show 999 < 2 ^ 31 by omega) (show x.1 < 2 ^ 31 by omega)]
            by_cases q5 : x.1 ≤ 999
            · simp only [q5, Bool.eq_false_iff.mpr q4, and_self, if_true] at hQ
              simp only [show ¬ 999 < x.1 by omega, if_false, s126_110, s126_111, s126_112, s126_115, s126_118, s126_119, s126_120, s126_123, s126_126, s126_129, OpV_some, OpN_some, OpA_some, OpR_some, Option.toList_some, Option.toList_none, List.cons_append, List.nil_append, true_and, and_true, nI11, or_true, true_or, or_false, false_or, mI0 H, mP0 H, mI3 H, mP3 H, mI4 H, mP4 H, mI5 H, mP5 H, mI6 H, mP6 H, mI7 H, mP7 H, mI8 H, mP8 H, mI9 H, mP9 H, mI10 H, mP10 H, mI11 H, mP11 H, mI12 H, mP12 H, mI13 H, mP13 H, mI14 H, mP14 H, mI23 H, mP23 H, mI24 H, mP24 H, mI25 H, mP25 H, mI26 H, mP26 H, mI27 H, mP27 H, mI30 H, mP30 H, mI31 H, mP31 H, mI1 H, mP1 H, mR2 H, mR15 H, mR16 H, mR17 H, mR18 H, mR19 H, mR20 H, mR21 H, mR22 H, mR28 H, mR29 H, mA0 H, mS0 H, mA1 H, mS1 H, mA2 H, mS2 H, mA3 H, mS3 H, mA4 H, mS4 H, mA5 H, mS5 H, mA6 H, mS6 H, mA7 H, mS7 H, mA8 H, mS8 H, mA9 H, mS9 H, mA10 H, mS10 H, mw_cl H, fu_s, fu_n, ua_s, ua_n, Nat.reduceBEq, lt57, lt58, lt59, lt60, lt61, lt62, lt63, lt64, lt65, lt66, lt67, lt68, r4_25, r4_26, nI_add]
              refine m_goes_loop H S hB hG hv hsz hF l2 l3 n (i + 1) x.2.1 x.1 _ _ (by omega) ?_ rfl rfl hsn q5 fun a' ha' h' => ?_
              · exact h10
              · refine hQ a' (fun j hj => ?_) h'
                rw [ha' j hj]
                show fu (fu (r4 a (nI (fat g k si mi)) (nI x.1) (nI x.2.1) _) 30 _) 31 _ j = a j
                unfold fu r4
                rw [if_neg (by omega), if_neg (by omega), if_neg (by omega), if_neg (by omega), if_neg (by omega), if_neg (by omega)]
            · simp only [q5, false_and, if_false, show i < sz by omega, if_true] at hQ
              simp only [show 999 < x.1 by omega, if_true]
              exact hQ _ (fun j hj => r4_n _ _ _ _ _ (by
                have : (Nat.ble 24 j) = false := by
                  rw [Bool.eq_false_iff]
                  intro z
                  have := Nat.le_of_ble_eq_true z
                  omega
                rw [this]; rfl)) (fun z => absurd z (show ¬ i = sz by omega))
        · have hc : ¬ (canB g nR k si = true ∧ (rid h g k G si mi).1 ≤ 999 ∧ (rid h g k G si mi).2.2 = false) := fun z => by
            have := z.1
            unfold canB at this
            simp at this
            exact q3 this.2.2
          simp only [hc, if_false, show i < sz by omega, if_true] at hQ
          simp only [q2, q3, not_false_eq_true, if_true, if_false, s126_65, s126_67, OpV_some, OpN_some, OpA_some, OpR_some, Option.toList_some, Option.toList_none, List.cons_append, List.nil_append, true_and, and_true, nI11, or_true, true_or, or_false, false_or]
          exact hQ a (fun _ _ => rfl) (fun z => absurd z (show ¬ i = sz by omega))
    · have hc : ¬ (canB g nR k si = true ∧ (rid h g k G si mi).1 ≤ 999 ∧ (rid h g k G si mi).2.2 = false) := fun z => by
        have := z.1
        unfold canB at this
        simp at this
        exact q1 this.1
      simp only [hc, if_false, show i < sz by omega, if_true] at hQ
      simp only [q1, not_false_eq_true, if_true, s126_65, s126_67, OpV_some, OpN_some, OpA_some, OpR_some, Option.toList_some, Option.toList_none, List.cons_append, List.nil_append, true_and, and_true, nI11, or_true, true_or, or_false, false_or]
      exact hQ a (fun _ _ => rfl) (fun z => absurd z (show ¬ i = sz by omega))
theorem m_goes (H : 69 ≤ u.length) (S : StM A nS nR h g) (hB : ∀ k, k < nR → A 9 k = nI (bt0 g k)) {G v sz si mi : Nat} {F : Nat → Nat} {a : Nat → Int32} (hG : G ≤ 5) (hv : v < 2 ^ 31) (hsz : sz ≤ 6) (hF : ∀ j, j < sz → v / 10 ^ j % 10 = F j + 1) (h10 : a 10 = nI nR) (hsi : si < nS) (hmi : mi ≤ 999)
    (hQ : ∀ a' : Nat → Int32, (∀ j, j < 24 → a' j = a j) → ((flw h g nR G F sz sz 0 si mi).1 = sz → a' 30 = nI (flw h g nR G F sz sz 0 si mi).2.2 ∧ a' 31 = nI (flw h g nR G F sz sz 0 si mi).2.1) → Q (some (.int (if (flw h g nR G F sz sz 0 si mi).1 < sz then nI (flw h g nR G F sz sz 0 si mi).1 else -9))) (mw u tr a' A)) :
    Cl X (d + 3) 126 [.ref 57, .int (nI G), .int (nI si), .int (nI mi), .int (nI v), .int (nI sz)] (mw u tr a A) Q := by
  rw [e126]
  simp only [s126_0, s126_1, s126_2, s126_5, s126_6, s126_7, s126_10, s126_11, OpV_some, OpN_some, OpA_some, OpR_some, Option.toList_some, Option.toList_none, List.cons_append, List.nil_append, true_and, and_true, nI11, or_true, true_or, or_false, false_or, mI0 H, mP0 H, mI3 H, mP3 H, mI4 H, mP4 H, mI5 H, mP5 H, mI6 H, mP6 H, mI7 H, mP7 H, mI8 H, mP8 H, mI9 H, mP9 H, mI10 H, mP10 H, mI11 H, mP11 H, mI12 H, mP12 H, mI13 H, mP13 H, mI14 H, mP14 H, mI23 H, mP23 H, mI24 H, mP24 H, mI25 H, mP25 H, mI26 H, mP26 H, mI27 H, mP27 H, mI30 H, mP30 H, mI31 H, mP31 H, mI1 H, mP1 H, mR2 H, mR15 H, mR16 H, mR17 H, mR18 H, mR19 H, mR20 H, mR21 H, mR22 H, mR28 H, mR29 H, mA0 H, mS0 H, mA1 H, mS1 H, mA2 H, mS2 H, mA3 H, mS3 H, mA4 H, mS4 H, mA5 H, mS5 H, mA6 H, mS6 H, mA7 H, mS7 H, mA8 H, mS8 H, mA9 H, mS9 H, mA10 H, mS10 H, mw_cl H, fu_s, fu_n, ua_s, ua_n, Nat.reduceBEq, lt57, lt58, lt59, lt60, lt61, lt62, lt63, lt64, lt65, lt66, lt67, lt68]
  refine m_goes_loop H S hB hG hv hsz hF _ _ sz 0 si mi _ _ (by omega) h10 rfl rfl hsi hmi fun a' ha' h' => hQ a' (fun j hj => ?_) h'
  rw [ha' j hj]
  show fu (fu a 30 _) 31 _ j = a j
  unfold fu
  rw [if_neg (by omega), if_neg (by omega)]
end MROUTE
