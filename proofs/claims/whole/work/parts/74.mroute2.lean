/-! route by the reference -/
theorem cl_back {x : Int32} (h : ¬ x < 0) : x = nI (cl x) ∧ cl x < 2 ^ 31 := by
  have h1 : cl x < 2 ^ 31 := by
    unfold cl
    rw [Int32.toNatClampNeg]
    have := Int32.toInt_lt x
    omega
  refine ⟨?_, h1⟩
  apply toInt_inj'
  rw [nI_toInt h1]
  unfold cl
  rw [Int32.toNatClampNeg]
  rw [Int32.lt_iff_toInt_lt] at h
  have : (0 : Int32).toInt = 0 := rfl
  omega
theorem rtv_x {mo : Nat} {x : Int32} (h : (rtv mo x).1 = true) : ¬ x < 0 := fun q => by
  unfold rtv at h
  rw [if_pos q] at h
  cases h
theorem rtv_dig {mo : Nat} {x : Int32} (h : (rtv mo x).1 = true) : ∀ j, j < (rtv mo x).2.1 → cl x / 10 ^ j % 10 = (rtv mo x).2.2 j + 1 := by
  have hx := rtv_x h
  unfold rtv at h ⊢
  rw [if_neg hx] at h ⊢
  intro j hj
  have := rrd_dig mo 0 (fun _ => 0) (cl x) h j (by rw [Nat.zero_add]; exact hj)
  rw [Nat.zero_add] at this
  exact this
section MROUTEB
variable {X : am_X} {d : Nat} {Q : am_Q} {u : am_W} {tr : Int64} {a : Nat → Int32} {A : Nat → Nat → Int32} {s : CSt}
theorem m_isRow (H : 69 ≤ u.length) (ha : a 9 = nI s.2.1.1) (h8 : s.2.1.1 ≤ 8) {mo : Nat} (hmo : mo ≤ 6) (G p t x : Int32) : Cl X (d + 3) 127 [.ref 57, .int G, .int p, .int t, .int x, .int (nI mo)] (mw u tr a A) Q = Q (some (.int (nI (if ((nI 1 ≤ G ∧ G ≤ nI 5) ∧ (0 ≤ p ∧ p < nI s.2.1.1)) ∧ (0 ≤ t ∧ t < nI 1000) ∧ (rtv mo x).1 = true then 1 else 0)))) (mw u tr a A) := by
  have hr : ((rtv mo x).1 = true) = (¬ fgI x = -9 ∧ ¬ nI mo < fgI x) := propext (rtv_fg hmo x).2
  rw [e127]
  simp only [s127_0, s127_1, s127_2, s127_3, s127_6, s127_9, s127_10, s127_11, s127_14, s127_17, s127_18, s127_21, s127_24, s127_26, s127_29, s127_31, s127_34, s127_36, s127_39, s127_41, s127_44, s127_45, s127_48, s127_49, OpV_some, OpN_some, OpA_some, OpR_some, Option.toList_some, Option.toList_none, List.cons_append, List.nil_append, true_and, and_true, nI11, or_true, true_or, or_false, false_or, mI0 H, mP0 H, mI3 H, mP3 H, mI4 H, mP4 H, mI5 H, mP5 H, mI6 H, mP6 H, mI7 H, mP7 H, mI8 H, mP8 H, mI9 H, mP9 H, mI10 H, mP10 H, mI11 H, mP11 H, mI12 H, mP12 H, mI13 H, mP13 H, mI14 H, mP14 H, mI23 H, mP23 H, mI24 H, mP24 H, mI25 H, mP25 H, mI26 H, mP26 H, mI27 H, mP27 H, mI30 H, mP30 H, mI31 H, mP31 H, mI1 H, mP1 H, mR2 H, mR15 H, mR16 H, mR17 H, mR18 H, mR19 H, mR20 H, mR21 H, mR22 H, mR28 H, mR29 H, mA0 H, mS0 H, mA1 H, mS1 H, mA2 H, mS2 H, mA3 H, mS3 H, mA4 H, mS4 H, mA5 H, mS5 H, mA6 H, mS6 H, mA7 H, mS7 H, mA8 H, mS8 H, mA9 H, mS9 H, mA10 H, mS10 H, mw_cl H, fu_s, fu_n, ua_s, ua_n, Nat.reduceBEq, lt57, lt58, lt59, lt60, lt61, lt62, lt63, lt64, lt65, lt66, lt67, lt68, m_in, m_isSill H, m_isMinute, m_figs, nI_ite, ha, rng_sub p (show s.2.1.1 < 2 ^ 30 by omega), rng_le t 999 (by decide), b01_0, b01_1, hr]
  by_cases h1 : nI 1 ≤ G ∧ G ≤ nI 5 <;> by_cases h2 : 0 ≤ p ∧ p < nI s.2.1.1 <;> by_cases h3 : 0 ≤ t ∧ t < nI 1000 <;> by_cases h4 : fgI x = -9 <;> by_cases h5 : nI mo < fgI x <;> simp only [h1, h2, h3, h4, h5, and_self, and_true, true_and, and_false, false_and, not_true, not_false_eq_true, if_true, if_false]
theorem Rel.bts (R : Rel tr a A s) (V : Valid s) : ∀ k, k < s.2.2.1.1.1 → A 3 (4 * k + 2) = nI (s.2.2.1.1.2 (k * 5 + 2)) ∧ A 5 (24 + k) = nI (s.2.2.1.1.2 (k * 5 + 4)) ∧ s.2.2.1.1.2 (k * 5 + 4) ≤ 1 := fun k hk => ⟨(R.rp k hk).2.2, (R.nw.2.1 k hk).2, ((V.2.2.2.1.1).2 k hk).2.2.2.2.2.2⟩
theorem m_route (H : 69 ≤ u.length) (R : Rel tr a A s) (V : Valid s) (G p t x y : Int32) (hQ : ∀ a' A', Rel tr a' A' s → Q (some (.int (sp_route s G p t x y))) (mw u tr a' A')) : Cl X (d + 4) 128 [.ref 57, .int G, .int p, .int t, .int x, .int y] (mw u tr a A) Q := by
  have h8 := Rel.nR V
  have hS := Rel.nS V
  rw [e128]
  unfold sp_route at hQ
  simp only [s128_0, s128_1, s128_2, s128_5, s128_6, s128_7, s128_8, s128_9, s128_11, s128_13, s128_16, s128_19, s128_21, s128_22, s128_23, s128_26, s128_29, s128_30, OpV_some, OpN_some, OpA_some, OpR_some, Option.toList_some, Option.toList_none, List.cons_append, List.nil_append, true_and, and_true, nI11, or_true, true_or, or_false, false_or, mI0 H, mP0 H, mI3 H, mP3 H, mI4 H, mP4 H, mI5 H, mP5 H, mI6 H, mP6 H, mI7 H, mP7 H, mI8 H, mP8 H, mI9 H, mP9 H, mI10 H, mP10 H, mI11 H, mP11 H, mI12 H, mP12 H, mI13 H, mP13 H, mI14 H, mP14 H, mI23 H, mP23 H, mI24 H, mP24 H, mI25 H, mP25 H, mI26 H, mP26 H, mI27 H, mP27 H, mI30 H, mP30 H, mI31 H, mP31 H, mI1 H, mP1 H, mR2 H, mR15 H, mR16 H, mR17 H, mR18 H, mR19 H, mR20 H, mR21 H, mR22 H, mR28 H, mR29 H, mA0 H, mS0 H, mA1 H, mS1 H, mA2 H, mS2 H, mA3 H, mS3 H, mA4 H, mS4 H, mA5 H, mS5 H, mA6 H, mS6 H, mA7 H, mS7 H, mA8 H, mS8 H, mA9 H, mS9 H, mA10 H, mS10 H, mw_cl H, fu_s, fu_n, ua_s, ua_n, Nat.reduceBEq, lt57, lt58, lt59, lt60, lt61, lt62, lt63, lt64, lt65, lt66, lt67, lt68, m_isRow (s := s) H (R.th (nI 0)).si hS (show 6 ≤ 6 by decide), m_in, nI_ite, rng_le y 1 (by decide)]
  by_cases hA : askB s G p t y ∧ (rtv 6 x).1 = true
  · obtain ⟨⟨⟨hg, hp⟩, ht, hy⟩, h1⟩ := hA
    obtain ⟨k5, k6⟩ := rtv_ok h1
    have hsz := (rtv_fg (show 6 ≤ 6 by decide) x).1 h1
    obtain ⟨hxv, hv⟩ := cl_back (rtv_x h1)
    have hdig := rtv_dig h1
    obtain ⟨G, g1, g5, rfl⟩ := grip hg
    obtain ⟨p, hp1, rfl⟩ : ∃ j, j < s.2.1.1 ∧ p = nI j := (ix p (by omega)).resolve_right (not_not_intro hp)
    obtain ⟨t, ht1, rfl⟩ : ∃ j, j < 1000 ∧ t = nI j := (ix t (by decide)).resolve_right (not_not_intro ht)
    obtain ⟨y, hy1, rfl⟩ : ∃ j, j < 2 ∧ y = nI j := (ix y (by decide)).resolve_right (not_not_intro hy)
    simp only [askB, hg, hp, ht, hy, h1, and_self, if_true, cl_of (show G < 2 ^ 31 by omega), cl_of (show p < 2 ^ 31 by omega), cl_of (show t < 2 ^ 31 by omega), cl_of (show y < 2 ^ 31 by omega), rtf] at hQ
    simp only [hg, hp, ht, hy, h1, and_self, not_true, if_false, s128_31, s128_32, s128_35, s128_36, s128_37, s128_38, s128_39, s128_41, s128_43, s128_46, OpV_some, OpN_some, OpA_some, OpR_some, Option.toList_some, Option.toList_none, List.cons_append, List.nil_append, true_and, and_true, nI11, or_true, true_or, or_false, false_or, mI0 H, mP0 H, mI3 H, mP3 H, mI4 H, mP4 H, mI5 H, mP5 H, mI6 H, mP6 H, mI7 H, mP7 H, mI8 H, mP8 H, mI9 H, mP9 H, mI10 H, mP10 H, mI11 H, mP11 H, mI12 H, mP12 H, mI13 H, mP13 H, mI14 H, mP14 H, mI23 H, mP23 H, mI24 H, mP24 H, mI25 H, mP25 H, mI26 H, mP26 H, mI27 H, mP27 H, mI30 H, mP30 H, mI31 H, mP31 H, mI1 H, mP1 H, mR2 H, mR15 H, mR16 H, mR17 H, mR18 H, mR19 H, mR20 H, mR21 H, mR22 H, mR28 H, mR29 H, mA0 H, mS0 H, mA1 H, mS1 H, mA2 H, mS2 H, mA3 H, mS3 H, mA4 H, mS4 H, mA5 H, mS5 H, mA6 H, mS6 H, mA7 H, mS7 H, mA8 H, mS8 H, mA9 H, mS9 H, mA10 H, mS10 H, mw_cl H, fu_s, fu_n, ua_s, ua_n, Nat.reduceBEq, lt57, lt58, lt59, lt60, lt61, lt62, lt63, lt64, lt65, lt66, lt67, lt68, m_beats H (R.th (nI 0)).ro h8 (R.bts V), m_figs, hsz]
    have S : StM (ua A 9 (cpy (nIf (bt0 s.2.2.1.1.2)) (A 9) s.2.2.1.1.1)) s.2.1.1 s.2.2.1.1.1 s.2.1.2 s.2.2.1.1.2 := R.stM V
    have hB : ∀ k, k < s.2.2.1.1.1 → (ua A 9 (cpy (nIf (bt0 s.2.2.1.1.2)) (A 9) s.2.2.1.1.1)) 9 k = nI (bt0 s.2.2.1.1.2 k) := fun k hk => by
      rw [ua_s]
      exact if_pos hk
    have hle := flw_le (h := s.2.1.2) (g := s.2.2.1.1.2) (nR := s.2.2.1.1.1) (G := G) (sz := (rtv 6 x).2.1) (F := (rtv 6 x).2.2) (rtv 6 x).2.1 0 p t
    conv in (Value.int x) => rw [hxv]
    refine m_goes H S hB g5 hv (by omega) hdig (show (fu a 0 (nI 0)) 10 = nI s.2.2.1.1.1 from R.ro) hp1 (by omega) fun a' ha' h' => ?_
    have RR : Rel tr a' (ua A 9 (cpy (nIf (bt0 s.2.2.1.1.2)) (A 9) s.2.2.1.1.1)) s := R.cg (ha' 3 (by decide)) (ha' 9 (by decide)) (ha' 10 (by decide)) (ha' 11 (by decide)) (ha' 23 (by decide)) fun i hi => if_neg (by omega)
    have hQ := hQ _ _ RR
    generalize flw s.2.1.2 s.2.2.1.1.2 s.2.2.1.1.1 G (rtv 6 x).2.2 (rtv 6 x).2.1 (rtv 6 x).2.1 0 p t = z at hQ h' hle
    by_cases q : z.1 < (rtv 6 x).2.1
    · have hne : (nI z.1 = -9) = False := eq_false fun e => by
        have e1 : (nI z.1).toInt = (-9 : Int32).toInt := by rw [e]
        rw [nI_toInt (by omega)] at e1
        have : (-9 : Int32).toInt = -9 := by decide
        omega
      simp only [q, if_true] at hQ
      simp only [q, if_true, s128_49, s128_51, s128_53, s128_55, s128_58, s128_60, s128_62, s128_63, s128_66, s128_68, s128_71, s128_72, s128_75, s128_78, s128_79, s128_82, OpV_some, OpN_some, OpA_some, OpR_some, Option.toList_some, Option.toList_none, List.cons_append, List.nil_append, true_and, and_true, nI11, or_true, true_or, or_false, false_or, mI0 H, mP0 H, mI3 H, mP3 H, mI4 H, mP4 H, mI5 H, mP5 H, mI6 H, mP6 H, mI7 H, mP7 H, mI8 H, mP8 H, mI9 H, mP9 H, mI10 H, mP10 H, mI11 H, mP11 H, mI12 H, mP12 H, mI13 H, mP13 H, mI14 H, mP14 H, mI23 H, mP23 H, mI24 H, mP24 H, mI25 H, mP25 H, mI26 H, mP26 H, mI27 H, mP27 H, mI30 H, mP30 H, mI31 H, mP31 H, mI1 H, mP1 H, mR2 H, mR15 H, mR16 H, mR17 H, mR18 H, mR19 H, mR20 H, mR21 H, mR22 H, mR28 H, mR29 H, mA0 H, mS0 H, mA1 H, mS1 H, mA2 H, mS2 H, mA3 H, mS3 H, mA4 H, mS4 H, mA5 H, mS5 H, mA6 H, mS6 H, mA7 H, mS7 H, mA8 H, mS8 H, mA9 H, mS9 H, mA10 H, mS10 H, mw_cl H, fu_s, fu_n, ua_s, ua_n, Nat.reduceBEq, lt57, lt58, lt59, lt60, lt61, lt62, lt63, lt64, lt65, lt66, lt67, lt68, hne, if_false]
      exact hQ
    · obtain ⟨e1, e2⟩ := h' (by omega)
      simp only [q, if_false] at hQ
      simp only [q, if_false, s128_49, s128_51, s128_53, s128_55, s128_58, s128_60, s128_62, s128_63, s128_66, s128_68, s128_71, s128_72, s128_75, s128_78, s128_79, s128_82, OpV_some, OpN_some, OpA_some, OpR_some, Option.toList_some, Option.toList_none, List.cons_append, List.nil_append, true_and, and_true, nI11, or_true, true_or, or_false, false_or, mI0 H, mP0 H, mI3 H, mP3 H, mI4 H, mP4 H, mI5 H, mP5 H, mI6 H, mP6 H, mI7 H, mP7 H, mI8 H, mP8 H, mI9 H, mP9 H, mI10 H, mP10 H, mI11 H, mP11 H, mI12 H, mP12 H, mI13 H, mP13 H, mI14 H, mP14 H, mI23 H, mP23 H, mI24 H, mP24 H, mI25 H, mP25 H, mI26 H, mP26 H, mI27 H, mP27 H, mI30 H, mP30 H, mI31 H, mP31 H, mI1 H, mP1 H, mR2 H, mR15 H, mR16 H, mR17 H, mR18 H, mR19 H, mR20 H, mR21 H, mR22 H, mR28 H, mR29 H, mA0 H, mS0 H, mA1 H, mS1 H, mA2 H, mS2 H, mA3 H, mS3 H, mA4 H, mS4 H, mA5 H, mS5 H, mA6 H, mS6 H, mA7 H, mS7 H, mA8 H, mS8 H, mA9 H, mS9 H, mA10 H, mS10 H, mw_cl H, fu_s, fu_n, ua_s, ua_n, Nat.reduceBEq, lt57, lt58, lt59, lt60, lt61, lt62, lt63, lt64, lt65, lt66, lt67, lt68, if_true, e1, e2, nI_eq0 (show y < 2 ^ 31 by omega)]
      by_cases q2 : y = 0
      · simp only [q2, if_true] at hQ ⊢
        exact hQ
      · simp only [q2, if_false] at hQ ⊢
        exact hQ
  · simp only [hA, if_false] at hQ
    have hQ := hQ _ _ (R.th (nI 0))
    unfold askB at hA
    by_cases h1 : ((nI 1 ≤ G ∧ G ≤ nI 5) ∧ (0 ≤ p ∧ p < nI s.2.1.1)) ∧ (0 ≤ t ∧ t < nI 1000) ∧ (rtv 6 x).1 = true
    · have h2 : ¬ (0 ≤ y ∧ y < nI 2) := fun q => hA ⟨⟨h1.1, h1.2.1, q⟩, h1.2.2⟩
      simp only [h1, h2, and_self, not_true, not_false_eq_true, if_false, if_true]
      exact hQ
    · simp only [h1, not_false_eq_true, if_true]
      exact hQ
end MROUTEB
