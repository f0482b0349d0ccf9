/-! open, saw, go, waits, stop, push by the reference -/
section MAPIB
variable {X : am_X} {d : Nat} {Q : am_Q} {u : am_W} {tr : Int64} {a : Nat → Int32} {A : Nat → Nat → Int32} {s : CSt} {f : Nat → Int32} {n : NSt}
theorem Rel.stM (R : Rel tr a A s) (V : Valid s) : StM A s.2.1.1 s.2.2.1.1.1 s.2.1.2 s.2.2.1.1.2 := ⟨R.dr, fun k hk => ⟨(R.rp k hk).1, (R.rp k hk).2.1, (R.nw.2.1 k hk).1⟩, V.2.2.1, V.2.2.2.1.1⟩
theorem Rel.onNow (R : Rel tr a A s) {f' : Nat → Int32} {n' : NSt} (h : NowR f' n') (hR : n'.1.1 = s.2.2.1.1.1) (hP : n'.2.1.1 = s.2.2.1.2.1.1) (hg : ∀ k, k < s.2.2.1.1.1 → n'.1.2 (k * 5) = s.2.2.1.1.2 (k * 5) ∧ n'.1.2 (k * 5 + 1) = s.2.2.1.1.2 (k * 5 + 1) ∧ n'.1.2 (k * 5 + 2) = s.2.2.1.1.2 (k * 5 + 2)) (hp : ∀ r, r < s.2.2.1.2.1.1 → n'.2.1.2 (r * 5 + 2) = s.2.2.1.2.1.2 (r * 5 + 2)) : Rel tr a (ua A 5 f') (st_now s n') := by
  obtain ⟨r0, r1, r2, r3, r4, r5, r6, r7⟩ := R
  refine ⟨r0, r1, r2, ⟨?_, fun k hk => ?_⟩, ⟨?_, fun r hr => ?_⟩, ?_, r6, r7⟩
  · show a 10 = nI n'.1.1
    rw [hR]; exact r3.1
  · have hk' : k < s.2.2.1.1.1 := by rw [← hR]; exact hk
    obtain ⟨g0, g1, g2⟩ := hg k hk'
    show A 3 (4 * k) = nI (n'.1.2 (k * 5)) ∧ A 3 (4 * k + 1) = nI (n'.1.2 (k * 5 + 1)) ∧ A 3 (4 * k + 2) = nI (n'.1.2 (k * 5 + 2))
    rw [g0, g1, g2]
    exact r3.2 k hk'
  · show a 11 = nI n'.2.1.1
    rw [hP]; exact r4.1
  · have hr' : r < s.2.2.1.2.1.1 := by rw [← hP]; exact hr
    show A 4 (3 * r + 1) = nI (n'.2.1.2 (r * 5 + 2))
    rw [hp r hr']
    exact r4.2 r hr'
  · rw [ua_s]; exact h
theorem NowR.setP (h : NowR f n) (hP : n.2.1.1 ≤ 4) {r c c' v : Nat} (hr : r < n.2.1.1) (hc : (c = 0 ∧ c' = 0) ∨ (c = 1 ∧ c' = 1) ∨ (c = 2 ∧ c' = 3) ∨ (c = 3 ∧ c' = 4)) : NowR (upd f (4 * r + c) (nI v)) (st_riders n (upN n.2.1.2 (r * 5 + c') v)) := by
  obtain ⟨a1, a2, a3, a4, a5, a6⟩ := h
  refine ⟨fun r' hr' => ?_, fun k hk => ?_, ?_, fun i hi => ?_, ?_, fun t ht => ?_⟩
  · obtain ⟨b0, b1, b2, b3⟩ := a1 r' hr'
    show upd f (4 * r + c) (nI v) (4 * r') = nI (upN n.2.1.2 (r * 5 + c') v (r' * 5)) ∧ upd f (4 * r + c) (nI v) (4 * r' + 1) = nI (upN n.2.1.2 (r * 5 + c') v (r' * 5 + 1)) ∧ upd f (4 * r + c) (nI v) (4 * r' + 2) = nI (upN n.2.1.2 (r * 5 + c') v (r' * 5 + 3)) ∧ upd f (4 * r + c) (nI v) (4 * r' + 3) = nI (upN n.2.1.2 (r * 5 + c') v (r' * 5 + 4))
    unfold upd upN
    refine ⟨?_, ?_, ?_, ?_⟩
    · by_cases q : 4 * r' = 4 * r + c
      · rw [if_pos q, if_pos (by omega)]
      · rw [if_neg q, if_neg (by omega)]; exact b0
    · by_cases q : 4 * r' + 1 = 4 * r + c
      · rw [if_pos q, if_pos (by omega)]
      · rw [if_neg q, if_neg (by omega)]; exact b1
    · by_cases q : 4 * r' + 2 = 4 * r + c
      · rw [if_pos q, if_pos (by omega)]
      · rw [if_neg q, if_neg (by omega)]; exact b2
    · by_cases q : 4 * r' + 3 = 4 * r + c
      · rw [if_pos q, if_pos (by omega)]
      · rw [if_neg q, if_neg (by omega)]; exact b3
  · rw [upd_n _ _ (by omega), upd_n _ _ (by omega)]; exact a2 k hk
  · rw [upd_n _ _ (by omega)]; exact a3
  · exact DeedR.cg (j := i) (fun c hc => upd_n _ _ (by omega)) (fun c hc => rfl) (a4 i hi)
  · rw [upd_n _ _ (by omega)]; exact a5
  · rw [upd_n _ _ (by omega)]; exact a6 t ht
theorem NowR.setS (h : NowR f n) (hP : n.2.1.1 ≤ 4) (hR : n.1.1 ≤ 8) {k c v : Nat} (hk : k < n.1.1) (hc : c = 0 ∨ c = 1) : NowR (upd f (16 + 8 * c + k) (nI v)) (st_ropes n (upN n.1.2 (k * 5 + (3 + c)) v)) := by
  obtain ⟨a1, a2, a3, a4, a5, a6⟩ := h
  refine ⟨fun r' hr' => ?_, fun k' hk' => ?_, ?_, fun i hi => ?_, ?_, fun t ht => ?_⟩
  · have hr2 : r' < n.2.1.1 := hr'
    rw [upd_n _ _ (by omega), upd_n _ _ (by omega), upd_n _ _ (by omega), upd_n _ _ (by omega)]; exact a1 r' hr'
  · have hk2 : k' < n.1.1 := hk'
    obtain ⟨b0, b1⟩ := a2 k' hk'
    show upd f (16 + 8 * c + k) (nI v) (16 + k') = nI (upN n.1.2 (k * 5 + (3 + c)) v (k' * 5 + 3)) ∧ upd f (16 + 8 * c + k) (nI v) (24 + k') = nI (upN n.1.2 (k * 5 + (3 + c)) v (k' * 5 + 4))
    unfold upd upN
    refine ⟨?_, ?_⟩
    · by_cases q : 16 + k' = 16 + 8 * c + k
      · rw [if_pos q, if_pos (by omega)]
      · rw [if_neg q, if_neg (by omega)]; exact b0
    · by_cases q : 24 + k' = 16 + 8 * c + k
      · rw [if_pos q, if_pos (by omega)]
      · rw [if_neg q, if_neg (by omega)]; exact b1
  · rw [upd_n _ _ (by omega)]; exact a3
  · exact DeedR.cg (j := i) (fun c hc => upd_n _ _ (by omega)) (fun c hc => rfl) (a4 i hi)
  · rw [upd_n _ _ (by omega)]; exact a5
  · rw [upd_n _ _ (by omega)]; exact a6 t ht
theorem m_open (H : 69 ≤ u.length) (R : Rel tr a A s) (V : Valid s) (x t : Int32) : Cl X (d + 3) 108 [.ref 57, .int x, .int t] (mw u tr a A) Q = Q (some (.int (sp_open s x t))) (mw u tr (fu a 0 (nI 0)) A) := by
  have h8 := Rel.nS V
  rw [e108]
  unfold sp_open
  simp only [s108_0, s108_1, s108_2, s108_5, s108_6, s108_7, s108_10, s108_13, s108_14, s108_17, s108_20, s108_21, s108_24, s108_25, s108_26, s108_27, s108_30, s108_33, s108_34, s108_37, s108_38, OpV_some, OpN_some, OpA_some, OpR_some, Option.toList_some, Option.toList_none, List.cons_append, List.nil_append, true_and, and_true, nI11, or_true, true_or, or_false, false_or, mI0 H, mP0 H, mI3 H, mP3 H, mI4 H, mP4 H, mI5 H, mP5 H, mI6 H, mP6 H, mI7 H, mP7 H, mI8 H, mP8 H, mI9 H, mP9 H, mI10 H, mP10 H, mI11 H, mP11 H, mI12 H, mP12 H, mI13 H, mP13 H, mI14 H, mP14 H, mI23 H, mP23 H, mI24 H, mP24 H, mI25 H, mP25 H, mI26 H, mP26 H, mI27 H, mP27 H, mI30 H, mP30 H, mI31 H, mP31 H, mI1 H, mP1 H, mR2 H, mR15 H, mR16 H, mR17 H, mR18 H, mR19 H, mR20 H, mR21 H, mR22 H, mR28 H, mR29 H, mA0 H, mS0 H, mA1 H, mS1 H, mA2 H, mS2 H, mA3 H, mS3 H, mA4 H, mS4 H, mA5 H, mS5 H, mA6 H, mS6 H, mA7 H, mS7 H, mA8 H, mS8 H, mA9 H, mS9 H, mA10 H, mS10 H, mw_cl H, fu_s, fu_n, ua_s, ua_n, Nat.reduceBEq, lt57, lt58, lt59, lt60, lt61, lt62, lt63, lt64, lt65, lt66, lt67, lt68, m_isSill H, m_isMinute, nI_ite, R.si, rng_sub x (show s.2.1.1 < 2 ^ 30 by omega), rng_le t 999 (by decide)]
  rcases ix x (n := s.2.1.1) (by omega) with ⟨j, hj, rfl⟩ | hx
  · have hx := ix_in hj (by omega)
    rcases ix t (n := 1000) (by decide) with ⟨k, hk, rfl⟩ | hy
    · have hy := ix_in hk (by decide)
      simp only [hx, hy, and_self, not_true, if_false, if_true, m_isOpen H (R.stM V) hj (show k < 2 ^ 30 by omega), nI_ite, OpV_some, OpN_some, OpA_some, OpR_some, Option.toList_some, Option.toList_none, List.cons_append, List.nil_append, true_and, and_true, nI11, or_true, true_or, or_false, false_or, s108_0, s108_1, s108_2, s108_5, s108_6, s108_7, s108_10, s108_13, s108_14, s108_17, s108_20, s108_21, s108_24, s108_25, s108_26, s108_27, s108_30, s108_33, s108_34, s108_37, s108_38, cl_of (show j < 2 ^ 31 by omega), cl_of (show k < 2 ^ 31 by omega)]
      by_cases ho : opnB s.2.1.2 j k = true
      · simp only [ho, not_true, if_true, if_false]
      · simp only [ho, not_false_eq_true, if_true, if_false, Bool.false_eq_true]
    · simp only [hx, hy, and_false, and_self, not_true, not_false_eq_true, if_false, if_true]
  · simp only [hx, false_and, not_false_eq_true, if_true, if_false]
theorem m_saw (H : 69 ≤ u.length) (R : Rel tr a A s) (V : Valid s) (x t : Int32) (hQ : ∀ a' A', Rel tr a' A' (sp_saw s x t).2 → Q (some (.int (sp_saw s x t).1)) (mw u tr a' A')) : Cl X (d + 3) 132 [.ref 57, .int x, .int t] (mw u tr a A) Q := by
  have h8 := Rel.nS V
  have h6 := V.2.2.2.2.1.1
  rw [e132]
  unfold sp_saw at hQ
  simp only [s132_0, s132_1, s132_2, s132_5, s132_6, s132_7, s132_10, s132_13, s132_14, s132_17, s132_20, s132_21, s132_22, s132_23, s132_26, s132_28, s132_31, s132_33, s132_34, s132_35, s132_38, s132_39, s132_40, s132_43, s132_44, s132_45, s132_46, s132_47, s132_50, s132_51, s132_52, s132_55, s132_56, s132_57, s132_58, s132_59, s132_60, s132_61, s132_62, s132_65, s132_66, s132_67, s132_70, s132_71, s132_74, OpV_some, OpN_some, OpA_some, OpR_some, Option.toList_some, Option.toList_none, List.cons_append, List.nil_append, true_and, and_true, nI11, or_true, true_or, or_false, false_or, mI0 H, mP0 H, mI3 H, mP3 H, mI4 H, mP4 H, mI5 H, mP5 H, mI6 H, mP6 H, mI7 H, mP7 H, mI8 H, mP8 H, mI9 H, mP9 H, mI10 H, mP10 H, mI11 H, mP11 H, mI12 H, mP12 H, mI13 H, mP13 H, mI14 H, mP14 H, mI23 H, mP23 H, mI24 H, mP24 H, mI25 H, mP25 H, mI26 H, mP26 H, mI27 H, mP27 H, mI30 H, mP30 H, mI31 H, mP31 H, mI1 H, mP1 H, mR2 H, mR15 H, mR16 H, mR17 H, mR18 H, mR19 H, mR20 H, mR21 H, mR22 H, mR28 H, mR29 H, mA0 H, mS0 H, mA1 H, mS1 H, mA2 H, mS2 H, mA3 H, mS3 H, mA4 H, mS4 H, mA5 H, mS5 H, mA6 H, mS6 H, mA7 H, mS7 H, mA8 H, mS8 H, mA9 H, mS9 H, mA10 H, mS10 H, mw_cl H, fu_s, fu_n, ua_s, ua_n, Nat.reduceBEq, lt57, lt58, lt59, lt60, lt61, lt62, lt63, lt64, lt65, lt66, lt67, lt68, m_isSill H, m_isMinute, nI_ite, R.si, R.sm, rng_sub x (show s.2.1.1 < 2 ^ 30 by omega), rng_le t 999 (by decide), nI_eqN (show s.2.2.2.1.1 < 2 ^ 31 by omega) (show 6 < 2 ^ 31 by omega)]
  rcases ix x (n := s.2.1.1) (by omega) with ⟨j, hj, rfl⟩ | hx
  · have hx := ix_in hj (by omega)
    rcases ix t (n := 1000) (by decide) with ⟨k, hk, rfl⟩ | hy
    · have hy := ix_in hk (by decide)
      by_cases h : s.2.2.2.1.1 < 6
      · simp only [hx, hy, h, and_self, if_true, cl_of (show j < 2 ^ 31 by omega), cl_of (show k < 2 ^ 31 by omega)] at hQ
        simp only [hx, hy, and_self, not_true, if_false, if_true, OpV_some, OpN_some, OpA_some, OpR_some, Option.toList_some, Option.toList_none, List.cons_append, List.nil_append, true_and, and_true, nI11, or_true, true_or, or_false, false_or, mI0 H, mP0 H, mI3 H, mP3 H, mI4 H, mP4 H, mI5 H, mP5 H, mI6 H, mP6 H, mI7 H, mP7 H, mI8 H, mP8 H, mI9 H, mP9 H, mI10 H, mP10 H, mI11 H, mP11 H, mI12 H, mP12 H, mI13 H, mP13 H, mI14 H, mP14 H, mI23 H, mP23 H, mI24 H, mP24 H, mI25 H, mP25 H, mI26 H, mP26 H, mI27 H, mP27 H, mI30 H, mP30 H, mI31 H, mP31 H, mI1 H, mP1 H, mR2 H, mR15 H, mR16 H, mR17 H, mR18 H, mR19 H, mR20 H, mR21 H, mR22 H, mR28 H, mR29 H, mA0 H, mS0 H, mA1 H, mS1 H, mA2 H, mS2 H, mA3 H, mS3 H, mA4 H, mS4 H, mA5 H, mS5 H, mA6 H, mS6 H, mA7 H, mS7 H, mA8 H, mS8 H, mA9 H, mS9 H, mA10 H, mS10 H, mw_cl H, fu_s, fu_n, ua_s, ua_n, Nat.reduceBEq, lt57, lt58, lt59, lt60, lt61, lt62, lt63, lt64, lt65, lt66, lt67, lt68, ua_ua, pk_mul, nI_add, show ¬ s.2.2.2.1.1 = 6 by omega, R.sm, s132_0, s132_1, s132_2, s132_5, s132_6, s132_7, s132_10, s132_13, s132_14, s132_17, s132_20, s132_21, s132_22, s132_23, s132_26, s132_28, s132_31, s132_33, s132_34, s132_35, s132_38, s132_39, s132_40, s132_43, s132_44, s132_45, s132_46, s132_47, s132_50, s132_51, s132_52, s132_55, s132_56, s132_57, s132_58, s132_59, s132_60, s132_61, s132_62, s132_65, s132_66, s132_67, s132_70, s132_71, s132_74, in_nI (show 2 * s.2.2.2.1.1 < 12 by omega) (show 12 < 2 ^ 31 by omega), cl_nI (show 2 * s.2.2.2.1.1 < 2 ^ 31 by omega), in_nI (show 2 * s.2.2.2.1.1 + 1 < 12 by omega) (show 12 < 2 ^ 31 by omega), cl_nI (show 2 * s.2.2.2.1.1 + 1 < 2 ^ 31 by omega)]
        refine hQ _ _ ?_
        obtain ⟨r0, r1, r2, r3, r4, r5, r6, r7⟩ := R
        refine ⟨r0, r1, r2, r3, r4, r5, ⟨rfl, fun i hi => ?_⟩, r7⟩
        have hi2 : i < s.2.2.2.1.1 + 1 := hi
        show upd (upd (A 8) (2 * s.2.2.2.1.1) (nI j)) (2 * s.2.2.2.1.1 + 1) (nI k) (2 * i) = nI (upN (upN s.2.2.2.1.2 (s.2.2.2.1.1 * 2) j) (s.2.2.2.1.1 * 2 + 1) k (i * 2)) ∧ upd (upd (A 8) (2 * s.2.2.2.1.1) (nI j)) (2 * s.2.2.2.1.1 + 1) (nI k) (2 * i + 1) = nI (upN (upN s.2.2.2.1.2 (s.2.2.2.1.1 * 2) j) (s.2.2.2.1.1 * 2 + 1) k (i * 2 + 1))
        by_cases q : i = s.2.2.2.1.1
        · subst q
          rw [upd_n _ _ (by omega), upd_s, upd_s, upN_n _ _ (by omega), upN_s, upN_s]
          exact ⟨rfl, rfl⟩
        · rw [upd_n _ _ (by omega), upd_n _ _ (by omega), upd_n _ _ (by omega), upd_n _ _ (by omega), upN_n _ _ (by omega), upN_n _ _ (by omega), upN_n _ _ (by omega), upN_n _ _ (by omega)]
          exact r6.2 i (by omega)
      · simp only [hx, hy, h, and_self, if_true, if_false] at hQ
        simp only [hx, hy, show s.2.2.2.1.1 = 6 by omega, and_self, not_true, if_false, if_true]
        exact hQ _ _ (R.th _)
    · simp only [hx, hy, and_false, if_false] at hQ
      simp only [hx, hy, and_self, not_true, not_false_eq_true, if_false, if_true]
      exact hQ _ _ (R.th _)
  · simp only [hx, false_and, if_false] at hQ
    simp only [hx, not_false_eq_true, if_true]
    exact hQ _ _ (R.th _)
theorem m_stop (H : 69 ≤ u.length) (R : Rel tr a A s) (V : Valid s) (x : Int32) (hQ : ∀ a' A', Rel tr a' A' (sp_stop s x).2 → Q (some (.int (sp_stop s x).1)) (mw u tr a' A')) : Cl X (d + 3) 117 [.ref 57, .int x] (mw u tr a A) Q := by
  have h8 := Rel.nR V
  have hP := Rel.nP V
  have hD : s.2.2.1.2.2.1.1 ≤ 10 := V.2.2.2.1.2.2.2.1.1
  rw [e117]
  unfold sp_stop at hQ
  simp only [s117_0, s117_1, s117_2, s117_5, s117_6, s117_7, s117_10, s117_13, s117_14, s117_15, s117_16, s117_19, s117_21, s117_22, s117_23, s117_24, s117_25, s117_28, s117_30, s117_31, s117_32, s117_33, s117_34, s117_35, s117_38, s117_40, s117_41, s117_42, s117_43, s117_44, s117_45, s117_46, s117_49, s117_50, s117_53, s117_55, s117_56, s117_57, s117_58, s117_59, s117_60, OpV_some, OpN_some, OpA_some, OpR_some, Option.toList_some, Option.toList_none, List.cons_append, List.nil_append, true_and, and_true, nI11, or_true, true_or, or_false, false_or, mI0 H, mP0 H, mI3 H, mP3 H, mI4 H, mP4 H, mI5 H, mP5 H, mI6 H, mP6 H, mI7 H, mP7 H, mI8 H, mP8 H, mI9 H, mP9 H, mI10 H, mP10 H, mI11 H, mP11 H, mI12 H, mP12 H, mI13 H, mP13 H, mI14 H, mP14 H, mI23 H, mP23 H, mI24 H, mP24 H, mI25 H, mP25 H, mI26 H, mP26 H, mI27 H, mP27 H, mI30 H, mP30 H, mI31 H, mP31 H, mI1 H, mP1 H, mR2 H, mR15 H, mR16 H, mR17 H, mR18 H, mR19 H, mR20 H, mR21 H, mR22 H, mR28 H, mR29 H, mA0 H, mS0 H, mA1 H, mS1 H, mA2 H, mS2 H, mA3 H, mS3 H, mA4 H, mS4 H, mA5 H, mS5 H, mA6 H, mS6 H, mA7 H, mS7 H, mA8 H, mS8 H, mA9 H, mS9 H, mA10 H, mS10 H, mw_cl H, fu_s, fu_n, ua_s, ua_n, Nat.reduceBEq, lt57, lt58, lt59, lt60, lt61, lt62, lt63, lt64, lt65, lt66, lt67, lt68, m_isRope H, nI_ite, R.ro, rng_sub x (show s.2.2.1.1.1 < 2 ^ 30 by omega)]
  rcases ix x (n := s.2.2.1.1.1) (by omega) with ⟨j, hj, rfl⟩ | hx
  · have hx := ix_in hj (by omega)
    have h7 := ((V.2.2.2.1.1).2 j hj).2.2.2.2.2.2
    obtain ⟨d3, d4⟩ := R.nw.2.1 j hj
    simp only [hx, and_self, if_true, cl_of (show j < 2 ^ 31 by omega)] at hQ
    simp only [hx, and_self, not_true, if_false, if_true, OpV_some, OpN_some, OpA_some, OpR_some, Option.toList_some, Option.toList_none, List.cons_append, List.nil_append, true_and, and_true, nI11, or_true, true_or, or_false, false_or, s117_0, s117_1, s117_2, s117_5, s117_6, s117_7, s117_10, s117_13, s117_14, s117_15, s117_16, s117_19, s117_21, s117_22, s117_23, s117_24, s117_25, s117_28, s117_30, s117_31, s117_32, s117_33, s117_34, s117_35, s117_38, s117_40, s117_41, s117_42, s117_43, s117_44, s117_45, s117_46, s117_49, s117_50, s117_53, s117_55, s117_56, s117_57, s117_58, s117_59, s117_60, nI_add, in_nI (show 24 + j < 134 by omega) (show 134 < 2 ^ 31 by omega), cl_nI (show 24 + j < 2 ^ 31 by omega), in_nI (show 16 + j < 134 by omega) (show 134 < 2 ^ 31 by omega), cl_nI (show 16 + j < 2 ^ 31 by omega), d3, d4, nI_eqN (show s.2.2.1.1.2 (j * 5 + 4) < 2 ^ 31 by omega) (show 1 < 2 ^ 31 by omega)]
    by_cases h1 : s.2.2.1.1.2 (j * 5 + 4) = 1
    · simp only [h1, if_true] at hQ ⊢
      exact hQ _ _ (R.th _)
    · simp only [h1, if_false] at hQ ⊢
      have h2 := nts_R (so := 2) (r := j) (O := s.2.2.1.1.2) (v0 := nI 2) (v1 := nI j) (v2 := nI (s.2.2.1.1.2 (j * 5 + 3))) (v3 := nI 0) (v4 := nI 0) (v5 := nI 0) R.nw hD hP h8 ⟨fun q => absurd rfl q, fun _ => ⟨Or.inl rfl, rfl, rfl, by rw [show s.2.2.1.1.2 (j * 5 + 4) = 0 by omega]⟩⟩
      simp only [m_notes H hD R.nw.2.2.1, OpV_some, OpN_some, OpA_some, OpR_some, Option.toList_some, Option.toList_none, List.cons_append, List.nil_append, true_and, and_true, nI11, or_true, true_or, or_false, false_or, mI0 H, mP0 H, mI3 H, mP3 H, mI4 H, mP4 H, mI5 H, mP5 H, mI6 H, mP6 H, mI7 H, mP7 H, mI8 H, mP8 H, mI9 H, mP9 H, mI10 H, mP10 H, mI11 H, mP11 H, mI12 H, mP12 H, mI13 H, mP13 H, mI14 H, mP14 H, mI23 H, mP23 H, mI24 H, mP24 H, mI25 H, mP25 H, mI26 H, mP26 H, mI27 H, mP27 H, mI30 H, mP30 H, mI31 H, mP31 H, mI1 H, mP1 H, mR2 H, mR15 H, mR16 H, mR17 H, mR18 H, mR19 H, mR20 H, mR21 H, mR22 H, mR28 H, mR29 H, mA0 H, mS0 H, mA1 H, mS1 H, mA2 H, mS2 H, mA3 H, mS3 H, mA4 H, mS4 H, mA5 H, mS5 H, mA6 H, mS6 H, mA7 H, mS7 H, mA8 H, mS8 H, mA9 H, mS9 H, mA10 H, mS10 H, mw_cl H, fu_s, fu_n, ua_s, ua_n, Nat.reduceBEq, lt57, lt58, lt59, lt60, lt61, lt62, lt63, lt64, lt65, lt66, lt67, lt68, ua_ua, s117_0, s117_1, s117_2, s117_5, s117_6, s117_7, s117_10, s117_13, s117_14, s117_15, s117_16, s117_19, s117_21, s117_22, s117_23, s117_24, s117_25, s117_28, s117_30, s117_31, s117_32, s117_33, s117_34, s117_35, s117_38, s117_40, s117_41, s117_42, s117_43, s117_44, s117_45, s117_46, s117_49, s117_50, s117_53, s117_55, s117_56, s117_57, s117_58, s117_59, s117_60, nI_add, in_nI (show 24 + j < 134 by omega) (show 134 < 2 ^ 31 by omega), cl_nI (show 24 + j < 2 ^ 31 by omega)]
      have h3 := h2.setS hP h8 (k := j) (c := 1) (v := 1) hj (Or.inr rfl)
      exact hQ _ _ ((R.th _).onNow h3 rfl rfl (fun k hk => ⟨upN_n _ _ (by omega), upN_n _ _ (by omega), upN_n _ _ (by omega)⟩) (fun r hr => rfl))
  · simp only [hx, if_false] at hQ
    simp only [hx, not_false_eq_true, if_true]
    exact hQ _ _ (R.th _)
theorem m_push (H : 69 ≤ u.length) (R : Rel tr a A s) (V : Valid s) (x t : Int32) (hQ : ∀ a' A', Rel tr a' A' (sp_push s x t).2 → Q (some (.int (sp_push s x t).1)) (mw u tr a' A')) : Cl X (d + 3) 118 [.ref 57, .int x, .int t] (mw u tr a A) Q := by
  have h8 := Rel.nR V
  have hP := Rel.nP V
  have hD : s.2.2.1.2.2.1.1 ≤ 10 := V.2.2.2.1.2.2.2.1.1
  rw [e118]
  unfold sp_push at hQ
  simp only [s118_0, s118_1, s118_2, s118_5, s118_6, s118_7, s118_10, s118_13, s118_14, s118_17, s118_20, s118_21, s118_22, s118_23, s118_26, s118_28, s118_29, s118_30, s118_31, s118_32, s118_33, s118_34, s118_35, s118_36, s118_37, s118_40, s118_42, s118_43, s118_44, s118_45, s118_46, s118_47, s118_50, s118_51, s118_54, s118_56, s118_57, s118_58, s118_59, s118_60, s118_61, s118_64, s118_66, s118_67, s118_68, s118_69, s118_70, s118_71, OpV_some, OpN_some, OpA_some, OpR_some, Option.toList_some, Option.toList_none, List.cons_append, List.nil_append, true_and, and_true, nI11, or_true, true_or, or_false, false_or, mI0 H, mP0 H, mI3 H, mP3 H, mI4 H, mP4 H, mI5 H, mP5 H, mI6 H, mP6 H, mI7 H, mP7 H, mI8 H, mP8 H, mI9 H, mP9 H, mI10 H, mP10 H, mI11 H, mP11 H, mI12 H, mP12 H, mI13 H, mP13 H, mI14 H, mP14 H, mI23 H, mP23 H, mI24 H, mP24 H, mI25 H, mP25 H, mI26 H, mP26 H, mI27 H, mP27 H, mI30 H, mP30 H, mI31 H, mP31 H, mI1 H, mP1 H, mR2 H, mR15 H, mR16 H, mR17 H, mR18 H, mR19 H, mR20 H, mR21 H, mR22 H, mR28 H, mR29 H, mA0 H, mS0 H, mA1 H, mS1 H, mA2 H, mS2 H, mA3 H, mS3 H, mA4 H, mS4 H, mA5 H, mS5 H, mA6 H, mS6 H, mA7 H, mS7 H, mA8 H, mS8 H, mA9 H, mS9 H, mA10 H, mS10 H, mw_cl H, fu_s, fu_n, ua_s, ua_n, Nat.reduceBEq, lt57, lt58, lt59, lt60, lt61, lt62, lt63, lt64, lt65, lt66, lt67, lt68, m_isRope H, m_isMinute, nI_ite, R.ro, rng_sub x (show s.2.2.1.1.1 < 2 ^ 30 by omega), rng_le t 999 (by decide)]
  rcases ix x (n := s.2.2.1.1.1) (by omega) with ⟨j, hj, rfl⟩ | hx
  · have hx := ix_in hj (by omega)
    obtain ⟨d3, d4⟩ := R.nw.2.1 j hj
    rcases ix t (n := 1000) (by decide) with ⟨k, hk, rfl⟩ | hy
    · have hy := ix_in hk (by decide)
      simp only [hx, hy, and_self, if_true, cl_of (show j < 2 ^ 31 by omega), cl_of (show k < 2 ^ 31 by omega)] at hQ
      have h2 := nts_R (so := 2) (r := j) (O := s.2.2.1.1.2) (v0 := nI 3) (v1 := nI j) (v2 := nI (s.2.2.1.1.2 (j * 5 + 3))) (v3 := nI (s.2.2.1.1.2 (j * 5 + 4))) (v4 := nI 0) (v5 := nI 0) R.nw hD hP h8 ⟨fun q => absurd rfl q, fun _ => ⟨Or.inr rfl, rfl, rfl, rfl⟩⟩
      simp only [hx, hy, and_self, not_true, if_false, if_true, OpV_some, OpN_some, OpA_some, OpR_some, Option.toList_some, Option.toList_none, List.cons_append, List.nil_append, true_and, and_true, nI11, or_true, true_or, or_false, false_or, mI0 H, mP0 H, mI3 H, mP3 H, mI4 H, mP4 H, mI5 H, mP5 H, mI6 H, mP6 H, mI7 H, mP7 H, mI8 H, mP8 H, mI9 H, mP9 H, mI10 H, mP10 H, mI11 H, mP11 H, mI12 H, mP12 H, mI13 H, mP13 H, mI14 H, mP14 H, mI23 H, mP23 H, mI24 H, mP24 H, mI25 H, mP25 H, mI26 H, mP26 H, mI27 H, mP27 H, mI30 H, mP30 H, mI31 H, mP31 H, mI1 H, mP1 H, mR2 H, mR15 H, mR16 H, mR17 H, mR18 H, mR19 H, mR20 H, mR21 H, mR22 H, mR28 H, mR29 H, mA0 H, mS0 H, mA1 H, mS1 H, mA2 H, mS2 H, mA3 H, mS3 H, mA4 H, mS4 H, mA5 H, mS5 H, mA6 H, mS6 H, mA7 H, mS7 H, mA8 H, mS8 H, mA9 H, mS9 H, mA10 H, mS10 H, mw_cl H, fu_s, fu_n, ua_s, ua_n, Nat.reduceBEq, lt57, lt58, lt59, lt60, lt61, lt62, lt63, lt64, lt65, lt66, lt67, lt68, ua_ua, s118_0, s118_1, s118_2, s118_5, s118_6, s118_7, s118_10, s118_13, s118_14, s118_17, s118_20, s118_21, s118_22, s118_23, s118_26, s118_28, s118_29, s118_30, s118_31, s118_32, s118_33, s118_34, s118_35, s118_36, s118_37, s118_40, s118_42, s118_43, s118_44, s118_45, s118_46, s118_47, s118_50, s118_51, s118_54, s118_56, s118_57, s118_58, s118_59, s118_60, s118_61, s118_64, s118_66, s118_67, s118_68, s118_69, s118_70, s118_71, nI_add, in_nI (show 24 + j < 134 by omega) (show 134 < 2 ^ 31 by omega), cl_nI (show 24 + j < 2 ^ 31 by omega), in_nI (show 16 + j < 134 by omega) (show 134 < 2 ^ 31 by omega), cl_nI (show 16 + j < 2 ^ 31 by omega), d3, d4, m_notes H hD R.nw.2.2.1]
      have h3 := h2.setS hP h8 (k := j) (c := 0) (v := k) hj (Or.inl rfl)
      have h4 := h3.setS hP h8 (k := j) (c := 1) (v := 0) hj (Or.inr rfl)
      exact hQ _ _ ((R.th _).onNow h4 rfl rfl (fun k hk => ⟨(upN_n _ _ (by omega)).trans (upN_n _ _ (by omega)), (upN_n _ _ (by omega)).trans (upN_n _ _ (by omega)), (upN_n _ _ (by omega)).trans (upN_n _ _ (by omega))⟩) (fun r hr => rfl))
    · simp only [hx, hy, and_false, if_false] at hQ
      simp only [hx, hy, and_self, not_true, not_false_eq_true, if_false, if_true]
      exact hQ _ _ (R.th _)
  · simp only [hx, false_and, if_false] at hQ
    simp only [hx, not_false_eq_true, if_true]
    exact hQ _ _ (R.th _)
theorem m_waits (H : 69 ≤ u.length) (R : Rel tr a A s) (V : Valid s) (x m : Int32) (hQ : ∀ a' A', Rel tr a' A' (sp_waits s x m).2 → Q (some (.int (sp_waits s x m).1)) (mw u tr a' A')) : Cl X (d + 3) 116 [.ref 57, .int x, .int m] (mw u tr a A) Q := by
  have h8 := Rel.nR V
  have hP := Rel.nP V
  have hD : s.2.2.1.2.2.1.1 ≤ 10 := V.2.2.2.1.2.2.2.1.1
  rw [e116]
  unfold sp_waits at hQ
  simp only [s116_0, s116_1, s116_2, s116_5, s116_6, s116_7, s116_10, s116_13, s116_14, s116_15, s116_17, s116_20, s116_23, s116_24, s116_25, s116_26, s116_27, s116_28, s116_29, s116_30, s116_33, s116_34, s116_35, s116_36, s116_37, s116_38, s116_41, s116_42, s116_45, s116_46, s116_47, s116_48, s116_49, s116_50, s116_51, s116_54, s116_57, s116_59, s116_60, s116_61, s116_62, s116_63, s116_64, s116_67, s116_68, s116_69, s116_70, s116_73, s116_74, s116_75, s116_76, s116_77, s116_78, s116_81, s116_82, s116_83, s116_84, s116_85, s116_86, s116_89, s116_90, s116_91, s116_92, s116_93, s116_96, s116_97, s116_100, s116_101, s116_102, s116_103, s116_104, s116_105, s116_106, s116_107, s116_108, s116_109, s116_112, s116_113, s116_114, s116_115, s116_116, OpV_some, OpN_some, OpA_some, OpR_some, Option.toList_some, Option.toList_none, List.cons_append, List.nil_append, true_and, and_true, nI11, or_true, true_or, or_false, false_or, mI0 H, mP0 H, mI3 H, mP3 H, mI4 H, mP4 H, mI5 H, mP5 H, mI6 H, mP6 H, mI7 H, mP7 H, mI8 H, mP8 H, mI9 H, mP9 H, mI10 H, mP10 H, mI11 H, mP11 H, mI12 H, mP12 H, mI13 H, mP13 H, mI14 H, mP14 H, mI23 H, mP23 H, mI24 H, mP24 H, mI25 H, mP25 H, mI26 H, mP26 H, mI27 H, mP27 H, mI30 H, mP30 H, mI31 H, mP31 H, mI1 H, mP1 H, mR2 H, mR15 H, mR16 H, mR17 H, mR18 H, mR19 H, mR20 H, mR21 H, mR22 H, mR28 H, mR29 H, mA0 H, mS0 H, mA1 H, mS1 H, mA2 H, mS2 H, mA3 H, mS3 H, mA4 H, mS4 H, mA5 H, mS5 H, mA6 H, mS6 H, mA7 H, mS7 H, mA8 H, mS8 H, mA9 H, mS9 H, mA10 H, mS10 H, mw_cl H, fu_s, fu_n, ua_s, ua_n, Nat.reduceBEq, lt57, lt58, lt59, lt60, lt61, lt62, lt63, lt64, lt65, lt66, lt67, lt68, m_isRider H, m_in, nI_ite, R.ri, rng_sub x (show s.2.2.1.2.1.1 < 2 ^ 30 by omega)]
  rcases ix x (n := s.2.2.1.2.1.1) (by omega) with ⟨j, hj, rfl⟩ | hx
  · have hx := ix_in hj (by omega)
    by_cases hy : nI 1 ≤ m ∧ m ≤ nI 99
    · obtain ⟨k, hk, rfl⟩ : ∃ k, k ≤ 99 ∧ m = nI k := by
        have h1 := hy.1
        have h2 := hy.2
        rw [Int32.le_iff_toInt_le] at h1 h2
        have e1 : (nI 1).toInt = 1 := by decide
        have e99 : (nI 99).toInt = 99 := by decide
        rw [e1] at h1
        rw [e99] at h2
        refine ⟨m.toInt.toNat, by omega, toInt_inj' ?_⟩
        rw [nI_toInt (by omega)]
        omega
      obtain ⟨-, hr⟩ := V.2.2.2.1.2.2.1
      obtain ⟨r1, r2, r3, r4, r5, r6⟩ := hr j hj
      obtain ⟨d0, d1, d3, d4⟩ := R.nw.1 j hj
      simp only [hx, hy, and_self, if_true, cl_of (show j < 2 ^ 31 by omega), cl_of (show k < 2 ^ 31 by omega)] at hQ
      simp only [hx, hy, and_self, not_true, if_false, if_true, OpV_some, OpN_some, OpA_some, OpR_some, Option.toList_some, Option.toList_none, List.cons_append, List.nil_append, true_and, and_true, nI11, or_true, true_or, or_false, false_or, s116_0, s116_1, s116_2, s116_5, s116_6, s116_7, s116_10, s116_13, s116_14, s116_15, s116_17, s116_20, s116_23, s116_24, s116_25, s116_26, s116_27, s116_28, s116_29, s116_30, s116_33, s116_34, s116_35, s116_36, s116_37, s116_38, s116_41, s116_42, s116_45, s116_46, s116_47, s116_48, s116_49, s116_50, s116_51, s116_54, s116_57, s116_59, s116_60, s116_61, s116_62, s116_63, s116_64, s116_67, s116_68, s116_69, s116_70, s116_73, s116_74, s116_75, s116_76, s116_77, s116_78, s116_81, s116_82, s116_83, s116_84, s116_85, s116_86, s116_89, s116_90, s116_91, s116_92, s116_93, s116_96, s116_97, s116_100, s116_101, s116_102, s116_103, s116_104, s116_105, s116_106, s116_107, s116_108, s116_109, s116_112, s116_113, s116_114, s116_115, s116_116, mI0 H, mP0 H, mI3 H, mP3 H, mI4 H, mP4 H, mI5 H, mP5 H, mI6 H, mP6 H, mI7 H, mP7 H, mI8 H, mP8 H, mI9 H, mP9 H, mI10 H, mP10 H, mI11 H, mP11 H, mI12 H, mP12 H, mI13 H, mP13 H, mI14 H, mP14 H, mI23 H, mP23 H, mI24 H, mP24 H, mI25 H, mP25 H, mI26 H, mP26 H, mI27 H, mP27 H, mI30 H, mP30 H, mI31 H, mP31 H, mI1 H, mP1 H, mR2 H, mR15 H, mR16 H, mR17 H, mR18 H, mR19 H, mR20 H, mR21 H, mR22 H, mR28 H, mR29 H, mA0 H, mS0 H, mA1 H, mS1 H, mA2 H, mS2 H, mA3 H, mS3 H, mA4 H, mS4 H, mA5 H, mS5 H, mA6 H, mS6 H, mA7 H, mS7 H, mA8 H, mS8 H, mA9 H, mS9 H, mA10 H, mS10 H, mw_cl H, fu_s, fu_n, ua_s, ua_n, Nat.reduceBEq, lt57, lt58, lt59, lt60, lt61, lt62, lt63, lt64, lt65, lt66, lt67, lt68, pk_mul, nI_add, in_nI (show 4 * j < 134 by omega) (show 134 < 2 ^ 31 by omega), cl_nI (show 4 * j < 2 ^ 31 by omega), in_nI (show 4 * j + 1 < 134 by omega) (show 134 < 2 ^ 31 by omega), cl_nI (show 4 * j + 1 < 2 ^ 31 by omega), in_nI (show 4 * j + 2 < 134 by omega) (show 134 < 2 ^ 31 by omega), cl_nI (show 4 * j + 2 < 2 ^ 31 by omega), in_nI (show 4 * j + 3 < 134 by omega) (show 134 < 2 ^ 31 by omega), cl_nI (show 4 * j + 3 < 2 ^ 31 by omega), d0, d1, d3, d4, nI_eqN (show s.2.2.1.2.1.2 (j * 5 + 4) < 2 ^ 31 by omega) (show 1 < 2 ^ 31 by omega), nI_ltN (show 999 < 2 ^ 31 by omega) (show s.2.2.1.2.1.2 (j * 5 + 1) + k < 2 ^ 31 by omega)]
      by_cases h1 : s.2.2.1.2.1.2 (j * 5 + 4) = 1
      · simp only [h1, true_or, if_true] at hQ ⊢
        exact hQ _ _ (R.th _)
      · by_cases h9 : 999 < s.2.2.1.2.1.2 (j * 5 + 1) + k
        · simp only [h1, h9, or_true, if_true, if_false] at hQ ⊢
          exact hQ _ _ (R.th _)
        · simp only [h1, h9, or_self, if_false] at hQ ⊢
          have h2 := nts_R (so := 1) (r := j) (O := s.2.2.1.2.1.2) (v0 := nI 1) (v1 := nI j) (v2 := nI (s.2.2.1.2.1.2 (j * 5))) (v3 := nI (s.2.2.1.2.1.2 (j * 5 + 1))) (v4 := nI (s.2.2.1.2.1.2 (j * 5 + 3))) (v5 := nI (s.2.2.1.2.1.2 (j * 5 + 4))) R.nw hD hP h8 ⟨fun _ => ⟨rfl, rfl, rfl, rfl, rfl, rfl⟩, fun q => absurd q (by decide)⟩
          simp only [m_notes H hD R.nw.2.2.1]
          generalize nts (A 5) s.2.2.1.2.2.1.1 (nI 1) (nI j) (nI (s.2.2.1.2.1.2 (j * 5))) (nI (s.2.2.1.2.1.2 (j * 5 + 1))) (nI (s.2.2.1.2.1.2 (j * 5 + 3))) (nI (s.2.2.1.2.1.2 (j * 5 + 4))) = f2 at h2
          have e1 : f2 (4 * j + 1) = nI (s.2.2.1.2.1.2 (j * 5 + 1)) := (h2.1 j hj).2.1
          simp only [OpV_some, OpN_some, OpA_some, OpR_some, Option.toList_some, Option.toList_none, List.cons_append, List.nil_append, true_and, and_true, nI11, or_true, true_or, or_false, false_or, mI0 H, mP0 H, mI3 H, mP3 H, mI4 H, mP4 H, mI5 H, mP5 H, mI6 H, mP6 H, mI7 H, mP7 H, mI8 H, mP8 H, mI9 H, mP9 H, mI10 H, mP10 H, mI11 H, mP11 H, mI12 H, mP12 H, mI13 H, mP13 H, mI14 H, mP14 H, mI23 H, mP23 H, mI24 H, mP24 H, mI25 H, mP25 H, mI26 H, mP26 H, mI27 H, mP27 H, mI30 H, mP30 H, mI31 H, mP31 H, mI1 H, mP1 H, mR2 H, mR15 H, mR16 H, mR17 H, mR18 H, mR19 H, mR20 H, mR21 H, mR22 H, mR28 H, mR29 H, mA0 H, mS0 H, mA1 H, mS1 H, mA2 H, mS2 H, mA3 H, mS3 H, mA4 H, mS4 H, mA5 H, mS5 H, mA6 H, mS6 H, mA7 H, mS7 H, mA8 H, mS8 H, mA9 H, mS9 H, mA10 H, mS10 H, mw_cl H, fu_s, fu_n, ua_s, ua_n, Nat.reduceBEq, lt57, lt58, lt59, lt60, lt61, lt62, lt63, lt64, lt65, lt66, lt67, lt68, ua_ua, s116_0, s116_1, s116_2, s116_5, s116_6, s116_7, s116_10, s116_13, s116_14, s116_15, s116_17, s116_20, s116_23, s116_24, s116_25, s116_26, s116_27, s116_28, s116_29, s116_30, s116_33, s116_34, s116_35, s116_36, s116_37, s116_38, s116_41, s116_42, s116_45, s116_46, s116_47, s116_48, s116_49, s116_50, s116_51, s116_54, s116_57, s116_59, s116_60, s116_61, s116_62, s116_63, s116_64, s116_67, s116_68, s116_69, s116_70, s116_73, s116_74, s116_75, s116_76, s116_77, s116_78, s116_81, s116_82, s116_83, s116_84, s116_85, s116_86, s116_89, s116_90, s116_91, s116_92, s116_93, s116_96, s116_97, s116_100, s116_101, s116_102, s116_103, s116_104, s116_105, s116_106, s116_107, s116_108, s116_109, s116_112, s116_113, s116_114, s116_115, s116_116, nI_add, in_nI (show 4 * j + 1 < 134 by omega) (show 134 < 2 ^ 31 by omega), cl_nI (show 4 * j + 1 < 2 ^ 31 by omega), e1, upd_s]
          have h3 := h2.setP hP (r := j) (c := 1) (c' := 1) (v := s.2.2.1.2.1.2 (j * 5 + 1) + k) hj (by decide)
          exact hQ _ _ ((R.th _).onNow h3 rfl rfl (fun k hk => ⟨rfl, rfl, rfl⟩) (fun r hr => upN_n _ _ (by omega)))
    · simp only [hx, hy, and_false, if_false] at hQ
      simp only [hx, hy, and_self, not_true, not_false_eq_true, if_false, if_true]
      exact hQ _ _ (R.th _)
  · simp only [hx, false_and, if_false] at hQ
    simp only [hx, not_false_eq_true, if_true]
    exact hQ _ _ (R.th _)
end MAPIB
