/-! type by the reference -/
theorem by_bits (x : BitVec 64) {m : Nat} (hm : m ≤ 56) : ((x.sshiftRight m) &&& 255#64).signExtend 32 = ((x >>> m).signExtend 32) &&& 255#32 := by
  apply BitVec.eq_of_getLsbD_eq
  intro i hi
  rw [BitVec.getLsbD_signExtend, BitVec.getLsbD_and, BitVec.getLsbD_and, BitVec.getLsbD_signExtend, BitVec.getLsbD_sshiftRight, BitVec.getLsbD_ushiftRight]
  have c1 : ∀ i, i < 32 → (255#64).getLsbD i = decide (i < 8) := by decide
  have c2 : ∀ i, i < 32 → (255#32).getLsbD i = decide (i < 8) := by decide
  rw [c1 i hi, c2 i hi]
  by_cases q : i < 8
  · rw [if_pos (show i < 64 by omega), if_pos (show i < 64 by omega), if_pos (show m + i < 64 by omega)]
    simp [q, hi, show ¬ 64 ≤ i by omega]
  · rw [if_pos (show i < 64 by omega)]
    simp [q]
theorem by_eq (v : Int64) {k : Nat} (hk : k < 8) : ((v >>> ((nI 8 * nI k).toInt64 &&& 63)) &&& 255).toInt32 = nI (byN v k) := by
  unfold byN
  rw [nI_bits]
  apply Int32.toBitVec_inj.mp
  have h1 : ∀ k, k < 8 → ((((nI 8 * nI k).toInt64 &&& 63).toBitVec).smod 64#64).toNat = 8 * k := by decide
  have h2 : ∀ k, k < 8 → (((nI 8 * nI k).toInt64.toUInt64 &&& Int64.toUInt64 63).toBitVec % 64#64).toNat = 8 * k := by decide
  show ((v.toBitVec.sshiftRight ((((nI 8 * nI k).toInt64 &&& 63).toBitVec).smod 64#64).toNat) &&& 255#64).signExtend 32 = ((v.toBitVec >>> (((nI 8 * nI k).toInt64.toUInt64 &&& Int64.toUInt64 63).toBitVec % 64#64).toNat).signExtend 32) &&& 255#32
  rw [h1 k hk, h2 k hk]
  exact by_bits _ (by omega)
theorem tyL_at (v : Int64) : ∀ (n l : Nat) (f : Nat → Nat) (j : Nat), tyL v n l f j = if l ≤ j ∧ j < l + n then byN v (n - 1 - (j - l)) else f j
  | 0, l, f, j => by unfold tyL; rw [if_neg (by omega)]
  | n + 1, l, f, j => by
    unfold tyL
    rw [tyL_at v n (l + 1)]
    by_cases h : l + 1 ≤ j ∧ j < l + 1 + n
    · rw [if_pos h, if_pos (by omega)]
      congr 1
      omega
    · rw [if_neg h]
      unfold upN
      by_cases h2 : j = l
      · subst h2
        rw [if_pos rfl, if_pos (by omega)]
        congr 1
        omega
      · rw [if_neg h2, if_neg (by omega)]
section MTYPE
variable {X : am_X} {d : Nat} {Q : am_Q} {u : am_W} {tr : Int64} {s : CSt}
theorem m_type_loop (H : 69 ≤ u.length) {v : Int64} {l3 : Int32} : ∀ (n : Nat) (s : CSt) (a : Nat → Int32) (A : Nat → Nat → Int32) (l4 : Int32), l4 = nI n - nI 1 → n ≤ 8 → s.1.1 + n ≤ 300 → Rel tr a A s → (∀ a' A', Rel tr a' A' (st_tx s (s.1.1 + n) (tyL v n s.1.1 s.1.2)) → Q (some (.int (nI (s.1.1 + n)))) (mw u tr a' A')) →
    Wp X (Cl X d) 87 Q (37, [some (.ref 57), some (.long v), some (.retAddr 0), some (.int l3), some (.int l4)], [], mw u tr a A, 0, 0)
  | 0, s, a, A, l4, e, h8, h3, R, hQ => by
    have h0 : (l4 < 0) = True := by rw [e]; exact eq_true (by decide)
    rw [s87_37]
    simp only [s87_0, s87_1, s87_2, s87_5, s87_6, s87_7, s87_9, s87_12, s87_15, s87_16, s87_17, s87_18, s87_21, s87_22, s87_23, s87_26, s87_29, s87_31, s87_32, s87_33, s87_34, s87_35, s87_39, s87_42, s87_43, s87_46, s87_47, s87_50, s87_51, s87_53, s87_55, s87_56, s87_57, s87_60, s87_61, s87_62, s87_63, s87_64, s87_65, s87_68, s87_69, s87_70, s87_73, s87_76, s87_79, s87_80, s87_83, OpV_some, OpN_some, OpA_some, OpR_some, Option.toList_some, Option.toList_none, List.cons_append, List.nil_append, true_and, and_true, nI11, or_true, true_or, or_false, false_or, mI0 H, mP0 H, mI3 H, mP3 H, mI4 H, mP4 H, mI5 H, mP5 H, mI6 H, mP6 H, mI7 H, mP7 H, mI8 H, mP8 H, mI9 H, mP9 H, mI10 H, mP10 H, mI11 H, mP11 H, mI12 H, mP12 H, mI13 H, mP13 H, mI14 H, mP14 H, mI23 H, mP23 H, mI24 H, mP24 H, mI25 H, mP25 H, mI26 H, mP26 H, mI27 H, mP27 H, mI30 H, mP30 H, mI31 H, mP31 H, mI1 H, mP1 H, mR2 H, mR15 H, mR16 H, mR17 H, mR18 H, mR19 H, mR20 H, mR21 H, mR22 H, mR28 H, mR29 H, mA0 H, mS0 H, mA1 H, mS1 H, mA2 H, mS2 H, mA3 H, mS3 H, mA4 H, mS4 H, mA5 H, mS5 H, mA6 H, mS6 H, mA7 H, mS7 H, mA8 H, mS8 H, mA9 H, mS9 H, mA10 H, mS10 H, mw_cl H, fu_s, fu_n, ua_s, ua_n, Nat.reduceBEq, lt57, lt58, lt59, lt60, lt61, lt62, lt63, lt64, lt65, lt66, lt67, lt68, h0, if_true, R.ty]
    exact hQ _ _ R
  | n + 1, s, a, A, l4, e, h8, h3, R, hQ => by
    have e4 : l4 = nI n := by rw [e, nI_subN (by omega)]; rfl
    subst e4
    rw [s87_37]
    simp only [s87_0, s87_1, s87_2, s87_5, s87_6, s87_7, s87_9, s87_12, s87_15, s87_16, s87_17, s87_18, s87_21, s87_22, s87_23, s87_26, s87_29, s87_31, s87_32, s87_33, s87_34, s87_35, s87_39, s87_42, s87_43, s87_46, s87_47, s87_50, s87_51, s87_53, s87_55, s87_56, s87_57, s87_60, s87_61, s87_62, s87_63, s87_64, s87_65, s87_68, s87_69, s87_70, s87_73, s87_76, s87_79, s87_80, s87_83, OpV_some, OpN_some, OpA_some, OpR_some, Option.toList_some, Option.toList_none, List.cons_append, List.nil_append, true_and, and_true, nI11, or_true, true_or, or_false, false_or, mI0 H, mP0 H, mI3 H, mP3 H, mI4 H, mP4 H, mI5 H, mP5 H, mI6 H, mP6 H, mI7 H, mP7 H, mI8 H, mP8 H, mI9 H, mP9 H, mI10 H, mP10 H, mI11 H, mP11 H, mI12 H, mP12 H, mI13 H, mP13 H, mI14 H, mP14 H, mI23 H, mP23 H, mI24 H, mP24 H, mI25 H, mP25 H, mI26 H, mP26 H, mI27 H, mP27 H, mI30 H, mP30 H, mI31 H, mP31 H, mI1 H, mP1 H, mR2 H, mR15 H, mR16 H, mR17 H, mR18 H, mR19 H, mR20 H, mR21 H, mR22 H, mR28 H, mR29 H, mA0 H, mS0 H, mA1 H, mS1 H, mA2 H, mS2 H, mA3 H, mS3 H, mA4 H, mS4 H, mA5 H, mS5 H, mA6 H, mS6 H, mA7 H, mS7 H, mA8 H, mS8 H, mA9 H, mS9 H, mA10 H, mS10 H, mw_cl H, fu_s, fu_n, ua_s, ua_n, Nat.reduceBEq, lt57, lt58, lt59, lt60, lt61, lt62, lt63, lt64, lt65, lt66, lt67, lt68, nI_lt0 (show n < 2 ^ 31 by omega), if_false, R.ty, in_nI (show s.1.1 < 300 by omega) (show 300 < 2 ^ 31 by omega), cl_nI (show s.1.1 < 2 ^ 31 by omega), by_eq v (show n < 8 by omega), nI_add]
    have R2 : Rel tr (fu a 3 (nI (s.1.1 + 1))) (ua A 0 (upd (A 0) s.1.1 (nI (byN v n)))) (st_tx s (s.1.1 + 1) (upN s.1.2 s.1.1 (byN v n))) := by
      obtain ⟨r0, r1, r2, r3, r4, r5, r6, r7⟩ := R
      refine ⟨r0, ⟨rfl, fun i hi => ?_⟩, r2, r3, r4, r5, r6, r7⟩
      have hi2 : i < s.1.1 + 1 := hi
      show upd (A 0) s.1.1 (nI (byN v n)) i = nI (upN s.1.2 s.1.1 (byN v n) i)
      by_cases q : i = s.1.1
      · rw [q, upd_s, upN_s]
      · rw [upd_n _ _ q, upN_n _ _ q]
        exact r1.2 i (by omega)
    refine m_type_loop H n _ _ _ _ (show nI n + (-1) = nI n - nI 1 by rw [Int32.sub_eq_add_neg]; rfl) (by omega) (by show s.1.1 + 1 + n ≤ 300; omega) R2 fun a' A' R' => ?_
    have e2 : s.1.1 + 1 + n = s.1.1 + (n + 1) := by omega
    have R3 : Rel tr a' A' (st_tx s (s.1.1 + 1 + n) (tyL v (n + 1) s.1.1 s.1.2)) := R'
    rw [e2] at R3
    show Q (some (.int (nI (s.1.1 + 1 + n)))) _
    rw [e2]
    exact hQ _ _ R3
theorem m_type (H : 69 ≤ u.length) {a : Nat → Int32} {A : Nat → Nat → Int32} (R : Rel tr a A s) (V : Valid s) (v : Int64) (n : Int32) (hQ : ∀ a' A', Rel tr a' A' (sp_type s v n).2 → Q (some (.int (sp_type s v n).1)) (mw u tr a' A')) : Cl X (d + 2) 87 [.ref 57, .long v, .int n] (mw u tr a A) Q := by
  have h3 := V.1
  rw [e87]
  unfold sp_type at hQ
  simp only [s87_0, s87_1, s87_2, s87_5, s87_6, s87_7, s87_9, s87_12, s87_15, s87_16, OpV_some, OpN_some, OpA_some, OpR_some, Option.toList_some, Option.toList_none, List.cons_append, List.nil_append, true_and, and_true, nI11, or_true, true_or, or_false, false_or, mI0 H, mP0 H, mI3 H, mP3 H, mI4 H, mP4 H, mI5 H, mP5 H, mI6 H, mP6 H, mI7 H, mP7 H, mI8 H, mP8 H, mI9 H, mP9 H, mI10 H, mP10 H, mI11 H, mP11 H, mI12 H, mP12 H, mI13 H, mP13 H, mI14 H, mP14 H, mI23 H, mP23 H, mI24 H, mP24 H, mI25 H, mP25 H, mI26 H, mP26 H, mI27 H, mP27 H, mI30 H, mP30 H, mI31 H, mP31 H, mI1 H, mP1 H, mR2 H, mR15 H, mR16 H, mR17 H, mR18 H, mR19 H, mR20 H, mR21 H, mR22 H, mR28 H, mR29 H, mA0 H, mS0 H, mA1 H, mS1 H, mA2 H, mS2 H, mA3 H, mS3 H, mA4 H, mS4 H, mA5 H, mS5 H, mA6 H, mS6 H, mA7 H, mS7 H, mA8 H, mS8 H, mA9 H, mS9 H, mA10 H, mS10 H, mw_cl H, fu_s, fu_n, ua_s, ua_n, Nat.reduceBEq, lt57, lt58, lt59, lt60, lt61, lt62, lt63, lt64, lt65, lt66, lt67, lt68, m_in, nI_ite]
  by_cases hn : nI 1 ≤ n ∧ n ≤ nI 8
  · obtain ⟨k, k1, k8, rfl⟩ : ∃ k, 1 ≤ k ∧ k ≤ 8 ∧ n = nI k := by
      have h1 := hn.1
      have h2 := hn.2
      rw [Int32.le_iff_toInt_le] at h1 h2
      have e1 : (nI 1).toInt = 1 := by decide
      have e8 : (nI 8).toInt = 8 := by decide
      rw [e1] at h1
      rw [e8] at h2
      refine ⟨n.toInt.toNat, by omega, by omega, toInt_inj' ?_⟩
      rw [nI_toInt (by omega)]
      omega
    simp only [hn, and_self, if_true, cl_of (show k < 2 ^ 31 by omega)] at hQ
    simp only [hn, and_self, not_true, if_false, if_true, s87_0, s87_1, s87_2, s87_5, s87_6, s87_7, s87_9, s87_12, s87_15, s87_16, s87_17, s87_18, s87_21, s87_22, s87_23, s87_26, s87_29, s87_31, s87_32, s87_33, s87_34, s87_35, s87_39, s87_42, s87_43, s87_46, s87_47, s87_50, s87_51, s87_53, s87_55, s87_56, s87_57, s87_60, s87_61, s87_62, s87_63, s87_64, s87_65, s87_68, s87_69, s87_70, s87_73, s87_76, s87_79, s87_80, s87_83, OpV_some, OpN_some, OpA_some, OpR_some, Option.toList_some, Option.toList_none, List.cons_append, List.nil_append, true_and, and_true, nI11, or_true, true_or, or_false, false_or, mI0 H, mP0 H, mI3 H, mP3 H, mI4 H, mP4 H, mI5 H, mP5 H, mI6 H, mP6 H, mI7 H, mP7 H, mI8 H, mP8 H, mI9 H, mP9 H, mI10 H, mP10 H, mI11 H, mP11 H, mI12 H, mP12 H, mI13 H, mP13 H, mI14 H, mP14 H, mI23 H, mP23 H, mI24 H, mP24 H, mI25 H, mP25 H, mI26 H, mP26 H, mI27 H, mP27 H, mI30 H, mP30 H, mI31 H, mP31 H, mI1 H, mP1 H, mR2 H, mR15 H, mR16 H, mR17 H, mR18 H, mR19 H, mR20 H, mR21 H, mR22 H, mR28 H, mR29 H, mA0 H, mS0 H, mA1 H, mS1 H, mA2 H, mS2 H, mA3 H, mS3 H, mA4 H, mS4 H, mA5 H, mS5 H, mA6 H, mS6 H, mA7 H, mS7 H, mA8 H, mS8 H, mA9 H, mS9 H, mA10 H, mS10 H, mw_cl H, fu_s, fu_n, ua_s, ua_n, Nat.reduceBEq, lt57, lt58, lt59, lt60, lt61, lt62, lt63, lt64, lt65, lt66, lt67, lt68, R.ty, nI_add, nI_ltN (show 300 < 2 ^ 31 by omega) (show s.1.1 + k < 2 ^ 31 by omega)]
    by_cases h9 : 300 < s.1.1 + k
    · simp only [h9, if_true] at hQ ⊢
      exact hQ _ _ (R.th _)
    · simp only [h9, if_false] at hQ ⊢
      exact m_type_loop H k s _ _ _ rfl k8 (by omega) (R.th _) hQ
  · simp only [hn, if_false] at hQ
    simp only [hn, not_false_eq_true, if_true]
    exact hQ _ _ (R.th _)
end MTYPE
