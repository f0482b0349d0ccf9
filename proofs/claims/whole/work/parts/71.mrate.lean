/-! rate, meets, type by the reference -/
/-- a sum -/
def sm (f : Nat → Nat) : Nat → Nat
  | 0 => 0
  | n + 1 => sm f n + f n
theorem sm_cg {f g : Nat → Nat} : ∀ (n : Nat), (∀ i, i < n → f i = g i) → sm f n = sm g n
  | 0, _ => rfl
  | n + 1, h => by
    unfold sm
    rw [sm_cg n (fun i hi => h i (by omega)), h n (by omega)]
theorem sm_add (f g : Nat → Nat) : ∀ n, sm (fun i => f i + g i) n = sm f n + sm g n
  | 0 => rfl
  | n + 1 => by
    unfold sm
    rw [sm_add f g n]
    omega
theorem sm_head (f : Nat → Nat) : ∀ n, sm f (n + 1) = f 0 + sm (fun i => f (i + 1)) n
  | 0 => by unfold sm sm; omega
  | n + 1 => by
    have := sm_head f n
    unfold sm at this ⊢
    unfold sm
    omega
theorem sm_0 : ∀ n, sm (fun _ => 0) n = 0
  | 0 => rfl
  | n + 1 => by unfold sm; rw [sm_0 n]
theorem mtJ_sm (M : Nat → Nat) (i : Nat) : ∀ (n j a : Nat), mtJ M i n j a = a + sm (fun t => if mtB M i (j + t) = true then 1 else 0) n
  | 0, j, a => rfl
  | n + 1, j, a => by
    unfold mtJ
    rw [mtJ_sm M i n (j + 1), sm_head]
    simp only [Nat.add_zero]
    have e : sm (fun t => if mtB M i (j + 1 + t) = true then 1 else 0) n = sm (fun t => if mtB M i (j + (t + 1)) = true then 1 else 0) n := sm_cg n fun t _ => by rw [show j + 1 + t = j + (t + 1) by omega]
    rw [e]
    split <;> omega
theorem mtI_sm (M : Nat → Nat) (nM : Nat) : ∀ (n i a : Nat), mtI M nM n i a = a + sm (fun t => sm (fun q => if mtB M (i + t) (i + t + 1 + q) = true then 1 else 0) (nM - (i + t + 1))) n
  | 0, i, a => rfl
  | n + 1, i, a => by
    unfold mtI
    rw [mtI_sm M nM n (i + 1), sm_head, mtJ_sm]
    simp only [Nat.add_zero]
    have e : sm (fun t => sm (fun q => if mtB M (i + 1 + t) (i + 1 + t + 1 + q) = true then 1 else 0) (nM - (i + 1 + t + 1))) n = sm (fun t => sm (fun q => if mtB M (i + (t + 1)) (i + (t + 1) + 1 + q) = true then 1 else 0) (nM - (i + (t + 1) + 1))) n := sm_cg n fun t _ => by rw [show i + 1 + t = i + (t + 1) by omega]
    rw [e]
    omega
theorem tri (c : Nat → Nat → Nat) : ∀ n, sm (fun i => sm (fun q => c i (i + 1 + q)) (n - (i + 1))) n = sm (fun j => sm (fun i => c i j) j) n
  | 0 => rfl
  | n + 1 => by
    have ih := tri c n
    have e : sm (fun i => sm (fun q => c i (i + 1 + q)) (n + 1 - (i + 1))) (n + 1) = sm (fun i => sm (fun q => c i (i + 1 + q)) (n - (i + 1)) + c i n) n := by
      conv => lhs; unfold sm
      have e0 : sm (fun q => c n (n + 1 + q)) (n + 1 - (n + 1)) = 0 := by rw [Nat.sub_self]; rfl
      simp only [e0, Nat.add_zero]
      refine sm_cg n fun i hi => ?_
      obtain ⟨m, hm⟩ : ∃ m, n - (i + 1) = m ∧ n + 1 - (i + 1) = m + 1 := ⟨n - (i + 1), rfl, by omega⟩
      rw [hm.1, hm.2]
      conv => lhs; unfold sm
      rw [show i + 1 + m = n by omega]
    rw [e, sm_add, ih]
    rfl
/-- the reference's count of meetings -/
def mkE (M : Nat → Nat) (k : Nat) : Nat → Nat → Nat → Nat
  | 0, _, a => a
  | n + 1, e, a => mkE M k n (e + 1) (a + (if mtB M e k = true then 1 else 0))
def mkK (M : Nat → Nat) : Nat → Nat → Nat → Nat
  | 0, _, a => a
  | n + 1, k, a => mkK M n (k + 1) (mkE M k k 0 a)
theorem mkE_sm (M : Nat → Nat) (k : Nat) : ∀ (n e a : Nat), mkE M k n e a = a + sm (fun t => if mtB M (e + t) k = true then 1 else 0) n
  | 0, e, a => rfl
  | n + 1, e, a => by
    unfold mkE
    rw [mkE_sm M k n (e + 1), sm_head]
    simp only [Nat.add_zero]
    have e : sm (fun t => if mtB M (e + 1 + t) k = true then 1 else 0) n = sm (fun t => if mtB M (e + (t + 1)) k = true then 1 else 0) n := sm_cg n fun t _ => by rw [show e + 1 + t = e + (t + 1) by omega]
    rw [e]
    omega
theorem mkK_sm (M : Nat → Nat) : ∀ (n k a : Nat), mkK M n k a = a + sm (fun t => sm (fun e => if mtB M e (k + t) = true then 1 else 0) (k + t)) n
  | 0, k, a => rfl
  | n + 1, k, a => by
    unfold mkK
    rw [mkK_sm M n (k + 1), sm_head, mkE_sm]
    simp only [Nat.add_zero]
    have e : sm (fun t => sm (fun e => if mtB M e (k + 1 + t) = true then 1 else 0) (k + 1 + t)) n = sm (fun t => sm (fun e => if mtB M e (k + (t + 1)) = true then 1 else 0) (k + (t + 1))) n := sm_cg n fun t _ => by rw [show k + 1 + t = k + (t + 1) by omega]
    have e2 : sm (fun t => if mtB M (0 + t) k = true then 1 else 0) k = sm (fun e => if mtB M e k = true then 1 else 0) k := sm_cg k fun t _ => by rw [Nat.zero_add]
    rw [e, e2]
    omega
theorem mkK_mtI (M : Nat → Nat) (n : Nat) : mkK M n 0 0 = mtI M n n 0 0 := by
  rw [mkK_sm, mtI_sm]
  congr 1
  have e1 : sm (fun t => sm (fun e => if mtB M e (0 + t) = true then 1 else 0) (0 + t)) n = sm (fun j => sm (fun i => if mtB M i j = true then 1 else 0) j) n := sm_cg n fun t _ => by rw [Nat.zero_add]
  have e2 : sm (fun t => sm (fun q => if mtB M (0 + t) (0 + t + 1 + q) = true then 1 else 0) (n - (0 + t + 1))) n = sm (fun i => sm (fun q => if mtB M i (i + 1 + q) = true then 1 else 0) (n - (i + 1))) n := sm_cg n fun t _ => by rw [Nat.zero_add]
  rw [e1, e2, tri (fun i j => if mtB M i j = true then 1 else 0)]
section MRATE
variable {X : am_X} {d : Nat} {Q : am_Q} {u : am_W} {tr : Int64} {a : Nat → Int32} {A : Nat → Nat → Int32} {s : CSt} {n : NSt}
theorem m_meets_e (H : 69 ≤ u.length) (h : NowR (A 5) n) (hM : n.2.2.2.1 ≤ 10) (hv : ∀ t, t < n.2.2.2.1 * 4 → n.2.2.2.2 t ≤ 999) {k : Nat} (hk : k < n.2.2.2.1) (l4 l5 : Option Value) : ∀ (m e c : Nat) (l4 l5 : Option Value), e + m = k → ∃ l4' l5', Wp X (Cl X d) 120 Q (22, [some (.ref 57), some (.int (nI c)), some (.int (nI k)), some (.int (nI e)), l4, l5], [], mw u tr a A, 0, 0) = Wp X (Cl X d) 120 Q (137, [some (.ref 57), some (.int (nI (mkE n.2.2.2.2 k m e c))), some (.int (nI k)), some (.int (nI k)), l4', l5'], [], mw u tr a A, 0, 0)
  | 0, e, c, l4, l5, he => by
    refine ⟨l4, l5, ?_⟩
    rw [s120_22]
    simp only [s120_23, s120_24, OpV_some, OpN_some, OpA_some, OpR_some, Option.toList_some, Option.toList_none, List.cons_append, List.nil_append, true_and, and_true, nI11, or_true, true_or, or_false, false_or, nI_ltN (show e < 2 ^ 31 by omega) (show k < 2 ^ 31 by omega), show ¬ e < k by omega, if_false, mkE]
    rw [show e = k by omega]
  | m + 1, e, c, l4, l5, he => by
    obtain ⟨l4', l5', ih⟩ := m_meets_e H h hM hv hk l4 l5 m (e + 1) (c + (if mtB n.2.2.2.2 e k = true then 1 else 0)) (some (.int (nI (94 + 4 * k)))) (some (.int (nI (94 + 4 * e)))) (by omega)
    refine ⟨l4', l5', ?_⟩
    have h6 := h.2.2.2.2.2
    have a0 : A 5 (94 + 4 * k) = nI (n.2.2.2.2 (k * 4)) := by rw [show 94 + 4 * k = 94 + k * 4 by omega]; exact h6 _ (by omega)
    have a1 : A 5 (94 + 4 * k + 1) = nI (n.2.2.2.2 (k * 4 + 1)) := by rw [show 94 + 4 * k + 1 = 94 + (k * 4 + 1) by omega]; exact h6 _ (by omega)
    have a2 : A 5 (94 + 4 * k + 2) = nI (n.2.2.2.2 (k * 4 + 2)) := by rw [show 94 + 4 * k + 2 = 94 + (k * 4 + 2) by omega]; exact h6 _ (by omega)
    have a3 : A 5 (94 + 4 * k + 3) = nI (n.2.2.2.2 (k * 4 + 3)) := by rw [show 94 + 4 * k + 3 = 94 + (k * 4 + 3) by omega]; exact h6 _ (by omega)
    have b0 : A 5 (94 + 4 * e) = nI (n.2.2.2.2 (e * 4)) := by rw [show 94 + 4 * e = 94 + e * 4 by omega]; exact h6 _ (by omega)
    have b1 : A 5 (94 + 4 * e + 1) = nI (n.2.2.2.2 (e * 4 + 1)) := by rw [show 94 + 4 * e + 1 = 94 + (e * 4 + 1) by omega]; exact h6 _ (by omega)
    have b2 : A 5 (94 + 4 * e + 2) = nI (n.2.2.2.2 (e * 4 + 2)) := by rw [show 94 + 4 * e + 2 = 94 + (e * 4 + 2) by omega]; exact h6 _ (by omega)
    have b3 : A 5 (94 + 4 * e + 3) = nI (n.2.2.2.2 (e * 4 + 3)) := by rw [show 94 + 4 * e + 3 = 94 + (e * 4 + 3) by omega]; exact h6 _ (by omega)
    have v0 := hv (k * 4) (by omega)
    have v1 := hv (k * 4 + 1) (by omega)
    have v2 := hv (k * 4 + 2) (by omega)
    have v3 := hv (k * 4 + 3) (by omega)
    have y0 := hv (e * 4) (by omega)
    have y1 := hv (e * 4 + 1) (by omega)
    have y2 := hv (e * 4 + 2) (by omega)
    have y3 := hv (e * 4 + 3) (by omega)
    rw [s120_22]
    unfold mkE
    rw [← ih]
    simp only [s120_23, s120_24, s120_27, s120_29, s120_30, s120_31, s120_32, s120_33, s120_35, s120_37, s120_38, s120_39, s120_40, s120_41, s120_43, s120_44, s120_45, s120_48, s120_50, s120_51, s120_52, s120_55, s120_57, s120_58, s120_61, s120_62, s120_65, s120_67, s120_68, s120_69, s120_70, s120_71, s120_74, s120_76, s120_77, s120_78, s120_79, s120_82, s120_83, s120_86, s120_88, s120_89, s120_90, s120_91, s120_92, s120_95, s120_97, s120_98, s120_99, s120_100, s120_103, s120_104, s120_107, s120_109, s120_110, s120_111, s120_112, s120_113, s120_116, s120_118, s120_119, s120_120, s120_121, s120_124, s120_125, s120_128, s120_129, s120_130, s120_131, s120_134, OpV_some, OpN_some, OpA_some, OpR_some, Option.toList_some, Option.toList_none, List.cons_append, List.nil_append, true_and, and_true, nI11, or_true, true_or, or_false, false_or, mI0 H, mP0 H, mI3 H, mP3 H, mI4 H, mP4 H, mI5 H, mP5 H, mI6 H, mP6 H, mI7 H, mP7 H, mI8 H, mP8 H, mI9 H, mP9 H, mI10 H, mP10 H, mI11 H, mP11 H, mI12 H, mP12 H, mI13 H, mP13 H, mI14 H, mP14 H, mI23 H, mP23 H, mI24 H, mP24 H, mI25 H, mP25 H, mI26 H, mP26 H, mI27 H, mP27 H, mI30 H, mP30 H, mI31 H, mP31 H, mI1 H, mP1 H, mR2 H, mR15 H, mR16 H, mR17 H, mR18 H, mR19 H, mR20 H, mR21 H, mR22 H, mR28 H, mR29 H, mA0 H, mS0 H, mA1 H, mS1 H, mA2 H, mS2 H, mA3 H, mS3 H, mA4 H, mS4 H, mA5 H, mS5 H, mA6 H, mS6 H, mA7 H, mS7 H, mA8 H, mS8 H, mA9 H, mS9 H, mA10 H, mS10 H, mw_cl H, fu_s, fu_n, ua_s, ua_n, Nat.reduceBEq, lt57, lt58, lt59, lt60, lt61, lt62, lt63, lt64, lt65, lt66, lt67, lt68, nI_ltN (show e < 2 ^ 31 by omega) (show k < 2 ^ 31 by omega), show e < k by omega, if_true, pk_mul, nI_add, in_nI (show 94 + 4 * k < 134 by omega) (show 134 < 2 ^ 31 by omega), cl_nI (show 94 + 4 * k < 2 ^ 31 by omega), in_nI (show 94 + 4 * k + 1 < 134 by omega) (show 134 < 2 ^ 31 by omega), cl_nI (show 94 + 4 * k + 1 < 2 ^ 31 by omega), in_nI (show 94 + 4 * k + 2 < 134 by omega) (show 134 < 2 ^ 31 by omega), cl_nI (show 94 + 4 * k + 2 < 2 ^ 31 by omega), in_nI (show 94 + 4 * k + 3 < 134 by omega) (show 134 < 2 ^ 31 by omega), cl_nI (show 94 + 4 * k + 3 < 2 ^ 31 by omega), in_nI (show 94 + 4 * e < 134 by omega) (show 134 < 2 ^ 31 by omega), cl_nI (show 94 + 4 * e < 2 ^ 31 by omega), in_nI (show 94 + 4 * e + 1 < 134 by omega) (show 134 < 2 ^ 31 by omega), cl_nI (show 94 + 4 * e + 1 < 2 ^ 31 by omega), in_nI (show 94 + 4 * e + 2 < 134 by omega) (show 134 < 2 ^ 31 by omega), cl_nI (show 94 + 4 * e + 2 < 2 ^ 31 by omega), in_nI (show 94 + 4 * e + 3 < 134 by omega) (show 134 < 2 ^ 31 by omega), cl_nI (show 94 + 4 * e + 3 < 2 ^ 31 by omega), a0, a1, a2, a3, b0, b1, b2, b3, nI_eqN (show n.2.2.2.2 (k * 4) < 2 ^ 31 by omega) (show n.2.2.2.2 (e * 4) < 2 ^ 31 by omega), nI_eqN (show n.2.2.2.2 (k * 4 + 1) < 2 ^ 31 by omega) (show n.2.2.2.2 (e * 4 + 1) < 2 ^ 31 by omega), nI_ltN (show n.2.2.2.2 (k * 4 + 2) < 2 ^ 31 by omega) (show n.2.2.2.2 (e * 4 + 3) < 2 ^ 31 by omega), nI_ltN (show n.2.2.2.2 (e * 4 + 2) < 2 ^ 31 by omega) (show n.2.2.2.2 (k * 4 + 3) < 2 ^ 31 by omega)]
    unfold mtB
    have s0 : (n.2.2.2.2 (e * 4) = n.2.2.2.2 (k * 4)) = (n.2.2.2.2 (k * 4) = n.2.2.2.2 (e * 4)) := propext ⟨Eq.symm, Eq.symm⟩
    have s1 : (n.2.2.2.2 (e * 4 + 1) = n.2.2.2.2 (k * 4 + 1)) = (n.2.2.2.2 (k * 4 + 1) = n.2.2.2.2 (e * 4 + 1)) := propext ⟨Eq.symm, Eq.symm⟩
    simp only [decide_eq_true_eq, ne_eq, s0, s1]
    rcases Classical.propComplete (n.2.2.2.2 (k * 4) = n.2.2.2.2 (e * 4)) with q0 | q0 <;> rcases Classical.propComplete (n.2.2.2.2 (k * 4 + 1) = n.2.2.2.2 (e * 4 + 1)) with q1 | q1 <;> rcases Classical.propComplete (n.2.2.2.2 (k * 4 + 2) < n.2.2.2.2 (e * 4 + 3)) with q2 | q2 <;> rcases Classical.propComplete (n.2.2.2.2 (e * 4 + 2) < n.2.2.2.2 (k * 4 + 3)) with q3 | q3 <;> simp only [q0, q1, q2, q3, not_true, not_false_eq_true, and_self, and_true, true_and, and_false, false_and, if_true, if_false, Nat.add_zero]
theorem m_meets_k (H : 69 ≤ u.length) (h : NowR (A 5) n) (hM : n.2.2.2.1 ≤ 10) (hv : ∀ t, t < n.2.2.2.1 * 4 → n.2.2.2.2 t ≤ 999) : ∀ (m k c : Nat) (l3 l4 l5 : Option Value), k + m = n.2.2.2.1 → Wp X (Cl X d) 120 Q (9, [some (.ref 57), some (.int (nI c)), some (.int (nI k)), l3, l4, l5], [], mw u tr a A, 0, 0) = Q (some (.int (nI (mkK n.2.2.2.2 m k c)))) (mw u tr a A)
  | 0, k, c, l3, l4, l5, e => by
    rw [s120_9]
    simp only [s120_10, s120_11, s120_14, s120_16, s120_17, s120_143, s120_144, OpV_some, OpN_some, OpA_some, OpR_some, Option.toList_some, Option.toList_none, List.cons_append, List.nil_append, true_and, and_true, nI11, or_true, true_or, or_false, false_or, mI0 H, mP0 H, mI3 H, mP3 H, mI4 H, mP4 H, mI5 H, mP5 H, mI6 H, mP6 H, mI7 H, mP7 H, mI8 H, mP8 H, mI9 H, mP9 H, mI10 H, mP10 H, mI11 H, mP11 H, mI12 H, mP12 H, mI13 H, mP13 H, mI14 H, mP14 H, mI23 H, mP23 H, mI24 H, mP24 H, mI25 H, mP25 H, mI26 H, mP26 H, mI27 H, mP27 H, mI30 H, mP30 H, mI31 H, mP31 H, mI1 H, mP1 H, mR2 H, mR15 H, mR16 H, mR17 H, mR18 H, mR19 H, mR20 H, mR21 H, mR22 H, mR28 H, mR29 H, mA0 H, mS0 H, mA1 H, mS1 H, mA2 H, mS2 H, mA3 H, mS3 H, mA4 H, mS4 H, mA5 H, mS5 H, mA6 H, mS6 H, mA7 H, mS7 H, mA8 H, mS8 H, mA9 H, mS9 H, mA10 H, mS10 H, mw_cl H, fu_s, fu_n, ua_s, ua_n, Nat.reduceBEq, lt57, lt58, lt59, lt60, lt61, lt62, lt63, lt64, lt65, lt66, lt67, lt68, in_nI (show 93 < 134 by omega) (show 134 < 2 ^ 31 by omega), cl_nI (show 93 < 2 ^ 31 by omega), h.2.2.2.2.1, nI_ltN (show k < 2 ^ 31 by omega) (show n.2.2.2.1 < 2 ^ 31 by omega), show ¬ k < n.2.2.2.1 by omega, if_false, mkK]
  | m + 1, k, c, l3, l4, l5, e => by
    obtain ⟨l4', l5', he⟩ := m_meets_e (X := X) (d := d) (Q := Q) (tr := tr) (a := a) H h hM hv (show k < n.2.2.2.1 by omega) none none k 0 c l4 l5 (by omega)
    have ih := fun c l3 l4 l5 => m_meets_k H h hM hv m (k + 1) c l3 l4 l5 (by omega)
    rw [s120_9]
    simp only [s120_10, s120_11, s120_14, s120_16, s120_17, s120_20, s120_21, OpV_some, OpN_some, OpA_some, OpR_some, Option.toList_some, Option.toList_none, List.cons_append, List.nil_append, true_and, and_true, nI11, or_true, true_or, or_false, false_or, mI0 H, mP0 H, mI3 H, mP3 H, mI4 H, mP4 H, mI5 H, mP5 H, mI6 H, mP6 H, mI7 H, mP7 H, mI8 H, mP8 H, mI9 H, mP9 H, mI10 H, mP10 H, mI11 H, mP11 H, mI12 H, mP12 H, mI13 H, mP13 H, mI14 H, mP14 H, mI23 H, mP23 H, mI24 H, mP24 H, mI25 H, mP25 H, mI26 H, mP26 H, mI27 H, mP27 H, mI30 H, mP30 H, mI31 H, mP31 H, mI1 H, mP1 H, mR2 H, mR15 H, mR16 H, mR17 H, mR18 H, mR19 H, mR20 H, mR21 H, mR22 H, mR28 H, mR29 H, mA0 H, mS0 H, mA1 H, mS1 H, mA2 H, mS2 H, mA3 H, mS3 H, mA4 H, mS4 H, mA5 H, mS5 H, mA6 H, mS6 H, mA7 H, mS7 H, mA8 H, mS8 H, mA9 H, mS9 H, mA10 H, mS10 H, mw_cl H, fu_s, fu_n, ua_s, ua_n, Nat.reduceBEq, lt57, lt58, lt59, lt60, lt61, lt62, lt63, lt64, lt65, lt66, lt67, lt68, in_nI (show 93 < 134 by omega) (show 134 < 2 ^ 31 by omega), cl_nI (show 93 < 2 ^ 31 by omega), h.2.2.2.2.1, nI_ltN (show k < 2 ^ 31 by omega) (show n.2.2.2.1 < 2 ^ 31 by omega), show k < n.2.2.2.1 by omega, if_true]
    rw [he]
    simp only [s120_137, s120_140, OpV_some, OpN_some, OpA_some, OpR_some, Option.toList_some, Option.toList_none, List.cons_append, List.nil_append, true_and, and_true, nI11, or_true, true_or, or_false, false_or, nI_add, mkK]
    exact ih _ _ _ _
theorem m_meets (H : 69 ≤ u.length) (R : Rel tr a A s) (V : Valid s) : Cl X (d + 1) 120 [.ref 57] (mw u tr a A) Q = Q (some (.int (sp_meets s))) (mw u tr (fu a 0 (nI 0)) A) := by
  rw [e120]
  simp only [s120_0, s120_1, s120_2, s120_5, s120_6, s120_7, s120_8, OpV_some, OpN_some, OpA_some, OpR_some, Option.toList_some, Option.toList_none, List.cons_append, List.nil_append, true_and, and_true, nI11, or_true, true_or, or_false, false_or, mI0 H, mP0 H, mI3 H, mP3 H, mI4 H, mP4 H, mI5 H, mP5 H, mI6 H, mP6 H, mI7 H, mP7 H, mI8 H, mP8 H, mI9 H, mP9 H, mI10 H, mP10 H, mI11 H, mP11 H, mI12 H, mP12 H, mI13 H, mP13 H, mI14 H, mP14 H, mI23 H, mP23 H, mI24 H, mP24 H, mI25 H, mP25 H, mI26 H, mP26 H, mI27 H, mP27 H, mI30 H, mP30 H, mI31 H, mP31 H, mI1 H, mP1 H, mR2 H, mR15 H, mR16 H, mR17 H, mR18 H, mR19 H, mR20 H, mR21 H, mR22 H, mR28 H, mR29 H, mA0 H, mS0 H, mA1 H, mS1 H, mA2 H, mS2 H, mA3 H, mS3 H, mA4 H, mS4 H, mA5 H, mS5 H, mA6 H, mS6 H, mA7 H, mS7 H, mA8 H, mS8 H, mA9 H, mS9 H, mA10 H, mS10 H, mw_cl H, fu_s, fu_n, ua_s, ua_n, Nat.reduceBEq, lt57, lt58, lt59, lt60, lt61, lt62, lt63, lt64, lt65, lt66, lt67, lt68]
  rw [m_meets_k H R.nw V.2.2.2.1.2.2.2.2.1 V.2.2.2.1.2.2.2.2.2 s.2.2.1.2.2.2.1 0 0 _ _ _ (by omega), mkK_mtI]
  rfl
theorem m_rate_loop (H : 69 ≤ u.length) (h : NowR (A 5) n) (hR : n.1.1 ≤ 8) (ha : a 10 = nI n.1.1) (l1 l2 l3 l4 l5 : Int32) : ∀ (m k : Nat) (c : Int32), k + m = n.1.1 → Wp X (Cl X d) 137 Q (70, [some (.ref 57), some (.int l1), some (.int l2), some (.int l3), some (.int l4), some (.int l5), some (.int c), some (.int (nI k))], [], mw u tr a A, 0, 0) = Wp X (Cl X d) 137 Q (100, [some (.ref 57), some (.int l1), some (.int l2), some (.int l3), some (.int l4), some (.int l5), some (.int (rs_go (nIf n.1.2) 5 4 m k c)), some (.int (nI n.1.1))], [], mw u tr a A, 0, 0)
  | 0, k, c, e => by
    rw [s137_70]
    simp only [s137_72, s137_73, s137_76, OpV_some, OpN_some, OpA_some, OpR_some, Option.toList_some, Option.toList_none, List.cons_append, List.nil_append, true_and, and_true, nI11, or_true, true_or, or_false, false_or, mI0 H, mP0 H, mI3 H, mP3 H, mI4 H, mP4 H, mI5 H, mP5 H, mI6 H, mP6 H, mI7 H, mP7 H, mI8 H, mP8 H, mI9 H, mP9 H, mI10 H, mP10 H, mI11 H, mP11 H, mI12 H, mP12 H, mI13 H, mP13 H, mI14 H, mP14 H, mI23 H, mP23 H, mI24 H, mP24 H, mI25 H, mP25 H, mI26 H, mP26 H, mI27 H, mP27 H, mI30 H, mP30 H, mI31 H, mP31 H, mI1 H, mP1 H, mR2 H, mR15 H, mR16 H, mR17 H, mR18 H, mR19 H, mR20 H, mR21 H, mR22 H, mR28 H, mR29 H, mA0 H, mS0 H, mA1 H, mS1 H, mA2 H, mS2 H, mA3 H, mS3 H, mA4 H, mS4 H, mA5 H, mS5 H, mA6 H, mS6 H, mA7 H, mS7 H, mA8 H, mS8 H, mA9 H, mS9 H, mA10 H, mS10 H, mw_cl H, fu_s, fu_n, ua_s, ua_n, Nat.reduceBEq, lt57, lt58, lt59, lt60, lt61, lt62, lt63, lt64, lt65, lt66, lt67, lt68, ha, nI_ltN (show k < 2 ^ 31 by omega) (show n.1.1 < 2 ^ 31 by omega), show ¬ k < n.1.1 by omega, if_false, rs_go]
    rw [show k = n.1.1 by omega]
  | m + 1, k, c, e => by
    have ih := fun c => m_rate_loop H h hR ha l1 l2 l3 l4 l5 m (k + 1) c (by omega)
    have h4 := (h.2.1 k (by omega)).2
    rw [s137_70]
    simp only [s137_72, s137_73, s137_76, s137_79, s137_81, s137_82, s137_85, s137_87, s137_89, s137_90, s137_91, s137_92, s137_94, s137_97, OpV_some, OpN_some, OpA_some, OpR_some, Option.toList_some, Option.toList_none, List.cons_append, List.nil_append, true_and, and_true, nI11, or_true, true_or, or_false, false_or, mI0 H, mP0 H, mI3 H, mP3 H, mI4 H, mP4 H, mI5 H, mP5 H, mI6 H, mP6 H, mI7 H, mP7 H, mI8 H, mP8 H, mI9 H, mP9 H, mI10 H, mP10 H, mI11 H, mP11 H, mI12 H, mP12 H, mI13 H, mP13 H, mI14 H, mP14 H, mI23 H, mP23 H, mI24 H, mP24 H, mI25 H, mP25 H, mI26 H, mP26 H, mI27 H, mP27 H, mI30 H, mP30 H, mI31 H, mP31 H, mI1 H, mP1 H, mR2 H, mR15 H, mR16 H, mR17 H, mR18 H, mR19 H, mR20 H, mR21 H, mR22 H, mR28 H, mR29 H, mA0 H, mS0 H, mA1 H, mS1 H, mA2 H, mS2 H, mA3 H, mS3 H, mA4 H, mS4 H, mA5 H, mS5 H, mA6 H, mS6 H, mA7 H, mS7 H, mA8 H, mS8 H, mA9 H, mS9 H, mA10 H, mS10 H, mw_cl H, fu_s, fu_n, ua_s, ua_n, Nat.reduceBEq, lt57, lt58, lt59, lt60, lt61, lt62, lt63, lt64, lt65, lt66, lt67, lt68, ha, nI_ltN (show k < 2 ^ 31 by omega) (show n.1.1 < 2 ^ 31 by omega), show k < n.1.1 by omega, if_true, nI_add, in_nI (show 24 + k < 134 by omega) (show 134 < 2 ^ 31 by omega), cl_nI (show 24 + k < 2 ^ 31 by omega), h4, rs_go]
    exact ih _
theorem Rel.mkk {b : Nat → Int32} (R : Rel tr b A s) (k : Nat) : Rel (tr + (kmf k).toInt64) b A (mkk s k) := by
  obtain ⟨r0, r1, r2, r3, r4, r5, r6, r7⟩ := R
  exact ⟨by rw [r0]; rfl, r1, r2, r3, r4, r5, r6, r7⟩
theorem m_rate (H : 69 ≤ u.length) (R : Rel tr a A s) (V : Valid s) (x y : Int32) (hQ : ∀ tr' a' A', Rel tr' a' A' (sp_rate s x y).2 → Q (some (.int (sp_rate s x y).1)) (mw u tr' a' A')) : Cl X (d + 3) 137 [.ref 57, .int x, .int y] (mw u tr a A) Q := by
  have h8 := Rel.nR V
  have hP := Rel.nP V
  rw [e137]
  unfold sp_rate at hQ
  simp only [s137_0, s137_1, s137_2, s137_5, s137_6, s137_7, s137_8, s137_11, s137_14, s137_15, s137_16, s137_19, s137_22, s137_24, OpV_some, OpN_some, OpA_some, OpR_some, Option.toList_some, Option.toList_none, List.cons_append, List.nil_append, true_and, and_true, nI11, or_true, true_or, or_false, false_or, mI0 H, mP0 H, mI3 H, mP3 H, mI4 H, mP4 H, mI5 H, mP5 H, mI6 H, mP6 H, mI7 H, mP7 H, mI8 H, mP8 H, mI9 H, mP9 H, mI10 H, mP10 H, mI11 H, mP11 H, mI12 H, mP12 H, mI13 H, mP13 H, mI14 H, mP14 H, mI23 H, mP23 H, mI24 H, mP24 H, mI25 H, mP25 H, mI26 H, mP26 H, mI27 H, mP27 H, mI30 H, mP30 H, mI31 H, mP31 H, mI1 H, mP1 H, mR2 H, mR15 H, mR16 H, mR17 H, mR18 H, mR19 H, mR20 H, mR21 H, mR22 H, mR28 H, mR29 H, mA0 H, mS0 H, mA1 H, mS1 H, mA2 H, mS2 H, mA3 H, mS3 H, mA4 H, mS4 H, mA5 H, mS5 H, mA6 H, mS6 H, mA7 H, mS7 H, mA8 H, mS8 H, mA9 H, mS9 H, mA10 H, mS10 H, mw_cl H, fu_s, fu_n, ua_s, ua_n, Nat.reduceBEq, lt57, lt58, lt59, lt60, lt61, lt62, lt63, lt64, lt65, lt66, lt67, lt68, m_in, m_isRider H, nI_ite, R.ri, rng_le x 5 (by decide), rng_sub y (show s.2.2.1.2.1.1 < 2 ^ 30 by omega)]
  rcases ix x (n := 6) (by decide) with ⟨k, hk, rfl⟩ | hx
  · have hx := ix_in hk (by decide)
    rcases ix y (n := s.2.2.1.2.1.1) (by omega) with ⟨j, hj, rfl⟩ | hy
    · have hy := ix_in hj (by omega)
      obtain ⟨d0, d1, d3, d4⟩ := R.nw.1 j hj
      have d2 := R.gr j hj
      simp only [hx, hy, and_self, if_true, cl_of (show j < 2 ^ 31 by omega), cl_of (show k < 2 ^ 31 by omega), sp_rateN] at hQ
      simp only [hx, hy, and_self, not_true, if_false, if_true, OpV_some, OpN_some, OpA_some, OpR_some, Option.toList_some, Option.toList_none, List.cons_append, List.nil_append, true_and, and_true, nI11, or_true, true_or, or_false, false_or, s137_25, s137_26, s137_29, s137_30, s137_31, s137_32, s137_33, s137_34, s137_35, s137_36, s137_37, s137_38, s137_41, s137_42, s137_43, s137_44, s137_45, s137_46, s137_47, s137_48, s137_50, s137_51, s137_52, s137_55, s137_56, s137_57, s137_58, s137_59, s137_60, s137_61, s137_62, s137_64, s137_65, s137_67, s137_68, mI0 H, mP0 H, mI3 H, mP3 H, mI4 H, mP4 H, mI5 H, mP5 H, mI6 H, mP6 H, mI7 H, mP7 H, mI8 H, mP8 H, mI9 H, mP9 H, mI10 H, mP10 H, mI11 H, mP11 H, mI12 H, mP12 H, mI13 H, mP13 H, mI14 H, mP14 H, mI23 H, mP23 H, mI24 H, mP24 H, mI25 H, mP25 H, mI26 H, mP26 H, mI27 H, mP27 H, mI30 H, mP30 H, mI31 H, mP31 H, mI1 H, mP1 H, mR2 H, mR15 H, mR16 H, mR17 H, mR18 H, mR19 H, mR20 H, mR21 H, mR22 H, mR28 H, mR29 H, mA0 H, mS0 H, mA1 H, mS1 H, mA2 H, mS2 H, mA3 H, mS3 H, mA4 H, mS4 H, mA5 H, mS5 H, mA6 H, mS6 H, mA7 H, mS7 H, mA8 H, mS8 H, mA9 H, mS9 H, mA10 H, mS10 H, mw_cl H, fu_s, fu_n, ua_s, ua_n, Nat.reduceBEq, lt57, lt58, lt59, lt60, lt61, lt62, lt63, lt64, lt65, lt66, lt67, lt68, pk_mul, nI_add, in_nI (show 4 * j < 134 by omega) (show 134 < 2 ^ 31 by omega), cl_nI (show 4 * j < 2 ^ 31 by omega), in_nI (show 4 * j + 1 < 134 by omega) (show 134 < 2 ^ 31 by omega), cl_nI (show 4 * j + 1 < 2 ^ 31 by omega), in_nI (show 4 * j + 2 < 134 by omega) (show 134 < 2 ^ 31 by omega), cl_nI (show 4 * j + 2 < 2 ^ 31 by omega), in_nI (show 3 * j + 1 < 24 by omega) (show 24 < 2 ^ 31 by omega), cl_nI (show 3 * j + 1 < 2 ^ 31 by omega), d0, d1, d2, d3]
      rw [m_rate_loop H R.nw h8 (R.th (nI 0)).ro _ _ _ _ _ s.2.2.1.1.1 0 (nI 0) (by omega)]
      have R0 := R.th (nI 0)
      rcases (show k = 0 ∨ k = 1 ∨ k = 2 ∨ k = 3 ∨ k = 4 ∨ k = 5 by omega) with rfl | rfl | rfl | rfl | rfl | rfl
      · simp only [if_true, nI_add] at hQ
        simp only [s137_100, s137_101, s137_102, s137_105, s137_106, s137_109, s137_110, s137_113, s137_114, s137_115, s137_118, s137_121, s137_124, s137_125, s137_126, s137_129, s137_132, s137_135, s137_136, s137_137, s137_140, s137_143, s137_146, s137_147, s137_148, s137_151, s137_154, s137_157, s137_160, s137_161, s137_164, s137_165, s137_168, s137_169, s137_172, s137_173, s137_174, s137_177, s137_179, s137_182, s137_183, s137_184, s137_187, s137_189, s137_192, s137_193, s137_194, s137_197, s137_198, s137_200, s137_201, s137_204, s137_205, s137_206, s137_209, s137_211, s137_212, s137_215, s137_216, s137_217, s137_218, s137_219, s137_220, s137_223, s137_224, s137_226, s137_227, OpV_some, OpN_some, OpA_some, OpR_some, Option.toList_some, Option.toList_none, List.cons_append, List.nil_append, true_and, and_true, nI11, or_true, true_or, or_false, false_or, mI0 H, mP0 H, mI3 H, mP3 H, mI4 H, mP4 H, mI5 H, mP5 H, mI6 H, mP6 H, mI7 H, mP7 H, mI8 H, mP8 H, mI9 H, mP9 H, mI10 H, mP10 H, mI11 H, mP11 H, mI12 H, mP12 H, mI13 H, mP13 H, mI14 H, mP14 H, mI23 H, mP23 H, mI24 H, mP24 H, mI25 H, mP25 H, mI26 H, mP26 H, mI27 H, mP27 H, mI30 H, mP30 H, mI31 H, mP31 H, mI1 H, mP1 H, mR2 H, mR15 H, mR16 H, mR17 H, mR18 H, mR19 H, mR20 H, mR21 H, mR22 H, mR28 H, mR29 H, mA0 H, mS0 H, mA1 H, mS1 H, mA2 H, mS2 H, mA3 H, mS3 H, mA4 H, mS4 H, mA5 H, mS5 H, mA6 H, mS6 H, mA7 H, mS7 H, mA8 H, mS8 H, mA9 H, mS9 H, mA10 H, mS10 H, mw_cl H, fu_s, fu_n, ua_s, ua_n, Nat.reduceBEq, lt57, lt58, lt59, lt60, lt61, lt62, lt63, lt64, lt65, lt66, lt67, lt68, nI0z, if_true]
        exact hQ _ _ _ (R0.mkk 0)
      · simp only [if_true, nI_add, show ¬ (1 = 0) by decide, if_false] at hQ
        simp only [s137_100, s137_101, s137_102, s137_105, s137_106, s137_109, s137_110, s137_113, s137_114, s137_115, s137_118, s137_121, s137_124, s137_125, s137_126, s137_129, s137_132, s137_135, s137_136, s137_137, s137_140, s137_143, s137_146, s137_147, s137_148, s137_151, s137_154, s137_157, s137_160, s137_161, s137_164, s137_165, s137_168, s137_169, s137_172, s137_173, s137_174, s137_177, s137_179, s137_182, s137_183, s137_184, s137_187, s137_189, s137_192, s137_193, s137_194, s137_197, s137_198, s137_200, s137_201, s137_204, s137_205, s137_206, s137_209, s137_211, s137_212, s137_215, s137_216, s137_217, s137_218, s137_219, s137_220, s137_223, s137_224, s137_226, s137_227, OpV_some, OpN_some, OpA_some, OpR_some, Option.toList_some, Option.toList_none, List.cons_append, List.nil_append, true_and, and_true, nI11, or_true, true_or, or_false, false_or, mI0 H, mP0 H, mI3 H, mP3 H, mI4 H, mP4 H, mI5 H, mP5 H, mI6 H, mP6 H, mI7 H, mP7 H, mI8 H, mP8 H, mI9 H, mP9 H, mI10 H, mP10 H, mI11 H, mP11 H, mI12 H, mP12 H, mI13 H, mP13 H, mI14 H, mP14 H, mI23 H, mP23 H, mI24 H, mP24 H, mI25 H, mP25 H, mI26 H, mP26 H, mI27 H, mP27 H, mI30 H, mP30 H, mI31 H, mP31 H, mI1 H, mP1 H, mR2 H, mR15 H, mR16 H, mR17 H, mR18 H, mR19 H, mR20 H, mR21 H, mR22 H, mR28 H, mR29 H, mA0 H, mS0 H, mA1 H, mS1 H, mA2 H, mS2 H, mA3 H, mS3 H, mA4 H, mS4 H, mA5 H, mS5 H, mA6 H, mS6 H, mA7 H, mS7 H, mA8 H, mS8 H, mA9 H, mS9 H, mA10 H, mS10 H, mw_cl H, fu_s, fu_n, ua_s, ua_n, Nat.reduceBEq, lt57, lt58, lt59, lt60, lt61, lt62, lt63, lt64, lt65, lt66, lt67, lt68, nI1z, if_true, if_false]
        have e : tr + 11 = tr + (kmf 1).toInt64 + (kmf 0).toInt64 := by rw [Int64.add_assoc]; rfl
        rw [e]
        exact hQ _ _ _ ((R0.mkk 1).mkk 0)
      · simp only [if_true, nI_add, show ¬ (2 = 0) by decide, show ¬ (2 = 1) by decide, if_false] at hQ
        simp only [s137_100, s137_101, s137_102, s137_105, s137_106, s137_109, s137_110, s137_113, s137_114, s137_115, s137_118, s137_121, s137_124, s137_125, s137_126, s137_129, s137_132, s137_135, s137_136, s137_137, s137_140, s137_143, s137_146, s137_147, s137_148, s137_151, s137_154, s137_157, s137_160, s137_161, s137_164, s137_165, s137_168, s137_169, s137_172, s137_173, s137_174, s137_177, s137_179, s137_182, s137_183, s137_184, s137_187, s137_189, s137_192, s137_193, s137_194, s137_197, s137_198, s137_200, s137_201, s137_204, s137_205, s137_206, s137_209, s137_211, s137_212, s137_215, s137_216, s137_217, s137_218, s137_219, s137_220, s137_223, s137_224, s137_226, s137_227, OpV_some, OpN_some, OpA_some, OpR_some, Option.toList_some, Option.toList_none, List.cons_append, List.nil_append, true_and, and_true, nI11, or_true, true_or, or_false, false_or, mI0 H, mP0 H, mI3 H, mP3 H, mI4 H, mP4 H, mI5 H, mP5 H, mI6 H, mP6 H, mI7 H, mP7 H, mI8 H, mP8 H, mI9 H, mP9 H, mI10 H, mP10 H, mI11 H, mP11 H, mI12 H, mP12 H, mI13 H, mP13 H, mI14 H, mP14 H, mI23 H, mP23 H, mI24 H, mP24 H, mI25 H, mP25 H, mI26 H, mP26 H, mI27 H, mP27 H, mI30 H, mP30 H, mI31 H, mP31 H, mI1 H, mP1 H, mR2 H, mR15 H, mR16 H, mR17 H, mR18 H, mR19 H, mR20 H, mR21 H, mR22 H, mR28 H, mR29 H, mA0 H, mS0 H, mA1 H, mS1 H, mA2 H, mS2 H, mA3 H, mS3 H, mA4 H, mS4 H, mA5 H, mS5 H, mA6 H, mS6 H, mA7 H, mS7 H, mA8 H, mS8 H, mA9 H, mS9 H, mA10 H, mS10 H, mw_cl H, fu_s, fu_n, ua_s, ua_n, Nat.reduceBEq, lt57, lt58, lt59, lt60, lt61, lt62, lt63, lt64, lt65, lt66, lt67, lt68, show (nI 2 = 0) = False by decide, show (nI 2 = nI 1) = False by decide, if_true, if_false]
        have e : tr + 101 = tr + (kmf 2).toInt64 + (kmf 0).toInt64 := by rw [Int64.add_assoc]; rfl
        rw [e]
        exact hQ _ _ _ ((R0.mkk 2).mkk 0)
      · simp only [if_true, nI_add, show ¬ (3 = 0) by decide, show ¬ (3 = 1) by decide, show ¬ (3 = 2) by decide, if_false] at hQ
        simp only [s137_100, s137_101, s137_102, s137_105, s137_106, s137_109, s137_110, s137_113, s137_114, s137_115, s137_118, s137_121, s137_124, s137_125, s137_126, s137_129, s137_132, s137_135, s137_136, s137_137, s137_140, s137_143, s137_146, s137_147, s137_148, s137_151, s137_154, s137_157, s137_160, s137_161, s137_164, s137_165, s137_168, s137_169, s137_172, s137_173, s137_174, s137_177, s137_179, s137_182, s137_183, s137_184, s137_187, s137_189, s137_192, s137_193, s137_194, s137_197, s137_198, s137_200, s137_201, s137_204, s137_205, s137_206, s137_209, s137_211, s137_212, s137_215, s137_216, s137_217, s137_218, s137_219, s137_220, s137_223, s137_224, s137_226, s137_227, OpV_some, OpN_some, OpA_some, OpR_some, Option.toList_some, Option.toList_none, List.cons_append, List.nil_append, true_and, and_true, nI11, or_true, true_or, or_false, false_or, mI0 H, mP0 H, mI3 H, mP3 H, mI4 H, mP4 H, mI5 H, mP5 H, mI6 H, mP6 H, mI7 H, mP7 H, mI8 H, mP8 H, mI9 H, mP9 H, mI10 H, mP10 H, mI11 H, mP11 H, mI12 H, mP12 H, mI13 H, mP13 H, mI14 H, mP14 H, mI23 H, mP23 H, mI24 H, mP24 H, mI25 H, mP25 H, mI26 H, mP26 H, mI27 H, mP27 H, mI30 H, mP30 H, mI31 H, mP31 H, mI1 H, mP1 H, mR2 H, mR15 H, mR16 H, mR17 H, mR18 H, mR19 H, mR20 H, mR21 H, mR22 H, mR28 H, mR29 H, mA0 H, mS0 H, mA1 H, mS1 H, mA2 H, mS2 H, mA3 H, mS3 H, mA4 H, mS4 H, mA5 H, mS5 H, mA6 H, mS6 H, mA7 H, mS7 H, mA8 H, mS8 H, mA9 H, mS9 H, mA10 H, mS10 H, mw_cl H, fu_s, fu_n, ua_s, ua_n, Nat.reduceBEq, lt57, lt58, lt59, lt60, lt61, lt62, lt63, lt64, lt65, lt66, lt67, lt68, show (nI 3 = 0) = False by decide, show (nI 3 = nI 1) = False by decide, show (nI 3 = nI 2) = False by decide, if_true, if_false]
        have e : tr + 1011 = tr + (kmf 3).toInt64 + (kmf 1).toInt64 + (kmf 0).toInt64 := by rw [Int64.add_assoc, Int64.add_assoc]; rfl
        rw [e]
        exact hQ _ _ _ (((R0.mkk 3).mkk 1).mkk 0)
      · simp only [if_true, nI_add, show ¬ (4 = 0) by decide, show ¬ (4 = 1) by decide, show ¬ (4 = 2) by decide, show ¬ (4 = 3) by decide, if_false] at hQ
        simp only [s137_100, s137_101, s137_102, s137_105, s137_106, s137_109, s137_110, s137_113, s137_114, s137_115, s137_118, s137_121, s137_124, s137_125, s137_126, s137_129, s137_132, s137_135, s137_136, s137_137, s137_140, s137_143, s137_146, s137_147, s137_148, s137_151, s137_154, s137_157, s137_160, s137_161, s137_164, s137_165, s137_168, s137_169, s137_172, s137_173, s137_174, s137_177, s137_179, s137_182, s137_183, s137_184, s137_187, s137_189, s137_192, s137_193, s137_194, s137_197, s137_198, s137_200, s137_201, s137_204, s137_205, s137_206, s137_209, s137_211, s137_212, s137_215, s137_216, s137_217, s137_218, s137_219, s137_220, s137_223, s137_224, s137_226, s137_227, OpV_some, OpN_some, OpA_some, OpR_some, Option.toList_some, Option.toList_none, List.cons_append, List.nil_append, true_and, and_true, nI11, or_true, true_or, or_false, false_or, mI0 H, mP0 H, mI3 H, mP3 H, mI4 H, mP4 H, mI5 H, mP5 H, mI6 H, mP6 H, mI7 H, mP7 H, mI8 H, mP8 H, mI9 H, mP9 H, mI10 H, mP10 H, mI11 H, mP11 H, mI12 H, mP12 H, mI13 H, mP13 H, mI14 H, mP14 H, mI23 H, mP23 H, mI24 H, mP24 H, mI25 H, mP25 H, mI26 H, mP26 H, mI27 H, mP27 H, mI30 H, mP30 H, mI31 H, mP31 H, mI1 H, mP1 H, mR2 H, mR15 H, mR16 H, mR17 H, mR18 H, mR19 H, mR20 H, mR21 H, mR22 H, mR28 H, mR29 H, mA0 H, mS0 H, mA1 H, mS1 H, mA2 H, mS2 H, mA3 H, mS3 H, mA4 H, mS4 H, mA5 H, mS5 H, mA6 H, mS6 H, mA7 H, mS7 H, mA8 H, mS8 H, mA9 H, mS9 H, mA10 H, mS10 H, mw_cl H, fu_s, fu_n, ua_s, ua_n, Nat.reduceBEq, lt57, lt58, lt59, lt60, lt61, lt62, lt63, lt64, lt65, lt66, lt67, lt68, pk_mul, in_nI (show 4 * j < 134 by omega) (show 134 < 2 ^ 31 by omega), cl_nI (show 4 * j < 2 ^ 31 by omega), d0, show (nI 4 = 0) = False by decide, show (nI 4 = nI 1) = False by decide, show (nI 4 = nI 2) = False by decide, show (nI 4 = nI 3) = False by decide, if_true, if_false]
        have e : tr + 10101 = tr + (kmf 4).toInt64 + (kmf 2).toInt64 + (kmf 0).toInt64 := by rw [Int64.add_assoc, Int64.add_assoc]; rfl
        rw [e]
        exact hQ _ _ _ (((R0.mkk 4).mkk 2).mkk 0)
      · simp only [if_true, nI_add, show ¬ (5 = 0) by decide, show ¬ (5 = 1) by decide, show ¬ (5 = 2) by decide, show ¬ (5 = 3) by decide, show ¬ (5 = 4) by decide, if_false] at hQ
        simp only [s137_100, s137_101, s137_102, s137_105, s137_106, s137_109, s137_110, s137_113, s137_114, s137_115, s137_118, s137_121, s137_124, s137_125, s137_126, s137_129, s137_132, s137_135, s137_136, s137_137, s137_140, s137_143, s137_146, s137_147, s137_148, s137_151, s137_154, s137_157, s137_160, s137_161, s137_164, s137_165, s137_168, s137_169, s137_172, s137_173, s137_174, s137_177, s137_179, s137_182, s137_183, s137_184, s137_187, s137_189, s137_192, s137_193, s137_194, s137_197, s137_198, s137_200, s137_201, s137_204, s137_205, s137_206, s137_209, s137_211, s137_212, s137_215, s137_216, s137_217, s137_218, s137_219, s137_220, s137_223, s137_224, s137_226, s137_227, OpV_some, OpN_some, OpA_some, OpR_some, Option.toList_some, Option.toList_none, List.cons_append, List.nil_append, true_and, and_true, nI11, or_true, true_or, or_false, false_or, mI0 H, mP0 H, mI3 H, mP3 H, mI4 H, mP4 H, mI5 H, mP5 H, mI6 H, mP6 H, mI7 H, mP7 H, mI8 H, mP8 H, mI9 H, mP9 H, mI10 H, mP10 H, mI11 H, mP11 H, mI12 H, mP12 H, mI13 H, mP13 H, mI14 H, mP14 H, mI23 H, mP23 H, mI24 H, mP24 H, mI25 H, mP25 H, mI26 H, mP26 H, mI27 H, mP27 H, mI30 H, mP30 H, mI31 H, mP31 H, mI1 H, mP1 H, mR2 H, mR15 H, mR16 H, mR17 H, mR18 H, mR19 H, mR20 H, mR21 H, mR22 H, mR28 H, mR29 H, mA0 H, mS0 H, mA1 H, mS1 H, mA2 H, mS2 H, mA3 H, mS3 H, mA4 H, mS4 H, mA5 H, mS5 H, mA6 H, mS6 H, mA7 H, mS7 H, mA8 H, mS8 H, mA9 H, mS9 H, mA10 H, mS10 H, mw_cl H, fu_s, fu_n, ua_s, ua_n, Nat.reduceBEq, lt57, lt58, lt59, lt60, lt61, lt62, lt63, lt64, lt65, lt66, lt67, lt68, show (nI 5 = 0) = False by decide, show (nI 5 = nI 1) = False by decide, show (nI 5 = nI 2) = False by decide, show (nI 5 = nI 3) = False by decide, show (nI 5 = nI 4) = False by decide, if_true, if_false]
        have e : tr + 100001 = tr + (kmf 5).toInt64 + (kmf 0).toInt64 := by rw [Int64.add_assoc]; rfl
        rw [e]
        exact hQ _ _ _ ((R0.mkk 5).mkk 0)
    · simp only [hx, hy, and_false, if_false] at hQ
      simp only [hx, hy, and_self, not_true, not_false_eq_true, if_false, if_true]
      exact hQ _ _ _ (R.th _)
  · simp only [hx, false_and, if_false] at hQ
    simp only [hx, not_false_eq_true, if_true]
    exact hQ _ _ _ (R.th _)
end MRATE
