/-! inside, keep, back by the reference -/
def sgm (p : Nat → Nat) : Nat → Nat → Nat
  | 0, _ => 0
  | n + 1, r => p (r * 5 + 4) + sgm p n (r + 1)
def inC (p : Nat → Nat) : Nat → Nat → Nat → Nat
  | 0, _, a => a
  | n + 1, r, a => inC p n (r + 1) (a + (if p (r * 5 + 4) = 0 then 1 else 0))
theorem rs_sgm (p : Nat → Nat) : ∀ (n r b : Nat), rs_go (nIf p) 5 4 n r (nI b) = nI (b + sgm p n r)
  | 0, r, b => by unfold rs_go sgm; rw [Nat.add_zero]
  | n + 1, r, b => by
    unfold rs_go sgm
    have e : nI b + nIf p (r * 5 + 4) = nI (b + p (r * 5 + 4)) := nI_add _ _
    rw [e, rs_sgm p n (r + 1) (b + p (r * 5 + 4)), Nat.add_assoc]
theorem inC_sgm (p : Nat → Nat) : ∀ (n r a : Nat), (∀ q, r ≤ q → q < r + n → p (q * 5 + 4) ≤ 1) → inC p n r a + sgm p n r = a + n
  | 0, r, a, _ => rfl
  | n + 1, r, a, h => by
    unfold inC sgm
    have ih := inC_sgm p n (r + 1) (a + (if p (r * 5 + 4) = 0 then 1 else 0)) (fun q h1 h2 => h q (by omega) (by omega))
    have h1 := h r (Nat.le_refl _) (by omega)
    by_cases q : p (r * 5 + 4) = 0
    · rw [if_pos q] at ih ⊢
      omega
    · rw [if_neg q] at ih ⊢
      omega
theorem insI_eq {n : NSt} (h : ∀ q, q < n.2.1.1 → n.2.1.2 (q * 5 + 4) ≤ 1) : insI n = nI (inC n.2.1.2 n.2.1.1 0 0) := by
  have e := inC_sgm n.2.1.2 n.2.1.1 0 0 (fun q _ h2 => h q (by omega))
  unfold insI
  rw [rs_sgm, Nat.zero_add, nI_subN (by omega)]
  congr 1
  omega
def cpm (f g : Nat → Int32) (lo e : Nat) : Nat → Int32 := fun u => if lo ≤ u ∧ u < lo + e then f (u - lo) else g u
theorem cpm_0 (f g : Nat → Int32) (lo : Nat) : cpm f g lo 0 = g := by funext u; unfold cpm; rw [if_neg (by omega)]
theorem cpm_up (f g : Nat → Int32) (lo e : Nat) : upd (cpm f g lo e) (lo + e) (f e) = cpm f g lo (e + 1) := by
  funext u
  unfold upd cpm
  by_cases h : u = lo + e
  · subst h
    rw [if_pos rfl, if_pos (by omega), Nat.add_sub_cancel_left]
  · rw [if_neg h]
    by_cases h2 : lo ≤ u ∧ u < lo + e
    · rw [if_pos h2, if_pos (by omega)]
    · rw [if_neg h2, if_neg (by omega)]
theorem NowR.cg {f f' : Nat → Int32} {n n' : NSt} (h : NowR f n) (hf : ∀ k, k < 134 → f' k = f k) (hR : n.1.1 ≤ 8) (hP : n.2.1.1 ≤ 4) (hD : n.2.2.1.1 ≤ 10) (hM : n.2.2.2.1 ≤ 10) (e1 : n'.1.1 = n.1.1) (e2 : n'.2.1.1 = n.2.1.1) (e3 : n'.2.2.1.1 = n.2.2.1.1) (e4 : n'.2.2.2.1 = n.2.2.2.1) (g1 : ∀ j, j < 40 → n'.1.2 j = n.1.2 j) (g2 : ∀ j, j < 20 → n'.2.1.2 j = n.2.1.2 j) (g3 : ∀ j, j < 70 → n'.2.2.1.2 j = n.2.2.1.2 j) (g4 : ∀ j, j < 40 → n'.2.2.2.2 j = n.2.2.2.2 j) : NowR f' n' := by
  obtain ⟨a1, a2, a3, a4, a5, a6⟩ := h
  refine ⟨fun r hr => ?_, fun k hk => ?_, ?_, fun i hi => ?_, ?_, fun t ht => ?_⟩
  · rw [e2] at hr
    rw [hf _ (by omega), hf _ (by omega), hf _ (by omega), hf _ (by omega), g2 _ (by omega), g2 _ (by omega), g2 _ (by omega), g2 _ (by omega)]
    exact a1 r hr
  · rw [e1] at hk
    rw [hf _ (by omega), hf _ (by omega), g1 _ (by omega), g1 _ (by omega)]
    exact a2 k hk
  · rw [hf _ (by omega), e3]; exact a3
  · rw [e3] at hi
    exact DeedR.cg (j := i) (fun c hc => hf _ (by omega)) (fun c hc => g3 _ (by omega)) (a4 i hi)
  · rw [hf _ (by omega), e4]; exact a5
  · rw [e4] at ht
    rw [hf _ (by omega), g4 _ (by omega)]
    exact a6 t ht
theorem NowR.cp {f f' : Nat → Int32} {n o : NSt} (h : NowR f n) (hf : ∀ k, k < 134 → f' k = f k) (hR : n.1.1 ≤ 8) (hP : n.2.1.1 ≤ 4) (hD : n.2.2.1.1 ≤ 10) (hM : n.2.2.2.1 ≤ 10) : NowR f' (cpNow n o) :=
  h.cg hf hR hP hD hM rfl rfl rfl rfl (fun _ hj => if_pos hj) (fun _ hj => if_pos hj) (fun _ hj => if_pos hj) (fun _ hj => if_pos hj)
section MKEEP
variable {X : am_X} {d : Nat} {Q : am_Q} {u : am_W} {tr : Int64} {a : Nat → Int32} {A : Nat → Nat → Int32} {s : CSt} {n : NSt}
theorem m_inside_loop (H : 69 ≤ u.length) (h : NowR (A 5) n) (ha : a 11 = nI n.2.1.1) (hP : n.2.1.1 ≤ 4) (ho : ∀ q, q < n.2.1.1 → n.2.1.2 (q * 5 + 4) ≤ 1) : ∀ (m r c : Nat), r + m = n.2.1.1 → Wp X (Cl X d) 138 Q (4, [some (.ref 57), some (.int (nI c)), some (.int (nI r))], [], mw u tr a A, 0, 0) = Q (some (.int (nI (inC n.2.1.2 m r c)))) (mw u tr a A)
  | 0, r, c, e => by
    rw [s138_4]
    simp only [s138_0, s138_1, s138_2, s138_3, s138_5, s138_6, s138_9, s138_12, s138_13, s138_14, s138_17, s138_18, s138_19, s138_20, s138_21, s138_22, s138_23, s138_26, s138_27, s138_30, s138_31, s138_32, s138_33, s138_36, s138_39, s138_40, OpV_some, OpN_some, OpA_some, OpR_some, Option.toList_some, Option.toList_none, List.cons_append, List.nil_append, true_and, and_true, nI11, or_true, true_or, or_false, false_or, mI0 H, mP0 H, mI3 H, mP3 H, mI4 H, mP4 H, mI5 H, mP5 H, mI6 H, mP6 H, mI7 H, mP7 H, mI8 H, mP8 H, mI9 H, mP9 H, mI10 H, mP10 H, mI11 H, mP11 H, mI12 H, mP12 H, mI13 H, mP13 H, mI14 H, mP14 H, mI23 H, mP23 H, mI24 H, mP24 H, mI25 H, mP25 H, mI26 H, mP26 H, mI27 H, mP27 H, mI30 H, mP30 H, mI31 H, mP31 H, mI1 H, mP1 H, mR2 H, mR15 H, mR16 H, mR17 H, mR18 H, mR19 H, mR20 H, mR21 H, mR22 H, mR28 H, mR29 H, mA0 H, mS0 H, mA1 H, mS1 H, mA2 H, mS2 H, mA3 H, mS3 H, mA4 H, mS4 H, mA5 H, mS5 H, mA6 H, mS6 H, mA7 H, mS7 H, mA8 H, mS8 H, mA9 H, mS9 H, mA10 H, mS10 H, mw_cl H, fu_s, fu_n, ua_s, ua_n, Nat.reduceBEq, lt57, lt58, lt59, lt60, lt61, lt62, lt63, lt64, lt65, lt66, lt67, lt68, ha, nI_ltN (show r < 2 ^ 31 by omega) (show n.2.1.1 < 2 ^ 31 by omega), show ¬ r < n.2.1.1 by omega, if_false, inC]
  | m + 1, r, c, e => by
    have ih := fun c => m_inside_loop H h ha hP ho m (r + 1) c (by omega)
    have h4 := (h.1 r (by omega)).2.2.2
    have h1 := ho r (by omega)
    rw [s138_4]
    simp only [s138_0, s138_1, s138_2, s138_3, s138_5, s138_6, s138_9, s138_12, s138_13, s138_14, s138_17, s138_18, s138_19, s138_20, s138_21, s138_22, s138_23, s138_26, s138_27, s138_30, s138_31, s138_32, s138_33, s138_36, s138_39, s138_40, OpV_some, OpN_some, OpA_some, OpR_some, Option.toList_some, Option.toList_none, List.cons_append, List.nil_append, true_and, and_true, nI11, or_true, true_or, or_false, false_or, mI0 H, mP0 H, mI3 H, mP3 H, mI4 H, mP4 H, mI5 H, mP5 H, mI6 H, mP6 H, mI7 H, mP7 H, mI8 H, mP8 H, mI9 H, mP9 H, mI10 H, mP10 H, mI11 H, mP11 H, mI12 H, mP12 H, mI13 H, mP13 H, mI14 H, mP14 H, mI23 H, mP23 H, mI24 H, mP24 H, mI25 H, mP25 H, mI26 H, mP26 H, mI27 H, mP27 H, mI30 H, mP30 H, mI31 H, mP31 H, mI1 H, mP1 H, mR2 H, mR15 H, mR16 H, mR17 H, mR18 H, mR19 H, mR20 H, mR21 H, mR22 H, mR28 H, mR29 H, mA0 H, mS0 H, mA1 H, mS1 H, mA2 H, mS2 H, mA3 H, mS3 H, mA4 H, mS4 H, mA5 H, mS5 H, mA6 H, mS6 H, mA7 H, mS7 H, mA8 H, mS8 H, mA9 H, mS9 H, mA10 H, mS10 H, mw_cl H, fu_s, fu_n, ua_s, ua_n, Nat.reduceBEq, lt57, lt58, lt59, lt60, lt61, lt62, lt63, lt64, lt65, lt66, lt67, lt68, ha, nI_ltN (show r < 2 ^ 31 by omega) (show n.2.1.1 < 2 ^ 31 by omega), show r < n.2.1.1 by omega, if_true, pk_mul, nI_add, in_nI (show 4 * r + 3 < 134 by omega) (show 134 < 2 ^ 31 by omega), cl_nI (show 4 * r + 3 < 2 ^ 31 by omega), h4, nI_eq0 (show n.2.1.2 (r * 5 + 4) < 2 ^ 31 by omega), inC]
    by_cases q : n.2.1.2 (r * 5 + 4) = 0
    · simp only [q, if_true]
      exact ih _
    · simp only [q, if_false]
      exact ih _
theorem m_inside (H : 69 ≤ u.length) (h : NowR (A 5) n) (ha : a 11 = nI n.2.1.1) (hP : n.2.1.1 ≤ 4) (ho : ∀ q, q < n.2.1.1 → n.2.1.2 (q * 5 + 4) ≤ 1) : Cl X (d + 1) 138 [.ref 57] (mw u tr a A) Q = Q (some (.int (insI n))) (mw u tr a A) := by
  rw [e138, insI_eq ho]
  simp only [s138_0, s138_1, s138_2, s138_3, s138_5, s138_6, s138_9, s138_12, s138_13, s138_14, s138_17, s138_18, s138_19, s138_20, s138_21, s138_22, s138_23, s138_26, s138_27, s138_30, s138_31, s138_32, s138_33, s138_36, s138_39, s138_40, OpV_some, OpN_some, OpA_some, OpR_some, Option.toList_some, Option.toList_none, List.cons_append, List.nil_append, true_and, and_true, nI11, or_true, true_or, or_false, false_or]
  exact m_inside_loop H h ha hP ho n.2.1.1 0 0 (by omega)
theorem m_keep_loop (H : 69 ≤ u.length) {i : Nat} (hi : i < 2) : ∀ (m e : Nat), e + m = 134 → Wp X (Cl X d) 139 Q (18, [some (.ref 57), some (.int (nI i)), some (.int (nI e))], [], mw u tr a (ua A 6 (cpm (A 5) (A 6) (134 * i) e)), 0, 0) = Wp X (Cl X d) 139 Q (49, [some (.ref 57), some (.int (nI i)), some (.int (nI 134))], [], mw u tr a (ua A 6 (cpm (A 5) (A 6) (134 * i) 134)), 0, 0)
  | 0, e, he => by
    have : e = 134 := by omega
    subst this
    rw [s139_18]
    simp only [s139_19, s139_22, OpV_some, OpN_some, OpA_some, OpR_some, Option.toList_some, Option.toList_none, List.cons_append, List.nil_append, true_and, and_true, nI11, or_true, true_or, or_false, false_or, show (nI 134 < nI 134) = False by decide, if_false]
  | m + 1, e, he => by
    have ih := m_keep_loop H hi m (e + 1) (by omega)
    rw [s139_18]
    simp only [s139_19, s139_22, s139_25, s139_26, s139_29, s139_32, s139_33, s139_34, s139_35, s139_36, s139_37, s139_40, s139_41, s139_42, s139_43, s139_46, OpV_some, OpN_some, OpA_some, OpR_some, Option.toList_some, Option.toList_none, List.cons_append, List.nil_append, true_and, and_true, nI11, or_true, true_or, or_false, false_or, mI0 H, mP0 H, mI3 H, mP3 H, mI4 H, mP4 H, mI5 H, mP5 H, mI6 H, mP6 H, mI7 H, mP7 H, mI8 H, mP8 H, mI9 H, mP9 H, mI10 H, mP10 H, mI11 H, mP11 H, mI12 H, mP12 H, mI13 H, mP13 H, mI14 H, mP14 H, mI23 H, mP23 H, mI24 H, mP24 H, mI25 H, mP25 H, mI26 H, mP26 H, mI27 H, mP27 H, mI30 H, mP30 H, mI31 H, mP31 H, mI1 H, mP1 H, mR2 H, mR15 H, mR16 H, mR17 H, mR18 H, mR19 H, mR20 H, mR21 H, mR22 H, mR28 H, mR29 H, mA0 H, mS0 H, mA1 H, mS1 H, mA2 H, mS2 H, mA3 H, mS3 H, mA4 H, mS4 H, mA5 H, mS5 H, mA6 H, mS6 H, mA7 H, mS7 H, mA8 H, mS8 H, mA9 H, mS9 H, mA10 H, mS10 H, mw_cl H, fu_s, fu_n, ua_s, ua_n, Nat.reduceBEq, lt57, lt58, lt59, lt60, lt61, lt62, lt63, lt64, lt65, lt66, lt67, lt68, ua_ua, nI_ltN (show e < 2 ^ 31 by omega) (show 134 < 2 ^ 31 by omega), show e < 134 by omega, if_true, pk_mul, nI_add, in_nI (show 134 * i + e < 268 by omega) (show 268 < 2 ^ 31 by omega), cl_nI (show 134 * i + e < 2 ^ 31 by omega), in_nI (show e < 134 by omega) (show 134 < 2 ^ 31 by omega), cl_nI (show e < 2 ^ 31 by omega), cpm_up]
    exact ih
theorem m_keep (H : 69 ≤ u.length) (R : Rel tr a A s) (V : Valid s) (x : Int32) (hQ : ∀ a' A', Rel tr a' A' (sp_keep s x).2 → Q (some (.int (sp_keep s x).1)) (mw u tr a' A')) : Cl X (d + 2) 139 [.ref 57, .int x] (mw u tr a A) Q := by
  have h8 := Rel.nR V
  have hP := Rel.nP V
  have hD : s.2.2.1.2.2.1.1 ≤ 10 := V.2.2.2.1.2.2.2.1.1
  have hM : s.2.2.1.2.2.2.1 ≤ 10 := V.2.2.2.1.2.2.2.2.1
  have ho : ∀ q, q < s.2.2.1.2.1.1 → s.2.2.1.2.1.2 (q * 5 + 4) ≤ 1 := fun q hq => ((V.2.2.2.1.2.2.1).2 q hq).2.2.2.2.2
  rw [e139]
  unfold sp_keep at hQ
  simp only [s139_0, s139_1, s139_2, s139_5, s139_6, s139_7, s139_8, s139_11, s139_14, s139_15, s139_16, s139_17, OpV_some, OpN_some, OpA_some, OpR_some, Option.toList_some, Option.toList_none, List.cons_append, List.nil_append, true_and, and_true, nI11, or_true, true_or, or_false, false_or, mI0 H, mP0 H, mI3 H, mP3 H, mI4 H, mP4 H, mI5 H, mP5 H, mI6 H, mP6 H, mI7 H, mP7 H, mI8 H, mP8 H, mI9 H, mP9 H, mI10 H, mP10 H, mI11 H, mP11 H, mI12 H, mP12 H, mI13 H, mP13 H, mI14 H, mP14 H, mI23 H, mP23 H, mI24 H, mP24 H, mI25 H, mP25 H, mI26 H, mP26 H, mI27 H, mP27 H, mI30 H, mP30 H, mI31 H, mP31 H, mI1 H, mP1 H, mR2 H, mR15 H, mR16 H, mR17 H, mR18 H, mR19 H, mR20 H, mR21 H, mR22 H, mR28 H, mR29 H, mA0 H, mS0 H, mA1 H, mS1 H, mA2 H, mS2 H, mA3 H, mS3 H, mA4 H, mS4 H, mA5 H, mS5 H, mA6 H, mS6 H, mA7 H, mS7 H, mA8 H, mS8 H, mA9 H, mS9 H, mA10 H, mS10 H, mw_cl H, fu_s, fu_n, ua_s, ua_n, Nat.reduceBEq, lt57, lt58, lt59, lt60, lt61, lt62, lt63, lt64, lt65, lt66, lt67, lt68, m_in, nI_ite, rng_le x 1 (by decide)]
  rcases ix x (n := 2) (by decide) with ⟨j, hj, rfl⟩ | hx
  · have hx := ix_in hj (by decide)
    simp only [hx, and_self, if_true, cl_of (show j < 2 ^ 31 by omega)] at hQ
    simp only [hx, and_self, not_true, if_false, if_true]
    have := m_keep_loop (X := X) (d := d + 1) (Q := Q) (tr := tr) (a := fu a 0 (nI 0)) (A := A) H hj 134 0 (by omega)
    rw [cpm_0, ua_id] at this
    rw [this]
    have hN : NowR (ua (ua A 6 (cpm (A 5) (A 6) (134 * j) 134)) 7 (upd (A 7) j (nI 1)) 5) s.2.2.1 := R.nw
    simp only [s139_49, s139_50, s139_53, s139_54, s139_55, s139_56, s139_57, s139_60, OpV_some, OpN_some, OpA_some, OpR_some, Option.toList_some, Option.toList_none, List.cons_append, List.nil_append, true_and, and_true, nI11, or_true, true_or, or_false, false_or, mI0 H, mP0 H, mI3 H, mP3 H, mI4 H, mP4 H, mI5 H, mP5 H, mI6 H, mP6 H, mI7 H, mP7 H, mI8 H, mP8 H, mI9 H, mP9 H, mI10 H, mP10 H, mI11 H, mP11 H, mI12 H, mP12 H, mI13 H, mP13 H, mI14 H, mP14 H, mI23 H, mP23 H, mI24 H, mP24 H, mI25 H, mP25 H, mI26 H, mP26 H, mI27 H, mP27 H, mI30 H, mP30 H, mI31 H, mP31 H, mI1 H, mP1 H, mR2 H, mR15 H, mR16 H, mR17 H, mR18 H, mR19 H, mR20 H, mR21 H, mR22 H, mR28 H, mR29 H, mA0 H, mS0 H, mA1 H, mS1 H, mA2 H, mS2 H, mA3 H, mS3 H, mA4 H, mS4 H, mA5 H, mS5 H, mA6 H, mS6 H, mA7 H, mS7 H, mA8 H, mS8 H, mA9 H, mS9 H, mA10 H, mS10 H, mw_cl H, fu_s, fu_n, ua_s, ua_n, Nat.reduceBEq, lt57, lt58, lt59, lt60, lt61, lt62, lt63, lt64, lt65, lt66, lt67, lt68, in_nI (show j < 2 by omega) (show 2 < 2 ^ 31 by omega), cl_nI (show j < 2 ^ 31 by omega), show (nI 1 = 1) = True by decide, m_inside H hN (R.th (nI 0)).ri hP ho]
    refine hQ _ _ ?_
    have hNw := R.nw
    obtain ⟨r0, r1, r2, r3, r4, r5, r6, r7⟩ := R
    refine ⟨r0, r1, r2, r3, r4, r5, r6, fun i hi => ?_⟩
    show upd (A 7) j (nI 1) i = nI (upN s.2.2.2.2.1 j 1 i) ∧ (upN s.2.2.2.2.1 j 1 i = 1 → NowR (fun k => cpm (A 5) (A 6) (134 * j) 134 (134 * i + k)) (updI s.2.2.2.2.2.1 j (cpNow s.2.2.1 (s.2.2.2.2.2.1 j)) i))
    by_cases q : i = j
    · subst q
      unfold updI
      rw [upd_s, upN_s, if_pos rfl]
      refine ⟨rfl, fun _ => hNw.cp (fun k hk => ?_) h8 hP hD hM⟩
      unfold cpm
      rw [if_pos (by omega), Nat.add_sub_cancel_left]
    · unfold updI
      rw [upd_n _ _ q, upN_n _ _ q, if_neg q]
      refine ⟨(r7 i hi).1, fun h1 => ?_⟩
      have hk := (V.2.2.2.2.2 i hi).2 h1
      have hn2 := hk.1
      exact ((r7 i hi).2 h1).cg (fun k hk => by unfold cpm; rw [if_neg (by omega)]) hn2.1.1 hn2.2.2.1.1 hn2.2.2.2.1.1 hn2.2.2.2.2.1 rfl rfl rfl rfl (fun _ _ => rfl) (fun _ _ => rfl) (fun _ _ => rfl) (fun _ _ => rfl)
  · simp only [hx, if_false] at hQ
    simp only [hx, not_false_eq_true, if_true]
    exact hQ _ _ (R.th _)
theorem m_back_loop (H : 69 ≤ u.length) {i : Nat} (hi : i < 2) (f : Nat → Int32) : ∀ (m e : Nat), e + m = 134 → Wp X (Cl X d) 140 Q (30, [some (.ref 57), some (.int (nI i)), some (.int (nI e))], [], mw u tr a (ua A 5 (cpm (fun k => A 6 (134 * i + k)) f 0 e)), 0, 0) = Wp X (Cl X d) 140 Q (61, [some (.ref 57), some (.int (nI i)), some (.int (nI 134))], [], mw u tr a (ua A 5 (cpm (fun k => A 6 (134 * i + k)) f 0 134)), 0, 0)
  | 0, e, he => by
    have : e = 134 := by omega
    subst this
    rw [s140_30]
    simp only [s140_31, s140_34, OpV_some, OpN_some, OpA_some, OpR_some, Option.toList_some, Option.toList_none, List.cons_append, List.nil_append, true_and, and_true, nI11, or_true, true_or, or_false, false_or, show (nI 134 < nI 134) = False by decide, if_false]
  | m + 1, e, he => by
    have ih := m_back_loop H hi f m (e + 1) (by omega)
    have hu : upd (cpm (fun k => A 6 (134 * i + k)) f 0 e) e (A 6 (134 * i + e)) = cpm (fun k => A 6 (134 * i + k)) f 0 (e + 1) := by
      have := cpm_up (fun k => A 6 (134 * i + k)) f 0 e
      rw [Nat.zero_add] at this
      exact this
    rw [s140_30]
    simp only [s140_31, s140_34, s140_37, s140_38, s140_41, s140_42, s140_43, s140_46, s140_49, s140_50, s140_51, s140_52, s140_53, s140_54, s140_55, s140_58, OpV_some, OpN_some, OpA_some, OpR_some, Option.toList_some, Option.toList_none, List.cons_append, List.nil_append, true_and, and_true, nI11, or_true, true_or, or_false, false_or, mI0 H, mP0 H, mI3 H, mP3 H, mI4 H, mP4 H, mI5 H, mP5 H, mI6 H, mP6 H, mI7 H, mP7 H, mI8 H, mP8 H, mI9 H, mP9 H, mI10 H, mP10 H, mI11 H, mP11 H, mI12 H, mP12 H, mI13 H, mP13 H, mI14 H, mP14 H, mI23 H, mP23 H, mI24 H, mP24 H, mI25 H, mP25 H, mI26 H, mP26 H, mI27 H, mP27 H, mI30 H, mP30 H, mI31 H, mP31 H, mI1 H, mP1 H, mR2 H, mR15 H, mR16 H, mR17 H, mR18 H, mR19 H, mR20 H, mR21 H, mR22 H, mR28 H, mR29 H, mA0 H, mS0 H, mA1 H, mS1 H, mA2 H, mS2 H, mA3 H, mS3 H, mA4 H, mS4 H, mA5 H, mS5 H, mA6 H, mS6 H, mA7 H, mS7 H, mA8 H, mS8 H, mA9 H, mS9 H, mA10 H, mS10 H, mw_cl H, fu_s, fu_n, ua_s, ua_n, Nat.reduceBEq, lt57, lt58, lt59, lt60, lt61, lt62, lt63, lt64, lt65, lt66, lt67, lt68, ua_ua, nI_ltN (show e < 2 ^ 31 by omega) (show 134 < 2 ^ 31 by omega), show e < 134 by omega, if_true, pk_mul, nI_add, in_nI (show 134 * i + e < 268 by omega) (show 268 < 2 ^ 31 by omega), cl_nI (show 134 * i + e < 2 ^ 31 by omega), in_nI (show e < 134 by omega) (show 134 < 2 ^ 31 by omega), cl_nI (show e < 2 ^ 31 by omega), hu]
    exact ih
theorem m_back (H : 69 ≤ u.length) (R : Rel tr a A s) (V : Valid s) (x : Int32) (hQ : ∀ a' A', Rel tr a' A' (sp_back s x).2 → Q (some (.int (sp_back s x).1)) (mw u tr a' A')) : Cl X (d + 2) 140 [.ref 57, .int x] (mw u tr a A) Q := by
  rw [e140]
  unfold sp_back at hQ
  simp only [s140_0, s140_1, s140_2, s140_5, s140_6, s140_7, s140_8, s140_11, s140_14, s140_15, s140_16, s140_17, s140_20, s140_21, s140_22, s140_25, s140_27, s140_28, s140_29, OpV_some, OpN_some, OpA_some, OpR_some, Option.toList_some, Option.toList_none, List.cons_append, List.nil_append, true_and, and_true, nI11, or_true, true_or, or_false, false_or, mI0 H, mP0 H, mI3 H, mP3 H, mI4 H, mP4 H, mI5 H, mP5 H, mI6 H, mP6 H, mI7 H, mP7 H, mI8 H, mP8 H, mI9 H, mP9 H, mI10 H, mP10 H, mI11 H, mP11 H, mI12 H, mP12 H, mI13 H, mP13 H, mI14 H, mP14 H, mI23 H, mP23 H, mI24 H, mP24 H, mI25 H, mP25 H, mI26 H, mP26 H, mI27 H, mP27 H, mI30 H, mP30 H, mI31 H, mP31 H, mI1 H, mP1 H, mR2 H, mR15 H, mR16 H, mR17 H, mR18 H, mR19 H, mR20 H, mR21 H, mR22 H, mR28 H, mR29 H, mA0 H, mS0 H, mA1 H, mS1 H, mA2 H, mS2 H, mA3 H, mS3 H, mA4 H, mS4 H, mA5 H, mS5 H, mA6 H, mS6 H, mA7 H, mS7 H, mA8 H, mS8 H, mA9 H, mS9 H, mA10 H, mS10 H, mw_cl H, fu_s, fu_n, ua_s, ua_n, Nat.reduceBEq, lt57, lt58, lt59, lt60, lt61, lt62, lt63, lt64, lt65, lt66, lt67, lt68, m_in, nI_ite, rng_le x 1 (by decide)]
  rcases ix x (n := 2) (by decide) with ⟨j, hj, rfl⟩ | hx
  · have hx := ix_in hj (by decide)
    obtain ⟨k1, k2⟩ := V.2.2.2.2.2 j hj
    obtain ⟨i1, i2⟩ := R.im j hj
    simp only [hx, and_self, if_true, cl_of (show j < 2 ^ 31 by omega)] at hQ
    simp only [hx, and_self, not_true, if_false, if_true, in_nI (show j < 2 by omega) (show 2 < 2 ^ 31 by omega), cl_nI (show j < 2 ^ 31 by omega), i1, nI_eq0 (show s.2.2.2.2.1 j < 2 ^ 31 by omega), OpV_some, OpN_some, OpA_some, OpR_some, Option.toList_some, Option.toList_none, List.cons_append, List.nil_append, true_and, and_true, nI11, or_true, true_or, or_false, false_or]
    by_cases h0 : s.2.2.2.2.1 j = 0
    · simp only [h0, if_true] at hQ ⊢
      exact hQ _ _ (R.th _)
    · simp only [h0, if_false] at hQ ⊢
      have h1 : s.2.2.2.2.1 j = 1 := by omega
      obtain ⟨v, sm⟩ := k2 h1
      have hI := i2 h1
      have hN : NowR (cpm (fun k => A 6 (134 * j + k)) (A 5) 0 134) (cpNow (s.2.2.2.2.2.1 j) s.2.2.1) := hI.cp (fun k hk => by unfold cpm; rw [if_pos (by omega)]; rfl) v.1.1 v.2.2.1.1 v.2.2.2.1.1 v.2.2.2.2.1
      have := m_back_loop (X := X) (d := d + 1) (Q := Q) (tr := tr) (a := fu a 0 (nI 0)) (A := A) H hj (A 5) 134 0 (by omega)
      rw [cpm_0, ua_id] at this
      rw [this]
      have hn11 : (cpNow (s.2.2.2.2.2.1 j) s.2.2.1).2.1.1 = s.2.2.1.2.1.1 := sm.2.1
      have hP2 := v.2.2.1.1
      have hR2 := v.1.1
      have ho : ∀ q, q < (cpNow (s.2.2.2.2.2.1 j) s.2.2.1).2.1.1 → (cpNow (s.2.2.2.2.2.1 j) s.2.2.1).2.1.2 (q * 5 + 4) ≤ 1 := fun q hq => by
        have hq2 : q < (s.2.2.2.2.2.1 j).2.1.1 := hq
        show cpN (s.2.2.2.2.2.1 j).2.1.2 s.2.2.1.2.1.2 20 (q * 5 + 4) ≤ 1
        unfold cpN
        rw [if_pos (by omega)]
        exact (v.2.2.1.2 q hq).2.2.2.2.2
      have hN' : NowR (ua A 5 (cpm (fun k => A 6 (134 * j + k)) (A 5) 0 134) 5) (cpNow (s.2.2.2.2.2.1 j) s.2.2.1) := hN
      have ha : (fu a 0 (nI 0)) 11 = nI (cpNow (s.2.2.2.2.2.1 j) s.2.2.1).2.1.1 := by rw [hn11]; exact R.ri
      simp only [s140_61, s140_62, s140_65, OpV_some, OpN_some, OpA_some, OpR_some, Option.toList_some, Option.toList_none, List.cons_append, List.nil_append, true_and, and_true, nI11, or_true, true_or, or_false, false_or, mI0 H, mP0 H, mI3 H, mP3 H, mI4 H, mP4 H, mI5 H, mP5 H, mI6 H, mP6 H, mI7 H, mP7 H, mI8 H, mP8 H, mI9 H, mP9 H, mI10 H, mP10 H, mI11 H, mP11 H, mI12 H, mP12 H, mI13 H, mP13 H, mI14 H, mP14 H, mI23 H, mP23 H, mI24 H, mP24 H, mI25 H, mP25 H, mI26 H, mP26 H, mI27 H, mP27 H, mI30 H, mP30 H, mI31 H, mP31 H, mI1 H, mP1 H, mR2 H, mR15 H, mR16 H, mR17 H, mR18 H, mR19 H, mR20 H, mR21 H, mR22 H, mR28 H, mR29 H, mA0 H, mS0 H, mA1 H, mS1 H, mA2 H, mS2 H, mA3 H, mS3 H, mA4 H, mS4 H, mA5 H, mS5 H, mA6 H, mS6 H, mA7 H, mS7 H, mA8 H, mS8 H, mA9 H, mS9 H, mA10 H, mS10 H, mw_cl H, fu_s, fu_n, ua_s, ua_n, Nat.reduceBEq, lt57, lt58, lt59, lt60, lt61, lt62, lt63, lt64, lt65, lt66, lt67, lt68, m_inside H hN' ha hP2 ho]
      refine hQ _ _ ((R.th _).onNow hN sm.1 sm.2.1 (fun k hk => ?_) (fun r hr => ?_))
      · obtain ⟨z0, z1, z2⟩ := sm.2.2.1 k hk
        have hk8 := Rel.nR V
        refine ⟨?_, ?_, ?_⟩
        · show cpN (s.2.2.2.2.2.1 j).1.2 s.2.2.1.1.2 40 (k * 5) = _
          unfold cpN
          rw [if_pos (by omega)]; exact z0
        · show cpN (s.2.2.2.2.2.1 j).1.2 s.2.2.1.1.2 40 (k * 5 + 1) = _
          unfold cpN
          rw [if_pos (by omega)]; exact z1
        · show cpN (s.2.2.2.2.2.1 j).1.2 s.2.2.1.1.2 40 (k * 5 + 2) = _
          unfold cpN
          rw [if_pos (by omega)]; exact z2
      · have hr4 := Rel.nP V
        show cpN (s.2.2.2.2.2.1 j).2.1.2 s.2.2.1.2.1.2 20 (r * 5 + 2) = _
        unfold cpN
        rw [if_pos (by omega)]
        exact sm.2.2.2 r hr
  · simp only [hx, if_false] at hQ
    simp only [hx, not_false_eq_true, if_true]
    exact hQ _ _ (R.th _)
end MKEEP
