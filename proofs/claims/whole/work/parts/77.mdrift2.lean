/-! drift by the reference: all ways -/
theorem nI_ne9 {n : Nat} (h : n < 2 ^ 31) : (nI n = -9) = False := eq_false fun e => by
  have e1 : (nI n).toInt = (-9 : Int32).toInt := by rw [e]
  rw [nI_toInt h] at e1
  have : (-9 : Int32).toInt = -9 := by decide
  omega
theorem Adj.rope {g f : Nat → Nat} {base nR nS : Nat} (h : Adj base g f) (hb : base ≤ 3) (hg : RopeOK g nR nS) (h9 : ∀ k, k < nR → g (k * 5 + 2) ≤ 9) : RopeOK f nR nS := ⟨hg.1, fun k hk => by
  obtain ⟨⟨a1, a2⟩, a3, a4, a5, a6⟩ := h k
  obtain ⟨g1, g2, g3, g4, g5, g6, g7⟩ := hg.2 k hk
  have := h9 k hk
  rw [a3, a4, a5, a6]
  exact ⟨g1, g2, g3, by omega, by omega, g6, g7⟩⟩
section MDRIFTB
variable {X : am_X} {d : Nat} {Q : am_Q} {u w : am_W} {tr : Int64} {A : Nat → Nat → Int32} {s : CSt} {nS nR : Nat} {h g : Nat → Nat}
theorem m_dr_out (H : 69 ≤ u.length) (S : StM A nS nR h g) (h9 : ∀ k, k < nR → g (k * 5 + 2) ≤ 9) (hbt : ∀ k, k < nR → A 3 (4 * k + 2) = nI (g (k * 5 + 2)) ∧ A 5 (24 + k) = nI (g (k * 5 + 4)) ∧ g (k * 5 + 4) ≤ 1) {v dd G p t y sz N : Nat} {F : Nat → Nat} (hv : v < 2 ^ 31) (hdd : dd ≤ 2) (hG : G ≤ 5) (hp : p < nS) (ht : t ≤ 999) (hy : y < 2) (hsz : sz ≤ 6) (hF : ∀ j, j < sz → v / 10 ^ j % 10 = F j + 1) (hfig : fgI (nI v) = nI sz) (hN : N < 2 ^ 30) :
    ∀ (n wy : Nat) (o : Option Nat) (a : Nat → Int32) (f9 : Nat → Int32) (l10 l11 : Option Value), wy + n = N → (∀ b, o = some b → b < 1000) → a 10 = nI nR →
    (∀ (a' : Nat → Int32) (f9' : Nat → Int32), (∀ j, j < 24 → a' j = a j) → Q (some (.int (fgO (mdl y (fun w => decide ((flw h (dmf (fun k => usN k 10 false v) g (dd + 1) nR 0 w g) nR G F sz sz 0 p t).1 = sz)) (fun w => (flw h (dmf (fun k => usN k 10 false v) g (dd + 1) nR 0 w g) nR G F sz sz 0 p t).2.2) n wy o)))) (mw u tr a' (ua A 9 f9'))) →
    Wp X (Cl X (d + 3)) 129 Q (91, [some (.ref 57), some (.int (nI G)), some (.int (nI p)), some (.int (nI t)), some (.int (nI v)), some (.int (nI dd)), some (.int (nI y)), some (.int (fgO o)), some (.int (nI N)), some (.int (nI wy)), l10, l11], [], mw u tr a (ua A 9 f9), 0, 0)
  | 0, wy, o, a, f9, l10, l11, e, ho, ha, hQ => by
    rw [s129_91]
    simp only [s129_93, s129_95, s129_255, s129_257, OpV_some, OpN_some, OpA_some, OpR_some, Option.toList_some, Option.toList_none, List.cons_append, List.nil_append, true_and, and_true, nI11, or_true, true_or, or_false, false_or, nI_ltN (show wy < 2 ^ 31 by omega) (show N < 2 ^ 31 by omega), show ¬ wy < N by omega, if_false]
    exact hQ a f9 fun _ _ => rfl
  | n + 1, wy, o, a, f9, l10, l11, e, ho, ha, hQ => by
    have h8 := S.2.2.2.1
    have hgb : ∀ k, k < nR → 1 ≤ g (k * 5 + 2) ∧ g (k * 5 + 2) ≤ 9 ∧ g (k * 5 + 4) ≤ 1 := fun k hk => ⟨(S.2.2.2.2 k hk).2.2.2.1, h9 k hk, (hbt k hk).2.2⟩
    have hbt' : ∀ k, k < nR → (ua A 9 f9) 3 (4 * k + 2) = nI (g (k * 5 + 2)) ∧ (ua A 9 f9) 5 (24 + k) = nI (g (k * 5 + 4)) ∧ g (k * 5 + 4) ≤ 1 := hbt
    rw [s129_91]
    simp only [s129_93, s129_95, s129_98, s129_100, s129_102, s129_103, s129_106, s129_107, OpV_some, OpN_some, OpA_some, OpR_some, Option.toList_some, Option.toList_none, List.cons_append, List.nil_append, true_and, and_true, nI11, or_true, true_or, or_false, false_or, mI0 H, mP0 H, mI3 H, mP3 H, mI4 H, mP4 H, mI5 H, mP5 H, mI6 H, mP6 H, mI7 H, mP7 H, mI8 H, mP8 H, mI9 H, mP9 H, mI10 H, mP10 H, mI11 H, mP11 H, mI12 H, mP12 H, mI13 H, mP13 H, mI14 H, mP14 H, mI23 H, mP23 H, mI24 H, mP24 H, mI25 H, mP25 H, mI26 H, mP26 H, mI27 H, mP27 H, mI30 H, mP30 H, mI31 H, mP31 H, mI1 H, mP1 H, mR2 H, mR15 H, mR16 H, mR17 H, mR18 H, mR19 H, mR20 H, mR21 H, mR22 H, mR28 H, mR29 H, mA0 H, mS0 H, mA1 H, mS1 H, mA2 H, mS2 H, mA3 H, mS3 H, mA4 H, mS4 H, mA5 H, mS5 H, mA6 H, mS6 H, mA7 H, mS7 H, mA8 H, mS8 H, mA9 H, mS9 H, mA10 H, mS10 H, mw_cl H, fu_s, fu_n, ua_s, ua_n, Nat.reduceBEq, lt57, lt58, lt59, lt60, lt61, lt62, lt63, lt64, lt65, lt66, lt67, lt68, ua_ua, nI_ltN (show wy < 2 ^ 31 by omega) (show N < 2 ^ 31 by omega), show wy < N by omega, if_true, m_beats H ha h8 hbt']
    obtain ⟨f9', l', hr, hin⟩ := m_dr_in (X := X) (d := d + 2) (Q := Q) (tr := tr) (A := A) H hv h8 hdd ha hgb (nI G) (nI p) (nI t) (nI y) (fgO o) (nI N) (nI wy) nR 0 wy g (cpy (nIf (bt0 g)) f9 nR) (by omega) (by omega) (fun q hq => if_pos hq) (fun _ _ => rfl) (fun _ => rfl)
    rw [hin]
    have AD := dmf_adj (U := fun k => usN k 10 false v) (g := g) (base := dd + 1) (by omega) nR 0 wy g (Adj.rf (by omega) g)
    have S' : StM (ua A 9 f9') nS nR h (dmf (fun k => usN k 10 false v) g (dd + 1) nR 0 wy g) := ⟨S.1, fun k hk => by
      obtain ⟨-, a3, a4, a5, a6⟩ := AD k
      rw [a3, a4, a5]
      exact S.2.1 k hk, S.2.2.1, AD.rope (by omega) S.2.2.2 h9⟩
    have hB : ∀ k, k < nR → (ua A 9 f9') 9 k = nI (bt0 (dmf (fun k => usN k 10 false v) g (dd + 1) nR 0 wy g) k) := fun k hk => by rw [ua_s]; exact hr k hk
    simp only [s129_174, s129_175, s129_176, s129_177, s129_178, s129_180, s129_182, s129_185, OpV_some, OpN_some, OpA_some, OpR_some, Option.toList_some, Option.toList_none, List.cons_append, List.nil_append, true_and, and_true, nI11, or_true, true_or, or_false, false_or, mI0 H, mP0 H, mI3 H, mP3 H, mI4 H, mP4 H, mI5 H, mP5 H, mI6 H, mP6 H, mI7 H, mP7 H, mI8 H, mP8 H, mI9 H, mP9 H, mI10 H, mP10 H, mI11 H, mP11 H, mI12 H, mP12 H, mI13 H, mP13 H, mI14 H, mP14 H, mI23 H, mP23 H, mI24 H, mP24 H, mI25 H, mP25 H, mI26 H, mP26 H, mI27 H, mP27 H, mI30 H, mP30 H, mI31 H, mP31 H, mI1 H, mP1 H, mR2 H, mR15 H, mR16 H, mR17 H, mR18 H, mR19 H, mR20 H, mR21 H, mR22 H, mR28 H, mR29 H, mA0 H, mS0 H, mA1 H, mS1 H, mA2 H, mS2 H, mA3 H, mS3 H, mA4 H, mS4 H, mA5 H, mS5 H, mA6 H, mS6 H, mA7 H, mS7 H, mA8 H, mS8 H, mA9 H, mS9 H, mA10 H, mS10 H, mw_cl H, fu_s, fu_n, ua_s, ua_n, Nat.reduceBEq, lt57, lt58, lt59, lt60, lt61, lt62, lt63, lt64, lt65, lt66, lt67, lt68, m_figs, hfig]
    unfold mdl at hQ
    simp only [decide_eq_true_eq] at hQ
    have hle := flw_le (h := h) (g := dmf (fun k => usN k 10 false v) g (dd + 1) nR 0 wy g) (nR := nR) (G := G) (sz := sz) (F := F) sz 0 p t
    have hmi := flw_mi (h := h) (g := dmf (fun k => usN k 10 false v) g (dd + 1) nR 0 wy g) (nR := nR) (G := G) (sz := sz) (F := F) sz 0 p t (by omega)
    refine m_goes H S' hB hG hv hsz hF ha hp ht fun a' ha' h' => ?_
    have loop := fun o f9 l10 l11 => m_dr_out H S h9 hbt (v := v) (F := F) hv hdd hG hp ht hy hsz hF hfig hN n (wy + 1) o a' f9 l10 l11 (by omega)
    have h10 : a' 10 = nI nR := (ha' 10 (by decide)).trans ha
    have hQ' : ∀ o', ((if (flw h (dmf (fun k => usN k 10 false v) g (dd + 1) nR 0 wy g) nR G F sz sz 0 p t).1 = sz then bst y o (flw h (dmf (fun k => usN k 10 false v) g (dd + 1) nR 0 wy g) nR G F sz sz 0 p t).2.2 else o) = o') → ∀ (a'' : Nat → Int32) (f9' : Nat → Int32), (∀ j, j < 24 → a'' j = a' j) → Q (some (.int (fgO (mdl y (fun w => decide ((flw h (dmf (fun k => usN k 10 false v) g (dd + 1) nR 0 w g) nR G F sz sz 0 p t).1 = sz)) (fun w => (flw h (dmf (fun k => usN k 10 false v) g (dd + 1) nR 0 w g) nR G F sz sz 0 p t).2.2) n (wy + 1) o')))) (mw u tr a'' (ua A 9 f9')) := fun o' ho' a'' f9' h'' => by
      rw [← ho']
      exact hQ a'' f9' fun j hj => (h'' j hj).trans (ha' j hj)
    clear hQ
    generalize flw h (dmf (fun k => usN k 10 false v) g (dd + 1) nR 0 wy g) nR G F sz sz 0 p t = z at hQ' h' hle hmi
    by_cases q : z.1 < sz
    · have hq : ¬ z.1 = sz := by omega
      simp only [hq, if_false] at hQ'
      simp only [q, if_true, s129_188, s129_190, s129_193, s129_194, s129_197, s129_198, s129_200, s129_202, s129_205, s129_207, s129_209, s129_212, s129_214, s129_217, s129_218, s129_221, s129_223, s129_226, s129_229, s129_230, s129_233, s129_235, s129_238, s129_239, s129_242, s129_245, s129_247, s129_249, s129_252, s129_255, s129_257, OpV_some, OpN_some, OpA_some, OpR_some, Option.toList_some, Option.toList_none, List.cons_append, List.nil_append, true_and, and_true, nI11, or_true, true_or, or_false, false_or, nI_ne9 (show z.1 < 2 ^ 31 by omega), if_false, nI0z, nI_add]
      exact loop o f9' _ _ ho h10 (hQ' o rfl)
    · have hq : z.1 = sz := by omega
      obtain ⟨e1, e2⟩ := h' hq
      simp only [hq, if_true] at hQ'
      simp only [q, if_false, s129_188, s129_190, s129_193, s129_194, s129_197, s129_198, s129_200, s129_202, s129_205, s129_207, s129_209, s129_212, s129_214, s129_217, s129_218, s129_221, s129_223, s129_226, s129_229, s129_230, s129_233, s129_235, s129_238, s129_239, s129_242, s129_245, s129_247, s129_249, s129_252, s129_255, s129_257, OpV_some, OpN_some, OpA_some, OpR_some, Option.toList_some, Option.toList_none, List.cons_append, List.nil_append, true_and, and_true, nI11, or_true, true_or, or_false, false_or, mI0 H, mP0 H, mI3 H, mP3 H, mI4 H, mP4 H, mI5 H, mP5 H, mI6 H, mP6 H, mI7 H, mP7 H, mI8 H, mP8 H, mI9 H, mP9 H, mI10 H, mP10 H, mI11 H, mP11 H, mI12 H, mP12 H, mI13 H, mP13 H, mI14 H, mP14 H, mI23 H, mP23 H, mI24 H, mP24 H, mI25 H, mP25 H, mI26 H, mP26 H, mI27 H, mP27 H, mI30 H, mP30 H, mI31 H, mP31 H, mI1 H, mP1 H, mR2 H, mR15 H, mR16 H, mR17 H, mR18 H, mR19 H, mR20 H, mR21 H, mR22 H, mR28 H, mR29 H, mA0 H, mS0 H, mA1 H, mS1 H, mA2 H, mS2 H, mA3 H, mS3 H, mA4 H, mS4 H, mA5 H, mS5 H, mA6 H, mS6 H, mA7 H, mS7 H, mA8 H, mS8 H, mA9 H, mS9 H, mA10 H, mS10 H, mw_cl H, fu_s, fu_n, ua_s, ua_n, Nat.reduceBEq, lt57, lt58, lt59, lt60, lt61, lt62, lt63, lt64, lt65, lt66, lt67, lt68, if_true, nI1z, nI_add, e1, nI_eq0 (show y < 2 ^ 31 by omega)]
      cases o with
      | none =>
        have e9 : fgO none = -9 := rfl
        simp only [e9, if_true]
        exact loop (some z.2.2) f9' _ _ (fun b hb => by cases hb; exact hmi) h10 (hQ' _ rfl)
      | some b =>
        have hb := ho b rfl
        have e9 : fgO (some b) = nI b := rfl
        simp only [e9, nI_ne9 (show b < 2 ^ 31 by omega), if_false, nI_ltN (show z.2.2 < 2 ^ 31 by omega) (show b < 2 ^ 31 by omega), nI_ltN (show b < 2 ^ 31 by omega) (show z.2.2 < 2 ^ 31 by omega)]
        have hQ2 := hQ' _ rfl
        unfold bst at hQ2
        by_cases y0 : y = 0
        · simp only [y0, if_true] at hQ2 ⊢
          rw [y0] at loop
          by_cases c : z.2.2 < b
          · simp only [c, if_true] at hQ2 ⊢
            exact loop (some z.2.2) f9' _ _ (fun b hb => by cases hb; exact hmi) h10 hQ2
          · simp only [c, if_false] at hQ2 ⊢
            exact loop (some b) f9' _ _ ho h10 hQ2
        · simp only [y0, if_false] at hQ2 ⊢
          by_cases c : b < z.2.2
          · simp only [c, if_true] at hQ2 ⊢
            exact loop (some z.2.2) f9' _ _ (fun b hb => by cases hb; exact hmi) h10 hQ2
          · simp only [c, if_false] at hQ2 ⊢
            exact loop (some b) f9' _ _ ho h10 hQ2
theorem m_drift (H : 69 ≤ u.length) {a : Nat → Int32} (R : Rel tr a A s) (V : Valid s) (G p t x dd y : Int32) (hQ : ∀ a' A', Rel tr a' A' s → Q (some (.int (sp_drift s G p t x dd y))) (mw u tr a' A')) : Cl X (d + 4) 129 [.ref 57, .int G, .int p, .int t, .int x, .int dd, .int y] (mw u tr a A) Q := by
  have h8 := Rel.nR V
  have hS := Rel.nS V
  rw [e129]
  unfold sp_drift at hQ
  simp only [s129_0, s129_1, s129_2, s129_5, s129_6, s129_7, s129_8, s129_9, s129_11, s129_12, s129_15, s129_18, s129_20, s129_21, s129_22, s129_25, s129_28, s129_30, s129_31, s129_32, s129_35, s129_38, s129_39, OpV_some, OpN_some, OpA_some, OpR_some, Option.toList_some, Option.toList_none, List.cons_append, List.nil_append, true_and, and_true, nI11, or_true, true_or, or_false, false_or, mI0 H, mP0 H, mI3 H, mP3 H, mI4 H, mP4 H, mI5 H, mP5 H, mI6 H, mP6 H, mI7 H, mP7 H, mI8 H, mP8 H, mI9 H, mP9 H, mI10 H, mP10 H, mI11 H, mP11 H, mI12 H, mP12 H, mI13 H, mP13 H, mI14 H, mP14 H, mI23 H, mP23 H, mI24 H, mP24 H, mI25 H, mP25 H, mI26 H, mP26 H, mI27 H, mP27 H, mI30 H, mP30 H, mI31 H, mP31 H, mI1 H, mP1 H, mR2 H, mR15 H, mR16 H, mR17 H, mR18 H, mR19 H, mR20 H, mR21 H, mR22 H, mR28 H, mR29 H, mA0 H, mS0 H, mA1 H, mS1 H, mA2 H, mS2 H, mA3 H, mS3 H, mA4 H, mS4 H, mA5 H, mS5 H, mA6 H, mS6 H, mA7 H, mS7 H, mA8 H, mS8 H, mA9 H, mS9 H, mA10 H, mS10 H, mw_cl H, fu_s, fu_n, ua_s, ua_n, Nat.reduceBEq, lt57, lt58, lt59, lt60, lt61, lt62, lt63, lt64, lt65, lt66, lt67, lt68, m_isRow (s := s) H (R.th (nI 0)).si hS (show 4 ≤ 6 by decide), m_in, nI_ite, rng_le dd 2 (by decide), rng_le y 1 (by decide)]
  by_cases hA : askB s G p t y ∧ (0 ≤ dd ∧ dd < nI 3) ∧ (rtv 4 x).1 = true
  · obtain ⟨⟨⟨hg, hp⟩, ht, hy⟩, hd, h1⟩ := hA
    obtain ⟨k5, k6⟩ := rtv_ok h1
    have hsz := (rtv_fg (show 4 ≤ 6 by decide) x).1 h1
    obtain ⟨hxv, hv⟩ := cl_back (rtv_x h1)
    have hdig := rtv_dig h1
    obtain ⟨G, g1, g5, rfl⟩ := grip hg
    obtain ⟨p, hp1, rfl⟩ : ∃ j, j < s.2.1.1 ∧ p = nI j := (ix p (by omega)).resolve_right (not_not_intro hp)
    obtain ⟨t, ht1, rfl⟩ : ∃ j, j < 1000 ∧ t = nI j := (ix t (by decide)).resolve_right (not_not_intro ht)
    obtain ⟨y, hy1, rfl⟩ : ∃ j, j < 2 ∧ y = nI j := (ix y (by decide)).resolve_right (not_not_intro hy)
    obtain ⟨dd, hd1, rfl⟩ : ∃ j, j < 3 ∧ dd = nI j := (ix dd (by decide)).resolve_right (not_not_intro hd)
    simp only [askB, hg, hp, ht, hy, hd, h1, and_self, if_true, cl_of (show G < 2 ^ 31 by omega), cl_of (show p < 2 ^ 31 by omega), cl_of (show t < 2 ^ 31 by omega), cl_of (show y < 2 ^ 31 by omega), cl_of (show dd < 2 ^ 31 by omega)] at hQ
    simp only [hg, hp, ht, hy, hd, h1, and_self, not_true, if_false, s129_40, s129_42, s129_44, s129_45, s129_47, s129_48, OpV_some, OpN_some, OpA_some, OpR_some, Option.toList_some, Option.toList_none, List.cons_append, List.nil_append, true_and, and_true, nI11, or_true, true_or, or_false, false_or]
    have hN := dmp_le (fun k => usN k 10 false (cl x)) (base := dd + 1) (by omega) (by omega) s.2.2.1.1.1 0
    have h38 : 3 ^ s.2.2.1.1.1 ≤ 3 ^ 8 := Nat.pow_le_pow_right (by decide) h8
    have h3e : 3 ^ 8 = 6561 := by decide
    have ha : (fu a 0 (nI 0)) 10 = nI s.2.2.1.1.1 := R.ro
    conv in (Value.int x) => rw [hxv]
    have hsz' : fgI (nI (cl x)) = nI (rtv 4 x).2.1 := by rw [← hxv]; exact hsz
    rw [m_dr_all H hv h8 ha _ _ _ _ _ s.2.2.1.1.1 0 1 none none (by omega), dma_eq, Nat.one_mul]
    have hst := m_dr_out (X := X) (d := d) (Q := Q) (tr := tr) H (R.stM V) V.2.2.2.1.2.1 (R.bts V) (F := (rtv 4 x).2.2) (y := y) hv (show dd ≤ 2 by omega) g5 hp1 (show t ≤ 999 by omega) hy1 (show (rtv 4 x).2.1 ≤ 6 by omega) hdig hsz' (show dmp (fun k => usN k 10 false (cl x)) (dd + 1) s.2.2.1.1.1 0 < 2 ^ 30 by omega) (dmp (fun k => usN k 10 false (cl x)) (dd + 1) s.2.2.1.1.1 0) 0 none (fu a 0 (nI 0)) (A 9) none none (by omega) (fun b hb => by cases hb) ha
    rw [ua_id] at hst
    refine hst fun a' f9' h' => ?_
    have RR : Rel tr a' (ua A 9 f9') s := R.cg (h' 3 (by decide)) (h' 9 (by decide)) (h' 10 (by decide)) (h' 11 (by decide)) (h' 23 (by decide)) fun i hi => if_neg (by omega)
    have hQ := hQ _ _ RR
    have sp1 := mdl_spec y (fun w => decide ((flw s.2.1.2 (dmf (fun k => usN k 10 false (cl x)) s.2.2.1.1.2 (dd + 1) s.2.2.1.1.1 0 w s.2.2.1.1.2) s.2.2.1.1.1 G (rtv 4 x).2.2 (rtv 4 x).2.1 (rtv 4 x).2.1 0 p t).1 = (rtv 4 x).2.1)) (fun w => (flw s.2.1.2 (dmf (fun k => usN k 10 false (cl x)) s.2.2.1.1.2 (dd + 1) s.2.2.1.1.1 0 w s.2.2.1.1.2) s.2.2.1.1.1 G (rtv 4 x).2.2 (rtv 4 x).2.1 (rtv 4 x).2.1 0 p t).2.2) (dmp (fun k => usN k 10 false (cl x)) (dd + 1) s.2.2.1.1.1 0) 0 none (fun m ⟨w, hw, _⟩ => absurd hw (by omega))
    have sp2 := drl_spec s x G p t dd ((dd + 1) ^ (dun x).1) 0 none (fun m ⟨w, hw, _⟩ => absurd hw (by omega))
    rw [Nat.zero_add] at sp1 sp2
    obtain ⟨q1, q2⟩ := drift_eq (h := s.2.1.2) (g := s.2.2.1.1.2) (F := (rtv 4 x).2.2) (L := (dun x).2) (U := fun k => usN k 10 false (cl x)) (nR := s.2.2.1.1.1) (G := G) (sz := (rtv 4 x).2.1) (un := (dun x).1) (base := dd + 1) (a := p) (t := t) (by omega) (fun k _ => us_F h1 k) (lus_cov _ _ _ _ (by omega) (fun j hj => absurd hj (by omega)))
    have key := fun hST => sp_uniq hST sp1 sp2
    have hu := key (fun m => ⟨fun ⟨w, w1, w2, w3⟩ => by
      obtain ⟨c, c1, c2⟩ := q2 w w1 (of_decide_eq_true w2)
      refine ⟨c, c1, ?_, ?_⟩
      · apply decide_eq_true
        unfold dflw
        rw [c2]
        exact of_decide_eq_true w2
      · show (dflw s x G p t dd c).2.2 = m
        unfold dflw
        rw [c2]
        exact w3, fun ⟨c, c1, c2, c3⟩ => by
      obtain ⟨w, w1, w2⟩ := q1 c c1 (of_decide_eq_true c2)
      refine ⟨w, w1, ?_, ?_⟩
      · apply decide_eq_true
        rw [w2]
        exact of_decide_eq_true c2
      · show (flw s.2.1.2 (dmf (fun k => usN k 10 false (cl x)) s.2.2.1.1.2 (dd + 1) s.2.2.1.1.1 0 w s.2.2.1.1.2) s.2.2.1.1.1 G (rtv 4 x).2.2 (rtv 4 x).2.1 (rtv 4 x).2.1 0 p t).2.2 = m
        rw [w2]
        exact c3⟩)
    by_cases y0 : y = 0
    · simp only [y0, if_true] at hQ hu ⊢
      rw [hu]
      exact hQ
    · simp only [y0, if_false] at hQ hu ⊢
      rw [hu]
      exact hQ
  · simp only [hA, if_false] at hQ
    have hQ := hQ _ _ (R.th (nI 0))
    unfold askB at hA
    by_cases h1 : ((nI 1 ≤ G ∧ G ≤ nI 5) ∧ (0 ≤ p ∧ p < nI s.2.1.1)) ∧ (0 ≤ t ∧ t < nI 1000) ∧ (rtv 4 x).1 = true
    · by_cases h2 : 0 ≤ dd ∧ dd < nI 3
      · have h3 : ¬ (0 ≤ y ∧ y < nI 2) := fun q => hA ⟨⟨h1.1, h1.2.1, q⟩, h2, h1.2.2⟩
        simp only [h1, h2, h3, and_self, not_true, not_false_eq_true, if_false, if_true]
        exact hQ
      · simp only [h1, h2, and_self, not_true, not_false_eq_true, if_false, if_true]
        exact hQ
    · simp only [h1, not_false_eq_true, if_true]
      exact hQ
end MDRIFTB
