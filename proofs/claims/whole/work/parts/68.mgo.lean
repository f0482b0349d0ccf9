/-! go and undo by the reference -/
theorem tgo_at (l r : Nat) (D : Nat → Nat) : ∀ (n c : Nat) (O : Nat → Nat), c + n = 5 → ∀ j, tgo l r D n c O j = if r * 5 + c ≤ j ∧ j < r * 5 + 5 then D (l * 7 + (2 + (j - r * 5))) else O j
  | 0, c, O, h, j => by
    unfold tgo
    rw [if_neg (by omega)]
  | n + 1, c, O, h, j => by
    unfold tgo
    rw [tgo_at l r D n (c + 1) _ (by omega) j]
    by_cases h1 : r * 5 + (c + 1) ≤ j ∧ j < r * 5 + 5
    · rw [if_pos h1, if_pos (by omega)]
    · rw [if_neg h1]
      unfold upN
      by_cases h2 : j = r * 5 + c
      · rw [if_pos h2, if_pos (by omega), h2, show r * 5 + c - r * 5 = c by omega]
      · rw [if_neg h2, if_neg (by omega)]
theorem tgo_in {l r : Nat} {D O : Nat → Nat} {c : Nat} (hc : c < 5) : tgo l r D 5 0 O (r * 5 + c) = D (l * 7 + (2 + c)) := by
  rw [tgo_at _ _ _ 5 0 _ rfl, if_pos (by omega), show r * 5 + c - r * 5 = c by omega]
theorem tgo_out {l r : Nat} {D O : Nat → Nat} {r' c : Nat} (hc : c < 5) (h : r' ≠ r) : tgo l r D 5 0 O (r' * 5 + c) = O (r' * 5 + c) := by
  rw [tgo_at _ _ _ 5 0 _ rfl, if_neg (by omega)]
theorem rdg_lt (h : Nat → Nat) {g : Nat → Nat} {k : Nat} (hb : g (k * 5 + 2) ≤ 11) : ∀ (n e s : Nat), (rdg h g k n e s).1 ≤ e + n * 11
  | 0, e, s => by show e ≤ e + 0 * 11; omega
  | n + 1, e, s => by
    unfold rdg
    split
    · show e + g (k * 5 + 2) ≤ e + (n + 1) * 11
      omega
    · have := rdg_lt h hb n (e + g (k * 5 + 2)) (oth g k s)
      omega
theorem rid_lt (h : Nat → Nat) {g : Nat → Nat} {nR nS : Nat} (hg : RopeOK g nR nS) {k G s t : Nat} (hk : k < nR) (hG : G ≤ 5) : (rid h g k G s t).1 < t + 100 := by
  obtain ⟨g1, g2, g3, g4, g5, g6, g7⟩ := hg.2 k hk
  have h1 := rdg_lt h g5 G (fat g k s t) s
  have h2 := fat_le g (k := k) (s := s) (t := t) g4
  unfold rid
  omega
section MGO
variable {X : am_X} {d : Nat} {Q : am_Q} {u : am_W} {tr : Int64} {a : Nat → Int32} {A : Nat → Nat → Int32} {s : CSt} {f : Nat → Int32} {n : NSt}
theorem m_go_tail (H : 69 ≤ u.length) {r en si pu be : Nat} {fl : Bool} {k : Int32} (hr : r < 4) (h25 : a 25 = nI en) (h26 : a 26 = nI si) (h27 : a 27 = nI (if fl = true then 1 else 0)) (hf : f (4 * r + 2) = nI pu) (hpu : pu < 2 ^ 30) (hbe : be < 2 ^ 30) (hA : A 5 = f) : Wp X (Cl X d) 115 Q (167, [some (.ref 57), some (.int (nI r)), some (.int k), some (.int (nI (4 * r))), some (.int (nI be))], [], mw u tr a A, 0, 0) = Q (some (.int (nI (if fl = true then en + 1000 else en)))) (mw u tr a (ua A 5 (upd (upd (upd (upd f (4 * r) (nI si)) (4 * r + 1) (nI en)) (4 * r + 2) (nI (pu - be))) (4 * r + 3) (nI (if fl = true then 1 else 0))))) := by
  have q2 : ∀ x y, upd (upd f (4 * r) x) (4 * r + 1) y (4 * r + 2) = nI pu := fun x y => by
    rw [upd_n _ _ (by omega), upd_n _ _ (by omega), hf]
  simp only [s115_167, s115_168, s115_171, s115_172, s115_173, s115_176, s115_177, s115_178, s115_181, s115_182, s115_183, s115_184, s115_185, s115_188, s115_189, s115_190, s115_193, s115_194, s115_195, s115_196, s115_197, s115_200, s115_201, s115_202, s115_203, s115_204, s115_206, s115_209, s115_210, s115_213, s115_214, s115_217, s115_218, s115_219, s115_220, s115_221, s115_223, s115_224, s115_225, s115_226, s115_229, s115_230, s115_231, s115_232, s115_233, s115_236, s115_239, s115_240, s115_243, s115_244, s115_245, s115_246, s115_249, s115_252, s115_255, s115_256, s115_259, s115_260, s115_263, s115_264, s115_267, OpV_some, OpN_some, OpA_some, OpR_some, Option.toList_some, Option.toList_none, List.cons_append, List.nil_append, true_and, and_true, nI11, or_true, true_or, or_false, false_or, mI0 H, mP0 H, mI3 H, mP3 H, mI4 H, mP4 H, mI5 H, mP5 H, mI6 H, mP6 H, mI7 H, mP7 H, mI8 H, mP8 H, mI9 H, mP9 H, mI10 H, mP10 H, mI11 H, mP11 H, mI12 H, mP12 H, mI13 H, mP13 H, mI14 H, mP14 H, mI23 H, mP23 H, mI24 H, mP24 H, mI25 H, mP25 H, mI26 H, mP26 H, mI27 H, mP27 H, mI30 H, mP30 H, mI31 H, mP31 H, mI1 H, mP1 H, mR2 H, mR15 H, mR16 H, mR17 H, mR18 H, mR19 H, mR20 H, mR21 H, mR22 H, mR28 H, mR29 H, mA0 H, mS0 H, mA1 H, mS1 H, mA2 H, mS2 H, mA3 H, mS3 H, mA4 H, mS4 H, mA5 H, mS5 H, mA6 H, mS6 H, mA7 H, mS7 H, mA8 H, mS8 H, mA9 H, mS9 H, mA10 H, mS10 H, mw_cl H, fu_s, fu_n, ua_s, ua_n, Nat.reduceBEq, lt57, lt58, lt59, lt60, lt61, lt62, lt63, lt64, lt65, lt66, lt67, lt68, ua_ua, hA, h25, h26, h27, nI_add, in_nI (show 4 * r < 134 by omega) (show 134 < 2 ^ 31 by omega), cl_nI (show 4 * r < 2 ^ 31 by omega), in_nI (show 4 * r + 1 < 134 by omega) (show 134 < 2 ^ 31 by omega), cl_nI (show 4 * r + 1 < 2 ^ 31 by omega), in_nI (show 4 * r + 2 < 134 by omega) (show 134 < 2 ^ 31 by omega), cl_nI (show 4 * r + 2 < 2 ^ 31 by omega), in_nI (show 4 * r + 3 < 134 by omega) (show 134 < 2 ^ 31 by omega), cl_nI (show 4 * r + 3 < 2 ^ 31 by omega), q2, nI_ltN (show pu < 2 ^ 31 by omega) (show be < 2 ^ 31 by omega), nI_ite]
  have e1 : pu < be → nI 0 = nI (pu - be) := fun q => by rw [Nat.sub_eq_zero_of_le (by omega)]
  cases fl
  · by_cases q : pu < be
    · simp only [q, if_true, if_false, not_true, not_false_eq_true, Bool.false_eq_true, e1 q]
    · simp only [q, if_true, if_false, not_true, not_false_eq_true, Bool.false_eq_true, nI_subN (show be ≤ pu by omega)]
  · by_cases q : pu < be
    · simp only [q, if_true, if_false, not_true, not_false_eq_true, Bool.false_eq_true, e1 q, Nat.add_comm 1000 en]
    · simp only [q, if_true, if_false, not_true, not_false_eq_true, Bool.false_eq_true, nI_subN (show be ≤ pu by omega), Nat.add_comm 1000 en]
theorem m_go (H : 69 ≤ u.length) (R : Rel tr a A s) (V : Valid s) (x y : Int32) (hQ : ∀ a' A', Rel tr a' A' (sp_go s x y).2 → Q (some (.int (sp_go s x y).1)) (mw u tr a' A')) : Cl X (d + 3) 115 [.ref 57, .int x, .int y] (mw u tr a A) Q := by
  have h8 := Rel.nR V
  have hP := Rel.nP V
  have hS := Rel.nS V
  have hD : s.2.2.1.2.2.1.1 ≤ 10 := V.2.2.2.1.2.2.2.1.1
  have hM : s.2.2.1.2.2.2.1 ≤ 10 := V.2.2.2.1.2.2.2.2.1
  rw [e115]
  unfold sp_go at hQ
  simp only [s115_0, s115_1, s115_2, s115_5, s115_6, s115_7, s115_10, s115_13, s115_14, s115_15, s115_18, s115_21, s115_22, OpV_some, OpN_some, OpA_some, OpR_some, Option.toList_some, Option.toList_none, List.cons_append, List.nil_append, true_and, and_true, nI11, or_true, true_or, or_false, false_or, mI0 H, mP0 H, mI3 H, mP3 H, mI4 H, mP4 H, mI5 H, mP5 H, mI6 H, mP6 H, mI7 H, mP7 H, mI8 H, mP8 H, mI9 H, mP9 H, mI10 H, mP10 H, mI11 H, mP11 H, mI12 H, mP12 H, mI13 H, mP13 H, mI14 H, mP14 H, mI23 H, mP23 H, mI24 H, mP24 H, mI25 H, mP25 H, mI26 H, mP26 H, mI27 H, mP27 H, mI30 H, mP30 H, mI31 H, mP31 H, mI1 H, mP1 H, mR2 H, mR15 H, mR16 H, mR17 H, mR18 H, mR19 H, mR20 H, mR21 H, mR22 H, mR28 H, mR29 H, mA0 H, mS0 H, mA1 H, mS1 H, mA2 H, mS2 H, mA3 H, mS3 H, mA4 H, mS4 H, mA5 H, mS5 H, mA6 H, mS6 H, mA7 H, mS7 H, mA8 H, mS8 H, mA9 H, mS9 H, mA10 H, mS10 H, mw_cl H, fu_s, fu_n, ua_s, ua_n, Nat.reduceBEq, lt57, lt58, lt59, lt60, lt61, lt62, lt63, lt64, lt65, lt66, lt67, lt68, m_isRider H, m_isRope H, nI_ite, R.ri, R.ro, rng_sub x (show s.2.2.1.2.1.1 < 2 ^ 30 by omega), rng_sub y (show s.2.2.1.1.1 < 2 ^ 30 by omega)]
  rcases ix x (n := s.2.2.1.2.1.1) (by omega) with ⟨j, hj, rfl⟩ | hx
  · have hx := ix_in hj (by omega)
    rcases ix y (n := s.2.2.1.1.1) (by omega) with ⟨k, hk, rfl⟩ | hy
    · have hy := ix_in hk (by omega)
      obtain ⟨-, hr⟩ := V.2.2.2.1.2.2.1
      obtain ⟨r1, r2, r3, r4', r5, r6⟩ := hr j hj
      obtain ⟨g1, g2, g3, g4, g5, g6, g7⟩ := (V.2.2.2.1.1).2 k hk
      obtain ⟨d0, d1, d3, d4⟩ := R.nw.1 j hj
      obtain ⟨b3, b4⟩ := R.nw.2.1 k hk
      obtain ⟨c0, c1, c2⟩ := R.rp k hk
      have dg := R.gr j hj
      simp only [hx, hy, and_self, if_true, cl_of (show j < 2 ^ 31 by omega), cl_of (show k < 2 ^ 31 by omega), sp_goN] at hQ
      simp only [hx, hy, and_self, not_true, if_false, if_true, OpV_some, OpN_some, OpA_some, OpR_some, Option.toList_some, Option.toList_none, List.cons_append, List.nil_append, true_and, and_true, nI11, or_true, true_or, or_false, false_or, s115_23, s115_24, s115_25, s115_26, s115_27, s115_28, s115_31, s115_32, s115_33, s115_34, s115_35, s115_36, s115_39, s115_40, s115_43, s115_45, s115_46, s115_47, s115_48, s115_49, s115_52, s115_53, s115_54, s115_55, s115_58, s115_59, s115_60, s115_63, s115_66, s115_68, mI0 H, mP0 H, mI3 H, mP3 H, mI4 H, mP4 H, mI5 H, mP5 H, mI6 H, mP6 H, mI7 H, mP7 H, mI8 H, mP8 H, mI9 H, mP9 H, mI10 H, mP10 H, mI11 H, mP11 H, mI12 H, mP12 H, mI13 H, mP13 H, mI14 H, mP14 H, mI23 H, mP23 H, mI24 H, mP24 H, mI25 H, mP25 H, mI26 H, mP26 H, mI27 H, mP27 H, mI30 H, mP30 H, mI31 H, mP31 H, mI1 H, mP1 H, mR2 H, mR15 H, mR16 H, mR17 H, mR18 H, mR19 H, mR20 H, mR21 H, mR22 H, mR28 H, mR29 H, mA0 H, mS0 H, mA1 H, mS1 H, mA2 H, mS2 H, mA3 H, mS3 H, mA4 H, mS4 H, mA5 H, mS5 H, mA6 H, mS6 H, mA7 H, mS7 H, mA8 H, mS8 H, mA9 H, mS9 H, mA10 H, mS10 H, mw_cl H, fu_s, fu_n, ua_s, ua_n, Nat.reduceBEq, lt57, lt58, lt59, lt60, lt61, lt62, lt63, lt64, lt65, lt66, lt67, lt68, pk_mul, nI_add, in_nI (show 4 * j < 134 by omega) (show 134 < 2 ^ 31 by omega), cl_nI (show 4 * j < 2 ^ 31 by omega), in_nI (show 4 * j + 3 < 134 by omega) (show 134 < 2 ^ 31 by omega), cl_nI (show 4 * j + 3 < 2 ^ 31 by omega), in_nI (show 24 + k < 134 by omega) (show 134 < 2 ^ 31 by omega), cl_nI (show 24 + k < 2 ^ 31 by omega), d0, d4, b4, nI_eqN (show s.2.2.1.2.1.2 (j * 5 + 4) < 2 ^ 31 by omega) (show 1 < 2 ^ 31 by omega), nI_eqN (show s.2.2.1.1.2 (k * 5 + 4) < 2 ^ 31 by omega) (show 1 < 2 ^ 31 by omega), m_hangs H (R.stM V) hk (show s.2.2.1.2.1.2 (j * 5) < 2 ^ 30 by omega), nI_ite]
      by_cases h1 : s.2.2.1.2.1.2 (j * 5 + 4) = 1
      · simp only [h1, if_true] at hQ ⊢
        exact hQ _ _ (R.th _)
      · simp only [h1, if_false] at hQ ⊢
        by_cases h2 : s.2.2.1.1.2 (k * 5 + 4) = 1
        · have hc : ¬ (canB s.2.2.1.1.2 s.2.2.1.1.1 k (s.2.2.1.2.1.2 (j * 5)) = true ∧ (sp_goR s j k).1 ≤ 999) := fun q => by
            have := q.1
            unfold canB at this
            simp [h2] at this
          simp only [hc, if_false] at hQ
          simp only [h2, if_true]
          exact hQ _ _ (R.th _)
        · by_cases h3 : s.2.2.1.1.2 (k * 5) = s.2.2.1.2.1.2 (j * 5) ∨ s.2.2.1.1.2 (k * 5 + 1) = s.2.2.1.2.1.2 (j * 5)
          · have hc : canB s.2.2.1.1.2 s.2.2.1.1.1 k (s.2.2.1.2.1.2 (j * 5)) = true := by
              unfold canB
              have h0 : s.2.2.1.1.2 (k * 5 + 4) = 0 := by omega
              simp [hk, h0, h3]
            simp only [hc, true_and] at hQ
            simp only [h2, h3, not_true, if_false, OpV_some, OpN_some, OpA_some, OpR_some, Option.toList_some, Option.toList_none, List.cons_append, List.nil_append, true_and, and_true, nI11, or_true, true_or, or_false, false_or, s115_69, s115_70, s115_73, s115_74, s115_75, s115_76, s115_77, s115_78, s115_79, s115_81, s115_82, s115_83, s115_85, s115_86, s115_89, s115_90, s115_91, s115_92, s115_95, s115_96, s115_97, s115_98, s115_99, s115_100, s115_103, s115_104, s115_105, s115_106, s115_107, s115_108, s115_109, s115_112, s115_113, s115_116, s115_119, s115_122, s115_124, mI0 H, mP0 H, mI3 H, mP3 H, mI4 H, mP4 H, mI5 H, mP5 H, mI6 H, mP6 H, mI7 H, mP7 H, mI8 H, mP8 H, mI9 H, mP9 H, mI10 H, mP10 H, mI11 H, mP11 H, mI12 H, mP12 H, mI13 H, mP13 H, mI14 H, mP14 H, mI23 H, mP23 H, mI24 H, mP24 H, mI25 H, mP25 H, mI26 H, mP26 H, mI27 H, mP27 H, mI30 H, mP30 H, mI31 H, mP31 H, mI1 H, mP1 H, mR2 H, mR15 H, mR16 H, mR17 H, mR18 H, mR19 H, mR20 H, mR21 H, mR22 H, mR28 H, mR29 H, mA0 H, mS0 H, mA1 H, mS1 H, mA2 H, mS2 H, mA3 H, mS3 H, mA4 H, mS4 H, mA5 H, mS5 H, mA6 H, mS6 H, mA7 H, mS7 H, mA8 H, mS8 H, mA9 H, mS9 H, mA10 H, mS10 H, mw_cl H, fu_s, fu_n, ua_s, ua_n, Nat.reduceBEq, lt57, lt58, lt59, lt60, lt61, lt62, lt63, lt64, lt65, lt66, lt67, lt68, pk_mul, nI_add, in_nI (show 4 * k + 2 < 64 by omega) (show 64 < 2 ^ 31 by omega), cl_nI (show 4 * k + 2 < 2 ^ 31 by omega), in_nI (show 4 * j < 134 by omega) (show 134 < 2 ^ 31 by omega), cl_nI (show 4 * j < 2 ^ 31 by omega), in_nI (show 4 * j + 1 < 134 by omega) (show 134 < 2 ^ 31 by omega), cl_nI (show 4 * j + 1 < 2 ^ 31 by omega), in_nI (show 3 * j + 1 < 24 by omega) (show 24 < 2 ^ 31 by omega), cl_nI (show 3 * j + 1 < 2 ^ 31 by omega), c2, d0, d1, dg, m_rides H (R.stM V) hk r1 h3 (show s.2.2.1.2.1.2 (j * 5 + 1) < 10000 by omega) r4', r4_25]
            have hR25 : rid s.2.1.2 s.2.2.1.1.2 k (s.2.2.1.2.1.2 (j * 5 + 2)) (s.2.2.1.2.1.2 (j * 5)) (s.2.2.1.2.1.2 (j * 5 + 1)) = sp_goR s j k := rfl
            rw [hR25]
            have hbd : (sp_goR s j k).1 < 2 ^ 30 := by
              have := rid_lt s.2.1.2 (V.2.2.2.1.1) hk (G := s.2.2.1.2.1.2 (j * 5 + 2)) (s := s.2.2.1.2.1.2 (j * 5)) (t := s.2.2.1.2.1.2 (j * 5 + 1)) r4'
              rw [hR25] at this
              omega
            generalize sp_goR s j k = x at hQ hbd
            simp only [nI_ltN (show 999 < 2 ^ 31 by omega) (show x.1 < 2 ^ 31 by omega)]
            by_cases h9 : x.1 ≤ 999
            · simp only [h9, if_true] at hQ
              have h2 := nts_R (so := 0) (r := j) (O := s.2.2.1.2.1.2) (v0 := nI 0) (v1 := nI j) (v2 := nI (s.2.2.1.2.1.2 (j * 5))) (v3 := nI (s.2.2.1.2.1.2 (j * 5 + 1))) (v4 := nI (s.2.2.1.2.1.2 (j * 5 + 3))) (v5 := nI (s.2.2.1.2.1.2 (j * 5 + 4))) R.nw hD hP h8 ⟨fun _ => ⟨rfl, rfl, rfl, rfl, rfl, rfl⟩, fun q => absurd q (by decide)⟩
              simp only [show ¬ 999 < x.1 by omega, if_false, OpV_some, OpN_some, OpA_some, OpR_some, Option.toList_some, Option.toList_none, List.cons_append, List.nil_append, true_and, and_true, nI11, or_true, true_or, or_false, false_or, s115_125, s115_126, s115_127, s115_128, s115_129, s115_132, s115_133, s115_134, s115_135, s115_138, s115_139, s115_140, s115_141, s115_142, s115_143, s115_146, s115_147, s115_148, s115_149, s115_150, s115_151, s115_154, s115_155, s115_156, s115_157, s115_158, mI0 H, mP0 H, mI3 H, mP3 H, mI4 H, mP4 H, mI5 H, mP5 H, mI6 H, mP6 H, mI7 H, mP7 H, mI8 H, mP8 H, mI9 H, mP9 H, mI10 H, mP10 H, mI11 H, mP11 H, mI12 H, mP12 H, mI13 H, mP13 H, mI14 H, mP14 H, mI23 H, mP23 H, mI24 H, mP24 H, mI25 H, mP25 H, mI26 H, mP26 H, mI27 H, mP27 H, mI30 H, mP30 H, mI31 H, mP31 H, mI1 H, mP1 H, mR2 H, mR15 H, mR16 H, mR17 H, mR18 H, mR19 H, mR20 H, mR21 H, mR22 H, mR28 H, mR29 H, mA0 H, mS0 H, mA1 H, mS1 H, mA2 H, mS2 H, mA3 H, mS3 H, mA4 H, mS4 H, mA5 H, mS5 H, mA6 H, mS6 H, mA7 H, mS7 H, mA8 H, mS8 H, mA9 H, mS9 H, mA10 H, mS10 H, mw_cl H, fu_s, fu_n, ua_s, ua_n, Nat.reduceBEq, lt57, lt58, lt59, lt60, lt61, lt62, lt63, lt64, lt65, lt66, lt67, lt68, nI_add, in_nI (show 4 * j < 134 by omega) (show 134 < 2 ^ 31 by omega), cl_nI (show 4 * j < 2 ^ 31 by omega), in_nI (show 4 * j + 1 < 134 by omega) (show 134 < 2 ^ 31 by omega), cl_nI (show 4 * j + 1 < 2 ^ 31 by omega), in_nI (show 4 * j + 2 < 134 by omega) (show 134 < 2 ^ 31 by omega), cl_nI (show 4 * j + 2 < 2 ^ 31 by omega), in_nI (show 4 * j + 3 < 134 by omega) (show 134 < 2 ^ 31 by omega), cl_nI (show 4 * j + 3 < 2 ^ 31 by omega), d0, d1, d3, d4, m_notes H hD R.nw.2.2.1]
              generalize nts (A 5) s.2.2.1.2.2.1.1 (nI 0) (nI j) (nI (s.2.2.1.2.1.2 (j * 5))) (nI (s.2.2.1.2.1.2 (j * 5 + 1))) (nI (s.2.2.1.2.1.2 (j * 5 + 3))) (nI (s.2.2.1.2.1.2 (j * 5 + 4))) = f2 at h2
              have h93 : ua A 5 f2 5 93 = nI s.2.2.1.2.2.2.1 := by rw [ua_s]; exact h2.2.2.2.2.1
              have hD2 : adN 10 s.2.2.1.2.2.1.1 ≤ 10 := by unfold adN; split <;> omega
              have h3 := krs_R (r := j) (k := k) (tk := fat s.2.2.1.1.2 k (s.2.2.1.2.1.2 (j * 5)) (s.2.2.1.2.1.2 (j * 5 + 1))) (en := x.1) h2 hM hD2 hP h8
              simp only [OpV_some, OpN_some, OpA_some, OpR_some, Option.toList_some, Option.toList_none, List.cons_append, List.nil_append, true_and, and_true, nI11, or_true, true_or, or_false, false_or, s115_161, s115_162, s115_163, s115_164, mI0 H, mP0 H, mI3 H, mP3 H, mI4 H, mP4 H, mI5 H, mP5 H, mI6 H, mP6 H, mI7 H, mP7 H, mI8 H, mP8 H, mI9 H, mP9 H, mI10 H, mP10 H, mI11 H, mP11 H, mI12 H, mP12 H, mI13 H, mP13 H, mI14 H, mP14 H, mI23 H, mP23 H, mI24 H, mP24 H, mI25 H, mP25 H, mI26 H, mP26 H, mI27 H, mP27 H, mI30 H, mP30 H, mI31 H, mP31 H, mI1 H, mP1 H, mR2 H, mR15 H, mR16 H, mR17 H, mR18 H, mR19 H, mR20 H, mR21 H, mR22 H, mR28 H, mR29 H, mA0 H, mS0 H, mA1 H, mS1 H, mA2 H, mS2 H, mA3 H, mS3 H, mA4 H, mS4 H, mA5 H, mS5 H, mA6 H, mS6 H, mA7 H, mS7 H, mA8 H, mS8 H, mA9 H, mS9 H, mA10 H, mS10 H, mw_cl H, fu_s, fu_n, ua_s, ua_n, Nat.reduceBEq, lt57, lt58, lt59, lt60, lt61, lt62, lt63, lt64, lt65, lt66, lt67, lt68, ua_ua, m_keepsRide H hM h93, r4_24, r4_25]
              change NowR (krs f2 s.2.2.1.2.2.2.1 (nI j) (nI k) (nI (fat s.2.2.1.1.2 k (s.2.2.1.2.1.2 (j * 5)) (s.2.2.1.2.1.2 (j * 5 + 1)))) (nI x.1)) _ at h3
              generalize krs f2 s.2.2.1.2.2.2.1 (nI j) (nI k) (nI (fat s.2.2.1.1.2 k (s.2.2.1.2.1.2 (j * 5)) (s.2.2.1.2.1.2 (j * 5 + 1)))) (nI x.1) = f3 at h3
              have e3 : f3 (4 * j + 2) = nI (s.2.2.1.2.1.2 (j * 5 + 3)) := (h3.1 j hj).2.2.1
              rw [m_go_tail H (show j < 4 by omega) (r4_25 _ _ _ _ _) (r4_26 _ _ _ _ _) (r4_27 _ _ _ _ _) e3 (by omega) (by omega) (ua_s A 5 f3), ua_ua]
              have i0 := h3.setP hP (r := j) (c := 0) (c' := 0) (v := x.2.1) hj (by decide)
              have i1 := i0.setP hP (r := j) (c := 1) (c' := 1) (v := x.1) hj (by decide)
              have i2 := i1.setP hP (r := j) (c := 2) (c' := 3) (v := s.2.2.1.2.1.2 (j * 5 + 3) - s.2.2.1.1.2 (k * 5 + 2)) hj (by decide)
              have i3 := i2.setP hP (r := j) (c := 3) (c' := 4) (v := if x.2.2 = true then 1 else 0) hj (by decide)
              refine hQ _ _ (Rel.onNow (A := A) (s := s) (R.cg rfl rfl rfl rfl rfl fun _ _ => rfl) i3 rfl rfl (fun k hk => ⟨rfl, rfl, rfl⟩) (fun r hr => ?_))
              exact (((upN_n _ _ (by omega)).trans (upN_n _ _ (by omega))).trans (upN_n _ _ (by omega))).trans (upN_n _ _ (by omega))
            · simp only [h9, if_false] at hQ
              simp only [show 999 < x.1 by omega, if_true]
              exact hQ _ _ (R.cg rfl rfl rfl rfl rfl fun _ _ => rfl)
          · have hc : ¬ (canB s.2.2.1.1.2 s.2.2.1.1.1 k (s.2.2.1.2.1.2 (j * 5)) = true ∧ (sp_goR s j k).1 ≤ 999) := fun q => by
              have := q.1
              unfold canB at this
              simp at this
              exact h3 this.2.2
            simp only [hc, if_false] at hQ
            simp only [h2, h3, not_false_eq_true, if_true, if_false]
            exact hQ _ _ (R.th _)
    · simp only [hx, hy, and_false, if_false] at hQ
      simp only [hx, hy, and_self, not_true, not_false_eq_true, if_false, if_true, s115_21, s115_22, OpV_some, OpN_some, OpA_some, OpR_some, Option.toList_some, Option.toList_none, List.cons_append, List.nil_append, true_and, and_true, nI11, or_true, true_or, or_false, false_or]
      exact hQ _ _ (R.th _)
  · simp only [hx, false_and, if_false] at hQ
    simp only [hx, not_false_eq_true, if_true, s115_21, s115_22, OpV_some, OpN_some, OpA_some, OpR_some, Option.toList_some, Option.toList_none, List.cons_append, List.nil_append, true_and, and_true, nI11, or_true, true_or, or_false, false_or]
    exact hQ _ _ (R.th _)
end MGO
