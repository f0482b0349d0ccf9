/-! city by the reference: from its start -/
def on1 (f : Nat → Int32) (e : Nat) : Nat → Int32 := fun u => if 8 ≤ u ∧ u < e then nI 1 else f u
theorem on1_0 (f : Nat → Int32) : on1 f 8 = f := by funext u; unfold on1; rw [if_neg (by omega)]
theorem on1_up (f : Nat → Int32) {e : Nat} (h : 8 ≤ e) : upd (on1 f e) e (nI 1) = on1 f (e + 1) := by
  funext u
  unfold upd on1
  by_cases q : u = e
  · subst q; rw [if_pos rfl, if_pos (by omega)]
  · rw [if_neg q]
    by_cases h2 : 8 ≤ u ∧ u < e
    · rw [if_pos h2, if_pos (by omega)]
    · rw [if_neg h2, if_neg (by omega)]
section MCITYC
variable {X : am_X} {d : Nat} {Q : am_Q} {u w : am_W} {tr : Int64} {A : Nat → Nat → Int32} {a : Nat → Int32} {s : CSt}
theorem m_ct1 (H : 69 ≤ u.length) (f1 f2 : Nat → Int32) (l1 : Int32) (l3 : Option Value) : ∀ (n e : Nat), 8 ≤ e → e + n = 16 → Wp X (Cl X d) 98 Q (35, [some (.ref 57), some (.int l1), some (.int (nI e)), l3], [], mw u tr a (ua (ua A 1 (on1 f1 e)) 2 (on1 f2 e)), 0, 0) = Wp X (Cl X d) 98 Q (61, [some (.ref 57), some (.int l1), some (.int (nI 16)), l3], [], mw u tr a (ua (ua A 1 (on1 f1 16)) 2 (on1 f2 16)), 0, 0)
  | 0, e, h8, he => by
    have : e = 16 := by omega
    subst this
    rw [s98_35]
    simp only [s98_36, s98_38, OpV_some, OpN_some, OpA_some, OpR_some, Option.toList_some, Option.toList_none, List.cons_append, List.nil_append, true_and, and_true, nI11, or_true, true_or, or_false, false_or, show (nI 16 < nI 16) = False by decide, if_false]
  | n + 1, e, h8, he => by
    have ih := m_ct1 H f1 f2 l1 l3 n (e + 1) (by omega) (by omega)
    have cm : ∀ g1 g2 g3, ua (ua (ua A 1 g1) 2 g2) 1 g3 = ua (ua A 1 g3) 2 g2 := fun g1 g2 g3 => by
      funext j
      unfold ua
      by_cases q : j = 1
      · subst q; rfl
      · rw [if_neg q, if_neg q, if_neg q]
    rw [s98_35]
    simp only [s98_36, s98_38, s98_41, s98_42, s98_45, s98_46, s98_47, s98_48, s98_49, s98_52, s98_53, s98_54, s98_55, s98_58, OpV_some, OpN_some, OpA_some, OpR_some, Option.toList_some, Option.toList_none, List.cons_append, List.nil_append, true_and, and_true, nI11, or_true, true_or, or_false, false_or, mI0 H, mP0 H, mI3 H, mP3 H, mI4 H, mP4 H, mI5 H, mP5 H, mI6 H, mP6 H, mI7 H, mP7 H, mI8 H, mP8 H, mI9 H, mP9 H, mI10 H, mP10 H, mI11 H, mP11 H, mI12 H, mP12 H, mI13 H, mP13 H, mI14 H, mP14 H, mI23 H, mP23 H, mI24 H, mP24 H, mI25 H, mP25 H, mI26 H, mP26 H, mI27 H, mP27 H, mI30 H, mP30 H, mI31 H, mP31 H, mI1 H, mP1 H, mR2 H, mR15 H, mR16 H, mR17 H, mR18 H, mR19 H, mR20 H, mR21 H, mR22 H, mR28 H, mR29 H, mA0 H, mS0 H, mA1 H, mS1 H, mA2 H, mS2 H, mA3 H, mS3 H, mA4 H, mS4 H, mA5 H, mS5 H, mA6 H, mS6 H, mA7 H, mS7 H, mA8 H, mS8 H, mA9 H, mS9 H, mA10 H, mS10 H, mw_cl H, fu_s, fu_n, ua_s, ua_n, Nat.reduceBEq, lt57, lt58, lt59, lt60, lt61, lt62, lt63, lt64, lt65, lt66, lt67, lt68, ua_ua, nI_ltN (show e < 2 ^ 31 by omega) (show 16 < 2 ^ 31 by omega), show e < 16 by omega, if_true, nI_add, in_nI (show e < 16 by omega) (show 16 < 2 ^ 31 by omega), cl_nI (show e < 2 ^ 31 by omega), on1_up f1 h8, on1_up f2 h8, cm]
    exact ih
theorem m_city (H : 69 ≤ u.length) (R : Rel tr a A s) (V : Valid s) (t : TS) (r : RSt) (B N : Nat → Nat) (hQ : ∀ a' A', Rel tr a' A' (sp_city s t r B N).2 → Q (some (.int (sp_city s t r B N).1)) (mw u tr a' A')) : Cl X (d + 9) 98 [.ref 57] (mw u tr a A) Q := by
  have hle := V.1
  have hB : ∀ i, i < s.1.1 → cpN s.1.2 B s.1.1 i < 256 := fun i hi => by unfold cpN; rw [if_pos hi]; exact V.2.1 i hi
  have hBs : ∀ i, i < s.1.1 → cpN s.1.2 B s.1.1 i = s.1.2 i := fun i hi => by unfold cpN; rw [if_pos hi]
  have ht : (t.1, 0, t.2.2).2.1 ≤ s.1.1 := Nat.zero_le _
  obtain ⟨k1, k2, k3, k4, k5, k6⟩ := tkn_ok (cpN s.1.2 B s.1.1) ht
  rw [e98]
  simp only [s98_0, s98_1, s98_2, s98_5, s98_6, s98_7, s98_10, s98_11, s98_12, s98_15, s98_16, s98_17, s98_18, s98_19, s98_22, s98_23, s98_24, s98_27, s98_28, s98_29, s98_32, s98_34, OpV_some, OpN_some, OpA_some, OpR_some, Option.toList_some, Option.toList_none, List.cons_append, List.nil_append, true_and, and_true, nI11, or_true, true_or, or_false, false_or, mI0 H, mP0 H, mI3 H, mP3 H, mI4 H, mP4 H, mI5 H, mP5 H, mI6 H, mP6 H, mI7 H, mP7 H, mI8 H, mP8 H, mI9 H, mP9 H, mI10 H, mP10 H, mI11 H, mP11 H, mI12 H, mP12 H, mI13 H, mP13 H, mI14 H, mP14 H, mI23 H, mP23 H, mI24 H, mP24 H, mI25 H, mP25 H, mI26 H, mP26 H, mI27 H, mP27 H, mI30 H, mP30 H, mI31 H, mP31 H, mI1 H, mP1 H, mR2 H, mR15 H, mR16 H, mR17 H, mR18 H, mR19 H, mR20 H, mR21 H, mR22 H, mR28 H, mR29 H, mA0 H, mS0 H, mA1 H, mS1 H, mA2 H, mS2 H, mA3 H, mS3 H, mA4 H, mS4 H, mA5 H, mS5 H, mA6 H, mS6 H, mA7 H, mS7 H, mA8 H, mS8 H, mA9 H, mS9 H, mA10 H, mS10 H, mw_cl H, fu_s, fu_n, ua_s, ua_n, Nat.reduceBEq, lt57, lt58, lt59, lt60, lt61, lt62, lt63, lt64, lt65, lt66, lt67, lt68]
  have E1 := m_ct1 (X := X) (d := d + 8) (Q := Q) (tr := tr) (a := fu (fu (fu (fu (fu (fu a 0 (nI 0)) 8 (-1)) 4 (nI 0)) 12 (nI 4)) 13 (nI 0)) 14 (nI 0)) (A := A) H (A 1) (A 2) (nI 0) none 8 8 (Nat.le_refl _) (by omega)
  have i12 : ua (ua A 1 (A 1)) 2 (A 2) = A := by rw [ua_id, ua_id]
  rw [on1_0, on1_0, i12] at E1
  rw [E1]
  have R1 : Rel tr (fu (fu (fu (fu (fu (fu a 0 (nI 0)) 8 (-1)) 4 (nI 0)) 12 (nI 4)) 13 (nI 0)) 14 (nI 0)) (ua (ua A 1 (on1 (A 1) 16)) 2 (on1 (A 2) 16)) s := by
    refine R.dft V rfl rfl rfl rfl rfl ?_ ?_ ?_ ?_ ?_ (fun j hj => ?_) (fun j hj => ?_) (fun j hj => ?_) (fun j hj => ?_)
    · rfl
    · rfl
    · rfl
    · rfl
    · rfl
    · show on1 (A 1) 16 j = A 1 j
      exact if_neg (by omega)
    · show on1 (A 2) 16 j = A 2 j
      exact if_neg (by omega)
    · rfl
    · rfl
  have d1 : D1 (ua (ua A 1 (on1 (A 1) 16)) 2 (on1 (A 2) 16)) := fun q hq => ⟨if_pos (by omega), if_pos (by omega)⟩
  have hA : ∀ i, i < s.1.1 → (ua (ua A 1 (on1 (A 1) 16)) 2 (on1 (A 2) 16)) 0 i = nI (cpN s.1.2 B s.1.1 i) := fun i hi => by rw [hBs i hi]; exact R.tx i hi
  simp only [s98_61, s98_62, OpV_some, OpN_some, OpA_some, OpR_some, Option.toList_some, Option.toList_none, List.cons_append, List.nil_append, true_and, and_true, nI11, or_true, true_or, or_false, false_or, mI0 H, mP0 H, mI3 H, mP3 H, mI4 H, mP4 H, mI5 H, mP5 H, mI6 H, mP6 H, mI7 H, mP7 H, mI8 H, mP8 H, mI9 H, mP9 H, mI10 H, mP10 H, mI11 H, mP11 H, mI12 H, mP12 H, mI13 H, mP13 H, mI14 H, mP14 H, mI23 H, mP23 H, mI24 H, mP24 H, mI25 H, mP25 H, mI26 H, mP26 H, mI27 H, mP27 H, mI30 H, mP30 H, mI31 H, mP31 H, mI1 H, mP1 H, mR2 H, mR15 H, mR16 H, mR17 H, mR18 H, mR19 H, mR20 H, mR21 H, mR22 H, mR28 H, mR29 H, mA0 H, mS0 H, mA1 H, mS1 H, mA2 H, mS2 H, mA3 H, mS3 H, mA4 H, mS4 H, mA5 H, mS5 H, mA6 H, mS6 H, mA7 H, mS7 H, mA8 H, mS8 H, mA9 H, mS9 H, mA10 H, mS10 H, mw_cl H, fu_s, fu_n, ua_s, ua_n, Nat.reduceBEq, lt57, lt58, lt59, lt60, lt61, lt62, lt63, lt64, lt65, lt66, lt67, lt68]
  refine m_adv (B := cpN s.1.2 B s.1.1) (le := s.1.1) (t := (t.1, 0, t.2.2)) H R1.ty hA hle hB rfl ht fun v hv => ?_
  simp only [Option.toList_none, List.nil_append]
  refine m_city_loop (le := s.1.1) (B := cpN s.1.2 B s.1.1) H V hle hB rfl hBs 300 0 (tkn (cpN s.1.2 B s.1.1) s.1.1 (t.1, 0, t.2.2)) ((4, ssl 4 0 r.1.2), (0, r.2.1.2), (0, r.2.2.2)) N _ _ _ _ (by omega) (Nat.zero_le _) k2 k3 k4 k6 ?_ (fun _ => ⟨rfl, rfl, d1⟩) ?_ ⟨rfl, rfl, rfl, hv⟩ ?_ rfl ?_
  · refine ⟨⟨by show 2 ≤ 4; decide, by show 4 ≤ 8; decide, fun q hq => ?_⟩, ⟨by show 0 ≤ 8; decide, fun k hk => absurd hk (Nat.not_lt_zero _)⟩, fun k hk => absurd hk (Nat.not_lt_zero _), ⟨by show 0 ≤ 4; decide, fun k hk => absurd hk (Nat.not_lt_zero _)⟩, fun k hk => absurd hk (Nat.not_lt_zero _)⟩
    have hq2 : q < 4 := hq
    show 1 ≤ ssl 4 0 r.1.2 (q * 2) ∧ ssl 4 0 r.1.2 (q * 2) ≤ 9 ∧ 1 ≤ ssl 4 0 r.1.2 (q * 2 + 1) ∧ ssl 4 0 r.1.2 (q * 2 + 1) ≤ 9
    rw [ssl_at, ssl_at, if_pos (by omega), if_pos (by omega)]
    decide
  · exact R1.cg rfl rfl rfl rfl rfl fun _ _ => rfl
  · refine ⟨rfl, rfl, rfl, fun q hq => ?_, fun k hk => absurd hk (Nat.not_lt_zero _), fun k hk => absurd hk (Nat.not_lt_zero _)⟩
    have hq2 : q < 4 := hq
    show (ua (ua A 1 (on1 (A 1) 16)) 2 (on1 (A 2) 16)) 1 (8 + q) = nI (ssl 4 0 r.1.2 (q * 2)) ∧ (ua (ua A 1 (on1 (A 1) 16)) 2 (on1 (A 2) 16)) 2 (8 + q) = nI (ssl 4 0 r.1.2 (q * 2 + 1))
    rw [ssl_at, ssl_at, if_pos (by omega), if_pos (by omega)]
    exact d1 q (by omega)
  · intro a' A' RR
    unfold sp_city rdF at hQ
    by_cases q : (rlp (cpN s.1.2 B s.1.1) s.1.1 300 0 (tkn (cpN s.1.2 B s.1.1) s.1.1 (t.1, 0, t.2.2)) ((4, ssl 4 0 r.1.2), (0, r.2.1.2), (0, r.2.2.2)) N).1 < 0
    · rw [if_pos q] at RR hQ
      exact hQ a' A' RR
    · rw [if_neg q] at RR hQ
      exact hQ a' A' RR
end MCITYC
