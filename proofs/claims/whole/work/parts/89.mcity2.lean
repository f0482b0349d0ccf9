/-! city by the reference: all items -/
theorem m10_neg {n : Nat} (h : n < 2 ^ 20) : (-10 - nI n < 0) = True := by
  apply eq_true
  rw [Int32.lt_iff_toInt_lt, Int32.toInt_sub, nI_toInt (by omega)]
  have e : (-10 : Int32).toInt = -10 := by decide
  have z : (0 : Int32).toInt = 0 := rfl
  rw [e, z, Int.bmod_eq_of_le] <;> omega
theorem rit_no {B : Nat → Nat} {le it : Nat} {t : TS} {r : RSt} {N : Nat → Nat} (h : ¬ (itW B t.1 t.2.1 t.2.2.1 < 4 ∧ mayB (itW B t.1 t.2.1 t.2.2.1) it r.2.1.1 r.2.2.1 = true)) : rit B le it t r N = (false, t, r, N) := if_neg h
theorem rit_nums {B : Nat → Nat} {le it : Nat} {t : TS} {r : RSt} {N : Nat → Nat} (h : itW B t.1 t.2.1 t.2.2.1 < 4 ∧ mayB (itW B t.1 t.2.1 t.2.2.1) it r.2.1.1 r.2.2.1 = true) (h2 : (rdn B le (itW B t.1 t.2.1 t.2.2.1) r.1.1 (numC (itW B t.1 t.2.1 t.2.2.1)) 0 t N).1 = false) : (rit B le it t r N).1 = false ∧ (rit B le it t r N).2.1 = (rdn B le (itW B t.1 t.2.1 t.2.2.1) r.1.1 (numC (itW B t.1 t.2.1 t.2.2.1)) 0 t N).2.1 := by
  unfold rit
  rw [if_pos h, if_neg (by rw [h2]; decide)]
  exact ⟨rfl, rfl⟩
theorem rit_yes {B : Nat → Nat} {le it : Nat} {t : TS} {r : RSt} {N : Nat → Nat} (h : itW B t.1 t.2.1 t.2.2.1 < 4 ∧ mayB (itW B t.1 t.2.1 t.2.2.1) it r.2.1.1 r.2.2.1 = true) (h2 : (rdn B le (itW B t.1 t.2.1 t.2.2.1) r.1.1 (numC (itW B t.1 t.2.1 t.2.2.1)) 0 t N).1 = true) : rit B le it t r N = if (tkn B le (rdn B le (itW B t.1 t.2.1 t.2.2.1) r.1.1 (numC (itW B t.1 t.2.1 t.2.2.1)) 0 t N).2.1).2.2.1 = 3 then (true, tkn B le (rdn B le (itW B t.1 t.2.1 t.2.2.1) r.1.1 (numC (itW B t.1 t.2.1 t.2.2.1)) 0 t N).2.1, adI (itW B t.1 t.2.1 t.2.2.1) (rdn B le (itW B t.1 t.2.1 t.2.2.1) r.1.1 (numC (itW B t.1 t.2.1 t.2.2.1)) 0 t N).2.2 r, (rdn B le (itW B t.1 t.2.1 t.2.2.1) r.1.1 (numC (itW B t.1 t.2.1 t.2.2.1)) 0 t N).2.2) else (false, tkn B le (rdn B le (itW B t.1 t.2.1 t.2.2.1) r.1.1 (numC (itW B t.1 t.2.1 t.2.2.1)) 0 t N).2.1, r, (rdn B le (itW B t.1 t.2.1 t.2.2.1) r.1.1 (numC (itW B t.1 t.2.1 t.2.2.1)) 0 t N).2.2) := by
  unfold rit
  rw [if_pos h, if_pos h2]
theorem rdn_pl {B : Nat → Nat} {le k nS : Nat} : ∀ (n i : Nat) (t : TS) (N : Nat → Nat), t.1 ≤ t.2.1 → t.2.1 ≤ le → (rdn B le k nS n i t N).2.1.1 ≤ (rdn B le k nS n i t N).2.1.2.1
  | 0, i, t, N, h1, _ => h1
  | n + 1, i, t, N, h1, h2 => by
    obtain ⟨a1, a2, a3, a4, a5, a6⟩ := tkn_ok B h2
    unfold rdn
    split
    · exact rdn_pl n (i + 1) _ _ a2 a3
    · exact a2
section MCITYB
variable {X : am_X} {d : Nat} {Q : am_Q} {u w : am_W} {tr : Int64} {A : Nat → Nat → Int32} {le : Nat} {B : Nat → Nat} {a : Nat → Int32} {s : CSt}
theorem m_reads (H : 69 ≤ u.length) (R : Rel tr a A s) (V : Valid s) (h8 : a 8 < 0) (hA : ∀ i, i < le → A 0 i = nI (B i)) (h3 : a 3 = nI le) (hle : le ≤ 300) (hB : ∀ i, i < le → B i < 256) {t : TS} {r : RSt} {N : Nat → Nat} {k : Nat} (hk : k < 4) (ht : t.2.1 ≤ le) (ah : AH a B (tkn B le t)) (D : DR a A r) (hr : RdV r) (m2 : k = 2 → r.2.1.1 < 8) (m3 : k = 3 → r.2.2.1 < 4) (m0 : k = 0 → D1 A ∧ r.2.1.1 = 0 ∧ r.2.2.1 = 0)
    (hQ1 : (rdn B le k r.1.1 (numC k) 0 t N).1 = true → ∀ a' A', Rel tr a' A' s → AH a' B (tkn B le (rdn B le k r.1.1 (numC k) 0 t N).2.1) → DR a' A' (adI k (rdn B le k r.1.1 (numC k) 0 t N).2.2 r) → a' 8 = a 8 → a' 3 = a 3 → A' 0 = A 0 → Q none (mw u tr a' A'))
    (hQ2 : (rdn B le k r.1.1 (numC k) 0 t N).1 = false → ∀ a' A', Rel tr a' A' s → a' 8 = nI (rdn B le k r.1.1 (numC k) 0 t N).2.1.1 → Q none (mw u tr a' A')) : Cl X (d + 8) 97 [.ref 57, .int (nI k)] (mw u tr a A) Q := by
  rcases (show k = 0 ∨ k = 1 ∨ k = 2 ∨ k = 3 by omega) with e | e | e | e <;> subst e
  · exact m_rd0 H R V h8 hA h3 hle hB ht ah D (m0 rfl).1 (m0 rfl).2 hQ1 hQ2
  · exact m_rd1 H R V h8 hA h3 hle hB ht ah D hr.1.1 hr.1.2.1 hQ1 hQ2
  · exact m_rd2 H R V h8 hA h3 hle hB ht ah D hr.1.1 hr.1.2.1 (m2 rfl) hQ1 hQ2
  · exact m_rd3 H R V h8 hA h3 hle hB ht ah D hr.1.1 hr.1.2.1 (m3 rfl) hQ1 hQ2
theorem m_city_loop (H : 69 ≤ u.length) (V : Valid s) (hle : le ≤ 300) (hB : ∀ i, i < le → B i < 256) (hls : le = s.1.1) (hBs : ∀ i, i < le → B i = s.1.2 i) : ∀ (n it : Nat) (t : TS) (r : RSt) (N : Nat → Nat) (a : Nat → Int32) (A : Nat → Nat → Int32) (l2 : Int32) (l3 : Option Value), it + n = 300 → it ≤ t.1 → t.1 ≤ t.2.1 → t.2.1 ≤ le → t.2.2.1 ≤ 4 → (t.2.2.1 ≠ 0 → t.1 < t.2.1) → RdV r → (it = 0 → r.2.1.1 = 0 ∧ r.2.2.1 = 0 ∧ D1 A) → Rel tr a A s → AH a B t → DR a A r → a 8 = -1 →
    (∀ a' A', (if (rlp B le n it t r N).1 < 0 then Rel tr a' A' s else Rel tr a' A' (st_city s (rlp B le n it t r N).2.2.1)) → Q (some (.int (rlp B le n it t r N).1)) (mw u tr a' A')) →
    Wp X (Cl X (d + 8)) 98 Q (65, [some (.ref 57), some (.int (nI it)), some (.int l2), l3], [], mw u tr a A, 0, 0)
  | n, it, t, r, N, a, A, l2, l3, e, i1, i2, i3, i4, i5, hr, h0, R, ah, D, h8, hQ => by
    have h8' : a 8 < 0 := by rw [h8]; decide
    have h3 : a 3 = nI le := by rw [hls]; exact R.ty
    have hA : ∀ i, i < le → A 0 i = nI (B i) := fun i hi => by rw [hBs i hi]; exact R.tx i (by omega)
    have hmt := mtok_le (B := B) i4
    have e5 : a 5 = nI (mtok B t) := ah.2.1
    have eE : (nI (mtok B t) = 0) = (t.2.2.1 = 0) := by
      rw [nI_eq0 (by omega)]
      exact propext mtok0
    by_cases hE : t.2.2.1 = 0
    · have hrl : rlp B le n it t r N = (nI it, t, r, N) := by
        cases n with
        | zero => rfl
        | succ n => unfold rlp; rw [if_pos hE]
      rw [hrl] at hQ
      have hn : ¬ nI it < 0 := nneg (by omega)
      simp only [hn, if_false] at hQ
      rw [s98_65]
      simp only [s98_66, s98_69, s98_72, s98_73, s98_76, s98_203, s98_204, s98_207, s98_210, s98_212, s98_213, s98_216, s98_217, s98_218, s98_219, s98_222, s98_223, OpV_some, OpN_some, OpA_some, OpR_some, Option.toList_some, Option.toList_none, List.cons_append, List.nil_append, true_and, and_true, nI11, or_true, true_or, or_false, false_or, mI0 H, mP0 H, mI3 H, mP3 H, mI4 H, mP4 H, mI5 H, mP5 H, mI6 H, mP6 H, mI7 H, mP7 H, mI8 H, mP8 H, mI9 H, mP9 H, mI10 H, mP10 H, mI11 H, mP11 H, mI12 H, mP12 H, mI13 H, mP13 H, mI14 H, mP14 H, mI23 H, mP23 H, mI24 H, mP24 H, mI25 H, mP25 H, mI26 H, mP26 H, mI27 H, mP27 H, mI30 H, mP30 H, mI31 H, mP31 H, mI1 H, mP1 H, mR2 H, mR15 H, mR16 H, mR17 H, mR18 H, mR19 H, mR20 H, mR21 H, mR22 H, mR28 H, mR29 H, mA0 H, mS0 H, mA1 H, mS1 H, mA2 H, mS2 H, mA3 H, mS3 H, mA4 H, mS4 H, mA5 H, mS5 H, mA6 H, mS6 H, mA7 H, mS7 H, mA8 H, mS8 H, mA9 H, mS9 H, mA10 H, mS10 H, mw_cl H, fu_s, fu_n, ua_s, ua_n, Nat.reduceBEq, lt57, lt58, lt59, lt60, lt61, lt62, lt63, lt64, lt65, lt66, lt67, lt68, m_isWell H, h8', if_true, nI1z, if_false, e5, eE, eq_true hE]
      refine m_settles H R D hr fun a' A' R' => ?_
      simp only [s98_222, s98_223, OpV_some, OpN_some, OpA_some, OpR_some, Option.toList_some, Option.toList_none, List.cons_append, List.nil_append, true_and, and_true, nI11, or_true, true_or, or_false, false_or]
      exact hQ a' A' R'
    · cases n with
      | zero =>
        have := i5 hE
        omega
      | succ n =>
        have hpb := i5 hE
        unfold rlp at hQ
        rw [if_neg hE] at hQ
        obtain ⟨b, hb, hmay⟩ := m_may (X := X) (d := d + 8) (Q := Q) (tr := tr) (A := A) (a := a) (it := it) H D.2.1 D.2.2.1 hr.2.1.1 hr.2.2.2.1.1 (by omega) l2 l3
        rw [s98_65]
        simp only [s98_66, s98_69, s98_72, s98_73, s98_76, OpV_some, OpN_some, OpA_some, OpR_some, Option.toList_some, Option.toList_none, List.cons_append, List.nil_append, true_and, and_true, nI11, or_true, true_or, or_false, false_or, mI0 H, mP0 H, mI3 H, mP3 H, mI4 H, mP4 H, mI5 H, mP5 H, mI6 H, mP6 H, mI7 H, mP7 H, mI8 H, mP8 H, mI9 H, mP9 H, mI10 H, mP10 H, mI11 H, mP11 H, mI12 H, mP12 H, mI13 H, mP13 H, mI14 H, mP14 H, mI23 H, mP23 H, mI24 H, mP24 H, mI25 H, mP25 H, mI26 H, mP26 H, mI27 H, mP27 H, mI30 H, mP30 H, mI31 H, mP31 H, mI1 H, mP1 H, mR2 H, mR15 H, mR16 H, mR17 H, mR18 H, mR19 H, mR20 H, mR21 H, mR22 H, mR28 H, mR29 H, mA0 H, mS0 H, mA1 H, mS1 H, mA2 H, mS2 H, mA3 H, mS3 H, mA4 H, mS4 H, mA5 H, mS5 H, mA6 H, mS6 H, mA7 H, mS7 H, mA8 H, mS8 H, mA9 H, mS9 H, mA10 H, mS10 H, mw_cl H, fu_s, fu_n, ua_s, ua_n, Nat.reduceBEq, lt57, lt58, lt59, lt60, lt61, lt62, lt63, lt64, lt65, lt66, lt67, lt68, m_isWell H, h8', if_true, nI1z, if_false, e5, eE, hE]
        rw [hmay]
        have e1 : (nI (mtok B t) = nI 1) = (t.2.2.1 = 1 ∧ itW B t.1 t.2.1 t.2.2.1 < 4) := by
          rw [nI_eqN (by omega) (by decide)]
          exact propext mtok1
        have pl6 : a 6 = nI t.1 := ah.2.2.1
        by_cases hI : itW B t.1 t.2.1 t.2.2.1 < 4 ∧ mayB (itW B t.1 t.2.1 t.2.2.1) it r.2.1.1 r.2.2.1 = true
        · have hk1 : t.2.2.1 = 1 := itW_1 hI.1
          have ev : a 7 = nI (itW B t.1 t.2.1 t.2.2.1) := ah.2.2.2.2 hk1 hI.1
          have hbb : b = true := (hb _ hI.1 ev).trans hI.2
          obtain ⟨q2, q3, q0⟩ := mayB_2 hI.2
          obtain ⟨x1, x2, x3, x4, x5, x6⟩ := tkn_ok B i3
          simp only [s98_145, s98_146, s98_147, s98_150, s98_151, s98_154, s98_155, s98_158, s98_159, s98_162, s98_163, OpV_some, OpN_some, OpA_some, OpR_some, Option.toList_some, Option.toList_none, List.cons_append, List.nil_append, true_and, and_true, nI11, or_true, true_or, or_false, false_or, mI0 H, mP0 H, mI3 H, mP3 H, mI4 H, mP4 H, mI5 H, mP5 H, mI6 H, mP6 H, mI7 H, mP7 H, mI8 H, mP8 H, mI9 H, mP9 H, mI10 H, mP10 H, mI11 H, mP11 H, mI12 H, mP12 H, mI13 H, mP13 H, mI14 H, mP14 H, mI23 H, mP23 H, mI24 H, mP24 H, mI25 H, mP25 H, mI26 H, mP26 H, mI27 H, mP27 H, mI30 H, mP30 H, mI31 H, mP31 H, mI1 H, mP1 H, mR2 H, mR15 H, mR16 H, mR17 H, mR18 H, mR19 H, mR20 H, mR21 H, mR22 H, mR28 H, mR29 H, mA0 H, mS0 H, mA1 H, mS1 H, mA2 H, mS2 H, mA3 H, mS3 H, mA4 H, mS4 H, mA5 H, mS5 H, mA6 H, mS6 H, mA7 H, mS7 H, mA8 H, mS8 H, mA9 H, mS9 H, mA10 H, mS10 H, mw_cl H, fu_s, fu_n, ua_s, ua_n, Nat.reduceBEq, lt57, lt58, lt59, lt60, lt61, lt62, lt63, lt64, lt65, lt66, lt67, lt68, e5, e1, eq_true (show t.2.2.1 = 1 ∧ itW B t.1 t.2.1 t.2.2.1 < 4 from ⟨hk1, hI.1⟩), if_true, hbb, nI1z, if_false]
          refine m_takes H h8' h3 hA hle hB ah i3 fun v hv => ?_
          have t48 : ∀ (b : Nat → Int32) x y z v, (t4 b x y z v) 8 = b 8 := fun _ _ _ _ _ => rfl
          simp only [s98_166, s98_167, s98_168, s98_171, s98_174, s98_175, s98_176, OpV_some, OpN_some, OpA_some, OpR_some, Option.toList_some, Option.toList_none, List.cons_append, List.nil_append, true_and, and_true, nI11, or_true, true_or, or_false, false_or, mI0 H, mP0 H, mI3 H, mP3 H, mI4 H, mP4 H, mI5 H, mP5 H, mI6 H, mP6 H, mI7 H, mP7 H, mI8 H, mP8 H, mI9 H, mP9 H, mI10 H, mP10 H, mI11 H, mP11 H, mI12 H, mP12 H, mI13 H, mP13 H, mI14 H, mP14 H, mI23 H, mP23 H, mI24 H, mP24 H, mI25 H, mP25 H, mI26 H, mP26 H, mI27 H, mP27 H, mI30 H, mP30 H, mI31 H, mP31 H, mI1 H, mP1 H, mR2 H, mR15 H, mR16 H, mR17 H, mR18 H, mR19 H, mR20 H, mR21 H, mR22 H, mR28 H, mR29 H, mA0 H, mS0 H, mA1 H, mS1 H, mA2 H, mS2 H, mA3 H, mS3 H, mA4 H, mS4 H, mA5 H, mS5 H, mA6 H, mS6 H, mA7 H, mS7 H, mA8 H, mS8 H, mA9 H, mS9 H, mA10 H, mS10 H, mw_cl H, fu_s, fu_n, ua_s, ua_n, Nat.reduceBEq, lt57, lt58, lt59, lt60, lt61, lt62, lt63, lt64, lt65, lt66, lt67, lt68, m_isWell H, t48, h8', if_true, nI1z, if_false, ev]
          obtain ⟨c1, c2, c3⟩ := rdn_ok B (k := itW B t.1 t.2.1 t.2.2.1) (nS := r.1.1) (numC (itW B t.1 t.2.1 t.2.2.1)) 0 t N i3 (fun j hj => absurd hj (by omega))
          have RR : Rel tr (t4 a (nI (tkn B le t).2.1) (nI (mtok B (tkn B le t))) (nI (tkn B le t).1) v) A s := R.cg rfl rfl rfl rfl rfl fun _ _ => rfl
          refine m_reads (N := N) (t := t) H RR V (g8 h8') hA (g3 h3) hle hB hI.1 i3 ⟨rfl, rfl, rfl, hv⟩ D hr q2 q3 (fun z => ⟨(h0 (q0 z)).2.2, (h0 (q0 z)).1, (h0 (q0 z)).2.1⟩) (fun z a2 A2 R2 ah2 D2 k8 k3 k0 => ?_) (fun z a2 A2 R2 k8 => ?_)
          · have hy := rit_yes (le := le) (N := N) hI z
            have hV := adI_V hr hI.1 (fun i hi => c3 z i (by omega)) hI.2 (fun z => ⟨(h0 z).1, (h0 z).2.1⟩)
            rw [hy] at hQ
            generalize rdn B le (itW B t.1 t.2.1 t.2.2.1) r.1.1 (numC (itW B t.1 t.2.1 t.2.2.1)) 0 t N = x at c1 c2 c3 z ah2 D2 hQ hV hy
            obtain ⟨y1, y2, y3, y4, y5, y6⟩ := tkn_ok B c1
            have hm2 := mtok_le (B := B) y4
            have h82 : a2 8 < 0 := by rw [k8]; exact h8'
            have h32 : a2 3 = nI le := k3.trans h3
            have hA2 : ∀ i, i < le → A2 0 i = nI (B i) := fun i hi => by rw [k0]; exact hA i hi
            have e3 : (nI (mtok B (tkn B le x.2.1)) = nI 3) = ((tkn B le x.2.1).2.2.1 = 3) := by
              rw [nI_eqN (by omega) (by decide)]
              exact propext mtok3
            simp only [s98_179, s98_180, s98_181, s98_184, s98_185, OpV_some, OpN_some, OpA_some, OpR_some, Option.toList_some, Option.toList_none, List.cons_append, List.nil_append, true_and, and_true, nI11, or_true, true_or, or_false, false_or, mI0 H, mP0 H, mI3 H, mP3 H, mI4 H, mP4 H, mI5 H, mP5 H, mI6 H, mP6 H, mI7 H, mP7 H, mI8 H, mP8 H, mI9 H, mP9 H, mI10 H, mP10 H, mI11 H, mP11 H, mI12 H, mP12 H, mI13 H, mP13 H, mI14 H, mP14 H, mI23 H, mP23 H, mI24 H, mP24 H, mI25 H, mP25 H, mI26 H, mP26 H, mI27 H, mP27 H, mI30 H, mP30 H, mI31 H, mP31 H, mI1 H, mP1 H, mR2 H, mR15 H, mR16 H, mR17 H, mR18 H, mR19 H, mR20 H, mR21 H, mR22 H, mR28 H, mR29 H, mA0 H, mS0 H, mA1 H, mS1 H, mA2 H, mS2 H, mA3 H, mS3 H, mA4 H, mS4 H, mA5 H, mS5 H, mA6 H, mS6 H, mA7 H, mS7 H, mA8 H, mS8 H, mA9 H, mS9 H, mA10 H, mS10 H, mw_cl H, fu_s, fu_n, ua_s, ua_n, Nat.reduceBEq, lt57, lt58, lt59, lt60, lt61, lt62, lt63, lt64, lt65, lt66, lt67, lt68, ah2.2.1, e3]
            by_cases q : (tkn B le x.2.1).2.2.1 = 3
            · rw [if_pos q, if_pos rfl] at hQ
              obtain ⟨w1, w2, w3, w4, w5, w6⟩ := tkn_ok B y3
              simp only [eq_true q, if_true, s98_188, s98_189, s98_192, s98_193, OpV_some, OpN_some, OpA_some, OpR_some, Option.toList_some, Option.toList_none, List.cons_append, List.nil_append, true_and, and_true, nI11, or_true, true_or, or_false, false_or, mI0 H, mP0 H, mI3 H, mP3 H, mI4 H, mP4 H, mI5 H, mP5 H, mI6 H, mP6 H, mI7 H, mP7 H, mI8 H, mP8 H, mI9 H, mP9 H, mI10 H, mP10 H, mI11 H, mP11 H, mI12 H, mP12 H, mI13 H, mP13 H, mI14 H, mP14 H, mI23 H, mP23 H, mI24 H, mP24 H, mI25 H, mP25 H, mI26 H, mP26 H, mI27 H, mP27 H, mI30 H, mP30 H, mI31 H, mP31 H, mI1 H, mP1 H, mR2 H, mR15 H, mR16 H, mR17 H, mR18 H, mR19 H, mR20 H, mR21 H, mR22 H, mR28 H, mR29 H, mA0 H, mS0 H, mA1 H, mS1 H, mA2 H, mS2 H, mA3 H, mS3 H, mA4 H, mS4 H, mA5 H, mS5 H, mA6 H, mS6 H, mA7 H, mS7 H, mA8 H, mS8 H, mA9 H, mS9 H, mA10 H, mS10 H, mw_cl H, fu_s, fu_n, ua_s, ua_n, Nat.reduceBEq, lt57, lt58, lt59, lt60, lt61, lt62, lt63, lt64, lt65, lt66, lt67, lt68]
              refine m_takes H h82 h32 hA2 hle hB ah2 y3 fun v2 hv2 => ?_
              simp only [s98_196, s98_197, s98_200, OpV_some, OpN_some, OpA_some, OpR_some, Option.toList_some, Option.toList_none, List.cons_append, List.nil_append, true_and, and_true, nI11, or_true, true_or, or_false, false_or, nI_add]
              refine m_city_loop H V hle hB hls hBs n (it + 1) (tkn B le (tkn B le x.2.1)) _ x.2.2 _ A2 _ _ (by omega) (by omega) w2 w3 w4 w6 hV (fun z => absurd z (by omega)) (R2.cg rfl rfl rfl rfl rfl fun _ _ => rfl) ⟨rfl, rfl, rfl, hv2⟩ D2 (show a2 8 = -1 from k8.trans h8) hQ
            · rw [if_neg q, if_neg (show ¬ (false = true) by decide)] at hQ
              simp only [m10_neg (show (tkn B le x.2.1).1 < 2 ^ 20 by omega), if_true] at hQ
              have RF : Rel tr (fu a2 8 (nI (tkn B le x.2.1).1)) A2 s := R2.cg rfl rfl rfl rfl rfl fun _ _ => rfl
              have hQ := hQ _ _ RF
              have p6 : a2 6 = nI (tkn B le x.2.1).1 := ah2.2.2.1
              simp only [eq_false q, if_false, s98_192, s98_193, s98_196, s98_197, s98_200, OpV_some, OpN_some, OpA_some, OpR_some, Option.toList_some, Option.toList_none, List.cons_append, List.nil_append, true_and, and_true, nI11, or_true, true_or, or_false, false_or, mI0 H, mP0 H, mI3 H, mP3 H, mI4 H, mP4 H, mI5 H, mP5 H, mI6 H, mP6 H, mI7 H, mP7 H, mI8 H, mP8 H, mI9 H, mP9 H, mI10 H, mP10 H, mI11 H, mP11 H, mI12 H, mP12 H, mI13 H, mP13 H, mI14 H, mP14 H, mI23 H, mP23 H, mI24 H, mP24 H, mI25 H, mP25 H, mI26 H, mP26 H, mI27 H, mP27 H, mI30 H, mP30 H, mI31 H, mP31 H, mI1 H, mP1 H, mR2 H, mR15 H, mR16 H, mR17 H, mR18 H, mR19 H, mR20 H, mR21 H, mR22 H, mR28 H, mR29 H, mA0 H, mS0 H, mA1 H, mS1 H, mA2 H, mS2 H, mA3 H, mS3 H, mA4 H, mS4 H, mA5 H, mS5 H, mA6 H, mS6 H, mA7 H, mS7 H, mA8 H, mS8 H, mA9 H, mS9 H, mA10 H, mS10 H, mw_cl H, fu_s, fu_n, ua_s, ua_n, Nat.reduceBEq, lt57, lt58, lt59, lt60, lt61, lt62, lt63, lt64, lt65, lt66, lt67, lt68, m_takes_no H h82, p6]
              rw [s98_65]
              simp only [s98_66, s98_69, s98_203, s98_204, s98_207, s98_210, s98_212, s98_213, s98_216, s98_217, OpV_some, OpN_some, OpA_some, OpR_some, Option.toList_some, Option.toList_none, List.cons_append, List.nil_append, true_and, and_true, nI11, or_true, true_or, or_false, false_or, mI0 H, mP0 H, mI3 H, mP3 H, mI4 H, mP4 H, mI5 H, mP5 H, mI6 H, mP6 H, mI7 H, mP7 H, mI8 H, mP8 H, mI9 H, mP9 H, mI10 H, mP10 H, mI11 H, mP11 H, mI12 H, mP12 H, mI13 H, mP13 H, mI14 H, mP14 H, mI23 H, mP23 H, mI24 H, mP24 H, mI25 H, mP25 H, mI26 H, mP26 H, mI27 H, mP27 H, mI30 H, mP30 H, mI31 H, mP31 H, mI1 H, mP1 H, mR2 H, mR15 H, mR16 H, mR17 H, mR18 H, mR19 H, mR20 H, mR21 H, mR22 H, mR28 H, mR29 H, mA0 H, mS0 H, mA1 H, mS1 H, mA2 H, mS2 H, mA3 H, mS3 H, mA4 H, mS4 H, mA5 H, mS5 H, mA6 H, mS6 H, mA7 H, mS7 H, mA8 H, mS8 H, mA9 H, mS9 H, mA10 H, mS10 H, mw_cl H, fu_s, fu_n, ua_s, ua_n, Nat.reduceBEq, lt57, lt58, lt59, lt60, lt61, lt62, lt63, lt64, lt65, lt66, lt67, lt68, m_isWell H, nneg (show (tkn B le x.2.1).1 < 2 ^ 31 by omega), if_false, nI0z, if_true]
              exact hQ
          · obtain ⟨hz1, hz2⟩ := rit_nums (le := le) (N := N) hI z
            rw [if_neg (by rw [hz1]; decide), hz2] at hQ
            have hpl : (rdn B le (itW B t.1 t.2.1 t.2.2.1) r.1.1 (numC (itW B t.1 t.2.1 t.2.2.1)) 0 t N).2.1.1 ≤ (rdn B le (itW B t.1 t.2.1 t.2.2.1) r.1.1 (numC (itW B t.1 t.2.1 t.2.2.1)) 0 t N).2.1.2.1 := rdn_pl (numC (itW B t.1 t.2.1 t.2.2.1)) 0 t N i2 i3
            simp only [m10_neg (show (rdn B le (itW B t.1 t.2.1 t.2.2.1) r.1.1 (numC (itW B t.1 t.2.1 t.2.2.1)) 0 t N).2.1.1 < 2 ^ 20 by omega), if_true] at hQ
            have hQ := hQ a2 A2 R2
            simp only [Option.toList_none, List.nil_append]
            rw [m_ill179 H (by omega) k8]
            exact hQ
        · have hno := rit_no (le := le) (N := N) hI
          rw [hno, if_neg (show ¬ (false = true) by decide)] at hQ
          simp only [m10_neg (show t.1 < 2 ^ 20 by omega), if_true] at hQ
          have RF : Rel tr (fu a 8 (nI t.1)) A s := R.cg rfl rfl rfl rfl rfl fun _ _ => rfl
          have hQ := hQ _ _ RF
          have fin : ∀ l2' : Int32, Wp X (Cl X (d + 8)) 98 Q (163, [some (.ref 57), some (.int (nI it)), some (.int l2'), l3], [.int (nI 0), .ref 57], mw u tr a A, 0, 0) := fun l2' => by
            simp only [s98_163, s98_166, OpV_some, OpN_some, OpA_some, OpR_some, Option.toList_some, Option.toList_none, List.cons_append, List.nil_append, true_and, and_true, nI11, or_true, true_or, or_false, false_or, mI0 H, mP0 H, mI3 H, mP3 H, mI4 H, mP4 H, mI5 H, mP5 H, mI6 H, mP6 H, mI7 H, mP7 H, mI8 H, mP8 H, mI9 H, mP9 H, mI10 H, mP10 H, mI11 H, mP11 H, mI12 H, mP12 H, mI13 H, mP13 H, mI14 H, mP14 H, mI23 H, mP23 H, mI24 H, mP24 H, mI25 H, mP25 H, mI26 H, mP26 H, mI27 H, mP27 H, mI30 H, mP30 H, mI31 H, mP31 H, mI1 H, mP1 H, mR2 H, mR15 H, mR16 H, mR17 H, mR18 H, mR19 H, mR20 H, mR21 H, mR22 H, mR28 H, mR29 H, mA0 H, mS0 H, mA1 H, mS1 H, mA2 H, mS2 H, mA3 H, mS3 H, mA4 H, mS4 H, mA5 H, mS5 H, mA6 H, mS6 H, mA7 H, mS7 H, mA8 H, mS8 H, mA9 H, mS9 H, mA10 H, mS10 H, mw_cl H, fu_s, fu_n, ua_s, ua_n, Nat.reduceBEq, lt57, lt58, lt59, lt60, lt61, lt62, lt63, lt64, lt65, lt66, lt67, lt68, m_takes_no H h8', pl6]
            rw [m_ill167 H (show t.1 < 2 ^ 31 by omega) (fu_s a 8 (nI t.1))]
            exact hQ
          simp only [s98_145, s98_146, s98_147, s98_150, s98_151, s98_154, s98_155, s98_158, s98_159, s98_162, OpV_some, OpN_some, OpA_some, OpR_some, Option.toList_some, Option.toList_none, List.cons_append, List.nil_append, true_and, and_true, nI11, or_true, true_or, or_false, false_or, mI0 H, mP0 H, mI3 H, mP3 H, mI4 H, mP4 H, mI5 H, mP5 H, mI6 H, mP6 H, mI7 H, mP7 H, mI8 H, mP8 H, mI9 H, mP9 H, mI10 H, mP10 H, mI11 H, mP11 H, mI12 H, mP12 H, mI13 H, mP13 H, mI14 H, mP14 H, mI23 H, mP23 H, mI24 H, mP24 H, mI25 H, mP25 H, mI26 H, mP26 H, mI27 H, mP27 H, mI30 H, mP30 H, mI31 H, mP31 H, mI1 H, mP1 H, mR2 H, mR15 H, mR16 H, mR17 H, mR18 H, mR19 H, mR20 H, mR21 H, mR22 H, mR28 H, mR29 H, mA0 H, mS0 H, mA1 H, mS1 H, mA2 H, mS2 H, mA3 H, mS3 H, mA4 H, mS4 H, mA5 H, mS5 H, mA6 H, mS6 H, mA7 H, mS7 H, mA8 H, mS8 H, mA9 H, mS9 H, mA10 H, mS10 H, mw_cl H, fu_s, fu_n, ua_s, ua_n, Nat.reduceBEq, lt57, lt58, lt59, lt60, lt61, lt62, lt63, lt64, lt65, lt66, lt67, lt68, e5, e1]
          by_cases z : t.2.2.1 = 1 ∧ itW B t.1 t.2.1 t.2.2.1 < 4
          · have ev : a 7 = nI (itW B t.1 t.2.1 t.2.2.1) := ah.2.2.2.2 z.1 z.2
            have hbb : b = false := by
              have := hb _ z.2 ev
              rw [this]
              exact Bool.eq_false_iff.mpr fun q => hI ⟨z.2, q⟩
            simp only [eq_true z, if_true, hbb, Bool.false_eq_true, if_false, nI0z, s98_162, OpV_some, OpN_some, OpA_some, OpR_some, Option.toList_some, Option.toList_none, List.cons_append, List.nil_append, true_and, and_true, nI11, or_true, true_or, or_false, false_or]
            exact fin _
          · simp only [eq_false z, if_false, s98_162, OpV_some, OpN_some, OpA_some, OpR_some, Option.toList_some, Option.toList_none, List.cons_append, List.nil_append, true_and, and_true, nI11, or_true, true_or, or_false, false_or]
            exact fin _
end MCITYB
