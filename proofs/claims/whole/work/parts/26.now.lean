/-! NOW: ropes, riders, deeds, rides; its object at b, its tables behind it -/
def NowAt (w : am_W) (b nR : Nat) (g : Nat → Nat) (nP : Nat) (p : Nat → Nat) (nD : Nat) (D : Nat → Nat) (nM : Nat) (M : Nat → Nat) : Prop :=
  w[b]? = some (.inr (0, [.ref (b + 1), .ref (b + 3), .ref (b + 5), .ref (b + 7)])) ∧ b < 900 ∧ RowsAt w (b + 1) (b + 2) 8 5 nR (nIf g) ∧ RowsAt w (b + 3) (b + 4) 4 5 nP (nIf p) ∧ RowsAt w (b + 5) (b + 6) 10 7 nD (nIf D) ∧ RowsAt w (b + 7) (b + 8) 10 4 nM (nIf M)
theorem shf_nIf (N : Nat → Nat) (wi t : Nat) : shf (nIf N) wi t = nIf (fun u => if u < t then N (u + wi) else N u) := by
  funext u; unfold shf nIf; split <;> simp [*]
theorem cpy_nIf (A B : Nat → Nat) (n : Nat) : cpy (nIf A) (nIf B) n = nIf (cpN A B n) := by
  funext u; unfold cpy nIf cpN; split <;> rfl
/-- a table with a row more; where there is no room the oldest is lost -/
def adS (D : Nat → Nat) (wi ro n : Nat) : Nat → Nat := if n < ro then D else fun u => if u < ro * wi - wi then D (u + wi) else D u
def adN (ro n : Nat) : Nat := if n < ro then n + 1 else n
section NOW
variable {X : am_X} {d : Nat} {Q : am_Q} {w : am_W} {b nR nP nD nM : Nat} {g p D M : Nat → Nat}
theorem NowAt.f0 (h : NowAt w b nR g nP p nD D nM M) : am_fld w b 0 0 = some (.ref (b + 1)) := fld_at h.1
theorem NowAt.f1 (h : NowAt w b nR g nP p nD D nM M) : am_fld w b 0 1 = some (.ref (b + 3)) := fld_at h.1
theorem NowAt.f2 (h : NowAt w b nR g nP p nD D nM M) : am_fld w b 0 2 = some (.ref (b + 5)) := fld_at h.1
theorem NowAt.f3 (h : NowAt w b nR g nP p nD D nM M) : am_fld w b 0 3 = some (.ref (b + 7)) := fld_at h.1
theorem NowAt.cl (h : NowAt w b nR g nP p nD D nM M) : am_cls w b = some 0 := cls_at h.1
theorem NowAt.i1 (h : NowAt w b nR g nP p nD D nM M) : (b < 1000) = True := eq_true (by have := h.2.1; omega)
theorem NowAt.r (h : NowAt w b nR g nP p nD D nM M) : RowsAt w (b + 1) (b + 2) 8 5 nR (nIf g) := h.2.2.1
theorem NowAt.pp (h : NowAt w b nR g nP p nD D nM M) : RowsAt w (b + 3) (b + 4) 4 5 nP (nIf p) := h.2.2.2.1
theorem NowAt.dd (h : NowAt w b nR g nP p nD D nM M) : RowsAt w (b + 5) (b + 6) 10 7 nD (nIf D) := h.2.2.2.2.1
theorem NowAt.m (h : NowAt w b nR g nP p nD D nM M) : RowsAt w (b + 7) (b + 8) 10 4 nM (nIf M) := h.2.2.2.2.2
theorem rows_getN {i j ro wi sz r c : Nat} (h : RowsAt w i j ro wi sz (nIf g)) (hr : r < sz) (hc : c < wi) : Cl X (d + 1) 34 [.ref i, .int (nI r), .int (nI c)] w Q = Q (some (.int (nI (g (r * wi + c))))) w := rows_get h hr hc
theorem rows_setN {i j ro wi sz r c v : Nat} (h : RowsAt w i j ro wi sz (nIf g)) (hr : r < sz) (hc : c < wi) : Cl X (d + 1) 35 [.ref i, .int (nI r), .int (nI c), .int (nI v)] w Q = Q none (rar w j (ro * wi) (nIf (upN g (r * wi + c) v))) := by
  rw [rows_set h hr hc, upd_nIf]
theorem rows_addLN {i j ro wi sz : Nat} (h : RowsAt w i j ro wi sz (nIf g)) (hwi : wi ≤ ro * wi)
    (hQ : ∀ u, agr w u [i, j] → RowsAt u i j ro wi (adN ro sz) (nIf (adS g wi ro sz)) → Q none u) : Cl X (d + 2) 39 [.ref i] w Q := by
  rw [rows_addL h hwi]
  unfold adN adS at hQ
  by_cases hs : sz < ro
  · simp only [hs, if_true] at hQ ⊢
    exact hQ _ ((agr.rf w [i, j]).st (by simp) _) (h.onS (by omega))
  · simp only [hs, if_false] at hQ ⊢
    refine hQ _ ((agr.rf w [i, j]).st (by simp) _) ?_
    rw [shf_nIf]
    exact h.onA _
theorem now_haveMet (h : NowAt w b nR g nP p nD D nM M) {i j : Nat} (hi : i < nM) (hj : j < nM) (hM : ∀ t, t < nM * 4 → M t < 2 ^ 31) : Cl X (d + 2) 6 [.ref b, .int (nI i), .int (nI j)] w Q =
    Q (some (.int (nI (if M (i * 4) ≠ M (j * 4) ∧ M (i * 4 + 1) = M (j * 4 + 1) ∧ M (i * 4 + 2) < M (j * 4 + 3) ∧ M (j * 4 + 2) < M (i * 4 + 3) then 1 else 0)))) w := by
  have a0 := hM (i * 4) (by omega)
  have a1 := hM (i * 4 + 1) (by omega)
  have a2 := hM (i * 4 + 2) (by omega)
  have a3 := hM (i * 4 + 3) (by omega)
  have b0 := hM (j * 4) (by omega)
  have b1 := hM (j * 4 + 1) (by omega)
  have b2 := hM (j * 4 + 2) (by omega)
  have b3 := hM (j * 4 + 3) (by omega)
  rw [e6]
  simp only [s6_0, s6_1, s6_4, s6_5, s6_6, s6_9, s6_10, s6_13, s6_14, s6_15, s6_18, s6_21, s6_22, s6_25, s6_26, s6_27, s6_30, s6_31, s6_34, s6_35, s6_36, s6_39, s6_42, s6_43, s6_46, s6_47, s6_48, s6_51, s6_52, s6_55, s6_56, s6_57, s6_60, s6_63, s6_64, s6_67, s6_68, s6_69, s6_72, s6_73, s6_76, s6_77, s6_78, s6_81, s6_84, s6_85, s6_88, s6_89, OpV_some, OpN_some, OpA_some, OpR_some, Option.toList_some, Option.toList_none, List.cons_append, List.nil_append, true_and, and_true, nI11, or_true, true_or, or_false, false_or, h.f3, h.i1, h.m.i1, h.m.cl, rows_getN h.m hi (show 0 < 4 by decide), rows_getN h.m hi (show 1 < 4 by decide), rows_getN h.m hi (show 2 < 4 by decide), rows_getN h.m hi (show 3 < 4 by decide), rows_getN h.m hj (show 0 < 4 by decide), rows_getN h.m hj (show 1 < 4 by decide), rows_getN h.m hj (show 2 < 4 by decide), rows_getN h.m hj (show 3 < 4 by decide), Nat.add_zero, nI_eqN a0 b0, nI_eqN a1 b1, nI_ltN a2 b3, nI_ltN b2 a3, b01_0, b01_1]
  by_cases q0 : M (i * 4) = M (j * 4) <;> by_cases q1 : M (i * 4 + 1) = M (j * 4 + 1) <;> by_cases q2 : M (i * 4 + 2) < M (j * 4 + 3) <;> by_cases q3 : M (j * 4 + 2) < M (i * 4 + 3) <;> simp [q0, q1, q2, q3]
theorem now_in (h : NowAt w b nR g nP p nD D nM M) : Cl X (d + 3) 2 [.ref b] w Q = Q (some (.int (nI nP - rs_go (nIf p) 5 4 nP 0 (nI 0)))) w := by
  rw [e2]
  simp only [s2_0, s2_1, s2_4, s2_7, s2_8, s2_11, s2_12, s2_15, s2_16, OpV_some, OpN_some, OpA_some, OpR_some, Option.toList_some, Option.toList_none, List.cons_append, List.nil_append, true_and, and_true, nI11, or_true, true_or, or_false, false_or, h.f1, h.i1, h.pp.i1, h.pp.cl, h.pp.f3, rows_sum h.pp (show 4 < 5 by decide)]
def dgo (l r : Nat) (O : Nat → Nat) : Nat → Nat → (Nat → Nat) → (Nat → Nat)
  | 0, _, D => D
  | n + 1, c, D => dgo l r O n (c + 1) (upN D (l * 7 + (2 + c)) (O (r * 5 + c)))
/-- the deeds with one more: its sort, its row, that row as it was -/
def dnew (D : Nat → Nat) (nD so r : Nat) (O : Nat → Nat) : Nat → Nat := dgo (adN 10 nD - 1) r O 5 0 (upN (upN (adS D 7 10 nD) ((adN 10 nD - 1) * 7) so) ((adN 10 nD - 1) * 7 + 1) r)
theorem adN_pos {ro n : Nat} (h : 0 < ro) : 0 < adN ro n := by unfold adN; split <;> omega
theorem now_deed_loop {so r ci cj cro csz l n1 : Nat} {O : Nat → Nat} (hb : b < 900) (hl : l < n1) (hr : r < csz) (h1 : ci ≠ b + 6) (h2 : cj ≠ b + 6) : ∀ (n c : Nat) (D : Nat → Nat) (u : am_W), u[b]? = some (.inr (0, [.ref (b + 1), .ref (b + 3), .ref (b + 5), .ref (b + 7)])) → RowsAt u (b + 5) (b + 6) 10 7 n1 (nIf D) → RowsAt u ci cj cro 5 csz (nIf O) → c + n = 5 → agr w u [b + 5, b + 6] →
    (∀ v, agr w v [b + 5, b + 6] → RowsAt v (b + 5) (b + 6) 10 7 n1 (nIf (dgo l r O n c D)) → Q none v) →
    Wp X (Cl X (d + 1)) 3 Q (43, [some (.ref b), some (.int (nI so)), some (.int (nI r)), some (.ref ci), some (.int (nI l)), some (.int (nI c))], [], u, 0, 0)
  | 0, c, D, u, hu, hd, hc, e, ag, hQ => by
    have hw5 : (nI c < nI 5) = False := by rw [nI_ltN (by omega) (by decide)]; simp; omega
    rw [s3_43]
    simp only [s3_0, s3_1, s3_4, s3_7, s3_8, s3_11, s3_14, s3_15, s3_16, s3_18, s3_19, s3_22, s3_24, s3_25, s3_26, s3_29, s3_30, s3_33, s3_35, s3_36, s3_37, s3_40, s3_41, s3_45, s3_46, s3_49, s3_52, s3_53, s3_56, s3_58, s3_59, s3_61, s3_62, s3_63, s3_64, s3_66, s3_69, s3_72, s3_75, s3_78, OpV_some, OpN_some, OpA_some, OpR_some, Option.toList_some, Option.toList_none, List.cons_append, List.nil_append, true_and, and_true, nI11, or_true, true_or, or_false, false_or, hc.f1, hc.i1, hw5, if_false]
    exact hQ u ag hd
  | n + 1, c, D, u, hu, hd, hc, e, ag, hQ => by
    have hw5 : (nI c < nI 5) = True := by rw [nI_ltN (by omega) (by decide)]; simp; omega
    have hf : am_fld u b 0 2 = some (.ref (b + 5)) := fld_at hu
    have hb1 : (b < 1000) = True := eq_true (by omega)
    rw [s3_43]
    simp only [s3_0, s3_1, s3_4, s3_7, s3_8, s3_11, s3_14, s3_15, s3_16, s3_18, s3_19, s3_22, s3_24, s3_25, s3_26, s3_29, s3_30, s3_33, s3_35, s3_36, s3_37, s3_40, s3_41, s3_45, s3_46, s3_49, s3_52, s3_53, s3_56, s3_58, s3_59, s3_61, s3_62, s3_63, s3_64, s3_66, s3_69, s3_72, s3_75, s3_78, OpV_some, OpN_some, OpA_some, OpR_some, Option.toList_some, Option.toList_none, List.cons_append, List.nil_append, true_and, and_true, nI11, or_true, true_or, or_false, false_or, hc.f1, hc.i1, hc.cl, hw5, if_true, hf, hb1, hd.i1, hd.cl, nI_add, rows_getN hc hr (show c < 5 by omega), rows_setN hd hl (show 2 + c < 7 by omega)]
    exact now_deed_loop hb hl hr h1 h2 n (c + 1) _ _ ((set_ne (by omega)).trans hu) (hd.onA _) (hc.oth (set_ne (Ne.symm h1)) (set_ne (Ne.symm h2))) (by omega) (ag.st (by simp) _) hQ
theorem now_deed {so r ci cj cro csz : Nat} {O : Nat → Nat} (h : NowAt w b nR g nP p nD D nM M) (hc : RowsAt w ci cj cro 5 csz (nIf O)) (hr : r < csz) (h1 : ci ≠ b + 6) (h2 : cj ≠ b + 6) (h3 : ci ≠ b + 5) (h4 : cj ≠ b + 5)
    (hQ : ∀ v, agr w v [b + 5, b + 6] → RowsAt v (b + 5) (b + 6) 10 7 (adN 10 nD) (nIf (dnew D nD so r O)) → Q none v) : Cl X (d + 3) 3 [.ref b, .int (nI so), .int (nI r), .ref ci] w Q := by
  have hb := h.2.1
  have hb1 := h.i1
  rw [e3]
  simp only [s3_0, s3_1, s3_4, s3_7, s3_8, s3_11, s3_14, s3_15, s3_16, s3_18, s3_19, s3_22, s3_24, s3_25, s3_26, s3_29, s3_30, s3_33, s3_35, s3_36, s3_37, s3_40, s3_41, s3_45, s3_46, s3_49, s3_52, s3_53, s3_56, s3_58, s3_59, s3_61, s3_62, s3_63, s3_64, s3_66, s3_69, s3_72, s3_75, s3_78, OpV_some, OpN_some, OpA_some, OpR_some, Option.toList_some, Option.toList_none, List.cons_append, List.nil_append, true_and, and_true, nI11, or_true, true_or, or_false, false_or, h.f2, hb1, h.dd.i1, h.dd.cl]
  refine rows_addLN h.dd (by decide) fun u ag hu => ?_
  have e1 := ag.2 b (by simp)
  have hub := e1.trans h.1
  have hf : am_fld u b 0 2 = some (.ref (b + 5)) := fld_at hub
  have hp := adN_pos (ro := 10) (n := nD) (by decide)
  have h10 := hu.2.2.2.2.1
  have hu2 := hu.onA (nIf (upN (adS D 7 10 nD) ((adN 10 nD - 1) * 7) so))
  have hf2 : am_fld (rar u (b + 6) (10 * 7) (nIf (upN (adS D 7 10 nD) ((adN 10 nD - 1) * 7) so))) b 0 2 = some (.ref (b + 5)) := fld_at ((set_ne (by omega)).trans hub)
  have s0 : ∀ v : Nat, Cl X (d + 2) 35 [.ref (b + 5), .int (nI (adN 10 nD - 1)), .int (nI 0), .int (nI v)] u = fun Q => Q none (rar u (b + 6) (10 * 7) (nIf (upN (adS D 7 10 nD) ((adN 10 nD - 1) * 7) v))) := fun v => funext fun Q => rows_setN hu (by omega) (by decide)
  simp only [s3_0, s3_1, s3_4, s3_7, s3_8, s3_11, s3_14, s3_15, s3_16, s3_18, s3_19, s3_22, s3_24, s3_25, s3_26, s3_29, s3_30, s3_33, s3_35, s3_36, s3_37, s3_40, s3_41, s3_45, s3_46, s3_49, s3_52, s3_53, s3_56, s3_58, s3_59, s3_61, s3_62, s3_63, s3_64, s3_66, s3_69, s3_72, s3_75, s3_78, OpV_some, OpN_some, OpA_some, OpR_some, Option.toList_some, Option.toList_none, List.cons_append, List.nil_append, true_and, and_true, nI11, or_true, true_or, or_false, false_or, hf, hb1, hu.f3, hu.i1, hu.cl, nI_subN (show 1 ≤ adN 10 nD by omega), s0, hf2, hu2.cl, rows_setN hu2 (show adN 10 nD - 1 < adN 10 nD by omega) (show 1 < 7 by decide)]
  exact now_deed_loop hb (show adN 10 nD - 1 < adN 10 nD by omega) hr h1 h2 5 0 _ _ (((set_ne (by omega)).trans (set_ne (by omega))).trans hub) (hu2.onA _) (hc.oth (((set_ne (Ne.symm h1)).trans (set_ne (Ne.symm h1))).trans (ag.2 ci (by simp; omega))) (((set_ne (Ne.symm h2)).trans (set_ne (Ne.symm h2))).trans (ag.2 cj (by simp; omega)))) (by omega) ((ag.st (by simp) _).st (by simp) _) hQ
def mnew (M : Nat → Nat) (nM r k tk en : Nat) : Nat → Nat := upN (upN (upN (upN (adS M 4 10 nM) ((adN 10 nM - 1) * 4) r) ((adN 10 nM - 1) * 4 + 1) k) ((adN 10 nM - 1) * 4 + 2) tk) ((adN 10 nM - 1) * 4 + 3) en
theorem now_ride {r k q tk en : Nat} {y z : Value} (h : NowAt w b nR g nP p nD D nM M) (hq : w[q]? = some (.inr (2, [.int (nI tk), .int (nI en), y, z]))) (hq1 : q < 1000) (h1 : q ≠ b + 7) (h2 : q ≠ b + 8)
    (hQ : ∀ v, agr w v [b + 7, b + 8] → RowsAt v (b + 7) (b + 8) 10 4 (adN 10 nM) (nIf (mnew M nM r k tk en)) → Q none v) : Cl X (d + 3) 4 [.ref b, .int (nI r), .int (nI k), .ref q] w Q := by
  have hb := h.2.1
  have hb1 := h.i1
  rw [e4]
  simp only [s4_0, s4_1, s4_4, s4_7, s4_8, s4_11, s4_14, s4_15, s4_16, s4_18, s4_19, s4_22, s4_24, s4_25, s4_26, s4_29, s4_30, s4_33, s4_35, s4_36, s4_37, s4_40, s4_41, s4_44, s4_46, s4_47, s4_48, s4_51, s4_54, s4_55, s4_58, s4_60, s4_61, s4_62, s4_65, s4_68, OpV_some, OpN_some, OpA_some, OpR_some, Option.toList_some, Option.toList_none, List.cons_append, List.nil_append, true_and, and_true, nI11, or_true, true_or, or_false, false_or, h.f3, hb1, h.m.i1, h.m.cl]
  refine rows_addLN h.m (by decide) fun u ag hu => ?_
  have hub := (ag.2 b (by simp)).trans h.1
  have huq := (ag.2 q (by simp; omega)).trans hq
  have hf : am_fld u b 0 3 = some (.ref (b + 7)) := fld_at hub
  have hp := adN_pos (ro := 10) (n := nM) (by decide)
  have h10 := hu.2.2.2.2.1
  have hn : adN 10 nM - 1 < adN 10 nM := by omega
  have F3 : ∀ A : Nat → Int32, am_fld (rar u (b + 8) (10 * 4) A) b 0 3 = some (.ref (b + 7)) := fun A => fld_at ((set_ne (by omega)).trans hub)
  have F3b : ∀ A B : Nat → Int32, am_fld (rar (rar u (b + 8) (10 * 4) A) (b + 8) (10 * 4) B) b 0 3 = some (.ref (b + 7)) := fun A B => fld_at (((set_ne (by omega)).trans (set_ne (by omega))).trans hub)
  have F3c : ∀ A B C : Nat → Int32, am_fld (rar (rar (rar u (b + 8) (10 * 4) A) (b + 8) (10 * 4) B) (b + 8) (10 * 4) C) b 0 3 = some (.ref (b + 7)) := fun A B C => fld_at ((((set_ne (by omega)).trans (set_ne (by omega))).trans (set_ne (by omega))).trans hub)
  have G0 : ∀ A B : Nat → Int32, am_fld (rar (rar u (b + 8) (10 * 4) A) (b + 8) (10 * 4) B) q 2 0 = some (.int (nI tk)) := fun A B => fld_at (((set_ne (Ne.symm h2)).trans (set_ne (Ne.symm h2))).trans huq)
  have G1 : ∀ A B C : Nat → Int32, am_fld (rar (rar (rar u (b + 8) (10 * 4) A) (b + 8) (10 * 4) B) (b + 8) (10 * 4) C) q 2 1 = some (.int (nI en)) := fun A B C => fld_at ((((set_ne (Ne.symm h2)).trans (set_ne (Ne.symm h2))).trans (set_ne (Ne.symm h2))).trans huq)
  have u1 := hu.onA (nIf (upN (adS M 4 10 nM) ((adN 10 nM - 1) * 4) r))
  have u2 := u1.onA (nIf (upN (upN (adS M 4 10 nM) ((adN 10 nM - 1) * 4) r) ((adN 10 nM - 1) * 4 + 1) k))
  have u3 := u2.onA (nIf (upN (upN (upN (adS M 4 10 nM) ((adN 10 nM - 1) * 4) r) ((adN 10 nM - 1) * 4 + 1) k) ((adN 10 nM - 1) * 4 + 2) tk))
  have u4 := u3.onA (nIf (mnew M nM r k tk en))
  have s0 : ∀ v : Nat, Cl X (d + 2) 35 [.ref (b + 7), .int (nI (adN 10 nM - 1)), .int (nI 0), .int (nI v)] u = fun Q => Q none (rar u (b + 8) (10 * 4) (nIf (upN (adS M 4 10 nM) ((adN 10 nM - 1) * 4) v))) := fun v => funext fun Q => rows_setN hu (by omega) (by decide)
  simp only [s4_0, s4_1, s4_4, s4_7, s4_8, s4_11, s4_14, s4_15, s4_16, s4_18, s4_19, s4_22, s4_24, s4_25, s4_26, s4_29, s4_30, s4_33, s4_35, s4_36, s4_37, s4_40, s4_41, s4_44, s4_46, s4_47, s4_48, s4_51, s4_54, s4_55, s4_58, s4_60, s4_61, s4_62, s4_65, s4_68, OpV_some, OpN_some, OpA_some, OpR_some, Option.toList_some, Option.toList_none, List.cons_append, List.nil_append, true_and, and_true, nI11, or_true, true_or, or_false, false_or, hf, hb1, hq1, hu.f3, hu.i1, hu.cl, nI_subN (show 1 ≤ adN 10 nM by omega), s0, F3, u1.cl, rows_setN u1 hn (show 1 < 4 by decide), F3b, G0, u2.cl, rows_setN u2 hn (show 2 < 4 by decide), F3c, G1, u3.cl, rows_setN u3 hn (show 3 < 4 by decide)]
  exact hQ _ ((((ag.st (by simp) _).st (by simp) _).st (by simp) _).st (by simp) _) u4
end NOW
