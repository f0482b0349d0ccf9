section NOWB
variable {X : am_X} {d : Nat} {Q : am_Q} {w : am_W} {b nR nP nD nM : Nat} {g p D M : Nat → Nat}
def tgo (l r : Nat) (D : Nat → Nat) : Nat → Nat → (Nat → Nat) → (Nat → Nat)
  | 0, _, O => O
  | n + 1, c, O => tgo l r D n (c + 1) (upN O (r * 5 + c) (D (l * 7 + (2 + c))))
theorem now_back_loop {so ci cj cro csz l n1 : Nat} (hb : b < 900) (hl : l < n1) (hr : D (l * 7 + 1) < csz) (h1 : cj ≠ b + 5) (h2 : cj ≠ b + 6) (h3 : cj ≠ b) : ∀ (n c : Nat) (O : Nat → Nat) (u : am_W), u[b]? = some (.inr (0, [.ref (b + 1), .ref (b + 3), .ref (b + 5), .ref (b + 7)])) → RowsAt u (b + 5) (b + 6) 10 7 n1 (nIf D) → RowsAt u ci cj cro 5 csz (nIf O) → c + n = 5 → agr w u [cj] →
    (∀ v, agr w v [cj] → RowsAt v ci cj cro 5 csz (nIf (tgo l (D (l * 7 + 1)) D n c O)) → Wp X (Cl X (d + 1)) 5 Q (82, [some (.ref b), some (.int (nI l)), some (.int (nI so)), some (.ref ci), some (.int (nI 5))], [], v, 0, 0)) →
    Wp X (Cl X (d + 1)) 5 Q (40, [some (.ref b), some (.int (nI l)), some (.int (nI so)), some (.ref ci), some (.int (nI c))], [], u, 0, 0)
  | 0, c, O, u, hu, hd, hc, e, ag, hQ => by
    obtain rfl : c = 5 := by omega
    have hw5 : (nI 5 < nI 5) = False := by decide
    rw [s5_40]
    simp only [s5_42, s5_43, s5_46, OpV_some, OpN_some, OpA_some, OpR_some, Option.toList_some, Option.toList_none, List.cons_append, List.nil_append, true_and, and_true, nI11, or_true, true_or, or_false, false_or, hc.f1, hc.i1, hw5, if_false]
    exact hQ u ag hc
  | n + 1, c, O, u, hu, hd, hc, e, ag, hQ => by
    have hw5 : (nI c < nI 5) = True := by rw [nI_ltN (by omega) (by decide)]; simp; omega
    have hf : am_fld u b 0 2 = some (.ref (b + 5)) := fld_at hu
    have hb1 : (b < 1000) = True := eq_true (by omega)
    rw [s5_40]
    simp only [s5_0, s5_1, s5_4, s5_7, s5_8, s5_9, s5_10, s5_11, s5_14, s5_15, s5_16, s5_19, s5_20, s5_21, s5_22, s5_25, s5_26, s5_29, s5_32, s5_33, s5_36, s5_37, s5_38, s5_42, s5_43, s5_46, s5_49, s5_50, s5_51, s5_54, s5_55, s5_56, s5_59, s5_61, s5_62, s5_65, s5_66, s5_67, s5_69, s5_70, s5_73, s5_76, s5_79, s5_82, s5_83, s5_86, s5_87, s5_90, s5_93, s5_94, s5_97, s5_100, OpV_some, OpN_some, OpA_some, OpR_some, Option.toList_some, Option.toList_none, List.cons_append, List.nil_append, true_and, and_true, nI11, or_true, true_or, or_false, false_or, hc.f1, hc.i1, hc.cl, hw5, if_true, hf, hb1, hd.i1, hd.cl, nI_add, rows_getN hd hl (show 1 < 7 by decide), rows_getN hd hl (show 2 + c < 7 by omega), rows_setN hc hr (show c < 5 by omega)]
    exact now_back_loop hb hl hr h1 h2 h3 n (c + 1) _ _ ((set_ne h3).trans hu) (hd.oth (set_ne h1) (set_ne h2)) (hc.onA _) (by omega) (ag.st (by simp) _) hQ
theorem NowAt.oth {u : am_W} (h : NowAt w b nR g nP p nD D nM M) (ag : ∀ q, b ≤ q → q ≤ b + 8 → u[q]? = w[q]?) : NowAt u b nR g nP p nD D nM M :=
  ⟨(ag b (by omega) (by omega)).trans h.1, h.2.1, h.r.oth (ag _ (by omega) (by omega)) (ag _ (by omega) (by omega)), h.pp.oth (ag _ (by omega) (by omega)) (ag _ (by omega) (by omega)), h.dd.oth (ag _ (by omega) (by omega)) (ag _ (by omega) (by omega)), h.m.oth (ag _ (by omega) (by omega)) (ag _ (by omega) (by omega))⟩
/-- the latest deed is taken back -/
theorem now_back (h : NowAt w b nR g nP p nD D nM M) (hD : 0 < nD) (hso : D ((nD - 1) * 7) < 2 ^ 31) (hrope : D ((nD - 1) * 7) = 2 → D ((nD - 1) * 7 + 1) < nR) (hrid : D ((nD - 1) * 7) ≠ 2 → D ((nD - 1) * 7 + 1) < nP) (hM : D ((nD - 1) * 7) = 0 → 0 < nM)
    (hQ : ∀ v, agr w v [b + 2, b + 4, b + 5, b + 7] → NowAt v b nR (if D ((nD - 1) * 7) = 2 then tgo (nD - 1) (D ((nD - 1) * 7 + 1)) D 5 0 g else g) nP (if D ((nD - 1) * 7) = 2 then p else tgo (nD - 1) (D ((nD - 1) * 7 + 1)) D 5 0 p) (nD - 1) D (if D ((nD - 1) * 7) = 0 then nM - 1 else nM) M → Q none v) : Cl X (d + 2) 5 [.ref b] w Q := by
  have hb := h.2.1
  have hb1 := h.i1
  have h10 := h.dd.2.2.2.2.1
  have hl : nD - 1 < nD := by omega
  have g0 : Cl X (d + 1) 34 [.ref (b + 5), .int (nI (nD - 1)), .int (nI 0)] w = fun Q => Q (some (.int (nI (D ((nD - 1) * 7))))) w := funext fun Q => rows_getN h.dd hl (by decide)
  rw [e5]
  simp only [s5_0, s5_1, s5_4, s5_7, s5_8, s5_9, s5_10, s5_11, s5_14, s5_15, s5_16, s5_19, s5_20, s5_21, s5_22, s5_25, s5_26, s5_29, s5_32, s5_33, s5_36, s5_37, s5_38, s5_42, s5_43, s5_46, s5_49, s5_50, s5_51, s5_54, s5_55, s5_56, s5_59, s5_61, s5_62, s5_65, s5_66, s5_67, s5_69, s5_70, s5_73, s5_76, s5_79, s5_82, s5_83, s5_86, s5_87, s5_90, s5_93, s5_94, s5_97, s5_100, OpV_some, OpN_some, OpA_some, OpR_some, Option.toList_some, Option.toList_none, List.cons_append, List.nil_append, true_and, and_true, nI11, or_true, true_or, or_false, false_or, h.f0, h.f1, h.f2, hb1, h.dd.i1, h.dd.cl, h.dd.f3, nI_subN (show 1 ≤ nD by omega), g0, nI_eqN hso (show 2 < 2 ^ 31 by decide)]
  by_cases h2 : D ((nD - 1) * 7) = 2
  · have h0 : ¬ D ((nD - 1) * 7) = 0 := by omega
    simp only [h2, if_true]
    simp only [h2, if_true, show ¬ (2 : Nat) = 0 by decide, if_false] at hQ
    refine now_back_loop hb hl (hrope h2) (by omega) (by omega) (by omega) 5 0 g w h.1 h.dd h.r (by omega) (agr.rf w _) fun v ag hv => ?_
    have dd := h.dd.oth (ag.2 (b + 5) (by simp)) (ag.2 (b + 6) (by simp))
    have hf : am_fld v b 0 2 = some (.ref (b + 5)) := fld_at ((ag.2 b (by simp)).trans h.1)
    simp only [s5_82, s5_83, s5_86, s5_87, s5_90, s5_93, s5_94, s5_97, s5_100, OpV_some, OpN_some, OpA_some, OpR_some, Option.toList_some, Option.toList_none, List.cons_append, List.nil_append, true_and, and_true, nI11, or_true, true_or, or_false, false_or, hf, hb1, show (nI 2 = 0) = False from by decide, if_false, dd.i1, dd.cl, rows_drop dd hD]
    refine hQ _ ((ag.mo (by simp)).st (by simp) _) ⟨((set_ne (by omega)).trans (ag.2 b (by simp))).trans h.1, hb, hv.oth (set_ne (by omega)) (set_ne (by omega)), h.pp.oth ((set_ne (by omega)).trans (ag.2 _ (by simp))) ((set_ne (by omega)).trans (ag.2 _ (by simp))), dd.onS (by omega), h.m.oth ((set_ne (by omega)).trans (ag.2 _ (by simp))) ((set_ne (by omega)).trans (ag.2 _ (by simp)))⟩
  · simp only [h2, if_false]
    simp only [h2, if_false] at hQ
    refine now_back_loop hb hl (hrid h2) (by omega) (by omega) (by omega) 5 0 p w h.1 h.dd h.pp (by omega) (agr.rf w _) fun v ag hv => ?_
    have dd := h.dd.oth (ag.2 (b + 5) (by simp)) (ag.2 (b + 6) (by simp))
    have mm := h.m.oth (ag.2 (b + 7) (by simp)) (ag.2 (b + 8) (by simp))
    have hvb := (ag.2 b (by simp)).trans h.1
    have hf : am_fld v b 0 2 = some (.ref (b + 5)) := fld_at hvb
    have hf3 : am_fld v b 0 3 = some (.ref (b + 7)) := fld_at hvb
    by_cases h0 : D ((nD - 1) * 7) = 0
    · have hM0 := hM h0
      have hM10 := h.m.2.2.2.2.1
      have mm2 := mm.onS (s := nM - 1) (by omega)
      have dd2 : RowsAt (rsz v (b + 7) (b + 8) 10 4 (nM - 1)) (b + 5) (b + 6) 10 7 nD (nIf D) := dd.oth (set_ne (by omega)) (set_ne (by omega))
      have hf4 : am_fld (rsz v (b + 7) (b + 8) 10 4 (nM - 1)) b 0 2 = some (.ref (b + 5)) := fld_at ((set_ne (by omega)).trans hvb)
      simp only [h0, if_true] at hQ
      simp only [s5_82, s5_83, s5_86, s5_87, s5_90, s5_93, s5_94, s5_97, s5_100, OpV_some, OpN_some, OpA_some, OpR_some, Option.toList_some, Option.toList_none, List.cons_append, List.nil_append, true_and, and_true, nI11, or_true, true_or, or_false, false_or, hf, hf3, hf4, hb1, h0, nI0z, if_true, dd.i1, dd.cl, mm.i1, mm.cl, rows_drop mm hM0, dd2.cl, rows_drop dd2 hD]
      refine hQ _ (((ag.mo (by simp)).st (by simp) _).st (by simp) _) ⟨((set_ne (by omega)).trans (set_ne (by omega))).trans hvb, hb, h.r.oth (((set_ne (by omega)).trans (set_ne (by omega))).trans (ag.2 _ (by simp))) (((set_ne (by omega)).trans (set_ne (by omega))).trans (ag.2 _ (by simp))), hv.oth ((set_ne (by omega)).trans (set_ne (by omega))) ((set_ne (by omega)).trans (set_ne (by omega))), dd2.onS (by omega), mm2.oth (set_ne (by omega)) (set_ne (by omega))⟩
    · simp only [h0, if_false] at hQ
      simp only [s5_82, s5_83, s5_86, s5_87, s5_90, s5_93, s5_94, s5_97, s5_100, OpV_some, OpN_some, OpA_some, OpR_some, Option.toList_some, Option.toList_none, List.cons_append, List.nil_append, true_and, and_true, nI11, or_true, true_or, or_false, false_or, hf, hb1, nI_eq0 hso, h0, if_false, dd.i1, dd.cl, rows_drop dd hD]
      refine hQ _ ((ag.mo (by simp)).st (by simp) _) ⟨((set_ne (by omega)).trans (ag.2 b (by simp))).trans h.1, hb, h.r.oth ((set_ne (by omega)).trans (ag.2 _ (by simp))) ((set_ne (by omega)).trans (ag.2 _ (by simp))), hv.oth (set_ne (by omega)) (set_ne (by omega)), dd.onS (by omega), mm.oth (set_ne (by omega)) (set_ne (by omega))⟩
/-- one NOW becomes as another -/
theorem now_copy {b2 nR2 nP2 nD2 nM2 : Nat} {g2 p2 D2 M2 : Nat → Nat} (h : NowAt w b nR g nP p nD D nM M) (h2 : NowAt w b2 nR2 g2 nP2 p2 nD2 D2 nM2 M2) (hbb : b + 9 ≤ b2 ∨ b2 + 9 ≤ b)
    (hQ : ∀ v, agr w v [b + 1, b + 2, b + 3, b + 4, b + 5, b + 6, b + 7, b + 8] → NowAt v b nR2 (cpN g2 g 40) nP2 (cpN p2 p 20) nD2 (cpN D2 D 70) nM2 (cpN M2 M 40) → NowAt v b2 nR2 g2 nP2 p2 nD2 D2 nM2 M2 → Q none v) : Cl X (d + 3) 1 [.ref b, .ref b2] w Q := by
  have hb := h.2.1
  have hb2 := h2.2.1
  have hb1 := h.i1
  have hb21 := h2.i1
  -- four copies, a world each
  have K1 := fun (Q : am_Q) => rows_copy (X := X) (d := d) (Q := Q) h.r h2.r (by omega) (by omega) (by omega) (by omega)
  rw [e1]
  simp only [s1_0, s1_1, s1_4, s1_5, s1_8, s1_11, s1_12, s1_15, s1_16, s1_19, s1_22, s1_23, s1_26, s1_27, s1_30, s1_33, s1_34, s1_37, s1_38, s1_41, s1_44, OpV_some, OpN_some, OpA_some, OpR_some, Option.toList_some, Option.toList_none, List.cons_append, List.nil_append, true_and, and_true, nI11, or_true, true_or, or_false, false_or, h.f0, h2.f0, hb1, hb21, h.r.i1, h.r.cl, K1]
  generalize hw1 : rar (rsz w (b + 1) (b + 2) 8 5 nR2) (b + 2) (8 * 5) (cpy (nIf g2) (nIf g) (8 * 5)) = w1
  have o1 : ∀ q, q ≠ b + 1 → q ≠ b + 2 → w1[q]? = w[q]? := fun q n1 n2 => by rw [← hw1]; exact (set_ne (Ne.symm n2)).trans (set_ne (Ne.symm n1))
  have l1 : w1.length = w.length := by rw [← hw1]; unfold rar rsz; rw [List.length_set, List.length_set]
  have r1 : RowsAt w1 (b + 1) (b + 2) 8 5 nR2 (nIf (cpN g2 g 40)) := by
    rw [← hw1, cpy_nIf]; exact (h.r.onS h2.r.2.2.2.2.1).onA _
  have f1 : am_fld w1 b 0 1 = some (.ref (b + 3)) := fld_at ((o1 b (by omega) (by omega)).trans h.1)
  have f1' : am_fld w1 b2 0 1 = some (.ref (b2 + 3)) := fld_at ((o1 b2 (by omega) (by omega)).trans h2.1)
  have p1 : RowsAt w1 (b + 3) (b + 4) 4 5 nP (nIf p) := h.pp.oth (o1 _ (by omega) (by omega)) (o1 _ (by omega) (by omega))
  have p1' : RowsAt w1 (b2 + 3) (b2 + 4) 4 5 nP2 (nIf p2) := h2.pp.oth (o1 _ (by omega) (by omega)) (o1 _ (by omega) (by omega))
  have K2 := fun (Q : am_Q) => rows_copy (X := X) (d := d) (Q := Q) p1 p1' (by omega) (by omega) (by omega) (by omega)
  simp only [f1, f1', hb1, hb21, p1.i1, p1.cl, K2, OpV_some, OpN_some, OpA_some, OpR_some, Option.toList_some, Option.toList_none, List.cons_append, List.nil_append, true_and, and_true, nI11, or_true, true_or, or_false, false_or, s1_0, s1_1, s1_4, s1_5, s1_8, s1_11, s1_12, s1_15, s1_16, s1_19, s1_22, s1_23, s1_26, s1_27, s1_30, s1_33, s1_34, s1_37, s1_38, s1_41, s1_44]
  generalize hw2 : rar (rsz w1 (b + 3) (b + 4) 4 5 nP2) (b + 4) (4 * 5) (cpy (nIf p2) (nIf p) (4 * 5)) = w2
  have o2 : ∀ q, q ≠ b + 1 → q ≠ b + 2 → q ≠ b + 3 → q ≠ b + 4 → w2[q]? = w[q]? := fun q n1 n2 n3 n4 => by rw [← hw2]; exact ((set_ne (Ne.symm n4)).trans (set_ne (Ne.symm n3))).trans (o1 q n1 n2)
  have l2 : w2.length = w.length := by rw [← hw2]; unfold rar rsz; rw [List.length_set, List.length_set]; exact l1
  have r2 : RowsAt w2 (b + 1) (b + 2) 8 5 nR2 (nIf (cpN g2 g 40)) := by
    rw [← hw2]; exact r1.oth ((set_ne (by omega)).trans (set_ne (by omega))) ((set_ne (by omega)).trans (set_ne (by omega)))
  have pp2 : RowsAt w2 (b + 3) (b + 4) 4 5 nP2 (nIf (cpN p2 p 20)) := by
    rw [← hw2, cpy_nIf]; exact (p1.onS p1'.2.2.2.2.1).onA _
  have f2 : am_fld w2 b 0 2 = some (.ref (b + 5)) := fld_at ((o2 b (by omega) (by omega) (by omega) (by omega)).trans h.1)
  have f2' : am_fld w2 b2 0 2 = some (.ref (b2 + 5)) := fld_at ((o2 b2 (by omega) (by omega) (by omega) (by omega)).trans h2.1)
  have d2 : RowsAt w2 (b + 5) (b + 6) 10 7 nD (nIf D) := h.dd.oth (o2 _ (by omega) (by omega) (by omega) (by omega)) (o2 _ (by omega) (by omega) (by omega) (by omega))
  have d2' : RowsAt w2 (b2 + 5) (b2 + 6) 10 7 nD2 (nIf D2) := h2.dd.oth (o2 _ (by omega) (by omega) (by omega) (by omega)) (o2 _ (by omega) (by omega) (by omega) (by omega))
  have K3 := fun (Q : am_Q) => rows_copy (X := X) (d := d) (Q := Q) d2 d2' (by omega) (by omega) (by omega) (by omega)
  simp only [f2, f2', hb1, hb21, d2.i1, d2.cl, K3, OpV_some, OpN_some, OpA_some, OpR_some, Option.toList_some, Option.toList_none, List.cons_append, List.nil_append, true_and, and_true, nI11, or_true, true_or, or_false, false_or, s1_0, s1_1, s1_4, s1_5, s1_8, s1_11, s1_12, s1_15, s1_16, s1_19, s1_22, s1_23, s1_26, s1_27, s1_30, s1_33, s1_34, s1_37, s1_38, s1_41, s1_44]
  generalize hw3 : rar (rsz w2 (b + 5) (b + 6) 10 7 nD2) (b + 6) (10 * 7) (cpy (nIf D2) (nIf D) (10 * 7)) = w3
  have o3 : ∀ q, q ≠ b + 1 → q ≠ b + 2 → q ≠ b + 3 → q ≠ b + 4 → q ≠ b + 5 → q ≠ b + 6 → w3[q]? = w[q]? := fun q n1 n2 n3 n4 n5 n6 => by rw [← hw3]; exact ((set_ne (Ne.symm n6)).trans (set_ne (Ne.symm n5))).trans (o2 q n1 n2 n3 n4)
  have l3 : w3.length = w.length := by rw [← hw3]; unfold rar rsz; rw [List.length_set, List.length_set]; exact l2
  have r3 : RowsAt w3 (b + 1) (b + 2) 8 5 nR2 (nIf (cpN g2 g 40)) := by
    rw [← hw3]; exact r2.oth ((set_ne (by omega)).trans (set_ne (by omega))) ((set_ne (by omega)).trans (set_ne (by omega)))
  have pp3 : RowsAt w3 (b + 3) (b + 4) 4 5 nP2 (nIf (cpN p2 p 20)) := by
    rw [← hw3]; exact pp2.oth ((set_ne (by omega)).trans (set_ne (by omega))) ((set_ne (by omega)).trans (set_ne (by omega)))
  have d3 : RowsAt w3 (b + 5) (b + 6) 10 7 nD2 (nIf (cpN D2 D 70)) := by
    rw [← hw3, cpy_nIf]; exact (d2.onS d2'.2.2.2.2.1).onA _
  have f3 : am_fld w3 b 0 3 = some (.ref (b + 7)) := fld_at ((o3 b (by omega) (by omega) (by omega) (by omega) (by omega) (by omega)).trans h.1)
  have f3' : am_fld w3 b2 0 3 = some (.ref (b2 + 7)) := fld_at ((o3 b2 (by omega) (by omega) (by omega) (by omega) (by omega) (by omega)).trans h2.1)
  have m3 : RowsAt w3 (b + 7) (b + 8) 10 4 nM (nIf M) := h.m.oth (o3 _ (by omega) (by omega) (by omega) (by omega) (by omega) (by omega)) (o3 _ (by omega) (by omega) (by omega) (by omega) (by omega) (by omega))
  have m3' : RowsAt w3 (b2 + 7) (b2 + 8) 10 4 nM2 (nIf M2) := h2.m.oth (o3 _ (by omega) (by omega) (by omega) (by omega) (by omega) (by omega)) (o3 _ (by omega) (by omega) (by omega) (by omega) (by omega) (by omega))
  have K4 := fun (Q : am_Q) => rows_copy (X := X) (d := d) (Q := Q) m3 m3' (by omega) (by omega) (by omega) (by omega)
  simp only [f3, f3', hb1, hb21, m3.i1, m3.cl, K4, OpV_some, OpN_some, OpA_some, OpR_some, Option.toList_some, Option.toList_none, List.cons_append, List.nil_append, true_and, and_true, nI11, or_true, true_or, or_false, false_or, s1_0, s1_1, s1_4, s1_5, s1_8, s1_11, s1_12, s1_15, s1_16, s1_19, s1_22, s1_23, s1_26, s1_27, s1_30, s1_33, s1_34, s1_37, s1_38, s1_41, s1_44]
  generalize hw4 : rar (rsz w3 (b + 7) (b + 8) 10 4 nM2) (b + 8) (10 * 4) (cpy (nIf M2) (nIf M) (10 * 4)) = w4
  have o4 : ∀ q, q ≠ b + 1 → q ≠ b + 2 → q ≠ b + 3 → q ≠ b + 4 → q ≠ b + 5 → q ≠ b + 6 → q ≠ b + 7 → q ≠ b + 8 → w4[q]? = w[q]? := fun q n1 n2 n3 n4 n5 n6 n7 n8 => by rw [← hw4]; exact ((set_ne (Ne.symm n8)).trans (set_ne (Ne.symm n7))).trans (o3 q n1 n2 n3 n4 n5 n6)
  have l4 : w4.length = w.length := by rw [← hw4]; unfold rar rsz; rw [List.length_set, List.length_set]; exact l3
  have s4 : ∀ q, q ≠ b + 7 → q ≠ b + 8 → w4[q]? = w3[q]? := fun q n7 n8 => by rw [← hw4]; exact (set_ne (Ne.symm n8)).trans (set_ne (Ne.symm n7))
  refine hQ w4 ⟨l4, fun q hq => ?_⟩ ⟨(o4 b (by omega) (by omega) (by omega) (by omega) (by omega) (by omega) (by omega) (by omega)).trans h.1, hb, r3.oth (s4 _ (by omega) (by omega)) (s4 _ (by omega) (by omega)), pp3.oth (s4 _ (by omega) (by omega)) (s4 _ (by omega) (by omega)), d3.oth (s4 _ (by omega) (by omega)) (s4 _ (by omega) (by omega)), ?_⟩ (h2.oth fun q a1 a2 => o4 q (by omega) (by omega) (by omega) (by omega) (by omega) (by omega) (by omega) (by omega))
  · simp only [List.mem_cons, List.not_mem_nil, or_false, not_or] at hq
    exact o4 q hq.1 hq.2.1 hq.2.2.1 hq.2.2.2.1 hq.2.2.2.2.1 hq.2.2.2.2.2.1 hq.2.2.2.2.2.2.1 hq.2.2.2.2.2.2.2
  · rw [← hw4, cpy_nIf]; exact (m3.onS m3'.2.2.2.2.1).onA _
end NOWB
