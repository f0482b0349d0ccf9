/-! rows that are not there; one choice of drifts -/
section DRIFT2
variable {X : am_X} {d : Nat} {Q : am_Q} {w : am_W} {s : CSt}
theorem rows_getO {i j ro wi sz r c : Nat} {f : Nat → Int32} (h : RowsAt w i j ro wi sz f) (hr : ¬ r < sz) (h1 : r < 100) (h2 : c < 100) : Cl X (d + 1) 34 [.ref i, .int (nI r), .int (nI c)] w Q = Q (some (.int (nI 0))) w := by
  have hb := h.big
  have h5 := h.2.2.2.2.1
  have h6 := h.2.2.2.2.2.1
  have h7 := h.2.2.2.2.2.2
  rw [e34]
  simp only [s34_0, s34_1, s34_2, s34_5, s34_6, s34_7, s34_8, s34_9, s34_10, s34_13, s34_14, s34_15, s34_18, s34_21, s34_22, s34_25, s34_26, s34_27, s34_30, s34_33, s34_34, s34_35, s34_38, s34_39, s34_42, s34_43, s34_46, s34_47, s34_49, s34_51, s34_54, s34_55, s34_58, s34_59, s34_60, s34_63, s34_64, h.f1, h.f2, h.f3, h.ar, h.i1, h.j1, OpV_some, OpN_some, OpA_some, OpR_some, Option.toList_some, Option.toList_none, List.cons_append, List.nil_append, true_and, and_true, nI11, or_true, true_or, or_false, false_or, pk_mul, nI_add, nI_lt0 (show r < 2 ^ 31 by omega), nI_ltN (show r < 2 ^ 31 by omega) (show sz < 2 ^ 31 by omega), hr, if_true, if_false, show (nI 0 = 0) = True by decide]
theorem rows_setO {i j ro wi sz r c : Nat} {v : Int32} {f : Nat → Int32} (h : RowsAt w i j ro wi sz f) (hr : ¬ r < sz) (h1 : r < 100) (h2 : c < 100) : Cl X (d + 1) 35 [.ref i, .int (nI r), .int (nI c), .int v] w Q = Q none w := by
  have hb := h.big
  have h5 := h.2.2.2.2.1
  have h6 := h.2.2.2.2.2.1
  have h7 := h.2.2.2.2.2.2
  rw [e35]
  simp only [s35_0, s35_1, s35_2, s35_5, s35_6, s35_7, s35_8, s35_10, s35_11, s35_14, s35_15, s35_16, s35_19, s35_22, s35_23, s35_26, s35_27, s35_28, s35_31, s35_34, s35_36, s35_37, s35_40, s35_41, s35_44, s35_45, s35_48, s35_50, s35_51, s35_52, h.f1, h.f2, h.f3, h.ar, h.i1, h.j1, OpV_some, OpN_some, OpA_some, OpR_some, Option.toList_some, Option.toList_none, List.cons_append, List.nil_append, true_and, and_true, nI11, or_true, true_or, or_false, false_or, pk_mul, nI_add, nI_lt0 (show r < 2 ^ 31 by omega), nI_ltN (show r < 2 ^ 31 by omega) (show sz < 2 ^ 31 by omega), hr, if_true, if_false]
/-- the ropes by a choice: its figures to the base are the drifts of the listed ropes -/
def drf (L g : Nat → Nat) (nR base : Nat) : Nat → Nat → Nat → (Nat → Nat) → (Nat → Nat)
  | 0, _, _, f => f
  | n + 1, i, l, f => drf L g nR base n (i + 1) (l / base) (if L i < nR then upN f (L i * 5 + 2) (g (L i * 5 + 2) + l % base) else f)
theorem c_dby_loop {L : Nat → Nat} {ch un dd base : Nat} (hun : un ≤ 4) (h8 : ∀ q, q < un → L q < 8) (hb0 : 0 < base) (hb3 : base ≤ 3) (V : Valid s) : ∀ (n i l : Nat) (f : Nat → Nat) (u : am_W) (l7 : Option Value), i + n = un → l < 2 ^ 31 → CityAt u s → RowsAt u 46 47 8 5 s.2.2.1.1.1 (nIf f) → u[56]? = some (.inl (0, 4, .inl (nIf L))) → agr w u [46, 47] →
    (∀ v, CityAt v s → RowsAt v 46 47 8 5 s.2.2.1.1.1 (nIf (drf L s.2.2.1.1.2 s.2.2.1.1.1 base n i l f)) → agr w v [46, 47] → Q none v) →
    Wp X (Cl X (d + 1)) 81 Q (32, [some (.ref 0), some (.int (nI ch)), some (.int (nI un)), some (.int (nI dd)), some (.int (nI base)), some (.int (nI l)), some (.int (nI i)), l7], [], u, 0, 0)
  | 0, i, l, f, u, l7, e, hl, C, R, hL, ag, hQ => by
    rw [s81_32]
    simp only [s81_0, s81_1, s81_4, s81_7, s81_8, s81_11, s81_14, s81_17, s81_18, s81_19, s81_20, s81_21, s81_24, s81_26, s81_27, s81_29, s81_30, s81_34, s81_35, s81_38, s81_40, s81_41, s81_44, s81_45, s81_48, s81_49, s81_52, s81_54, s81_55, s81_57, s81_58, s81_61, s81_64, s81_66, s81_67, s81_68, s81_71, s81_74, s81_76, s81_77, s81_80, s81_82, s81_84, s81_85, s81_86, s81_89, s81_91, s81_93, s81_94, s81_96, s81_99, s81_102, OpV_some, OpN_some, OpA_some, OpR_some, Option.toList_some, Option.toList_none, List.cons_append, List.nil_append, true_and, and_true, nI11, or_true, true_or, or_false, false_or, nI_ltN (show i < 2 ^ 31 by omega) (show un < 2 ^ 31 by omega), show ¬ i < un by omega, if_false]
    exact hQ u C R ag
  | n + 1, i, l, f, u, l7, e, hl, C, R, hL, ag, hQ => by
    have hr8 := C.rp.2.2.2.2.1
    have h7 := h8 i (by omega)
    have hdv : l / base < 2 ^ 31 := Nat.lt_of_le_of_lt (Nat.div_le_self _ _) hl
    simp only [drf] at hQ
    rw [s81_32]
    by_cases hk : L i < s.2.2.1.1.1
    · simp only [s81_0, s81_1, s81_4, s81_7, s81_8, s81_11, s81_14, s81_17, s81_18, s81_19, s81_20, s81_21, s81_24, s81_26, s81_27, s81_29, s81_30, s81_34, s81_35, s81_38, s81_40, s81_41, s81_44, s81_45, s81_48, s81_49, s81_52, s81_54, s81_55, s81_57, s81_58, s81_61, s81_64, s81_66, s81_67, s81_68, s81_71, s81_74, s81_76, s81_77, s81_80, s81_82, s81_84, s81_85, s81_86, s81_89, s81_91, s81_93, s81_94, s81_96, s81_99, s81_102, OpV_some, OpN_some, OpA_some, OpR_some, Option.toList_some, Option.toList_none, List.cons_append, List.nil_append, true_and, and_true, nI11, or_true, true_or, or_false, false_or, nI_ltN (show i < 2 ^ 31 by omega) (show un < 2 ^ 31 by omega), show i < un by omega, if_true, C.f3, C.n0, C.f10, C.t1, C.f14, arr_at (show 56 < 1000 by decide) hL, nI_ltN (show i < 2 ^ 31 by omega) (show 4 < 2 ^ 31 by decide), show i < 4 by omega, in_nI (show i < 4 by omega) (show 4 < 2 ^ 31 by decide), cl_nI (show i < 2 ^ 31 by omega), nIf, C.rp.cl, R.cl, rows_getN C.rp hk (show 2 < 5 by decide), nI_mod hl hb0 (show base < 2 ^ 31 by omega), nI_div hl hb0 (show base < 2 ^ 31 by omega), nI_eq0 (show base < 2 ^ 31 by omega), show ¬ base = 0 by omega, not_false_eq_true, nI_add, rows_setN R hk (show 2 < 5 by decide), true_or, show (0 : Nat) < 1000 by decide, show (4 : Nat) < 1000 by decide, show (5 : Nat) < 1000 by decide, show (45 : Nat) < 1000 by decide, show (46 : Nat) < 1000 by decide, show (56 : Nat) < 1000 by decide]
      simp only [hk, if_true] at hQ
      have ag2 : agr u (rar u 47 (8 * 5) (nIf (upN f (L i * 5 + 2) (s.2.2.1.1.2 (L i * 5 + 2) + l % base)))) [46, 47] := (agr.rf u _).st (by decide) _
      have R2 := R.onA (nIf (upN f (L i * 5 + 2) (s.2.2.1.1.2 (L i * 5 + 2) + l % base)))
      exact c_dby_loop hun h8 hb0 hb3 V n (i + 1) _ _ _ _ (by omega) hdv (C.onTr ag2 R2) R2 ((ag2.2 56 (by decide)).trans hL) (ag.tr ag2) hQ
    · simp only [s81_0, s81_1, s81_4, s81_7, s81_8, s81_11, s81_14, s81_17, s81_18, s81_19, s81_20, s81_21, s81_24, s81_26, s81_27, s81_29, s81_30, s81_34, s81_35, s81_38, s81_40, s81_41, s81_44, s81_45, s81_48, s81_49, s81_52, s81_54, s81_55, s81_57, s81_58, s81_61, s81_64, s81_66, s81_67, s81_68, s81_71, s81_74, s81_76, s81_77, s81_80, s81_82, s81_84, s81_85, s81_86, s81_89, s81_91, s81_93, s81_94, s81_96, s81_99, s81_102, OpV_some, OpN_some, OpA_some, OpR_some, Option.toList_some, Option.toList_none, List.cons_append, List.nil_append, true_and, and_true, nI11, or_true, true_or, or_false, false_or, nI_ltN (show i < 2 ^ 31 by omega) (show un < 2 ^ 31 by omega), show i < un by omega, if_true, C.f3, C.n0, C.f10, C.t1, C.f14, arr_at (show 56 < 1000 by decide) hL, nI_ltN (show i < 2 ^ 31 by omega) (show 4 < 2 ^ 31 by decide), show i < 4 by omega, in_nI (show i < 4 by omega) (show 4 < 2 ^ 31 by decide), cl_nI (show i < 2 ^ 31 by omega), nIf, C.rp.cl, R.cl, rows_getO C.rp hk (show L i < 100 by omega) (show 2 < 100 by decide), nI_mod hl hb0 (show base < 2 ^ 31 by omega), nI_div hl hb0 (show base < 2 ^ 31 by omega), nI_eq0 (show base < 2 ^ 31 by omega), show ¬ base = 0 by omega, not_false_eq_true, nI_add, rows_setO R hk (show L i < 100 by omega) (show 2 < 100 by decide), true_or, show (0 : Nat) < 1000 by decide, show (4 : Nat) < 1000 by decide, show (5 : Nat) < 1000 by decide, show (45 : Nat) < 1000 by decide, show (46 : Nat) < 1000 by decide, show (56 : Nat) < 1000 by decide]
      simp only [hk, if_false] at hQ
      exact c_dby_loop hun h8 hb0 hb3 V n (i + 1) _ _ _ _ (by omega) hdv C R hL ag hQ
end DRIFT2
