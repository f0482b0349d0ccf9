/-! mayStand -/
def mayB (k it nR nP : Nat) : Bool := if k = 0 then decide (it = 0) else if k = 1 then true else if k = 2 then decide (nR < 8) else decide (nP < 4)
section STAND
variable {X : am_X} {d : Nat} {Q : am_Q} {w : am_W} {le pl be tk va nR nP : Nat} {B g p : Nat → Nat}
theorem rd_stand (T : TkAt w le pl be tk va B) (R : RowsAt w 38 39 8 5 nR (nIf g)) (P : RowsAt w 40 41 4 5 nP (nIf p)) {k it : Nat} (hk : k < 4) (hi : it < 10000) : Cl X (d + 1) 12 [.ref 35, .int (nI k), .int (nI it)] w Q = Q (some (.int (nI (if mayB k it nR nP = true then 1 else 0)))) w := by
  have h8 := R.2.2.2.2.1
  have h4 := P.2.2.2.2.1
  have f1 : am_fld w 35 1 1 = some (.ref 38) := fld_at T.1
  have f2 : am_fld w 35 1 2 = some (.ref 40) := fld_at T.1
  rw [e12]
  unfold mayB
  rcases (show k = 0 ∨ k = 1 ∨ k = 2 ∨ k = 3 by omega) with rfl | rfl | rfl | rfl
  · simp only [s12_0, s12_1, s12_32, s12_33, s12_36, s12_37, s12_40, s12_41, s12_42, s12_43, s12_44, s12_45, s12_48, s12_51, s12_53, s12_56, s12_57, s12_60, s12_61, s12_62, s12_63, s12_66, s12_69, s12_70, s12_73, s12_74, s12_77, s12_78, s12_79, s12_80, OpV_some, OpN_some, OpA_some, OpR_some, Option.toList_some, Option.toList_none, List.cons_append, List.nil_append, true_and, and_true, nI11, or_true, true_or, or_false, false_or, show am_tsw 1 78 0 3 #[31, 41, 43, 61] (nI 0).toInt = some 32 by decide, nI_eq0 (show it < 2 ^ 31 by omega), b01_0, b01_1, if_true, decide_eq_true_eq]
    by_cases h : it = 0 <;> simp only [h, if_true, if_false]
  · simp only [s12_0, s12_1, s12_32, s12_33, s12_36, s12_37, s12_40, s12_41, s12_42, s12_43, s12_44, s12_45, s12_48, s12_51, s12_53, s12_56, s12_57, s12_60, s12_61, s12_62, s12_63, s12_66, s12_69, s12_70, s12_73, s12_74, s12_77, s12_78, s12_79, s12_80, OpV_some, OpN_some, OpA_some, OpR_some, Option.toList_some, Option.toList_none, List.cons_append, List.nil_append, true_and, and_true, nI11, or_true, true_or, or_false, false_or, show am_tsw 1 78 0 3 #[31, 41, 43, 61] (nI 1).toInt = some 42 by decide, b01_1, if_true, show ¬ (1 = 0) by decide, if_false]
  · simp only [s12_0, s12_1, s12_32, s12_33, s12_36, s12_37, s12_40, s12_41, s12_42, s12_43, s12_44, s12_45, s12_48, s12_51, s12_53, s12_56, s12_57, s12_60, s12_61, s12_62, s12_63, s12_66, s12_69, s12_70, s12_73, s12_74, s12_77, s12_78, s12_79, s12_80, OpV_some, OpN_some, OpA_some, OpR_some, Option.toList_some, Option.toList_none, List.cons_append, List.nil_append, true_and, and_true, nI11, or_true, true_or, or_false, false_or, show am_tsw 1 78 0 3 #[31, 41, 43, 61] (nI 2).toInt = some 44 by decide, f1, R.f3, nI_ltN (show nR < 2 ^ 31 by omega) (show 8 < 2 ^ 31 by decide), b01_0, b01_1, show ¬ (2 = 0) by decide, show ¬ (2 = 1) by decide, if_true, if_false, decide_eq_true_eq, show (35 : Nat) < 1000 by decide, show (38 : Nat) < 1000 by decide]
    by_cases h : nR < 8 <;> simp only [h, if_true, if_false]
  · simp only [s12_0, s12_1, s12_32, s12_33, s12_36, s12_37, s12_40, s12_41, s12_42, s12_43, s12_44, s12_45, s12_48, s12_51, s12_53, s12_56, s12_57, s12_60, s12_61, s12_62, s12_63, s12_66, s12_69, s12_70, s12_73, s12_74, s12_77, s12_78, s12_79, s12_80, OpV_some, OpN_some, OpA_some, OpR_some, Option.toList_some, Option.toList_none, List.cons_append, List.nil_append, true_and, and_true, nI11, or_true, true_or, or_false, false_or, show am_tsw 1 78 0 3 #[31, 41, 43, 61] (nI 3).toInt = some 62 by decide, f2, P.f3, nI_ltN (show nP < 2 ^ 31 by omega) (show 4 < 2 ^ 31 by decide), b01_0, b01_1, show ¬ (3 = 0) by decide, show ¬ (3 = 1) by decide, show ¬ (3 = 2) by decide, if_true, if_false, decide_eq_true_eq, show (35 : Nat) < 1000 by decide, show (40 : Nat) < 1000 by decide]
    by_cases h : nP < 4 <;> simp only [h, if_true, if_false]
end STAND
