/-! the next token -/
theorem scn_ge (p : Nat → Bool) : ∀ (n i : Nat), i ≤ scn p n i ∧ scn p n i ≤ i + n
  | 0, i => ⟨Nat.le_refl _, Nat.le_refl _⟩
  | n + 1, i => by
    unfold scn
    split
    · have := scn_ge p n (i + 1); omega
    · omega
def skp (B : Nat → Nat) (le be : Nat) : Nat := scn (fun i => decide (B i = 32)) (le - be) be
/-- behind, token, value after the token at pl -/
def nxt (B : Nat → Nat) (le pl va : Nat) : Nat × Nat × Nat :=
  if le ≤ pl then (pl, 0, va)
  else if ltr (B pl) = true then (scn (fun i => ltr (B i)) (le - pl) pl, 1, va)
  else if fig (B pl) = true then ((nmv B (le - pl) pl 0).1, ntk B pl (nmv B (le - pl) pl 0).1 (nmv B (le - pl) pl 0).2, (nmv B (le - pl) pl 0).2)
  else (pl + 1, if B pl = 59 then 3 else 4, va)
section NEXT
variable {X : am_X} {d : Nat} {Q : am_Q} {u : am_W} {le pl be tk va : Nat} {B : Nat → Nat}
theorem rd_skip (h : RB u le B) (l1 : Option Value) : ∀ (n pl : Nat), pl + n = le → Wp X (Cl X (d + 3)) 21 Q (8, [some (.ref 35), l1], [], ro u le pl be tk va, 0, 0) = Wp X (Cl X (d + 3)) 21 Q (45, [some (.ref 35), l1], [], ro u le (scn (fun i => decide (B i = 32)) n pl) be tk va, 0, 0)
  | 0, pl, e => by
    have h3 := h.2.2.1
    rw [s21_8]
    simp only [s21_9, s21_12, s21_13, s21_16, s21_19, OpV_some, OpN_some, OpA_some, OpR_some, Option.toList_some, Option.toList_none, List.cons_append, List.nil_append, true_and, and_true, nI11, or_true, true_or, or_false, false_or, h.ob.f4, h.ob.f5, nI_ltN (show pl < 2 ^ 31 by omega) (show le < 2 ^ 31 by omega), show ¬ pl < le by omega, if_false, scn, show (35 : Nat) < 1000 by decide]
  | n + 1, pl, e => by
    have h3 := h.2.2.1
    have hb := h.2.2.2 pl (by omega)
    have ih := rd_skip h l1 n (pl + 1) (by omega)
    have hbt : bt B le pl = nI (B pl) := by unfold bt; rw [if_pos (by omega)]
    rw [s21_8]
    simp only [s21_9, s21_12, s21_13, s21_16, s21_19, s21_20, s21_21, s21_24, s21_27, s21_29, s21_32, s21_33, s21_34, s21_37, s21_38, s21_39, s21_42, OpV_some, OpN_some, OpA_some, OpR_some, Option.toList_some, Option.toList_none, List.cons_append, List.nil_append, true_and, and_true, nI11, or_true, true_or, or_false, false_or, h.ob.f4, h.ob.f5, h.ob.cl, nI_ltN (show pl < 2 ^ 31 by omega) (show le < 2 ^ 31 by omega), show pl < le by omega, if_true, rd_byteAt h.ob (show pl < 10000 by omega), hbt, nI_eqN (show B pl < 2 ^ 31 by omega) (show 32 < 2 ^ 31 by decide), nI_add, h.p5, scn, decide_eq_true_eq, show (35 : Nat) < 1000 by decide]
    by_cases hl : B pl = 32
    · simp only [hl, if_true]
      exact ih
    · simp only [hl, if_false]
/-- nextToken -/
theorem rd_next (h : RB u le B) (hb : be ≤ le) : Cl X (d + 4) 21 [.ref 35] (ro u le pl be tk va) Q = Q none (ro u le (skp B le be) (nxt B le (skp B le be) va).1 (nxt B le (skp B le be) va).2.1 (nxt B le (skp B le be) va).2.2) := by
  have h3 := h.2.2.1
  have hs := scn_ge (fun i => decide (B i = 32)) (le - be) be
  rw [e21]
  simp only [s21_0, s21_1, s21_2, s21_5, OpV_some, OpN_some, OpA_some, OpR_some, Option.toList_some, Option.toList_none, List.cons_append, List.nil_append, true_and, and_true, nI11, or_true, true_or, or_false, false_or, h.ob.f5, h.ob.f6, h.p5, show (35 : Nat) < 1000 by decide]
  rw [rd_skip h none (le - be) be (by omega)]
  unfold skp
  generalize scn (fun i => decide (B i = 32)) (le - be) be = p at hs ⊢
  unfold nxt
  by_cases hp : le ≤ p
  · have hbt : bt B le p = -1 := by unfold bt; rw [if_neg (by omega)]
    simp only [s21_45, s21_46, s21_47, s21_50, s21_53, s21_54, s21_55, s21_58, s21_61, s21_62, s21_63, s21_66, s21_67, s21_70, s21_73, s21_74, s21_75, s21_78, s21_81, s21_82, s21_85, s21_88, s21_89, s21_92, s21_95, s21_96, s21_99, s21_102, s21_103, s21_106, s21_109, s21_110, s21_111, s21_113, s21_116, s21_117, s21_120, s21_121, s21_124, s21_125, s21_126, s21_129, s21_130, s21_131, s21_134, OpV_some, OpN_some, OpA_some, OpR_some, Option.toList_some, Option.toList_none, List.cons_append, List.nil_append, true_and, and_true, nI11, or_true, true_or, or_false, false_or, h.ob.f4, h.ob.f5, h.ob.f6, h.ob.f7, h.ob.cl, h.p6, h.p7, rd_byteAt h.ob (show p < 10000 by omega), hbt, nI_ltN (show p < 2 ^ 31 by omega) (show le < 2 ^ 31 by omega), show ¬ p < le by omega, hp, if_true, if_false, show (35 : Nat) < 1000 by decide]
  · have hb := h.2.2.2 p (by omega)
    have hbt : bt B le p = nI (B p) := by unfold bt; rw [if_pos (by omega)]
    simp only [s21_45, s21_46, s21_47, s21_50, s21_53, s21_54, s21_55, s21_58, s21_61, s21_62, s21_63, s21_66, s21_67, s21_70, s21_73, s21_74, s21_75, s21_78, s21_81, s21_82, s21_85, s21_88, s21_89, s21_92, s21_95, s21_96, s21_99, s21_102, s21_103, s21_106, s21_109, s21_110, s21_111, s21_113, s21_116, s21_117, s21_120, s21_121, s21_124, s21_125, s21_126, s21_129, s21_130, s21_131, s21_134, OpV_some, OpN_some, OpA_some, OpR_some, Option.toList_some, Option.toList_none, List.cons_append, List.nil_append, true_and, and_true, nI11, or_true, true_or, or_false, false_or, h.ob.f4, h.ob.f5, h.ob.f6, h.ob.f7, h.ob.cl, h.p6, h.p7, rd_byteAt h.ob (show p < 10000 by omega), hbt, nI_ltN (show p < 2 ^ 31 by omega) (show le < 2 ^ 31 by omega), show p < le by omega, hp, if_true, if_false, rd_letter (show B p < 1000 by omega), rd_figure (show B p < 1000 by omega), nI_ite, rd_word h (show p ≤ le by omega), rd_num h (show p < le by omega), nI_eqN (show B p < 2 ^ 31 by omega) (show 59 < 2 ^ 31 by decide), nI_add, show (35 : Nat) < 1000 by decide]
    by_cases h1 : ltr (B p) = true
    · simp only [h1, not_true, if_true, if_false]
    · by_cases h2 : fig (B p) = true
      · simp only [h1, h2, not_true, not_false_eq_true, if_true, if_false, Bool.false_eq_true]
      · simp only [h1, h2, not_false_eq_true, if_true, if_false, Bool.false_eq_true]
        by_cases h4 : B p = 59
        · simp only [h4, if_true]
        · simp only [h4, if_false]
end NEXT
