/-! the reader's object in any state; words and numbers are passed -/
def ro (u : am_W) (le pl be tk va : Nat) : am_W := u.set 35 (.inr (1, [.ref 36, .ref 38, .ref 40, .ref 42, .int (nI le), .int (nI pl), .int (nI be), .int (nI tk), .int (nI va), .ref 43]))
def RB (u : am_W) (le : Nat) (B : Nat → Nat) : Prop := (∃ c, u[35]? = some c) ∧ u[42]? = some (.inl (0, 300, .inl (nIf B))) ∧ le ≤ 300 ∧ ∀ i, i < le → B i < 256
/-- the first place, of so many from i on, at which p is not -/
def scn (p : Nat → Bool) : Nat → Nat → Nat
  | 0, i => i
  | n + 1, i => if p i = true then scn p n (i + 1) else i
def nmv (B : Nat → Nat) : Nat → Nat → Nat → Nat × Nat
  | 0, i, v => (i, v)
  | n + 1, i, v => if fig (B i) = true then nmv B n (i + 1) (min 100 (v * 10 + (B i - 48))) else (i, v)
section TOKEN
variable {X : am_X} {d : Nat} {Q : am_Q} {u : am_W} {le pl be tk va : Nat} {B : Nat → Nat}
theorem RB.ob (h : RB u le B) : TkAt (ro u le pl be tk va) le pl be tk va B := by
  obtain ⟨⟨c, h1⟩, h2, h3, h4⟩ := h
  exact ⟨set_at h1, (set_ne (by decide)).trans h2, h3, h4⟩
theorem RB.p5 (h : RB u le B) (v : Nat) : am_put (ro u le pl be tk va) 35 5 (.int (nI v)) = ro u le v be tk va := by rw [put_at (h.ob (pl := pl) (be := be) (tk := tk) (va := va)).1]; unfold ro; rw [List.set_set]; rfl
theorem RB.p6 (h : RB u le B) (v : Nat) : am_put (ro u le pl be tk va) 35 6 (.int (nI v)) = ro u le pl v tk va := by rw [put_at (h.ob (pl := pl) (be := be) (tk := tk) (va := va)).1]; unfold ro; rw [List.set_set]; rfl
theorem RB.p7 (h : RB u le B) (v : Nat) : am_put (ro u le pl be tk va) 35 7 (.int (nI v)) = ro u le pl be v va := by rw [put_at (h.ob (pl := pl) (be := be) (tk := tk) (va := va)).1]; unfold ro; rw [List.set_set]; rfl
theorem RB.p8 (h : RB u le B) (v : Nat) : am_put (ro u le pl be tk va) 35 8 (.int (nI v)) = ro u le pl be tk v := by rw [put_at (h.ob (pl := pl) (be := be) (tk := tk) (va := va)).1]; unfold ro; rw [List.set_set]; rfl
theorem rd_word_loop (h : RB u le B) : ∀ (n be : Nat), be + n = le → Wp X (Cl X (d + 1)) 22 Q (5, [some (.ref 35)], [], ro u le pl be tk va, 0, 0) = Q none (ro u le pl (scn (fun i => ltr (B i)) n be) tk va)
  | 0, be, e => by
    have h3 := h.2.2.1
    rw [s22_5]
    simp only [s22_0, s22_1, s22_2, s22_6, s22_9, s22_10, s22_13, s22_16, s22_17, s22_18, s22_21, s22_24, s22_27, s22_30, s22_31, s22_32, s22_35, s22_36, s22_37, s22_40, s22_43, OpV_some, OpN_some, OpA_some, OpR_some, Option.toList_some, Option.toList_none, List.cons_append, List.nil_append, true_and, and_true, nI11, or_true, true_or, or_false, false_or, h.ob.f4, h.ob.f6, nI_ltN (show be < 2 ^ 31 by omega) (show le < 2 ^ 31 by omega), show ¬ be < le by omega, if_false, scn, show (35 : Nat) < 1000 by decide]
  | n + 1, be, e => by
    have h3 := h.2.2.1
    have hb := h.2.2.2 be (by omega)
    have ih := rd_word_loop h n (be + 1) (by omega)
    have hbt : bt B le be = nI (B be) := by unfold bt; rw [if_pos (by omega)]
    rw [s22_5]
    simp only [s22_0, s22_1, s22_2, s22_6, s22_9, s22_10, s22_13, s22_16, s22_17, s22_18, s22_21, s22_24, s22_27, s22_30, s22_31, s22_32, s22_35, s22_36, s22_37, s22_40, s22_43, OpV_some, OpN_some, OpA_some, OpR_some, Option.toList_some, Option.toList_none, List.cons_append, List.nil_append, true_and, and_true, nI11, or_true, true_or, or_false, false_or, h.ob.f4, h.ob.f6, h.ob.cl, nI_ltN (show be < 2 ^ 31 by omega) (show le < 2 ^ 31 by omega), show be < le by omega, if_true, rd_byteAt h.ob (show be < 10000 by omega), hbt, rd_letter (show B be < 1000 by omega), nI_ite, nI_add, h.p6, scn, show (35 : Nat) < 1000 by decide]
    by_cases hl : ltr (B be) = true
    · simp only [hl, not_true, if_true, if_false]
      exact ih
    · simp only [hl, not_false_eq_true, if_true, if_false, Bool.false_eq_true]
theorem rd_word (h : RB u le B) (hb : be ≤ le) : Cl X (d + 2) 22 [.ref 35] (ro u le pl be tk va) Q = Q none (ro u le pl (scn (fun i => ltr (B i)) (le - be) be) 1 va) := by
  rw [e22]
  simp only [s22_0, s22_1, s22_2, s22_6, s22_9, s22_10, s22_13, s22_16, s22_17, s22_18, s22_21, s22_24, s22_27, s22_30, s22_31, s22_32, s22_35, s22_36, s22_37, s22_40, s22_43, OpV_some, OpN_some, OpA_some, OpR_some, Option.toList_some, Option.toList_none, List.cons_append, List.nil_append, true_and, and_true, nI11, or_true, true_or, or_false, false_or, h.ob.f7, h.p7, show (35 : Nat) < 1000 by decide]
  exact rd_word_loop h (le - be) be (by omega)
theorem nmv_ge (B : Nat → Nat) : ∀ (n be va : Nat), va ≤ 100 → be ≤ (nmv B n be va).1 ∧ (nmv B n be va).1 ≤ be + n ∧ (nmv B n be va).2 ≤ 100
  | 0, be, va, h => ⟨Nat.le_refl _, Nat.le_refl _, h⟩
  | n + 1, be, va, h => by
    unfold nmv
    split
    · obtain ⟨a, b, c⟩ := nmv_ge B n (be + 1) (min 100 (va * 10 + (B be - 48))) (by omega)
      exact ⟨by omega, by omega, c⟩
    · exact ⟨Nat.le_refl _, Nat.le_add_right _ _, h⟩
theorem rd_num_loop (h : RB u le B) (l1 : Option Value) : ∀ (n be va : Nat), be + n = le → va ≤ 100 → Wp X (Cl X (d + 1)) 23 Q (5, [some (.ref 35), l1], [], ro u le pl be tk va, 0, 0) = Wp X (Cl X (d + 1)) 23 Q (71, [some (.ref 35), l1], [], ro u le pl (nmv B n be va).1 tk (nmv B n be va).2, 0, 0)
  | 0, be, va, e, hv => by
    have h3 := h.2.2.1
    rw [s23_5]
    simp only [s23_6, s23_9, s23_10, s23_13, s23_16, OpV_some, OpN_some, OpA_some, OpR_some, Option.toList_some, Option.toList_none, List.cons_append, List.nil_append, true_and, and_true, nI11, or_true, true_or, or_false, false_or, h.ob.f4, h.ob.f6, nI_ltN (show be < 2 ^ 31 by omega) (show le < 2 ^ 31 by omega), show ¬ be < le by omega, if_false, nmv, show (35 : Nat) < 1000 by decide]
  | n + 1, be, va, e, hv => by
    have h3 := h.2.2.1
    have hb := h.2.2.2 be (by omega)
    have ih := fun va hv => rd_num_loop h l1 n (be + 1) va (by omega) hv
    have hbt : bt B le be = nI (B be) := by unfold bt; rw [if_pos (by omega)]
    rw [s23_5]
    simp only [s23_6, s23_9, s23_10, s23_13, s23_16, s23_17, s23_18, s23_21, s23_24, s23_27, s23_30, OpV_some, OpN_some, OpA_some, OpR_some, Option.toList_some, Option.toList_none, List.cons_append, List.nil_append, true_and, and_true, nI11, or_true, true_or, or_false, false_or, h.ob.f4, h.ob.f6, h.ob.cl, nI_ltN (show be < 2 ^ 31 by omega) (show le < 2 ^ 31 by omega), show be < le by omega, if_true, rd_byteAt h.ob (show be < 10000 by omega), hbt, rd_figure (show B be < 1000 by omega), nI_ite, nmv, show (35 : Nat) < 1000 by decide]
    by_cases hl : fig (B be) = true
    · have h48 : 48 ≤ B be := by unfold fig at hl; simp at hl; exact hl.1
      have e1 : va * 10 + B be - 48 = va * 10 + (B be - 48) := by omega
      simp only [hl, not_true, if_true, if_false, s23_31, s23_33, s23_34, s23_37, s23_39, s23_40, s23_41, s23_42, s23_45, s23_48, s23_49, s23_51, s23_52, s23_55, s23_58, s23_59, s23_60, s23_63, s23_64, s23_65, s23_68, OpV_some, OpN_some, OpA_some, OpR_some, Option.toList_some, Option.toList_none, List.cons_append, List.nil_append, true_and, and_true, nI11, or_true, true_or, or_false, false_or, h.ob.f6, h.ob.f8, h.ob.cl, rd_byteAt h.ob (show be < 10000 by omega), hbt, pk_mul, nI_add, nI_subN (show 48 ≤ va * 10 + B be by omega), e1, math_min, imin_nI (show 100 < 2 ^ 31 by decide) (show va * 10 + (B be - 48) < 2 ^ 31 by omega), h.p6, h.p8, show (35 : Nat) < 1000 by decide]
      exact ih _ (by omega)
    · simp only [hl, not_false_eq_true, if_true, if_false, Bool.false_eq_true]
/-- the token of a number: 4 where it is none, else 2 -/
def ntk (B : Nat → Nat) (pl b v : Nat) : Nat := if (B pl = 48 ∧ 1 < b - pl) ∨ 99 < v then 4 else 2
theorem rd_num (h : RB u le B) (hp : pl < le) : Cl X (d + 2) 23 [.ref 35] (ro u le pl pl tk va) Q = Q none (ro u le pl (nmv B (le - pl) pl 0).1 (ntk B pl (nmv B (le - pl) pl 0).1 (nmv B (le - pl) pl 0).2) (nmv B (le - pl) pl 0).2) := by
  have h3 := h.2.2.1
  have hb := h.2.2.2 pl hp
  have hbt : bt B le pl = nI (B pl) := by unfold bt; rw [if_pos hp]
  obtain ⟨g1, g2, g3⟩ := nmv_ge B (le - pl) pl 0 (by omega)
  rw [e23]
  simp only [s23_0, s23_1, s23_2, OpV_some, OpN_some, OpA_some, OpR_some, Option.toList_some, Option.toList_none, List.cons_append, List.nil_append, true_and, and_true, nI11, or_true, true_or, or_false, false_or, h.ob.f8, h.p8, show (35 : Nat) < 1000 by decide]
  rw [rd_num_loop h none (le - pl) pl 0 (by omega) (by omega)]
  generalize nmv B (le - pl) pl 0 = bv at g1 g2 g3 ⊢
  unfold ntk
  simp only [s23_71, s23_72, s23_73, s23_76, s23_79, s23_81, s23_84, s23_85, s23_88, s23_89, s23_92, s23_93, s23_94, s23_97, s23_98, s23_101, s23_102, s23_103, s23_104, s23_105, s23_108, s23_109, s23_112, s23_114, s23_117, s23_118, s23_121, s23_122, s23_125, OpV_some, OpN_some, OpA_some, OpR_some, Option.toList_some, Option.toList_none, List.cons_append, List.nil_append, true_and, and_true, nI11, or_true, true_or, or_false, false_or, h.ob.f5, h.ob.f6, h.ob.f7, h.ob.f8, h.ob.cl, rd_byteAt h.ob (show pl < 10000 by omega), hbt, nI_eqN (show B pl < 2 ^ 31 by omega) (show 48 < 2 ^ 31 by decide), nI_subN g1, nI_ltN (show 1 < 2 ^ 31 by decide) (show bv.1 - pl < 2 ^ 31 by omega), nI_ltN (show 99 < 2 ^ 31 by decide) (show bv.2 < 2 ^ 31 by omega), h.p7, show (nI 1 = 0) = False by decide, show (nI 0 = 0) = True by decide, if_true, if_false, b01_0, b01_1, show (35 : Nat) < 1000 by decide]
  by_cases q1 : B pl = 48 <;> by_cases q2 : 1 < bv.1 - pl <;> by_cases q3 : 99 < bv.2 <;> simp only [q1, q2, q3, and_self, and_true, and_false, true_and, false_and, or_true, true_or, or_false, false_or, if_true, if_false]
end TOKEN
