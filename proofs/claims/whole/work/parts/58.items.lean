/-! an item's numbers; items are added -/
def numC (k : Nat) : Nat := [1, 3, 4, 3].getD k 0
def lsN (c : Nat) : Nat := [2, 0, 0, 0, 0, 1, 1, 0, 0, 0, 1, 0, 0, 1, 0, 0].getD c 0
def msN (nS c : Nat) : Nat := [8, 0, 0, 0, nS - 1, 9, 9, 0, nS - 1, nS - 1, 9, 17, nS - 1, 5, 99, 0].getD c 0
def okN (k i v n0 nS : Nat) : Bool := decide (¬ (k = 2 ∧ i = 1 ∧ v = n0) ∧ lsN (k * 4 + i) ≤ v ∧ v ≤ msN nS (k * 4 + i))
def lsf : Nat → Int32 := fun i => am_least.getD i 0
def msf : Nat → Int32 := fun i => am_most.getD i 0
def nuf : Nat → Int32 := fun i => am_nums.getD i 0
theorem a1002 {X : am_X} {w : am_W} : am_arr X w 1002 = some (0, 4, nuf) := rfl
theorem a1003 {X : am_X} {w : am_W} : am_arr X w 1003 = some (0, 16, lsf) := rfl
theorem a1004 {X : am_X} {w : am_W} : am_arr X w 1004 = some (0, 16, msf) := rfl
theorem lsf_at : ∀ c, c < 16 → lsf c = nI (lsN c) := by decide
theorem msf_m1 : ∀ c, c < 16 → (msf c = -1) = (c = 4 ∨ c = 8 ∨ c = 9 ∨ c = 12) := by
  intro c hc
  apply propext
  revert c
  decide
theorem msf_at (nS : Nat) : ∀ c, c < 16 → ¬ (c = 4 ∨ c = 8 ∨ c = 9 ∨ c = 12) → msf c = nI (msN nS c) := by
  intro c hc hn
  rcases (show c = 0 ∨ c = 1 ∨ c = 2 ∨ c = 3 ∨ c = 5 ∨ c = 6 ∨ c = 7 ∨ c = 10 ∨ c = 11 ∨ c = 13 ∨ c = 14 ∨ c = 15 by omega) with h | h | h | h | h | h | h | h | h | h | h | h <;> subst h <;> rfl
theorem msN_s (nS : Nat) : ∀ c, (c = 4 ∨ c = 8 ∨ c = 9 ∨ c = 12) → msN nS c = nS - 1 := by
  intro c h
  rcases h with h | h | h | h <;> subst h <;> rfl
theorem msN_le {nS c : Nat} (h : nS ≤ 8) (hc : c < 16) : msN nS c ≤ 99 := by
  by_cases q : c = 4 ∨ c = 8 ∨ c = 9 ∨ c = 12
  · rw [msN_s nS c q]; omega
  · have : ∀ c, c < 16 → ¬ (c = 4 ∨ c = 8 ∨ c = 9 ∨ c = 12) → msN 0 c ≤ 99 := by decide
    have e : msN nS c = msN 0 c := by
      rcases (show c = 0 ∨ c = 1 ∨ c = 2 ∨ c = 3 ∨ c = 5 ∨ c = 6 ∨ c = 7 ∨ c = 10 ∨ c = 11 ∨ c = 13 ∨ c = 14 ∨ c = 15 by omega) with h | h | h | h | h | h | h | h | h | h | h | h <;> subst h <;> rfl
    rw [e]; exact this c hc q
theorem lsN_le : ∀ c, c < 16 → lsN c ≤ 2 := by decide
def ssl : Nat → Nat → (Nat → Nat) → (Nat → Nat)
  | 0, _, h => h
  | n + 1, s, h => ssl n (s + 1) (upN (upN h (s * 2) 1) (s * 2 + 1) 1)
def rpn (g : Nat → Nat) (k : Nat) (N : Nat → Nat) : Nat → Nat := upN (upN (upN (upN (upN g (k * 5) (N 0)) (k * 5 + 1) (N 1)) (k * 5 + 2) (N 2)) (k * 5 + 3) (N 3)) (k * 5 + 4) 0
def pdn (p : Nat → Nat) (k : Nat) (N : Nat → Nat) : Nat → Nat := upN (upN (upN (upN (upN p (k * 5) (N 0)) (k * 5 + 1) 0) (k * 5 + 2) (N 1)) (k * 5 + 3) (N 2)) (k * 5 + 4) 0
def adI (k : Nat) (N : Nat → Nat) (r : RSt) : RSt :=
  if k = 0 then ((N 0, ssl (N 0) 0 r.1.2), r.2)
  else if k = 1 then ((r.1.1, upN (upN r.1.2 (N 0 * 2) (N 1)) (N 0 * 2 + 1) (N 2)), r.2)
  else if k = 2 then (r.1, (r.2.1.1 + 1, rpn r.2.1.2 r.2.1.1 N), r.2.2)
  else (r.1, r.2.1, (r.2.2.1 + 1, pdn r.2.2.2 r.2.2.1 N))
section ITEMS
variable {X : am_X} {d : Nat} {Q : am_Q} {u : am_W} {le : Nat} {t : TS} {r : RSt} {B N : Nat → Nat}
theorem rw_isNum (H : 44 ≤ u.length) (hD2 : 1 ≤ r.1.1) (hD : r.1.1 ≤ 8) (hv : t.2.2.2 < 2 ^ 30) {k i : Nat} (hN : i = 1 → N 0 < 2 ^ 30) (hk : k < 4) (hi : i < 4) : Cl X (d + 1) 13 [.ref 35, .int (nI k), .int (nI i)] (rdw u le t r B N) Q = Q (some (.int (nI (if okN k i t.2.2.2 (N 0) r.1.1 = true then 1 else 0)))) (rdw u le t r B N) := by
  have hc : k * 4 + i < 16 := by omega
  have h99 := msN_le hD hc
  have h2 := lsN_le (k * 4 + i) hc
  have hsz := (rdw_D (t := t) (le := le) (B := B) (N := N) H hD).f3
  rw [e13]
  simp only [s13_0, s13_1, s13_2, s13_3, s13_4, s13_5, s13_6, s13_7, s13_10, s13_11, s13_14, s13_15, s13_18, s13_19, s13_22, s13_23, s13_26, s13_27, s13_28, s13_29, s13_30, s13_33, s13_34, s13_35, s13_38, s13_39, s13_42, s13_43, s13_46, s13_47, s13_48, s13_51, s13_52, OpV_some, OpN_some, OpA_some, OpR_some, Option.toList_some, Option.toList_none, List.cons_append, List.nil_append, true_and, and_true, nI11, or_true, true_or, or_false, false_or, rdw_f8 H, rdw_f9 H, rdw_arN H, pk_mul, nI_add, a1003, a1004, nI_lt0 (show k * 4 + i < 2 ^ 31 by omega), nI_ltN (show k * 4 + i < 2 ^ 31 by omega) (show 16 < 2 ^ 31 by decide), hc, if_true, if_false, nI_eqN (show k < 2 ^ 31 by omega) (show 2 < 2 ^ 31 by decide), nI_eqN (show i < 2 ^ 31 by omega) (show 1 < 2 ^ 31 by decide), in_nI (show 0 < 4 by decide) (show 4 < 2 ^ 31 by decide), cl_nI (show 0 < 2 ^ 31 by decide), nIf, b01_0, show (35 : Nat) < 1000 by decide, show (43 : Nat) < 1000 by decide, show 1000 ≤ 1003 by decide, show 1000 ≤ 1004 by decide]
  have tail : Wp X (Cl X d) 13 Q (53, [some (.ref 35), some (.int (nI k)), some (.int (nI i)), some (.int (nI (k * 4 + i))), none], [], rdw u le t r B N, 0, 0) = Q (some (.int (nI (if lsN (k * 4 + i) ≤ t.2.2.2 ∧ t.2.2.2 ≤ msN r.1.1 (k * 4 + i) then 1 else 0)))) (rdw u le t r B N) := by
    have fin : ∀ m : Nat, m < 2 ^ 30 → Wp X (Cl X d) 13 Q (79, [some (.ref 35), some (.int (nI k)), some (.int (nI i)), some (.int (nI (k * 4 + i))), none], [.int (nI m)], rdw u le t r B N, 0, 0) = Q (some (.int (nI (if lsN (k * 4 + i) ≤ t.2.2.2 ∧ t.2.2.2 ≤ m then 1 else 0)))) (rdw u le t r B N) := fun m hm => by
      simp only [s13_79, s13_81, s13_82, s13_85, s13_88, s13_89, s13_90, s13_93, s13_94, s13_97, s13_99, s13_102, s13_103, s13_106, s13_107, OpV_some, OpN_some, OpA_some, OpR_some, Option.toList_some, Option.toList_none, List.cons_append, List.nil_append, true_and, and_true, nI11, or_true, true_or, or_false, false_or, rdw_f8 H, a1003, in_nI hc (show 16 < 2 ^ 31 by decide), cl_nI (show k * 4 + i < 2 ^ 31 by omega), lsf_at _ hc, nI_ltN (show t.2.2.2 < 2 ^ 31 by omega) (show lsN (k * 4 + i) < 2 ^ 31 by omega), nI_ltN (show m < 2 ^ 31 by omega) (show t.2.2.2 < 2 ^ 31 by omega), b01_0, b01_1, show (35 : Nat) < 1000 by decide]
      by_cases q1 : t.2.2.2 < lsN (k * 4 + i)
      · simp only [q1, if_true, show ¬ (lsN (k * 4 + i) ≤ t.2.2.2 ∧ t.2.2.2 ≤ m) by omega, if_false]
      · by_cases q2 : m < t.2.2.2
        · simp only [q1, q2, if_true, show ¬ (lsN (k * 4 + i) ≤ t.2.2.2 ∧ t.2.2.2 ≤ m) by omega, if_false]
        · simp only [q1, q2, if_true, show (lsN (k * 4 + i) ≤ t.2.2.2 ∧ t.2.2.2 ≤ m) by omega, and_self, if_false]
    simp only [s13_53, s13_56, s13_57, s13_58, s13_59, s13_62, s13_63, s13_66, s13_69, s13_70, s13_71, s13_74, s13_77, s13_78, OpV_some, OpN_some, OpA_some, OpR_some, Option.toList_some, Option.toList_none, List.cons_append, List.nil_append, true_and, and_true, nI11, or_true, true_or, or_false, false_or, rdw_f0 H, hsz, a1004, in_nI hc (show 16 < 2 ^ 31 by decide), cl_nI (show k * 4 + i < 2 ^ 31 by omega), msf_m1 _ hc, nI_subN hD2, show (35 : Nat) < 1000 by decide, show (36 : Nat) < 1000 by decide]
    by_cases q : k * 4 + i = 4 ∨ k * 4 + i = 8 ∨ k * 4 + i = 9 ∨ k * 4 + i = 12
    · rw [if_pos q, fin _ (by omega), msN_s _ _ q]
    · rw [if_neg q, msf_at r.1.1 _ hc q, fin _ (by omega)]
  rw [tail]
  unfold okN
  by_cases q1 : k = 2
  · by_cases q2 : i = 1
    · have hN0 := hN q2
      have hE := nI_eqN (show t.2.2.2 < 2 ^ 31 by omega) (show N 0 < 2 ^ 31 by omega)
      by_cases q3 : t.2.2.2 = N 0
      · simp only [q1, q2, q3, if_true, and_self, not_true, false_and, decide_false, Bool.false_eq_true, if_false]
      · simp only [q1, q2, hE, q3, if_true, if_false, and_false, not_false_eq_true, true_and, decide_eq_true_eq]
    · simp only [q1, q2, if_true, if_false, and_false, false_and, not_false_eq_true, true_and, decide_eq_true_eq]
  · simp only [q1, if_false, false_and, not_false_eq_true, true_and, decide_eq_true_eq]
theorem rw_sills_loop (H : 44 ≤ u.length) {n0 : Nat} (h8 : n0 ≤ 8) : ∀ (n s : Nat) (h : Nat → Nat), s + n = n0 → Wp X (Cl X (d + 1)) 15 Q (9, [some (.ref 35), some (.int (nI n0)), some (.int (nI s))], [], rdw u le t ((s, h), r.2) B N, 0, 0) = Q none (rdw u le t ((n0, ssl n s h), r.2) B N)
  | 0, s, h, e => by
    rw [s15_9]
    simp only [s15_0, s15_1, s15_4, s15_7, s15_8, s15_10, s15_11, s15_14, s15_15, s15_18, s15_21, s15_24, s15_25, s15_28, s15_29, s15_30, s15_31, s15_34, s15_35, s15_38, s15_39, s15_40, s15_41, s15_44, s15_47, s15_50, OpV_some, OpN_some, OpA_some, OpR_some, Option.toList_some, Option.toList_none, List.cons_append, List.nil_append, true_and, and_true, nI11, or_true, true_or, or_false, false_or, nI_ltN (show s < 2 ^ 31 by omega) (show n0 < 2 ^ 31 by omega), show ¬ s < n0 by omega, if_false, ssl]
    rw [show s = n0 by omega]
  | n + 1, s, h, e => by
    have R0 := rdw_D (t := t) (le := le) (B := B) (N := N) (r := ((s, h), r.2)) H (by show s ≤ 8; omega)
    have R1 := rdw_D (t := t) (le := le) (B := B) (N := N) (r := ((s + 1, h), r.2)) H (by show s + 1 ≤ 8; omega)
    have R2 := rdw_D (t := t) (le := le) (B := B) (N := N) (r := ((s + 1, upN h (s * 2) 1), r.2)) H (by show s + 1 ≤ 8; omega)
    have ih := rw_sills_loop H h8 n (s + 1) (upN (upN h (s * 2) 1) (s * 2 + 1) 1) (by omega)
    have s0 : Cl X (d + 1) 35 [.ref 36, .int (nI s), .int (nI 0), .int (nI 1)] (rdw u le t ((s + 1, h), r.2) B N) = fun Q => Q none (rdw u le t ((s + 1, upN h (s * 2) 1), r.2) B N) := funext fun Q => by
      rw [rows_setN R1 (show s < s + 1 by omega) (show 0 < 2 by decide), rdw_aD H]; rfl
    have s1 : Cl X (d + 1) 35 [.ref 36, .int (nI s), .int (nI 1), .int (nI 1)] (rdw u le t ((s + 1, upN h (s * 2) 1), r.2) B N) = fun Q => Q none (rdw u le t ((s + 1, upN (upN h (s * 2) 1) (s * 2 + 1) 1), r.2) B N) := funext fun Q => by
      rw [rows_setN R2 (show s < s + 1 by omega) (show 1 < 2 by decide), rdw_aD H]
    have a0 : Cl X (d + 1) 38 [.ref 36] (rdw u le t ((s, h), r.2) B N) = fun Q => Q (some (.int (nI 1))) (rdw u le t ((s + 1, h), r.2) B N) := funext fun Q => by
      rw [rows_add R0, if_pos (show s < 8 by omega), rdw_sD H]
    rw [s15_9]
    simp only [s15_0, s15_1, s15_4, s15_7, s15_8, s15_10, s15_11, s15_14, s15_15, s15_18, s15_21, s15_24, s15_25, s15_28, s15_29, s15_30, s15_31, s15_34, s15_35, s15_38, s15_39, s15_40, s15_41, s15_44, s15_47, s15_50, OpV_some, OpN_some, OpA_some, OpR_some, Option.toList_some, Option.toList_none, List.cons_append, List.nil_append, true_and, and_true, nI11, or_true, true_or, or_false, false_or, nI_ltN (show s < 2 ^ 31 by omega) (show n0 < 2 ^ 31 by omega), show s < n0 by omega, if_true, rdw_f0 H, R0.cl, R1.cl, R2.cl, a0, s0, s1, nI1z, if_false, nI_add, ssl, show (35 : Nat) < 1000 by decide, show (36 : Nat) < 1000 by decide]
    exact ih
theorem rw_sills (H : 44 ≤ u.length) (hD : r.1.1 ≤ 8) {n : Nat} (h8 : n ≤ 8) : Cl X (d + 2) 15 [.ref 35, .int (nI n)] (rdw u le t r B N) Q = Q none (rdw u le t ((n, ssl n 0 r.1.2), r.2) B N) := by
  have R0 := rdw_D (t := t) (le := le) (B := B) (N := N) H hD
  have a0 : Cl X (d + 1) 37 [.ref 36] (rdw u le t r B N) = fun Q => Q none (rdw u le t ((0, r.1.2), r.2) B N) := funext fun Q => by
    rw [rows_empty R0, rdw_sD H]
  rw [e15]
  simp only [s15_0, s15_1, s15_4, s15_7, s15_8, s15_10, s15_11, s15_14, s15_15, s15_18, s15_21, s15_24, s15_25, s15_28, s15_29, s15_30, s15_31, s15_34, s15_35, s15_38, s15_39, s15_40, s15_41, s15_44, s15_47, s15_50, OpV_some, OpN_some, OpA_some, OpR_some, Option.toList_some, Option.toList_none, List.cons_append, List.nil_append, true_and, and_true, nI11, or_true, true_or, or_false, false_or, rdw_f0 H, R0.cl, a0, show (35 : Nat) < 1000 by decide, show (36 : Nat) < 1000 by decide]
  exact rw_sills_loop H h8 n 0 _ (by omega)
theorem rw_addRope (H : 44 ≤ u.length) (hR : r.2.1.1 < 8) : Cl X (d + 2) 16 [.ref 35] (rdw u le t r B N) Q = Q none (rdw u le t (r.1, (r.2.1.1 + 1, rpn r.2.1.2 r.2.1.1 N), r.2.2) B N) := by
  have R0 := rdw_R (t := t) (le := le) (B := B) (N := N) H (r := r) (by omega)
  have R1 : ∀ f, RowsAt (rdw u le t (r.1, (r.2.1.1 + 1, f), r.2.2) B N) 38 39 8 5 (r.2.1.1 + 1) (nIf f) := fun f => rdw_R (t := t) (le := le) (B := B) (N := N) H (r := (r.1, (r.2.1.1 + 1, f), r.2.2)) (by show r.2.1.1 + 1 ≤ 8; omega)
  have a0 : Cl X (d + 1) 38 [.ref 38] (rdw u le t r B N) = fun Q => Q (some (.int (nI 1))) (rdw u le t (r.1, (r.2.1.1 + 1, r.2.1.2), r.2.2) B N) := funext fun Q => by
    rw [rows_add R0, if_pos hR, rdw_sR H]
  have s0 : ∀ f v, Cl X (d + 1) 35 [.ref 38, .int (nI r.2.1.1), .int (nI 0), .int (nI v)] (rdw u le t (r.1, (r.2.1.1 + 1, f), r.2.2) B N) = fun Q => Q none (rdw u le t (r.1, (r.2.1.1 + 1, upN f (r.2.1.1 * 5) v), r.2.2) B N) := fun f v => funext fun Q => by
    rw [rows_setN (R1 f) (show r.2.1.1 < r.2.1.1 + 1 by omega) (show 0 < 5 by decide), rdw_aR H]; rfl
  have sc : ∀ c f v, c < 5 → Cl X (d + 1) 35 [.ref 38, .int (nI r.2.1.1), .int (nI c), .int (nI v)] (rdw u le t (r.1, (r.2.1.1 + 1, f), r.2.2) B N) = fun Q => Q none (rdw u le t (r.1, (r.2.1.1 + 1, upN f (r.2.1.1 * 5 + c) v), r.2.2) B N) := fun c f v hc => funext fun Q => by
    rw [rows_setN (R1 f) (show r.2.1.1 < r.2.1.1 + 1 by omega) hc, rdw_aR H]
  rw [e16]
  unfold rpn
  simp only [s16_0, s16_1, s16_4, s16_7, s16_10, s16_11, s16_12, s16_15, s16_18, s16_19, s16_20, s16_21, s16_22, s16_25, s16_26, s16_27, s16_28, s16_31, s16_32, s16_33, s16_36, s16_37, s16_40, s16_41, s16_42, s16_43, s16_46, s16_47, s16_48, s16_51, s16_52, s16_55, s16_56, s16_57, s16_58, s16_61, s16_62, s16_63, s16_66, s16_67, s16_70, s16_71, s16_72, s16_73, s16_76, s16_77, s16_78, s16_81, s16_82, s16_85, s16_86, s16_87, s16_88, s16_91, OpV_some, OpN_some, OpA_some, OpR_some, Option.toList_some, Option.toList_none, List.cons_append, List.nil_append, true_and, and_true, nI11, or_true, true_or, or_false, false_or, rdw_f1 H, rdw_f9 H, rdw_arN H, R0.cl, a0, nI1z, if_false, (R1 _).f3, (R1 _).cl, nI_subN (show 1 ≤ r.2.1.1 + 1 by omega), Nat.add_sub_cancel, in_nI (show 0 < 4 by decide) (show 4 < 2 ^ 31 by decide), in_nI (show 1 < 4 by decide) (show 4 < 2 ^ 31 by decide), in_nI (show 2 < 4 by decide) (show 4 < 2 ^ 31 by decide), in_nI (show 3 < 4 by decide) (show 4 < 2 ^ 31 by decide), cl_nI (show 0 < 2 ^ 31 by decide), cl_nI (show 1 < 2 ^ 31 by decide), cl_nI (show 2 < 2 ^ 31 by decide), cl_nI (show 3 < 2 ^ 31 by decide), nIf, s0, sc 1 _ _ (by decide), sc 2 _ _ (by decide), sc 3 _ _ (by decide), sc 4 _ _ (by decide), show (35 : Nat) < 1000 by decide, show (38 : Nat) < 1000 by decide]
theorem rw_addRider (H : 44 ≤ u.length) (hR : r.2.2.1 < 4) : Cl X (d + 2) 17 [.ref 35] (rdw u le t r B N) Q = Q none (rdw u le t (r.1, r.2.1, (r.2.2.1 + 1, pdn r.2.2.2 r.2.2.1 N)) B N) := by
  have R0 := rdw_P (t := t) (le := le) (B := B) (N := N) H (r := r) (by omega)
  have R1 : ∀ f, RowsAt (rdw u le t (r.1, r.2.1, (r.2.2.1 + 1, f)) B N) 40 41 4 5 (r.2.2.1 + 1) (nIf f) := fun f => rdw_P (t := t) (le := le) (B := B) (N := N) H (r := (r.1, r.2.1, (r.2.2.1 + 1, f))) (by show r.2.2.1 + 1 ≤ 4; omega)
  have a0 : Cl X (d + 1) 38 [.ref 40] (rdw u le t r B N) = fun Q => Q (some (.int (nI 1))) (rdw u le t (r.1, r.2.1, (r.2.2.1 + 1, r.2.2.2)) B N) := funext fun Q => by
    rw [rows_add R0, if_pos hR, rdw_sP H]
  have s0 : ∀ f v, Cl X (d + 1) 35 [.ref 40, .int (nI r.2.2.1), .int (nI 0), .int (nI v)] (rdw u le t (r.1, r.2.1, (r.2.2.1 + 1, f)) B N) = fun Q => Q none (rdw u le t (r.1, r.2.1, (r.2.2.1 + 1, upN f (r.2.2.1 * 5) v)) B N) := fun f v => funext fun Q => by
    rw [rows_setN (R1 f) (show r.2.2.1 < r.2.2.1 + 1 by omega) (show 0 < 5 by decide), rdw_aP H]; rfl
  have sc : ∀ c f v, c < 5 → Cl X (d + 1) 35 [.ref 40, .int (nI r.2.2.1), .int (nI c), .int (nI v)] (rdw u le t (r.1, r.2.1, (r.2.2.1 + 1, f)) B N) = fun Q => Q none (rdw u le t (r.1, r.2.1, (r.2.2.1 + 1, upN f (r.2.2.1 * 5 + c) v)) B N) := fun c f v hc => funext fun Q => by
    rw [rows_setN (R1 f) (show r.2.2.1 < r.2.2.1 + 1 by omega) hc, rdw_aP H]
  rw [e17]
  unfold pdn
  simp only [s17_0, s17_1, s17_4, s17_7, s17_10, s17_11, s17_12, s17_15, s17_18, s17_19, s17_20, s17_21, s17_22, s17_25, s17_26, s17_27, s17_28, s17_31, s17_32, s17_33, s17_36, s17_37, s17_40, s17_41, s17_42, s17_43, s17_46, s17_47, s17_50, s17_51, s17_52, s17_53, s17_56, s17_57, s17_58, s17_61, s17_62, s17_65, s17_66, s17_67, s17_68, s17_71, s17_72, s17_73, s17_76, s17_77, s17_80, s17_81, s17_82, s17_83, s17_86, OpV_some, OpN_some, OpA_some, OpR_some, Option.toList_some, Option.toList_none, List.cons_append, List.nil_append, true_and, and_true, nI11, or_true, true_or, or_false, false_or, rdw_f2 H, rdw_f9 H, rdw_arN H, R0.cl, a0, nI1z, if_false, (R1 _).f3, (R1 _).cl, nI_subN (show 1 ≤ r.2.2.1 + 1 by omega), Nat.add_sub_cancel, in_nI (show 0 < 4 by decide) (show 4 < 2 ^ 31 by decide), in_nI (show 1 < 4 by decide) (show 4 < 2 ^ 31 by decide), in_nI (show 2 < 4 by decide) (show 4 < 2 ^ 31 by decide), cl_nI (show 0 < 2 ^ 31 by decide), cl_nI (show 1 < 2 ^ 31 by decide), cl_nI (show 2 < 2 ^ 31 by decide), nIf, s0, sc 1 _ _ (by decide), sc 2 _ _ (by decide), sc 3 _ _ (by decide), sc 4 _ _ (by decide), show (35 : Nat) < 1000 by decide, show (40 : Nat) < 1000 by decide]
theorem rw_addItem (H : 44 ≤ u.length) (hr : rOK r) {k : Nat} (hk : k < 4) (h0 : k = 0 → N 0 ≤ 8) (h1 : k = 1 → N 0 < r.1.1) (h2 : k = 2 → r.2.1.1 < 8) (h3 : k = 3 → r.2.2.1 < 4) : Cl X (d + 3) 14 [.ref 35, .int (nI k)] (rdw u le t r B N) Q = Q none (rdw u le t (adI k N r) B N) := by
  rw [e14]
  unfold adI
  rcases (show k = 0 ∨ k = 1 ∨ k = 2 ∨ k = 3 by omega) with rfl | rfl | rfl | rfl
  · simp only [s14_0, s14_1, s14_28, s14_29, s14_30, s14_33, s14_34, s14_35, s14_38, s14_41, s14_42, s14_45, s14_46, s14_49, s14_50, s14_51, s14_52, s14_53, s14_56, s14_57, s14_58, s14_61, s14_62, s14_65, s14_66, s14_69, s14_70, s14_71, s14_72, s14_73, s14_76, s14_77, s14_78, s14_81, s14_84, s14_85, s14_88, s14_91, s14_92, s14_95, OpV_some, OpN_some, OpA_some, OpR_some, Option.toList_some, Option.toList_none, List.cons_append, List.nil_append, true_and, and_true, nI11, or_true, true_or, or_false, false_or, show am_tsw 1 90 0 2 #[27, 40, 83] (nI 0).toInt = some 28 by decide, rdw_f9 H, rdw_cl H, rdw_arN H, in_nI (show 0 < 4 by decide) (show 4 < 2 ^ 31 by decide), cl_nI (show 0 < 2 ^ 31 by decide), nIf, rw_sills H hr.1 (h0 rfl), if_true, show (35 : Nat) < 1000 by decide]
  · have R0 := rdw_D (t := t) (le := le) (B := B) (N := N) (r := r) H hr.1
    have R2 := rdw_D (t := t) (le := le) (B := B) (N := N) (r := ((r.1.1, upN r.1.2 (N 0 * 2) (N 1)), r.2)) H hr.1
    have s0 : Cl X (d + 2) 35 [.ref 36, .int (nI (N 0)), .int (nI 0), .int (nI (N 1))] (rdw u le t r B N) = fun Q => Q none (rdw u le t ((r.1.1, upN r.1.2 (N 0 * 2) (N 1)), r.2) B N) := funext fun Q => by
      rw [rows_setN R0 (h1 rfl) (show 0 < 2 by decide), rdw_aD H]; rfl
    have s1 : Cl X (d + 2) 35 [.ref 36, .int (nI (N 0)), .int (nI 1), .int (nI (N 2))] (rdw u le t ((r.1.1, upN r.1.2 (N 0 * 2) (N 1)), r.2) B N) = fun Q => Q none (rdw u le t ((r.1.1, upN (upN r.1.2 (N 0 * 2) (N 1)) (N 0 * 2 + 1) (N 2)), r.2) B N) := funext fun Q => by
      rw [rows_setN R2 (h1 rfl) (show 1 < 2 by decide), rdw_aD H]
    simp only [s14_0, s14_1, s14_28, s14_29, s14_30, s14_33, s14_34, s14_35, s14_38, s14_41, s14_42, s14_45, s14_46, s14_49, s14_50, s14_51, s14_52, s14_53, s14_56, s14_57, s14_58, s14_61, s14_62, s14_65, s14_66, s14_69, s14_70, s14_71, s14_72, s14_73, s14_76, s14_77, s14_78, s14_81, s14_84, s14_85, s14_88, s14_91, s14_92, s14_95, OpV_some, OpN_some, OpA_some, OpR_some, Option.toList_some, Option.toList_none, List.cons_append, List.nil_append, true_and, and_true, nI11, or_true, true_or, or_false, false_or, show am_tsw 1 90 0 2 #[27, 40, 83] (nI 1).toInt = some 41 by decide, rdw_f9 H, rdw_f0 H, R0.cl, R2.cl, rdw_arN H, in_nI (show 0 < 4 by decide) (show 4 < 2 ^ 31 by decide), in_nI (show 1 < 4 by decide) (show 4 < 2 ^ 31 by decide), in_nI (show 2 < 4 by decide) (show 4 < 2 ^ 31 by decide), cl_nI (show 0 < 2 ^ 31 by decide), cl_nI (show 1 < 2 ^ 31 by decide), cl_nI (show 2 < 2 ^ 31 by decide), nIf, s0, s1, show ¬ (1 = 0) by decide, if_true, if_false, show (35 : Nat) < 1000 by decide, show (36 : Nat) < 1000 by decide]
  · simp only [s14_0, s14_1, s14_28, s14_29, s14_30, s14_33, s14_34, s14_35, s14_38, s14_41, s14_42, s14_45, s14_46, s14_49, s14_50, s14_51, s14_52, s14_53, s14_56, s14_57, s14_58, s14_61, s14_62, s14_65, s14_66, s14_69, s14_70, s14_71, s14_72, s14_73, s14_76, s14_77, s14_78, s14_81, s14_84, s14_85, s14_88, s14_91, s14_92, s14_95, OpV_some, OpN_some, OpA_some, OpR_some, Option.toList_some, Option.toList_none, List.cons_append, List.nil_append, true_and, and_true, nI11, or_true, true_or, or_false, false_or, show am_tsw 1 90 0 2 #[27, 40, 83] (nI 2).toInt = some 84 by decide, rdw_cl H, rw_addRope H (h2 rfl), show ¬ (2 = 0) by decide, show ¬ (2 = 1) by decide, if_true, if_false, show (35 : Nat) < 1000 by decide]
  · simp only [s14_0, s14_1, s14_28, s14_29, s14_30, s14_33, s14_34, s14_35, s14_38, s14_41, s14_42, s14_45, s14_46, s14_49, s14_50, s14_51, s14_52, s14_53, s14_56, s14_57, s14_58, s14_61, s14_62, s14_65, s14_66, s14_69, s14_70, s14_71, s14_72, s14_73, s14_76, s14_77, s14_78, s14_81, s14_84, s14_85, s14_88, s14_91, s14_92, s14_95, OpV_some, OpN_some, OpA_some, OpR_some, Option.toList_some, Option.toList_none, List.cons_append, List.nil_append, true_and, and_true, nI11, or_true, true_or, or_false, false_or, show am_tsw 1 90 0 2 #[27, 40, 83] (nI 3).toInt = some 91 by decide, rdw_cl H, rw_addRider H (h3 rfl), show ¬ (3 = 0) by decide, show ¬ (3 = 1) by decide, show ¬ (3 = 2) by decide, if_true, if_false, show (35 : Nat) < 1000 by decide]
end ITEMS
