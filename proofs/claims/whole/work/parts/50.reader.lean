/-! the reader's bytes -/
/-- its object: length, place, behind, token, value; its bytes -/
def TkAt (w : am_W) (le pl be tk va : Nat) (B : Nat → Nat) : Prop :=
  w[35]? = some (.inr (1, [.ref 36, .ref 38, .ref 40, .ref 42, .int (nI le), .int (nI pl), .int (nI be), .int (nI tk), .int (nI va), .ref 43])) ∧ w[42]? = some (.inl (0, 300, .inl (nIf B))) ∧ le ≤ 300 ∧ ∀ i, i < le → B i < 256
def bt (B : Nat → Nat) (le i : Nat) : Int32 := if i < le then nI (B i) else -1
def ltr (c : Nat) : Bool := decide (97 ≤ c ∧ c ≤ 122)
def fig (c : Nat) : Bool := decide (48 ≤ c ∧ c ≤ 57)
section READER
variable {X : am_X} {d : Nat} {Q : am_Q} {w : am_W} {le pl be tk va : Nat} {B : Nat → Nat}
theorem TkAt.f3 (T : TkAt w le pl be tk va B) : am_fld w 35 1 3 = some (.ref 42) := fld_at T.1
theorem TkAt.f4 (T : TkAt w le pl be tk va B) : am_fld w 35 1 4 = some (.int (nI le)) := fld_at T.1
theorem TkAt.f5 (T : TkAt w le pl be tk va B) : am_fld w 35 1 5 = some (.int (nI pl)) := fld_at T.1
theorem TkAt.f6 (T : TkAt w le pl be tk va B) : am_fld w 35 1 6 = some (.int (nI be)) := fld_at T.1
theorem TkAt.f7 (T : TkAt w le pl be tk va B) : am_fld w 35 1 7 = some (.int (nI tk)) := fld_at T.1
theorem TkAt.f8 (T : TkAt w le pl be tk va B) : am_fld w 35 1 8 = some (.int (nI va)) := fld_at T.1
theorem TkAt.cl (T : TkAt w le pl be tk va B) : am_cls w 35 = some 1 := cls_at T.1
theorem TkAt.ar (T : TkAt w le pl be tk va B) : am_arr X w 42 = some (0, 300, nIf B) := arr_at (by decide) T.2.1
theorem rd_byteAt (T : TkAt w le pl be tk va B) {i : Nat} (hi : i < 10000) : Cl X (d + 1) 18 [.ref 35, .int (nI i)] w Q = Q (some (.int (bt B le i))) w := by
  have h3 := T.2.2.1
  rw [e18]
  unfold bt
  by_cases h : i < le
  · simp only [s18_0, s18_1, s18_4, s18_5, s18_6, s18_9, s18_12, s18_13, s18_14, s18_17, s18_18, s18_21, s18_22, s18_25, s18_26, s18_27, s18_30, s18_31, OpV_some, OpN_some, OpA_some, OpR_some, Option.toList_some, Option.toList_none, List.cons_append, List.nil_append, true_and, and_true, nI11, or_true, true_or, or_false, false_or, T.f3, T.f4, T.ar, nI_lt0 (show i < 2 ^ 31 by omega), nI_ltN (show i < 2 ^ 31 by omega) (show le < 2 ^ 31 by omega), h, nI_ltN (show i < 2 ^ 31 by omega) (show 300 < 2 ^ 31 by decide), show i < 300 by omega, if_true, if_false, in_nI (show i < 300 by omega) (show 300 < 2 ^ 31 by decide), cl_nI (show i < 2 ^ 31 by omega), nIf, true_or, show (35 : Nat) < 1000 by decide, show (42 : Nat) < 1000 by decide]
  · simp only [s18_0, s18_1, s18_4, s18_5, s18_6, s18_9, s18_12, s18_13, s18_14, s18_17, s18_18, s18_21, s18_22, s18_25, s18_26, s18_27, s18_30, s18_31, OpV_some, OpN_some, OpA_some, OpR_some, Option.toList_some, Option.toList_none, List.cons_append, List.nil_append, true_and, and_true, nI11, or_true, true_or, or_false, false_or, T.f3, T.f4, T.ar, nI_lt0 (show i < 2 ^ 31 by omega), nI_ltN (show i < 2 ^ 31 by omega) (show le < 2 ^ 31 by omega), h, if_true, if_false, show (35 : Nat) < 1000 by decide]
theorem rd_letter {c : Nat} (hc : c < 1000) : Cl X (d + 1) 19 [.int (nI c)] w Q = Q (some (.int (nI (if ltr c = true then 1 else 0)))) w := by
  rw [e19]
  simp only [s19_0, s19_1, s19_3, s19_6, s19_7, s19_9, s19_12, s19_13, s19_16, s19_17, OpV_some, OpN_some, OpA_some, OpR_some, Option.toList_some, Option.toList_none, List.cons_append, List.nil_append, true_and, and_true, nI11, or_true, true_or, or_false, false_or, nI_ltN (show c < 2 ^ 31 by omega) (show 97 < 2 ^ 31 by decide), nI_ltN (show 122 < 2 ^ 31 by decide) (show c < 2 ^ 31 by omega), b01_0, b01_1, ltr, decide_eq_true_eq]
  by_cases h1 : c < 97
  · simp only [h1, if_true, show ¬ (97 ≤ c ∧ c ≤ 122) by omega, if_false]
  · by_cases h2 : 122 < c
    · simp only [h1, h2, if_true, show ¬ (97 ≤ c ∧ c ≤ 122) by omega, if_false]
    · simp only [h1, h2, show (97 ≤ c ∧ c ≤ 122) by omega, and_self, if_true, if_false]
theorem rd_figure {c : Nat} (hc : c < 1000) : Cl X (d + 1) 20 [.int (nI c)] w Q = Q (some (.int (nI (if fig c = true then 1 else 0)))) w := by
  rw [e20]
  simp only [s20_0, s20_1, s20_3, s20_6, s20_7, s20_9, s20_12, s20_13, s20_16, s20_17, OpV_some, OpN_some, OpA_some, OpR_some, Option.toList_some, Option.toList_none, List.cons_append, List.nil_append, true_and, and_true, nI11, or_true, true_or, or_false, false_or, nI_ltN (show c < 2 ^ 31 by omega) (show 48 < 2 ^ 31 by decide), nI_ltN (show 57 < 2 ^ 31 by decide) (show c < 2 ^ 31 by omega), b01_0, b01_1, fig, decide_eq_true_eq]
  by_cases h1 : c < 48
  · simp only [h1, if_true, show ¬ (48 ≤ c ∧ c ≤ 57) by omega, if_false]
  · by_cases h2 : 57 < c
    · simp only [h1, h2, if_true, show ¬ (48 ≤ c ∧ c ≤ 57) by omega, if_false]
    · simp only [h1, h2, show (48 ≤ c ∧ c ≤ 57) by omega, and_self, if_true, if_false]
end READER
