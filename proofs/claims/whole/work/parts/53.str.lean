/-! the four words -/
def wl (k : Nat) : Nat := [5, 4, 4, 5].getD k 0
section STR
variable {X : am_X} {d : Nat} {Q : am_Q} {w : am_W}
theorem str_coder {k : Nat} (hk : k < 4) : Cl X (d + 1) 148 [.ref (1010 + k)] w Q = Q (some (.int (nI 0))) w := by
  rw [e148]
  simp only [s148_0, s148_3, s148_6, s148_7, s148_10, s148_13, s148_14, OpV_some, OpN_some, OpA_some, OpR_some, Option.toList_some, Option.toList_none, List.cons_append, List.nil_append, true_and, and_true, nI11, or_true, true_or, or_false, false_or, show (nI 1 = 0) = False by decide, show (nI 0 = 0) = True by decide, if_false, show 1010 ≤ 1010 + k by omega, show 1010 + k < 1014 by omega, and_self]
theorem str_latin {k : Nat} (hk : k < 4) : Cl X (d + 1) 149 [.ref (1010 + k)] w Q = Q (some (.int (nI 1))) w := by
  rw [e149]
  simp only [s149_0, s149_3, s149_6, s149_7, s149_10, s149_13, s149_14, s149_17, s149_18, OpV_some, OpN_some, OpA_some, OpR_some, Option.toList_some, Option.toList_none, List.cons_append, List.nil_append, true_and, and_true, nI11, or_true, true_or, or_false, false_or, show (nI 1 = 0) = False by decide, show (nI 0 = 0) = True by decide, show (nI 1 = 1) = True by decide, if_false, if_true, show 1010 ≤ 1010 + k by omega, show 1010 + k < 1014 by omega, and_self]
theorem str_arr {k : Nat} (hk : k < 4) : ∃ f, am_arr X w (1005 + k) = some (3, wl k, f) := by
  rcases (show k = 0 ∨ k = 1 ∨ k = 2 ∨ k = 3 by omega) with rfl | rfl | rfl | rfl <;> exact ⟨_, rfl⟩
theorem str_len {k : Nat} (hk : k < 4) : Cl X (d + 2) 146 [.ref (1010 + k)] w Q = Q (some (.int (nI (wl k)))) w := by
  obtain ⟨f, hf⟩ := str_arr (X := X) (w := w) hk
  have hs : ∀ n, nI n >>> (nI 0 &&& 31) = nI n := fun n => by
    rw [show nI 0 &&& 31 = 0 by decide]
    exact Int32.shiftRight_zero
  rw [e146]
  simp only [s146_0, s146_1, s146_4, s146_5, s146_6, s146_9, s146_10, OpV_some, OpN_some, OpA_some, OpR_some, Option.toList_some, Option.toList_none, List.cons_append, List.nil_append, true_and, and_true, nI11, or_true, true_or, or_false, false_or, show 1010 ≤ 1010 + k by omega, show 1010 + k < 1014 by omega, and_self, show 1010 + k - 5 = 1005 + k by omega, hf, show ¬ 1010 + k < 1000 by omega, if_false, str_coder hk, hs, show 1000 ≤ 1005 + k by omega]
theorem str_check {i n : Nat} (hi : i < n) (hn : n < 100) (w : am_W) : Cl X (d + 2) 150 [.int (nI i), .int (nI n)] w Q = Q none w := by
  have h2 : ∀ Q : am_Q, Cl X (d + 1) 152 [.int (nI i), .int (nI n), .ref 1020] w Q = Q (some (.int (nI i))) w := fun Q => by
    rw [e152]
    simp only [s152_0, s152_1, s152_4, s152_5, s152_6, s152_9, s152_10, s152_11, s152_16, s152_17, OpV_some, OpN_some, OpA_some, OpR_some, Option.toList_some, Option.toList_none, List.cons_append, List.nil_append, true_and, and_true, nI11, or_true, true_or, or_false, false_or, nI_lt0 (show i < 2 ^ 31 by omega), nI_ltN (show i < 2 ^ 31 by omega) (show n < 2 ^ 31 by omega), hi, if_true, if_false]
  rw [e150]
  simp only [s150_0, s150_1, s150_2, s150_5, s150_8, s150_9, OpV_some, OpN_some, OpA_some, OpR_some, Option.toList_some, Option.toList_none, List.cons_append, List.nil_append, true_and, and_true, nI11, or_true, true_or, or_false, false_or, h2]
def wch (k i : Nat) : Nat := ((am_tx.getD k []).getD i 0).toBitVec.toNat
theorem str_arr2 {k : Nat} (hk : k < 4) : am_arr X w (1005 + k) = some (3, wl k, fun i => (am_tx.getD k []).getD i 0) := by
  rcases (show k = 0 ∨ k = 1 ∨ k = 2 ∨ k = 3 by omega) with rfl | rfl | rfl | rfl <;> rfl
theorem wch_ok : ∀ k, k < 4 → ∀ i, i < wl k → ((((am_tx.getD k []).getD i 0) &&& nI 255).toUInt32 % 65536).toInt32 = nI (wch k i) ∧ narrow .char (.int (nI (wch k i))) = .int (nI (wch k i)) := by decide
theorem str_lat {k i : Nat} (hk : k < 4) (hi : i < wl k) : Cl X (d + 3) 151 [.ref (1005 + k), .int (nI i)] w Q = Q (some (.int (nI (wch k i)))) w := by
  obtain ⟨e1, e2⟩ := wch_ok k hk i hi
  have hw : wl k < 100 := by
    rcases (show k = 0 ∨ k = 1 ∨ k = 2 ∨ k = 3 by omega) with rfl | rfl | rfl | rfl <;> decide
  rw [e151]
  simp only [s151_0, s151_1, s151_2, s151_3, s151_6, s151_7, s151_8, s151_9, s151_12, s151_13, s151_14, OpV_some, OpN_some, OpA_some, OpR_some, Option.toList_some, Option.toList_none, List.cons_append, List.nil_append, true_and, and_true, nI11, or_true, true_or, or_false, false_or, str_arr2 hk, str_check hi hw, in_nI hi (show wl k < 2 ^ 31 by omega), cl_nI (show i < 2 ^ 31 by omega), e1, e2, show 1000 ≤ 1005 + k by omega]
theorem str_char {k i : Nat} (hk : k < 4) (hi : i < wl k) : Cl X (d + 4) 147 [.ref (1010 + k), .int (nI i)] w Q = Q (some (.int (nI (wch k i)))) w := by
  obtain ⟨e1, e2⟩ := wch_ok k hk i hi
  rw [e147]
  simp only [s147_0, s147_1, s147_4, s147_7, s147_8, s147_11, s147_12, s147_15, s147_16, s147_17, s147_20, OpV_some, OpN_some, OpA_some, OpR_some, Option.toList_some, Option.toList_none, List.cons_append, List.nil_append, true_and, and_true, nI11, or_true, true_or, or_false, false_or, show 1010 ≤ 1010 + k by omega, show 1010 + k < 1014 by omega, and_self, show 1010 + k - 5 = 1005 + k by omega, show ¬ 1010 + k < 1000 by omega, if_false, str_latin hk, show (nI 1 = 0) = False by decide, str_lat hk hi, e2]
end STR
