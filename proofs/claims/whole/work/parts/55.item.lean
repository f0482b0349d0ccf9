/-! which item a word begins: 4 where none -/
def itW (B : Nat → Nat) (pl be tk : Nat) : Nat := if tk = 1 then (if isW B pl be 0 = true then 0 else if isW B pl be 1 = true then 1 else if isW B pl be 2 = true then 2 else if isW B pl be 3 = true then 3 else 4) else 4
def itI (k : Nat) : Int32 := if k < 4 then nI k else -1
section ITEM
variable {X : am_X} {d : Nat} {Q : am_Q} {u : am_W} {le pl be tk va : Nat} {B : Nat → Nat}
theorem rd_item (h : RB u le B) (hp : pl ≤ be) (hb : be ≤ le) (ht : tk < 2 ^ 31) : Cl X (d + 6) 11 [.ref 35] (ro u le pl be tk va) Q = Q (some (.int (itI (itW B pl be tk)))) (ro u le pl be tk va) := by
  have W0 : ∀ Q : am_Q, Cl X (d + 5) 24 [.ref 35, .ref 1010] (ro u le pl be tk va) Q = Q (some (.int (nI (if isW B pl be 0 = true then 1 else 0)))) (ro u le pl be tk va) := fun Q => rd_isWord h (k := 0) (by decide) hp hb
  have W1 : ∀ Q : am_Q, Cl X (d + 5) 24 [.ref 35, .ref 1011] (ro u le pl be tk va) Q = Q (some (.int (nI (if isW B pl be 1 = true then 1 else 0)))) (ro u le pl be tk va) := fun Q => rd_isWord h (k := 1) (by decide) hp hb
  have W2 : ∀ Q : am_Q, Cl X (d + 5) 24 [.ref 35, .ref 1012] (ro u le pl be tk va) Q = Q (some (.int (nI (if isW B pl be 2 = true then 1 else 0)))) (ro u le pl be tk va) := fun Q => rd_isWord h (k := 2) (by decide) hp hb
  have W3 : ∀ Q : am_Q, Cl X (d + 5) 24 [.ref 35, .ref 1013] (ro u le pl be tk va) Q = Q (some (.int (nI (if isW B pl be 3 = true then 1 else 0)))) (ro u le pl be tk va) := fun Q => rd_isWord h (k := 3) (by decide) hp hb
  rw [e11]
  unfold itI itW
  simp only [s11_0, s11_1, s11_4, s11_5, s11_8, s11_9, s11_10, s11_11, s11_13, s11_16, s11_19, s11_20, s11_21, s11_22, s11_24, s11_27, s11_30, s11_31, s11_32, s11_33, s11_35, s11_38, s11_41, s11_42, s11_43, s11_44, s11_46, s11_49, s11_52, s11_53, s11_56, s11_57, OpV_some, OpN_some, OpA_some, OpR_some, Option.toList_some, Option.toList_none, List.cons_append, List.nil_append, true_and, and_true, nI11, or_true, true_or, or_false, false_or, h.ob.f7, h.ob.cl, nI_eqN ht (show 1 < 2 ^ 31 by decide), W0, W1, W2, W3, nI_ite, show (35 : Nat) < 1000 by decide]
  by_cases h1 : tk = 1
  · by_cases q0 : isW B pl be 0 = true
    · simp [h1, q0]
    · by_cases q1 : isW B pl be 1 = true
      · simp [h1, q0, q1]
      · by_cases q2 : isW B pl be 2 = true
        · simp [h1, q0, q1, q2]
        · by_cases q3 : isW B pl be 3 = true
          · simp [h1, q0, q1, q2, q3]
          · simp [h1, q0, q1, q2, q3]
  · simp [h1]
end ITEM
