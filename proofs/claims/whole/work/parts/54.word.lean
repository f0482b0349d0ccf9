/-! isWord -/
theorem wch_lt : ∀ k, k < 4 → ∀ i, i < wl k → wch k i < 256 := by decide
def isWl (B : Nat → Nat) (pl k : Nat) : Nat → Nat → Bool
  | 0, _ => true
  | n + 1, i => if B (pl + i) = wch k i then isWl B pl k n (i + 1) else false
def isW (B : Nat → Nat) (pl be k : Nat) : Bool := if be - pl = wl k then isWl B pl k (wl k) 0 else false
section WORD
variable {X : am_X} {d : Nat} {Q : am_Q} {u : am_W} {le pl be tk va : Nat} {B : Nat → Nat}
theorem rd_isWord_loop (h : RB u le B) {k : Nat} (hk : k < 4) (h1 : pl + wl k ≤ le) (hw : wl k < 100) : ∀ (n i : Nat), i + n = wl k → Wp X (Cl X (d + 4)) 24 Q (20, [some (.ref 35), some (.ref (1010 + k)), some (.int (nI i))], [], ro u le pl be tk va, 0, 0) = Q (some (.int (nI (if isWl B pl k n i = true then 1 else 0)))) (ro u le pl be tk va)
  | 0, i, e => by
    rw [s24_20]
    simp only [s24_0, s24_1, s24_4, s24_5, s24_8, s24_9, s24_10, s24_13, s24_16, s24_17, s24_18, s24_19, s24_21, s24_22, s24_25, s24_28, s24_29, s24_30, s24_33, s24_34, s24_35, s24_38, s24_39, s24_40, s24_43, s24_46, s24_47, s24_48, s24_51, s24_54, s24_55, OpV_some, OpN_some, OpA_some, OpR_some, Option.toList_some, Option.toList_none, List.cons_append, List.nil_append, true_and, and_true, nI11, or_true, true_or, or_false, false_or, show 1010 ≤ 1010 + k by omega, show 1010 + k < 1014 by omega, and_self, show ¬ 1010 + k < 1000 by omega, if_false, str_len hk, nI_ltN (show i < 2 ^ 31 by omega) (show wl k < 2 ^ 31 by omega), show ¬ i < wl k by omega, isWl, b01_1, if_true]
  | n + 1, i, e => by
    have h3 := h.2.2.1
    have hi : i < wl k := by omega
    have hb := h.2.2.2 (pl + i) (by omega)
    have hc := wch_lt k hk i hi
    have ih := rd_isWord_loop h hk h1 hw n (i + 1) (by omega)
    have hbt : bt B le (pl + i) = nI (B (pl + i)) := by unfold bt; rw [if_pos (by omega)]
    rw [s24_20]
    simp only [s24_0, s24_1, s24_4, s24_5, s24_8, s24_9, s24_10, s24_13, s24_16, s24_17, s24_18, s24_19, s24_21, s24_22, s24_25, s24_28, s24_29, s24_30, s24_33, s24_34, s24_35, s24_38, s24_39, s24_40, s24_43, s24_46, s24_47, s24_48, s24_51, s24_54, s24_55, OpV_some, OpN_some, OpA_some, OpR_some, Option.toList_some, Option.toList_none, List.cons_append, List.nil_append, true_and, and_true, nI11, or_true, true_or, or_false, false_or, show 1010 ≤ 1010 + k by omega, show 1010 + k < 1014 by omega, and_self, show ¬ 1010 + k < 1000 by omega, if_false, str_len hk, nI_ltN (show i < 2 ^ 31 by omega) (show wl k < 2 ^ 31 by omega), hi, if_true, h.ob.f5, h.ob.cl, nI_add, rd_byteAt h.ob (show pl + i < 10000 by omega), hbt, str_char hk hi, nI_eqN (show B (pl + i) < 2 ^ 31 by omega) (show wch k i < 2 ^ 31 by omega), isWl, b01_0, show (35 : Nat) < 1000 by decide]
    by_cases hq : B (pl + i) = wch k i
    · simp only [hq, if_true]
      exact ih
    · simp only [hq, if_false, Bool.false_eq_true]
theorem rd_isWord (h : RB u le B) {k : Nat} (hk : k < 4) (hp : pl ≤ be) (hb : be ≤ le) : Cl X (d + 5) 24 [.ref 35, .ref (1010 + k)] (ro u le pl be tk va) Q = Q (some (.int (nI (if isW B pl be k = true then 1 else 0)))) (ro u le pl be tk va) := by
  have h3 := h.2.2.1
  have hw : wl k < 100 := by
    rcases (show k = 0 ∨ k = 1 ∨ k = 2 ∨ k = 3 by omega) with rfl | rfl | rfl | rfl <;> decide
  rw [e24]
  unfold isW
  simp only [s24_0, s24_1, s24_4, s24_5, s24_8, s24_9, s24_10, s24_13, s24_16, s24_17, s24_18, s24_19, s24_21, s24_22, s24_25, s24_28, s24_29, s24_30, s24_33, s24_34, s24_35, s24_38, s24_39, s24_40, s24_43, s24_46, s24_47, s24_48, s24_51, s24_54, s24_55, OpV_some, OpN_some, OpA_some, OpR_some, Option.toList_some, Option.toList_none, List.cons_append, List.nil_append, true_and, and_true, nI11, or_true, true_or, or_false, false_or, h.ob.f5, h.ob.f6, nI_subN hp, show 1010 ≤ 1010 + k by omega, show 1010 + k < 1014 by omega, and_self, show ¬ 1010 + k < 1000 by omega, if_false, str_len hk, nI_eqN (show be - pl < 2 ^ 31 by omega) (show wl k < 2 ^ 31 by omega), b01_0, show (35 : Nat) < 1000 by decide]
  by_cases hq : be - pl = wl k
  · simp only [hq, if_true]
    exact rd_isWord_loop h hk (by omega) hw (wl k) 0 (by omega)
  · simp only [hq, if_false, Bool.false_eq_true]
end WORD
