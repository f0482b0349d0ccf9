/-! what is made at the start -/
def rob (w : am_W) (p : Nat) (a b : Int32) (r : Value) (s : Int32) : am_W := w.set p (.inr (4, [.int a, .int b, r, .int s]))
theorem app_at {w : am_W} {p : Nat} {c e : va_E} (h : w[p]? = some c) : (w ++ [e])[p]? = some c := by
  rw [List.getElem?_append_left (List.getElem?_eq_some_iff.mp h).1]; exact h
theorem app_set {w : am_W} {p : Nat} {c c' e : va_E} (h : w[p]? = some c) : (w ++ [e]).set p c' = w.set p c' ++ [e] := List.set_append_left _ _ (List.getElem?_eq_some_iff.mp h).1
section INIT
variable {X : am_X} {d : Nat} {Q : am_Q} {w : am_W}
theorem pmc32 : pm_c 32 = 1 := rfl
theorem pmz32 : pm_z 32 = 70 := rfl
theorem rows_init {p ro wi : Nat} (hp : w[p]? = some (.inr (4, [.int 0, .int 0, .null, .int 0]))) (hp1 : p < 1000) (hl : w.length < 1000) (hr : ro ≤ 100) (hw : wi ≤ 100) (h7 : ro * wi ≤ 70) : Cl X (d + 2) 32 [.ref p, .int (nI ro), .int (nI wi)] w Q = Q none (w.set p (.inr (4, [.int (nI ro), .int (nI wi), .ref w.length, .int (nI 0)])) ++ [.inl (0, ro * wi, .inl fun _ => 0)]) := by
  have f3 : am_fld w p 4 3 = some (.int 0) := fld_at hp
  have p3 : am_put w p 3 (.int (nI 0)) = rob w p 0 0 .null (nI 0) := put_at hp
  have at0 : ∀ a b r s, (rob w p a b r s)[p]? = some (.inr (4, [.int a, .int b, r, .int s])) := fun a b r s => set_at hp
  have g0 : ∀ a b r s, am_fld (rob w p a b r s) p 4 0 = some (.int a) := fun a b r s => fld_at (at0 a b r s)
  have g1 : ∀ a b r s, am_fld (rob w p a b r s) p 4 1 = some (.int b) := fun a b r s => fld_at (at0 a b r s)
  have q0 : ∀ a b r s v, am_put (rob w p a b r s) p 0 (.int v) = rob w p v b r s := fun a b r s v => by rw [put_at (at0 a b r s)]; unfold rob; rw [List.set_set]; rfl
  have q1 : ∀ a b r s v, am_put (rob w p a b r s) p 1 (.int v) = rob w p a v r s := fun a b r s v => by rw [put_at (at0 a b r s)]; unfold rob; rw [List.set_set]; rfl
  have ln : ∀ a b r s, (rob w p a b r s).length = w.length := fun a b r s => List.length_set
  have g2 : ∀ a b r s e, am_fld (rob w p a b r s ++ [e]) p 4 2 = some r := fun a b r s e => fld_at (app_at (at0 a b r s))
  have q2 : ∀ a b r s e v, am_put (rob w p a b r s ++ [e]) p 2 v = rob w p a b v s ++ [e] := fun a b r s e v => by
    rw [put_at (app_at (at0 a b r s)), app_set (at0 a b r s)]; unfold rob; rw [List.set_set]; rfl
  have m1 : ∀ n, n ≤ 100 → imax (nI 0) (nI n) = nI n := fun n hn => by rw [imax_nI (by decide) (by omega), Nat.max_eq_right (by omega)]
  have h0 : (0 : Int32) ≤ nI (ro * wi) := nI_pos' (by omega)
  have h1 : nI (ro * wi) ≤ (10000 : Int32) := by
    rw [Int32.le_iff_toInt_le, nI_toInt (by omega)]
    have : (10000 : Int32).toInt = 10000 := rfl
    omega
  rw [e32]
  simp only [s32_0, s32_1, s32_4, s32_5, s32_6, s32_9, s32_10, s32_11, s32_12, s32_15, s32_18, s32_19, s32_20, s32_21, s32_24, s32_27, s32_28, s32_29, s32_32, s32_33, s32_36, s32_37, s32_39, s32_42, OpV_some, OpN_some, OpA_some, OpR_some, Option.toList_some, Option.toList_none, List.cons_append, List.nil_append, true_and, and_true, nI11, or_true, true_or, or_false, false_or, f3, p3, g0, g1, q0, q1, g2, q2, ln, hp1, hl, math_max, m1 ro hr, m1 wi hw, pk_mul, pmc32, pmz32, h0, h1, cl_nI (show ro * wi < 2 ^ 31 by omega), Nat.zero_le, Nat.zero_add, Nat.le_refl, h7]
  rfl
end INIT
