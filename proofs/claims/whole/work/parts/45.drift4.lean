/-! drift -/
theorem isN_cg {L L' : Nat → Nat} {x : Nat} : ∀ (n j : Nat) (b : Bool), (∀ q, q < j + n → L q = L' q) → isN L x n j b = isN L' x n j b
  | 0, j, b, h => rfl
  | n + 1, j, b, h => by
    unfold isN
    rw [h j (by omega)]
    exact isN_cg n (j + 1) _ fun q hq => h q (by omega)
theorem lus_cg {F F' : Nat → Nat} {sz : Nat} (hF : ∀ q, q < sz → F q = F' q) : ∀ (n i un : Nat) (L L' : Nat → Nat), i + n = sz → (∀ q, q < un → L q = L' q) → (lus F sz n i un L).1 = (lus F' sz n i un L').1 ∧ ∀ q, q < (lus F sz n i un L).1 → (lus F sz n i un L).2 q = (lus F' sz n i un L').2 q
  | 0, i, un, L, L', e, h => ⟨rfl, h⟩
  | n + 1, i, un, L, L', e, h => by
    unfold lus
    rw [hF (sz - 1 - i) (by omega), isN_cg (L := L) (L' := L') un 0 true (fun q hq => h q (by omega))]
    split
    · refine lus_cg hF n (i + 1) _ _ _ (by omega) fun q hq => ?_
      unfold upN
      split
      · rfl
      · exact h q (by omega)
    · exact lus_cg hF n (i + 1) _ _ _ (by omega) h
theorem lus_ok {F : Nat → Nat} {sz : Nat} (hF : ∀ q, q < sz → F q < 8) : ∀ (n i un : Nat) (L : Nat → Nat), i + n = sz → un ≤ i → (∀ q, q < un → L q < 8) → (lus F sz n i un L).1 ≤ sz ∧ ∀ q, q < (lus F sz n i un L).1 → (lus F sz n i un L).2 q < 8
  | 0, i, un, L, e, hu, h => ⟨by show un ≤ sz; omega, h⟩
  | n + 1, i, un, L, e, hu, h => by
    unfold lus
    split
    · refine lus_ok hF n (i + 1) _ _ (by omega) (by omega) fun q hq => ?_
      unfold upN
      split
      · exact hF _ (by omega)
      · exact h q (by omega)
    · exact lus_ok hF n (i + 1) _ _ (by omega) (by omega) h
theorem drf_Lcg {L L' g : Nat → Nat} {nR base : Nat} : ∀ (n i l : Nat) (f : Nat → Nat), (∀ q, q < i + n → L q = L' q) → drf L g nR base n i l f = drf L' g nR base n i l f
  | 0, i, l, f, h => rfl
  | n + 1, i, l, f, h => by
    unfold drf
    rw [h i (by omega)]
    exact drf_Lcg n (i + 1) _ _ fun q hq => h q (by omega)
theorem flw_mi {h g : Nat → Nat} {nR G sz : Nat} {F : Nat → Nat} : ∀ (n j si mi : Nat), mi < 1000 → (flw h g nR G F sz n j si mi).2.2 < 1000
  | 0, j, si, mi, hm => hm
  | n + 1, j, si, mi, hm => by
    unfold flw
    split
    · rename_i hc
      exact flw_mi n (j + 1) _ _ (by have := hc.2.1; omega)
    · exact hm
/-- the unlike ones of the ropes that a number tells -/
def dun (x : Int32) : Nat × (Nat → Nat) := lus (rtv 4 x).2.2 (rtv 4 x).2.1 (rtv 4 x).2.1 0 0 (fun _ => 0)
def dflw (s : CSt) (x : Int32) (G a t dd ch : Nat) : Nat × Nat × Nat := flw s.2.1.2 (drf (dun x).2 s.2.2.1.1.2 s.2.2.1.1.1 (dd + 1) (dun x).1 0 ch s.2.2.1.1.2) s.2.2.1.1.1 G (rtv 4 x).2.2 (rtv 4 x).2.1 (rtv 4 x).2.1 0 a t
/-- least and greatest of what a choice more gives -/
def dacc (acc : Option (Nat × Nat)) (m : Nat) : Option (Nat × Nat) := match acc with
  | none => some (m, m)
  | some p => some (min p.1 m, max p.2 m)
def drl (s : CSt) (x : Int32) (G a t dd : Nat) : Nat → Nat → Option (Nat × Nat) → Option (Nat × Nat)
  | 0, _, acc => acc
  | n + 1, c, acc => drl s x G a t dd n (c + 1) (if (dflw s x G a t dd c).1 = (rtv 4 x).2.1 then dacc acc (dflw s x G a t dd c).2.2 else acc)
def mLo : Option (Nat × Nat) → Int32
  | none => -9
  | some p => nI p.1
def mHi : Option (Nat × Nat) → Int32
  | none => -9
  | some p => nI p.2
def dOK : Option (Nat × Nat) → Prop
  | none => True
  | some p => p.1 < 1000 ∧ p.2 < 1000
theorem dacc_ok {acc : Option (Nat × Nat)} {m : Nat} (h : dOK acc) (hm : m < 1000) : dOK (dacc acc m) := by
  cases acc with
  | none => exact ⟨hm, hm⟩
  | some p => exact ⟨by have := h.1; show min p.1 m < 1000; omega, by have := h.2; show max p.2 m < 1000; omega⟩
theorem nI_n9 {m : Nat} (h : m < 1000) : (nI m = -9) = False := eq_false fun e => by
  have := congrArg Int32.toInt e
  rw [nI_toInt (by omega), show ((-9 : Int32)).toInt = -9 by decide] at this
  omega
theorem mHi_max {acc : Option (Nat × Nat)} {m : Nat} (h : dOK acc) (hm : m < 1000) : imax (mHi acc) (nI m) = mHi (dacc acc m) := by
  cases acc with
  | none =>
    unfold imax mHi dacc
    rw [if_pos]
    rw [Int32.lt_iff_toInt_lt, nI_toInt (by omega), show ((-9 : Int32)).toInt = -9 by decide]; omega
  | some p => exact imax_nI (by have := h.2; omega) (by omega)
theorem mLo_min {p : Nat × Nat} {m : Nat} (h : dOK (some p)) (hm : m < 1000) : imin (mLo (some p)) (nI m) = mLo (dacc (some p) m) := imin_nI (by have := h.1; omega) (by omega)
section DRIFT4
variable {X : am_X} {d : Nat} {Q : am_Q} {w : am_W} {s : CSt}
theorem c_drift_pow {G a t x y : Int32} {dd un : Nat} (hun : un ≤ 4) (l10 l11 : Option Value) : ∀ (n i c : Nat), i + n = un →
    Wp X (Cl X d) 68 Q (56, [some (.ref 0), some (.int G), some (.int a), some (.int t), some (.int x), some (.int (nI dd)), some (.int y), some (.int (nI un)), some (.int (nI c)), some (.int (nI i)), l10, l11], [], w, 0, 0) = Wp X (Cl X d) 68 Q (78, [some (.ref 0), some (.int G), some (.int a), some (.int t), some (.int x), some (.int (nI dd)), some (.int y), some (.int (nI un)), some (.int (nI (c * (dd + 1) ^ n))), some (.int (nI un)), l10, l11], [], w, 0, 0)
  | 0, i, c, e => by
    obtain rfl : i = un := by omega
    rw [s68_56]
    simp only [s68_58, s68_60, s68_63, s68_65, s68_67, s68_68, s68_69, s68_70, s68_72, s68_75, OpV_some, OpN_some, OpA_some, OpR_some, Option.toList_some, Option.toList_none, List.cons_append, List.nil_append, true_and, and_true, nI11, or_true, true_or, or_false, false_or, nI_ltN (show i < 2 ^ 31 by omega) (show i < 2 ^ 31 by omega), Nat.lt_irrefl, if_false, Nat.pow_zero, Nat.mul_one]
  | n + 1, i, c, e => by
    have ih := c_drift_pow (G := G) (a := a) (t := t) (x := x) (y := y) (dd := dd) hun l10 l11 n (i + 1) (c * (dd + 1)) (by omega)
    have e2 : c * (dd + 1) ^ (n + 1) = c * (dd + 1) * (dd + 1) ^ n := by rw [Nat.pow_succ, Nat.mul_comm ((dd + 1) ^ n), Nat.mul_assoc]
    rw [s68_56]
    simp only [s68_58, s68_60, s68_63, s68_65, s68_67, s68_68, s68_69, s68_70, s68_72, s68_75, OpV_some, OpN_some, OpA_some, OpR_some, Option.toList_some, Option.toList_none, List.cons_append, List.nil_append, true_and, and_true, nI11, or_true, true_or, or_false, false_or, nI_ltN (show i < 2 ^ 31 by omega) (show un < 2 ^ 31 by omega), show i < un by omega, if_true, nI_add, pk_mul, e2]
    exact ih
end DRIFT4
