/-! fits -/
def asB (Sn : Nat → Nat) (si fr le be i : Nat) : Bool := decide (¬ ((fr ≤ Sn (i * 2 + 1) ∧ Sn (i * 2 + 1) < be) ∧ (le < Sn (i * 2 + 1) ∨ Sn (i * 2) ≠ si)))
def asS (Sn : Nat → Nat) (si fr le be : Nat) : Nat → Nat → Bool
  | 0, _ => true
  | n + 1, i => if asB Sn si fr le be i = true then asS Sn si fr le be n (i + 1) else false
def cfS (h g Sn : Nat → Nat) (nR nSn G : Nat) (rec : Nat → Nat → Nat) (si fr : Nat) : Nat → Nat → Nat → Nat
  | 0, _, a => a
  | n + 1, k, a => cfS h g Sn nR nSn G rec si fr n (k + 1) (if canB g nR k si = true ∧ (rid h g k G si fr).1 ≤ 999 ∧ (rid h g k G si fr).2.2 = false ∧ asS Sn si fr (fat g k si fr) (rid h g k G si fr).1 nSn 0 = true then a + rec (rid h g k G si fr).2.1 (rid h g k G si fr).1 else a)
/-- in how many ways so many more ropes are as was seen -/
def cfit (h g Sn : Nat → Nat) (nR nSn G : Nat) : Nat → Nat → Nat → Nat
  | 0, si, fr => if asS Sn si fr 999 1000 nSn 0 = true then 1 else 0
  | m + 1, si, fr => cfS h g Sn nR nSn G (cfit h g Sn nR nSn G m) si fr nR 0 0
section API8
variable {X : am_X} {d : Nat} {Q : am_Q} {w : am_W} {s : CSt}
theorem c_seen_loop (C : CityAt w s) (V : Valid s) {si fr le be : Nat} (h1 : si < 2 ^ 31) (h2 : fr < 2 ^ 31) (h3 : le < 2 ^ 31) (h4 : be < 2 ^ 31) : ∀ (n i : Nat) (l6 l7 : Option Value), i + n = s.2.2.2.1.1 →
    Wp X (Cl X (d + 1)) 83 Q (3, [some (.ref 0), some (.int (nI si)), some (.int (nI fr)), some (.int (nI le)), some (.int (nI be)), some (.int (nI i)), l6, l7], [], w, 0, 0) = Q (some (.int (nI (if asS s.2.2.2.1.2 si fr le be n i = true then 1 else 0)))) w
  | 0, i, l6, l7, e => by
    have h6 := C.sn.2.2.2.2.1
    rw [s83_3]
    simp only [s83_0, s83_1, s83_5, s83_6, s83_9, s83_12, s83_15, s83_16, s83_19, s83_21, s83_22, s83_25, s83_27, s83_29, s83_30, s83_33, s83_35, s83_37, s83_40, s83_41, s83_44, s83_45, s83_47, s83_49, s83_52, s83_54, s83_55, s83_58, s83_59, s83_62, s83_64, s83_65, s83_68, s83_69, s83_72, s83_73, s83_74, s83_77, s83_80, s83_81, OpV_some, OpN_some, OpA_some, OpR_some, Option.toList_some, Option.toList_none, List.cons_append, List.nil_append, true_and, and_true, nI11, or_true, true_or, or_false, false_or, C.f4, C.sn.f3, nI_ltN (show i < 2 ^ 31 by omega) (show s.2.2.2.1.1 < 2 ^ 31 by omega), show ¬ i < s.2.2.2.1.1 by omega, if_false, if_true, asS, b01_1, show (0 : Nat) < 1000 by decide, show (13 : Nat) < 1000 by decide]
  | n + 1, i, l6, l7, e => by
    have h6 := C.sn.2.2.2.2.1
    obtain ⟨hs, hm⟩ := V.2.2.2.2.1.2 i (by omega)
    have hd := V.2.2.1.2.1
    have hi : i < s.2.2.2.1.1 := by omega
    have g0 : ∀ (d : Nat) (Q : am_Q), Cl X (d + 1) 34 [.ref 13, .int (nI i), .int (nI 0)] w Q = Q (some (.int (nI (s.2.2.2.1.2 (i * 2))))) w := fun d Q => rows_getN C.sn hi (by decide)
    have ih := fun l6 l7 => c_seen_loop C V h1 h2 h3 h4 n (i + 1) l6 l7 (by omega)
    rw [s83_3]
    simp only [s83_0, s83_1, s83_5, s83_6, s83_9, s83_12, s83_15, s83_16, s83_19, s83_21, s83_22, s83_25, s83_27, s83_29, s83_30, s83_33, s83_35, s83_37, s83_40, s83_41, s83_44, s83_45, s83_47, s83_49, s83_52, s83_54, s83_55, s83_58, s83_59, s83_62, s83_64, s83_65, s83_68, s83_69, s83_72, s83_73, s83_74, s83_77, s83_80, s83_81, OpV_some, OpN_some, OpA_some, OpR_some, Option.toList_some, Option.toList_none, List.cons_append, List.nil_append, true_and, and_true, nI11, or_true, true_or, or_false, false_or, C.f4, C.sn.f3, C.sn.cl, nI_ltN (show i < 2 ^ 31 by omega) (show s.2.2.2.1.1 < 2 ^ 31 by omega), hi, if_true, rows_getN C.sn hi (show 1 < 2 by decide), g0, nI_ltN (show s.2.2.2.1.2 (i * 2 + 1) < 2 ^ 31 by omega) h2, nI_ltN (show s.2.2.2.1.2 (i * 2 + 1) < 2 ^ 31 by omega) h4, nI_ltN h3 (show s.2.2.2.1.2 (i * 2 + 1) < 2 ^ 31 by omega), nI_eqN (show s.2.2.2.1.2 (i * 2) < 2 ^ 31 by omega) h1, nI_add, ih, show (nI 1 = 0) = False by decide, show (nI 0 = 0) = True by decide, if_false, b01_0, asS, asB, decide_eq_true_eq, show (0 : Nat) < 1000 by decide, show (13 : Nat) < 1000 by decide]
    by_cases q1 : s.2.2.2.1.2 (i * 2 + 1) < fr <;> by_cases q2 : s.2.2.2.1.2 (i * 2 + 1) < be <;> by_cases q3 : le < s.2.2.2.1.2 (i * 2 + 1) <;> by_cases q4 : s.2.2.2.1.2 (i * 2) = si <;> simp [q1, q2, q3, q4, Nat.not_le.mpr, Nat.le_of_not_lt]
theorem c_seen (C : CityAt w s) (V : Valid s) {si fr le be : Nat} (h1 : si < 2 ^ 31) (h2 : fr < 2 ^ 31) (h3 : le < 2 ^ 31) (h4 : be < 2 ^ 31) : Cl X (d + 2) 83 [.ref 0, .int (nI si), .int (nI fr), .int (nI le), .int (nI be)] w Q = Q (some (.int (nI (if asS s.2.2.2.1.2 si fr le be s.2.2.2.1.1 0 = true then 1 else 0)))) w := by
  rw [e83]
  simp only [s83_0, s83_1, s83_5, s83_6, s83_9, s83_12, s83_15, s83_16, s83_19, s83_21, s83_22, s83_25, s83_27, s83_29, s83_30, s83_33, s83_35, s83_37, s83_40, s83_41, s83_44, s83_45, s83_47, s83_49, s83_52, s83_54, s83_55, s83_58, s83_59, s83_62, s83_64, s83_65, s83_68, s83_69, s83_72, s83_73, s83_74, s83_77, s83_80, s83_81, OpV_some, OpN_some, OpA_some, OpR_some, Option.toList_some, Option.toList_none, List.cons_append, List.nil_append, true_and, and_true, nI11, or_true, true_or, or_false, false_or]
  exact c_seen_loop C V h1 h2 h3 h4 _ 0 _ _ (by omega)
end API8
