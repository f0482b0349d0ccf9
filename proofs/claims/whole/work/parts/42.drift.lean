/-! the unlike ones of the told ropes -/
def isN (L : Nat → Nat) (x : Nat) : Nat → Nat → Bool → Bool
  | 0, _, b => b
  | n + 1, j, b => isN L x n (j + 1) (b && decide (L j ≠ x))
def lus (F : Nat → Nat) (sz : Nat) : Nat → Nat → Nat → (Nat → Nat) → Nat × (Nat → Nat)
  | 0, _, un, L => (un, L)
  | n + 1, i, un, L => if isN L (F (sz - 1 - i)) un 0 true = true then lus F sz n (i + 1) (un + 1) (upN L un (F (sz - 1 - i))) else lus F sz n (i + 1) un L
section DRIFT
variable {X : am_X} {d : Nat} {Q : am_Q} {w : am_W} {s : CSt} {sz mi si : Nat} {F : Nat → Nat}
theorem lus_j {u : am_W} (R : RtAt u sz F sz mi si) {L : Nat → Nat} (hL : u[56]? = some (.inl (0, 4, .inl (nIf L)))) {un i : Nat} (hi : i < sz) (h6 : sz ≤ 6) (hF : ∀ q, q < sz → F q < 8) (hun : un ≤ 4) (h8 : ∀ q, q < un → L q < 8) : ∀ (n j : Nat) (b : Bool), j + n = un →
    Wp X (Cl X (d + 2)) 31 Q (24, [some (.ref 49), some (.ref 56), some (.int (nI un)), some (.int (nI i)), some (.int (nI (if b = true then 1 else 0))), some (.int (nI j))], [], u, 0, 0) = Wp X (Cl X (d + 2)) 31 Q (60, [some (.ref 49), some (.ref 56), some (.int (nI un)), some (.int (nI i)), some (.int (nI (if isN L (F (sz - 1 - i)) n j b = true then 1 else 0))), some (.int (nI un))], [], u, 0, 0)
  | 0, j, b, e => by
    obtain rfl : j = un := by omega
    rw [s31_24]
    simp only [s31_26, s31_27, s31_30, OpV_some, OpN_some, OpA_some, OpR_some, Option.toList_some, Option.toList_none, List.cons_append, List.nil_append, true_and, and_true, nI11, or_true, true_or, or_false, false_or, nI_ltN (show j < 2 ^ 31 by omega) (show j < 2 ^ 31 by omega), Nat.lt_irrefl, if_false, isN]
    rfl
  | n + 1, j, b, e => by
    have ih := fun b => lus_j R hL hi h6 hF hun h8 n (j + 1) b (by omega)
    have a1 := hF (sz - 1 - i) (by omega)
    have a2 := h8 j (by omega)
    rw [s31_24]
    simp only [s31_26, s31_27, s31_30, s31_32, s31_35, s31_36, s31_38, s31_39, s31_40, s31_41, s31_44, s31_47, s31_48, s31_51, s31_52, s31_54, s31_57, OpV_some, OpN_some, OpA_some, OpR_some, Option.toList_some, Option.toList_none, List.cons_append, List.nil_append, true_and, and_true, nI11, or_true, true_or, or_false, false_or, nI_ltN (show j < 2 ^ 31 by omega) (show un < 2 ^ 31 by omega), show j < un by omega, if_true, nI_ite, arr_at (show 56 < 1000 by decide) hL, in_nI (show j < 4 by omega) (show 4 < 2 ^ 31 by decide), cl_nI (show j < 2 ^ 31 by omega), nIf, R.cl, route_ropeOf R hi, nI_eqN (show L j < 2 ^ 31 by omega) (show F (sz - 1 - i) < 2 ^ 31 by omega), nI_add, show (49 : Nat) < 1000 by decide, isN]
    cases b
    · simp only [Bool.false_eq_true, not_false_eq_true, if_true, if_false, Bool.false_and]
      have := ih false
      simp only [Bool.false_eq_true, if_false] at this
      exact this
    · by_cases hx : L j = F (sz - 1 - i)
      · simp only [hx, not_true, if_true, if_false, ne_eq, decide_false, Bool.and_false]
        have := ih false
        simp only [Bool.false_eq_true, if_false] at this
        exact this
      · simp only [hx, not_true, not_false_eq_true, if_true, if_false, ne_eq, decide_true, Bool.and_true]
        have := ih true
        simp only [if_true] at this
        exact this
theorem CityAt.onDf (C : CityAt w s) {u : am_W} (ag : agr w u [56]) {f : Nat → Nat} (h9 : u[56]? = some (.inl (0, 4, .inl (nIf f)))) : CityAt u s := by
  obtain ⟨n, f7, h7⟩ := C.tr
  obtain ⟨tz, F, sz, mi, si, h⟩ := C.rt
  exact C.scr ag (by decide) ⟨n, f7, h7.ag ag (by decide) (by decide)⟩ (C.ri.ag ag (by decide)) ⟨tz, F, sz, mi, si, h.ag ag (by decide) (by decide) (by decide) (by decide)⟩ (C.wyA.ag ag (by decide) (by decide) (by decide)) ⟨f, h9⟩
theorem lus_i (h4 : sz ≤ 4) (hF : ∀ q, q < sz → F q < 8) : ∀ (n i un : Nat) (L : Nat → Nat) (u : am_W) (l4 l5 : Option Value), i + n = sz → un ≤ i → (∀ q, q < un → L q < 8) → CityAt u s → RtAt u sz F sz mi si → u[56]? = some (.inl (0, 4, .inl (nIf L))) → agr w u [56] →
    (∀ v, CityAt v s → RtAt v sz F sz mi si → v[56]? = some (.inl (0, 4, .inl (nIf (lus F sz n i un L).2))) → agr w v [56] → Q (some (.int (nI (lus F sz n i un L).1))) v) →
    Wp X (Cl X (d + 2)) 31 Q (4, [some (.ref 49), some (.ref 56), some (.int (nI un)), some (.int (nI i)), l4, l5], [], u, 0, 0)
  | 0, i, un, L, u, l4, l5, e, hu, h8, C, R, hL, ag, hQ => by
    rw [s31_4]
    simp only [s31_5, s31_6, s31_9, s31_12, s31_13, s31_14, s31_15, s31_18, s31_19, s31_21, s31_22, s31_82, s31_83, OpV_some, OpN_some, OpA_some, OpR_some, Option.toList_some, Option.toList_none, List.cons_append, List.nil_append, true_and, and_true, nI11, or_true, true_or, or_false, false_or, R.f2, nI_ltN (show i < 2 ^ 31 by omega) (show sz < 2 ^ 31 by omega), show ¬ i < sz by omega, if_false, show (49 : Nat) < 1000 by decide]
    exact hQ u C R hL ag
  | n + 1, i, un, L, u, l4, l5, e, hu, h8, C, R, hL, ag, hQ => by
    have a1 := hF (sz - 1 - i) (by omega)
    have hin := lus_j (X := X) (d := d) (Q := Q) R hL (show i < sz by omega) (by omega) hF (show un ≤ 4 by omega) h8 un 0 true (by omega)
    simp only [if_true] at hin
    rw [s31_4]
    simp only [s31_5, s31_6, s31_9, s31_12, s31_13, s31_14, s31_15, s31_18, s31_19, s31_21, s31_22, OpV_some, OpN_some, OpA_some, OpR_some, Option.toList_some, Option.toList_none, List.cons_append, List.nil_append, true_and, and_true, nI11, or_true, true_or, or_false, false_or, R.f2, nI_ltN (show i < 2 ^ 31 by omega) (show sz < 2 ^ 31 by omega), show i < sz by omega, if_true, arr_at (show 56 < 1000 by decide) hL, nI_ltN (show un < 2 ^ 31 by omega) (show 4 < 2 ^ 31 by decide), show un < 4 by omega, show (49 : Nat) < 1000 by decide, true_or]
    rw [hin]
    simp only [lus] at hQ
    have ha : am_ast u 56 (nI un).toNatClampNeg (nI (F (sz - 1 - i))) = u.set 56 (.inl (0, 4, .inl (nIf (upN L un (F (sz - 1 - i)))))) := by
      rw [ast_at hL, nI_clamp (by omega), upd_nIf]
    simp only [s31_60, s31_62, s31_65, s31_66, s31_67, s31_68, s31_69, s31_72, s31_73, s31_76, s31_79, OpV_some, OpN_some, OpA_some, OpR_some, Option.toList_some, Option.toList_none, List.cons_append, List.nil_append, true_and, and_true, nI11, or_true, true_or, or_false, false_or, nI_ite, R.cl, route_ropeOf R (show i < sz by omega), arr_at (show 56 < 1000 by decide) hL, in_nI (show un < 4 by omega) (show 4 < 2 ^ 31 by decide), ha, nI_add, show (49 : Nat) < 1000 by decide, show (56 : Nat) < 1000 by decide]
    by_cases hb : isN L (F (sz - 1 - i)) un 0 true = true
    · simp only [hb, not_true, if_true, if_false] at hQ ⊢
      have ag2 : agr u (u.set 56 (.inl (0, 4, .inl (nIf (upN L un (F (sz - 1 - i))))))) [56] := (agr.rf u _).st (by decide) _
      refine lus_i h4 hF n (i + 1) (un + 1) _ _ _ _ (by omega) (by omega) (fun q hq => ?_) (C.onDf ag2 (set_at hL)) (R.ag ag2 (by decide) (by decide) (by decide) (by decide)) (set_at hL) (ag.tr ag2) hQ
      unfold upN
      split
      · exact a1
      · exact h8 q (by omega)
    · simp only [hb, not_false_eq_true, if_true, if_false, Bool.false_eq_true] at hQ ⊢
      exact lus_i h4 hF n (i + 1) un L u _ _ (by omega) (by omega) h8 C R hL ag hQ
theorem c_unlike (h4 : sz ≤ 4) (hF : ∀ q, q < sz → F q < 8) (C : CityAt w s) (R : RtAt w sz F sz mi si) {L : Nat → Nat} (hL : w[56]? = some (.inl (0, 4, .inl (nIf L))))
    (hQ : ∀ v, CityAt v s → RtAt v sz F sz mi si → v[56]? = some (.inl (0, 4, .inl (nIf (lus F sz sz 0 0 L).2))) → agr w v [56] → Q (some (.int (nI (lus F sz sz 0 0 L).1))) v) : Cl X (d + 3) 31 [.ref 49, .ref 56] w Q := by
  rw [e31]
  simp only [s31_0, s31_1, s31_2, s31_3, OpV_some, OpN_some, OpA_some, OpR_some, Option.toList_some, Option.toList_none, List.cons_append, List.nil_append, true_and, and_true, nI11, or_true, true_or, or_false, false_or]
  exact lus_i h4 hF sz 0 0 L w _ _ (by omega) (by omega) (by omega) C R hL (agr.rf w _) hQ
end DRIFT
