/-! one ride -/
def rdg (h g : Nat → Nat) (k : Nat) : Nat → Nat → Nat → Nat × Nat × Bool
  | 0, e, s => (e, s, true)
  | n + 1, e, s => if opnB h (oth g k s) (e + g (k * 5 + 2)) then (e + g (k * 5 + 2), oth g k s, false) else rdg h g k n (e + g (k * 5 + 2)) (oth g k s)
def rid (h g : Nat → Nat) (k G s t : Nat) : Nat × Nat × Bool := rdg h g k G (fat g k s t) s
def rd4 (w : am_W) (q : Nat) (a b c e : Int32) : am_W := w.set q (.inr (2, [.int a, .int b, .int c, .int e]))
section RIDE
variable {X : am_X} {d : Nat} {Q : am_Q} {w : am_W} {i di dj ri rj nS nR q : Nat} {fd fr : Nat → Int32} {h g : Nat → Nat}
theorem StAt.oth {w' : am_W} (S : StAt w i di dj ri rj nS nR fd fr h g) (h1 : w'[i]? = w[i]?) (h2 : w'[di]? = w[di]?) (h3 : w'[dj]? = w[dj]?) (h4 : w'[ri]? = w[ri]?) (h5 : w'[rj]? = w[rj]?) : StAt w' i di dj ri rj nS nR fd fr h g :=
  ⟨h1.trans S.1, S.2.1, S.dr.oth h2 h3, S.rr.oth h4 h5, S.2.2.2.2⟩
theorem StAt.set (S : StAt w i di dj ri rj nS nR fd fr h g) (h1 : q ≠ i) (h2 : q ≠ di) (h3 : q ≠ dj) (h4 : q ≠ ri) (h5 : q ≠ rj) (c : va_E) : StAt (w.set q c) i di dj ri rj nS nR fd fr h g := S.oth (set_ne h1) (set_ne h2) (set_ne h3) (set_ne h4) (set_ne h5)
section RD4
variable {c0 : va_E} {a b c e x : Int32}
theorem rd4_at (hq : w[q]? = some c0) : (rd4 w q a b c e)[q]? = some (.inr (2, [.int a, .int b, .int c, .int e])) := set_at hq
theorem rd4_f0 (hq : w[q]? = some c0) : am_fld (rd4 w q a b c e) q 2 0 = some (.int a) := fld_at (rd4_at hq)
theorem rd4_f1 (hq : w[q]? = some c0) : am_fld (rd4 w q a b c e) q 2 1 = some (.int b) := fld_at (rd4_at hq)
theorem rd4_f2 (hq : w[q]? = some c0) : am_fld (rd4 w q a b c e) q 2 2 = some (.int c) := fld_at (rd4_at hq)
theorem rd4_f3 (hq : w[q]? = some c0) : am_fld (rd4 w q a b c e) q 2 3 = some (.int e) := fld_at (rd4_at hq)
theorem rd4_2 {a' b' c' e' : Int32} : rd4 (rd4 w q a b c e) q a' b' c' e' = rd4 w q a' b' c' e' := by unfold rd4; rw [List.set_set]
theorem rd4_p0 (hq : w[q]? = some c0) : am_put (rd4 w q a b c e) q 0 (.int x) = rd4 w q x b c e := by
  rw [put_at (rd4_at hq)]; unfold rd4; rw [List.set_set]; rfl
theorem rd4_p1 (hq : w[q]? = some c0) : am_put (rd4 w q a b c e) q 1 (.int x) = rd4 w q a x c e := by
  rw [put_at (rd4_at hq)]; unfold rd4; rw [List.set_set]; rfl
theorem rd4_p2 (hq : w[q]? = some c0) : am_put (rd4 w q a b c e) q 2 (.int x) = rd4 w q a b x e := by
  rw [put_at (rd4_at hq)]; unfold rd4; rw [List.set_set]; rfl
theorem rd4_p3 (hq : w[q]? = some c0) : am_put (rd4 w q a b c e) q 3 (.int x) = rd4 w q a b c x := by
  rw [put_at (rd4_at hq)]; unfold rd4; rw [List.set_set]; rfl
theorem rd4_self (hq : w[q]? = some (.inr (2, [.int a, .int b, .int c, .int e]))) : rd4 w q a b c e = w := set_self hq
end RD4
theorem oth_lt (hg : RopeOK g nR nS) {k s : Nat} (hk : k < nR) : oth g k s < nS := by
  obtain ⟨h1, h2, -⟩ := hg.2 k hk
  unfold oth; split <;> omega
theorem ride_loop {c0 : va_E} (hq : w[q]? = some c0) (hq1 : q < 1000) (S : ∀ a b c e, StAt (rd4 w q a b c e) i di dj ri rj nS nR fd fr h g) {k G s0 t0 tk : Nat} (hk : k < nR) (hG : G ≤ 5) : ∀ (n b e s : Nat), b + n = G → s < nS → e + n * 11 < 20000 →
    Wp X (Cl X (d + 2)) 26 Q (47, [some (.ref q), some (.ref i), some (.int (nI k)), some (.int (nI G)), some (.int (nI s0)), some (.int (nI t0)), some (.int (nI b))], [], rd4 w q (nI tk) (nI e) (nI s) (nI 0), 0, 0) = Q (some (.int (nI (if (rdg h g k n e s).1 ≤ 999 then 1 else 0)))) (rd4 w q (nI tk) (nI (rdg h g k n e s).1) (nI (rdg h g k n e s).2.1) (nI (if (rdg h g k n e s).2.2 then 1 else 0)))
  | 0, b, e, s, hb, hs, he => by
    have S0 := S (nI tk) (nI e) (nI s) (nI 0)
    rw [s26_47]
    simp only [s26_0, s26_1, s26_2, s26_5, s26_6, s26_7, s26_9, s26_12, s26_15, s26_16, s26_17, s26_18, s26_19, s26_20, s26_22, s26_24, s26_27, s26_30, s26_31, s26_32, s26_35, s26_38, s26_39, s26_41, s26_44, s26_45, s26_49, s26_50, s26_53, s26_54, s26_55, s26_58, s26_59, s26_62, s26_63, s26_64, s26_67, s26_68, s26_71, s26_72, s26_73, s26_74, s26_75, s26_78, s26_81, s26_84, s26_85, s26_86, s26_89, s26_90, s26_93, s26_96, s26_99, s26_100, s26_103, s26_106, s26_109, s26_110, s26_113, s26_114, s26_115, s26_118, s26_121, s26_122, s26_123, s26_126, s26_127, s26_130, s26_133, s26_136, s26_137, s26_140, s26_141, OpV_some, OpN_some, OpA_some, OpR_some, Option.toList_some, Option.toList_none, List.cons_append, List.nil_append, true_and, and_true, nI11, or_true, true_or, or_false, false_or, nI_ltN (show b < 2 ^ 31 by omega) (show G < 2 ^ 31 by omega), show ¬ b < G by omega, if_false, rd4_f1 hq, rd4_f3 hq, rd4_p3 hq, hq1, nI_ltN (show 999 < 2 ^ 31 by decide) (show e < 2 ^ 31 by omega), b01_0, b01_1, rdg, if_true]
    by_cases h9 : 999 < e
    · simp only [h9, if_true, show ¬ e ≤ 999 by omega, if_false]
    · simp only [h9, if_false, show e ≤ 999 by omega, if_true]
  | n + 1, b, e, s, hb, hs, he => by
    have hi1 := (S 0 0 0 0).i1
    have hri := (S 0 0 0 0).rr.i1
    obtain ⟨hn, hr⟩ := (S 0 0 0 0).rk
    have hn8 := (S 0 0 0 0).dk.2.1
    obtain ⟨h1, h2, h3, h4, h5, h6, h7⟩ := hr k hk
    have ho := oth_lt (S 0 0 0 0).rk hk (s := s)
    have ih := ride_loop hq hq1 S hk hG (k := k) (s0 := s0) (t0 := t0) (tk := tk) n (b + 1) (e + g (k * 5 + 2)) (oth g k s) (by omega) ho (by omega)
    rw [s26_47]
    simp only [s26_0, s26_1, s26_2, s26_5, s26_6, s26_7, s26_9, s26_12, s26_15, s26_16, s26_17, s26_18, s26_19, s26_20, s26_22, s26_24, s26_27, s26_30, s26_31, s26_32, s26_35, s26_38, s26_39, s26_41, s26_44, s26_45, s26_49, s26_50, s26_53, s26_54, s26_55, s26_58, s26_59, s26_62, s26_63, s26_64, s26_67, s26_68, s26_71, s26_72, s26_73, s26_74, s26_75, s26_78, s26_81, s26_84, s26_85, s26_86, s26_89, s26_90, s26_93, s26_96, s26_99, s26_100, s26_103, s26_106, s26_109, s26_110, s26_113, s26_114, s26_115, s26_118, s26_121, s26_122, s26_123, s26_126, s26_127, s26_130, s26_133, s26_136, s26_137, s26_140, s26_141, OpV_some, OpN_some, OpA_some, OpR_some, Option.toList_some, Option.toList_none, List.cons_append, List.nil_append, true_and, and_true, nI11, or_true, true_or, or_false, false_or, nI_ltN (show b < 2 ^ 31 by omega) (show G < 2 ^ 31 by omega), show b < G by omega, if_true, rd4_f1 hq, rd4_f2 hq, rd4_p1 hq, rd4_p2 hq, hq1, nI_add, (S _ _ _ _).f1, hi1, (S _ _ _ _).cl, hri, (S _ _ _ _).rr.cl, (S _ _ _ _).rope hk (show 2 < 5 by decide), st_other (S _ _ _ _) hk (show s < 2 ^ 31 by omega), st_isOpen (S _ _ _ _) ho (show e + g (k * 5 + 2) < 2 ^ 30 by omega), nI_ite, nI_ltN (show 999 < 2 ^ 31 by decide) (show e + g (k * 5 + 2) < 2 ^ 31 by omega), b01_0, b01_1, rdg]
    by_cases hop : opnB h (oth g k s) (e + g (k * 5 + 2)) = true
    · simp only [hop, not_true, if_true, if_false, Bool.false_eq_true]
      by_cases h9 : 999 < e + g (k * 5 + 2)
      · simp only [h9, if_true, show ¬ e + g (k * 5 + 2) ≤ 999 by omega, if_false]
      · simp only [h9, if_false, show e + g (k * 5 + 2) ≤ 999 by omega, if_true]
    · simp only [hop, not_false_eq_true, if_true, if_false, Bool.false_eq_true]
      exact ih
/-- find: whether there is such a ride; the object holds it -/
theorem ride_find {x0 x1 x2 x3 : Int32} (hq : w[q]? = some (.inr (2, [.int x0, .int x1, .int x2, .int x3]))) (hq1 : q < 1000) (S : StAt w i di dj ri rj nS nR fd fr h g) (n1 : q ≠ i) (n2 : q ≠ di) (n3 : q ≠ dj) (n4 : q ≠ ri) (n5 : q ≠ rj) {k G s t : Nat} (hk : k < 2 ^ 30) (hG : G ≤ 5) (hs : s < nS) (ht : t < 10000) :
    Cl X (d + 3) 26 [.ref q, .ref i, .int (nI k), .int (nI G), .int (nI s), .int (nI t)] w Q = if canB g nR k s = true then Q (some (.int (nI (if (rid h g k G s t).1 ≤ 999 then 1 else 0)))) (rd4 w q (nI (fat g k s t)) (nI (rid h g k G s t).1) (nI (rid h g k G s t).2.1) (nI (if (rid h g k G s t).2.2 then 1 else 0))) else Q (some (.int (nI 0))) (rd4 w q x0 x1 x2 (nI 0)) := by
  have SS : ∀ a b c e, StAt (rd4 w q a b c e) i di dj ri rj nS nR fd fr h g := fun a b c e => S.set n1 n2 n3 n4 n5 _
  have hn8 := S.dk.2.1
  have hi1 := S.i1
  have hri := S.rr.i1
  have hw : rd4 w q x0 x1 x2 x3 = w := rd4_self hq
  have hf3 : am_fld w q 2 3 = some (.int x3) := fld_at hq
  have hp3 : am_put w q 3 (.int (nI 0)) = rd4 w q x0 x1 x2 (nI 0) := by rw [put_at hq]; rfl
  rw [e26]
  simp only [s26_0, s26_1, s26_2, s26_5, s26_6, s26_7, s26_9, s26_12, s26_15, s26_16, s26_17, s26_18, s26_19, s26_20, s26_22, s26_24, s26_27, s26_30, s26_31, s26_32, s26_35, s26_38, s26_39, s26_41, s26_44, s26_45, s26_49, s26_50, s26_53, s26_54, s26_55, s26_58, s26_59, s26_62, s26_63, s26_64, s26_67, s26_68, s26_71, s26_72, s26_73, s26_74, s26_75, s26_78, s26_81, s26_84, s26_85, s26_86, s26_89, s26_90, s26_93, s26_96, s26_99, s26_100, s26_103, s26_106, s26_109, s26_110, s26_113, s26_114, s26_115, s26_118, s26_121, s26_122, s26_123, s26_126, s26_127, s26_130, s26_133, s26_136, s26_137, s26_140, s26_141, OpV_some, OpN_some, OpA_some, OpR_some, Option.toList_some, Option.toList_none, List.cons_append, List.nil_append, true_and, and_true, nI11, or_true, true_or, or_false, false_or, hf3, hp3, hq1, b01_0, hi1, (SS _ _ _ _).cl, st_canTake (SS _ _ _ _) hk hs, nI_ite]
  by_cases hc : canB g nR k s = true
  · have hkn : k < nR := by
      unfold canB at hc
      simp at hc
      exact hc.1
    obtain ⟨-, hr⟩ := S.rk
    obtain ⟨h1, h2, h3, h4, h5, h6, h7⟩ := hr k hkn
    have hf := fat_le g (k := k) (s := s) (t := t) h4
    simp only [hc, not_true, if_true, if_false, st_firstAt (SS _ _ _ _) hkn (show s < 2 ^ 31 by omega) (show t < 20000 by omega), rd4_f0 hq, rd4_f1 hq, rd4_f2 hq, rd4_p0 hq, rd4_p1 hq, rd4_p2 hq, hq1, OpV_some, OpN_some, OpA_some, OpR_some, Option.toList_some, Option.toList_none, List.cons_append, List.nil_append, true_and, and_true, nI11, or_true, true_or, or_false, false_or, s26_0, s26_1, s26_2, s26_5, s26_6, s26_7, s26_9, s26_12, s26_15, s26_16, s26_17, s26_18, s26_19, s26_20, s26_22, s26_24, s26_27, s26_30, s26_31, s26_32, s26_35, s26_38, s26_39, s26_41, s26_44, s26_45, s26_49, s26_50, s26_53, s26_54, s26_55, s26_58, s26_59, s26_62, s26_63, s26_64, s26_67, s26_68, s26_71, s26_72, s26_73, s26_74, s26_75, s26_78, s26_81, s26_84, s26_85, s26_86, s26_89, s26_90, s26_93, s26_96, s26_99, s26_100, s26_103, s26_106, s26_109, s26_110, s26_113, s26_114, s26_115, s26_118, s26_121, s26_122, s26_123, s26_126, s26_127, s26_130, s26_133, s26_136, s26_137, s26_140, s26_141]
    exact ride_loop hq hq1 SS hkn hG G 0 (fat g k s t) s (by omega) hs (by omega)
  · simp only [hc, not_false_eq_true, if_true, if_false, Bool.false_eq_true]
end RIDE
