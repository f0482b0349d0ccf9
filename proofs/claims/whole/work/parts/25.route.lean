/-! rides by told ropes. From here on what a method leaves behind is told by: what is where, and what is as it was -/
def agr (w u : am_W) (l : List Nat) : Prop := u.length = w.length ∧ ∀ p, p ∉ l → u[p]? = w[p]?
theorem agr.rf (w : am_W) (l : List Nat) : agr w w l := ⟨rfl, fun _ _ => rfl⟩
theorem agr.tr {w u v : am_W} {l : List Nat} (h : agr w u l) (h2 : agr u v l) : agr w v l := ⟨h2.1.trans h.1, fun p hp => (h2.2 p hp).trans (h.2 p hp)⟩
theorem agr.mo {w u : am_W} {l l2 : List Nat} (h : agr w u l) (hl : ∀ p, p ∈ l → p ∈ l2) : agr w u l2 := ⟨h.1, fun p hp => h.2 p (fun q => hp (hl p q))⟩
theorem agr.st {w u : am_W} {l : List Nat} (h : agr w u l) {p : Nat} (hp : p ∈ l) (c : va_E) : agr w (u.set p c) l := ⟨by rw [List.length_set]; exact h.1, fun q hq => (set_ne (fun (e : p = q) => hq (by rw [← e]; exact hp))).trans (h.2 q hq)⟩
def flw (h g : Nat → Nat) (nR G : Nat) (F : Nat → Nat) (sz : Nat) : Nat → Nat → Nat → Nat → Nat × Nat × Nat
  | 0, j, si, mi => (j, si, mi)
  | n + 1, j, si, mi =>
    if canB g nR (F (sz - 1 - j)) si = true ∧ (rid h g (F (sz - 1 - j)) G si mi).1 ≤ 999 ∧ (rid h g (F (sz - 1 - j)) G si mi).2.2 = false then
      flw h g nR G F sz n (j + 1) (rid h g (F (sz - 1 - j)) G si mi).2.1 (rid h g (F (sz - 1 - j)) G si mi).1
    else (j, si, mi)
def RdAt (u : am_W) (q : Nat) : Prop := ∃ a b c e : Int32, u[q]? = some (.inr (2, [.int a, .int b, .int c, .int e]))
def RtAt (u : am_W) (tz : Nat) (F : Nat → Nat) (sz mi si : Nat) : Prop :=
  u[49]? = some (.inr (3, [.ref 50, .ref 52, .int (nI sz), .int (nI mi), .int (nI si)])) ∧ RowsAt u 50 51 6 1 tz (nIf F) ∧ RdAt u 52
theorem rdg_sill {h g : Nat → Nat} {nR nS : Nat} (hg : RopeOK g nR nS) {k : Nat} (hk : k < nR) : ∀ (n e s : Nat), s < nS → (rdg h g k n e s).2.1 < nS
  | 0, _, _, hs => hs
  | n + 1, e, s, _ => by
    unfold rdg
    split
    · exact oth_lt hg hk
    · exact rdg_sill hg hk n _ _ (oth_lt hg hk)
section ROUTE
variable {X : am_X} {d : Nat} {Q : am_Q} {u w : am_W} {i di dj ri rj nS nR tz sz mi si : Nat} {fd fr : Nat → Int32} {h g F : Nat → Nat}
theorem RtAt.f0 (R : RtAt u tz F sz mi si) : am_fld u 49 3 0 = some (.ref 50) := fld_at R.1
theorem RtAt.f1 (R : RtAt u tz F sz mi si) : am_fld u 49 3 1 = some (.ref 52) := fld_at R.1
theorem RtAt.f2 (R : RtAt u tz F sz mi si) : am_fld u 49 3 2 = some (.int (nI sz)) := fld_at R.1
theorem RtAt.f3 (R : RtAt u tz F sz mi si) : am_fld u 49 3 3 = some (.int (nI mi)) := fld_at R.1
theorem RtAt.f4 (R : RtAt u tz F sz mi si) : am_fld u 49 3 4 = some (.int (nI si)) := fld_at R.1
theorem RtAt.cl (R : RtAt u tz F sz mi si) : am_cls u 49 = some 3 := cls_at R.1
theorem RtAt.rd (R : RtAt u tz F sz mi si) : am_cls u 52 = some 2 := by obtain ⟨a, b, c, e, h⟩ := R.2.2; exact cls_at h
theorem RtAt.p2 (R : RtAt u tz F sz mi si) (v : Nat) : am_put u 49 2 (.int (nI v)) = u.set 49 (.inr (3, [.ref 50, .ref 52, .int (nI v), .int (nI mi), .int (nI si)])) := put_at R.1
theorem RtAt.p3 (R : RtAt u tz F sz mi si) (v : Nat) : am_put u 49 3 (.int (nI v)) = u.set 49 (.inr (3, [.ref 50, .ref 52, .int (nI sz), .int (nI v), .int (nI si)])) := put_at R.1
theorem RtAt.p4 (R : RtAt u tz F sz mi si) (v : Nat) : am_put u 49 4 (.int (nI v)) = u.set 49 (.inr (3, [.ref 50, .ref 52, .int (nI sz), .int (nI mi), .int (nI v)])) := put_at R.1
theorem RtAt.s49 (R : RtAt u tz F sz mi si) (sz' mi' si' : Nat) : RtAt (u.set 49 (.inr (3, [.ref 50, .ref 52, .int (nI sz'), .int (nI mi'), .int (nI si')]))) tz F sz' mi' si' :=
  ⟨set_at R.1, R.2.1.oth (set_ne (by decide)) (set_ne (by decide)), by obtain ⟨a, b, c, e, h⟩ := R.2.2; exact ⟨a, b, c, e, (set_ne (by decide)).trans h⟩⟩
theorem RtAt.rd4 (R : RtAt u tz F sz mi si) (a b c e : Int32) : RtAt (rd4 u 52 a b c e) tz F sz mi si :=
  ⟨(set_ne (by decide)).trans R.1, R.2.1.oth (set_ne (by decide)) (set_ne (by decide)), by obtain ⟨a', b', c', e', h⟩ := R.2.2; exact ⟨a, b, c, e, set_at h⟩⟩
/-- the i-th told rope -/
theorem route_ropeOf (R : RtAt u sz F sz mi si) {j : Nat} (hj : j < sz) : Cl X (d + 2) 29 [.ref 49, .int (nI j)] u Q = Q (some (.int (nI (F (sz - 1 - j))))) u := by
  have h5 := R.2.1.2.2.2.2.1
  have hg : Cl X (d + 1) 34 [.ref 50, .int (nI (sz - 1 - j)), .int (nI 0)] u = fun Q => Q (some (.int (nI (F (sz - 1 - j))))) u := by
    funext Q
    rw [rows_get R.2.1 (show sz - 1 - j < sz by omega) (show 0 < 1 by decide), Nat.mul_one, Nat.add_zero]
    rfl
  rw [e29]
  simp only [s29_0, s29_1, s29_4, s29_5, s29_8, s29_9, s29_10, s29_11, s29_12, s29_13, s29_16, OpV_some, OpN_some, OpA_some, OpR_some, Option.toList_some, Option.toList_none, List.cons_append, List.nil_append, true_and, and_true, nI11, or_true, true_or, or_false, false_or, R.f0, R.f2, R.2.1.cl, nI_subN (show 1 ≤ sz by omega), nI_subN (show j ≤ sz - 1 by omega), hg, show (49 : Nat) < 1000 by decide, show (50 : Nat) < 1000 by decide]
theorem route_follow_loop {G a0 t0 : Nat} (hG : G ≤ 5) (hF : ∀ j, j < sz → F j < 8) (n9 : Aw 49 i di dj ri rj) (n2 : Aw 52 i di dj ri rj) : ∀ (n j si mi : Nat) (u : am_W), RtAt u sz F sz mi si → StAt u i di dj ri rj nS nR fd fr h g → j + n = sz → si < nS → mi < 1000 → agr w u [49, 52] →
    (∀ v, agr w v [49, 52] → RtAt v sz F sz (flw h g nR G F sz n j si mi).2.2 (flw h g nR G F sz n j si mi).2.1 → Q (some (.int (nI (flw h g nR G F sz n j si mi).1))) v) →
    Wp X (Cl X (d + 3)) 30 Q (14, [some (.ref 49), some (.ref i), some (.int (nI G)), some (.int (nI a0)), some (.int (nI t0)), some (.int (nI j))], [], u, 0, 0)
  | 0, j, si, mi, u, R, S, e, hs, hm, ag, hQ => by
    have h5 := R.2.1.2.2.2.2.1
    rw [s30_14]
    simp only [s30_0, s30_1, s30_2, s30_5, s30_6, s30_8, s30_11, s30_12, s30_16, s30_17, s30_20, s30_23, s30_24, s30_27, s30_28, s30_29, s30_31, s30_34, s30_35, s30_36, s30_39, s30_40, s30_43, s30_46, s30_49, s30_50, s30_53, s30_56, s30_59, s30_61, s30_62, s30_63, s30_64, s30_67, s30_70, s30_73, s30_74, s30_75, s30_78, s30_81, s30_84, s30_87, s30_90, s30_91, s30_94, OpV_some, OpN_some, OpA_some, OpR_some, Option.toList_some, Option.toList_none, List.cons_append, List.nil_append, true_and, and_true, nI11, or_true, true_or, or_false, false_or, R.f2, nI_ltN (show j < 2 ^ 31 by omega) (show sz < 2 ^ 31 by omega), show ¬ j < sz by omega, if_false, show (49 : Nat) < 1000 by decide]
    have := hQ u ag R
    rw [flw] at this
    rw [show sz = j by omega]
    exact this
  | n + 1, j, si, mi, u, R, S, e, hs, hm, ag, hQ => by
    have h5 := R.2.1.2.2.2.2.1
    have hi1 := S.i1
    obtain ⟨x0, x1, x2, x3, hq⟩ := R.2.2
    have hk := hF (sz - 1 - j) (by omega)
    have hR : ∀ a b c e, RtAt (rd4 u 52 a b c e) sz F sz mi si := fun a b c e => R.rd4 a b c e
    have agd : ∀ a b c e, agr w (rd4 u 52 a b c e) [49, 52] := fun a b c e => ag.st (by decide) _
    rw [s30_14]
    simp only [s30_0, s30_1, s30_2, s30_5, s30_6, s30_8, s30_11, s30_12, s30_16, s30_17, s30_20, s30_23, s30_24, s30_27, s30_28, s30_29, s30_31, s30_34, s30_35, s30_36, s30_39, s30_40, s30_43, s30_46, s30_49, s30_50, s30_53, s30_56, s30_59, s30_61, s30_62, s30_63, s30_64, s30_67, s30_70, s30_73, s30_74, s30_75, s30_78, s30_81, s30_84, s30_87, s30_90, s30_91, s30_94, OpV_some, OpN_some, OpA_some, OpR_some, Option.toList_some, Option.toList_none, List.cons_append, List.nil_append, true_and, and_true, nI11, or_true, true_or, or_false, false_or, R.f1, R.f2, R.f3, R.f4, R.cl, R.rd, hi1, nI_ltN (show j < 2 ^ 31 by omega) (show sz < 2 ^ 31 by omega), show j < sz by omega, if_true, show (49 : Nat) < 1000 by decide, show (52 : Nat) < 1000 by decide, route_ropeOf R (show j < sz by omega), ride_find hq (by decide) S n2.1 n2.2.1 n2.2.2.1 n2.2.2.2.1 n2.2.2.2.2 (show F (sz - 1 - j) < 2 ^ 30 by omega) hG hs (show mi < 10000 by omega)]
    rw [flw] at hQ
    by_cases hc : canB g nR (F (sz - 1 - j)) si = true
    · simp only [hc, if_true, nI_ite, (hR _ _ _ _).f1, show (49 : Nat) < 1000 by decide, show (52 : Nat) < 1000 by decide, OpV_some, OpN_some, OpA_some, OpR_some, Option.toList_some, Option.toList_none, List.cons_append, List.nil_append, true_and, and_true, nI11, or_true, true_or, or_false, false_or, rd4_f3 hq, true_and] at hQ ⊢
      by_cases h9 : (rid h g (F (sz - 1 - j)) G si mi).1 ≤ 999
      · by_cases hf : (rid h g (F (sz - 1 - j)) G si mi).2.2 = true
        · simp only [h9, hf, not_true, if_false, if_true, nI1z, true_and, Bool.true_eq_false, reduceCtorEq, s30_0, s30_1, s30_2, s30_5, s30_6, s30_8, s30_11, s30_12, s30_16, s30_17, s30_20, s30_23, s30_24, s30_27, s30_28, s30_29, s30_31, s30_34, s30_35, s30_36, s30_39, s30_40, s30_43, s30_46, s30_49, s30_50, s30_53, s30_56, s30_59, s30_61, s30_62, s30_63, s30_64, s30_67, s30_70, s30_73, s30_74, s30_75, s30_78, s30_81, s30_84, s30_87, s30_90, s30_91, s30_94, rd4_f3 hq, OpV_some, show (52 : Nat) < 1000 by decide] at hQ ⊢
          exact hQ _ (agd _ _ _ _) (hR _ _ _ _)
        · have hf' : (rid h g (F (sz - 1 - j)) G si mi).2.2 = false := by simpa using hf
          have hsill : (rid h g (F (sz - 1 - j)) G si mi).2.1 < nS := rdg_sill S.rk (by unfold canB at hc; simp at hc; exact hc.1) _ _ _ hs
          have R1 := hR (nI (fat g (F (sz - 1 - j)) si mi)) (nI (rid h g (F (sz - 1 - j)) G si mi).1) (nI (rid h g (F (sz - 1 - j)) G si mi).2.1) (nI 0)
          have R2 := R1.s49 sz mi (rid h g (F (sz - 1 - j)) G si mi).2.1
          have R3 := R2.s49 sz (rid h g (F (sz - 1 - j)) G si mi).1 (rid h g (F (sz - 1 - j)) G si mi).2.1
          have q1 : ∀ c, am_fld ((rd4 u 52 (nI (fat g (F (sz - 1 - j)) si mi)) (nI (rid h g (F (sz - 1 - j)) G si mi).1) (nI (rid h g (F (sz - 1 - j)) G si mi).2.1) (nI 0)).set 49 c) 52 2 1 = some (.int (nI (rid h g (F (sz - 1 - j)) G si mi).1)) := fun c => fld_at ((set_ne (by decide)).trans (rd4_at hq))
          simp only [h9, hf', not_true, not_false_eq_true, if_false, if_true, and_self, Bool.false_eq_true, s30_0, s30_1, s30_2, s30_5, s30_6, s30_8, s30_11, s30_12, s30_16, s30_17, s30_20, s30_23, s30_24, s30_27, s30_28, s30_29, s30_31, s30_34, s30_35, s30_36, s30_39, s30_40, s30_43, s30_46, s30_49, s30_50, s30_53, s30_56, s30_59, s30_61, s30_62, s30_63, s30_64, s30_67, s30_70, s30_73, s30_74, s30_75, s30_78, s30_81, s30_84, s30_87, s30_90, s30_91, s30_94, rd4_f2 hq, rd4_f3 hq, R1.f1, R1.f4, R1.p4, R2.f1, R2.f3, R2.p3, q1, nI0z, nI_add, OpV_some, OpN_some, OpA_some, OpR_some, Option.toList_some, Option.toList_none, List.cons_append, List.nil_append, true_and, and_true, nI11, or_true, true_or, or_false, false_or, show (49 : Nat) < 1000 by decide, show (52 : Nat) < 1000 by decide] at hQ ⊢
          refine route_follow_loop hG hF n9 n2 n (j + 1) _ _ _ R3 (((S.set n2.1 n2.2.1 n2.2.2.1 n2.2.2.2.1 n2.2.2.2.2 _).set n9.1 n9.2.1 n9.2.2.1 n9.2.2.2.1 n9.2.2.2.2 _).set n9.1 n9.2.1 n9.2.2.1 n9.2.2.2.1 n9.2.2.2.2 _) (by omega) hsill (by omega) (((agd _ _ _ _).st (by decide) _).st (by decide) _) hQ
      · simp only [h9, not_false_eq_true, if_true, if_false, false_and] at hQ ⊢
        exact hQ _ (agd _ _ _ _) (hR _ _ _ _)
    · simp only [hc, if_false, nI0z, if_true, false_and, Bool.false_eq_true] at hQ ⊢
      exact hQ _ (agd _ _ _ _) (hR _ _ _ _)
theorem route_follow {G a t : Nat} (hG : G ≤ 5) (hF : ∀ j, j < sz → F j < 8) (n9 : Aw 49 i di dj ri rj) (n2 : Aw 52 i di dj ri rj) (R : RtAt u sz F sz mi si) (S : StAt u i di dj ri rj nS nR fd fr h g) (ha : a < nS) (ht : t < 1000)
    (hQ : ∀ v, agr u v [49, 52] → RtAt v sz F sz (flw h g nR G F sz sz 0 a t).2.2 (flw h g nR G F sz sz 0 a t).2.1 → Q (some (.int (nI (flw h g nR G F sz sz 0 a t).1))) v) : Cl X (d + 4) 30 [.ref 49, .ref i, .int (nI G), .int (nI a), .int (nI t)] u Q := by
  have R1 := R.s49 sz mi a
  have R2 := R1.s49 sz t a
  rw [e30]
  simp only [s30_0, s30_1, s30_2, s30_5, s30_6, s30_8, s30_11, s30_12, s30_16, s30_17, s30_20, s30_23, s30_24, s30_27, s30_28, s30_29, s30_31, s30_34, s30_35, s30_36, s30_39, s30_40, s30_43, s30_46, s30_49, s30_50, s30_53, s30_56, s30_59, s30_61, s30_62, s30_63, s30_64, s30_67, s30_70, s30_73, s30_74, s30_75, s30_78, s30_81, s30_84, s30_87, s30_90, s30_91, s30_94, OpV_some, OpN_some, OpA_some, OpR_some, Option.toList_some, Option.toList_none, List.cons_append, List.nil_append, true_and, and_true, nI11, or_true, true_or, or_false, false_or, R.f4, R.p4, R1.f3, R1.p3, show (49 : Nat) < 1000 by decide]
  exact route_follow_loop hG hF n9 n2 sz 0 a t _ R2 ((S.set n9.1 n9.2.1 n9.2.2.1 n9.2.2.2.1 n9.2.2.2.2 _).set n9.1 n9.2.1 n9.2.2.1 n9.2.2.2.1 n9.2.2.2.2 _) (by omega) ha ht (((agr.rf u [49, 52]).st (by decide) _).st (by decide) _) hQ
/-- the figures of a number, the lowest first: whether they are such; how many; which; what the object says of their number -/
def rrd : Nat → Nat → (Nat → Nat) → Nat → Bool × Nat × (Nat → Nat) × Nat
  | 0, tz, F, v => (decide (v = 0), tz, F, tz)
  | n + 1, tz, F, v => if v = 0 then (true, tz, F, tz) else if v % 10 < 1 ∨ 8 < v % 10 then (false, tz, F, 0) else rrd n (tz + 1) (upN F tz (v % 10 - 1)) (v / 10)
theorem nI_div {a b : Nat} (ha : a < 2 ^ 31) (h0 : 0 < b) (hb : b < 2 ^ 31) : nI a / nI b = nI (a / b) := pk_div ha h0 hb
theorem route_read_loop {x : Int32} {mo : Nat} (hmo : mo ≤ 6) : ∀ (n tz v : Nat) (F : Nat → Nat) (l4 : Option Value) (u : am_W), RtAt u tz F 0 mi si → tz + n = mo → v < 2 ^ 31 → agr w u [49, 50, 51] →
    (∀ z, agr w z [49, 50, 51] → RtAt z (rrd n tz F v).2.1 (rrd n tz F v).2.2.1 (rrd n tz F v).2.2.2 mi si → Q (some (.int (nI (if (rrd n tz F v).1 then 1 else 0)))) z) →
    Wp X (Cl X (d + 1)) 28 Q (14, [some (.ref 49), some (.int x), some (.int (nI mo)), some (.int (nI v)), l4], [], u, 0, 0)
  | 0, tz, v, F, l4, u, R, e, hv, ag, hQ => by
    have R1 := R.s49 tz mi si
    have h5 := R.2.1.2.2.2.2.1
    have hQ1 := hQ _ (ag.st (by decide) _) R1
    rw [s28_14]
    simp only [s28_0, s28_1, s28_4, s28_7, s28_8, s28_9, s28_12, s28_13, s28_15, s28_18, s28_19, s28_22, s28_25, s28_26, s28_29, s28_30, s28_32, s28_33, s28_35, s28_37, s28_38, s28_41, s28_43, s28_45, s28_48, s28_49, s28_52, s28_55, s28_58, s28_59, s28_60, s28_61, s28_64, s28_65, s28_68, s28_71, s28_72, s28_73, s28_74, s28_76, s28_77, s28_78, s28_81, s28_82, s28_84, s28_85, s28_86, s28_89, s28_90, s28_91, s28_94, s28_97, s28_100, s28_101, s28_104, s28_105, s28_108, s28_109, OpV_some, OpN_some, OpA_some, OpR_some, Option.toList_some, Option.toList_none, List.cons_append, List.nil_append, true_and, and_true, nI11, or_true, true_or, or_false, false_or, R.f0, R.f2, R.2.1.f3, R.p2, nI_gt0 hv, nI_ltN (show tz < 2 ^ 31 by omega) (show mo < 2 ^ 31 by omega), show ¬ tz < mo by omega, if_false, nI_eq0 hv, b01_0, b01_1, show (49 : Nat) < 1000 by decide, show (50 : Nat) < 1000 by decide, ite_self]
    by_cases h0 : v = 0
    · simp only [rrd, h0, decide_true, if_true] at hQ1 ⊢
      exact hQ1
    · simp only [rrd, h0, decide_false, if_false, Bool.false_eq_true] at hQ1 ⊢
      exact hQ1
  | n + 1, tz, v, F, l4, u, R, e, hv, ag, hQ => by
    have h5 := R.2.1.2.2.2.2.1
    by_cases h0 : v = 0
    · subst h0
      have R1 := R.s49 tz mi si
      have hQ1 := hQ _ (ag.st (p := 49) (by decide) (.inr (3, [.ref 50, .ref 52, .int (nI tz), .int (nI mi), .int (nI si)]))) (by simp only [rrd, if_true]; exact R1)
      rw [s28_14]
      simp only [s28_0, s28_1, s28_4, s28_7, s28_8, s28_9, s28_12, s28_13, s28_15, s28_18, s28_19, s28_22, s28_25, s28_26, s28_29, s28_30, s28_32, s28_33, s28_35, s28_37, s28_38, s28_41, s28_43, s28_45, s28_48, s28_49, s28_52, s28_55, s28_58, s28_59, s28_60, s28_61, s28_64, s28_65, s28_68, s28_71, s28_72, s28_73, s28_74, s28_76, s28_77, s28_78, s28_81, s28_82, s28_84, s28_85, s28_86, s28_89, s28_90, s28_91, s28_94, s28_97, s28_100, s28_101, s28_104, s28_105, s28_108, s28_109, OpV_some, OpN_some, OpA_some, OpR_some, Option.toList_some, Option.toList_none, List.cons_append, List.nil_append, true_and, and_true, nI11, or_true, true_or, or_false, false_or, R.f0, R.f2, R.2.1.f3, R.p2, nI_gt0 (show 0 < 2 ^ 31 by decide), Nat.lt_irrefl, if_false, nI0z, if_true, b01_0, b01_1, show (49 : Nat) < 1000 by decide, show (50 : Nat) < 1000 by decide]
      simp only [rrd, if_true] at hQ1
      exact hQ1
    · have hm10 : v % 10 < 10 := Nat.mod_lt _ (by decide)
      rw [s28_14]
      simp only [s28_0, s28_1, s28_4, s28_7, s28_8, s28_9, s28_12, s28_13, s28_15, s28_18, s28_19, s28_22, s28_25, s28_26, s28_29, s28_30, s28_32, s28_33, s28_35, s28_37, s28_38, s28_41, s28_43, s28_45, s28_48, s28_49, s28_52, s28_55, s28_58, s28_59, s28_60, s28_61, s28_64, s28_65, s28_68, s28_71, s28_72, s28_73, s28_74, s28_76, s28_77, s28_78, s28_81, s28_82, s28_84, s28_85, s28_86, s28_89, s28_90, s28_91, s28_94, s28_97, s28_100, s28_101, s28_104, s28_105, s28_108, s28_109, OpV_some, OpN_some, OpA_some, OpR_some, Option.toList_some, Option.toList_none, List.cons_append, List.nil_append, true_and, and_true, nI11, or_true, true_or, or_false, false_or, R.f0, R.f2, R.2.1.f3, R.2.1.cl, nI_gt0 hv, show 0 < v by omega, nI_ltN (show tz < 2 ^ 31 by omega) (show mo < 2 ^ 31 by omega), show tz < mo by omega, if_true, nI_mod hv (show 0 < 10 by decide) (show 10 < 2 ^ 31 by decide), nI_div hv (show 0 < 10 by decide) (show 10 < 2 ^ 31 by decide), nI_eq0 (show 10 < 2 ^ 31 by decide), show ¬ (10 : Nat) = 0 by decide, not_false_eq_true, nI_ltN (show v % 10 < 2 ^ 31 by omega) (show 1 < 2 ^ 31 by decide), nI_ltN (show 8 < 2 ^ 31 by decide) (show v % 10 < 2 ^ 31 by omega), rows_add R.2.1, show tz < 6 by omega, nI1z, if_false, b01_0, show (49 : Nat) < 1000 by decide, show (50 : Nat) < 1000 by decide]
      by_cases h1 : v % 10 < 1
      · have hQ1 := hQ _ ag (by simp only [rrd, h0, h1, true_or, if_true, if_false]; exact R)
        simp only [h1, if_true]
        simp only [rrd, h0, h1, true_or, if_true, if_false, Bool.false_eq_true] at hQ1
        exact hQ1
      · by_cases h8 : 8 < v % 10
        · have hQ1 := hQ _ ag (by simp only [rrd, h0, h8, or_true, if_true, if_false]; exact R)
          simp only [h1, h8, if_true, if_false]
          simp only [rrd, h0, h8, or_true, if_true, if_false, Bool.false_eq_true] at hQ1
          exact hQ1
        · have hA := R.2.1.onS (s := tz + 1) (by omega)
          have e49 : (rsz u 50 51 6 1 (tz + 1))[49]? = u[49]? := set_ne (by decide)
          have hf0 : am_fld (rsz u 50 51 6 1 (tz + 1)) 49 3 0 = some (.ref 50) := fld_at (e49.trans R.1)
          have hset : ∀ x : Nat, Cl X (d + 1) 35 [.ref 50, .int (nI tz), .int (nI 0), .int (nI x)] (rsz u 50 51 6 1 (tz + 1)) = fun Q => Q none (rar (rsz u 50 51 6 1 (tz + 1)) 51 6 (nIf (upN F tz x))) := by
            intro x
            funext Q
            rw [rows_set hA (show tz < tz + 1 by omega) (show 0 < 1 by decide), upd_nIf]
            simp only [Nat.mul_one, Nat.add_zero]
          simp only [h1, h8, if_true, if_false, hf0, hA.f3, hA.cl, OpV_some, OpN_some, OpA_some, OpR_some, Option.toList_some, Option.toList_none, List.cons_append, List.nil_append, true_and, and_true, nI11, or_true, true_or, or_false, false_or, nI_subN (show 1 ≤ tz + 1 by omega), Nat.add_sub_cancel, nI_subN (show 1 ≤ v % 10 by omega), hset, show (49 : Nat) < 1000 by decide, show (50 : Nat) < 1000 by decide, s28_0, s28_1, s28_4, s28_7, s28_8, s28_9, s28_12, s28_13, s28_15, s28_18, s28_19, s28_22, s28_25, s28_26, s28_29, s28_30, s28_32, s28_33, s28_35, s28_37, s28_38, s28_41, s28_43, s28_45, s28_48, s28_49, s28_52, s28_55, s28_58, s28_59, s28_60, s28_61, s28_64, s28_65, s28_68, s28_71, s28_72, s28_73, s28_74, s28_76, s28_77, s28_78, s28_81, s28_82, s28_84, s28_85, s28_86, s28_89, s28_90, s28_91, s28_94, s28_97, s28_100, s28_101, s28_104, s28_105, s28_108, s28_109, nI_div hv (show 0 < 10 by decide) (show 10 < 2 ^ 31 by decide), nI_eq0 (show 10 < 2 ^ 31 by decide), show ¬ (10 : Nat) = 0 by decide, not_false_eq_true]
          refine route_read_loop hmo n (tz + 1) (v / 10) (upN F tz (v % 10 - 1)) _ _ ⟨((set_ne (by decide)).trans e49).trans R.1, hA.onA _, ?_⟩ (by omega) (by omega) ((ag.st (by decide) _).st (by decide) _) ?_
          · obtain ⟨a, b, c, e, hh⟩ := R.2.2
            exact ⟨a, b, c, e, ((set_ne (by decide)).trans (set_ne (by decide))).trans hh⟩
          · simp only [rrd, h0, h1, h8, or_self, if_false] at hQ
            exact hQ
theorem route_read {x : Int32} {mo : Nat} (hmo : mo ≤ 6) (R : RtAt u tz F sz mi si)
    (hneg : x < 0 → ∀ z, agr u z [49, 50, 51] → RtAt z 0 F 0 mi si → Q (some (.int (nI 0))) z)
    (hpos : ∀ v, x = nI v → v < 2 ^ 31 → ∀ z, agr u z [49, 50, 51] → RtAt z (rrd mo 0 F v).2.1 (rrd mo 0 F v).2.2.1 (rrd mo 0 F v).2.2.2 mi si → Q (some (.int (nI (if (rrd mo 0 F v).1 then 1 else 0)))) z) : Cl X (d + 2) 28 [.ref 49, .int x, .int (nI mo)] u Q := by
  have hA := R.2.1.onS (s := 0) (by omega)
  have R0 : RtAt (rsz u 50 51 6 1 0) 0 F sz mi si := ⟨(set_ne (by decide)).trans R.1, hA, by obtain ⟨a, b, c, e, hh⟩ := R.2.2; exact ⟨a, b, c, e, (set_ne (by decide)).trans hh⟩⟩
  have R1 := R0.s49 0 mi si
  rw [e28]
  simp only [s28_0, s28_1, s28_4, s28_7, s28_8, s28_9, s28_12, s28_13, s28_15, s28_18, s28_19, s28_22, s28_25, s28_26, s28_29, s28_30, s28_32, s28_33, s28_35, s28_37, s28_38, s28_41, s28_43, s28_45, s28_48, s28_49, s28_52, s28_55, s28_58, s28_59, s28_60, s28_61, s28_64, s28_65, s28_68, s28_71, s28_72, s28_73, s28_74, s28_76, s28_77, s28_78, s28_81, s28_82, s28_84, s28_85, s28_86, s28_89, s28_90, s28_91, s28_94, s28_97, s28_100, s28_101, s28_104, s28_105, s28_108, s28_109, OpV_some, OpN_some, OpA_some, OpR_some, Option.toList_some, Option.toList_none, List.cons_append, List.nil_append, true_and, and_true, nI11, or_true, true_or, or_false, false_or, R.f0, R.2.1.cl, rows_empty R.2.1, R0.f2, R0.p2, show (49 : Nat) < 1000 by decide, show (50 : Nat) < 1000 by decide]
  by_cases hx : x < 0
  · have R2 := R1.s49 0 mi si
    have h3 : ¬ (0 : Int32) < x := fun q => by rw [Int32.lt_iff_toInt_lt] at q hx; exact absurd q (by omega)
    have h4 : ¬ x = 0 := fun q => by rw [q] at hx; exact absurd hx (by decide)
    rw [s28_14]
    simp only [s28_0, s28_1, s28_4, s28_7, s28_8, s28_9, s28_12, s28_13, s28_15, s28_18, s28_19, s28_22, s28_25, s28_26, s28_29, s28_30, s28_32, s28_33, s28_35, s28_37, s28_38, s28_41, s28_43, s28_45, s28_48, s28_49, s28_52, s28_55, s28_58, s28_59, s28_60, s28_61, s28_64, s28_65, s28_68, s28_71, s28_72, s28_73, s28_74, s28_76, s28_77, s28_78, s28_81, s28_82, s28_84, s28_85, s28_86, s28_89, s28_90, s28_91, s28_94, s28_97, s28_100, s28_101, s28_104, s28_105, s28_108, s28_109, OpV_some, OpN_some, OpA_some, OpR_some, Option.toList_some, Option.toList_none, List.cons_append, List.nil_append, true_and, and_true, nI11, or_true, true_or, or_false, false_or, h3, if_false, R1.f0, R1.2.1.f3, R1.f2, R1.p2, h4, b01_0, show (49 : Nat) < 1000 by decide, show (50 : Nat) < 1000 by decide]
    exact hneg hx _ ((((agr.rf u [49, 50, 51]).st (by decide) _).st (by decide) _).st (by decide) _) R2
  · obtain ⟨v, hv, rfl⟩ := nI_of hx
    exact route_read_loop hmo mo 0 v F _ _ R1 (by omega) hv (((agr.rf u [49, 50, 51]).st (by decide) _).st (by decide) _) (hpos v rfl hv)
end ROUTE
