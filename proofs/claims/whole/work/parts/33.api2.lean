/-! stop, push, waits, undo -/
section API2
variable {X : am_X} {d : Nat} {Q : am_Q} {w : am_W} {s : CSt}
def st_deed (n : NSt) (so r : Nat) (O : Nat → Nat) : NSt := (n.1, n.2.1, (adN 10 n.2.2.1.1, dnew n.2.2.1.2 n.2.2.1.1 so r O), n.2.2.2)
theorem NAt.deed {n : NSt} (h : NAt w 4 n) {v : am_W} (ag : agr w v [9, 10]) {nD : Nat} {D : Nat → Nat} (hd : RowsAt v 9 10 10 7 nD (nIf D)) : NAt v 4 (n.1, n.2.1, (nD, D), n.2.2.2) :=
  ⟨(ag.2 4 (by decide)).trans h.1, by decide, h.r.ag ag (by decide) (by decide), h.pp.ag ag (by decide) (by decide), hd, h.m.ag ag (by decide) (by decide)⟩
theorem c_deedR (C : CityAt w s) {so r : Nat} (hr : r < s.2.2.1.1.1) (hQ : ∀ v, agr w v [9, 10] → CityAt v (st_now s (st_deed s.2.2.1 so r s.2.2.1.1.2)) → Q none v) : Cl X (d + 3) 3 [.ref 4, .int (nI so), .int (nI r), .ref 5] w Q :=
  now_deed C.nw C.rp hr (by decide) (by decide) (by decide) (by decide) fun v ag hd => hQ v ag (C.onNow ag (by decide) (NAt.deed C.2.2.2.1 ag hd))
theorem c_deedP (C : CityAt w s) {so r : Nat} (hr : r < s.2.2.1.2.1.1) (hQ : ∀ v, agr w v [9, 10] → CityAt v (st_now s (st_deed s.2.2.1 so r s.2.2.1.2.1.2)) → Q none v) : Cl X (d + 3) 3 [.ref 4, .int (nI so), .int (nI r), .ref 7] w Q :=
  now_deed C.nw C.rd hr (by decide) (by decide) (by decide) (by decide) fun v ag hd => hQ v ag (C.onNow ag (by decide) (NAt.deed C.2.2.2.1 ag hd))
def st_ropes (n : NSt) (g : Nat → Nat) : NSt := ((n.1.1, g), n.2)
def st_riders (n : NSt) (p : Nat → Nat) : NSt := (n.1, (n.2.1.1, p), n.2.2)
theorem CityAt.onRopes (C : CityAt w s) (g : Nat → Nat) : CityAt (rar w 6 40 (nIf g)) (st_now s (st_ropes s.2.2.1 g)) := by
  have ag : agr w (rar w 6 40 (nIf g)) [6] := (agr.rf w _).st (by decide) _
  have N := C.2.2.2.1
  exact C.onNow ag (by decide) ⟨(ag.2 4 (by decide)).trans N.1, by decide, N.r.onA _, N.pp.ag ag (by decide) (by decide), N.dd.ag ag (by decide) (by decide), N.m.ag ag (by decide) (by decide)⟩
theorem CityAt.onRiders (C : CityAt w s) (p : Nat → Nat) : CityAt (rar w 8 20 (nIf p)) (st_now s (st_riders s.2.2.1 p)) := by
  have ag : agr w (rar w 8 20 (nIf p)) [8] := (agr.rf w _).st (by decide) _
  have N := C.2.2.2.1
  exact C.onNow ag (by decide) ⟨(ag.2 4 (by decide)).trans N.1, by decide, N.r.ag ag (by decide) (by decide), N.pp.onA _, N.dd.ag ag (by decide) (by decide), N.m.ag ag (by decide) (by decide)⟩
theorem c_rget (C : CityAt w s) {k c : Nat} (hk : k < s.2.2.1.1.1) (hc : c < 5) : Cl X (d + 1) 34 [.ref 5, .int (nI k), .int (nI c)] w Q = Q (some (.int (nI (s.2.2.1.1.2 (k * 5 + c))))) w := rows_getN C.rp hk hc
theorem c_pget (C : CityAt w s) {k c : Nat} (hk : k < s.2.2.1.2.1.1) (hc : c < 5) : Cl X (d + 1) 34 [.ref 7, .int (nI k), .int (nI c)] w Q = Q (some (.int (nI (s.2.2.1.2.1.2 (k * 5 + c))))) w := rows_getN C.rd hk hc
theorem c_pget0 (C : CityAt w s) {k : Nat} (hk : k < s.2.2.1.2.1.1) : Cl X (d + 1) 34 [.ref 7, .int (nI k), .int (nI 0)] w Q = Q (some (.int (nI (s.2.2.1.2.1.2 (k * 5))))) w := rows_getN C.rd hk (by decide)
theorem c_rset (C : CityAt w s) {k c v : Nat} (hk : k < s.2.2.1.1.1) (hc : c < 5) : Cl X (d + 1) 35 [.ref 5, .int (nI k), .int (nI c), .int (nI v)] w Q = Q none (rar w 6 40 (nIf (upN s.2.2.1.1.2 (k * 5 + c) v))) := rows_setN C.rp hk hc
theorem c_pset (C : CityAt w s) {k c v : Nat} (hk : k < s.2.2.1.2.1.1) (hc : c < 5) : Cl X (d + 1) 35 [.ref 7, .int (nI k), .int (nI c), .int (nI v)] w Q = Q none (rar w 8 20 (nIf (upN s.2.2.1.2.1.2 (k * 5 + c) v))) := rows_setN C.rd hk hc
def sp_stop (s : CSt) (x : Int32) : Int32 × CSt :=
  if 0 ≤ x ∧ x < nI s.2.2.1.1.1 then (if s.2.2.1.1.2 (cl x * 5 + 4) = 1 then (-2, s) else (nI 1, st_now s (st_ropes (st_deed s.2.2.1 2 (cl x) s.2.2.1.1.2) (upN s.2.2.1.1.2 (cl x * 5 + 4) 1)))) else (-1, s)
theorem c_stop (C : CityAt w s) (V : Valid s) (x : Int32) (hQ : ∀ u, CityAt u (sp_stop s x).2 → agr w u (List.range 57) → Q (some (.int (sp_stop s x).1)) u) : Cl X (d + 4) 62 [.ref 0, .int x] w Q := by
  have h8 := C.rp.2.2.2.2.1
  rw [e62]
  unfold sp_stop at hQ
  simp only [s62_0, s62_1, s62_4, s62_7, s62_8, s62_11, s62_14, s62_15, s62_16, s62_17, s62_20, s62_23, s62_24, s62_25, s62_28, s62_29, s62_32, s62_34, s62_35, s62_36, s62_39, s62_40, s62_41, s62_42, s62_45, s62_48, s62_51, s62_52, s62_55, s62_58, s62_59, s62_60, s62_61, s62_64, s62_65, OpV_some, OpN_some, OpA_some, OpR_some, Option.toList_some, Option.toList_none, List.cons_append, List.nil_append, true_and, and_true, nI11, or_true, true_or, or_false, false_or, C.f3, C.n0, C.rp.cl, C.nw.cl, rows_has C.rp, nI_ite, show (0 : Nat) < 1000 by decide, show (4 : Nat) < 1000 by decide, show (5 : Nat) < 1000 by decide]
  rcases ix x (n := s.2.2.1.1.1) (by omega) with ⟨j, hj, rfl⟩ | hx
  · have hx := ix_in hj (by omega)
    have h7 := ((V.2.2.2.1.1).2 j hj).2.2.2.2.2.2
    simp only [hx, and_self, if_true, cl_of (show j < 2 ^ 31 by omega)] at hQ
    simp only [hx, and_self, not_true, if_false, OpV_some, OpN_some, OpA_some, OpR_some, Option.toList_some, Option.toList_none, List.cons_append, List.nil_append, true_and, and_true, nI11, or_true, true_or, or_false, false_or, s62_0, s62_1, s62_4, s62_7, s62_8, s62_11, s62_14, s62_15, s62_16, s62_17, s62_20, s62_23, s62_24, s62_25, s62_28, s62_29, s62_32, s62_34, s62_35, s62_36, s62_39, s62_40, s62_41, s62_42, s62_45, s62_48, s62_51, s62_52, s62_55, s62_58, s62_59, s62_60, s62_61, s62_64, s62_65, c_rget C hj (show 4 < 5 by decide), C.f3, C.n0, C.nw.cl, show (0 : Nat) < 1000 by decide, show (4 : Nat) < 1000 by decide, nI_eqN (show s.2.2.1.1.2 (j * 5 + 4) < 2 ^ 31 by omega) (show 1 < 2 ^ 31 by decide)]
    by_cases h1 : s.2.2.1.1.2 (j * 5 + 4) = 1
    · simp only [h1, if_true] at hQ ⊢
      exact hQ w C (agr.rf w _)
    · simp only [h1, if_false] at hQ ⊢
      refine c_deedR C hj fun v ag Cv => ?_
      simp only [s62_0, s62_1, s62_4, s62_7, s62_8, s62_11, s62_14, s62_15, s62_16, s62_17, s62_20, s62_23, s62_24, s62_25, s62_28, s62_29, s62_32, s62_34, s62_35, s62_36, s62_39, s62_40, s62_41, s62_42, s62_45, s62_48, s62_51, s62_52, s62_55, s62_58, s62_59, s62_60, s62_61, s62_64, s62_65, OpV_some, OpN_some, OpA_some, OpR_some, Option.toList_some, Option.toList_none, List.cons_append, List.nil_append, true_and, and_true, nI11, or_true, true_or, or_false, false_or, Cv.f3, Cv.n0, Cv.rp.cl, c_rset Cv hj (show 4 < 5 by decide), show (0 : Nat) < 1000 by decide, show (4 : Nat) < 1000 by decide, show (5 : Nat) < 1000 by decide]
      exact hQ _ (Cv.onRopes _) ((ag.mo (by decide)).st (by decide) _)
  · simp only [hx, if_false] at hQ
    simp only [hx, not_false_eq_true, if_true]
    exact hQ w C (agr.rf w _)
def sp_push (s : CSt) (x t : Int32) : Int32 × CSt :=
  if (0 ≤ x ∧ x < nI s.2.2.1.1.1) ∧ (0 ≤ t ∧ t < nI 1000) then (nI (s.2.2.1.1.2 (cl x * 5 + 3)), st_now s (st_ropes (st_deed s.2.2.1 2 (cl x) s.2.2.1.1.2) (upN (upN s.2.2.1.1.2 (cl x * 5 + 3) (cl t)) (cl x * 5 + 4) 0))) else (-1, s)
theorem c_push (C : CityAt w s) (x t : Int32) (hQ : ∀ u, CityAt u (sp_push s x t).2 → agr w u (List.range 57) → Q (some (.int (sp_push s x t).1)) u) : Cl X (d + 4) 63 [.ref 0, .int x, .int t] w Q := by
  have h8 := C.rp.2.2.2.2.1
  rw [e63]
  unfold sp_push at hQ
  simp only [s63_0, s63_1, s63_4, s63_7, s63_8, s63_11, s63_14, s63_15, s63_18, s63_21, s63_22, s63_23, s63_24, s63_27, s63_30, s63_31, s63_32, s63_35, s63_36, s63_37, s63_40, s63_41, s63_42, s63_43, s63_46, s63_49, s63_52, s63_53, s63_56, s63_59, s63_60, s63_61, s63_62, s63_65, s63_66, s63_69, s63_72, s63_73, s63_74, s63_75, s63_78, s63_79, OpV_some, OpN_some, OpA_some, OpR_some, Option.toList_some, Option.toList_none, List.cons_append, List.nil_append, true_and, and_true, nI11, or_true, true_or, or_false, false_or, C.f3, C.n0, C.rp.cl, C.nw.cl, rows_has C.rp, c_minute, nI_ite, rng_le t 999 (by decide), show (0 : Nat) < 1000 by decide, show (4 : Nat) < 1000 by decide, show (5 : Nat) < 1000 by decide]
  rcases ix x (n := s.2.2.1.1.1) (by omega) with ⟨j, hj, rfl⟩ | hx
  · have hx := ix_in hj (by omega)
    rcases ix t (n := 1000) (by decide) with ⟨k, hk, rfl⟩ | hy
    · have hy := ix_in hk (by decide)
      simp only [hx, hy, and_self, if_true, cl_of (show j < 2 ^ 31 by omega), cl_of (show k < 2 ^ 31 by omega)] at hQ
      simp only [hx, hy, and_self, not_true, if_false, OpV_some, OpN_some, OpA_some, OpR_some, Option.toList_some, Option.toList_none, List.cons_append, List.nil_append, true_and, and_true, nI11, or_true, true_or, or_false, false_or, s63_0, s63_1, s63_4, s63_7, s63_8, s63_11, s63_14, s63_15, s63_18, s63_21, s63_22, s63_23, s63_24, s63_27, s63_30, s63_31, s63_32, s63_35, s63_36, s63_37, s63_40, s63_41, s63_42, s63_43, s63_46, s63_49, s63_52, s63_53, s63_56, s63_59, s63_60, s63_61, s63_62, s63_65, s63_66, s63_69, s63_72, s63_73, s63_74, s63_75, s63_78, s63_79, c_rget C hj (show 3 < 5 by decide), C.f3, C.n0, C.nw.cl, show (0 : Nat) < 1000 by decide, show (4 : Nat) < 1000 by decide]
      refine c_deedR C hj fun v ag Cv => ?_
      have Cv2 := Cv.onRopes (upN (st_now s (st_deed s.2.2.1 2 j s.2.2.1.1.2)).2.2.1.1.2 (j * 5 + 3) k)
      simp only [s63_0, s63_1, s63_4, s63_7, s63_8, s63_11, s63_14, s63_15, s63_18, s63_21, s63_22, s63_23, s63_24, s63_27, s63_30, s63_31, s63_32, s63_35, s63_36, s63_37, s63_40, s63_41, s63_42, s63_43, s63_46, s63_49, s63_52, s63_53, s63_56, s63_59, s63_60, s63_61, s63_62, s63_65, s63_66, s63_69, s63_72, s63_73, s63_74, s63_75, s63_78, s63_79, OpV_some, OpN_some, OpA_some, OpR_some, Option.toList_some, Option.toList_none, List.cons_append, List.nil_append, true_and, and_true, nI11, or_true, true_or, or_false, false_or, Cv.f3, Cv.n0, Cv.rp.cl, c_rset Cv hj (show 3 < 5 by decide), show (0 : Nat) < 1000 by decide, show (4 : Nat) < 1000 by decide, show (5 : Nat) < 1000 by decide, Cv2.f3, Cv2.n0, Cv2.rp.cl, c_rset Cv2 hj (show 4 < 5 by decide)]
      exact hQ _ (Cv2.onRopes _) (((ag.mo (by decide)).st (by decide) _).st (by decide) _)
    · simp only [hx, hy, and_false, if_false] at hQ
      simp only [hx, hy, and_self, not_true, not_false_eq_true, if_false, if_true]
      exact hQ w C (agr.rf w _)
  · simp only [hx, false_and, if_false] at hQ
    simp only [hx, not_false_eq_true, if_true]
    exact hQ w C (agr.rf w _)
def sp_waits (s : CSt) (x n : Int32) : Int32 × CSt :=
  if (0 ≤ x ∧ x < nI s.2.2.1.2.1.1) ∧ (nI 1 ≤ n ∧ n ≤ nI 99) then
    (if s.2.2.1.2.1.2 (cl x * 5 + 4) = 1 ∨ 999 < s.2.2.1.2.1.2 (cl x * 5 + 1) + cl n then (-2, s)
     else (nI (s.2.2.1.2.1.2 (cl x * 5 + 1) + cl n), st_now s (st_riders (st_deed s.2.2.1 1 (cl x) s.2.2.1.2.1.2) (upN s.2.2.1.2.1.2 (cl x * 5 + 1) (s.2.2.1.2.1.2 (cl x * 5 + 1) + cl n))))) else (-1, s)
theorem c_waits (C : CityAt w s) (V : Valid s) (x n : Int32) (hQ : ∀ u, CityAt u (sp_waits s x n).2 → agr w u (List.range 57) → Q (some (.int (sp_waits s x n).1)) u) : Cl X (d + 4) 61 [.ref 0, .int x, .int n] w Q := by
  have h8 := C.rd.2.2.2.2.1
  rw [e61]
  unfold sp_waits at hQ
  simp only [s61_0, s61_1, s61_4, s61_7, s61_8, s61_11, s61_14, s61_15, s61_16, s61_18, s61_21, s61_24, s61_25, s61_26, s61_27, s61_30, s61_33, s61_34, s61_35, s61_38, s61_39, s61_40, s61_41, s61_42, s61_45, s61_48, s61_49, s61_50, s61_53, s61_54, s61_57, s61_58, s61_61, s61_64, s61_66, s61_67, s61_68, s61_71, s61_72, s61_73, s61_74, s61_77, s61_80, s61_83, s61_84, s61_87, s61_90, s61_91, s61_92, s61_93, s61_96, s61_97, OpV_some, OpN_some, OpA_some, OpR_some, Option.toList_some, Option.toList_none, List.cons_append, List.nil_append, true_and, and_true, nI11, or_true, true_or, or_false, false_or, C.f3, C.n1, C.rd.cl, C.nw.cl, rows_has C.rd, c_within, nI_ite, show (0 : Nat) < 1000 by decide, show (4 : Nat) < 1000 by decide, show (7 : Nat) < 1000 by decide]
  rcases ix x (n := s.2.2.1.2.1.1) (by omega) with ⟨j, hj, rfl⟩ | hx
  · have hx := ix_in hj (by omega)
    by_cases hy : nI 1 ≤ n ∧ n ≤ nI 99
    · obtain ⟨k, hk, rfl⟩ : ∃ k, k ≤ 99 ∧ n = nI k := by
        have h1 := hy.1
        have h2 := hy.2
        rw [Int32.le_iff_toInt_le] at h1 h2
        have e1 : (nI 1).toInt = 1 := by decide
        have e99 : (nI 99).toInt = 99 := by decide
        rw [e1] at h1
        rw [e99] at h2
        refine ⟨n.toInt.toNat, by omega, toInt_inj' ?_⟩
        rw [nI_toInt (by omega)]
        omega
      obtain ⟨-, hr⟩ := V.2.2.2.1.2.2.1
      obtain ⟨r1, r2, r3, r4, r5, r6⟩ := hr j hj
      simp only [hx, hy, and_self, if_true, cl_of (show j < 2 ^ 31 by omega), cl_of (show k < 2 ^ 31 by omega)] at hQ
      simp only [hx, hy, and_self, not_true, if_false, OpV_some, OpN_some, OpA_some, OpR_some, Option.toList_some, Option.toList_none, List.cons_append, List.nil_append, true_and, and_true, nI11, or_true, true_or, or_false, false_or, s61_0, s61_1, s61_4, s61_7, s61_8, s61_11, s61_14, s61_15, s61_16, s61_18, s61_21, s61_24, s61_25, s61_26, s61_27, s61_30, s61_33, s61_34, s61_35, s61_38, s61_39, s61_40, s61_41, s61_42, s61_45, s61_48, s61_49, s61_50, s61_53, s61_54, s61_57, s61_58, s61_61, s61_64, s61_66, s61_67, s61_68, s61_71, s61_72, s61_73, s61_74, s61_77, s61_80, s61_83, s61_84, s61_87, s61_90, s61_91, s61_92, s61_93, s61_96, s61_97, C.f3, C.n1, C.nw.cl, C.rd.cl, c_pget C hj (show 1 < 5 by decide), c_pget C hj (show 4 < 5 by decide), nI_add, nI_eqN (show s.2.2.1.2.1.2 (j * 5 + 4) < 2 ^ 31 by omega) (show 1 < 2 ^ 31 by decide), nI_ltN (show 999 < 2 ^ 31 by decide) (show s.2.2.1.2.1.2 (j * 5 + 1) + k < 2 ^ 31 by omega), show (0 : Nat) < 1000 by decide, show (4 : Nat) < 1000 by decide, show (7 : Nat) < 1000 by decide]
      by_cases h1 : s.2.2.1.2.1.2 (j * 5 + 4) = 1
      · simp only [h1, true_or, if_true] at hQ ⊢
        exact hQ w C (agr.rf w _)
      · by_cases h9 : 999 < s.2.2.1.2.1.2 (j * 5 + 1) + k
        · simp only [h1, h9, or_true, if_true, if_false] at hQ ⊢
          exact hQ w C (agr.rf w _)
        · simp only [h1, h9, or_self, if_false] at hQ ⊢
          refine c_deedP C hj fun v ag Cv => ?_
          simp only [s61_0, s61_1, s61_4, s61_7, s61_8, s61_11, s61_14, s61_15, s61_16, s61_18, s61_21, s61_24, s61_25, s61_26, s61_27, s61_30, s61_33, s61_34, s61_35, s61_38, s61_39, s61_40, s61_41, s61_42, s61_45, s61_48, s61_49, s61_50, s61_53, s61_54, s61_57, s61_58, s61_61, s61_64, s61_66, s61_67, s61_68, s61_71, s61_72, s61_73, s61_74, s61_77, s61_80, s61_83, s61_84, s61_87, s61_90, s61_91, s61_92, s61_93, s61_96, s61_97, OpV_some, OpN_some, OpA_some, OpR_some, Option.toList_some, Option.toList_none, List.cons_append, List.nil_append, true_and, and_true, nI11, or_true, true_or, or_false, false_or, Cv.f3, Cv.n1, Cv.rd.cl, c_pset Cv hj (show 1 < 5 by decide), show (0 : Nat) < 1000 by decide, show (4 : Nat) < 1000 by decide, show (7 : Nat) < 1000 by decide]
          exact hQ _ (Cv.onRiders _) ((ag.mo (by decide)).st (by decide) _)
    · simp only [hx, hy, and_false, if_false] at hQ
      simp only [hx, hy, and_self, not_true, not_false_eq_true, if_false, if_true]
      exact hQ w C (agr.rf w _)
  · simp only [hx, false_and, if_false] at hQ
    simp only [hx, not_false_eq_true, if_true]
    exact hQ w C (agr.rf w _)
/-- what undo makes of NOW -/
def st_undo (n : NSt) : NSt :=
  ((n.1.1, if n.2.2.1.2 ((n.2.2.1.1 - 1) * 7) = 2 then tgo (n.2.2.1.1 - 1) (n.2.2.1.2 ((n.2.2.1.1 - 1) * 7 + 1)) n.2.2.1.2 5 0 n.1.2 else n.1.2),
   (n.2.1.1, if n.2.2.1.2 ((n.2.2.1.1 - 1) * 7) = 2 then n.2.1.2 else tgo (n.2.2.1.1 - 1) (n.2.2.1.2 ((n.2.2.1.1 - 1) * 7 + 1)) n.2.2.1.2 5 0 n.2.1.2),
   (n.2.2.1.1 - 1, n.2.2.1.2), (if n.2.2.1.2 ((n.2.2.1.1 - 1) * 7) = 0 then n.2.2.2.1 - 1 else n.2.2.2.1, n.2.2.2.2))
def sp_undo (s : CSt) : Int32 × CSt := if s.2.2.1.2.2.1.1 = 0 then (-2, s) else (nI (s.2.2.1.2.2.1.1 - 1), st_now s (st_undo s.2.2.1))
theorem goes_pos {D : Nat → Nat} {n : Nat} (hn : 0 < n) (h : D ((n - 1) * 7) = 0) : 0 < goes D n := by
  obtain ⟨m, rfl⟩ : ∃ m, n = m + 1 := ⟨n - 1, by omega⟩
  simp only [Nat.add_sub_cancel] at h
  simp [goes, h]
theorem c_undo (C : CityAt w s) (V : Valid s) (hQ : ∀ u, CityAt u (sp_undo s).2 → agr w u (List.range 57) → Q (some (.int (sp_undo s).1)) u) : Cl X (d + 3) 64 [.ref 0] w Q := by
  have h10 := C.nw.dd.2.2.2.2.1
  obtain ⟨-, hgo, hd⟩ := V.2.2.2.1.2.2.2.1
  have hdd : RowsAt w 9 10 10 7 s.2.2.1.2.2.1.1 (nIf s.2.2.1.2.2.1.2) := C.nw.dd
  rw [e64]
  unfold sp_undo at hQ
  simp only [s64_0, s64_1, s64_4, s64_7, s64_10, s64_13, s64_15, s64_16, s64_17, s64_20, s64_23, s64_24, s64_27, s64_30, s64_33, OpV_some, OpN_some, OpA_some, OpR_some, Option.toList_some, Option.toList_none, List.cons_append, List.nil_append, true_and, and_true, nI11, or_true, true_or, or_false, false_or, C.f3, C.n2, C.nw.cl, hdd.f3, nI_eq0 (show s.2.2.1.2.2.1.1 < 2 ^ 31 by omega), show (0 : Nat) < 1000 by decide, show (4 : Nat) < 1000 by decide, show (9 : Nat) < 1000 by decide]
  by_cases h0 : s.2.2.1.2.2.1.1 = 0
  · simp only [h0, if_true] at hQ ⊢
    exact hQ w C (agr.rf w _)
  · simp only [h0, if_false] at hQ ⊢
    obtain ⟨q1, q2, q3⟩ := hd (s.2.2.1.2.2.1.1 - 1) (by omega)
    refine now_back C.nw (by omega) (by omega) (fun h => (q2 h).1) (fun h => (q3 h).1) (fun h => Nat.lt_of_lt_of_le (goes_pos (by omega) h) hgo) fun v ag Nv => ?_
    have Cv := C.onNow ag (by decide) (n := st_undo s.2.2.1) Nv
    have hdd2 : RowsAt v 9 10 10 7 (s.2.2.1.2.2.1.1 - 1) (nIf s.2.2.1.2.2.1.2) := Cv.nw.dd
    simp only [s64_0, s64_1, s64_4, s64_7, s64_10, s64_13, s64_15, s64_16, s64_17, s64_20, s64_23, s64_24, s64_27, s64_30, s64_33, OpV_some, OpN_some, OpA_some, OpR_some, Option.toList_some, Option.toList_none, List.cons_append, List.nil_append, true_and, and_true, nI11, or_true, true_or, or_false, false_or, Cv.f3, Cv.n2, hdd2.f3, show (0 : Nat) < 1000 by decide, show (4 : Nat) < 1000 by decide, show (9 : Nat) < 1000 by decide]
    exact hQ _ Cv (ag.mo (by decide))
end API2
