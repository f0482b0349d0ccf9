/-! what each call answers and does, by the state: the smaller calls -/
def cl (x : Int32) : Nat := x.toNatClampNeg
theorem cl_of {j : Nat} (h : j < 2 ^ 31) : cl (nI j) = j := nI_clamp h
def inN (x : Int32) (n : Nat) : Prop := 0 ≤ x ∧ x < nI n
def sp_sill (s : CSt) (x y : Int32) : Int32 := if (0 ≤ x ∧ x < nI s.2.1.1) ∧ (0 ≤ y ∧ y < nI 2) then nI (s.2.1.2 (cl x * 2 + cl y)) else -1
def sp_rope (s : CSt) (x y : Int32) : Int32 := if (0 ≤ x ∧ x < nI s.2.2.1.1.1) ∧ (0 ≤ y ∧ y < nI 5) then nI (s.2.2.1.1.2 (cl x * 5 + cl y)) else -1
def sp_rider (s : CSt) (x y : Int32) : Int32 := if (0 ≤ x ∧ x < nI s.2.2.1.2.1.1) ∧ (0 ≤ y ∧ y < nI 5) then nI (s.2.2.1.2.1.2 (cl x * 5 + cl y)) else -1
def sp_count (s : CSt) (x : Int32) : Int32 := if x = nI 0 then nI s.2.1.1 else if x = nI 1 then nI s.2.2.1.1.1 else if x = nI 2 then nI s.2.2.1.2.1.1 else if x = nI 3 then nI s.2.2.2.1.1 else if x = nI 4 then nI s.2.2.1.2.2.1.1 else if x = nI 5 then nI s.1.1 else -1
theorem rng_le (x : Int32) (n : Nat) (hn : n + 1 < 2 ^ 31) : (nI 0 ≤ x ∧ x ≤ nI n) = (0 ≤ x ∧ x < nI (n + 1)) := by
  apply propext
  have e : (nI (n + 1)).toInt = (nI n).toInt + 1 := by rw [nI_toInt hn, nI_toInt (by omega)]; omega
  rw [nIz, Int32.le_iff_toInt_le (x := x) (y := nI n), Int32.lt_iff_toInt_lt, e, Int.lt_add_one_iff]
section API1
variable {X : am_X} {d : Nat} {Q : am_Q} {w : am_W} {s : CSt}
theorem c_sill (C : CityAt w s) (x y : Int32) : Cl X (d + 2) 56 [.ref 0, .int x, .int y] w Q = Q (some (.int (sp_sill s x y))) w := by
  have h8 := C.dr.2.2.2.2.1
  have key : ∀ j k, j < s.2.1.1 → k < 2 → Cl X (d + 1) 34 [.ref 2, .int (nI j), .int (nI k)] w = fun Q => Q (some (.int (nI (s.2.1.2 (j * 2 + k))))) w := fun j k hj hk => funext fun Q => rows_getN C.dr hj hk
  rw [e56]
  unfold sp_sill
  simp only [s56_0, s56_1, s56_4, s56_5, s56_8, s56_11, s56_12, s56_13, s56_14, s56_17, s56_20, s56_21, s56_24, s56_25, s56_26, s56_29, s56_32, s56_33, OpV_some, OpN_some, OpA_some, OpR_some, Option.toList_some, Option.toList_none, List.cons_append, List.nil_append, true_and, and_true, nI11, or_true, true_or, or_false, false_or, C.f2, C.dr.cl, rows_has C.dr, c_within, nI_ite, show (0 : Nat) < 1000 by decide, show (2 : Nat) < 1000 by decide, rng_le y 1 (by decide)]
  rcases ix x (n := s.2.1.1) (by omega) with ⟨j, hj, rfl⟩ | hx
  · have hx := ix_in hj (by omega)
    rcases ix y (n := 2) (by decide) with ⟨k, hk, rfl⟩ | hy
    · have hy := ix_in hk (by decide)
      simp only [hx, hy, and_self, not_true, if_false, if_true, key j k hj hk, OpV_some, OpN_some, OpA_some, OpR_some, Option.toList_some, Option.toList_none, List.cons_append, List.nil_append, true_and, and_true, nI11, or_true, true_or, or_false, false_or, s56_0, s56_1, s56_4, s56_5, s56_8, s56_11, s56_12, s56_13, s56_14, s56_17, s56_20, s56_21, s56_24, s56_25, s56_26, s56_29, s56_32, s56_33, cl_of (show j < 2 ^ 31 by omega), cl_of (show k < 2 ^ 31 by omega)]
    · simp only [hx, hy, and_false, and_self, not_true, not_false_eq_true, if_false, if_true]
  · simp only [hx, false_and, not_false_eq_true, if_true, if_false]
theorem c_rope (C : CityAt w s) (x y : Int32) : Cl X (d + 2) 57 [.ref 0, .int x, .int y] w Q = Q (some (.int (sp_rope s x y))) w := by
  have h8 := C.rp.2.2.2.2.1
  have key : ∀ j k, j < s.2.2.1.1.1 → k < 5 → Cl X (d + 1) 34 [.ref 5, .int (nI j), .int (nI k)] w = fun Q => Q (some (.int (nI (s.2.2.1.1.2 (j * 5 + k))))) w := fun j k hj hk => funext fun Q => rows_getN C.rp hj hk
  rw [e57]
  unfold sp_rope
  simp only [s57_0, s57_1, s57_4, s57_7, s57_8, s57_11, s57_14, s57_15, s57_16, s57_17, s57_20, s57_23, s57_24, s57_27, s57_30, s57_31, s57_32, s57_35, s57_38, s57_39, OpV_some, OpN_some, OpA_some, OpR_some, Option.toList_some, Option.toList_none, List.cons_append, List.nil_append, true_and, and_true, nI11, or_true, true_or, or_false, false_or, C.f3, C.n0, C.rp.cl, rows_has C.rp, c_within, nI_ite, show (0 : Nat) < 1000 by decide, show (4 : Nat) < 1000 by decide, show (5 : Nat) < 1000 by decide, rng_le y 4 (by decide)]
  rcases ix x (n := s.2.2.1.1.1) (by omega) with ⟨j, hj, rfl⟩ | hx
  · have hx := ix_in hj (by omega)
    rcases ix y (n := 5) (by decide) with ⟨k, hk, rfl⟩ | hy
    · have hy := ix_in hk (by decide)
      simp only [hx, hy, and_self, not_true, if_false, if_true, key j k hj hk, OpV_some, OpN_some, OpA_some, OpR_some, Option.toList_some, Option.toList_none, List.cons_append, List.nil_append, true_and, and_true, nI11, or_true, true_or, or_false, false_or, s57_0, s57_1, s57_4, s57_7, s57_8, s57_11, s57_14, s57_15, s57_16, s57_17, s57_20, s57_23, s57_24, s57_27, s57_30, s57_31, s57_32, s57_35, s57_38, s57_39, cl_of (show j < 2 ^ 31 by omega), cl_of (show k < 2 ^ 31 by omega)]
    · simp only [hx, hy, and_false, and_self, not_true, not_false_eq_true, if_false, if_true]
  · simp only [hx, false_and, not_false_eq_true, if_true, if_false]
theorem c_rider (C : CityAt w s) (x y : Int32) : Cl X (d + 2) 58 [.ref 0, .int x, .int y] w Q = Q (some (.int (sp_rider s x y))) w := by
  have h8 := C.rd.2.2.2.2.1
  have key : ∀ j k, j < s.2.2.1.2.1.1 → k < 5 → Cl X (d + 1) 34 [.ref 7, .int (nI j), .int (nI k)] w = fun Q => Q (some (.int (nI (s.2.2.1.2.1.2 (j * 5 + k))))) w := fun j k hj hk => funext fun Q => rows_getN C.rd hj hk
  rw [e58]
  unfold sp_rider
  simp only [s58_0, s58_1, s58_4, s58_7, s58_8, s58_11, s58_14, s58_15, s58_16, s58_17, s58_20, s58_23, s58_24, s58_27, s58_30, s58_31, s58_32, s58_35, s58_38, s58_39, OpV_some, OpN_some, OpA_some, OpR_some, Option.toList_some, Option.toList_none, List.cons_append, List.nil_append, true_and, and_true, nI11, or_true, true_or, or_false, false_or, C.f3, C.n1, C.rd.cl, rows_has C.rd, c_within, nI_ite, show (0 : Nat) < 1000 by decide, show (4 : Nat) < 1000 by decide, show (7 : Nat) < 1000 by decide, rng_le y 4 (by decide)]
  rcases ix x (n := s.2.2.1.2.1.1) (by omega) with ⟨j, hj, rfl⟩ | hx
  · have hx := ix_in hj (by omega)
    rcases ix y (n := 5) (by decide) with ⟨k, hk, rfl⟩ | hy
    · have hy := ix_in hk (by decide)
      simp only [hx, hy, and_self, not_true, if_false, if_true, key j k hj hk, OpV_some, OpN_some, OpA_some, OpR_some, Option.toList_some, Option.toList_none, List.cons_append, List.nil_append, true_and, and_true, nI11, or_true, true_or, or_false, false_or, s58_0, s58_1, s58_4, s58_7, s58_8, s58_11, s58_14, s58_15, s58_16, s58_17, s58_20, s58_23, s58_24, s58_27, s58_30, s58_31, s58_32, s58_35, s58_38, s58_39, cl_of (show j < 2 ^ 31 by omega), cl_of (show k < 2 ^ 31 by omega)]
    · simp only [hx, hy, and_false, and_self, not_true, not_false_eq_true, if_false, if_true]
  · simp only [hx, false_and, not_false_eq_true, if_true, if_false]
theorem c_trace (C : CityAt w s) : Cl X (d + 1) 77 [.ref 0] w Q = Q (some (.long s.2.2.2.2.2.2)) w := by
  rw [e77]
  simp only [s77_0, s77_1, s77_4, OpV_some, OpN_some, OpA_some, OpR_some, Option.toList_some, Option.toList_none, List.cons_append, List.nil_append, true_and, and_true, nI11, or_true, true_or, or_false, false_or, C.f7, show (0 : Nat) < 1000 by decide]
def st_tl (s : CSt) (n : Nat) : CSt := ((n, s.1.2), s.2)
def st_seen (s : CSt) (t : Tab) : CSt := (s.1, s.2.1, s.2.2.1, t, s.2.2.2.2)
def st_now (s : CSt) (n : NSt) : CSt := (s.1, s.2.1, n, s.2.2.2)
theorem CityAt.set0 (C : CityAt w s) (n : Nat) (mk : Int64) : CityAt (w.set 0 (objC n mk)) ((n, s.1.2), s.2.1, s.2.2.1, s.2.2.2.1, s.2.2.2.2.1, s.2.2.2.2.2.1, mk) := by
  have ag : agr w (w.set 0 (objC n mk)) [0] := (agr.rf w [0]).st (by decide) _
  exact ⟨set_at C.o, (ag.2 1 (by decide)).trans C.tx, C.dr.ag ag (by decide) (by decide), NAt.ag C.2.2.2.1 ag (by decide), C.sn.ag ag (by decide) (by decide), (ag.2 15 (by decide)).trans C.im, C.i0.ag ag (by decide), C.i1.ag ag (by decide), (ag.2 34 (by decide)).trans C.kp, C.sc.ag ag (by decide)⟩
theorem CityAt.onSeen (C : CityAt w s) {u : am_W} (ag : agr w u [13, 14]) {n : Nat} {f : Nat → Nat} (h : RowsAt u 13 14 6 2 n (nIf f)) : CityAt u (st_seen s (n, f)) :=
  ⟨(ag.2 0 (by decide)).trans C.o, (ag.2 1 (by decide)).trans C.tx, C.dr.ag ag (by decide) (by decide), NAt.ag C.2.2.2.1 ag (by decide), h, (ag.2 15 (by decide)).trans C.im, C.i0.ag ag (by decide), C.i1.ag ag (by decide), (ag.2 34 (by decide)).trans C.kp, C.sc.ag ag (by decide)⟩
theorem CityAt.onNow (C : CityAt w s) {u : am_W} {l : List Nat} (ag : agr w u l) (hl : ∀ q, q ∈ l → 5 ≤ q ∧ q ≤ 12) {n : NSt} (h : NAt u 4 n) : CityAt u (st_now s n) := by
  have k : ∀ q, q < 5 ∨ 12 < q → q ∉ l := fun q hq hm => by have := hl q hm; omega
  exact ⟨(ag.2 0 (k _ (by decide))).trans C.o, (ag.2 1 (k _ (by decide))).trans C.tx, C.dr.ag ag (k _ (by decide)) (k _ (by decide)), h, C.sn.ag ag (k _ (by decide)) (k _ (by decide)), (ag.2 15 (k _ (by decide))).trans C.im, C.i0.ag ag (fun q hq => by have := hl q hq; omega), C.i1.ag ag (fun q hq => by have := hl q hq; omega), (ag.2 34 (k _ (by decide))).trans C.kp, C.sc.ag ag (fun q hq => by have := hl q hq; omega)⟩
theorem c_clear (C : CityAt w s) (hQ : ∀ u, CityAt u (st_tl s 0) → agr w u (List.range 57) → Q (some (.int (nI s.1.1))) u) : Cl X (d + 1) 54 [.ref 0] w Q := by
  have hp : am_put w 0 1 (.int (nI 0)) = w.set 0 (objC 0 s.2.2.2.2.2.2) := put_at C.o
  rw [e54]
  simp only [s54_0, s54_1, s54_4, s54_5, s54_6, s54_7, s54_10, s54_11, OpV_some, OpN_some, OpA_some, OpR_some, Option.toList_some, Option.toList_none, List.cons_append, List.nil_append, true_and, and_true, nI11, or_true, true_or, or_false, false_or, C.f1, hp, show (0 : Nat) < 1000 by decide]
  exact hQ _ (C.set0 0 s.2.2.2.2.2.2) ((agr.rf w _).st (by decide) _)
theorem c_forget (C : CityAt w s) (hQ : ∀ u, CityAt u (st_seen s (0, s.2.2.2.1.2)) → agr w u (List.range 57) → Q (some (.int (nI s.2.2.2.1.1))) u) : Cl X (d + 2) 71 [.ref 0] w Q := by
  rw [e71]
  simp only [s71_0, s71_1, s71_4, s71_7, s71_8, s71_9, s71_12, s71_15, s71_16, OpV_some, OpN_some, OpA_some, OpR_some, Option.toList_some, Option.toList_none, List.cons_append, List.nil_append, true_and, and_true, nI11, or_true, true_or, or_false, false_or, C.f4, C.sn.f3, C.sn.cl, rows_empty C.sn, show (0 : Nat) < 1000 by decide, show (13 : Nat) < 1000 by decide]
  have ag : agr w (rsz w 13 14 6 2 0) [13, 14] := (agr.rf w _).st (by decide) _
  exact hQ _ (C.onSeen ag (C.sn.onS (by omega))) (ag.mo (by decide))
end API1
