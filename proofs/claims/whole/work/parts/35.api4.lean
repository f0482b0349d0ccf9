/-! count, meets, keep, back -/
section API4
variable {X : am_X} {d : Nat} {Q : am_Q} {w : am_W} {s : CSt}
theorem cnt_d (x : Int32) (h : ¬ (0 ≤ x ∧ x < nI 6)) : am_tsw 1 93 0 5 #[39, 47, 58, 69, 77, 88] x.toInt = some 94 := by
  have e6 : (nI 6).toInt = 6 := by decide
  have e0 : (0 : Int32).toInt = 0 := by decide
  rw [Int32.le_iff_toInt_le, Int32.lt_iff_toInt_lt, e6, e0] at h
  unfold am_tsw
  rw [if_pos (by omega)]
  decide
theorem c_count (C : CityAt w s) (x : Int32) : Cl X (d + 1) 76 [.ref 0, .int x] w Q = Q (some (.int (sp_count s x))) w := by
  have hdd : RowsAt w 9 10 10 7 s.2.2.1.2.2.1.1 (nIf s.2.2.1.2.2.1.2) := C.nw.dd
  rw [e76]
  unfold sp_count
  rcases ix x (n := 6) (by decide) with ⟨j, hj, rfl⟩ | hx
  · have hj6 : j = 0 ∨ j = 1 ∨ j = 2 ∨ j = 3 ∨ j = 4 ∨ j = 5 := by omega
    rcases hj6 with rfl | rfl | rfl | rfl | rfl | rfl
    · simp only [s76_0, s76_1, s76_40, s76_41, s76_44, s76_47, s76_48, s76_49, s76_52, s76_55, s76_58, s76_59, s76_60, s76_63, s76_66, s76_69, s76_70, s76_71, s76_74, s76_77, s76_78, s76_79, s76_82, s76_85, s76_88, s76_89, s76_90, s76_93, s76_94, s76_95, OpV_some, OpN_some, OpA_some, OpR_some, Option.toList_some, Option.toList_none, List.cons_append, List.nil_append, true_and, and_true, nI11, or_true, true_or, or_false, false_or, show am_tsw 1 93 0 5 #[39, 47, 58, 69, 77, 88] (nI 0).toInt = some 40 by decide, C.f2, C.dr.f3, if_true, show (0 : Nat) < 1000 by decide, show (2 : Nat) < 1000 by decide]
    · rw [if_neg (by decide)]
      simp only [s76_0, s76_1, s76_40, s76_41, s76_44, s76_47, s76_48, s76_49, s76_52, s76_55, s76_58, s76_59, s76_60, s76_63, s76_66, s76_69, s76_70, s76_71, s76_74, s76_77, s76_78, s76_79, s76_82, s76_85, s76_88, s76_89, s76_90, s76_93, s76_94, s76_95, OpV_some, OpN_some, OpA_some, OpR_some, Option.toList_some, Option.toList_none, List.cons_append, List.nil_append, true_and, and_true, nI11, or_true, true_or, or_false, false_or, show am_tsw 1 93 0 5 #[39, 47, 58, 69, 77, 88] (nI 1).toInt = some 48 by decide, C.f3, C.n0, C.rp.f3, if_true, show (0 : Nat) < 1000 by decide, show (4 : Nat) < 1000 by decide, show (5 : Nat) < 1000 by decide]
    · rw [if_neg (by decide), if_neg (by decide)]
      simp only [s76_0, s76_1, s76_40, s76_41, s76_44, s76_47, s76_48, s76_49, s76_52, s76_55, s76_58, s76_59, s76_60, s76_63, s76_66, s76_69, s76_70, s76_71, s76_74, s76_77, s76_78, s76_79, s76_82, s76_85, s76_88, s76_89, s76_90, s76_93, s76_94, s76_95, OpV_some, OpN_some, OpA_some, OpR_some, Option.toList_some, Option.toList_none, List.cons_append, List.nil_append, true_and, and_true, nI11, or_true, true_or, or_false, false_or, show am_tsw 1 93 0 5 #[39, 47, 58, 69, 77, 88] (nI 2).toInt = some 59 by decide, C.f3, C.n1, C.rd.f3, if_true, show (0 : Nat) < 1000 by decide, show (4 : Nat) < 1000 by decide, show (7 : Nat) < 1000 by decide]
    · rw [if_neg (by decide), if_neg (by decide), if_neg (by decide)]
      simp only [s76_0, s76_1, s76_40, s76_41, s76_44, s76_47, s76_48, s76_49, s76_52, s76_55, s76_58, s76_59, s76_60, s76_63, s76_66, s76_69, s76_70, s76_71, s76_74, s76_77, s76_78, s76_79, s76_82, s76_85, s76_88, s76_89, s76_90, s76_93, s76_94, s76_95, OpV_some, OpN_some, OpA_some, OpR_some, Option.toList_some, Option.toList_none, List.cons_append, List.nil_append, true_and, and_true, nI11, or_true, true_or, or_false, false_or, show am_tsw 1 93 0 5 #[39, 47, 58, 69, 77, 88] (nI 3).toInt = some 70 by decide, C.f4, C.sn.f3, if_true, show (0 : Nat) < 1000 by decide, show (13 : Nat) < 1000 by decide]
    · rw [if_neg (by decide), if_neg (by decide), if_neg (by decide), if_neg (by decide)]
      simp only [s76_0, s76_1, s76_40, s76_41, s76_44, s76_47, s76_48, s76_49, s76_52, s76_55, s76_58, s76_59, s76_60, s76_63, s76_66, s76_69, s76_70, s76_71, s76_74, s76_77, s76_78, s76_79, s76_82, s76_85, s76_88, s76_89, s76_90, s76_93, s76_94, s76_95, OpV_some, OpN_some, OpA_some, OpR_some, Option.toList_some, Option.toList_none, List.cons_append, List.nil_append, true_and, and_true, nI11, or_true, true_or, or_false, false_or, show am_tsw 1 93 0 5 #[39, 47, 58, 69, 77, 88] (nI 4).toInt = some 78 by decide, C.f3, C.n2, hdd.f3, if_true, show (0 : Nat) < 1000 by decide, show (4 : Nat) < 1000 by decide, show (9 : Nat) < 1000 by decide]
    · rw [if_neg (by decide), if_neg (by decide), if_neg (by decide), if_neg (by decide), if_neg (by decide)]
      simp only [s76_0, s76_1, s76_40, s76_41, s76_44, s76_47, s76_48, s76_49, s76_52, s76_55, s76_58, s76_59, s76_60, s76_63, s76_66, s76_69, s76_70, s76_71, s76_74, s76_77, s76_78, s76_79, s76_82, s76_85, s76_88, s76_89, s76_90, s76_93, s76_94, s76_95, OpV_some, OpN_some, OpA_some, OpR_some, Option.toList_some, Option.toList_none, List.cons_append, List.nil_append, true_and, and_true, nI11, or_true, true_or, or_false, false_or, show am_tsw 1 93 0 5 #[39, 47, 58, 69, 77, 88] (nI 5).toInt = some 89 by decide, C.f1, if_true, show (0 : Nat) < 1000 by decide]
  · have n : ∀ j, j < 6 → x ≠ nI j := fun j hj e => hx (by rw [e]; exact ix_in hj (by decide))
    rw [if_neg (n 0 (by decide)), if_neg (n 1 (by decide)), if_neg (n 2 (by decide)), if_neg (n 3 (by decide)), if_neg (n 4 (by decide)), if_neg (n 5 (by decide))]
    simp only [s76_0, s76_1, s76_40, s76_41, s76_44, s76_47, s76_48, s76_49, s76_52, s76_55, s76_58, s76_59, s76_60, s76_63, s76_66, s76_69, s76_70, s76_71, s76_74, s76_77, s76_78, s76_79, s76_82, s76_85, s76_88, s76_89, s76_90, s76_93, s76_94, s76_95, OpV_some, OpN_some, OpA_some, OpR_some, Option.toList_some, Option.toList_none, List.cons_append, List.nil_append, true_and, and_true, nI11, or_true, true_or, or_false, false_or, cnt_d x hx]
/-- two rides have met -/
def mtB (M : Nat → Nat) (i j : Nat) : Bool := decide (M (i * 4) ≠ M (j * 4) ∧ M (i * 4 + 1) = M (j * 4 + 1) ∧ M (i * 4 + 2) < M (j * 4 + 3) ∧ M (j * 4 + 2) < M (i * 4 + 3))
def mtJ (M : Nat → Nat) (i : Nat) : Nat → Nat → Nat → Nat
  | 0, _, a => a
  | n + 1, j, a => mtJ M i n (j + 1) (if mtB M i j = true then a + 1 else a)
def mtI (M : Nat → Nat) (nM : Nat) : Nat → Nat → Nat → Nat
  | 0, _, a => a
  | n + 1, i, a => mtI M nM n (i + 1) (mtJ M i (nM - (i + 1)) (i + 1) a)
def sp_meets (s : CSt) : Int32 := nI (mtI s.2.2.1.2.2.2.2 s.2.2.1.2.2.2.1 s.2.2.1.2.2.2.1 0 0)
theorem c_met (C : CityAt w s) (V : Valid s) {i j : Nat} (hi : i < s.2.2.1.2.2.2.1) (hj : j < s.2.2.1.2.2.2.1) : Cl X (d + 2) 6 [.ref 4, .int (nI i), .int (nI j)] w Q = Q (some (.int (nI (if mtB s.2.2.1.2.2.2.2 i j = true then 1 else 0)))) w := by
  rw [now_haveMet C.nw hi hj (fun t ht => by have := V.2.2.2.1.2.2.2.2.2 t ht; omega)]
  unfold mtB
  simp only [decide_eq_true_eq]
theorem c_meets_j (C : CityAt w s) (V : Valid s) {i : Nat} (hi : i < s.2.2.1.2.2.2.1) : ∀ (n j a : Nat), j + n = s.2.2.1.2.2.2.1 →
    Wp X (Cl X (d + 2)) 65 Q (22, [some (.ref 0), some (.int (nI a)), some (.int (nI i)), some (.int (nI j))], [], w, 0, 0) = Wp X (Cl X (d + 2)) 65 Q (4, [some (.ref 0), some (.int (nI (mtJ s.2.2.1.2.2.2.2 i n j a))), some (.int (nI (i + 1))), some (.int (nI s.2.2.1.2.2.2.1))], [], w, 0, 0)
  | 0, j, a, e => by
    have hm : RowsAt w 11 12 10 4 s.2.2.1.2.2.2.1 (nIf s.2.2.1.2.2.2.2) := C.nw.m
    have h10 := hm.2.2.2.2.1
    obtain rfl : j = s.2.2.1.2.2.2.1 := by omega
    rw [s65_22]
    simp only [s65_0, s65_1, s65_2, s65_3, s65_5, s65_6, s65_9, s65_12, s65_15, s65_18, s65_19, s65_20, s65_21, s65_23, s65_24, s65_27, s65_30, s65_33, s65_36, s65_37, s65_40, s65_41, s65_42, s65_45, s65_48, s65_51, s65_54, s65_57, s65_60, s65_63, s65_64, OpV_some, OpN_some, OpA_some, OpR_some, Option.toList_some, Option.toList_none, List.cons_append, List.nil_append, true_and, and_true, nI11, or_true, true_or, or_false, false_or, C.f3, C.n3, hm.f3, nI_ltN (show s.2.2.1.2.2.2.1 < 2 ^ 31 by omega) (show s.2.2.1.2.2.2.1 < 2 ^ 31 by omega), Nat.lt_irrefl, if_false, nI_add, mtJ, show (0 : Nat) < 1000 by decide, show (4 : Nat) < 1000 by decide, show (11 : Nat) < 1000 by decide]
  | n + 1, j, a, e => by
    have hm : RowsAt w 11 12 10 4 s.2.2.1.2.2.2.1 (nIf s.2.2.1.2.2.2.2) := C.nw.m
    have h10 := hm.2.2.2.2.1
    have ih := fun a => c_meets_j C V hi n (j + 1) a (by omega)
    rw [s65_22]
    simp only [s65_0, s65_1, s65_2, s65_3, s65_5, s65_6, s65_9, s65_12, s65_15, s65_18, s65_19, s65_20, s65_21, s65_23, s65_24, s65_27, s65_30, s65_33, s65_36, s65_37, s65_40, s65_41, s65_42, s65_45, s65_48, s65_51, s65_54, s65_57, s65_60, s65_63, s65_64, OpV_some, OpN_some, OpA_some, OpR_some, Option.toList_some, Option.toList_none, List.cons_append, List.nil_append, true_and, and_true, nI11, or_true, true_or, or_false, false_or, C.f3, C.n3, hm.f3, C.nw.cl, nI_ltN (show j < 2 ^ 31 by omega) (show s.2.2.1.2.2.2.1 < 2 ^ 31 by omega), show j < s.2.2.1.2.2.2.1 by omega, if_true, c_met C V hi (show j < s.2.2.1.2.2.2.1 by omega), nI_ite, nI_add, mtJ, show (0 : Nat) < 1000 by decide, show (4 : Nat) < 1000 by decide, show (11 : Nat) < 1000 by decide]
    by_cases hb : mtB s.2.2.1.2.2.2.2 i j = true
    · simp only [hb, not_true, if_false, if_true]; exact ih _
    · simp only [hb, not_false_eq_true, if_false, if_true, Bool.false_eq_true]; exact ih _
theorem c_meets_i (C : CityAt w s) (V : Valid s) : ∀ (n i a : Nat) (l3 : Option Value), i + n = s.2.2.1.2.2.2.1 →
    Wp X (Cl X (d + 2)) 65 Q (4, [some (.ref 0), some (.int (nI a)), some (.int (nI i)), l3], [], w, 0, 0) = Q (some (.int (nI (mtI s.2.2.1.2.2.2.2 s.2.2.1.2.2.2.1 n i a)))) w
  | 0, i, a, l3, e => by
    have hm : RowsAt w 11 12 10 4 s.2.2.1.2.2.2.1 (nIf s.2.2.1.2.2.2.2) := C.nw.m
    have h10 := hm.2.2.2.2.1
    rw [s65_4]
    simp only [s65_0, s65_1, s65_2, s65_3, s65_5, s65_6, s65_9, s65_12, s65_15, s65_18, s65_19, s65_20, s65_21, s65_23, s65_24, s65_27, s65_30, s65_33, s65_36, s65_37, s65_40, s65_41, s65_42, s65_45, s65_48, s65_51, s65_54, s65_57, s65_60, s65_63, s65_64, OpV_some, OpN_some, OpA_some, OpR_some, Option.toList_some, Option.toList_none, List.cons_append, List.nil_append, true_and, and_true, nI11, or_true, true_or, or_false, false_or, C.f3, C.n3, hm.f3, nI_ltN (show i < 2 ^ 31 by omega) (show s.2.2.1.2.2.2.1 < 2 ^ 31 by omega), show ¬ i < s.2.2.1.2.2.2.1 by omega, if_false, mtI, show (0 : Nat) < 1000 by decide, show (4 : Nat) < 1000 by decide, show (11 : Nat) < 1000 by decide]
  | n + 1, i, a, l3, e => by
    have hm : RowsAt w 11 12 10 4 s.2.2.1.2.2.2.1 (nIf s.2.2.1.2.2.2.2) := C.nw.m
    have h10 := hm.2.2.2.2.1
    have ih := fun a l3 => c_meets_i C V n (i + 1) a l3 (by omega)
    have hJ := fun a => c_meets_j C V (X := X) (d := d) (Q := Q) (show i < s.2.2.1.2.2.2.1 by omega) (s.2.2.1.2.2.2.1 - (i + 1)) (i + 1) a (by omega)
    rw [s65_4]
    simp only [s65_0, s65_1, s65_2, s65_3, s65_5, s65_6, s65_9, s65_12, s65_15, s65_18, s65_19, s65_20, s65_21, s65_23, s65_24, s65_27, s65_30, s65_33, s65_36, s65_37, s65_40, s65_41, s65_42, s65_45, s65_48, s65_51, s65_54, s65_57, s65_60, s65_63, s65_64, OpV_some, OpN_some, OpA_some, OpR_some, Option.toList_some, Option.toList_none, List.cons_append, List.nil_append, true_and, and_true, nI11, or_true, true_or, or_false, false_or, C.f3, C.n3, hm.f3, nI_ltN (show i < 2 ^ 31 by omega) (show s.2.2.1.2.2.2.1 < 2 ^ 31 by omega), show i < s.2.2.1.2.2.2.1 by omega, if_true, nI_add, mtI, show (0 : Nat) < 1000 by decide, show (4 : Nat) < 1000 by decide, show (11 : Nat) < 1000 by decide]
    rw [hJ]
    exact ih _ _
theorem c_meets (C : CityAt w s) (V : Valid s) : Cl X (d + 3) 65 [.ref 0] w Q = Q (some (.int (sp_meets s))) w := by
  rw [e65]
  simp only [s65_0, s65_1, s65_2, s65_3, s65_5, s65_6, s65_9, s65_12, s65_15, s65_18, s65_19, s65_20, s65_21, s65_23, s65_24, s65_27, s65_30, s65_33, s65_36, s65_37, s65_40, s65_41, s65_42, s65_45, s65_48, s65_51, s65_54, s65_57, s65_60, s65_63, s65_64, OpV_some, OpN_some, OpA_some, OpR_some, Option.toList_some, Option.toList_none, List.cons_append, List.nil_append, true_and, and_true, nI11, or_true, true_or, or_false, false_or]
  exact c_meets_i C V _ 0 0 _ (by omega)
/-- an image takes over another -/
def cpNow (n o : NSt) : NSt := ((n.1.1, cpN n.1.2 o.1.2 40), (n.2.1.1, cpN n.2.1.2 o.2.1.2 20), (n.2.2.1.1, cpN n.2.2.1.2 o.2.2.1.2 70), (n.2.2.2.1, cpN n.2.2.2.2 o.2.2.2.2 40))
/-- how many riders are not out -/
def insI (n : NSt) : Int32 := nI n.2.1.1 - rs_go (nIf n.2.1.2) 5 4 n.2.1.1 0 (nI 0)
def updI (im : Nat → NSt) (i : Nat) (n : NSt) : Nat → NSt := fun j => if j = i then n else im j
def st_img (s : CSt) (kp : Nat → Nat) (im : Nat → NSt) : CSt := (s.1, s.2.1, s.2.2.1, s.2.2.2.1, kp, im, s.2.2.2.2.2.2)
theorem CityAt.onImg0 (C : CityAt w s) {u : am_W} (ag : agr w u [17, 18, 19, 20, 21, 22, 23, 24]) {n : NSt} (h : NAt u 16 n) : CityAt u (st_img s s.2.2.2.2.1 (updI s.2.2.2.2.2.1 0 n)) :=
  ⟨(ag.2 0 (by decide)).trans C.o, (ag.2 1 (by decide)).trans C.tx, C.dr.ag ag (by decide) (by decide), NAt.ag C.2.2.2.1 ag (by decide), C.sn.ag ag (by decide) (by decide), (ag.2 15 (by decide)).trans C.im, h, C.i1.ag ag (by decide), (ag.2 34 (by decide)).trans C.kp, C.sc.ag ag (by decide)⟩
theorem CityAt.onImg1 (C : CityAt w s) {u : am_W} (ag : agr w u [26, 27, 28, 29, 30, 31, 32, 33]) {n : NSt} (h : NAt u 25 n) : CityAt u (st_img s s.2.2.2.2.1 (updI s.2.2.2.2.2.1 1 n)) :=
  ⟨(ag.2 0 (by decide)).trans C.o, (ag.2 1 (by decide)).trans C.tx, C.dr.ag ag (by decide) (by decide), NAt.ag C.2.2.2.1 ag (by decide), C.sn.ag ag (by decide) (by decide), (ag.2 15 (by decide)).trans C.im, C.i0.ag ag (by decide), h, (ag.2 34 (by decide)).trans C.kp, C.sc.ag ag (by decide)⟩
theorem CityAt.onKept (C : CityAt w s) (f : Nat → Nat) : CityAt (w.set 34 (.inl (1, 2, .inl (nIf f)))) (st_img s f s.2.2.2.2.2.1) := by
  have ag : agr w (w.set 34 (.inl (1, 2, .inl (nIf f)))) [34] := (agr.rf w _).st (by decide) _
  exact ⟨(ag.2 0 (by decide)).trans C.o, (ag.2 1 (by decide)).trans C.tx, C.dr.ag ag (by decide) (by decide), NAt.ag C.2.2.2.1 ag (by decide), C.sn.ag ag (by decide) (by decide), (ag.2 15 (by decide)).trans C.im, C.i0.ag ag (by decide), C.i1.ag ag (by decide), set_at C.kp, C.sc.ag ag (by decide)⟩
theorem CityAt.refs (C : CityAt w s) : am_refs w 15 = some (2, imgs) := by simp [am_refs, C.im]
theorem img_0 : imgs (nI 0).toNatClampNeg = some 16 := by decide
theorem img_1 : imgs (nI 1).toNatClampNeg = some 25 := by decide
def sp_keep (s : CSt) (x : Int32) : Int32 × CSt :=
  if 0 ≤ x ∧ x < nI 2 then (insI s.2.2.1, st_img s (upN s.2.2.2.2.1 (cl x) 1) (updI s.2.2.2.2.2.1 (cl x) (cpNow s.2.2.1 (s.2.2.2.2.2.1 (cl x))))) else (-1, s)
theorem c_keep (C : CityAt w s) (x : Int32) (hQ : ∀ u, CityAt u (sp_keep s x).2 → agr w u (List.range 57) → Q (some (.int (sp_keep s x).1)) u) : Cl X (d + 4) 74 [.ref 0, .int x] w Q := by
  rw [e74]
  unfold sp_keep at hQ
  simp only [s74_0, s74_1, s74_2, s74_3, s74_6, s74_9, s74_10, s74_11, s74_12, s74_15, s74_16, s74_17, s74_18, s74_21, s74_24, s74_25, s74_28, s74_29, s74_30, s74_31, s74_32, s74_35, s74_38, OpV_some, OpN_some, OpA_some, OpR_some, Option.toList_some, Option.toList_none, List.cons_append, List.nil_append, true_and, and_true, nI11, or_true, true_or, or_false, false_or, c_within, nI_ite, rng_le x 1 (by decide)]
  rcases ix x (n := 2) (by decide) with ⟨j, hj, rfl⟩ | hx
  · have hx := ix_in hj (by decide)
    simp only [hx, and_self, if_true, cl_of (show j < 2 ^ 31 by omega)] at hQ
    have hj2 : j = 0 ∨ j = 1 := by omega
    rcases hj2 with rfl | rfl
    · simp only [hx, and_self, not_true, if_false, OpV_some, OpN_some, OpA_some, OpR_some, Option.toList_some, Option.toList_none, List.cons_append, List.nil_append, true_and, and_true, nI11, or_true, true_or, or_false, false_or, s74_0, s74_1, s74_2, s74_3, s74_6, s74_9, s74_10, s74_11, s74_12, s74_15, s74_16, s74_17, s74_18, s74_21, s74_24, s74_25, s74_28, s74_29, s74_30, s74_31, s74_32, s74_35, s74_38, C.f3, C.f5, C.refs, img_0, cls_at C.i0.1, in_nI (show 0 < 2 by decide) (show 2 < 2 ^ 31 by decide), show (0 : Nat) < 1000 by decide, show (15 : Nat) < 1000 by decide, show (16 : Nat) < 1000 by decide]
      refine now_copy C.i0 C.nw (by decide) fun v ag hn _ => ?_
      have Cv := C.onImg0 ag (n := cpNow s.2.2.1 (s.2.2.2.2.2.1 0)) hn
      have Ck := Cv.onKept (upN s.2.2.2.2.1 0 1)
      have ha : am_ast v 34 (nI 0).toNatClampNeg (nI 1) = v.set 34 (.inl (1, 2, .inl (nIf (upN s.2.2.2.2.1 0 1)))) := by
        rw [ast_at Cv.kp, nI_clamp (by decide), upd_nIf]; rfl
      simp only [s74_0, s74_1, s74_2, s74_3, s74_6, s74_9, s74_10, s74_11, s74_12, s74_15, s74_16, s74_17, s74_18, s74_21, s74_24, s74_25, s74_28, s74_29, s74_30, s74_31, s74_32, s74_35, s74_38, OpV_some, OpN_some, OpA_some, OpR_some, Option.toList_some, Option.toList_none, List.cons_append, List.nil_append, true_and, and_true, nI11, or_true, true_or, or_false, false_or, Cv.f6, arr_at (show 34 < 1000 by decide) Cv.kp, in_nI (show 0 < 2 by decide) (show 2 < 2 ^ 31 by decide), ha, Ck.f3, Ck.nw.cl, now_in Ck.nw, show (nI 1 = 1) = True by decide, show (0 : Nat) < 1000 by decide, show (4 : Nat) < 1000 by decide, show (34 : Nat) < 1000 by decide]
      exact hQ _ Ck ((ag.mo (by decide)).st (by decide) _)
    · simp only [hx, and_self, not_true, if_false, OpV_some, OpN_some, OpA_some, OpR_some, Option.toList_some, Option.toList_none, List.cons_append, List.nil_append, true_and, and_true, nI11, or_true, true_or, or_false, false_or, s74_0, s74_1, s74_2, s74_3, s74_6, s74_9, s74_10, s74_11, s74_12, s74_15, s74_16, s74_17, s74_18, s74_21, s74_24, s74_25, s74_28, s74_29, s74_30, s74_31, s74_32, s74_35, s74_38, C.f3, C.f5, C.refs, img_1, cls_at C.i1.1, in_nI (show 1 < 2 by decide) (show 2 < 2 ^ 31 by decide), show (0 : Nat) < 1000 by decide, show (15 : Nat) < 1000 by decide, show (25 : Nat) < 1000 by decide]
      refine now_copy C.i1 C.nw (by decide) fun v ag hn _ => ?_
      have Cv := C.onImg1 ag (n := cpNow s.2.2.1 (s.2.2.2.2.2.1 1)) hn
      have Ck := Cv.onKept (upN s.2.2.2.2.1 1 1)
      have ha : am_ast v 34 (nI 1).toNatClampNeg (nI 1) = v.set 34 (.inl (1, 2, .inl (nIf (upN s.2.2.2.2.1 1 1)))) := by
        rw [ast_at Cv.kp, nI_clamp (by decide), upd_nIf]; rfl
      simp only [s74_0, s74_1, s74_2, s74_3, s74_6, s74_9, s74_10, s74_11, s74_12, s74_15, s74_16, s74_17, s74_18, s74_21, s74_24, s74_25, s74_28, s74_29, s74_30, s74_31, s74_32, s74_35, s74_38, OpV_some, OpN_some, OpA_some, OpR_some, Option.toList_some, Option.toList_none, List.cons_append, List.nil_append, true_and, and_true, nI11, or_true, true_or, or_false, false_or, Cv.f6, arr_at (show 34 < 1000 by decide) Cv.kp, in_nI (show 1 < 2 by decide) (show 2 < 2 ^ 31 by decide), ha, Ck.f3, Ck.nw.cl, now_in Ck.nw, show (nI 1 = 1) = True by decide, show (0 : Nat) < 1000 by decide, show (4 : Nat) < 1000 by decide, show (34 : Nat) < 1000 by decide]
      exact hQ _ Ck ((ag.mo (by decide)).st (by decide) _)
  · simp only [hx, if_false] at hQ
    simp only [hx, not_false_eq_true, if_true]
    exact hQ w C (agr.rf w _)
def sp_back (s : CSt) (x : Int32) : Int32 × CSt :=
  if 0 ≤ x ∧ x < nI 2 then (if s.2.2.2.2.1 (cl x) = 0 then (-2, s) else (insI (cpNow (s.2.2.2.2.2.1 (cl x)) s.2.2.1), st_now s (cpNow (s.2.2.2.2.2.1 (cl x)) s.2.2.1))) else (-1, s)
theorem c_back (C : CityAt w s) (V : Valid s) (x : Int32) (hQ : ∀ u, CityAt u (sp_back s x).2 → agr w u (List.range 57) → Q (some (.int (sp_back s x).1)) u) : Cl X (d + 4) 75 [.ref 0, .int x] w Q := by
  rw [e75]
  unfold sp_back at hQ
  simp only [s75_0, s75_1, s75_2, s75_3, s75_6, s75_9, s75_10, s75_11, s75_12, s75_15, s75_16, s75_17, s75_20, s75_22, s75_23, s75_24, s75_27, s75_28, s75_31, s75_32, s75_33, s75_36, s75_37, s75_40, s75_43, OpV_some, OpN_some, OpA_some, OpR_some, Option.toList_some, Option.toList_none, List.cons_append, List.nil_append, true_and, and_true, nI11, or_true, true_or, or_false, false_or, c_within, nI_ite, rng_le x 1 (by decide)]
  rcases ix x (n := 2) (by decide) with ⟨j, hj, rfl⟩ | hx
  · have hx := ix_in hj (by decide)
    have hk1 := (V.2.2.2.2.2 j hj).1
    simp only [hx, and_self, if_true, cl_of (show j < 2 ^ 31 by omega)] at hQ
    simp only [hx, and_self, not_true, if_false, OpV_some, OpN_some, OpA_some, OpR_some, Option.toList_some, Option.toList_none, List.cons_append, List.nil_append, true_and, and_true, nI11, or_true, true_or, or_false, false_or, s75_0, s75_1, s75_2, s75_3, s75_6, s75_9, s75_10, s75_11, s75_12, s75_15, s75_16, s75_17, s75_20, s75_22, s75_23, s75_24, s75_27, s75_28, s75_31, s75_32, s75_33, s75_36, s75_37, s75_40, s75_43, C.f6, arr_at (show 34 < 1000 by decide) C.kp, in_nI hj (show 2 < 2 ^ 31 by decide), cl_nI (show j < 2 ^ 31 by omega), nIf, nI_eq0 (show s.2.2.2.2.1 j < 2 ^ 31 by omega), show (0 : Nat) < 1000 by decide]
    by_cases h0 : s.2.2.2.2.1 j = 0
    · simp only [h0, if_true] at hQ ⊢
      exact hQ w C (agr.rf w _)
    · simp only [h0, if_false] at hQ ⊢
      have hj2 : j = 0 ∨ j = 1 := by omega
      rcases hj2 with rfl | rfl
      · simp only [OpV_some, OpN_some, OpA_some, OpR_some, Option.toList_some, Option.toList_none, List.cons_append, List.nil_append, true_and, and_true, nI11, or_true, true_or, or_false, false_or, s75_0, s75_1, s75_2, s75_3, s75_6, s75_9, s75_10, s75_11, s75_12, s75_15, s75_16, s75_17, s75_20, s75_22, s75_23, s75_24, s75_27, s75_28, s75_31, s75_32, s75_33, s75_36, s75_37, s75_40, s75_43, C.f3, C.f5, C.refs, img_0, C.nw.cl, in_nI (show 0 < 2 by decide) (show 2 < 2 ^ 31 by decide), show (0 : Nat) < 1000 by decide, show (4 : Nat) < 1000 by decide, show (15 : Nat) < 1000 by decide, show (16 : Nat) < 1000 by decide]
        refine now_copy C.nw C.i0 (by decide) fun v ag hn _ => ?_
        have Cv := C.onNow ag (by decide) (n := cpNow (s.2.2.2.2.2.1 0) s.2.2.1) hn
        simp only [s75_0, s75_1, s75_2, s75_3, s75_6, s75_9, s75_10, s75_11, s75_12, s75_15, s75_16, s75_17, s75_20, s75_22, s75_23, s75_24, s75_27, s75_28, s75_31, s75_32, s75_33, s75_36, s75_37, s75_40, s75_43, OpV_some, OpN_some, OpA_some, OpR_some, Option.toList_some, Option.toList_none, List.cons_append, List.nil_append, true_and, and_true, nI11, or_true, true_or, or_false, false_or, Cv.f3, Cv.nw.cl, now_in Cv.nw, show (0 : Nat) < 1000 by decide, show (4 : Nat) < 1000 by decide]
        exact hQ _ Cv (ag.mo (by decide))
      · simp only [OpV_some, OpN_some, OpA_some, OpR_some, Option.toList_some, Option.toList_none, List.cons_append, List.nil_append, true_and, and_true, nI11, or_true, true_or, or_false, false_or, s75_0, s75_1, s75_2, s75_3, s75_6, s75_9, s75_10, s75_11, s75_12, s75_15, s75_16, s75_17, s75_20, s75_22, s75_23, s75_24, s75_27, s75_28, s75_31, s75_32, s75_33, s75_36, s75_37, s75_40, s75_43, C.f3, C.f5, C.refs, img_1, C.nw.cl, in_nI (show 1 < 2 by decide) (show 2 < 2 ^ 31 by decide), show (0 : Nat) < 1000 by decide, show (4 : Nat) < 1000 by decide, show (15 : Nat) < 1000 by decide, show (25 : Nat) < 1000 by decide]
        refine now_copy C.nw C.i1 (by decide) fun v ag hn _ => ?_
        have Cv := C.onNow ag (by decide) (n := cpNow (s.2.2.2.2.2.1 1) s.2.2.1) hn
        simp only [s75_0, s75_1, s75_2, s75_3, s75_6, s75_9, s75_10, s75_11, s75_12, s75_15, s75_16, s75_17, s75_20, s75_22, s75_23, s75_24, s75_27, s75_28, s75_31, s75_32, s75_33, s75_36, s75_37, s75_40, s75_43, OpV_some, OpN_some, OpA_some, OpR_some, Option.toList_some, Option.toList_none, List.cons_append, List.nil_append, true_and, and_true, nI11, or_true, true_or, or_false, false_or, Cv.f3, Cv.nw.cl, now_in Cv.nw, show (0 : Nat) < 1000 by decide, show (4 : Nat) < 1000 by decide]
        exact hQ _ Cv (ag.mo (by decide))
  · simp only [hx, if_false] at hQ
    simp only [hx, not_false_eq_true, if_true]
    exact hQ w C (agr.rf w _)
end API4
