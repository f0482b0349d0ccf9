/-! what always holds of a city's state -/
def RiderOK (p : Nat → Nat) (nP nS : Nat) : Prop := nP ≤ 4 ∧ ∀ r, r < nP → p (r * 5) < nS ∧ p (r * 5 + 1) ≤ 999 ∧ 1 ≤ p (r * 5 + 2) ∧ p (r * 5 + 2) ≤ 5 ∧ p (r * 5 + 3) ≤ 99 ∧ p (r * 5 + 4) ≤ 1
/-- how many of the deeds are a go() -/
def goes (D : Nat → Nat) : Nat → Nat
  | 0 => 0
  | n + 1 => goes D n + (if D (n * 7) = 0 then 1 else 0)
def DeedOK (n : NSt) (nS : Nat) : Prop := n.2.2.1.1 ≤ 10 ∧ goes n.2.2.1.2 n.2.2.1.1 ≤ n.2.2.2.1 ∧ ∀ i, i < n.2.2.1.1 → n.2.2.1.2 (i * 7) ≤ 2 ∧
  (n.2.2.1.2 (i * 7) = 2 → n.2.2.1.2 (i * 7 + 1) < n.1.1 ∧ n.2.2.1.2 (i * 7 + 2) = n.1.2 (n.2.2.1.2 (i * 7 + 1) * 5) ∧ n.2.2.1.2 (i * 7 + 3) = n.1.2 (n.2.2.1.2 (i * 7 + 1) * 5 + 1) ∧ n.2.2.1.2 (i * 7 + 4) = n.1.2 (n.2.2.1.2 (i * 7 + 1) * 5 + 2) ∧ n.2.2.1.2 (i * 7 + 5) ≤ 999 ∧ n.2.2.1.2 (i * 7 + 6) ≤ 1) ∧
  (n.2.2.1.2 (i * 7) ≠ 2 → n.2.2.1.2 (i * 7 + 1) < n.2.1.1 ∧ n.2.2.1.2 (i * 7 + 2) < nS ∧ n.2.2.1.2 (i * 7 + 3) ≤ 999 ∧ n.2.2.1.2 (i * 7 + 4) = n.2.1.2 (n.2.2.1.2 (i * 7 + 1) * 5 + 2) ∧ n.2.2.1.2 (i * 7 + 5) ≤ 99 ∧ n.2.2.1.2 (i * 7 + 6) ≤ 1)
def NowOK (n : NSt) (nS : Nat) : Prop := RopeOK n.1.2 n.1.1 nS ∧ (∀ k, k < n.1.1 → n.1.2 (k * 5 + 2) ≤ 9) ∧ RiderOK n.2.1.2 n.2.1.1 nS ∧ DeedOK n nS ∧ n.2.2.2.1 ≤ 10 ∧ ∀ t, t < n.2.2.2.1 * 4 → n.2.2.2.2 t ≤ 999
/-- an image is of the same ropes and riders -/
def Same (a b : NSt) : Prop := a.1.1 = b.1.1 ∧ a.2.1.1 = b.2.1.1 ∧ (∀ k, k < b.1.1 → a.1.2 (k * 5) = b.1.2 (k * 5) ∧ a.1.2 (k * 5 + 1) = b.1.2 (k * 5 + 1) ∧ a.1.2 (k * 5 + 2) = b.1.2 (k * 5 + 2)) ∧ ∀ r, r < b.2.1.1 → a.2.1.2 (r * 5 + 2) = b.2.1.2 (r * 5 + 2)
def Valid (s : CSt) : Prop := s.1.1 ≤ 300 ∧ (∀ i, i < s.1.1 → s.1.2 i < 256) ∧ DoorOK s.2.1.2 s.2.1.1 ∧ NowOK s.2.2.1 s.2.1.1 ∧ (s.2.2.2.1.1 ≤ 6 ∧ ∀ i, i < s.2.2.2.1.1 → s.2.2.2.1.2 (i * 2) < s.2.1.1 ∧ s.2.2.2.1.2 (i * 2 + 1) ≤ 999) ∧
  (∀ i, i < 2 → s.2.2.2.2.1 i ≤ 1 ∧ (s.2.2.2.2.1 i = 1 → NowOK (s.2.2.2.2.2.1 i) s.2.1.1 ∧ Same (s.2.2.2.2.2.1 i) s.2.2.1))
section VALID
variable {X : am_X} {d : Nat} {Q : am_Q} {w : am_W} {s : CSt}
theorem CityAt.st (C : CityAt w s) (V : Valid s) : StAt w 44 2 3 5 6 s.2.1.1 s.2.2.1.1.1 (nIf s.2.1.2) (nIf s.2.2.1.1.2) s.2.1.2 s.2.2.1.1.2 :=
  ⟨C.sc.2.1, by decide, C.dr, C.rp, fun _ _ => rfl, fun _ _ => rfl, V.2.2.1, V.2.2.2.1.1⟩
def sp_open (s : CSt) (x t : Int32) : Int32 := if (0 ≤ x ∧ x < nI s.2.1.1) ∧ (0 ≤ t ∧ t < nI 1000) then nI (if opnB s.2.1.2 (cl x) (cl t) then 1 else 0) else -1
theorem c_open (C : CityAt w s) (V : Valid s) (x t : Int32) : Cl X (d + 3) 59 [.ref 0, .int x, .int t] w Q = Q (some (.int (sp_open s x t))) w := by
  have h8 := C.dr.2.2.2.2.1
  have S := C.st V
  rw [e59]
  unfold sp_open
  simp only [s59_0, s59_1, s59_4, s59_5, s59_8, s59_11, s59_12, s59_15, s59_18, s59_19, s59_20, s59_21, s59_24, s59_25, s59_26, s59_29, s59_32, s59_33, s59_36, s59_37, OpV_some, OpN_some, OpA_some, OpR_some, Option.toList_some, Option.toList_none, List.cons_append, List.nil_append, true_and, and_true, nI11, or_true, true_or, or_false, false_or, C.f2, C.f9, C.dr.cl, S.cl, rows_has C.dr, c_minute, nI_ite, show (0 : Nat) < 1000 by decide, show (2 : Nat) < 1000 by decide, show (44 : Nat) < 1000 by decide, rng_le t 999 (by decide)]
  rcases ix x (n := s.2.1.1) (by omega) with ⟨j, hj, rfl⟩ | hx
  · have hx := ix_in hj (by omega)
    rcases ix t (n := 1000) (by decide) with ⟨k, hk, rfl⟩ | hy
    · have hy := ix_in hk (by decide)
      simp only [hx, hy, and_self, not_true, if_false, if_true, st_isOpen S hj (show k < 2 ^ 30 by omega), nI_ite, OpV_some, OpN_some, OpA_some, OpR_some, Option.toList_some, Option.toList_none, List.cons_append, List.nil_append, true_and, and_true, nI11, or_true, true_or, or_false, false_or, s59_0, s59_1, s59_4, s59_5, s59_8, s59_11, s59_12, s59_15, s59_18, s59_19, s59_20, s59_21, s59_24, s59_25, s59_26, s59_29, s59_32, s59_33, s59_36, s59_37, cl_of (show j < 2 ^ 31 by omega), cl_of (show k < 2 ^ 31 by omega)]
      by_cases ho : opnB s.2.1.2 j k = true
      · simp only [ho, not_true, if_true, if_false]
      · simp only [ho, not_false_eq_true, if_true, if_false, Bool.false_eq_true]
    · simp only [hx, hy, and_false, and_self, not_true, not_false_eq_true, if_false, if_true]
  · simp only [hx, false_and, not_false_eq_true, if_true, if_false]
/-- saw -/
def sp_saw (s : CSt) (x t : Int32) : Int32 × CSt := if (0 ≤ x ∧ x < nI s.2.1.1) ∧ (0 ≤ t ∧ t < nI 1000) then (if s.2.2.2.1.1 < 6 then (nI (s.2.2.2.1.1 + 1), st_seen s (s.2.2.2.1.1 + 1, upN (upN s.2.2.2.1.2 (s.2.2.2.1.1 * 2) (cl x)) (s.2.2.2.1.1 * 2 + 1) (cl t))) else (-3, s)) else (-1, s)
theorem c_saw (C : CityAt w s) (x t : Int32) (hQ : ∀ u, CityAt u (sp_saw s x t).2 → agr w u (List.range 57) → Q (some (.int (sp_saw s x t).1)) u) : Cl X (d + 3) 70 [.ref 0, .int x, .int t] w Q := by
  have h8 := C.dr.2.2.2.2.1
  have h6 := C.sn.2.2.2.2.1
  rw [e70]
  unfold sp_saw at hQ
  simp only [s70_0, s70_1, s70_4, s70_5, s70_8, s70_11, s70_12, s70_15, s70_18, s70_19, s70_20, s70_21, s70_24, s70_27, s70_30, s70_32, s70_33, s70_34, s70_37, s70_38, s70_41, s70_44, s70_45, s70_46, s70_47, s70_48, s70_51, s70_52, s70_55, s70_56, s70_59, s70_62, s70_63, s70_64, s70_65, s70_66, s70_69, s70_70, s70_73, s70_76, OpV_some, OpN_some, OpA_some, OpR_some, Option.toList_some, Option.toList_none, List.cons_append, List.nil_append, true_and, and_true, nI11, or_true, true_or, or_false, false_or, C.f2, C.f4, C.dr.cl, C.sn.cl, rows_has C.dr, c_minute, rows_add C.sn, nI_ite, show (0 : Nat) < 1000 by decide, show (2 : Nat) < 1000 by decide, show (13 : Nat) < 1000 by decide, rng_le t 999 (by decide), nI1z, nI0z]
  rcases ix x (n := s.2.1.1) (by omega) with ⟨j, hj, rfl⟩ | hx
  · have hx := ix_in hj (by omega)
    rcases ix t (n := 1000) (by decide) with ⟨k, hk, rfl⟩ | hy
    · have hy := ix_in hk (by decide)
      by_cases h : s.2.2.2.1.1 < 6
      · have hA := C.sn.onS (s := s.2.2.2.1.1 + 1) (by omega)
        have hB := hA.onA (nIf (upN s.2.2.2.1.2 (s.2.2.2.1.1 * 2) j))
        have f4 : ∀ c, am_fld (rsz w 13 14 6 2 c) 0 7 4 = some (.ref 13) := fun c => fld_at ((set_ne (by decide)).trans C.o)
        have f4' : ∀ c f, am_fld (rar (rsz w 13 14 6 2 c) 14 (6 * 2) f) 0 7 4 = some (.ref 13) := fun c f => fld_at (((set_ne (by decide)).trans (set_ne (by decide))).trans C.o)
        have f4'' : ∀ c f f2, am_fld (rar (rar (rsz w 13 14 6 2 c) 14 (6 * 2) f) 14 (6 * 2) f2) 0 7 4 = some (.ref 13) := fun c f f2 => fld_at ((((set_ne (by decide)).trans (set_ne (by decide))).trans (set_ne (by decide))).trans C.o)
        have hC := hB.onA (nIf (upN (upN s.2.2.2.1.2 (s.2.2.2.1.1 * 2) j) (s.2.2.2.1.1 * 2 + 1) k))
        have s0 : ∀ v : Nat, Cl X (d + 2) 35 [.ref 13, .int (nI s.2.2.2.1.1), .int (nI 0), .int (nI v)] (rsz w 13 14 6 2 (s.2.2.2.1.1 + 1)) = fun Q => Q none (rar (rsz w 13 14 6 2 (s.2.2.2.1.1 + 1)) 14 (6 * 2) (nIf (upN s.2.2.2.1.2 (s.2.2.2.1.1 * 2) v))) := fun v => funext fun Q => rows_setN hA (by omega) (by decide)
        simp only [hx, hy, h, and_self, if_true, cl_of (show j < 2 ^ 31 by omega), cl_of (show k < 2 ^ 31 by omega)] at hQ
        simp only [hx, hy, h, and_self, not_true, if_false, if_true, OpV_some, OpN_some, OpA_some, OpR_some, Option.toList_some, Option.toList_none, List.cons_append, List.nil_append, true_and, and_true, nI11, or_true, true_or, or_false, false_or, s70_0, s70_1, s70_4, s70_5, s70_8, s70_11, s70_12, s70_15, s70_18, s70_19, s70_20, s70_21, s70_24, s70_27, s70_30, s70_32, s70_33, s70_34, s70_37, s70_38, s70_41, s70_44, s70_45, s70_46, s70_47, s70_48, s70_51, s70_52, s70_55, s70_56, s70_59, s70_62, s70_63, s70_64, s70_65, s70_66, s70_69, s70_70, s70_73, s70_76, f4, f4', f4'', hA.f3, hA.cl, nI_subN (show 1 ≤ s.2.2.2.1.1 + 1 by omega), Nat.add_sub_cancel, s0, hB.f3, hB.cl, rows_setN hB (show s.2.2.2.1.1 < s.2.2.2.1.1 + 1 by omega) (show 1 < 2 by decide), hC.f3, show (0 : Nat) < 1000 by decide, show (13 : Nat) < 1000 by decide]
        have ag : agr w (rar (rar (rsz w 13 14 6 2 (s.2.2.2.1.1 + 1)) 14 (6 * 2) (nIf (upN s.2.2.2.1.2 (s.2.2.2.1.1 * 2) j))) 14 (6 * 2) (nIf (upN (upN s.2.2.2.1.2 (s.2.2.2.1.1 * 2) j) (s.2.2.2.1.1 * 2 + 1) k))) [13, 14] := (((agr.rf w _).st (by decide) _).st (by decide) _).st (by decide) _
        exact hQ _ (C.onSeen ag hC) (ag.mo (by decide))
      · simp only [hx, hy, h, and_self, if_true, if_false] at hQ
        simp only [hx, hy, h, and_self, not_true, if_false, if_true]
        exact hQ w C (agr.rf w _)
    · simp only [hx, hy, and_false, if_false] at hQ
      simp only [hx, hy, and_self, not_true, not_false_eq_true, if_false, if_true]
      exact hQ w C (agr.rf w _)
  · simp only [hx, false_and, if_false] at hQ
    simp only [hx, not_false_eq_true, if_true]
    exact hQ w C (agr.rf w _)
end VALID
