/-! one choice of drifts, whole; the same by other cells behind the ropes -/
theorem drf_cg {L g : Nat → Nat} {nR base : Nat} : ∀ (n i l : Nat) (f f' : Nat → Nat), (∀ q, q < 40 → f q = f' q) → ∀ q, q < 40 → drf L g nR base n i l f q = drf L g nR base n i l f' q
  | 0, i, l, f, f', h, q, hq => h q hq
  | n + 1, i, l, f, f', h, q, hq => by
    unfold drf
    refine drf_cg n (i + 1) _ _ _ (fun q hq => ?_) q hq
    split
    · unfold upN
      split
      · rfl
      · exact h q hq
    · exact h q hq
theorem RopeOK.up2 {g : Nat → Nat} {nR nS k v : Nat} (h : RopeOK g nR nS) (h1 : 1 ≤ v) (h9 : v ≤ 11) : RopeOK (upN g (k * 5 + 2) v) nR nS := by
  refine ⟨h.1, fun q hq => ?_⟩
  obtain ⟨a1, a2, a3, a4, a5, a6, a7⟩ := h.2 q hq
  have c0 : q * 5 ≠ k * 5 + 2 := by omega
  have c1 : q * 5 + 1 ≠ k * 5 + 2 := by omega
  have c3 : q * 5 + 3 ≠ k * 5 + 2 := by omega
  have c4 : q * 5 + 4 ≠ k * 5 + 2 := by omega
  unfold upN
  simp only [c0, c1, c3, c4, if_false]
  refine ⟨a1, a2, a3, ?_, ?_, a6, a7⟩
  · split <;> omega
  · split <;> omega
theorem drf_ok {L g : Nat → Nat} {nR nS base : Nat} (hg : RopeOK g nR nS) (h9 : ∀ k, k < nR → g (k * 5 + 2) ≤ 9) (hb0 : 0 < base) (hb3 : base ≤ 3) : ∀ (n i l : Nat) (f : Nat → Nat), RopeOK f nR nS → RopeOK (drf L g nR base n i l f) nR nS
  | 0, i, l, f, h => h
  | n + 1, i, l, f, h => by
    unfold drf
    refine drf_ok hg h9 hb0 hb3 n (i + 1) _ _ ?_
    split
    · rename_i hk
      have a1 := (hg.2 _ hk).2.2.2.1
      have a2 := h9 _ hk
      have a3 := Nat.mod_lt l hb0
      exact h.up2 (by omega) (by omega)
    · exact h
theorem rdg_gcg {h g g' : Nat → Nat} {k : Nat} (hk : k < 8) (hg : ∀ q, q < 40 → g q = g' q) : ∀ (n e s : Nat), rdg h g k n e s = rdg h g' k n e s
  | 0, e, s => rfl
  | n + 1, e, s => by
    have ho : oth g k s = oth g' k s := by unfold oth; rw [hg (k * 5) (by omega), hg (k * 5 + 1) (by omega)]
    unfold rdg
    rw [ho, hg (k * 5 + 2) (by omega), rdg_gcg hk hg n]
theorem rid_gcg {h g g' : Nat → Nat} {k : Nat} (hk : k < 8) (hg : ∀ q, q < 40 → g q = g' q) (G s t : Nat) : rid h g k G s t = rid h g' k G s t := by
  have hf : fat g k s t = fat g' k s t := by unfold fat; rw [hg (k * 5) (by omega), hg (k * 5 + 2) (by omega), hg (k * 5 + 3) (by omega)]
  unfold rid
  rw [hf, rdg_gcg hk hg]
theorem flw_gcg {h g g' : Nat → Nat} {nR G sz : Nat} {F : Nat → Nat} (hF : ∀ q, q < sz → F q < 8) (hg : ∀ q, q < 40 → g q = g' q) : ∀ (n j si mi : Nat), j + n ≤ sz → flw h g nR G F sz n j si mi = flw h g' nR G F sz n j si mi
  | 0, j, si, mi, e => rfl
  | n + 1, j, si, mi, e => by
    have hk := hF (sz - 1 - j) (by omega)
    have hc : canB g nR (F (sz - 1 - j)) si = canB g' nR (F (sz - 1 - j)) si := by
      unfold canB; rw [hg (F (sz - 1 - j) * 5) (by omega), hg (F (sz - 1 - j) * 5 + 1) (by omega), hg (F (sz - 1 - j) * 5 + 4) (by omega)]
    unfold flw
    rw [hc, rid_gcg hk hg, flw_gcg hF hg n (j + 1) _ _ (by omega)]
section DRIFT3
variable {X : am_X} {d : Nat} {Q : am_Q} {w : am_W} {s : CSt}
theorem c_dby {L : Nat → Nat} {ch un dd : Nat} (hun : un ≤ 4) (h8 : ∀ q, q < un → L q < 8) (hd : dd ≤ 2) (hch : ch < 2 ^ 31) (V : Valid s) (C : CityAt w s) (hL : w[56]? = some (.inl (0, 4, .inl (nIf L))))
    (hQ : ∀ v f, CityAt v s → RowsAt v 46 47 8 5 s.2.2.1.1.1 (nIf f) → (∀ q, q < 40 → drf L s.2.2.1.1.2 s.2.2.1.1.1 (dd + 1) un 0 ch s.2.2.1.1.2 q = f q) → agr w v [46, 47] → Q none v) : Cl X (d + 3) 81 [.ref 0, .int (nI ch), .int (nI un), .int (nI dd)] w Q := by
  have hr8 := C.rp.2.2.2.2.1
  obtain ⟨n, f, R⟩ := C.tr
  have hcp : ∀ Q : am_Q, Cl X (d + 2) 41 [.ref 46, .ref 5] w Q = Q none (rar (rsz w 46 47 8 5 s.2.2.1.1.1) 47 (8 * 5) (nIf (cpN s.2.2.1.1.2 f 40))) := fun Q => by
    rw [rows_copy (d := d) R C.rp (by decide) (by decide) (by decide) (by decide), cpy_nIf]
  have R1 : RowsAt (rar (rsz w 46 47 8 5 s.2.2.1.1.1) 47 (8 * 5) (nIf (cpN s.2.2.1.1.2 f 40))) 46 47 8 5 s.2.2.1.1.1 (nIf (cpN s.2.2.1.1.2 f 40)) := (R.onS hr8).onA _
  have ag1 : agr w (rar (rsz w 46 47 8 5 s.2.2.1.1.1) 47 (8 * 5) (nIf (cpN s.2.2.1.1.2 f 40))) [46, 47] := ((agr.rf w _).st (by decide) _).st (by decide) _
  have C1 := C.onTr ag1 R1
  rw [e81]
  simp only [s81_0, s81_1, s81_4, s81_7, s81_8, s81_11, s81_14, s81_17, s81_18, s81_19, s81_20, s81_21, s81_24, s81_26, s81_27, s81_29, s81_30, s81_34, s81_35, s81_38, s81_40, s81_41, s81_44, s81_45, s81_48, s81_49, s81_52, s81_54, s81_55, s81_57, s81_58, s81_61, s81_64, s81_66, s81_67, s81_68, s81_71, s81_74, s81_76, s81_77, s81_80, s81_82, s81_84, s81_85, s81_86, s81_89, s81_91, s81_93, s81_94, s81_96, s81_99, s81_102, OpV_some, OpN_some, OpA_some, OpR_some, Option.toList_some, Option.toList_none, List.cons_append, List.nil_append, true_and, and_true, nI11, or_true, true_or, or_false, false_or, C.f3, C.n0, C.f10, C.t1, R.cl, hcp, math_max, nI_add, imax_nI (show 1 < 2 ^ 31 by decide) (show dd + 1 < 2 ^ 31 by omega), Nat.max_eq_right (show 1 ≤ dd + 1 by omega), show (0 : Nat) < 1000 by decide, show (4 : Nat) < 1000 by decide, show (45 : Nat) < 1000 by decide, show (46 : Nat) < 1000 by decide]
  refine c_dby_loop hun h8 (by omega) (by omega) V un 0 ch _ _ _ (by omega) hch C1 R1 ((ag1.2 56 (by decide)).trans hL) ag1 fun v Cv Rv ag => hQ v _ Cv Rv (fun q hq => ?_) ag
  refine drf_cg un 0 ch _ _ (fun q hq => ?_) q hq
  unfold cpN
  rw [if_pos hq]
end DRIFT3
