/-! drift: its loop over the choices, and whole -/
section DRIFT5
variable {X : am_X} {d : Nat} {Q : am_Q} {w : am_W} {s : CSt}
theorem c_drift_loop {x : Int32} {G a t dd y N : Nat} {F L : Nat → Nat} (V : Valid s) (hx : (rtv 4 x).1 = true) (hF : ∀ q, q < (rtv 4 x).2.1 → F q = (rtv 4 x).2.2 q) (hL1 : ∀ q, q < (dun x).1 → L q = (dun x).2 q) (hG : G ≤ 5) (ha : a < s.2.1.1) (ht : t < 1000) (hd : dd ≤ 2) (hy : y < 2) (hN : N < 10000) :
    ∀ (n ch : Nat) (acc : Option (Nat × Nat)) (mi si : Nat) (u : am_W), ch + n = N → dOK acc → CityAt u s → RtAt u (rtv 4 x).2.1 F (rtv 4 x).2.1 mi si → u[56]? = some (.inl (0, 4, .inl (nIf L))) → agr w u [46, 47, 49, 50, 51, 52, 56] →
    (∀ v, CityAt v s → agr w v [46, 47, 49, 50, 51, 52, 56] → Q (some (.int (if y = 0 then mLo (drl s x G a t dd n ch acc) else mHi (drl s x G a t dd n ch acc)))) v) →
    Wp X (Cl X (d + 4)) 68 Q (89, [some (.ref 0), some (.int (nI G)), some (.int (nI a)), some (.int (nI t)), some (.int x), some (.int (nI dd)), some (.int (nI y)), some (.int (nI (dun x).1)), some (.int (nI N)), some (.int (mLo acc)), some (.int (mHi acc)), some (.int (nI ch))], [], u, 0, 0)
  | 0, ch, acc, mi, si, u, e, hok, C, R, hL, ag, hQ => by
    have hQ' := hQ u C ag
    simp only [drl] at hQ'
    rw [s68_89]
    simp only [s68_91, s68_93, s68_96, s68_181, s68_183, s68_186, s68_188, s68_191, s68_193, OpV_some, OpN_some, OpA_some, OpR_some, Option.toList_some, Option.toList_none, List.cons_append, List.nil_append, true_and, and_true, nI11, or_true, true_or, or_false, false_or, nI_ltN (show ch < 2 ^ 31 by omega) (show N < 2 ^ 31 by omega), show ¬ ch < N by omega, if_false, nI_eq0 (show y < 2 ^ 31 by omega)]
    by_cases h0 : y = 0
    · simp only [h0, if_true] at hQ' ⊢
      exact hQ'
    · simp only [h0, if_false] at hQ' ⊢
      exact hQ'
  | n + 1, ch, acc, mi, si, u, e, hok, C, R, hL, ag, hQ => by
    obtain ⟨k4, k8⟩ := rtv_ok hx
    obtain ⟨u4, u8⟩ := lus_ok k8 (rtv 4 x).2.1 0 0 (fun _ => 0) (by omega) (by omega) (by omega)
    have u4' : (dun x).1 ≤ (rtv 4 x).2.1 := u4
    have hL8 : ∀ q, q < (dun x).1 → L q < 8 := fun q hq => by rw [hL1 q hq]; exact u8 q hq
    have hLd := drf_Lcg (g := s.2.2.1.1.2) (nR := s.2.2.1.1.1) (base := dd + 1) (dun x).1 0 ch s.2.2.1.1.2 (fun q hq => hL1 q (by omega))
    simp only [drl] at hQ
    rw [s68_89]
    simp only [s68_91, s68_93, s68_96, s68_97, s68_99, s68_101, s68_103, OpV_some, OpN_some, OpA_some, OpR_some, Option.toList_some, Option.toList_none, List.cons_append, List.nil_append, true_and, and_true, nI11, or_true, true_or, or_false, false_or, nI_ltN (show ch < 2 ^ 31 by omega) (show N < 2 ^ 31 by omega), show ch < N by omega, if_true, cls_at C.o, show (0 : Nat) < 1000 by decide]
    refine c_dby (by omega) hL8 hd (by omega) V C hL fun v f Cv Rv hf agv => ?_
    rw [hLd] at hf
    have RvT := R.ag agv (by decide) (by decide) (by decide) (by decide)
    have hLv := (agv.2 56 (by decide)).trans hL
    have hok2 : RopeOK f s.2.2.1.1.1 s.2.1.1 := (drf_ok V.2.2.2.1.1 V.2.2.2.1.2.1 (by omega) (by omega) _ _ _ _ V.2.2.2.1.1).cg hf
    have S := Cv.st45 V Rv hok2
    simp only [s68_106, s68_107, s68_110, s68_111, s68_114, s68_115, s68_116, s68_117, OpV_some, OpN_some, OpA_some, OpR_some, Option.toList_some, Option.toList_none, List.cons_append, List.nil_append, true_and, and_true, nI11, or_true, true_or, or_false, false_or, Cv.f12, Cv.f10, RvT.cl, show (0 : Nat) < 1000 by decide, show (49 : Nat) < 1000 by decide]
    refine c_follow Cv S ⟨by decide, by decide, by decide, by decide, by decide⟩ ⟨by decide, by decide, by decide, by decide, by decide⟩ hG RvT hF k8 ha ht fun z agz Cz Rz => ?_
    have efl : flw s.2.1.2 f s.2.2.1.1.1 G (rtv 4 x).2.2 (rtv 4 x).2.1 (rtv 4 x).2.1 0 a t = dflw s x G a t dd ch := (flw_gcg k8 hf _ 0 a t (by omega)).symm
    rw [efl] at Rz ⊢
    have hm : (dflw s x G a t dd ch).2.2 < 1000 := flw_mi _ _ _ _ ht
    have hle : (dflw s x G a t dd ch).1 ≤ 0 + (rtv 4 x).2.1 := flw_le _ _ _ _
    have hLz := (agz.2 56 (by decide)).trans hLv
    have agw : agr w z [46, 47, 49, 50, 51, 52, 56] := (ag.tr (agv.mo (by decide))).tr (agz.mo (by decide))
    have loop := fun acc (h : dOK acc) => c_drift_loop V hx hF hL1 hG ha ht hd hy hN n (ch + 1) acc _ _ z (by omega) h Cz Rz hLz agw
    simp only [s68_120, s68_121, s68_124, s68_127, s68_130, OpV_some, OpN_some, OpA_some, OpR_some, Option.toList_some, Option.toList_none, List.cons_append, List.nil_append, true_and, and_true, nI11, or_true, true_or, or_false, false_or, Cz.f12, Rz.f2, nI_eqN (show (dflw s x G a t dd ch).1 < 2 ^ 31 by omega) (show (rtv 4 x).2.1 < 2 ^ 31 by omega), show (0 : Nat) < 1000 by decide, show (49 : Nat) < 1000 by decide]
    by_cases hz : (dflw s x G a t dd ch).1 = (rtv 4 x).2.1
    · simp only [hz, if_true] at hQ ⊢
      cases acc with
      | none =>
        have e1 : mLo none = -9 := rfl
        simp only [e1, s68_132, s68_134, s68_137, s68_138, s68_141, s68_144, s68_147, s68_149, s68_150, s68_153, s68_156, s68_159, s68_161, s68_163, s68_164, s68_167, s68_170, s68_173, s68_175, s68_178, OpV_some, OpN_some, OpA_some, OpR_some, Option.toList_some, Option.toList_none, List.cons_append, List.nil_append, true_and, and_true, nI11, or_true, true_or, or_false, false_or, Cz.f12, Rz.f3, math_max, mHi_max hok hm, nI_add, if_true, show (0 : Nat) < 1000 by decide, show (49 : Nat) < 1000 by decide]
        exact loop _ (dacc_ok hok hm) hQ
      | some p =>
        have e1 : (mLo (some p) = -9) = False := nI_n9 hok.1
        simp only [e1, s68_132, s68_134, s68_137, s68_138, s68_141, s68_144, s68_147, s68_149, s68_150, s68_153, s68_156, s68_159, s68_161, s68_163, s68_164, s68_167, s68_170, s68_173, s68_175, s68_178, OpV_some, OpN_some, OpA_some, OpR_some, Option.toList_some, Option.toList_none, List.cons_append, List.nil_append, true_and, and_true, nI11, or_true, true_or, or_false, false_or, Cz.f12, Rz.f3, math_max, math_min, mHi_max hok hm, mLo_min hok hm, nI_add, if_false, show (0 : Nat) < 1000 by decide, show (49 : Nat) < 1000 by decide]
        exact loop _ (dacc_ok hok hm) hQ
    · simp only [hz, if_false] at hQ ⊢
      simp only [s68_175, s68_178, OpV_some, OpN_some, OpA_some, OpR_some, Option.toList_some, Option.toList_none, List.cons_append, List.nil_append, true_and, and_true, nI11, or_true, true_or, or_false, false_or, nI_add]
      exact loop _ hok hQ
def sp_drift (s : CSt) (G a t x dd y : Int32) : Int32 :=
  if askB s G a t y ∧ (0 ≤ dd ∧ dd < nI 3) ∧ (rtv 4 x).1 = true then
    (if cl y = 0 then mLo (drl s x (cl G) (cl a) (cl t) (cl dd) ((cl dd + 1) ^ (dun x).1) 0 none) else mHi (drl s x (cl G) (cl a) (cl t) (cl dd) ((cl dd + 1) ^ (dun x).1) 0 none))
  else -1
theorem pow_le {b n : Nat} (hb : b ≤ 3) (hn : n ≤ 4) : b ^ n < 10000 := by
  have h1 : b ^ n ≤ 3 ^ n := Nat.pow_le_pow_left hb n
  have h2 : 3 ^ n ≤ 3 ^ 4 := Nat.pow_le_pow_right (by decide) hn
  have h3 : 3 ^ 4 = 81 := by decide
  omega
theorem c_drift (C : CityAt w s) (V : Valid s) (G a t x dd y : Int32) (hQ : ∀ u, CityAt u s → agr w u (List.range 57) → Q (some (.int (sp_drift s G a t x dd y))) u) : Cl X (d + 5) 68 [.ref 0, .int G, .int a, .int t, .int x, .int dd, .int y] w Q := by
  have h8 := C.dr.2.2.2.2.1
  rw [e68]
  unfold sp_drift at hQ
  simp only [s68_0, s68_1, s68_2, s68_3, s68_4, s68_6, OpV_some, OpN_some, OpA_some, OpR_some, Option.toList_some, Option.toList_none, List.cons_append, List.nil_append, true_and, and_true, nI11, or_true, true_or, or_false, false_or, cls_at C.o, objC, show (0 : Nat) < 1000 by decide]
  by_cases hA : askB s G a t y
  · simp only [(c_ask C G a t y).1 hA, s68_9, s68_12, s68_14, s68_15, s68_16, s68_19, OpV_some, OpN_some, OpA_some, OpR_some, Option.toList_some, Option.toList_none, List.cons_append, List.nil_append, true_and, and_true, nI11, or_true, true_or, or_false, false_or, b01_1, nI11, c_within, nI_ite, rng_le dd 2 (by decide), show (0 : Nat) < 1000 by decide, show (nI 1 = 0) = False by decide, if_false]
    by_cases hD : 0 ≤ dd ∧ dd < nI 3
    · simp only [hD, and_self, not_true, if_false, s68_22, s68_23, s68_26, s68_28, s68_29, OpV_some, OpN_some, OpA_some, OpR_some, Option.toList_some, Option.toList_none, List.cons_append, List.nil_append, true_and, and_true, nI11, or_true, true_or, or_false, false_or, C.f12, show (0 : Nat) < 1000 by decide]
      obtain ⟨tz, F, sz, mi, si, R⟩ := C.rt
      refine ⟨⟨by decide, R.cl⟩, c_read C (show 4 ≤ 6 by decide) x (fun h0 u ag Cu => ?_) fun h1 u F mi si ag Cu R h6 => ?_⟩
      · simp only [h0, and_false, if_false, Bool.false_eq_true] at hQ
        simp only [s68_32, s68_35, s68_36, OpV_some, OpN_some, OpA_some, OpR_some, Option.toList_some, Option.toList_none, List.cons_append, List.nil_append, true_and, and_true, nI11, or_true, true_or, or_false, false_or, show (nI 0 = 0) = True by decide, if_true]
        exact hQ u Cu (ag.mo (by decide))
      · obtain ⟨k4, k8⟩ := rtv_ok h1
        have hA' := hA
        obtain ⟨⟨hg, ha⟩, ht, hy⟩ := hA'
        obtain ⟨G, g1, g5, rfl⟩ := grip hg
        obtain ⟨a, ha1, rfl⟩ : ∃ j, j < s.2.1.1 ∧ a = nI j := (ix a (by omega)).resolve_right (not_not_intro ha)
        obtain ⟨t, ht1, rfl⟩ : ∃ j, j < 1000 ∧ t = nI j := (ix t (by decide)).resolve_right (not_not_intro ht)
        obtain ⟨y, hy1, rfl⟩ : ∃ j, j < 2 ∧ y = nI j := (ix y (by decide)).resolve_right (not_not_intro hy)
        obtain ⟨dd, hd1, rfl⟩ : ∃ j, j < 3 ∧ dd = nI j := (ix dd (by decide)).resolve_right (not_not_intro hD)
        simp only [askB, hg, ha, ht, hy, hD, h1, and_self, if_true, cl_of (show G < 2 ^ 31 by omega), cl_of (show a < 2 ^ 31 by omega), cl_of (show t < 2 ^ 31 by omega), cl_of (show y < 2 ^ 31 by omega), cl_of (show dd < 2 ^ 31 by omega)] at hQ
        obtain ⟨f9, h9⟩ := Cu.df
        have hF8 : ∀ q, q < (rtv 4 x).2.1 → F q < 8 := fun q hq => by rw [h6 q hq]; exact k8 q hq
        obtain ⟨l1, l2⟩ := lus_cg h6 (rtv 4 x).2.1 0 0 f9 (fun _ => 0) (by omega) (by omega)
        obtain ⟨u4, -⟩ := lus_ok k8 (rtv 4 x).2.1 0 0 (fun _ => 0) (by omega) (by omega) (by omega)
        have u4' : (dun x).1 ≤ (rtv 4 x).2.1 := u4
        simp only [s68_32, s68_35, s68_36, s68_37, s68_38, s68_41, s68_42, s68_45, OpV_some, OpN_some, OpA_some, OpR_some, Option.toList_some, Option.toList_none, List.cons_append, List.nil_append, true_and, and_true, nI11, or_true, true_or, or_false, false_or, Cu.f12, Cu.f14, R.cl, show (nI 1 = 0) = False by decide, if_false, show (0 : Nat) < 1000 by decide, show (49 : Nat) < 1000 by decide]
        refine c_unlike k4 hF8 Cu R h9 fun v Cv Rv hLv agv => ?_
        rw [l1]
        have hpow := c_drift_pow (X := X) (d := d + 4) (Q := Q) (w := v) (G := nI G) (a := nI a) (t := nI t) (x := x) (y := nI y) (dd := dd) (un := (dun x).1) (by omega) none none (dun x).1 0 1 (by omega)
        simp only [s68_48, s68_50, s68_51, s68_53, s68_54, OpV_some, OpN_some, OpA_some, OpR_some, Option.toList_some, Option.toList_none, List.cons_append, List.nil_append, true_and, and_true, nI11, or_true, true_or, or_false, false_or]
        refine Eq.mpr (hpow) ?_
        rw [Nat.one_mul]
        simp only [s68_78, s68_80, s68_82, s68_84, s68_86, s68_87, OpV_some, OpN_some, OpA_some, OpR_some, Option.toList_some, Option.toList_none, List.cons_append, List.nil_append, true_and, and_true, nI11, or_true, true_or, or_false, false_or]
        exact c_drift_loop V h1 h6 (fun q hq => l2 q (by rw [l1]; exact hq)) g5 ha1 ht1 (by omega) hy1 (pow_le (by omega) (by omega)) ((dd + 1) ^ (dun x).1) 0 none _ _ v (Nat.zero_add _) trivial Cv Rv hLv ((ag.mo (by decide)).tr (agv.mo (by decide))) fun z Cz agz => hQ z Cz (agz.mo (by decide))
    · simp only [hD, false_and, and_false, if_false] at hQ
      simp only [hD, not_false_eq_true, if_true, s68_22, s68_23, s68_26, s68_28, s68_29, s68_32, s68_35, s68_36, OpV_some, OpN_some, OpA_some, OpR_some, Option.toList_some, Option.toList_none, List.cons_append, List.nil_append, true_and, and_true, nI11, or_true, true_or, or_false, false_or]
      exact hQ w C (agr.rf w _)
  · simp only [hA, false_and, if_false] at hQ
    simp only [(c_ask C G a t y).2 hA, s68_9, s68_12, s68_14, s68_15, s68_16, s68_19, s68_22, s68_23, s68_26, s68_28, s68_29, s68_32, s68_35, s68_36, OpV_some, OpN_some, OpA_some, OpR_some, Option.toList_some, Option.toList_none, List.cons_append, List.nil_append, true_and, and_true, nI11, or_true, true_or, or_false, false_or, show (nI 0 = 0) = True by decide, if_true]
    exact hQ w C (agr.rf w _)
end DRIFT5
