/-! drift: its loop over the choices, and whole -/
section DRIFT5
variable {X : am_X} {d : Nat} {Q : am_Q} {w : am_W} {s : CSt}
theorem c_drift_loop {x : Int32} {G a t dd y N : Nat} {F L : Nat → Nat} (V : Valid s) (hx : (rtv 4 x).1 = true) (hF : ∀ q, q < (rtv 4 x).2.1 → F q = (rtv 4 x).2.2 q) (hL1 : ∀ q, q < (dun x).1 → L q = (dun x).2 q) (hG : G ≤ 5) (ha : a < s.2.1.1) (ht : t < 1000) (hd : dd ≤ 2) (hy : y < 2) (hN : N < 10000) :
    ∀ (n ch : Nat) (acc : Option (Nat × Nat)) (mi si : Nat) (u : am_W), ch + n = N → dOK acc → CityAt u s → RtAt u (rtv 4 x).2.1 F (rtv 4 x).2.1 mi si → u[56]? = some (.inl (0, 4, .inl (nIf L))) → agr w u [46, 47, 49, 50, 51, 52, 56] →
    (∀ v, CityAt v s → agr w v [46, 47, 49, 50, 51, 52, 56] → Q (some (.int (if y = 0 then mLo (drl s x G a t dd n ch acc) else mHi (drl s x G a t dd n ch acc)))) v) →
    Wp X (Cl X (d + 4)) 68 Q (89, [some (.ref 0), some (.int (nI G)), some (.int (nI a)), some (.int (nI t)), some (.int x), some (.int (nI dd)), some (.int (nI y)), some (.int (nI (dun x).1)), some (.int (nI N)), some (.int (mLo acc)), some (.int (mHi acc)), some (.int (nI ch))], [], u, 0, 0)
  | 0, ch, acc, mi, si, u, e, hok, C, R, hL, ag, hQ => by
    have hQ' := hQ u C ag
    simp only [drl] at hQ'
    rw [s68_89]
    simp only [s68_91, s68_93, s68_96, s68_181, s68_183, s68_186, s68_188, s68_191, s68_193, OpV_some, OpN_some, OpA_some, OpR_some, Option.toList_some, Option.toList_none, List.cons_append, List.nil_append, true_and, and_true, nI11, or_true, true_or, or_false, false_or, nI_ltN (show ch < 2 ^ 31 by omega) (show N < 2 ^ 31 by omega), show ¬ ch < N by omega, if_false, nI_eq0 (show y < 2 ^ 31 by omega)]
    by_cases h0 : y = 0
    · simp only [h0, if_true] at hQ' ⊢
      exact hQ'
    · simp only [h0, if_false] at hQ' ⊢
      exact hQ'
  | n + 1, ch, acc, mi, si, u, e, hok, C, R, hL, ag, hQ => by
    obtain ⟨k4, k8⟩ := rtv_ok hx
    obtain ⟨u4, u8⟩ := lus_ok k8 (rtv 4 x).2.1 0 0 (fun _ => 0) (by omega) (by omega) (by omega)
    have u4' : (dun x).1 ≤ (rtv 4 x).2.1 := u4
    have hL8 : ∀ q, q < (dun x).1 → L q < 8 := fun q hq => by rw [hL1 q hq]; exact u8 q hq
    have hLd := drf_Lcg (g := s.2.2.1.1.2) (nR := s.2.2.1.1.1) (base := dd + 1) (dun x).1 0 ch s.2.2.1.1.2 (fun q hq => hL1 q (by omega))
    simp only [drl] at hQ
    rw [s68_89]
    simp only [s68_91, s68_93, s68_96, s68_97, s68_99, s68_101, s68_103, OpV_some, OpN_some, OpA_some, OpR_some, Option.toList_some, Option.toList_none, List.cons_append, List.nil_append, true_and, and_true, nI11, or_true, true_or, or_false, false_or, nI_ltN (show ch < 2 ^ 31 by omega) (show N < 2 ^ 31 by omega), show ch < N by omega, if_true, cls_at C.o, show (0 : Nat) < 1000 by decide]
    refine c_dby (by omega) hL8 hd (by omega) V C hL fun v f Cv Rv hf agv => ?_
    rw [hLd] at hf
    have RvT := R.ag agv (by decide) (by decide) (by decide) (by decide)
    have hLv := (agv.2 56 (by decide)).trans hL
    have hok2 : RopeOK f s.2.2.1.1.1 s.2.1.1 := (drf_ok V.2.2.2.1.1 V.2.2.2.1.2.1 (by omega) (by omega) _ _ _ _ V.2.2.2.1.1).cg hf
    have S := Cv.st45 V Rv hok2
    simp only [s68_106, s68_107, s68_110, s68_111, s68_114, s68_115, s68_116, s68_117, OpV_some, OpN_some, OpA_some, OpR_some, Option.toList_some, Option.toList_none, List.cons_append, List.nil_append, true_and, and_true, nI11, or_true, true_or, or_false, false_or, Cv.f12, Cv.f10, RvT.cl, show (0 : Nat) < 1000 by decide, show (49 : Nat) < 1000 by decide]
    refine c_follow Cv S ⟨by decide, by decide, by decide, by decide, by decide⟩ ⟨by decide, by decide, by decide, by decide, by decide⟩ hG RvT hF k8 ha ht fun z agz Cz Rz => ?_
    have efl : flw s.2.1.2 f s.2.2.1.1.1 G (rtv 4 x).2.2 (rtv 4 x).2.1 (rtv 4 x).2.1 0 a t = dflw s x G a t dd ch := (flw_gcg k8 hf _ 0 a t (by omega)).symm
    rw [efl] at Rz ⊢
    have hm : (dflw s x G a t dd ch).2.2 < 1000 := flw_mi _ _ _ _ ht
    have hle : (dflw s x G a t dd ch).1 ≤ 0 + (rtv 4 x).2.1 := flw_le _ _ _ _
    have hLz := (agz.2 56 (by decide)).trans hLv
    have agw : agr w z [46, 47, 49, 50, 51, 52, 56] := (ag.tr (agv.mo (by decide))).tr (agz.mo (by decide))
    have loop := fun acc (h : dOK acc) => c_drift_loop V hx hF hL1 hG ha ht hd hy hN n (ch + 1) acc _ _ z (by omega) h Cz Rz hLz agw
    simp only [s68_120, s68_121, s68_124, s68_127, s68_130, OpV_some, OpN_some, OpA_some, OpR_some, Option.toList_some, Option.toList_none, List.cons_append, List.nil_append, true_and, and_true, nI11, or_true, true_or, or_false, false_or, Cz.f12, Rz.f2, nI_eqN (show (dflw s x G a t dd ch).1 < 2 ^ 31 by omega) (show (rtv 4 x).2.1 < 2 ^ 31 by omega), show (0 : Nat) < 1000 by decide, show (49 : Nat) < 1000 by decide]
    by_cases hz : (dflw s x G a t dd ch).1 = (rtv 4 x).2.1
    · simp only [hz, if_true] at hQ ⊢
      cases acc with
      | none =>
        have e1 : mLo none = -9 := rfl
        simp only [e1, s68_132, s68_134, s68_137, s68_138, s68_141, s68_144, s68_147, s68_149, s68_150, s68_153, s68_156, s68_159, s68_161, s68_163, s68_164, s68_167, s68_170, s68_173, s68_175, s68_178, OpV_some, OpN_some, OpA_some, OpR_some, Option.toList_some, Option.toList_none, List.cons_append, List.nil_append, true_and, and_true, nI11, or_true, true_or, or_false, false_or, Cz.f12, Rz.f3, math_max, mHi_max hok hm, nI_add, if_true, show (0 : Nat) < 1000 by decide, show (49 : Nat) < 1000 by decide]
        exact loop _ (dacc_ok hok hm) hQ
      | some p =>
        have e1 : (mLo (some p) = -9) = False := nI_n9 hok.1
        simp only [e1, s68_132, s68_134, s68_137, s68_138, s68_141, s68_144, s68_147, s68_149, s68_150, s68_153, s68_156, s68_159, s68_161, s68_163, s68_164, s68_167, s68_170, s68_173, s68_175, s68_178, OpV_some, OpN_some, OpA_some, OpR_some, Option.toList_some, Option.toList_none, List.cons_append, List.nil_append, true_and, and_true, nI11, or_true, true_or, or_false, false_or, Cz.f12, Rz.f3, math_max, math_min, mHi_max hok hm, mLo_min hok hm, nI_add, if_false, show (0 : Nat) < 1000 by decide, show (49 : Nat) < 1000 by decide]
        exact loop _ (dacc_ok hok hm) hQ
    · simp only [hz, if_false] at hQ ⊢
      simp only [s68_175, s68_178, OpV_some, OpN_some, OpA_some, OpR_some, Option.toList_some, Option.toList_none, List.cons_append, List.nil_append, true_and, and_true, nI11, or_true, true_or, or_false, false_or, nI_add]
      exact loop _ hok hQ
def sp_drift (s : CSt) (G a t x dd y : Int32) : Int32 :=
  if askB s G a t y ∧ (0 ≤ dd ∧ dd < nI 3) ∧ (rtv 4 x).1 = true then
    (if cl y = 0 then mLo (drl s x (cl G) (cl a) (cl t) (cl dd) ((cl dd + 1) ^ (dun x).1) 0 none) else mHi (drl s x (cl G) (cl a) (cl t) (cl dd) ((cl dd + 1) ^ (dun x).1) 0 none))
  else -1
end DRIFT5
