/-! undo by the reference -/
def unP (f : Nat → Int32) (l w : Nat) (v2 v3 v4 v5 m : Int32) : Nat → Int32 := upd (upd (upd (upd (upd (upd f 32 (nI l)) (4 * w) v2) (4 * w + 1) v3) (4 * w + 2) v4) (4 * w + 3) v5) 93 m
def unS (f : Nat → Int32) (l w : Nat) (v2 v3 : Int32) : Nat → Int32 := upd (upd (upd f 32 (nI l)) (16 + w) v2) (24 + w) v3
section MUNDO
variable {X : am_X} {d : Nat} {Q : am_Q} {u : am_W} {tr : Int64} {a : Nat → Int32} {A : Nat → Nat → Int32} {s : CSt} {f : Nat → Int32} {n : NSt}
theorem unP_R (h : NowR f n) (hP : n.2.1.1 ≤ 4) (hR : n.1.1 ≤ 8) {l : Nat} (hl : n.2.2.1.1 = l + 1) (hD10 : n.2.2.1.1 ≤ 10) (h2 : n.2.2.1.2 (l * 7) ≠ 2) (hw : n.2.2.1.2 (l * 7 + 1) < n.2.1.1) : NowR (unP f l (n.2.2.1.2 (l * 7 + 1)) (f (33 + 6 * l + 2)) (f (33 + 6 * l + 3)) (f (33 + 6 * l + 4)) (f (33 + 6 * l + 5)) (nI (if n.2.2.1.2 (l * 7) = 0 then n.2.2.2.1 - 1 else n.2.2.2.1))) (st_undo n) := by
  obtain ⟨a1, a2, a3, a4, a5, a6⟩ := h
  obtain ⟨d0, d1, d2, d3, d4, d5⟩ := (a4 l (by omega)).1 h2
  have e : n.2.2.1.1 - 1 = l := by omega
  unfold st_undo
  rw [e, if_neg h2, if_neg h2]
  generalize n.2.2.1.2 (l * 7 + 1) = w at hw d1
  have lo : ∀ j, 16 ≤ j → j ≠ 32 → j ≠ 93 → unP f l w (f (33 + 6 * l + 2)) (f (33 + 6 * l + 3)) (f (33 + 6 * l + 4)) (f (33 + 6 * l + 5)) (nI (if n.2.2.1.2 (l * 7) = 0 then n.2.2.2.1 - 1 else n.2.2.2.1)) j = f j := fun j hj h32 h93 => by
    unfold unP
    rw [upd_n _ _ h93, upd_n _ _ (by omega), upd_n _ _ (by omega), upd_n _ _ (by omega), upd_n _ _ (by omega), upd_n _ _ h32]
  refine ⟨fun r hr => ?_, fun k hk => ?_, ?_, fun i hi => ?_, upd_s _ _ _, fun t ht => ?_⟩
  · have hr2 : r < n.2.1.1 := hr
    show _ = nI (tgo l w n.2.2.1.2 5 0 n.2.1.2 (r * 5)) ∧ _ = nI (tgo l w n.2.2.1.2 5 0 n.2.1.2 (r * 5 + 1)) ∧ _ = nI (tgo l w n.2.2.1.2 5 0 n.2.1.2 (r * 5 + 3)) ∧ _ = nI (tgo l w n.2.2.1.2 5 0 n.2.1.2 (r * 5 + 4))
    by_cases q : r = w
    · subst q
      have t0 : tgo l r n.2.2.1.2 5 0 n.2.1.2 (r * 5) = n.2.2.1.2 (l * 7 + 2) := tgo_in (c := 0) (by decide)
      have t1 : tgo l r n.2.2.1.2 5 0 n.2.1.2 (r * 5 + 1) = n.2.2.1.2 (l * 7 + 3) := tgo_in (c := 1) (by decide)
      have t3 : tgo l r n.2.2.1.2 5 0 n.2.1.2 (r * 5 + 3) = n.2.2.1.2 (l * 7 + 5) := tgo_in (c := 3) (by decide)
      have t4 : tgo l r n.2.2.1.2 5 0 n.2.1.2 (r * 5 + 4) = n.2.2.1.2 (l * 7 + 6) := tgo_in (c := 4) (by decide)
      rw [t0, t1, t3, t4, ← d2, ← d3, ← d4, ← d5]
      unfold unP
      refine ⟨?_, ?_, ?_, ?_⟩
      · rw [upd_n _ _ (by omega), upd_n _ _ (by omega), upd_n _ _ (by omega), upd_n _ _ (by omega), upd_s]
      · rw [upd_n _ _ (by omega), upd_n _ _ (by omega), upd_n _ _ (by omega), upd_s]
      · rw [upd_n _ _ (by omega), upd_n _ _ (by omega), upd_s]
      · rw [upd_n _ _ (by omega), upd_s]
    · have t0 : tgo l w n.2.2.1.2 5 0 n.2.1.2 (r * 5) = n.2.1.2 (r * 5) := tgo_out (c := 0) (by decide) q
      rw [t0, tgo_out (by decide) q, tgo_out (by decide) q, tgo_out (by decide) q]
      have hi : ∀ c, c < 4 → unP f l w (f (33 + 6 * l + 2)) (f (33 + 6 * l + 3)) (f (33 + 6 * l + 4)) (f (33 + 6 * l + 5)) (nI (if n.2.2.1.2 (l * 7) = 0 then n.2.2.2.1 - 1 else n.2.2.2.1)) (4 * r + c) = f (4 * r + c) := fun c hc => by
        unfold unP
        rw [upd_n _ _ (by omega), upd_n _ _ (by omega), upd_n _ _ (by omega), upd_n _ _ (by omega), upd_n _ _ (by omega), upd_n _ _ (by omega)]
      have hi0 := hi 0 (by decide)
      simp only [Nat.add_zero] at hi0
      rw [hi0, hi 1 (by decide), hi 2 (by decide), hi 3 (by decide)]
      exact a1 r hr
  · have hk2 : k < n.1.1 := hk
    rw [lo _ (by omega) (by omega) (by omega), lo _ (by omega) (by omega) (by omega)]
    exact a2 k hk
  · unfold unP
    rw [upd_n _ _ (by omega), upd_n _ _ (by omega), upd_n _ _ (by omega), upd_n _ _ (by omega), upd_n _ _ (by omega), upd_s]
  · have hi2 : i < l := hi
    exact DeedR.cg (j := i) (fun c hc => lo _ (by omega) (by omega) (by omega)) (fun c hc => rfl) (a4 i (by omega))
  · have ht2 : t < (if n.2.2.1.2 (l * 7) = 0 then n.2.2.2.1 - 1 else n.2.2.2.1) * 4 := ht
    rw [lo _ (by omega) (by omega) (by omega)]
    refine a6 t ?_
    split at ht2 <;> omega
theorem unS_R (h : NowR f n) (hP : n.2.1.1 ≤ 4) (hR : n.1.1 ≤ 8) {l : Nat} (hl : n.2.2.1.1 = l + 1) (h2 : n.2.2.1.2 (l * 7) = 2) (hw : n.2.2.1.2 (l * 7 + 1) < n.1.1) : NowR (unS f l (n.2.2.1.2 (l * 7 + 1)) (f (33 + 6 * l + 2)) (f (33 + 6 * l + 3))) (st_undo n) := by
  obtain ⟨a1, a2, a3, a4, a5, a6⟩ := h
  obtain ⟨d0, d1, d2, d3⟩ := (a4 l (by omega)).2 h2
  have e : n.2.2.1.1 - 1 = l := by omega
  unfold st_undo
  rw [e, if_pos h2, if_pos h2]
  generalize n.2.2.1.2 (l * 7 + 1) = w at hw d1
  have lo : ∀ j, j < 16 ∨ 33 ≤ j → unS f l w (f (33 + 6 * l + 2)) (f (33 + 6 * l + 3)) j = f j := fun j hj => by
    unfold unS
    rw [upd_n _ _ (by omega), upd_n _ _ (by omega), upd_n _ _ (by omega)]
  refine ⟨fun r hr => ?_, fun k hk => ?_, ?_, fun i hi => ?_, ?_, fun t ht => ?_⟩
  · have hr2 : r < n.2.1.1 := hr
    rw [lo _ (by omega), lo _ (by omega), lo _ (by omega), lo _ (by omega)]
    exact a1 r hr
  · have hk2 : k < n.1.1 := hk
    show _ = nI (tgo l w n.2.2.1.2 5 0 n.1.2 (k * 5 + 3)) ∧ _ = nI (tgo l w n.2.2.1.2 5 0 n.1.2 (k * 5 + 4))
    by_cases q : k = w
    · subst q
      have t3 : tgo l k n.2.2.1.2 5 0 n.1.2 (k * 5 + 3) = n.2.2.1.2 (l * 7 + 5) := tgo_in (c := 3) (by decide)
      have t4 : tgo l k n.2.2.1.2 5 0 n.1.2 (k * 5 + 4) = n.2.2.1.2 (l * 7 + 6) := tgo_in (c := 4) (by decide)
      rw [t3, t4, ← d2, ← d3]
      unfold unS
      exact ⟨by rw [upd_n _ _ (by omega), upd_s], upd_s _ _ _⟩
    · rw [tgo_out (by decide) q, tgo_out (by decide) q]
      unfold unS
      rw [upd_n _ _ (by omega), upd_n _ _ (by omega), upd_n _ _ (by omega), upd_n _ _ (by omega), upd_n _ _ (by omega), upd_n _ _ (by omega)]
      exact a2 k hk
  · unfold unS
    rw [upd_n _ _ (by omega), upd_n _ _ (by omega), upd_s]
  · exact DeedR.cg (j := i) (fun c hc => lo _ (by omega)) (fun c hc => rfl) (a4 i (by have : i < l := hi; omega))
  · rw [lo _ (by omega)]
    show f 93 = nI (if n.2.2.1.2 (l * 7) = 0 then n.2.2.2.1 - 1 else n.2.2.2.1)
    rw [if_neg (by omega)]
    exact a5
  · have ht2 : t < (if n.2.2.1.2 (l * 7) = 0 then n.2.2.2.1 - 1 else n.2.2.2.1) * 4 := ht
    rw [if_neg (by omega)] at ht2
    rw [lo _ (by omega)]
    exact a6 t ht2
set_option maxRecDepth 20000 in
set_option maxHeartbeats 1000000 in
theorem m_undo (H : 69 ≤ u.length) (R : Rel tr a A s) (V : Valid s) (hQ : ∀ a' A', Rel tr a' A' (sp_undo s).2 → Q (some (.int (sp_undo s).1)) (mw u tr a' A')) : Cl X (d + 1) 119 [.ref 57] (mw u tr a A) Q := by
  have h8 := Rel.nR V
  have hP := Rel.nP V
  have hD : s.2.2.1.2.2.1.1 ≤ 10 := V.2.2.2.1.2.2.2.1.1
  have hM : s.2.2.1.2.2.2.1 ≤ 10 := V.2.2.2.1.2.2.2.2.1
  rw [e119]
  unfold sp_undo at hQ
  simp only [s119_0, s119_1, s119_2, s119_5, s119_6, s119_9, s119_11, s119_12, s119_15, s119_17, OpV_some, OpN_some, OpA_some, OpR_some, Option.toList_some, Option.toList_none, List.cons_append, List.nil_append, true_and, and_true, nI11, or_true, true_or, or_false, false_or, mI0 H, mP0 H, mI3 H, mP3 H, mI4 H, mP4 H, mI5 H, mP5 H, mI6 H, mP6 H, mI7 H, mP7 H, mI8 H, mP8 H, mI9 H, mP9 H, mI10 H, mP10 H, mI11 H, mP11 H, mI12 H, mP12 H, mI13 H, mP13 H, mI14 H, mP14 H, mI23 H, mP23 H, mI24 H, mP24 H, mI25 H, mP25 H, mI26 H, mP26 H, mI27 H, mP27 H, mI30 H, mP30 H, mI31 H, mP31 H, mI1 H, mP1 H, mR2 H, mR15 H, mR16 H, mR17 H, mR18 H, mR19 H, mR20 H, mR21 H, mR22 H, mR28 H, mR29 H, mA0 H, mS0 H, mA1 H, mS1 H, mA2 H, mS2 H, mA3 H, mS3 H, mA4 H, mS4 H, mA5 H, mS5 H, mA6 H, mS6 H, mA7 H, mS7 H, mA8 H, mS8 H, mA9 H, mS9 H, mA10 H, mS10 H, mw_cl H, fu_s, fu_n, ua_s, ua_n, Nat.reduceBEq, lt57, lt58, lt59, lt60, lt61, lt62, lt63, lt64, lt65, lt66, lt67, lt68, in_nI (show 32 < 134 by omega) (show 134 < 2 ^ 31 by omega), cl_nI (show 32 < 2 ^ 31 by omega), R.nw.2.2.1, nI_eq0 (show s.2.2.1.2.2.1.1 < 2 ^ 31 by omega)]
  by_cases h0 : s.2.2.1.2.2.1.1 = 0
  · simp only [h0, if_true] at hQ ⊢
    exact hQ _ _ (R.th _)
  · simp only [h0, if_false] at hQ ⊢
    obtain ⟨l, hl⟩ : ∃ l, s.2.2.1.2.2.1.1 = l + 1 := ⟨s.2.2.1.2.2.1.1 - 1, by omega⟩
    have hl1 : s.2.2.1.2.2.1.1 - 1 = l := by omega
    rw [hl1] at hQ
    obtain ⟨-, hgo, hdd⟩ := V.2.2.2.1.2.2.2.1
    obtain ⟨k0, k2, k3⟩ := hdd l (by omega)
    have hdr := R.nw.2.2.2.1 l (by omega)
    have w32 : ∀ x e, upd (A 5) 32 x (33 + 6 * l + e) = A 5 (33 + 6 * l + e) := fun x e => upd_n _ _ (by omega)
    have w32' : ∀ x, upd (A 5) 32 x (33 + 6 * l) = A 5 (33 + 6 * l) := fun x => upd_n _ _ (by omega)
    have ha : nI s.2.2.1.2.2.1.1 - nI 1 = nI l := by rw [nI_subN (by omega), hl1]
    simp only [s119_18, s119_19, s119_22, s119_24, s119_25, s119_26, s119_27, s119_28, s119_29, s119_31, s119_33, s119_34, s119_37, s119_39, s119_40, s119_41, s119_42, s119_43, s119_44, s119_47, s119_48, s119_49, s119_50, s119_51, s119_52, s119_53, s119_56, s119_57, s119_58, OpV_some, OpN_some, OpA_some, OpR_some, Option.toList_some, Option.toList_none, List.cons_append, List.nil_append, true_and, and_true, nI11, or_true, true_or, or_false, false_or, mI0 H, mP0 H, mI3 H, mP3 H, mI4 H, mP4 H, mI5 H, mP5 H, mI6 H, mP6 H, mI7 H, mP7 H, mI8 H, mP8 H, mI9 H, mP9 H, mI10 H, mP10 H, mI11 H, mP11 H, mI12 H, mP12 H, mI13 H, mP13 H, mI14 H, mP14 H, mI23 H, mP23 H, mI24 H, mP24 H, mI25 H, mP25 H, mI26 H, mP26 H, mI27 H, mP27 H, mI30 H, mP30 H, mI31 H, mP31 H, mI1 H, mP1 H, mR2 H, mR15 H, mR16 H, mR17 H, mR18 H, mR19 H, mR20 H, mR21 H, mR22 H, mR28 H, mR29 H, mA0 H, mS0 H, mA1 H, mS1 H, mA2 H, mS2 H, mA3 H, mS3 H, mA4 H, mS4 H, mA5 H, mS5 H, mA6 H, mS6 H, mA7 H, mS7 H, mA8 H, mS8 H, mA9 H, mS9 H, mA10 H, mS10 H, mw_cl H, fu_s, fu_n, ua_s, ua_n, Nat.reduceBEq, lt57, lt58, lt59, lt60, lt61, lt62, lt63, lt64, lt65, lt66, lt67, lt68, ua_ua, upd_s, in_nI (show 32 < 134 by omega) (show 134 < 2 ^ 31 by omega), cl_nI (show 32 < 2 ^ 31 by omega), R.nw.2.2.1, ha, pk_mul, nI_add, in_nI (show 33 + 6 * l < 134 by omega) (show 134 < 2 ^ 31 by omega), cl_nI (show 33 + 6 * l < 2 ^ 31 by omega), in_nI (show 33 + 6 * l + 1 < 134 by omega) (show 134 < 2 ^ 31 by omega), cl_nI (show 33 + 6 * l + 1 < 2 ^ 31 by omega), w32, w32']
    by_cases h2 : s.2.2.1.2.2.1.2 (l * 7) = 2
    · obtain ⟨e0, e1, e2, e3⟩ := hdr.2 h2
      obtain ⟨x1, x2, x3, x4, x5, x6⟩ := k2 h2
      have hR2 := unS_R R.nw hP h8 hl h2 x1
      have h23 : (A 5 (33 + 6 * l) < nI 2) = False := by
        rcases e0 with q | q <;> rw [q] <;> decide
      generalize hw : s.2.2.1.2.2.1.2 (l * 7 + 1) = w at e1 x1 x2 x3 x4 hR2
      have b1 : ∀ f x e, upd f (16 + w) x (33 + 6 * l + e) = f (33 + 6 * l + e) := fun f x e => upd_n _ _ (by omega)
      have b2 : ∀ f x y, upd (upd f (16 + w) x) (24 + w) y 32 = f 32 := fun f x y => by rw [upd_n _ _ (by omega), upd_n _ _ (by omega)]
      simp only [e1, h23, if_false, s119_59, s119_122, s119_123, s119_126, s119_128, s119_129, s119_130, s119_131, s119_134, s119_135, s119_136, s119_137, s119_138, s119_139, s119_140, s119_143, s119_145, s119_146, s119_147, s119_148, s119_151, s119_152, s119_153, s119_154, s119_155, s119_156, s119_157, s119_160, s119_162, s119_163, OpV_some, OpN_some, OpA_some, OpR_some, Option.toList_some, Option.toList_none, List.cons_append, List.nil_append, true_and, and_true, nI11, or_true, true_or, or_false, false_or, mI0 H, mP0 H, mI3 H, mP3 H, mI4 H, mP4 H, mI5 H, mP5 H, mI6 H, mP6 H, mI7 H, mP7 H, mI8 H, mP8 H, mI9 H, mP9 H, mI10 H, mP10 H, mI11 H, mP11 H, mI12 H, mP12 H, mI13 H, mP13 H, mI14 H, mP14 H, mI23 H, mP23 H, mI24 H, mP24 H, mI25 H, mP25 H, mI26 H, mP26 H, mI27 H, mP27 H, mI30 H, mP30 H, mI31 H, mP31 H, mI1 H, mP1 H, mR2 H, mR15 H, mR16 H, mR17 H, mR18 H, mR19 H, mR20 H, mR21 H, mR22 H, mR28 H, mR29 H, mA0 H, mS0 H, mA1 H, mS1 H, mA2 H, mS2 H, mA3 H, mS3 H, mA4 H, mS4 H, mA5 H, mS5 H, mA6 H, mS6 H, mA7 H, mS7 H, mA8 H, mS8 H, mA9 H, mS9 H, mA10 H, mS10 H, mw_cl H, fu_s, fu_n, ua_s, ua_n, Nat.reduceBEq, lt57, lt58, lt59, lt60, lt61, lt62, lt63, lt64, lt65, lt66, lt67, lt68, ua_ua, upd_s, nI_add, in_nI (show 32 < 134 by omega) (show 134 < 2 ^ 31 by omega), cl_nI (show 32 < 2 ^ 31 by omega), in_nI (show 33 + 6 * l + 2 < 134 by omega) (show 134 < 2 ^ 31 by omega), cl_nI (show 33 + 6 * l + 2 < 2 ^ 31 by omega), in_nI (show 33 + 6 * l + 3 < 134 by omega) (show 134 < 2 ^ 31 by omega), cl_nI (show 33 + 6 * l + 3 < 2 ^ 31 by omega), in_nI (show 16 + w < 134 by omega) (show 134 < 2 ^ 31 by omega), cl_nI (show 16 + w < 2 ^ 31 by omega), in_nI (show 24 + w < 134 by omega) (show 134 < 2 ^ 31 by omega), cl_nI (show 24 + w < 2 ^ 31 by omega), w32, w32', b1, b2]
      refine hQ _ _ (Rel.onNow (A := A) (s := s) (R.th _) hR2 rfl rfl (fun k hk => ?_) (fun r hr => ?_))
      · unfold st_undo
        rw [hl1, if_pos h2, hw]
        show tgo l w s.2.2.1.2.2.1.2 5 0 s.2.2.1.1.2 (k * 5) = _ ∧ tgo l w s.2.2.1.2.2.1.2 5 0 s.2.2.1.1.2 (k * 5 + 1) = _ ∧ tgo l w s.2.2.1.2.2.1.2 5 0 s.2.2.1.1.2 (k * 5 + 2) = _
        by_cases q : k = w
        · subst q
          exact ⟨(tgo_in (c := 0) (by decide)).trans x2, (tgo_in (c := 1) (by decide)).trans x3, (tgo_in (c := 2) (by decide)).trans x4⟩
        · exact ⟨tgo_out (c := 0) (by decide) q, tgo_out (by decide) q, tgo_out (by decide) q⟩
      · unfold st_undo
        rw [hl1, if_pos h2, if_pos h2]
    · obtain ⟨e0, e1, e2, e3, e4, e5⟩ := hdr.1 h2
      obtain ⟨x1, x2, x3, x4, x5, x6⟩ := k3 h2
      have hR2 := unP_R R.nw hP h8 hl hD h2 x1
      have h23 : (A 5 (33 + 6 * l) < nI 2) = True := by
        rw [e0, nI_ltN (by omega) (by decide)]
        exact eq_true (by omega)
      have hm : nI s.2.2.1.2.2.2.1 - nI (if s.2.2.1.2.2.1.2 (l * 7) = 0 then 1 else 0) = nI (if s.2.2.1.2.2.1.2 (l * 7) = 0 then s.2.2.1.2.2.2.1 - 1 else s.2.2.1.2.2.2.1) := by
        by_cases q : s.2.2.1.2.2.1.2 (l * 7) = 0
        · have hpos : 0 < goes s.2.2.1.2.2.1.2 s.2.2.1.2.2.1.1 := goes_pos (by omega) (by rw [hl1]; exact q)
          rw [if_pos q, if_pos q, nI_subN (by omega)]
        · rw [if_neg q, if_neg q, nI_subN (by omega), Nat.sub_zero]
      generalize hw : s.2.2.1.2.2.1.2 (l * 7 + 1) = w at e1 x1 x4 hR2
      have q0 : ∀ f x e, upd f (4 * w) x (33 + 6 * l + e) = f (33 + 6 * l + e) := fun f x e => upd_n _ _ (by omega)
      have q1 : ∀ f x e, upd f (4 * w + 1) x (33 + 6 * l + e) = f (33 + 6 * l + e) := fun f x e => upd_n _ _ (by omega)
      have q2 : ∀ f x e, upd f (4 * w + 2) x (33 + 6 * l + e) = f (33 + 6 * l + e) := fun f x e => upd_n _ _ (by omega)
      have q3 : ∀ f x e, upd f (4 * w + 3) x (33 + 6 * l + e) = f (33 + 6 * l + e) := fun f x e => upd_n _ _ (by omega)
      have p : ∀ f x0 x1 x2 x3, upd (upd (upd (upd (upd f 32 (nI l)) (4 * w) x0) (4 * w + 1) x1) (4 * w + 2) x2) (4 * w + 3) x3 (33 + 6 * l) = f (33 + 6 * l) := fun f x0 x1 x2 x3 => by
        rw [upd_n _ _ (by omega), upd_n _ _ (by omega), upd_n _ _ (by omega), upd_n _ _ (by omega), upd_n _ _ (by omega)]
      have p93 : ∀ f x0 x1 x2 x3, upd (upd (upd (upd (upd f 32 (nI l)) (4 * w) x0) (4 * w + 1) x1) (4 * w + 2) x2) (4 * w + 3) x3 93 = f 93 := fun f x0 x1 x2 x3 => by
        rw [upd_n _ _ (by omega), upd_n _ _ (by omega), upd_n _ _ (by omega), upd_n _ _ (by omega), upd_n _ _ (by omega)]
      have p32 : ∀ f x0 x1 x2 x3 x4, upd (upd (upd (upd (upd (upd f 32 (nI l)) (4 * w) x0) (4 * w + 1) x1) (4 * w + 2) x2) (4 * w + 3) x3) 93 x4 32 = nI l := fun f x0 x1 x2 x3 x4 => by
        rw [upd_n _ _ (by omega), upd_n _ _ (by omega), upd_n _ _ (by omega), upd_n _ _ (by omega), upd_n _ _ (by omega), upd_s]
      have z : ∀ j, j < 33 → ∀ c f x, upd f j x (33 + 6 * l + 2 + c) = f (33 + 6 * l + 2 + c) := fun j hj c f x => upd_n _ _ (by omega)
      simp only [e1, h23, if_true, s119_59, s119_62, s119_63, OpV_some, OpN_some, OpA_some, OpR_some, Option.toList_some, Option.toList_none, List.cons_append, List.nil_append, true_and, and_true, nI11, or_true, true_or, or_false, false_or]
      rw [s119_64]
      simp only [e1, h23, if_true, s119_59, s119_62, s119_63, s119_65, s119_66, s119_69, s119_70, s119_73, s119_74, s119_75, s119_76, s119_77, s119_78, s119_79, s119_82, s119_83, s119_84, s119_85, s119_86, s119_87, s119_88, s119_89, s119_92, OpV_some, OpN_some, OpA_some, OpR_some, Option.toList_some, Option.toList_none, List.cons_append, List.nil_append, true_and, and_true, nI11, or_true, true_or, or_false, false_or, mI0 H, mP0 H, mI3 H, mP3 H, mI4 H, mP4 H, mI5 H, mP5 H, mI6 H, mP6 H, mI7 H, mP7 H, mI8 H, mP8 H, mI9 H, mP9 H, mI10 H, mP10 H, mI11 H, mP11 H, mI12 H, mP12 H, mI13 H, mP13 H, mI14 H, mP14 H, mI23 H, mP23 H, mI24 H, mP24 H, mI25 H, mP25 H, mI26 H, mP26 H, mI27 H, mP27 H, mI30 H, mP30 H, mI31 H, mP31 H, mI1 H, mP1 H, mR2 H, mR15 H, mR16 H, mR17 H, mR18 H, mR19 H, mR20 H, mR21 H, mR22 H, mR28 H, mR29 H, mA0 H, mS0 H, mA1 H, mS1 H, mA2 H, mS2 H, mA3 H, mS3 H, mA4 H, mS4 H, mA5 H, mS5 H, mA6 H, mS6 H, mA7 H, mS7 H, mA8 H, mS8 H, mA9 H, mS9 H, mA10 H, mS10 H, mw_cl H, fu_s, fu_n, ua_s, ua_n, Nat.reduceBEq, lt57, lt58, lt59, lt60, lt61, lt62, lt63, lt64, lt65, lt66, lt67, lt68, ua_ua, upd_s, pk_mul, nI_add, show (nI 0 < nI 4) = True by decide, show (nI 1 < nI 4) = True by decide, show (nI 2 < nI 4) = True by decide, show (nI 3 < nI 4) = True by decide, show (nI 4 < nI 4) = False by decide, if_false, Nat.add_zero, Nat.reduceAdd, Nat.zero_add, in_nI (show 33 + 6 * l + 2 < 134 by omega) (show 134 < 2 ^ 31 by omega), cl_nI (show 33 + 6 * l + 2 < 2 ^ 31 by omega), in_nI (show 33 + 6 * l + 2 + 1 < 134 by omega) (show 134 < 2 ^ 31 by omega), cl_nI (show 33 + 6 * l + 2 + 1 < 2 ^ 31 by omega), in_nI (show 33 + 6 * l + 2 + 2 < 134 by omega) (show 134 < 2 ^ 31 by omega), cl_nI (show 33 + 6 * l + 2 + 2 < 2 ^ 31 by omega), in_nI (show 33 + 6 * l + 2 + 3 < 134 by omega) (show 134 < 2 ^ 31 by omega), cl_nI (show 33 + 6 * l + 2 + 3 < 2 ^ 31 by omega), z 32 (by omega) 1, z (4 * w) (by omega) 1, z 32 (by omega) 2, z (4 * w) (by omega) 2, z (4 * w + 1) (by omega) 2, z 32 (by omega) 3, z (4 * w) (by omega) 3, z (4 * w + 1) (by omega) 3, z (4 * w + 2) (by omega) 3, in_nI (show 4 * w < 134 by omega) (show 134 < 2 ^ 31 by omega), cl_nI (show 4 * w < 2 ^ 31 by omega), in_nI (show 4 * w + 1 < 134 by omega) (show 134 < 2 ^ 31 by omega), cl_nI (show 4 * w + 1 < 2 ^ 31 by omega), in_nI (show 4 * w + 2 < 134 by omega) (show 134 < 2 ^ 31 by omega), cl_nI (show 4 * w + 2 < 2 ^ 31 by omega), in_nI (show 4 * w + 3 < 134 by omega) (show 134 < 2 ^ 31 by omega), cl_nI (show 4 * w + 3 < 2 ^ 31 by omega), w32, q0, q1, q2, q3]
      rw [s119_64]
      simp only [e1, h23, if_true, s119_59, s119_62, s119_63, s119_65, s119_66, s119_69, s119_70, s119_73, s119_74, s119_75, s119_76, s119_77, s119_78, s119_79, s119_82, s119_83, s119_84, s119_85, s119_86, s119_87, s119_88, s119_89, s119_92, OpV_some, OpN_some, OpA_some, OpR_some, Option.toList_some, Option.toList_none, List.cons_append, List.nil_append, true_and, and_true, nI11, or_true, true_or, or_false, false_or, mI0 H, mP0 H, mI3 H, mP3 H, mI4 H, mP4 H, mI5 H, mP5 H, mI6 H, mP6 H, mI7 H, mP7 H, mI8 H, mP8 H, mI9 H, mP9 H, mI10 H, mP10 H, mI11 H, mP11 H, mI12 H, mP12 H, mI13 H, mP13 H, mI14 H, mP14 H, mI23 H, mP23 H, mI24 H, mP24 H, mI25 H, mP25 H, mI26 H, mP26 H, mI27 H, mP27 H, mI30 H, mP30 H, mI31 H, mP31 H, mI1 H, mP1 H, mR2 H, mR15 H, mR16 H, mR17 H, mR18 H, mR19 H, mR20 H, mR21 H, mR22 H, mR28 H, mR29 H, mA0 H, mS0 H, mA1 H, mS1 H, mA2 H, mS2 H, mA3 H, mS3 H, mA4 H, mS4 H, mA5 H, mS5 H, mA6 H, mS6 H, mA7 H, mS7 H, mA8 H, mS8 H, mA9 H, mS9 H, mA10 H, mS10 H, mw_cl H, fu_s, fu_n, ua_s, ua_n, Nat.reduceBEq, lt57, lt58, lt59, lt60, lt61, lt62, lt63, lt64, lt65, lt66, lt67, lt68, ua_ua, upd_s, pk_mul, nI_add, show (nI 0 < nI 4) = True by decide, show (nI 1 < nI 4) = True by decide, show (nI 2 < nI 4) = True by decide, show (nI 3 < nI 4) = True by decide, show (nI 4 < nI 4) = False by decide, if_false, Nat.add_zero, Nat.reduceAdd, Nat.zero_add, in_nI (show 33 + 6 * l + 2 < 134 by omega) (show 134 < 2 ^ 31 by omega), cl_nI (show 33 + 6 * l + 2 < 2 ^ 31 by omega), in_nI (show 33 + 6 * l + 2 + 1 < 134 by omega) (show 134 < 2 ^ 31 by omega), cl_nI (show 33 + 6 * l + 2 + 1 < 2 ^ 31 by omega), in_nI (show 33 + 6 * l + 2 + 2 < 134 by omega) (show 134 < 2 ^ 31 by omega), cl_nI (show 33 + 6 * l + 2 + 2 < 2 ^ 31 by omega), in_nI (show 33 + 6 * l + 2 + 3 < 134 by omega) (show 134 < 2 ^ 31 by omega), cl_nI (show 33 + 6 * l + 2 + 3 < 2 ^ 31 by omega), z 32 (by omega) 1, z (4 * w) (by omega) 1, z 32 (by omega) 2, z (4 * w) (by omega) 2, z (4 * w + 1) (by omega) 2, z 32 (by omega) 3, z (4 * w) (by omega) 3, z (4 * w + 1) (by omega) 3, z (4 * w + 2) (by omega) 3, in_nI (show 4 * w < 134 by omega) (show 134 < 2 ^ 31 by omega), cl_nI (show 4 * w < 2 ^ 31 by omega), in_nI (show 4 * w + 1 < 134 by omega) (show 134 < 2 ^ 31 by omega), cl_nI (show 4 * w + 1 < 2 ^ 31 by omega), in_nI (show 4 * w + 2 < 134 by omega) (show 134 < 2 ^ 31 by omega), cl_nI (show 4 * w + 2 < 2 ^ 31 by omega), in_nI (show 4 * w + 3 < 134 by omega) (show 134 < 2 ^ 31 by omega), cl_nI (show 4 * w + 3 < 2 ^ 31 by omega), w32, q0, q1, q2, q3]
      rw [s119_64]
      simp only [e1, h23, if_true, s119_59, s119_62, s119_63, s119_65, s119_66, s119_69, s119_70, s119_73, s119_74, s119_75, s119_76, s119_77, s119_78, s119_79, s119_82, s119_83, s119_84, s119_85, s119_86, s119_87, s119_88, s119_89, s119_92, OpV_some, OpN_some, OpA_some, OpR_some, Option.toList_some, Option.toList_none, List.cons_append, List.nil_append, true_and, and_true, nI11, or_true, true_or, or_false, false_or, mI0 H, mP0 H, mI3 H, mP3 H, mI4 H, mP4 H, mI5 H, mP5 H, mI6 H, mP6 H, mI7 H, mP7 H, mI8 H, mP8 H, mI9 H, mP9 H, mI10 H, mP10 H, mI11 H, mP11 H, mI12 H, mP12 H, mI13 H, mP13 H, mI14 H, mP14 H, mI23 H, mP23 H, mI24 H, mP24 H, mI25 H, mP25 H, mI26 H, mP26 H, mI27 H, mP27 H, mI30 H, mP30 H, mI31 H, mP31 H, mI1 H, mP1 H, mR2 H, mR15 H, mR16 H, mR17 H, mR18 H, mR19 H, mR20 H, mR21 H, mR22 H, mR28 H, mR29 H, mA0 H, mS0 H, mA1 H, mS1 H, mA2 H, mS2 H, mA3 H, mS3 H, mA4 H, mS4 H, mA5 H, mS5 H, mA6 H, mS6 H, mA7 H, mS7 H, mA8 H, mS8 H, mA9 H, mS9 H, mA10 H, mS10 H, mw_cl H, fu_s, fu_n, ua_s, ua_n, Nat.reduceBEq, lt57, lt58, lt59, lt60, lt61, lt62, lt63, lt64, lt65, lt66, lt67, lt68, ua_ua, upd_s, pk_mul, nI_add, show (nI 0 < nI 4) = True by decide, show (nI 1 < nI 4) = True by decide, show (nI 2 < nI 4) = True by decide, show (nI 3 < nI 4) = True by decide, show (nI 4 < nI 4) = False by decide, if_false, Nat.add_zero, Nat.reduceAdd, Nat.zero_add, in_nI (show 33 + 6 * l + 2 < 134 by omega) (show 134 < 2 ^ 31 by omega), cl_nI (show 33 + 6 * l + 2 < 2 ^ 31 by omega), in_nI (show 33 + 6 * l + 2 + 1 < 134 by omega) (show 134 < 2 ^ 31 by omega), cl_nI (show 33 + 6 * l + 2 + 1 < 2 ^ 31 by omega), in_nI (show 33 + 6 * l + 2 + 2 < 134 by omega) (show 134 < 2 ^ 31 by omega), cl_nI (show 33 + 6 * l + 2 + 2 < 2 ^ 31 by omega), in_nI (show 33 + 6 * l + 2 + 3 < 134 by omega) (show 134 < 2 ^ 31 by omega), cl_nI (show 33 + 6 * l + 2 + 3 < 2 ^ 31 by omega), z 32 (by omega) 1, z (4 * w) (by omega) 1, z 32 (by omega) 2, z (4 * w) (by omega) 2, z (4 * w + 1) (by omega) 2, z 32 (by omega) 3, z (4 * w) (by omega) 3, z (4 * w + 1) (by omega) 3, z (4 * w + 2) (by omega) 3, in_nI (show 4 * w < 134 by omega) (show 134 < 2 ^ 31 by omega), cl_nI (show 4 * w < 2 ^ 31 by omega), in_nI (show 4 * w + 1 < 134 by omega) (show 134 < 2 ^ 31 by omega), cl_nI (show 4 * w + 1 < 2 ^ 31 by omega), in_nI (show 4 * w + 2 < 134 by omega) (show 134 < 2 ^ 31 by omega), cl_nI (show 4 * w + 2 < 2 ^ 31 by omega), in_nI (show 4 * w + 3 < 134 by omega) (show 134 < 2 ^ 31 by omega), cl_nI (show 4 * w + 3 < 2 ^ 31 by omega), w32, q0, q1, q2, q3]
      rw [s119_64]
      simp only [e1, h23, if_true, s119_59, s119_62, s119_63, s119_65, s119_66, s119_69, s119_70, s119_73, s119_74, s119_75, s119_76, s119_77, s119_78, s119_79, s119_82, s119_83, s119_84, s119_85, s119_86, s119_87, s119_88, s119_89, s119_92, OpV_some, OpN_some, OpA_some, OpR_some, Option.toList_some, Option.toList_none, List.cons_append, List.nil_append, true_and, and_true, nI11, or_true, true_or, or_false, false_or, mI0 H, mP0 H, mI3 H, mP3 H, mI4 H, mP4 H, mI5 H, mP5 H, mI6 H, mP6 H, mI7 H, mP7 H, mI8 H, mP8 H, mI9 H, mP9 H, mI10 H, mP10 H, mI11 H, mP11 H, mI12 H, mP12 H, mI13 H, mP13 H, mI14 H, mP14 H, mI23 H, mP23 H, mI24 H, mP24 H, mI25 H, mP25 H, mI26 H, mP26 H, mI27 H, mP27 H, mI30 H, mP30 H, mI31 H, mP31 H, mI1 H, mP1 H, mR2 H, mR15 H, mR16 H, mR17 H, mR18 H, mR19 H, mR20 H, mR21 H, mR22 H, mR28 H, mR29 H, mA0 H, mS0 H, mA1 H, mS1 H, mA2 H, mS2 H, mA3 H, mS3 H, mA4 H, mS4 H, mA5 H, mS5 H, mA6 H, mS6 H, mA7 H, mS7 H, mA8 H, mS8 H, mA9 H, mS9 H, mA10 H, mS10 H, mw_cl H, fu_s, fu_n, ua_s, ua_n, Nat.reduceBEq, lt57, lt58, lt59, lt60, lt61, lt62, lt63, lt64, lt65, lt66, lt67, lt68, ua_ua, upd_s, pk_mul, nI_add, show (nI 0 < nI 4) = True by decide, show (nI 1 < nI 4) = True by decide, show (nI 2 < nI 4) = True by decide, show (nI 3 < nI 4) = True by decide, show (nI 4 < nI 4) = False by decide, if_false, Nat.add_zero, Nat.reduceAdd, Nat.zero_add, in_nI (show 33 + 6 * l + 2 < 134 by omega) (show 134 < 2 ^ 31 by omega), cl_nI (show 33 + 6 * l + 2 < 2 ^ 31 by omega), in_nI (show 33 + 6 * l + 2 + 1 < 134 by omega) (show 134 < 2 ^ 31 by omega), cl_nI (show 33 + 6 * l + 2 + 1 < 2 ^ 31 by omega), in_nI (show 33 + 6 * l + 2 + 2 < 134 by omega) (show 134 < 2 ^ 31 by omega), cl_nI (show 33 + 6 * l + 2 + 2 < 2 ^ 31 by omega), in_nI (show 33 + 6 * l + 2 + 3 < 134 by omega) (show 134 < 2 ^ 31 by omega), cl_nI (show 33 + 6 * l + 2 + 3 < 2 ^ 31 by omega), z 32 (by omega) 1, z (4 * w) (by omega) 1, z 32 (by omega) 2, z (4 * w) (by omega) 2, z (4 * w + 1) (by omega) 2, z 32 (by omega) 3, z (4 * w) (by omega) 3, z (4 * w + 1) (by omega) 3, z (4 * w + 2) (by omega) 3, in_nI (show 4 * w < 134 by omega) (show 134 < 2 ^ 31 by omega), cl_nI (show 4 * w < 2 ^ 31 by omega), in_nI (show 4 * w + 1 < 134 by omega) (show 134 < 2 ^ 31 by omega), cl_nI (show 4 * w + 1 < 2 ^ 31 by omega), in_nI (show 4 * w + 2 < 134 by omega) (show 134 < 2 ^ 31 by omega), cl_nI (show 4 * w + 2 < 2 ^ 31 by omega), in_nI (show 4 * w + 3 < 134 by omega) (show 134 < 2 ^ 31 by omega), cl_nI (show 4 * w + 3 < 2 ^ 31 by omega), w32, q0, q1, q2, q3]
      rw [s119_64]
      simp only [e1, h23, if_true, s119_59, s119_62, s119_63, s119_65, s119_66, s119_69, s119_70, s119_73, s119_74, s119_75, s119_76, s119_77, s119_78, s119_79, s119_82, s119_83, s119_84, s119_85, s119_86, s119_87, s119_88, s119_89, s119_92, OpV_some, OpN_some, OpA_some, OpR_some, Option.toList_some, Option.toList_none, List.cons_append, List.nil_append, true_and, and_true, nI11, or_true, true_or, or_false, false_or, mI0 H, mP0 H, mI3 H, mP3 H, mI4 H, mP4 H, mI5 H, mP5 H, mI6 H, mP6 H, mI7 H, mP7 H, mI8 H, mP8 H, mI9 H, mP9 H, mI10 H, mP10 H, mI11 H, mP11 H, mI12 H, mP12 H, mI13 H, mP13 H, mI14 H, mP14 H, mI23 H, mP23 H, mI24 H, mP24 H, mI25 H, mP25 H, mI26 H, mP26 H, mI27 H, mP27 H, mI30 H, mP30 H, mI31 H, mP31 H, mI1 H, mP1 H, mR2 H, mR15 H, mR16 H, mR17 H, mR18 H, mR19 H, mR20 H, mR21 H, mR22 H, mR28 H, mR29 H, mA0 H, mS0 H, mA1 H, mS1 H, mA2 H, mS2 H, mA3 H, mS3 H, mA4 H, mS4 H, mA5 H, mS5 H, mA6 H, mS6 H, mA7 H, mS7 H, mA8 H, mS8 H, mA9 H, mS9 H, mA10 H, mS10 H, mw_cl H, fu_s, fu_n, ua_s, ua_n, Nat.reduceBEq, lt57, lt58, lt59, lt60, lt61, lt62, lt63, lt64, lt65, lt66, lt67, lt68, ua_ua, upd_s, pk_mul, nI_add, show (nI 0 < nI 4) = True by decide, show (nI 1 < nI 4) = True by decide, show (nI 2 < nI 4) = True by decide, show (nI 3 < nI 4) = True by decide, show (nI 4 < nI 4) = False by decide, if_false, Nat.add_zero, Nat.reduceAdd, Nat.zero_add, in_nI (show 33 + 6 * l + 2 < 134 by omega) (show 134 < 2 ^ 31 by omega), cl_nI (show 33 + 6 * l + 2 < 2 ^ 31 by omega), in_nI (show 33 + 6 * l + 2 + 1 < 134 by omega) (show 134 < 2 ^ 31 by omega), cl_nI (show 33 + 6 * l + 2 + 1 < 2 ^ 31 by omega), in_nI (show 33 + 6 * l + 2 + 2 < 134 by omega) (show 134 < 2 ^ 31 by omega), cl_nI (show 33 + 6 * l + 2 + 2 < 2 ^ 31 by omega), in_nI (show 33 + 6 * l + 2 + 3 < 134 by omega) (show 134 < 2 ^ 31 by omega), cl_nI (show 33 + 6 * l + 2 + 3 < 2 ^ 31 by omega), z 32 (by omega) 1, z (4 * w) (by omega) 1, z 32 (by omega) 2, z (4 * w) (by omega) 2, z (4 * w + 1) (by omega) 2, z 32 (by omega) 3, z (4 * w) (by omega) 3, z (4 * w + 1) (by omega) 3, z (4 * w + 2) (by omega) 3, in_nI (show 4 * w < 134 by omega) (show 134 < 2 ^ 31 by omega), cl_nI (show 4 * w < 2 ^ 31 by omega), in_nI (show 4 * w + 1 < 134 by omega) (show 134 < 2 ^ 31 by omega), cl_nI (show 4 * w + 1 < 2 ^ 31 by omega), in_nI (show 4 * w + 2 < 134 by omega) (show 134 < 2 ^ 31 by omega), cl_nI (show 4 * w + 2 < 2 ^ 31 by omega), in_nI (show 4 * w + 3 < 134 by omega) (show 134 < 2 ^ 31 by omega), cl_nI (show 4 * w + 3 < 2 ^ 31 by omega), w32, q0, q1, q2, q3]
      have fin : ∀ v, v = nI (if s.2.2.1.2.2.1.2 (l * 7) = 0 then 1 else 0) → Q (some (.int (nI l))) (mw u tr (fu a 0 (nI 0)) (ua A 5 (unP (A 5) l w (A 5 (33 + 6 * l + 2)) (A 5 (33 + 6 * l + 3)) (A 5 (33 + 6 * l + 4)) (A 5 (33 + 6 * l + 5)) (nI s.2.2.1.2.2.2.1 - v)))) := fun v hv => by
        rw [hv, hm]
        refine hQ _ _ (Rel.onNow (A := A) (s := s) (R.th _) hR2 rfl rfl (fun k hk => ?_) (fun r hr => ?_))
        · unfold st_undo
          rw [hl1, if_neg h2, if_neg h2]
          exact ⟨rfl, rfl, rfl⟩
        · unfold st_undo
          rw [hl1, if_neg h2, if_neg h2, hw]
          show tgo l w s.2.2.1.2.2.1.2 5 0 s.2.2.1.2.1.2 (r * 5 + 2) = _
          by_cases q : r = w
          · subst q
            exact (tgo_in (c := 2) (by decide)).trans x4
          · exact tgo_out (by decide) q
      unfold unP at fin
      simp only [s119_95, s119_96, s119_99, s119_101, s119_102, s119_103, s119_104, s119_107, s119_108, s119_109, s119_112, s119_113, s119_116, s119_117, s119_118, s119_119, s119_156, s119_157, s119_160, s119_162, s119_163, OpV_some, OpN_some, OpA_some, OpR_some, Option.toList_some, Option.toList_none, List.cons_append, List.nil_append, true_and, and_true, nI11, or_true, true_or, or_false, false_or, mI0 H, mP0 H, mI3 H, mP3 H, mI4 H, mP4 H, mI5 H, mP5 H, mI6 H, mP6 H, mI7 H, mP7 H, mI8 H, mP8 H, mI9 H, mP9 H, mI10 H, mP10 H, mI11 H, mP11 H, mI12 H, mP12 H, mI13 H, mP13 H, mI14 H, mP14 H, mI23 H, mP23 H, mI24 H, mP24 H, mI25 H, mP25 H, mI26 H, mP26 H, mI27 H, mP27 H, mI30 H, mP30 H, mI31 H, mP31 H, mI1 H, mP1 H, mR2 H, mR15 H, mR16 H, mR17 H, mR18 H, mR19 H, mR20 H, mR21 H, mR22 H, mR28 H, mR29 H, mA0 H, mS0 H, mA1 H, mS1 H, mA2 H, mS2 H, mA3 H, mS3 H, mA4 H, mS4 H, mA5 H, mS5 H, mA6 H, mS6 H, mA7 H, mS7 H, mA8 H, mS8 H, mA9 H, mS9 H, mA10 H, mS10 H, mw_cl H, fu_s, fu_n, ua_s, ua_n, Nat.reduceBEq, lt57, lt58, lt59, lt60, lt61, lt62, lt63, lt64, lt65, lt66, lt67, lt68, ua_ua, upd_s, in_nI (show 93 < 134 by omega) (show 134 < 2 ^ 31 by omega), cl_nI (show 93 < 2 ^ 31 by omega), in_nI (show 32 < 134 by omega) (show 134 < 2 ^ 31 by omega), cl_nI (show 32 < 2 ^ 31 by omega), in_nI (show 33 + 6 * l < 134 by omega) (show 134 < 2 ^ 31 by omega), cl_nI (show 33 + 6 * l < 2 ^ 31 by omega), p, p93, R.nw.2.2.2.2.1, e0, nI_eq0 (show s.2.2.1.2.2.1.2 (l * 7) < 2 ^ 31 by omega), p32]
      by_cases q : s.2.2.1.2.2.1.2 (l * 7) = 0
      · simp only [q, if_true] at fin ⊢
        exact fin _ rfl
      · simp only [q, if_false] at fin ⊢
        exact fin _ rfl
end MUNDO
