/-! soonest; canAskRoute; route -/
theorem crs_cg {h g : Nat → Nat} {nR : Nat} {E E' N N' : Nat → Nat} {k s : Nat} (hs : s < 8) (hE : ∀ q, q < 8 → E q = E' q) (ho : oth g k s < 8) (hN : ∀ q, q < 8 → N q = N' q) : ∀ q, q < 8 → crs h g nR E k s N q = crs h g nR E' k s N' q := by
  intro q hq
  unfold crs
  rw [hE s hs]
  split
  · unfold upN
    rw [hN _ ho]
    split
    · rfl
    · exact hN q hq
  · exact hN q hq
theorem rnd_cg {h g : Nat → Nat} {nR nS : Nat} (hg : RopeOK g nR nS) (h8 : nS ≤ 8) {E E' : Nat → Nat} (hE : ∀ q, q < 8 → E q = E' q) : ∀ (n k : Nat) (N N' : Nat → Nat), k + n = nR → (∀ q, q < 8 → N q = N' q) → ∀ q, q < 8 → rnd h g nR E n k N q = rnd h g nR E' n k N' q
  | 0, k, N, N', _, hN, q, hq => hN q hq
  | n + 1, k, N, N', e, hN, q, hq => by
    have hk : k < nR := by omega
    obtain ⟨h1, h2, -⟩ := hg.2 k hk
    have o1 := oth_lt hg hk (s := g (k * 5))
    have o2 := oth_lt hg hk (s := g (k * 5 + 1))
    unfold rnd
    exact rnd_cg hg h8 hE n (k + 1) _ _ (by omega) (crs_cg (by omega) hE (by omega) (crs_cg (by omega) hE (by omega) hN)) q hq
theorem wys_cg {h g : Nat → Nat} {nR nS b : Nat} (hg : RopeOK g nR nS) (h8 : nS ≤ 8) (hb : b < 8) : ∀ (n ri : Nat) (E E' N N' : Nat → Nat) (m r : Nat), (∀ q, q < 8 → N q = N' q) → (wys h g nR b n ri E N m r).2.2 = (wys h g nR b n ri E' N' m r).2.2
  | 0, ri, E, E', N, N', m, r, hN => rfl
  | n + 1, ri, E, E', N, N', m, r, hN => by
    have hE : ∀ q, q < 8 → cpN N E 8 q = cpN N' E' 8 q := fun q hq => by unfold cpN; rw [if_pos hq, if_pos hq]; exact hN q hq
    have hR := rnd_cg (h := h) hg h8 hE nR 0 N N' (by omega) hN
    unfold wys
    rw [hR b hb]
    split
    · exact wys_cg hg h8 hb n _ _ _ _ _ _ _ hR
    · exact wys_cg hg h8 hb n _ _ _ _ _ _ _ hR
/-- the soonest way: its minute (1000: none), its rides -/
def swy (h g : Nat → Nat) (nR a t b : Nat) : Nat × Nat := (wysF h g nR a t b (fun _ => 0) (fun _ => 0)).2.2
theorem wysF_swy {h g : Nat → Nat} {nR nS a t b : Nat} (hg : RopeOK g nR nS) (h8 : nS ≤ 8) (hb : b < 8) (E N : Nat → Nat) : (wysF h g nR a t b E N).2.2 = swy h g nR a t b := by
  have hN : ∀ q, q < 8 → N0 N a t q = N0 (fun _ => 0) a t q := fun q hq => by
    unfold N0 upN cpN; rw [if_pos hq, if_pos hq]
  unfold swy wysF
  rw [hN b hb]
  exact wys_cg hg h8 hb 7 1 _ _ _ _ _ _ hN
section API5
variable {X : am_X} {d : Nat} {Q : am_Q} {w : am_W} {s : CSt}
theorem CityAt.has3 (C : CityAt w s) : has3 w 53 54 55 := by
  obtain ⟨E, N, m, r, h1, h2, h3⟩ := C.wyA
  exact ⟨⟨_, h1⟩, ⟨_, h2⟩, ⟨_, h3⟩⟩
theorem wy_ag (E N : Nat → Nat) (m r : Nat) : agr w (wy w E N m r) [53, 54, 55] := (((agr.rf w _).st (by decide) _).st (by decide) _).st (by decide) _
theorem CityAt.wyU (C : CityAt w s) (E N : Nat → Nat) (m r : Nat) : CityAt (wy w E N m r) s := by
  have ag := wy_ag (w := w) E N m r
  obtain ⟨n, f, h7⟩ := C.tr
  obtain ⟨tz, F, sz, mi, si, h⟩ := C.rt
  obtain ⟨f9, h9⟩ := C.df
  exact C.scr ag (by decide) ⟨n, f, h7.ag ag (by decide) (by decide)⟩ (C.ri.ag ag (by decide)) ⟨tz, F, sz, mi, si, h.ag ag (by decide) (by decide) (by decide) (by decide)⟩ ⟨E, N, m, r, wy_53 C.has3, wy_54 C.has3, wy_55 C.has3⟩ ⟨f9, (ag.2 _ (by decide)).trans h9⟩
theorem CityAt.wyE (C : CityAt w s) : ∃ E N m r, w = wy w E N m r := by
  obtain ⟨E, N, m, r, h1, h2, h3⟩ := C.wyA
  refine ⟨E, N, m, r, ?_⟩
  unfold wy
  rw [set_self h1, set_self h2, set_self h3]
theorem StAt.ag {u : am_W} {l : List Nat} {i di dj ri rj nS nR : Nat} {fd fr : Nat → Int32} {h g : Nat → Nat} (S : StAt w i di dj ri rj nS nR fd fr h g) (ag : agr w u l) (h1 : i ∉ l) (h2 : di ∉ l) (h3 : dj ∉ l) (h4 : ri ∉ l) (h5 : rj ∉ l) : StAt u i di dj ri rj nS nR fd fr h g :=
  S.oth (ag.2 _ h1) (ag.2 _ h2) (ag.2 _ h3) (ag.2 _ h4) (ag.2 _ h5)
/-- the ways object finds the soonest way through streets i -/
theorem c_ways (C : CityAt w s) {i di dj ri rj nS nR : Nat} {fd fr : Nat → Int32} {h g : Nat → Nat} (S : StAt w i di dj ri rj nS nR fd fr h g) (h1 : i ∉ [53, 54, 55]) (h2 : di ∉ [53, 54, 55]) (h3 : dj ∉ [53, 54, 55]) (h4 : ri ∉ [53, 54, 55]) (h5 : rj ∉ [53, 54, 55]) {a t b : Nat} (ha : a < nS) (hb : b < nS) (ht : t ≤ 999)
    (hQ : ∀ u, agr w u [53, 54, 55] → CityAt u s → am_fld u 53 6 2 = some (.int (nI (swy h g nR a t b).1)) → am_fld u 53 6 3 = some (.int (nI (swy h g nR a t b).2)) → Q (some (.int (nI (if (swy h g nR a t b).1 ≤ 999 then 1 else 0)))) u) : Cl X (d + 6) 49 [.ref 53, .ref i, .int (nI a), .int (nI t), .int (nI b)] w Q := by
  obtain ⟨E, N, m, r, e⟩ := C.wyE
  have h8 := S.dk.2.1
  have key := wysF_swy (h := h) (a := a) (t := t) S.rk h8 (show b < 8 by omega) E N
  rw [e, ways_find C.has3 (fun E N m r => S.ag (wy_ag E N m r) h1 h2 h3 h4 h5) ha hb ht, key]
  exact hQ _ (wy_ag _ _ _ _) (C.wyU _ _ _ _) (wy_f2 C.has3) (wy_f3 C.has3)
def sp_soonest (s : CSt) (a t b y : Int32) : Int32 :=
  if ((0 ≤ a ∧ a < nI s.2.1.1) ∧ (0 ≤ t ∧ t < nI 1000)) ∧ ((0 ≤ b ∧ b < nI s.2.1.1) ∧ (0 ≤ y ∧ y < nI 2)) then
    (if (swy s.2.1.2 s.2.2.1.1.2 s.2.2.1.1.1 (cl a) (cl t) (cl b)).1 ≤ 999 then nI (if cl y = 0 then (swy s.2.1.2 s.2.2.1.1.2 s.2.2.1.1.1 (cl a) (cl t) (cl b)).1 else (swy s.2.1.2 s.2.2.1.1.2 s.2.2.1.1.1 (cl a) (cl t) (cl b)).2) else -9)
  else -1
theorem c_soonest (C : CityAt w s) (V : Valid s) (a t b y : Int32) (hQ : ∀ u, CityAt u s → agr w u (List.range 57) → Q (some (.int (sp_soonest s a t b y))) u) : Cl X (d + 7) 66 [.ref 0, .int a, .int t, .int b, .int y] w Q := by
  have h8 := C.dr.2.2.2.2.1
  have S := C.st V
  rw [e66]
  unfold sp_soonest at hQ
  simp only [s66_0, s66_1, s66_4, s66_5, s66_8, s66_11, s66_12, s66_15, s66_18, s66_19, s66_22, s66_23, s66_26, s66_29, s66_31, s66_32, s66_33, s66_36, s66_39, s66_40, OpV_some, OpN_some, OpA_some, OpR_some, Option.toList_some, Option.toList_none, List.cons_append, List.nil_append, true_and, and_true, nI11, or_true, true_or, or_false, false_or, C.f2, C.dr.cl, rows_has C.dr, c_minute, c_within, nI_ite, show (0 : Nat) < 1000 by decide, show (2 : Nat) < 1000 by decide, rng_le t 999 (by decide), rng_le y 1 (by decide)]
  rcases ix a (n := s.2.1.1) (by omega) with ⟨j, hj, rfl⟩ | hx
  · have hx := ix_in hj (by omega)
    rcases ix t (n := 1000) (by decide) with ⟨k, hk, rfl⟩ | hy
    · have hy := ix_in hk (by decide)
      rcases ix b (n := s.2.1.1) (by omega) with ⟨l, hl, rfl⟩ | hz
      · have hz := ix_in hl (by omega)
        rcases ix y (n := 2) (by decide) with ⟨q, hq, rfl⟩ | hv
        · have hv := ix_in hq (by decide)
          simp only [hx, hy, hz, hv, and_self, if_true, cl_of (show j < 2 ^ 31 by omega), cl_of (show k < 2 ^ 31 by omega), cl_of (show l < 2 ^ 31 by omega), cl_of (show q < 2 ^ 31 by omega)] at hQ
          simp only [hx, hy, hz, hv, and_self, not_true, if_false, if_true, OpV_some, OpN_some, OpA_some, OpR_some, Option.toList_some, Option.toList_none, List.cons_append, List.nil_append, true_and, and_true, nI11, or_true, true_or, or_false, false_or, s66_41, s66_42, s66_45, s66_46, s66_49, s66_50, s66_51, s66_52, C.f13, C.f9, wy_cl, show (0 : Nat) < 1000 by decide]
          obtain ⟨E, N, m, r, hw1, -, -⟩ := C.wyA
          refine ⟨⟨by decide, cls_at hw1⟩, c_ways C S (by decide) (by decide) (by decide) (by decide) (by decide) hj hl (by omega) fun u ag Cu f2 f3 => ?_⟩
          simp only [s66_55, s66_58, s66_60, s66_61, s66_63, s66_66, s66_67, s66_70, s66_73, s66_76, s66_77, s66_80, s66_83, OpV_some, OpN_some, OpA_some, OpR_some, Option.toList_some, Option.toList_none, List.cons_append, List.nil_append, true_and, and_true, nI11, or_true, true_or, or_false, false_or, nI_ite, Cu.f13, f2, f3, nI_eq0 (show q < 2 ^ 31 by omega), show (0 : Nat) < 1000 by decide, show (53 : Nat) < 1000 by decide]
          by_cases h9 : (swy s.2.1.2 s.2.2.1.1.2 s.2.2.1.1.1 j k l).1 ≤ 999
          · simp only [h9, not_true, if_true, if_false] at hQ ⊢
            by_cases h0 : q = 0
            · simp only [h0, if_true] at hQ ⊢
              exact hQ u Cu (ag.mo (by decide))
            · simp only [h0, if_false] at hQ ⊢
              exact hQ u Cu (ag.mo (by decide))
          · simp only [h9, not_false_eq_true, if_true, if_false] at hQ ⊢
            exact hQ u Cu (ag.mo (by decide))
        · simp only [hx, hy, hz, hv, and_false, if_false] at hQ
          simp only [hx, hy, hz, hv, and_self, not_true, not_false_eq_true, if_false, if_true]
          exact hQ w C (agr.rf w _)
      · simp only [hx, hy, hz, and_false, false_and, if_false] at hQ
        simp only [hx, hy, hz, and_self, not_true, not_false_eq_true, if_false, if_true]
        exact hQ w C (agr.rf w _)
    · simp only [hx, hy, and_false, false_and, if_false] at hQ
      simp only [hx, hy, and_self, not_true, not_false_eq_true, if_false, if_true]
      exact hQ w C (agr.rf w _)
  · simp only [hx, false_and, if_false] at hQ
    simp only [hx, not_false_eq_true, if_true]
    exact hQ w C (agr.rf w _)
end API5
