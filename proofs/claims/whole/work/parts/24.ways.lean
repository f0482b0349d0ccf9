/-! the soonest way, as the class looks for it -/
def nIf (N : Nat → Nat) : Nat → Int32 := fun s => nI (N s)
def upN (N : Nat → Nat) (k v : Nat) : Nat → Nat := fun j => if j = k then v else N j
theorem upd_nIf (N : Nat → Nat) (k v : Nat) : upd (nIf N) k (nI v) = nIf (upN N k v) := by
  funext j; unfold upd nIf upN; split <;> rfl
theorem nI_any (x : Int32) : ∃ n, x = nI n := ⟨x.toBitVec.toNat, by
  apply Int32.toBitVec_inj.mp
  show x.toBitVec = (Int32.ofNat _).toBitVec
  rw [Int32.toBitVec_ofNat']
  simp⟩
theorem nIf_any (f : Nat → Int32) : ∃ N, f = nIf N := by
  obtain ⟨N, hN⟩ := Classical.axiomOfChoice (fun j => nI_any (f j))
  exact ⟨N, funext hN⟩
def cpN (N E : Nat → Nat) (n : Nat) : Nat → Nat := fun s => if s < n then N s else E s
def crs (h g : Nat → Nat) (nR : Nat) (E : Nat → Nat) (k s : Nat) (N : Nat → Nat) : Nat → Nat :=
  if E s ≤ 999 ∧ canB g nR k s = true then upN N (oth g k s) (min (N (oth g k s)) (acrF h g k s (E s))) else N
def rnd (h g : Nat → Nat) (nR : Nat) (E : Nat → Nat) : Nat → Nat → (Nat → Nat) → (Nat → Nat)
  | 0, _, N => N
  | n + 1, k, N => rnd h g nR E n (k + 1) (crs h g nR E k (g (k * 5 + 1)) (crs h g nR E k (g (k * 5)) N))
def wys (h g : Nat → Nat) (nR b : Nat) : Nat → Nat → (Nat → Nat) → (Nat → Nat) → Nat → Nat → (Nat → Nat) × (Nat → Nat) × Nat × Nat
  | 0, _, E, N, m, r => (E, N, m, r)
  | n + 1, ri, E, N, m, r =>
    if rnd h g nR (cpN N E 8) nR 0 N b < m then wys h g nR b n (ri + 1) (cpN N E 8) (rnd h g nR (cpN N E 8) nR 0 N) (rnd h g nR (cpN N E 8) nR 0 N b) ri
    else wys h g nR b n (ri + 1) (cpN N E 8) (rnd h g nR (cpN N E 8) nR 0 N) m r
def N0 (N : Nat → Nat) (a t : Nat) : Nat → Nat := upN (cpN (fun _ => 1000) N 8) a t
def wysF (h g : Nat → Nat) (nR a t b : Nat) (E N : Nat → Nat) : (Nat → Nat) × (Nat → Nat) × Nat × Nat := wys h g nR b 7 1 E (N0 N a t) (N0 N a t b) 0
theorem acr_le (h : Nat → Nat) (to st : Nat) : ∀ n t, acr h to st n t ≤ 1000
  | 0, _ => Nat.le_refl _
  | n + 1, t => by
    unfold acr
    split
    · split
      · omega
      · exact acr_le h to st n _
    · omega
theorem cpN_0 (N E : Nat → Nat) : cpN N E 0 = E := by funext s; simp [cpN]
theorem cpN_up (N E : Nat → Nat) (t : Nat) : upN (cpN N E t) t (N t) = cpN N E (t + 1) := by
  funext u
  unfold upN cpN
  by_cases h : u = t
  · subst h; simp
  · by_cases h2 : u < t
    · simp [h, h2, Nat.lt_succ_of_lt h2]
    · rw [if_neg h, if_neg h2, if_neg (by omega)]
def wy (w : am_W) (E N : Nat → Nat) (m r : Nat) : am_W := ((w.set 53 (.inr (6, [.ref 54, .ref 55, .int (nI m), .int (nI r)]))).set 54 (.inl (0, 8, .inl (nIf E)))).set 55 (.inl (0, 8, .inl (nIf N)))
def Aw (q i di dj ri rj : Nat) : Prop := q ≠ i ∧ q ≠ di ∧ q ≠ dj ∧ q ≠ ri ∧ q ≠ rj
def has3 (w : am_W) (a b c : Nat) : Prop := (∃ x, w[a]? = some x) ∧ (∃ x, w[b]? = some x) ∧ (∃ x, w[c]? = some x)
section WAYS
variable {X : am_X} {d : Nat} {Q : am_Q} {w : am_W} {i di dj ri rj nS nR : Nat} {fd fr : Nat → Int32} {h g : Nat → Nat} {E N : Nat → Nat} {m r : Nat}
theorem wy_53 (hw : has3 w 53 54 55) : (wy w E N m r)[53]? = some (.inr (6, [.ref 54, .ref 55, .int (nI m), .int (nI r)])) := by
  obtain ⟨⟨x, hx⟩, -, -⟩ := hw
  unfold wy
  rw [set_ne (by decide), set_ne (by decide), set_at hx]
theorem wy_54 (hw : has3 w 53 54 55) : (wy w E N m r)[54]? = some (.inl (0, 8, .inl (nIf E))) := by
  obtain ⟨-, ⟨x, hx⟩, -⟩ := hw
  unfold wy
  rw [set_ne (by decide), set_at (by rw [set_ne (by decide)]; exact hx)]
theorem wy_55 (hw : has3 w 53 54 55) : (wy w E N m r)[55]? = some (.inl (0, 8, .inl (nIf N))) := by
  obtain ⟨-, -, ⟨x, hx⟩⟩ := hw
  unfold wy
  rw [set_at (by rw [set_ne (by decide), set_ne (by decide)]; exact hx)]
theorem wy_f0 (hw : has3 w 53 54 55) : am_fld (wy w E N m r) 53 6 0 = some (.ref 54) := fld_at (wy_53 hw)
theorem wy_f1 (hw : has3 w 53 54 55) : am_fld (wy w E N m r) 53 6 1 = some (.ref 55) := fld_at (wy_53 hw)
theorem wy_f2 (hw : has3 w 53 54 55) : am_fld (wy w E N m r) 53 6 2 = some (.int (nI m)) := fld_at (wy_53 hw)
theorem wy_f3 (hw : has3 w 53 54 55) : am_fld (wy w E N m r) 53 6 3 = some (.int (nI r)) := fld_at (wy_53 hw)
theorem wy_cl (hw : has3 w 53 54 55) : am_cls (wy w E N m r) 53 = some 6 := cls_at (wy_53 hw)
theorem wy_a4 (hw : has3 w 53 54 55) : am_arr X (wy w E N m r) 54 = some (0, 8, nIf E) := arr_at (by decide) (wy_54 hw)
theorem wy_a5 (hw : has3 w 53 54 55) : am_arr X (wy w E N m r) 55 = some (0, 8, nIf N) := arr_at (by decide) (wy_55 hw)
theorem wy_s4 (hw : has3 w 53 54 55) (s v : Nat) : am_ast (wy w E N m r) 54 s (nI v) = wy w (upN E s v) N m r := by
  rw [ast_at (wy_54 hw), upd_nIf]
  unfold wy
  rw [List.set_comm _ _ (show (54 : Nat) ≠ 55 by decide), List.set_set]
  rw [List.set_comm _ _ (show (54 : Nat) ≠ 55 by decide)]
theorem wy_s5 (hw : has3 w 53 54 55) (s v : Nat) : am_ast (wy w E N m r) 55 s (nI v) = wy w E (upN N s v) m r := by
  rw [ast_at (wy_55 hw), upd_nIf]
  unfold wy
  rw [List.set_set]
theorem wy_p2 (hw : has3 w 53 54 55) (v : Nat) : am_put (wy w E N m r) 53 2 (.int (nI v)) = wy w E N v r := by
  rw [put_at (wy_53 hw)]
  unfold wy
  rw [List.set_comm _ _ (show (55 : Nat) ≠ 53 by decide), List.set_comm _ _ (show (54 : Nat) ≠ 53 by decide), List.set_set]
  rfl
theorem wy_p3 (hw : has3 w 53 54 55) (v : Nat) : am_put (wy w E N m r) 53 3 (.int (nI v)) = wy w E N m v := by
  rw [put_at (wy_53 hw)]
  unfold wy
  rw [List.set_comm _ _ (show (55 : Nat) ≠ 53 by decide), List.set_comm _ _ (show (54 : Nat) ≠ 53 by decide), List.set_set]
  rfl
theorem wy_ne {p : Nat} (h1 : 53 ≠ p) (h2 : 54 ≠ p) (h3 : 55 ≠ p) : (wy w E N m r)[p]? = w[p]? := by
  unfold wy
  rw [set_ne h3, set_ne h2, set_ne h1]
theorem wy_St (S : StAt w i di dj ri rj nS nR fd fr h g) (a3 : Aw 53 i di dj ri rj) (a4 : Aw 54 i di dj ri rj) (a5 : Aw 55 i di dj ri rj) (E N : Nat → Nat) (m r : Nat) : StAt (wy w E N m r) i di dj ri rj nS nR fd fr h g :=
  S.oth (wy_ne a3.1 a4.1 a5.1) (wy_ne a3.2.1 a4.2.1 a5.2.1) (wy_ne a3.2.2.1 a4.2.2.1 a5.2.2.1) (wy_ne a3.2.2.2.1 a4.2.2.2.1 a5.2.2.2.1) (wy_ne a3.2.2.2.2 a4.2.2.2.2 a5.2.2.2.2)
theorem ways_cross (hw : has3 w 53 54 55) (S : ∀ E N m r, StAt (wy w E N m r) i di dj ri rj nS nR fd fr h g) {k s : Nat} (hk : k < nR) (hs : s < nS) (hE : ∀ s, s < 8 → E s ≤ 1000) (hN : ∀ s, s < 8 → N s ≤ 1000) : Cl X (d + 4) 51 [.ref 53, .ref i, .int (nI k), .int (nI s)] (wy w E N m r) Q = Q none (wy w E (crs h g nR E k s N) m r) := by
  have hi1 := (S E N 0 0).i1
  have hn8 := (S E N 0 0).dk.2.1
  have ho := oth_lt (S E N 0 0).rk hk (s := s)
  have hEs := hE s (by omega)
  have hNo := hN (oth g k s) (by omega)
  have hac := acr_le h (oth g k s) (2 * g (k * 5 + 2)) 1000 (fat g k s (E s) + g (k * 5 + 2))
  have hac2 : acrF h g k s (E s) ≤ 1000 := hac
  rw [e51]
  simp only [s51_0, s51_1, s51_2, s51_3, s51_6, s51_8, s51_9, s51_12, s51_13, s51_15, s51_18, s51_20, s51_23, s51_25, s51_27, s51_30, s51_31, s51_32, s51_35, s51_36, s51_37, s51_40, s51_43, s51_44, s51_45, s51_46, s51_49, s51_52, s51_53, s51_56, s51_58, s51_59, s51_62, s51_64, s51_65, s51_66, s51_67, s51_68, s51_69, s51_72, s51_73, s51_74, s51_77, s51_80, s51_81, OpV_some, OpN_some, OpA_some, OpR_some, Option.toList_some, Option.toList_none, List.cons_append, List.nil_append, true_and, and_true, nI11, or_true, true_or, or_false, false_or, hi1, (S _ _ _ _).cl, st_other (S _ _ _ _) hk (show s < 2 ^ 31 by omega), nI_lt0 (show s < 2 ^ 31 by omega), nI_lt0 (show oth g k s < 2 ^ 31 by omega), nI_ltN (show s < 2 ^ 31 by omega) (show 8 < 2 ^ 31 by decide), nI_ltN (show oth g k s < 2 ^ 31 by omega) (show 8 < 2 ^ 31 by decide), show s < 8 by omega, show oth g k s < 8 by omega, if_true, if_false, wy_f0 hw, wy_f1 hw, wy_a4 hw, wy_a5 hw, in_nI (show s < 8 by omega) (show 8 < 2 ^ 31 by decide), in_nI (show oth g k s < 8 by omega) (show 8 < 2 ^ 31 by decide), cl_nI (show s < 2 ^ 31 by omega), cl_nI (show oth g k s < 2 ^ 31 by omega), nIf, nI_ltN (show 999 < 2 ^ 31 by decide) (show E s < 2 ^ 31 by omega), st_canTake (S _ _ _ _) (show k < 2 ^ 30 by have := (S E N 0 0).rk.1; omega) hs, nI_ite, st_across (S _ _ _ _) hk (show s < 2 ^ 31 by omega) (show E s < 2000 by omega), math_min, imin_nI (show N (oth g k s) < 2 ^ 31 by omega) (show acrF h g k s (E s) < 2 ^ 31 by omega), wy_s5 hw, show (53 : Nat) < 1000 by decide, show (54 : Nat) < 1000 by decide, show (55 : Nat) < 1000 by decide]
  unfold crs
  by_cases h9 : 999 < E s
  · simp only [h9, if_true, show ¬ E s ≤ 999 by omega, false_and, if_false]
  · by_cases hc : canB g nR k s = true
    · simp only [h9, hc, not_true, if_false, show E s ≤ 999 by omega, and_self, if_true]
    · simp only [h9, hc, not_false_eq_true, if_true, if_false, show E s ≤ 999 by omega, and_false, Bool.false_eq_true]
theorem upN_le {N : Nat → Nat} {k v B : Nat} (hN : ∀ s, s < 8 → N s ≤ B) (hv : v ≤ B) : ∀ s, s < 8 → upN N k v s ≤ B := by
  intro s hs
  unfold upN
  split
  · exact hv
  · exact hN s hs
theorem crs_le (h g : Nat → Nat) (nR : Nat) {E N : Nat → Nat} (k s : Nat) (hN : ∀ s, s < 8 → N s ≤ 1000) : ∀ t, t < 8 → crs h g nR E k s N t ≤ 1000 := by
  unfold crs
  split
  · exact upN_le hN (Nat.le_trans (Nat.min_le_right _ _) (acr_le _ _ _ _ _))
  · exact hN
theorem ways_more_loop (hw : has3 w 53 54 55) (S : ∀ E N m r, StAt (wy w E N m r) i di dj ri rj nS nR fd fr h g) (hE : ∀ s, s < 8 → E s ≤ 1000) : ∀ (n k : Nat) (N : Nat → Nat), k + n = nR → (∀ s, s < 8 → N s ≤ 1000) → Wp X (Cl X (d + 4)) 50 Q (28, [some (.ref 53), some (.ref i), some (.int (nI k))], [], wy w E N m r, 0, 0) = Q none (wy w E (rnd h g nR E n k N) m r)
  | 0, k, N, e, hN => by
    have hi1 := (S E N 0 0).i1
    have hri := (S E N 0 0).rr.i1
    have hn := (S E N 0 0).rk.1
    rw [s50_28]
    simp only [s50_0, s50_1, s50_3, s50_5, s50_8, s50_9, s50_12, s50_13, s50_14, s50_17, s50_18, s50_19, s50_20, s50_23, s50_26, s50_27, s50_29, s50_30, s50_33, s50_36, s50_39, s50_40, s50_41, s50_42, s50_43, s50_46, s50_47, s50_48, s50_51, s50_54, s50_55, s50_56, s50_57, s50_58, s50_61, s50_62, s50_63, s50_66, s50_69, s50_72, s50_75, OpV_some, OpN_some, OpA_some, OpR_some, Option.toList_some, Option.toList_none, List.cons_append, List.nil_append, true_and, and_true, nI11, or_true, true_or, or_false, false_or, hi1, hri, (S _ _ _ _).f1, (S _ _ _ _).rr.f3, nI_ltN (show k < 2 ^ 31 by omega) (show nR < 2 ^ 31 by omega), show ¬ k < nR by omega, if_false, rnd]
  | n + 1, k, N, e, hN => by
    have hi1 := (S E N 0 0).i1
    have hri := (S E N 0 0).rr.i1
    have hn := (S E N 0 0).rk.1
    have hk : k < nR := by omega
    obtain ⟨h1, h2, -⟩ := (S E N 0 0).rk.2 k hk
    have hN1 := crs_le h g nR (E := E) k (g (k * 5)) hN
    have hN2 := crs_le h g nR (E := E) k (g (k * 5 + 1)) hN1
    have ih := ways_more_loop hw S hE n (k + 1) _ (by omega) hN2
    rw [s50_28]
    simp only [s50_0, s50_1, s50_3, s50_5, s50_8, s50_9, s50_12, s50_13, s50_14, s50_17, s50_18, s50_19, s50_20, s50_23, s50_26, s50_27, s50_29, s50_30, s50_33, s50_36, s50_39, s50_40, s50_41, s50_42, s50_43, s50_46, s50_47, s50_48, s50_51, s50_54, s50_55, s50_56, s50_57, s50_58, s50_61, s50_62, s50_63, s50_66, s50_69, s50_72, s50_75, OpV_some, OpN_some, OpA_some, OpR_some, Option.toList_some, Option.toList_none, List.cons_append, List.nil_append, true_and, and_true, nI11, or_true, true_or, or_false, false_or, hi1, hri, (S _ _ _ _).f1, (S _ _ _ _).rr.f3, (S _ _ _ _).rr.cl, nI_ltN (show k < 2 ^ 31 by omega) (show nR < 2 ^ 31 by omega), hk, if_true, (S _ _ _ _).rope0 hk, (S _ _ _ _).rope hk (show 1 < 5 by decide), wy_cl hw, show (53 : Nat) < 1000 by decide, ways_cross hw S hk h1 hE hN, ways_cross hw S hk h2 hE hN1, nI_add]
    exact ih
theorem ways_copy_loop (hw : has3 w 53 54 55) (hi : i < 1000) : ∀ (n t : Nat) (E : Nat → Nat), t + n = 8 → Wp X (Cl X (d + 4)) 50 Q (2, [some (.ref 53), some (.ref i), some (.int (nI t))], [], wy w (cpN N E t) N m r, 0, 0) = Wp X (Cl X (d + 4)) 50 Q (28, [some (.ref 53), some (.ref i), some (.int (nI 0))], [], wy w (cpN N E 8) N m r, 0, 0)
  | 0, t, E, e => by
    obtain rfl : t = 8 := by omega
    rw [s50_2]
    simp only [s50_0, s50_1, s50_3, s50_5, s50_8, s50_9, s50_12, s50_13, s50_14, s50_17, s50_18, s50_19, s50_20, s50_23, s50_26, s50_27, s50_29, s50_30, s50_33, s50_36, s50_39, s50_40, s50_41, s50_42, s50_43, s50_46, s50_47, s50_48, s50_51, s50_54, s50_55, s50_56, s50_57, s50_58, s50_61, s50_62, s50_63, s50_66, s50_69, s50_72, s50_75, OpV_some, OpN_some, OpA_some, OpR_some, Option.toList_some, Option.toList_none, List.cons_append, List.nil_append, true_and, and_true, nI11, or_true, true_or, or_false, false_or, nI_ltN (show 8 < 2 ^ 31 by decide) (show 8 < 2 ^ 31 by decide), Nat.lt_irrefl, if_false]
  | n + 1, t, E, e => by
    have ih := ways_copy_loop hw hi n (t + 1) E (by omega)
    rw [s50_2]
    simp only [s50_0, s50_1, s50_3, s50_5, s50_8, s50_9, s50_12, s50_13, s50_14, s50_17, s50_18, s50_19, s50_20, s50_23, s50_26, s50_27, s50_29, s50_30, s50_33, s50_36, s50_39, s50_40, s50_41, s50_42, s50_43, s50_46, s50_47, s50_48, s50_51, s50_54, s50_55, s50_56, s50_57, s50_58, s50_61, s50_62, s50_63, s50_66, s50_69, s50_72, s50_75, OpV_some, OpN_some, OpA_some, OpR_some, Option.toList_some, Option.toList_none, List.cons_append, List.nil_append, true_and, and_true, nI11, or_true, true_or, or_false, false_or, nI_ltN (show t < 2 ^ 31 by omega) (show 8 < 2 ^ 31 by decide), show t < 8 by omega, if_true, wy_f0 hw, wy_f1 hw, wy_a4 hw, wy_a5 hw, in_nI (show t < 8 by omega) (show 8 < 2 ^ 31 by decide), cl_nI (show t < 2 ^ 31 by omega), nIf, wy_s4 hw, cpN_up, nI_add, show (53 : Nat) < 1000 by decide, show (54 : Nat) < 1000 by decide, show (55 : Nat) < 1000 by decide]
    exact ih
theorem ways_more (hw : has3 w 53 54 55) (S : ∀ E N m r, StAt (wy w E N m r) i di dj ri rj nS nR fd fr h g) (hN : ∀ s, s < 8 → N s ≤ 1000) : Cl X (d + 5) 50 [.ref 53, .ref i] (wy w E N m r) Q = Q none (wy w (cpN N E 8) (rnd h g nR (cpN N E 8) nR 0 N) m r) := by
  rw [e50]
  simp only [s50_0, s50_1, s50_3, s50_5, s50_8, s50_9, s50_12, s50_13, s50_14, s50_17, s50_18, s50_19, s50_20, s50_23, s50_26, s50_27, s50_29, s50_30, s50_33, s50_36, s50_39, s50_40, s50_41, s50_42, s50_43, s50_46, s50_47, s50_48, s50_51, s50_54, s50_55, s50_56, s50_57, s50_58, s50_61, s50_62, s50_63, s50_66, s50_69, s50_72, s50_75]
  have h1 := ways_copy_loop (X := X) (d := d) (Q := Q) (N := N) (m := m) (r := r) hw (S E N 0 0).2.1 8 0 E (by omega)
  rw [cpN_0] at h1
  rw [h1]
  exact ways_more_loop hw S (fun s hs => by unfold cpN; rw [if_pos hs]; exact hN s hs) nR 0 N (by omega) hN
theorem rnd_le (h g : Nat → Nat) (nR : Nat) {E : Nat → Nat} : ∀ (n k : Nat) (N : Nat → Nat), (∀ s, s < 8 → N s ≤ 1000) → ∀ s, s < 8 → rnd h g nR E n k N s ≤ 1000
  | 0, _, _, hN => hN
  | n + 1, k, N, hN => rnd_le h g nR n (k + 1) _ (crs_le h g nR k _ (crs_le h g nR k _ hN))
theorem ways_find_loop (hw : has3 w 53 54 55) (S : ∀ E N m r, StAt (wy w E N m r) i di dj ri rj nS nR fd fr h g) {a t b : Nat} (hb : b < 8) : ∀ (n q : Nat) (E N : Nat → Nat) (m r : Nat), q + n = 8 → (∀ s, s < 8 → N s ≤ 1000) → m ≤ 1000 → Wp X (Cl X (d + 5)) 49 Q (76, [some (.ref 53), some (.ref i), some (.int (nI a)), some (.int (nI t)), some (.int (nI b)), some (.int (nI q))], [], wy w E N m r, 0, 0) =
    Q (some (.int (nI (if (wys h g nR b n q E N m r).2.2.1 ≤ 999 then 1 else 0)))) (wy w (wys h g nR b n q E N m r).1 (wys h g nR b n q E N m r).2.1 (wys h g nR b n q E N m r).2.2.1 (wys h g nR b n q E N m r).2.2.2)
  | 0, q, E, N, m, r, e, hN, hm => by
    rw [s49_76]
    simp only [s49_0, s49_1, s49_4, s49_5, s49_7, s49_10, s49_12, s49_15, s49_17, s49_19, s49_22, s49_23, s49_24, s49_25, s49_29, s49_31, s49_34, s49_35, s49_38, s49_40, s49_43, s49_44, s49_47, s49_50, s49_51, s49_54, s49_55, s49_56, s49_57, s49_58, s49_59, s49_62, s49_64, s49_65, s49_68, s49_69, s49_70, s49_73, s49_74, s49_78, s49_80, s49_83, s49_84, s49_85, s49_88, s49_89, s49_92, s49_94, s49_95, s49_96, s49_99, s49_102, s49_103, s49_104, s49_107, s49_109, s49_110, s49_113, s49_114, s49_116, s49_119, s49_122, s49_125, s49_126, s49_129, s49_132, s49_135, s49_136, s49_139, s49_140, OpV_some, OpN_some, OpA_some, OpR_some, Option.toList_some, Option.toList_none, List.cons_append, List.nil_append, true_and, and_true, nI11, or_true, true_or, or_false, false_or, nI_ltN (show q < 2 ^ 31 by omega) (show 8 < 2 ^ 31 by decide), show ¬ q < 8 by omega, if_false, wy_f2 hw, nI_ltN (show 999 < 2 ^ 31 by decide) (show m < 2 ^ 31 by omega), show (53 : Nat) < 1000 by decide, b01_0, b01_1, wys]
    by_cases h9 : 999 < m
    · simp only [h9, if_true, show ¬ m ≤ 999 by omega, if_false]
    · simp only [h9, if_false, show m ≤ 999 by omega, if_true]
  | n + 1, q, E, N, m, r, e, hN, hm => by
    have hi1 := (S E N 0 0).i1
    have hR := rnd_le h g nR (E := cpN N E 8) nR 0 N hN
    have hRb := hR b hb
    rw [s49_76]
    simp only [s49_0, s49_1, s49_4, s49_5, s49_7, s49_10, s49_12, s49_15, s49_17, s49_19, s49_22, s49_23, s49_24, s49_25, s49_29, s49_31, s49_34, s49_35, s49_38, s49_40, s49_43, s49_44, s49_47, s49_50, s49_51, s49_54, s49_55, s49_56, s49_57, s49_58, s49_59, s49_62, s49_64, s49_65, s49_68, s49_69, s49_70, s49_73, s49_74, s49_78, s49_80, s49_83, s49_84, s49_85, s49_88, s49_89, s49_92, s49_94, s49_95, s49_96, s49_99, s49_102, s49_103, s49_104, s49_107, s49_109, s49_110, s49_113, s49_114, s49_116, s49_119, s49_122, s49_125, s49_126, s49_129, s49_132, s49_135, s49_136, s49_139, s49_140, OpV_some, OpN_some, OpA_some, OpR_some, Option.toList_some, Option.toList_none, List.cons_append, List.nil_append, true_and, and_true, nI11, or_true, true_or, or_false, false_or, hi1, nI_ltN (show q < 2 ^ 31 by omega) (show 8 < 2 ^ 31 by decide), show q < 8 by omega, if_true, wy_cl hw, ways_more hw S hN, wy_f1 hw, wy_f2 hw, wy_f3 hw, wy_a5 hw, in_nI hb (show 8 < 2 ^ 31 by decide), cl_nI (show b < 2 ^ 31 by omega), nIf, nI_ltN (show rnd h g nR (cpN N E 8) nR 0 N b < 2 ^ 31 by omega) (show m < 2 ^ 31 by omega), wy_p2 hw, wy_p3 hw, nI_add, show (53 : Nat) < 1000 by decide, show (55 : Nat) < 1000 by decide, wys]
    by_cases hlt : rnd h g nR (cpN N E 8) nR 0 N b < m
    · simp only [hlt, if_true]
      exact ways_find_loop hw S hb n (q + 1) _ _ _ _ (by omega) hR (by omega)
    · simp only [hlt, if_false]
      exact ways_find_loop hw S hb n (q + 1) _ _ _ _ (by omega) hR hm
theorem ways_init_loop (hw : has3 w 53 54 55) (hi : i < 1000) {a t b : Nat} : ∀ (n q : Nat) (N : Nat → Nat), q + n = 8 → Wp X (Cl X (d + 5)) 49 Q (27, [some (.ref 53), some (.ref i), some (.int (nI a)), some (.int (nI t)), some (.int (nI b)), some (.int (nI q))], [], wy w E (cpN (fun _ => 1000) N q) m r, 0, 0) = Wp X (Cl X (d + 5)) 49 Q (50, [some (.ref 53), some (.ref i), some (.int (nI a)), some (.int (nI t)), some (.int (nI b)), some (.int (nI 8))], [], wy w E (cpN (fun _ => 1000) N 8) m r, 0, 0)
  | 0, q, N, e => by
    obtain rfl : q = 8 := by omega
    rw [s49_27]
    simp only [s49_29, s49_31, OpV_some, OpN_some, OpA_some, OpR_some, Option.toList_some, Option.toList_none, List.cons_append, List.nil_append, true_and, and_true, nI11, or_true, true_or, or_false, false_or, nI_ltN (show 8 < 2 ^ 31 by decide) (show 8 < 2 ^ 31 by decide), Nat.lt_irrefl, if_false]
  | n + 1, q, N, e => by
    have ih := ways_init_loop hw hi (a := a) (t := t) (b := b) n (q + 1) N (by omega)
    have e1 := cpN_up (fun _ => 1000) N q
    rw [s49_27]
    simp only [s49_29, s49_31, s49_34, s49_35, s49_38, s49_40, s49_43, s49_44, s49_47, OpV_some, OpN_some, OpA_some, OpR_some, Option.toList_some, Option.toList_none, List.cons_append, List.nil_append, true_and, and_true, nI11, or_true, true_or, or_false, false_or, nI_ltN (show q < 2 ^ 31 by omega) (show 8 < 2 ^ 31 by decide), show q < 8 by omega, if_true, wy_f1 hw, wy_a5 hw, in_nI (show q < 8 by omega) (show 8 < 2 ^ 31 by decide), cl_nI (show q < 2 ^ 31 by omega), wy_s5 hw, e1, nI_add, show (53 : Nat) < 1000 by decide, show (55 : Nat) < 1000 by decide]
    exact ih
theorem ways_find (hw : has3 w 53 54 55) (S : ∀ E N m r, StAt (wy w E N m r) i di dj ri rj nS nR fd fr h g) {a t b : Nat} (ha : a < nS) (hb : b < nS) (ht : t ≤ 999) : Cl X (d + 6) 49 [.ref 53, .ref i, .int (nI a), .int (nI t), .int (nI b)] (wy w E N m r) Q =
    Q (some (.int (nI (if (wysF h g nR a t b E N).2.2.1 ≤ 999 then 1 else 0)))) (wy w (wysF h g nR a t b E N).1 (wysF h g nR a t b E N).2.1 (wysF h g nR a t b E N).2.2.1 (wysF h g nR a t b E N).2.2.2) := by
  have hn8 := (S E N 0 0).dk.2.1
  have hi1 := (S E N 0 0).2.1
  have hN1 : ∀ s, s < 8 → N0 N a t s ≤ 1000 := upN_le (fun s hs => by unfold cpN; rw [if_pos hs]; exact Nat.le_refl _) (by omega)
  have h1 := ways_init_loop (X := X) (d := d) (Q := Q) (E := E) (m := m) (r := r) (i := i) (a := a) (t := t) (b := b) hw hi1 8 0 N (by omega)
  rw [cpN_0] at h1
  rw [e49]
  simp only [s49_0, s49_1, s49_4, s49_5, s49_7, s49_10, s49_12, s49_15, s49_17, s49_19, s49_22, s49_23, s49_24, s49_25, s49_29, s49_31, s49_34, s49_35, s49_38, s49_40, s49_43, s49_44, s49_47, s49_50, s49_51, s49_54, s49_55, s49_56, s49_57, s49_58, s49_59, s49_62, s49_64, s49_65, s49_68, s49_69, s49_70, s49_73, s49_74, s49_78, s49_80, s49_83, s49_84, s49_85, s49_88, s49_89, s49_92, s49_94, s49_95, s49_96, s49_99, s49_102, s49_103, s49_104, s49_107, s49_109, s49_110, s49_113, s49_114, s49_116, s49_119, s49_122, s49_125, s49_126, s49_129, s49_132, s49_135, s49_136, s49_139, s49_140, OpV_some, OpN_some, OpA_some, OpR_some, Option.toList_some, Option.toList_none, List.cons_append, List.nil_append, true_and, and_true, nI11, or_true, true_or, or_false, false_or, nI_lt0 (show a < 2 ^ 31 by omega), nI_lt0 (show b < 2 ^ 31 by omega), nI_ltN (show a < 2 ^ 31 by omega) (show 8 < 2 ^ 31 by decide), nI_ltN (show b < 2 ^ 31 by omega) (show 8 < 2 ^ 31 by decide), show a < 8 by omega, show b < 8 by omega, if_true, if_false]
  rw [h1]
  simp only [s49_0, s49_1, s49_4, s49_5, s49_7, s49_10, s49_12, s49_15, s49_17, s49_19, s49_22, s49_23, s49_24, s49_25, s49_29, s49_31, s49_34, s49_35, s49_38, s49_40, s49_43, s49_44, s49_47, s49_50, s49_51, s49_54, s49_55, s49_56, s49_57, s49_58, s49_59, s49_62, s49_64, s49_65, s49_68, s49_69, s49_70, s49_73, s49_74, s49_78, s49_80, s49_83, s49_84, s49_85, s49_88, s49_89, s49_92, s49_94, s49_95, s49_96, s49_99, s49_102, s49_103, s49_104, s49_107, s49_109, s49_110, s49_113, s49_114, s49_116, s49_119, s49_122, s49_125, s49_126, s49_129, s49_132, s49_135, s49_136, s49_139, s49_140, OpV_some, OpN_some, OpA_some, OpR_some, Option.toList_some, Option.toList_none, List.cons_append, List.nil_append, true_and, and_true, nI11, or_true, true_or, or_false, false_or, wy_f1 hw, wy_f2 hw, wy_f3 hw, wy_a5 hw, in_nI (show a < 8 by omega) (show 8 < 2 ^ 31 by decide), in_nI (show b < 8 by omega) (show 8 < 2 ^ 31 by decide), cl_nI (show a < 2 ^ 31 by omega), cl_nI (show b < 2 ^ 31 by omega), wy_s5 hw, nIf, wy_p2 hw, wy_p3 hw, show (53 : Nat) < 1000 by decide, show (55 : Nat) < 1000 by decide]
  exact ways_find_loop hw S (by omega) 7 1 E (N0 N a t) (N0 N a t b) 0 (by omega) hN1 (hN1 b (by omega))
end WAYS
