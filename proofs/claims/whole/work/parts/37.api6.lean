/-! told ropes: read, followed; route -/
theorem rrd_cg : ∀ (n tz : Nat) (F F' : Nat → Nat) (v : Nat), (∀ q, q < tz → F q = F' q) →
    (rrd n tz F v).1 = (rrd n tz F' v).1 ∧ (rrd n tz F v).2.1 = (rrd n tz F' v).2.1 ∧ (rrd n tz F v).2.2.2 = (rrd n tz F' v).2.2.2 ∧ ∀ q, q < (rrd n tz F v).2.1 → (rrd n tz F v).2.2.1 q = (rrd n tz F' v).2.2.1 q
  | 0, tz, F, F', v, h => ⟨rfl, rfl, rfl, h⟩
  | n + 1, tz, F, F', v, h => by
    unfold rrd
    by_cases h0 : v = 0
    · rw [if_pos h0, if_pos h0]; exact ⟨rfl, rfl, rfl, h⟩
    · by_cases h1 : v % 10 < 1 ∨ 8 < v % 10
      · rw [if_neg h0, if_pos h1, if_neg h0, if_pos h1]; exact ⟨rfl, rfl, rfl, h⟩
      · rw [if_neg h0, if_neg h1, if_neg h0, if_neg h1]
        refine rrd_cg n (tz + 1) _ _ _ fun q hq => ?_
        unfold upN
        split
        · rfl
        · exact h q (by omega)
theorem rrd_ok : ∀ (n tz : Nat) (F : Nat → Nat) (v : Nat), (rrd n tz F v).1 = true →
    (rrd n tz F v).2.2.2 = (rrd n tz F v).2.1 ∧ (rrd n tz F v).2.1 ≤ tz + n ∧ ((∀ q, q < tz → F q < 8) → ∀ q, q < (rrd n tz F v).2.1 → (rrd n tz F v).2.2.1 q < 8)
  | 0, tz, F, v, _ => ⟨rfl, Nat.le_refl _, fun h => h⟩
  | n + 1, tz, F, v, ht => by
    unfold rrd at ht ⊢
    by_cases h0 : v = 0
    · rw [if_pos h0] at ht ⊢; exact ⟨rfl, Nat.le_add_right _ _, fun h => h⟩
    · by_cases h1 : v % 10 < 1 ∨ 8 < v % 10
      · rw [if_neg h0, if_pos h1] at ht; exact Bool.noConfusion ht
      · rw [if_neg h0, if_neg h1] at ht ⊢
        obtain ⟨a, b, c⟩ := rrd_ok n (tz + 1) _ _ ht
        refine ⟨a, by omega, fun h => c fun q hq => ?_⟩
        unfold upN
        split
        · omega
        · exact h q (by omega)
theorem flw_cg {h g : Nat → Nat} {nR G sz : Nat} {F F' : Nat → Nat} (hF : ∀ q, q < sz → F q = F' q) : ∀ (n j si mi : Nat), j + n ≤ sz → flw h g nR G F sz n j si mi = flw h g nR G F' sz n j si mi
  | 0, j, si, mi, e => rfl
  | n + 1, j, si, mi, e => by
    unfold flw
    rw [hF (sz - 1 - j) (by omega)]
    split
    · exact flw_cg hF n (j + 1) _ _ (by omega)
    · rfl
/-- the ropes that a number tells: whether it may be, how many, which -/
def rtv (mo : Nat) (x : Int32) : Bool × Nat × (Nat → Nat) := if x < 0 then (false, 0, fun _ => 0) else ((rrd mo 0 (fun _ => 0) (cl x)).1, (rrd mo 0 (fun _ => 0) (cl x)).2.1, (rrd mo 0 (fun _ => 0) (cl x)).2.2.1)
section API6
variable {X : am_X} {d : Nat} {Q : am_Q} {w : am_W} {s : CSt}
theorem CityAt.onRt (C : CityAt w s) {u : am_W} {l : List Nat} (ag : agr w u l) (hl : ∀ q, q ∈ l → 49 ≤ q ∧ q ≤ 52) {tz sz mi si : Nat} {F : Nat → Nat} (R : RtAt u tz F sz mi si) : CityAt u s := by
  have k : ∀ q, q < 49 ∨ 52 < q → q ∉ l := fun q hq hm => by have := hl q hm; omega
  obtain ⟨n, f, h7⟩ := C.tr
  obtain ⟨f9, h9⟩ := C.df
  exact C.scr ag (fun q hq => by have := hl q hq; omega) ⟨n, f, h7.ag ag (k _ (by decide)) (k _ (by decide))⟩ (C.ri.ag ag (k _ (by decide))) ⟨tz, F, sz, mi, si, R⟩ (C.wyA.ag ag (k _ (by decide)) (k _ (by decide)) (k _ (by decide))) ⟨f9, (ag.2 _ (k _ (by decide))).trans h9⟩
/-- the told ropes are read -/
theorem c_read (C : CityAt w s) {mo : Nat} (hmo : mo ≤ 6) (x : Int32)
    (h0 : (rtv mo x).1 = false → ∀ u, agr w u [49, 50, 51] → CityAt u s → Q (some (.int (nI 0))) u)
    (h1 : (rtv mo x).1 = true → ∀ u F mi si, agr w u [49, 50, 51] → CityAt u s → RtAt u (rtv mo x).2.1 F (rtv mo x).2.1 mi si → (∀ q, q < (rtv mo x).2.1 → F q = (rtv mo x).2.2 q) → Q (some (.int (nI 1))) u) : Cl X (d + 2) 28 [.ref 49, .int x, .int (nI mo)] w Q := by
  obtain ⟨tz, F, sz, mi, si, R⟩ := C.rt
  refine route_read hmo R (fun hx z ag Rz => h0 (by unfold rtv; rw [if_pos hx]) z ag (C.onRt ag (by decide) Rz)) fun v e hv z ag Rz => ?_
  subst e
  have hn : ¬ nI v < 0 := by rw [nI_lt0 hv]; decide
  obtain ⟨c1, c2, c3, c4⟩ := rrd_cg mo 0 F (fun _ => 0) v (by omega)
  unfold rtv at h0 h1
  simp only [if_neg hn, cl_of hv] at h0 h1
  by_cases hb : (rrd mo 0 F v).1 = true
  · obtain ⟨o1, o2, o3⟩ := rrd_ok mo 0 F v hb
    rw [if_pos hb]
    rw [o1, c2] at Rz
    refine h1 (c1 ▸ hb) z _ mi si ag (C.onRt ag (by decide) Rz) Rz fun q hq => c4 q (by rw [c2]; exact hq)
  · rw [if_neg hb]
    exact h0 (by rw [← c1]; simpa using hb) z ag (C.onRt ag (by decide) Rz)
theorem rtv_ok {mo : Nat} {x : Int32} (h : (rtv mo x).1 = true) : (rtv mo x).2.1 ≤ mo ∧ ∀ q, q < (rtv mo x).2.1 → (rtv mo x).2.2 q < 8 := by
  unfold rtv at h ⊢
  split at h
  · exact absurd h (by decide)
  · rename_i hx
    rw [if_neg hx]
    obtain ⟨-, o2, o3⟩ := rrd_ok mo 0 _ _ h
    exact ⟨Nat.le_trans o2 (by omega), o3 (by omega)⟩
theorem c_follow (C : CityAt w s) {i di dj ri rj nS nR : Nat} {fd fr : Nat → Int32} {h g : Nat → Nat} (S : StAt w i di dj ri rj nS nR fd fr h g) (n9 : Aw 49 i di dj ri rj) (n2 : Aw 52 i di dj ri rj) {G a t sz mi si : Nat} {F F' : Nat → Nat} (hG : G ≤ 5) (R : RtAt w sz F sz mi si) (hF : ∀ q, q < sz → F q = F' q) (h8 : ∀ q, q < sz → F' q < 8) (ha : a < nS) (ht : t < 1000)
    (hQ : ∀ u, agr w u [49, 52] → CityAt u s → RtAt u sz F sz (flw h g nR G F' sz sz 0 a t).2.2 (flw h g nR G F' sz sz 0 a t).2.1 → Q (some (.int (nI (flw h g nR G F' sz sz 0 a t).1))) u) : Cl X (d + 4) 30 [.ref 49, .ref i, .int (nI G), .int (nI a), .int (nI t)] w Q := by
  have e := flw_cg (h := h) (g := g) (nR := nR) (G := G) hF sz 0 a t (by omega)
  refine route_follow hG (fun j hj => by rw [hF j hj]; exact h8 j hj) n9 n2 R S ha ht fun v ag Rv => ?_
  rw [e] at Rv ⊢
  exact hQ v ag (C.onRt ag (by decide) Rv) Rv
abbrev askB (s : CSt) (G a t y : Int32) : Prop := ((nI 1 ≤ G ∧ G ≤ nI 5) ∧ (0 ≤ a ∧ a < nI s.2.1.1)) ∧ ((0 ≤ t ∧ t < nI 1000) ∧ (0 ≤ y ∧ y < nI 2))
theorem c_ask (C : CityAt w s) (G a t y : Int32) : (askB s G a t y → Cl X (d + 3) 80 [.ref 0, .int G, .int a, .int t, .int y] w Q = Q (some (.int (nI 1))) w) ∧ (¬ askB s G a t y → Cl X (d + 3) 80 [.ref 0, .int G, .int a, .int t, .int y] w Q = Q (some (.int (nI 0))) w) := by
  rw [e80]
  unfold askB
  simp only [s80_0, s80_1, s80_2, s80_3, s80_6, s80_9, s80_10, s80_13, s80_14, s80_17, s80_20, s80_21, s80_24, s80_27, s80_29, s80_30, s80_31, s80_34, s80_37, s80_38, s80_41, s80_42, OpV_some, OpN_some, OpA_some, OpR_some, Option.toList_some, Option.toList_none, List.cons_append, List.nil_append, true_and, and_true, nI11, or_true, true_or, or_false, false_or, C.f2, C.dr.cl, rows_has C.dr, c_minute, c_within, nI_ite, show (0 : Nat) < 1000 by decide, show (2 : Nat) < 1000 by decide, rng_le t 999 (by decide), rng_le y 1 (by decide)]
  by_cases h1 : nI 1 ≤ G ∧ G ≤ nI 5 <;> by_cases h2 : 0 ≤ a ∧ a < nI s.2.1.1 <;> by_cases h3 : 0 ≤ t ∧ t < nI 1000 <;> by_cases h4 : 0 ≤ y ∧ y < nI 2 <;> simp only [h1, h2, h3, h4, and_self, and_true, true_and, and_false, false_and, not_true, not_false_eq_true, if_true, if_false, b01_0, b01_1, imp_self, false_imp_iff, true_imp_iff, implies_true]
/-- a grip is one of five numbers -/
theorem grip {G : Int32} (h : nI 1 ≤ G ∧ G ≤ nI 5) : ∃ k, 1 ≤ k ∧ k ≤ 5 ∧ G = nI k := by
  have h1 := h.1
  have h2 := h.2
  rw [Int32.le_iff_toInt_le] at h1 h2
  have e1 : (nI 1).toInt = 1 := by decide
  have e5 : (nI 5).toInt = 5 := by decide
  rw [e1] at h1
  rw [e5] at h2
  refine ⟨G.toInt.toNat, by omega, by omega, toInt_inj' ?_⟩
  rw [nI_toInt (by omega)]
  omega
/-- what follows of the told ropes -/
def rtf (s : CSt) (x : Int32) (mo G a t : Nat) : Nat × Nat × Nat := flw s.2.1.2 s.2.2.1.1.2 s.2.2.1.1.1 G (rtv mo x).2.2 (rtv mo x).2.1 (rtv mo x).2.1 0 a t
theorem flw_le {h g : Nat → Nat} {nR G sz : Nat} {F : Nat → Nat} : ∀ (n j si mi : Nat), (flw h g nR G F sz n j si mi).1 ≤ j + n
  | 0, j, si, mi => Nat.le_refl _
  | n + 1, j, si, mi => by
    unfold flw
    split
    · have := flw_le (h := h) (g := g) (nR := nR) (G := G) (sz := sz) (F := F) n (j + 1) (rid h g (F (sz - 1 - j)) G si mi).2.1 (rid h g (F (sz - 1 - j)) G si mi).1
      omega
    · exact Nat.le_add_right _ _
def sp_route (s : CSt) (G a t x y : Int32) : Int32 :=
  if askB s G a t y ∧ (rtv 6 x).1 = true then
    (if (rtf s x 6 (cl G) (cl a) (cl t)).1 < (rtv 6 x).2.1 then -10 - nI (rtf s x 6 (cl G) (cl a) (cl t)).1 else nI (if cl y = 0 then (rtf s x 6 (cl G) (cl a) (cl t)).2.2 else (rtf s x 6 (cl G) (cl a) (cl t)).2.1))
  else -1
theorem c_route (C : CityAt w s) (V : Valid s) (G a t x y : Int32) (hQ : ∀ u, CityAt u s → agr w u (List.range 57) → Q (some (.int (sp_route s G a t x y))) u) : Cl X (d + 5) 67 [.ref 0, .int G, .int a, .int t, .int x, .int y] w Q := by
  have h8 := C.dr.2.2.2.2.1
  rw [e67]
  unfold sp_route at hQ
  simp only [s67_0, s67_1, s67_2, s67_3, s67_4, s67_6, OpV_some, OpN_some, OpA_some, OpR_some, Option.toList_some, Option.toList_none, List.cons_append, List.nil_append, true_and, and_true, nI11, or_true, true_or, or_false, false_or, cls_at C.o, objC, show (0 : Nat) < 1000 by decide]
  by_cases hA : askB s G a t y
  · simp only [(c_ask C G a t y).1 hA, s67_9, s67_12, s67_13, s67_16, s67_18, s67_20, OpV_some, OpN_some, OpA_some, OpR_some, Option.toList_some, Option.toList_none, List.cons_append, List.nil_append, true_and, and_true, nI11, or_true, true_or, or_false, false_or, b01_1, C.f12, nI11, show (0 : Nat) < 1000 by decide, show (nI 1 = 0) = False by decide, if_false]
    obtain ⟨tz, F, sz, mi, si, R⟩ := C.rt
    refine ⟨⟨by decide, R.cl⟩, c_read C (show 6 ≤ 6 by decide) x (fun h0 u ag Cu => ?_) fun h1 u F mi si ag Cu R h6 => ?_⟩
    · simp only [h0, and_false, if_false, Bool.false_eq_true] at hQ
      simp only [s67_23, s67_26, s67_27, OpV_some, OpN_some, OpA_some, OpR_some, Option.toList_some, Option.toList_none, List.cons_append, List.nil_append, true_and, and_true, nI11, or_true, true_or, or_false, false_or, show (nI 0 = 0) = True by decide, if_true]
      exact hQ u Cu (ag.mo (by decide))
    · obtain ⟨k5, k6⟩ := rtv_ok h1
      obtain ⟨⟨hg, ha⟩, ht, hy⟩ := hA
      obtain ⟨G, g1, g5, rfl⟩ := grip hg
      obtain ⟨a, ha1, rfl⟩ : ∃ j, j < s.2.1.1 ∧ a = nI j := (ix a (by omega)).resolve_right (not_not_intro ha)
      obtain ⟨t, ht1, rfl⟩ : ∃ j, j < 1000 ∧ t = nI j := (ix t (by decide)).resolve_right (not_not_intro ht)
      obtain ⟨y, hy1, rfl⟩ : ∃ j, j < 2 ∧ y = nI j := (ix y (by decide)).resolve_right (not_not_intro hy)
      simp only [askB, hg, ha, ht, hy, h1, and_self, if_true, cl_of (show G < 2 ^ 31 by omega), cl_of (show a < 2 ^ 31 by omega), cl_of (show t < 2 ^ 31 by omega), cl_of (show y < 2 ^ 31 by omega)] at hQ
      simp only [s67_23, s67_26, s67_27, s67_28, s67_29, s67_32, s67_33, s67_36, s67_37, s67_38, s67_39, OpV_some, OpN_some, OpA_some, OpR_some, Option.toList_some, Option.toList_none, List.cons_append, List.nil_append, true_and, and_true, nI11, or_true, true_or, or_false, false_or, Cu.f12, Cu.f9, R.cl, show (nI 1 = 0) = False by decide, if_false, show (0 : Nat) < 1000 by decide, show (49 : Nat) < 1000 by decide]
      refine c_follow Cu (Cu.st V) ⟨by decide, by decide, by decide, by decide, by decide⟩ ⟨by decide, by decide, by decide, by decide, by decide⟩ g5 R h6 k6 ha1 ht1 fun v ag2 Cv Rv => ?_
      have hle : (rtf s x 6 G a t).1 ≤ 0 + (rtv 6 x).2.1 := flw_le _ _ _ _
      have agf : agr w v (List.range 57) := (ag.mo (by decide)).tr (ag2.mo (by decide))
      simp only [s67_42, s67_44, s67_46, s67_47, s67_50, s67_53, s67_56, s67_58, s67_60, s67_61, s67_62, s67_64, s67_67, s67_68, s67_71, s67_74, s67_77, s67_78, s67_81, s67_84, OpV_some, OpN_some, OpA_some, OpR_some, Option.toList_some, Option.toList_none, List.cons_append, List.nil_append, true_and, and_true, nI11, or_true, true_or, or_false, false_or, Cv.f12, Rv.f2, Rv.f3, Rv.f4, show (0 : Nat) < 1000 by decide, show (49 : Nat) < 1000 by decide, nI_eq0 (show y < 2 ^ 31 by omega)]
      unfold rtf at hQ hle
      simp only [nI_ltN (show (flw s.2.1.2 s.2.2.1.1.2 s.2.2.1.1.1 G (rtv 6 x).2.2 (rtv 6 x).2.1 (rtv 6 x).2.1 0 a t).1 < 2 ^ 31 by omega) (show (rtv 6 x).2.1 < 2 ^ 31 by omega)]
      by_cases hm : (flw s.2.1.2 s.2.2.1.1.2 s.2.2.1.1.1 G (rtv 6 x).2.2 (rtv 6 x).2.1 (rtv 6 x).2.1 0 a t).1 < (rtv 6 x).2.1
      · simp only [hm, if_true] at hQ ⊢
        exact hQ v Cv agf
      · simp only [hm, if_false] at hQ ⊢
        by_cases h0 : y = 0
        · simp only [h0, if_true] at hQ ⊢
          exact hQ v Cv agf
        · simp only [h0, if_false] at hQ ⊢
          exact hQ v Cv agf
  · simp only [hA, false_and, if_false] at hQ
    simp only [(c_ask C G a t y).2 hA, s67_9, s67_12, s67_13, s67_16, s67_18, s67_20, s67_23, s67_26, s67_27, OpV_some, OpN_some, OpA_some, OpR_some, Option.toList_some, Option.toList_none, List.cons_append, List.nil_append, true_and, and_true, nI11, or_true, true_or, or_false, false_or, show (nI 0 = 0) = True by decide, if_true]
    exact hQ w C (agr.rf w _)
end API6
