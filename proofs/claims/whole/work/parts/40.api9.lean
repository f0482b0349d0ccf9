/-! ropes on trial; tune -/
theorem crs_gcg {h g g' : Nat → Nat} {nR k : Nat} (hg : ∀ q, q < 40 → g q = g' q) (hk : k < 8) (E : Nat → Nat) (s : Nat) (N : Nat → Nat) : crs h g nR E k s N = crs h g' nR E k s N := by
  unfold crs canB acrF oth fat
  rw [hg (k * 5) (by omega), hg (k * 5 + 1) (by omega), hg (k * 5 + 2) (by omega), hg (k * 5 + 3) (by omega), hg (k * 5 + 4) (by omega)]
theorem rnd_gcg {h g g' : Nat → Nat} {nR : Nat} (h8 : nR ≤ 8) (hg : ∀ q, q < 40 → g q = g' q) (E : Nat → Nat) : ∀ (n k : Nat) (N : Nat → Nat), k + n = nR → rnd h g nR E n k N = rnd h g' nR E n k N
  | 0, k, N, e => rfl
  | n + 1, k, N, e => by
    unfold rnd
    rw [hg (k * 5) (by omega), hg (k * 5 + 1) (by omega), crs_gcg hg (by omega), crs_gcg hg (by omega)]
    exact rnd_gcg h8 hg E n (k + 1) _ (by omega)
theorem wys_gcg {h g g' : Nat → Nat} {nR b : Nat} (h8 : nR ≤ 8) (hg : ∀ q, q < 40 → g q = g' q) : ∀ (n ri : Nat) (E N : Nat → Nat) (m r : Nat), wys h g nR b n ri E N m r = wys h g' nR b n ri E N m r
  | 0, ri, E, N, m, r => rfl
  | n + 1, ri, E, N, m, r => by
    unfold wys
    rw [rnd_gcg h8 hg _ nR 0 N (by omega)]
    split
    · exact wys_gcg h8 hg n _ _ _ _ _
    · exact wys_gcg h8 hg n _ _ _ _ _
theorem swy_gcg {h g g' : Nat → Nat} {nR a t b : Nat} (h8 : nR ≤ 8) (hg : ∀ q, q < 40 → g q = g' q) : swy h g nR a t b = swy h g' nR a t b := by
  unfold swy wysF
  rw [wys_gcg h8 hg]
/-- ropes with the beat of one set, and it not stopped -/
def tng (g : Nat → Nat) (k be : Nat) : Nat → Nat := upN (upN g (k * 5 + 4) 0) (k * 5 + 2) be
/-- the best beat (0: none) and its minute, of so many more from a beat on -/
def tnl (h g : Nat → Nat) (nR k a t b : Nat) : Nat → Nat → Nat → Nat → Nat × Nat
  | 0, _, bb, bm => (bb, bm)
  | n + 1, be, bb, bm => if (swy h (tng g k be) nR a t b).1 ≤ 999 ∧ (swy h (tng g k be) nR a t b).1 < bm then tnl h g nR k a t b n (be + 1) be (swy h (tng g k be) nR a t b).1 else tnl h g nR k a t b n (be + 1) bb bm
def bbI (x : Nat) : Int32 := if x = 0 then -9 else nI x
theorem RopeOK.cg {g g' : Nat → Nat} {nR nS : Nat} (h : RopeOK g nR nS) (hg : ∀ q, q < 40 → g q = g' q) : RopeOK g' nR nS := by
  have h8 := h.1
  refine ⟨h8, fun k hk => ?_⟩
  rw [← hg (k * 5) (by omega), ← hg (k * 5 + 1) (by omega), ← hg (k * 5 + 2) (by omega), ← hg (k * 5 + 3) (by omega), ← hg (k * 5 + 4) (by omega)]
  exact h.2 k hk
theorem RopeOK.onT {g : Nat → Nat} {nR nS k be : Nat} (h : RopeOK g nR nS) (h1 : 1 ≤ be) (h9 : be ≤ 9) : RopeOK (tng g k be) nR nS := by
  refine ⟨h.1, fun q hq => ?_⟩
  obtain ⟨a1, a2, a3, a4, a5, a6, a7⟩ := h.2 q hq
  have c1 : q * 5 + 1 ≠ k * 5 + 2 ∧ q * 5 + 1 ≠ k * 5 + 4 := by constructor <;> omega
  have c3 : q * 5 + 3 ≠ k * 5 + 2 ∧ q * 5 + 3 ≠ k * 5 + 4 := by constructor <;> omega
  have c2 : q * 5 + 2 ≠ k * 5 + 4 := by omega
  have c4 : q * 5 + 4 ≠ k * 5 + 2 := by omega
  have c0' : q * 5 ≠ k * 5 + 2 ∧ q * 5 ≠ k * 5 + 4 := by constructor <;> omega
  unfold tng upN
  simp only [c0'.1, c0'.2, c1.1, c1.2, c3.1, c3.2, c2, c4, if_false]
  refine ⟨a1, a2, a3, ?_, ?_, a6, ?_⟩
  · split <;> omega
  · split <;> omega
  · split <;> omega
section API9
variable {X : am_X} {d : Nat} {Q : am_Q} {w : am_W} {s : CSt}
theorem CityAt.onTr (C : CityAt w s) {u : am_W} (ag : agr w u [46, 47]) {n : Nat} {f : Nat → Nat} (h7 : RowsAt u 46 47 8 5 n (nIf f)) : CityAt u s := by
  obtain ⟨tz, F, sz, mi, si, h⟩ := C.rt
  obtain ⟨f9, h9⟩ := C.df
  exact C.scr ag (by decide) ⟨n, f, h7⟩ (C.ri.ag ag (by decide)) ⟨tz, F, sz, mi, si, h.ag ag (by decide) (by decide) (by decide) (by decide)⟩ (C.wyA.ag ag (by decide) (by decide) (by decide)) ⟨f9, (ag.2 _ (by decide)).trans h9⟩
theorem CityAt.st45 (C : CityAt w s) (V : Valid s) {g' : Nat → Nat} (h7 : RowsAt w 46 47 8 5 s.2.2.1.1.1 (nIf g')) (hg : RopeOK g' s.2.2.1.1.1 s.2.1.1) : StAt w 45 2 3 46 47 s.2.1.1 s.2.2.1.1.1 (nIf s.2.1.2) (nIf g') s.2.1.2 g' :=
  ⟨C.sc.2.2.1, by decide, C.dr, h7, fun _ _ => rfl, fun _ _ => rfl, V.2.2.1, hg⟩
theorem CityAt.t1 (C : CityAt w s) : am_fld w 45 5 1 = some (.ref 46) := fld_at C.sc.2.2.1
theorem c_tune_loop (V : Valid s) {k a t b y : Nat} (hk : k < s.2.2.1.1.1) (ha : a < s.2.1.1) (ht : t ≤ 999) (hb : b < s.2.1.1) (hy : y < 2) :
    ∀ (n be bb bm : Nat) (u : am_W) (f : Nat → Nat), be + n = 10 → 1 ≤ be → bb ≤ 9 → bm ≤ 1000 → CityAt u s → RowsAt u 46 47 8 5 s.2.2.1.1.1 (nIf f) → (∀ q, q < 40 → q ≠ k * 5 + 2 → f q = upN s.2.2.1.1.2 (k * 5 + 4) 0 q) → agr w u [46, 47, 53, 54, 55] →
    (∀ v, CityAt v s → agr w v [46, 47, 53, 54, 55] → Q (some (.int (if (tnl s.2.1.2 s.2.2.1.1.2 s.2.2.1.1.1 k a t b n be bb bm).1 = 0 then -9 else nI (if y = 0 then (tnl s.2.1.2 s.2.2.1.1.2 s.2.2.1.1.1 k a t b n be bb bm).1 else (tnl s.2.1.2 s.2.2.1.1.2 s.2.2.1.1.1 k a t b n be bb bm).2)))) v) →
    Wp X (Cl X (d + 6)) 69 Q (98, [some (.ref 0), some (.int (nI k)), some (.int (nI a)), some (.int (nI t)), some (.int (nI b)), some (.int (nI y)), some (.int (bbI bb)), some (.int (nI bm)), some (.int (nI be))], [], u, 0, 0)
  | 0, be, bb, bm, u, f, e, h1, h9, hm, C, R, hf, ag, hQ => by
    have hQ' := hQ u C ag
    simp only [tnl] at hQ'
    rw [s69_98]
    simp only [s69_0, s69_1, s69_4, s69_7, s69_8, s69_11, s69_14, s69_15, s69_18, s69_19, s69_22, s69_25, s69_26, s69_29, s69_32, s69_33, s69_36, s69_38, s69_41, s69_44, s69_46, s69_47, s69_48, s69_51, s69_54, s69_55, s69_56, s69_57, s69_60, s69_63, s69_64, s69_67, s69_70, s69_73, s69_74, s69_77, s69_80, s69_81, s69_82, s69_83, s69_86, s69_88, s69_90, s69_93, s69_95, s69_96, s69_100, s69_102, s69_105, s69_106, s69_109, s69_112, s69_113, s69_114, s69_116, s69_119, s69_120, s69_123, s69_124, s69_127, s69_128, s69_129, s69_131, s69_134, s69_137, s69_138, s69_141, s69_144, s69_146, s69_149, s69_151, s69_153, s69_154, s69_157, s69_160, s69_162, s69_165, s69_168, s69_170, s69_172, s69_175, s69_177, s69_178, s69_180, s69_183, s69_185, s69_188, s69_190, OpV_some, OpN_some, OpA_some, OpR_some, Option.toList_some, Option.toList_none, List.cons_append, List.nil_append, true_and, and_true, nI11, or_true, true_or, or_false, false_or, nI_ltN (show 9 < 2 ^ 31 by decide) (show be < 2 ^ 31 by omega), show 9 < be by omega, if_true, bbI, nI_eq0 (show y < 2 ^ 31 by omega)]
    by_cases h0 : bb = 0
    · simp only [h0, if_true] at hQ' ⊢
      exact hQ'
    · have hne : (nI bb = -9) = False := eq_false fun e => by
        have := congrArg Int32.toInt e
        rw [nI_toInt (by omega), show ((-9 : Int32)).toInt = -9 by decide] at this
        omega
      simp only [h0, if_false, hne] at hQ' ⊢
      by_cases hy0 : y = 0
      · simp only [hy0, if_true] at hQ' ⊢
        exact hQ'
      · simp only [hy0, if_false] at hQ' ⊢
        exact hQ'
  | n + 1, be, bb, bm, u, f, e, h1, h9, hm, C, R, hf, ag, hQ => by
    have h8 := C.rp.2.2.2.2.1
    have R2 := R.onA (nIf (upN f (k * 5 + 2) be))
    have ag2 : agr u (rar u 47 (8 * 5) (nIf (upN f (k * 5 + 2) be))) [46, 47] := (agr.rf u _).st (by decide) _
    have C2 := C.onTr ag2 R2
    have hf2 : ∀ q, q < 40 → tng s.2.2.1.1.2 k be q = upN f (k * 5 + 2) be q := fun q hq => by
      unfold tng
      by_cases hq2 : q = k * 5 + 2
      · simp [upN, hq2]
      · have e1 := hf q hq hq2
        conv => rhs; unfold upN
        rw [if_neg hq2, e1]
        conv => lhs; unfold upN
        rw [if_neg hq2]
        rfl
    have hok : RopeOK (upN f (k * 5 + 2) be) s.2.2.1.1.1 s.2.1.1 := (RopeOK.onT V.2.2.2.1.1 h1 (by omega)).cg hf2
    have S := C2.st45 V R2 hok
    have hsw : swy s.2.1.2 (upN f (k * 5 + 2) be) s.2.2.1.1.1 a t b = swy s.2.1.2 (tng s.2.2.1.1.2 k be) s.2.2.1.1.1 a t b := (swy_gcg h8 hf2).symm
    simp only [tnl] at hQ
    rw [s69_98]
    simp only [s69_100, s69_102, s69_105, s69_106, s69_109, s69_112, s69_113, s69_114, s69_116, s69_119, s69_120, s69_123, s69_124, s69_127, s69_128, s69_129, s69_131, OpV_some, OpN_some, OpA_some, OpR_some, Option.toList_some, Option.toList_none, List.cons_append, List.nil_append, true_and, and_true, nI11, or_true, true_or, or_false, false_or, nI_ltN (show 9 < 2 ^ 31 by decide) (show be < 2 ^ 31 by omega), show ¬ 9 < be by omega, if_false, C.f10, C.t1, R.cl, rows_setN R hk (show 2 < 5 by decide), C2.f10, C2.f13, wy_cl, show (0 : Nat) < 1000 by decide, show (45 : Nat) < 1000 by decide, show (46 : Nat) < 1000 by decide, show (53 : Nat) < 1000 by decide]
    obtain ⟨E, N, m, r, hw1, -, -⟩ := C2.wyA
    refine ⟨cls_at hw1, c_ways C2 S (by decide) (by decide) (by decide) (by decide) (by decide) ha hb ht fun v agv Cv f2 f3 => ?_⟩
    rw [hsw] at f2 f3 ⊢
    have agw : agr w v [46, 47, 53, 54, 55] := (ag.tr (ag2.mo (by decide))).tr (agv.mo (by decide))
    have Rv : RowsAt v 46 47 8 5 s.2.2.1.1.1 (nIf (upN f (k * 5 + 2) be)) := R2.ag agv (by decide) (by decide)
    have hfv : ∀ q, q < 40 → q ≠ k * 5 + 2 → upN f (k * 5 + 2) be q = upN s.2.2.1.1.2 (k * 5 + 4) 0 q := fun q hq hq2 => by
      conv => lhs; unfold upN
      rw [if_neg hq2]
      exact hf q hq hq2
    have loop := fun bb bm => c_tune_loop V hk ha ht hb hy n (be + 1) bb bm v (upN f (k * 5 + 2) be) (by omega) (by omega)
    simp only [s69_134, s69_137, s69_138, s69_141, s69_144, s69_146, s69_149, s69_151, s69_153, s69_154, s69_157, s69_160, s69_162, s69_165, OpV_some, OpN_some, OpA_some, OpR_some, Option.toList_some, Option.toList_none, List.cons_append, List.nil_append, true_and, and_true, nI11, or_true, true_or, or_false, false_or, nI_ite, Cv.f13, f2, show (0 : Nat) < 1000 by decide, show (53 : Nat) < 1000 by decide]
    by_cases h99 : (swy s.2.1.2 (tng s.2.2.1.1.2 k be) s.2.2.1.1.1 a t b).1 ≤ 999
    · simp only [h99, not_true, if_false, true_and] at hQ ⊢
      simp only [nI_ltN (show (swy s.2.1.2 (tng s.2.2.1.1.2 k be) s.2.2.1.1.1 a t b).1 < 2 ^ 31 by omega) (show bm < 2 ^ 31 by omega)]
      by_cases hlt : (swy s.2.1.2 (tng s.2.2.1.1.2 k be) s.2.2.1.1.1 a t b).1 < bm
      · simp only [hlt, if_true, nI_add] at hQ ⊢
        have e1 : nI be = bbI be := by unfold bbI; rw [if_neg (by omega)]
        have := loop be (swy s.2.1.2 (tng s.2.2.1.1.2 k be) s.2.2.1.1.1 a t b).1 (by omega) (by omega) Cv Rv hfv agw hQ
        unfold bbI at this
        rw [if_neg (by omega)] at this
        exact this
      · simp only [hlt, if_false, nI_add] at hQ ⊢
        exact loop bb bm h9 hm Cv Rv hfv agw hQ
    · simp only [h99, not_false_eq_true, if_true, if_false, false_and, nI_add] at hQ ⊢
      exact loop bb bm h9 hm Cv Rv hfv agw hQ
def sp_tune (s : CSt) (k a t b y : Int32) : Int32 :=
  if (((0 ≤ k ∧ k < nI s.2.2.1.1.1) ∧ (0 ≤ a ∧ a < nI s.2.1.1)) ∧ (0 ≤ t ∧ t < nI 1000)) ∧ ((0 ≤ b ∧ b < nI s.2.1.1) ∧ (0 ≤ y ∧ y < nI 2)) then
    (if (tnl s.2.1.2 s.2.2.1.1.2 s.2.2.1.1.1 (cl k) (cl a) (cl t) (cl b) 9 1 0 1000).1 = 0 then -9 else nI (if cl y = 0 then (tnl s.2.1.2 s.2.2.1.1.2 s.2.2.1.1.1 (cl k) (cl a) (cl t) (cl b) 9 1 0 1000).1 else (tnl s.2.1.2 s.2.2.1.1.2 s.2.2.1.1.1 (cl k) (cl a) (cl t) (cl b) 9 1 0 1000).2))
  else -1
theorem c_tune (C : CityAt w s) (V : Valid s) (k a t b y : Int32) (hQ : ∀ u, CityAt u s → agr w u (List.range 57) → Q (some (.int (sp_tune s k a t b y))) u) : Cl X (d + 7) 69 [.ref 0, .int k, .int a, .int t, .int b, .int y] w Q := by
  have h8 := C.dr.2.2.2.2.1
  have hr8 := C.rp.2.2.2.2.1
  rw [e69]
  unfold sp_tune at hQ
  simp only [s69_0, s69_1, s69_4, s69_7, s69_8, s69_11, s69_14, s69_15, s69_18, s69_19, s69_22, s69_25, s69_26, s69_29, s69_32, s69_33, s69_36, s69_38, s69_41, s69_44, s69_46, s69_47, s69_48, s69_51, s69_54, s69_55, OpV_some, OpN_some, OpA_some, OpR_some, Option.toList_some, Option.toList_none, List.cons_append, List.nil_append, true_and, and_true, nI11, or_true, true_or, or_false, false_or, C.f2, C.f3, C.n0, C.rp.cl, C.dr.cl, rows_has C.rp, rows_has C.dr, c_minute, c_within, nI_ite, rng_le t 999 (by decide), rng_le y 1 (by decide), show (0 : Nat) < 1000 by decide, show (2 : Nat) < 1000 by decide, show (4 : Nat) < 1000 by decide, show (5 : Nat) < 1000 by decide]
  by_cases hk : 0 ≤ k ∧ k < nI s.2.2.1.1.1 <;> by_cases ha : 0 ≤ a ∧ a < nI s.2.1.1 <;> by_cases ht : 0 ≤ t ∧ t < nI 1000 <;> by_cases hb : 0 ≤ b ∧ b < nI s.2.1.1 <;> by_cases hy : 0 ≤ y ∧ y < nI 2 <;> simp only [hk, ha, ht, hb, hy, and_self, and_true, true_and, and_false, false_and, not_true, not_false_eq_true, if_true, if_false] at hQ ⊢
  case pos =>
    obtain ⟨k, hk1, rfl⟩ : ∃ j, j < s.2.2.1.1.1 ∧ k = nI j := (ix k (by omega)).resolve_right (not_not_intro hk)
    obtain ⟨a, ha1, rfl⟩ : ∃ j, j < s.2.1.1 ∧ a = nI j := (ix a (by omega)).resolve_right (not_not_intro ha)
    obtain ⟨t, ht1, rfl⟩ : ∃ j, j < 1000 ∧ t = nI j := (ix t (by decide)).resolve_right (not_not_intro ht)
    obtain ⟨b, hb1, rfl⟩ : ∃ j, j < s.2.1.1 ∧ b = nI j := (ix b (by omega)).resolve_right (not_not_intro hb)
    obtain ⟨y, hy1, rfl⟩ : ∃ j, j < 2 ∧ y = nI j := (ix y (by decide)).resolve_right (not_not_intro hy)
    simp only [cl_of (show k < 2 ^ 31 by omega), cl_of (show a < 2 ^ 31 by omega), cl_of (show t < 2 ^ 31 by omega), cl_of (show b < 2 ^ 31 by omega), cl_of (show y < 2 ^ 31 by omega)] at hQ
    obtain ⟨n, f, R⟩ := C.tr
    have hcp : ∀ Q : am_Q, Cl X (d + 6) 41 [.ref 46, .ref 5] w Q = Q none (rar (rsz w 46 47 8 5 s.2.2.1.1.1) 47 (8 * 5) (nIf (cpN s.2.2.1.1.2 f 40))) := fun Q => by
      rw [rows_copy (d := d + 4) R C.rp (by decide) (by decide) (by decide) (by decide), cpy_nIf]
    have R1 : RowsAt (rar (rsz w 46 47 8 5 s.2.2.1.1.1) 47 (8 * 5) (nIf (cpN s.2.2.1.1.2 f 40))) 46 47 8 5 s.2.2.1.1.1 (nIf (cpN s.2.2.1.1.2 f 40)) := (R.onS hr8).onA _
    have ag1 : agr w (rar (rsz w 46 47 8 5 s.2.2.1.1.1) 47 (8 * 5) (nIf (cpN s.2.2.1.1.2 f 40))) [46, 47] := ((agr.rf w _).st (by decide) _).st (by decide) _
    have C1 := C.onTr ag1 R1
    have R2 := R1.onA (nIf (upN (cpN s.2.2.1.1.2 f 40) (k * 5 + 4) 0))
    have ag2 : agr w (rar (rar (rsz w 46 47 8 5 s.2.2.1.1.1) 47 (8 * 5) (nIf (cpN s.2.2.1.1.2 f 40))) 47 (8 * 5) (nIf (upN (cpN s.2.2.1.1.2 f 40) (k * 5 + 4) 0))) [46, 47] := ag1.st (by decide) _
    have C2 := C.onTr ag2 R2
    simp only [s69_56, s69_57, s69_60, s69_63, s69_64, s69_67, s69_70, s69_73, s69_74, s69_77, s69_80, s69_81, s69_82, s69_83, s69_86, s69_88, s69_90, s69_93, s69_95, s69_96, OpV_some, OpN_some, OpA_some, OpR_some, Option.toList_some, Option.toList_none, List.cons_append, List.nil_append, true_and, and_true, nI11, or_true, true_or, or_false, false_or, C.f3, C.n0, C.f10, C.t1, R.cl, hcp, C1.f10, C1.t1, R1.cl, rows_setN R1 hk1 (show 4 < 5 by decide), show (0 : Nat) < 1000 by decide, show (4 : Nat) < 1000 by decide, show (45 : Nat) < 1000 by decide, show (46 : Nat) < 1000 by decide]
    refine c_tune_loop V hk1 ha1 (by omega) hb1 hy1 9 1 0 1000 _ _ (by omega) (by omega) (by omega) (by omega) C2 R2 (fun q hq hq2 => ?_) (ag2.mo (by decide)) fun v Cv ag => hQ v Cv (ag.mo (by decide))
    unfold upN cpN
    rw [if_pos hq]
  all_goals exact hQ w C (agr.rf w _)
end API9
