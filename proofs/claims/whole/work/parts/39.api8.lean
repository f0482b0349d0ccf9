/-! fits -/
def asB (Sn : Nat → Nat) (si fr le be i : Nat) : Bool := decide (¬ ((fr ≤ Sn (i * 2 + 1) ∧ Sn (i * 2 + 1) < be) ∧ (le < Sn (i * 2 + 1) ∨ Sn (i * 2) ≠ si)))
def asS (Sn : Nat → Nat) (si fr le be : Nat) : Nat → Nat → Bool
  | 0, _ => true
  | n + 1, i => if asB Sn si fr le be i = true then asS Sn si fr le be n (i + 1) else false
def cfS (h g Sn : Nat → Nat) (nR nSn G : Nat) (rec : Nat → Nat → Nat) (si fr : Nat) : Nat → Nat → Nat → Nat
  | 0, _, a => a
  | n + 1, k, a => cfS h g Sn nR nSn G rec si fr n (k + 1) (if canB g nR k si = true ∧ (rid h g k G si fr).1 ≤ 999 ∧ (rid h g k G si fr).2.2 = false ∧ asS Sn si fr (fat g k si fr) (rid h g k G si fr).1 nSn 0 = true then a + rec (rid h g k G si fr).2.1 (rid h g k G si fr).1 else a)
/-- in how many ways so many more ropes are as was seen -/
def cfit (h g Sn : Nat → Nat) (nR nSn G : Nat) : Nat → Nat → Nat → Nat
  | 0, si, fr => if asS Sn si fr 999 1000 nSn 0 = true then 1 else 0
  | m + 1, si, fr => cfS h g Sn nR nSn G (cfit h g Sn nR nSn G m) si fr nR 0 0
section API8
variable {X : am_X} {d : Nat} {Q : am_Q} {w : am_W} {s : CSt}
theorem c_seen_loop (C : CityAt w s) (V : Valid s) {si fr le be : Nat} (h1 : si < 2 ^ 31) (h2 : fr < 2 ^ 31) (h3 : le < 2 ^ 31) (h4 : be < 2 ^ 31) : ∀ (n i : Nat) (l6 l7 : Option Value), i + n = s.2.2.2.1.1 →
    Wp X (Cl X (d + 1)) 83 Q (3, [some (.ref 0), some (.int (nI si)), some (.int (nI fr)), some (.int (nI le)), some (.int (nI be)), some (.int (nI i)), l6, l7], [], w, 0, 0) = Q (some (.int (nI (if asS s.2.2.2.1.2 si fr le be n i = true then 1 else 0)))) w
  | 0, i, l6, l7, e => by
    have h6 := C.sn.2.2.2.2.1
    rw [s83_3]
    simp only [s83_0, s83_1, s83_5, s83_6, s83_9, s83_12, s83_15, s83_16, s83_19, s83_21, s83_22, s83_25, s83_27, s83_29, s83_30, s83_33, s83_35, s83_37, s83_40, s83_41, s83_44, s83_45, s83_47, s83_49, s83_52, s83_54, s83_55, s83_58, s83_59, s83_62, s83_64, s83_65, s83_68, s83_69, s83_72, s83_73, s83_74, s83_77, s83_80, s83_81, OpV_some, OpN_some, OpA_some, OpR_some, Option.toList_some, Option.toList_none, List.cons_append, List.nil_append, true_and, and_true, nI11, or_true, true_or, or_false, false_or, C.f4, C.sn.f3, nI_ltN (show i < 2 ^ 31 by omega) (show s.2.2.2.1.1 < 2 ^ 31 by omega), show ¬ i < s.2.2.2.1.1 by omega, if_false, if_true, asS, b01_1, show (0 : Nat) < 1000 by decide, show (13 : Nat) < 1000 by decide]
  | n + 1, i, l6, l7, e => by
    have h6 := C.sn.2.2.2.2.1
    obtain ⟨hs, hm⟩ := V.2.2.2.2.1.2 i (by omega)
    have hd := V.2.2.1.2.1
    have hi : i < s.2.2.2.1.1 := by omega
    have g0 : ∀ (d : Nat) (Q : am_Q), Cl X (d + 1) 34 [.ref 13, .int (nI i), .int (nI 0)] w Q = Q (some (.int (nI (s.2.2.2.1.2 (i * 2))))) w := fun d Q => rows_getN C.sn hi (by decide)
    have ih := fun l6 l7 => c_seen_loop C V h1 h2 h3 h4 n (i + 1) l6 l7 (by omega)
    rw [s83_3]
    simp only [s83_0, s83_1, s83_5, s83_6, s83_9, s83_12, s83_15, s83_16, s83_19, s83_21, s83_22, s83_25, s83_27, s83_29, s83_30, s83_33, s83_35, s83_37, s83_40, s83_41, s83_44, s83_45, s83_47, s83_49, s83_52, s83_54, s83_55, s83_58, s83_59, s83_62, s83_64, s83_65, s83_68, s83_69, s83_72, s83_73, s83_74, s83_77, s83_80, s83_81, OpV_some, OpN_some, OpA_some, OpR_some, Option.toList_some, Option.toList_none, List.cons_append, List.nil_append, true_and, and_true, nI11, or_true, true_or, or_false, false_or, C.f4, C.sn.f3, C.sn.cl, nI_ltN (show i < 2 ^ 31 by omega) (show s.2.2.2.1.1 < 2 ^ 31 by omega), hi, if_true, rows_getN C.sn hi (show 1 < 2 by decide), g0, nI_ltN (show s.2.2.2.1.2 (i * 2 + 1) < 2 ^ 31 by omega) h2, nI_ltN (show s.2.2.2.1.2 (i * 2 + 1) < 2 ^ 31 by omega) h4, nI_ltN h3 (show s.2.2.2.1.2 (i * 2 + 1) < 2 ^ 31 by omega), nI_eqN (show s.2.2.2.1.2 (i * 2) < 2 ^ 31 by omega) h1, nI_add, ih, show (nI 1 = 0) = False by decide, show (nI 0 = 0) = True by decide, if_false, b01_0, asS, asB, decide_eq_true_eq, show (0 : Nat) < 1000 by decide, show (13 : Nat) < 1000 by decide]
    by_cases q1 : s.2.2.2.1.2 (i * 2 + 1) < fr <;> by_cases q2 : s.2.2.2.1.2 (i * 2 + 1) < be <;> by_cases q3 : le < s.2.2.2.1.2 (i * 2 + 1) <;> by_cases q4 : s.2.2.2.1.2 (i * 2) = si <;> simp [q1, q2, q3, q4, Nat.not_le.mpr, Nat.le_of_not_lt]
theorem c_seen (C : CityAt w s) (V : Valid s) {si fr le be : Nat} (h1 : si < 2 ^ 31) (h2 : fr < 2 ^ 31) (h3 : le < 2 ^ 31) (h4 : be < 2 ^ 31) : Cl X (d + 2) 83 [.ref 0, .int (nI si), .int (nI fr), .int (nI le), .int (nI be)] w Q = Q (some (.int (nI (if asS s.2.2.2.1.2 si fr le be s.2.2.2.1.1 0 = true then 1 else 0)))) w := by
  rw [e83]
  simp only [s83_0, s83_1, s83_5, s83_6, s83_9, s83_12, s83_15, s83_16, s83_19, s83_21, s83_22, s83_25, s83_27, s83_29, s83_30, s83_33, s83_35, s83_37, s83_40, s83_41, s83_44, s83_45, s83_47, s83_49, s83_52, s83_54, s83_55, s83_58, s83_59, s83_62, s83_64, s83_65, s83_68, s83_69, s83_72, s83_73, s83_74, s83_77, s83_80, s83_81, OpV_some, OpN_some, OpA_some, OpR_some, Option.toList_some, Option.toList_none, List.cons_append, List.nil_append, true_and, and_true, nI11, or_true, true_or, or_false, false_or]
  exact c_seen_loop C V h1 h2 h3 h4 _ 0 _ _ (by omega)
theorem rid_end {h g : Nat → Nat} {nR nS k G si fr : Nat} (hg : RopeOK g nR nS) (hk : k < nR) (hs : si < nS) : (rid h g k G si fr).2.1 < nS := rdg_sill hg hk G _ si hs
theorem c_cf_loop (V : Valid s) {e G m si fr : Nat} {rec : Nat → Nat → Nat} (hG : G ≤ 5) (hsi : si < s.2.1.1) (hfr : fr < 1000)
    (IH : ∀ (w : am_W) (Q : am_Q) (si fr : Nat), CityAt w s → si < s.2.1.1 → fr < 1000 → (∀ u, CityAt u s → agr w u [48] → Q (some (.int (nI (rec si fr)))) u) → Cl X (e + 3) 82 [.ref 0, .int (nI G), .int (nI si), .int (nI fr), .int (nI m)] w Q) :
    ∀ (n k a : Nat) (u : am_W), k + n = s.2.2.1.1.1 → CityAt u s → agr w u [48] → (∀ v, CityAt v s → agr w v [48] → Q (some (.int (nI (cfS s.2.1.2 s.2.2.1.1.2 s.2.2.2.1.2 s.2.2.1.1.1 s.2.2.2.1.1 G rec si fr n k a)))) v) →
    Wp X (Cl X (e + 3)) 82 Q (32, [some (.ref 0), some (.int (nI G)), some (.int (nI si)), some (.int (nI fr)), some (.int (nI (m + 1))), some (.int (nI a)), some (.int (nI k))], [], u, 0, 0)
  | 0, k, a, u, e, C, ag, hQ => by
    have h8 := C.rp.2.2.2.2.1
    rw [s82_32]
    simp only [s82_0, s82_2, s82_5, s82_6, s82_7, s82_8, s82_11, s82_14, s82_17, s82_20, s82_21, s82_24, s82_25, s82_26, s82_27, s82_29, s82_30, s82_34, s82_35, s82_38, s82_41, s82_44, s82_47, s82_48, s82_51, s82_52, s82_55, s82_57, s82_58, s82_59, s82_60, s82_63, s82_66, s82_67, s82_70, s82_73, s82_76, s82_77, s82_78, s82_79, s82_80, s82_83, s82_86, s82_87, s82_90, s82_93, s82_96, s82_99, s82_101, s82_102, s82_103, s82_104, s82_107, s82_110, s82_111, s82_114, s82_117, s82_119, s82_120, s82_121, s82_124, s82_125, s82_127, s82_130, s82_133, s82_135, OpV_some, OpN_some, OpA_some, OpR_some, Option.toList_some, Option.toList_none, List.cons_append, List.nil_append, true_and, and_true, nI11, or_true, true_or, or_false, false_or, C.f3, C.n0, C.rp.f3, nI_ltN (show k < 2 ^ 31 by omega) (show s.2.2.1.1.1 < 2 ^ 31 by omega), show ¬ k < s.2.2.1.1.1 by omega, if_false, show (0 : Nat) < 1000 by decide, show (4 : Nat) < 1000 by decide, show (5 : Nat) < 1000 by decide]
    exact hQ u C ag
  | n + 1, k, a, u, ee, C, ag, hQ => by
    have h8 := C.rp.2.2.2.2.1
    have hd8 := V.2.2.1.2.1
    have hk : k < s.2.2.1.1.1 := by omega
    obtain ⟨x0, x1, x2, x3, h48⟩ := C.ri
    have RF := fun (Q : am_Q) => ride_find (X := X) (d := e) (Q := Q) h48 (by decide) (C.st V) (by decide) (by decide) (by decide) (by decide) (by decide) (show k < 2 ^ 30 by omega) hG hsi (show fr < 10000 by omega)
    have C1 := fun a b c d => C.rd48 a b c d
    have ag1 : ∀ a b c d, agr w (rd4 u 48 a b c d) [48] := fun a b c d => ag.st (by decide) _
    have hfat := fat_le s.2.2.1.1.2 (k := k) (s := si) (t := fr) ((V.2.2.2.1.1).2 k hk).2.2.2.1
    have hbt := ((V.2.2.2.1.1).2 k hk).2.2.2.2.1
    have loop := c_cf_loop V hG hsi hfr IH n (k + 1)
    have f11 : ∀ a b c d, am_fld (rd4 u 48 a b c d) 0 7 11 = some (.ref 48) := fun a b c d => (C1 a b c d).f11
    have f3 : ∀ a b c d, am_fld (rd4 u 48 a b c d) 0 7 3 = some (.ref 4) := fun a b c d => (C1 a b c d).f3
    have k0 : ∀ a b c d, am_cls (rd4 u 48 a b c d) 0 = some 7 := fun a b c d => cls_at (C1 a b c d).o
    simp only [cfS] at hQ
    rw [s82_32]
    simp only [s82_34, s82_35, s82_38, s82_41, s82_44, s82_47, s82_48, s82_51, s82_52, s82_55, s82_57, s82_58, s82_59, s82_60, s82_63, s82_66, s82_67, s82_70, s82_73, s82_76, s82_77, s82_78, s82_79, s82_80, OpV_some, OpN_some, OpA_some, OpR_some, Option.toList_some, Option.toList_none, List.cons_append, List.nil_append, true_and, and_true, nI11, or_true, true_or, or_false, false_or, C.f3, C.n0, C.rp.f3, C.f9, C.f11, nI_ltN (show k < 2 ^ 31 by omega) (show s.2.2.1.1.1 < 2 ^ 31 by omega), hk, if_true, cls_at h48, RF, show (0 : Nat) < 1000 by decide, show (4 : Nat) < 1000 by decide, show (5 : Nat) < 1000 by decide, show (48 : Nat) < 1000 by decide]
    by_cases hc : canB s.2.2.1.1.2 s.2.2.1.1.1 k si = true
    · by_cases h9 : (rid s.2.1.2 s.2.2.1.1.2 k G si fr).1 ≤ 999
      · by_cases hf : (rid s.2.1.2 s.2.2.1.1.2 k G si fr).2.2 = false
        · have SE := fun a b c d (Q : am_Q) => c_seen (X := X) (d := e + 1) (Q := Q) (C1 a b c d) V (show si < 2 ^ 31 by omega) (show fr < 2 ^ 31 by omega) (show fat s.2.2.1.1.2 k si fr < 2 ^ 31 by omega) (show (rid s.2.1.2 s.2.2.1.1.2 k G si fr).1 < 2 ^ 31 by omega)
          simp only [hc, h9, hf, if_true, if_false, Bool.false_eq_true, OpV_some, OpN_some, OpA_some, OpR_some, Option.toList_some, Option.toList_none, List.cons_append, List.nil_append, true_and, and_true, nI11, or_true, true_or, or_false, false_or, s82_63, s82_66, s82_67, s82_70, s82_73, s82_76, s82_77, s82_78, s82_79, s82_80, s82_83, s82_86, s82_87, s82_90, s82_93, show (nI 1 = 0) = False by decide, show (nI 0 = 0) = True by decide, f11, rd4_f0 h48, rd4_f1 h48, rd4_f3 h48, k0, SE, nI_ite, show (0 : Nat) < 1000 by decide, show (48 : Nat) < 1000 by decide]
          by_cases hs : asS s.2.2.2.1.2 si fr (fat s.2.2.1.1.2 k si fr) (rid s.2.1.2 s.2.2.1.1.2 k G si fr).1 s.2.2.2.1.1 0 = true
          · simp only [hc, h9, hf, hs, and_self, if_true] at hQ
            simp only [hs, not_true, if_false, OpV_some, OpN_some, OpA_some, OpR_some, Option.toList_some, Option.toList_none, List.cons_append, List.nil_append, true_and, and_true, nI11, or_true, true_or, or_false, false_or, s82_96, s82_99, s82_101, s82_102, s82_103, s82_104, s82_107, s82_110, s82_111, s82_114, s82_117, s82_119, s82_120, s82_121, f11, rd4_f1 h48, rd4_f2 h48, k0, nI_subN (show 1 ≤ m + 1 by omega), Nat.add_sub_cancel, show (0 : Nat) < 1000 by decide, show (48 : Nat) < 1000 by decide]
            refine IH _ _ _ _ (C1 _ _ _ _) (rid_end V.2.2.2.1.1 hk hsi) (by omega) fun v Cv agv => ?_
            simp only [s82_124, s82_125, s82_127, s82_130, s82_133, s82_135, OpV_some, OpN_some, OpA_some, OpR_some, Option.toList_some, Option.toList_none, List.cons_append, List.nil_append, true_and, and_true, nI11, or_true, true_or, or_false, false_or, nI_add]
            exact loop _ v (by omega) Cv ((ag1 _ _ _ _).tr agv) hQ
          · simp only [hs, and_false, if_false, Bool.false_eq_true] at hQ
            simp only [hs, not_false_eq_true, if_true, Bool.false_eq_true, s82_96, s82_127, s82_130, OpV_some, OpN_some, OpA_some, OpR_some, Option.toList_some, Option.toList_none, List.cons_append, List.nil_append, true_and, and_true, nI11, or_true, true_or, or_false, false_or, nI_add]
            exact loop _ _ (by omega) (C1 _ _ _ _) (ag1 _ _ _ _) hQ
        · have hf' : (rid s.2.1.2 s.2.2.1.1.2 k G si fr).2.2 = true := by simpa using hf
          simp only [hf', Bool.true_eq_false, false_and, and_false, if_false] at hQ
          simp only [hc, h9, hf', if_true, if_false, OpV_some, OpN_some, OpA_some, OpR_some, Option.toList_some, Option.toList_none, List.cons_append, List.nil_append, true_and, and_true, nI11, or_true, true_or, or_false, false_or, s82_63, s82_66, s82_67, s82_70, s82_73, s82_76, s82_77, s82_78, s82_79, s82_80, s82_127, s82_130, show (nI 1 = 0) = False by decide, f11, rd4_f3 h48, nI_add, show (0 : Nat) < 1000 by decide, show (48 : Nat) < 1000 by decide]
          exact loop _ _ (by omega) (C1 _ _ _ _) (ag1 _ _ _ _) hQ
      · simp only [h9, false_and, and_false, if_false] at hQ
        simp only [hc, h9, if_true, if_false, OpV_some, OpN_some, OpA_some, OpR_some, Option.toList_some, Option.toList_none, List.cons_append, List.nil_append, true_and, and_true, nI11, or_true, true_or, or_false, false_or, s82_63, s82_66, s82_67, s82_70, s82_73, s82_76, s82_77, s82_78, s82_79, s82_80, s82_127, s82_130, show (nI 0 = 0) = True by decide, nI_add]
        exact loop _ _ (by omega) (C1 _ _ _ _) (ag1 _ _ _ _) hQ
    · simp only [hc, false_and, if_false, Bool.false_eq_true] at hQ
      simp only [hc, if_true, if_false, Bool.false_eq_true, OpV_some, OpN_some, OpA_some, OpR_some, Option.toList_some, Option.toList_none, List.cons_append, List.nil_append, true_and, and_true, nI11, or_true, true_or, or_false, false_or, s82_63, s82_66, s82_67, s82_70, s82_73, s82_76, s82_77, s82_78, s82_79, s82_80, s82_127, s82_130, show (nI 0 = 0) = True by decide, nI_add]
      exact loop _ _ (by omega) (C1 _ _ _ _) (ag1 _ _ _ _) hQ
theorem c_cf (V : Valid s) {G : Nat} (hG : G ≤ 5) : ∀ (m e : Nat) (w : am_W) (Q : am_Q) (si fr : Nat), m < 100 → CityAt w s → si < s.2.1.1 → fr < 1000 →
    (∀ u, CityAt u s → agr w u [48] → Q (some (.int (nI (cfit s.2.1.2 s.2.2.1.1.2 s.2.2.2.1.2 s.2.2.1.1.1 s.2.2.2.1.1 G m si fr)))) u) → Cl X (e + 4 + m) 82 [.ref 0, .int (nI G), .int (nI si), .int (nI fr), .int (nI m)] w Q
  | 0, e, w, Q, si, fr, _, C, hsi, hfr, hQ => by
    have hd8 := V.2.2.1.2.1
    have SE := fun (Q : am_Q) => c_seen (X := X) (d := e + 1) (Q := Q) C V (show si < 2 ^ 31 by omega) (show fr < 2 ^ 31 by omega) (show 999 < 2 ^ 31 by decide) (show 1000 < 2 ^ 31 by decide)
    show Cl X ((e + 3) + 1) 82 _ w Q
    rw [e82]
    simp only [s82_0, s82_2, s82_5, s82_6, s82_7, s82_8, s82_11, s82_14, s82_17, s82_20, s82_21, s82_24, s82_25, s82_26, s82_27, s82_29, s82_30, s82_34, s82_35, s82_38, s82_41, s82_44, s82_47, s82_48, s82_51, s82_52, s82_55, s82_57, s82_58, s82_59, s82_60, s82_63, s82_66, s82_67, s82_70, s82_73, s82_76, s82_77, s82_78, s82_79, s82_80, s82_83, s82_86, s82_87, s82_90, s82_93, s82_96, s82_99, s82_101, s82_102, s82_103, s82_104, s82_107, s82_110, s82_111, s82_114, s82_117, s82_119, s82_120, s82_121, s82_124, s82_125, s82_127, s82_130, s82_133, s82_135, OpV_some, OpN_some, OpA_some, OpR_some, Option.toList_some, Option.toList_none, List.cons_append, List.nil_append, true_and, and_true, nI11, or_true, true_or, or_false, false_or, nI_gt0 (show 0 < 2 ^ 31 by decide), Nat.lt_irrefl, if_false, cls_at C.o, SE, nI_ite, show (0 : Nat) < 1000 by decide]
    have hQ' := hQ w C (agr.rf w _)
    simp only [cfit] at hQ'
    by_cases hs : asS s.2.2.2.1.2 si fr 999 1000 s.2.2.2.1.1 0 = true
    · simp only [hs, if_true, not_true, if_false] at hQ' ⊢
      exact hQ'
    · simp only [hs, if_true, not_false_eq_true, if_false, Bool.false_eq_true] at hQ' ⊢
      exact hQ'
  | m + 1, e, w, Q, si, fr, hm, C, hsi, hfr, hQ => by
    have IH := fun w Q si fr C h1 h2 hQ => c_cf V hG m e w Q si fr (by omega) C h1 h2 hQ
    obtain ⟨e', he⟩ : ∃ e', e + 4 + m = e' + 3 := ⟨e + 1 + m, by omega⟩
    show Cl X ((e + 4 + m) + 1) 82 _ w Q
    rw [he] at IH ⊢
    rw [e82]
    simp only [s82_0, s82_2, s82_5, s82_6, s82_7, s82_8, s82_11, s82_14, s82_17, s82_20, s82_21, s82_24, s82_25, s82_26, s82_27, s82_29, s82_30, OpV_some, OpN_some, OpA_some, OpR_some, Option.toList_some, Option.toList_none, List.cons_append, List.nil_append, true_and, and_true, nI11, or_true, true_or, or_false, false_or, nI_gt0 (show m + 1 < 2 ^ 31 by omega), show 0 < m + 1 by omega, if_true]
    exact c_cf_loop V hG hsi hfr IH s.2.2.1.1.1 0 0 w (by omega) C (agr.rf w _) hQ
def sp_fits (s : CSt) (G a n : Int32) : Int32 :=
  if ((nI 1 ≤ G ∧ G ≤ nI 5) ∧ (0 ≤ a ∧ a < nI s.2.1.1)) ∧ (0 ≤ n ∧ n < nI 5) then nI (cfit s.2.1.2 s.2.2.1.1.2 s.2.2.2.1.2 s.2.2.1.1.1 s.2.2.2.1.1 (cl G) (cl n) (cl a) 0) else -1
theorem c_fits (C : CityAt w s) (V : Valid s) (G a n : Int32) (hQ : ∀ u, CityAt u s → agr w u (List.range 57) → Q (some (.int (sp_fits s G a n))) u) : Cl X (d + 9) 72 [.ref 0, .int G, .int a, .int n] w Q := by
  have h8 := C.dr.2.2.2.2.1
  rw [e72]
  unfold sp_fits at hQ
  simp only [s72_0, s72_1, s72_2, s72_3, s72_6, s72_9, s72_10, s72_13, s72_14, s72_17, s72_20, s72_21, s72_22, s72_23, s72_26, s72_29, s72_30, s72_31, s72_32, s72_33, s72_34, s72_35, s72_36, s72_39, OpV_some, OpN_some, OpA_some, OpR_some, Option.toList_some, Option.toList_none, List.cons_append, List.nil_append, true_and, and_true, nI11, or_true, true_or, or_false, false_or, C.f2, C.dr.cl, rows_has C.dr, c_within, nI_ite, rng_le n 4 (by decide), cls_at C.o, show (0 : Nat) < 1000 by decide, show (2 : Nat) < 1000 by decide]
  by_cases hg : nI 1 ≤ G ∧ G ≤ nI 5
  · obtain ⟨G, g1, g5, rfl⟩ := grip hg
    rcases ix a (n := s.2.1.1) (by omega) with ⟨j, hj, rfl⟩ | hx
    · have hx := ix_in hj (by omega)
      rcases ix n (n := 5) (by decide) with ⟨k, hk, rfl⟩ | hy
      · have hy := ix_in hk (by decide)
        simp only [hg, hx, hy, and_self, if_true, cl_of (show j < 2 ^ 31 by omega), cl_of (show k < 2 ^ 31 by omega), cl_of (show G < 2 ^ 31 by omega)] at hQ
        simp only [hg, hx, hy, and_self, not_true, if_false, if_true, OpV_some, OpN_some, OpA_some, OpR_some, Option.toList_some, Option.toList_none, List.cons_append, List.nil_append, true_and, and_true, nI11, or_true, true_or, or_false, false_or]
        obtain ⟨e, he⟩ : ∃ e, e + 4 + k = d + 8 := ⟨d + 4 - k, by omega⟩
        rw [← he]
        refine c_cf V g5 k e w _ j 0 (by omega) C hj (by decide) fun u Cu ag => ?_
        simp only [s72_0, s72_1, s72_2, s72_3, s72_6, s72_9, s72_10, s72_13, s72_14, s72_17, s72_20, s72_21, s72_22, s72_23, s72_26, s72_29, s72_30, s72_31, s72_32, s72_33, s72_34, s72_35, s72_36, s72_39, OpV_some, OpN_some, OpA_some, OpR_some, Option.toList_some, Option.toList_none, List.cons_append, List.nil_append, true_and, and_true, nI11, or_true, true_or, or_false, false_or]
        exact hQ u Cu (ag.mo (by decide))
      · simp only [hg, hx, hy, and_false, if_false] at hQ
        simp only [hg, hx, hy, and_self, not_true, not_false_eq_true, if_false, if_true]
        exact hQ w C (agr.rf w _)
    · simp only [hg, hx, and_false, false_and, if_false] at hQ
      simp only [hg, hx, and_self, not_true, not_false_eq_true, if_false, if_true]
      exact hQ w C (agr.rf w _)
  · simp only [hg, false_and, if_false] at hQ
    simp only [hg, not_false_eq_true, if_true]
    exact hQ w C (agr.rf w _)
end API8
