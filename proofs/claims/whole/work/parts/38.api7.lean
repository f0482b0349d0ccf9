/-! rate -/
def kmf : Nat → Int32 := fun i => am_kind.getD i 0
section API7
variable {X : am_X} {d : Nat} {Q : am_Q} {w : am_W} {s : CSt}
def st_mk (s : CSt) (m : Int64) : CSt := (s.1, s.2.1, s.2.2.1, s.2.2.2.1, s.2.2.2.2.1, s.2.2.2.2.2.1, m)
theorem CityAt.onMk (C : CityAt w s) (m : Int64) : CityAt (w.set 0 (objC s.1.1 m)) (st_mk s m) := C.set0 s.1.1 m
theorem km : am_arr X w 1001 = some (0, 6, kmf) := rfl
/-- what a kind's mark makes of the trace -/
def mkk (s : CSt) (k : Nat) : CSt := st_mk s (s.2.2.2.2.2.2 + (kmf k).toInt64)
theorem c_rt_head (C : CityAt w s) {k j : Nat} (hk : k < 6) : Cl X (d + 2) 84 [.ref 0, .int (nI k), .int (nI j)] w Q = Wp X (Cl X (d + 1)) 84 Q (33, [some (.ref 0), some (.int (nI k)), some (.int (nI j))], [.int (nI k)], w.set 0 (objC s.1.1 (s.2.2.2.2.2.2 + (kmf k).toInt64)), 0, 0) := by
  have hw : (nI 0 ≤ nI k ∧ nI k ≤ nI 5) = True := by rw [rng_le (nI k) 5 (by decide)]; exact eq_true (ix_in hk (by decide))
  have hp : am_put w 0 7 (.long (s.2.2.2.2.2.2 + (kmf k).toInt64)) = w.set 0 (objC s.1.1 (s.2.2.2.2.2.2 + (kmf k).toInt64)) := put_at C.o
  rw [e84]
  simp only [s84_0, s84_1, s84_2, s84_5, s84_6, s84_7, s84_8, s84_11, s84_14, s84_16, s84_17, s84_18, s84_19, s84_22, s84_25, s84_26, s84_27, s84_28, s84_29, s84_32, OpV_some, OpN_some, OpA_some, OpR_some, Option.toList_some, Option.toList_none, List.cons_append, List.nil_append, true_and, and_true, nI11, or_true, true_or, or_false, false_or, km, c_within, show nI 6 - nI 1 = nI 5 by decide, hw, if_true, show (nI 1 = 0) = False by decide, if_false, C.f7, in_nI hk (show 6 < 2 ^ 31 by decide), cl_nI (show k < 2 ^ 31 by omega), hp, show (0 : Nat) < 1000 by decide, show 1000 ≤ 1001 by decide]
theorem c_rt0 (C : CityAt w s) {j : Nat} (hj : j < s.2.2.1.2.1.1) (hQ : ∀ u, CityAt u (mkk s 0) → agr w u [0] → Q (some (.int (nI (s.2.2.1.2.1.2 (j * 5 + 3))))) u) : Cl X (d + 2) 84 [.ref 0, .int (nI 0), .int (nI j)] w Q := by
  have Cv : CityAt _ (mkk s 0) := C.onMk (s.2.2.2.2.2.2 + (kmf 0).toInt64)
  rw [c_rt_head C (by decide)]
  simp only [s84_0, s84_1, s84_2, s84_5, s84_6, s84_7, s84_8, s84_11, s84_14, s84_16, s84_17, s84_18, s84_19, s84_22, s84_25, s84_26, s84_27, s84_28, s84_29, s84_32, s84_33, s84_68, s84_69, s84_70, s84_71, s84_74, s84_75, s84_78, s84_81, s84_82, s84_83, s84_86, s84_87, s84_88, s84_89, s84_90, s84_91, s84_94, s84_95, s84_98, s84_101, s84_102, s84_103, s84_106, s84_107, s84_108, s84_109, s84_110, s84_111, s84_112, s84_115, s84_116, s84_117, s84_118, s84_119, s84_120, s84_123, s84_124, s84_127, s84_130, s84_131, s84_132, s84_135, s84_136, s84_137, s84_138, s84_139, s84_140, s84_143, s84_144, s84_147, s84_150, s84_151, s84_154, s84_155, s84_156, s84_157, s84_160, s84_163, s84_164, s84_165, s84_168, OpV_some, OpN_some, OpA_some, OpR_some, Option.toList_some, Option.toList_none, List.cons_append, List.nil_append, true_and, and_true, nI11, or_true, true_or, or_false, false_or, show am_tsw 33 123 1 5 #[35, 55, 75, 84, 104] (nI 0).toInt = some 156 by decide, Cv.f3, Cv.n1, Cv.rd.cl, c_pget Cv hj (show 3 < 5 by decide), show (0 : Nat) < 1000 by decide, show (4 : Nat) < 1000 by decide, show (7 : Nat) < 1000 by decide]
  exact hQ _ Cv ((agr.rf w _).st (by decide) _)
theorem c_rt1 (C : CityAt w s) {j : Nat} (hj : j < s.2.2.1.2.1.1) (hQ : ∀ u, CityAt u (mkk (mkk s 1) 0) → agr w u [0] → Q (some (.int (nI (s.2.2.1.2.1.2 (j * 5 + 3)) + nI (s.2.2.1.2.1.2 (j * 5 + 2))))) u) : Cl X (d + 3) 84 [.ref 0, .int (nI 1), .int (nI j)] w Q := by
  have Cv : CityAt _ (mkk s 1) := C.onMk (s.2.2.2.2.2.2 + (kmf 1).toInt64)
  rw [c_rt_head C (by decide)]
  simp only [s84_33, s84_68, s84_69, s84_70, s84_71, OpV_some, OpN_some, OpA_some, OpR_some, Option.toList_some, Option.toList_none, List.cons_append, List.nil_append, true_and, and_true, nI11, or_true, true_or, or_false, false_or, show am_tsw 33 123 1 5 #[35, 55, 75, 84, 104] (nI 1).toInt = some 68 by decide, cls_at Cv.o, show (0 : Nat) < 1000 by decide]
  refine c_rt0 Cv hj fun u Cu ag => ?_
  simp only [s84_0, s84_1, s84_2, s84_5, s84_6, s84_7, s84_8, s84_11, s84_14, s84_16, s84_17, s84_18, s84_19, s84_22, s84_25, s84_26, s84_27, s84_28, s84_29, s84_32, s84_33, s84_68, s84_69, s84_70, s84_71, s84_74, s84_75, s84_78, s84_81, s84_82, s84_83, s84_86, s84_87, s84_88, s84_89, s84_90, s84_91, s84_94, s84_95, s84_98, s84_101, s84_102, s84_103, s84_106, s84_107, s84_108, s84_109, s84_110, s84_111, s84_112, s84_115, s84_116, s84_117, s84_118, s84_119, s84_120, s84_123, s84_124, s84_127, s84_130, s84_131, s84_132, s84_135, s84_136, s84_137, s84_138, s84_139, s84_140, s84_143, s84_144, s84_147, s84_150, s84_151, s84_154, s84_155, s84_156, s84_157, s84_160, s84_163, s84_164, s84_165, s84_168, OpV_some, OpN_some, OpA_some, OpR_some, Option.toList_some, Option.toList_none, List.cons_append, List.nil_append, true_and, and_true, nI11, or_true, true_or, or_false, false_or, Cu.f3, Cu.n1, Cu.rd.cl, c_pget Cu hj (show 2 < 5 by decide), show (0 : Nat) < 1000 by decide, show (4 : Nat) < 1000 by decide, show (7 : Nat) < 1000 by decide]
  exact hQ u Cu (((agr.rf w _).st (by decide) _).tr ag)
theorem c_rt2 (C : CityAt w s) {j : Nat} (hj : j < s.2.2.1.2.1.1) (hQ : ∀ u, CityAt u (mkk (mkk s 2) 0) → agr w u [0] → Q (some (.int (nI (s.2.2.1.2.1.2 (j * 5 + 3)) - nI (s.2.2.1.2.1.2 (j * 5 + 1))))) u) : Cl X (d + 3) 84 [.ref 0, .int (nI 2), .int (nI j)] w Q := by
  have Cv : CityAt _ (mkk s 2) := C.onMk (s.2.2.2.2.2.2 + (kmf 2).toInt64)
  rw [c_rt_head C (by decide)]
  simp only [s84_33, s84_68, s84_69, s84_70, s84_71, s84_74, s84_75, s84_78, s84_81, s84_82, s84_83, s84_86, s84_87, s84_88, s84_89, s84_90, s84_91, OpV_some, OpN_some, OpA_some, OpR_some, Option.toList_some, Option.toList_none, List.cons_append, List.nil_append, true_and, and_true, nI11, or_true, true_or, or_false, false_or, show am_tsw 33 123 1 5 #[35, 55, 75, 84, 104] (nI 2).toInt = some 88 by decide, cls_at Cv.o, show (0 : Nat) < 1000 by decide]
  refine c_rt0 Cv hj fun u Cu ag => ?_
  simp only [s84_0, s84_1, s84_2, s84_5, s84_6, s84_7, s84_8, s84_11, s84_14, s84_16, s84_17, s84_18, s84_19, s84_22, s84_25, s84_26, s84_27, s84_28, s84_29, s84_32, s84_33, s84_68, s84_69, s84_70, s84_71, s84_74, s84_75, s84_78, s84_81, s84_82, s84_83, s84_86, s84_87, s84_88, s84_89, s84_90, s84_91, s84_94, s84_95, s84_98, s84_101, s84_102, s84_103, s84_106, s84_107, s84_108, s84_109, s84_110, s84_111, s84_112, s84_115, s84_116, s84_117, s84_118, s84_119, s84_120, s84_123, s84_124, s84_127, s84_130, s84_131, s84_132, s84_135, s84_136, s84_137, s84_138, s84_139, s84_140, s84_143, s84_144, s84_147, s84_150, s84_151, s84_154, s84_155, s84_156, s84_157, s84_160, s84_163, s84_164, s84_165, s84_168, OpV_some, OpN_some, OpA_some, OpR_some, Option.toList_some, Option.toList_none, List.cons_append, List.nil_append, true_and, and_true, nI11, or_true, true_or, or_false, false_or, Cu.f3, Cu.n1, Cu.rd.cl, c_pget Cu hj (show 1 < 5 by decide), show (0 : Nat) < 1000 by decide, show (4 : Nat) < 1000 by decide, show (7 : Nat) < 1000 by decide]
  exact hQ u Cu (((agr.rf w _).st (by decide) _).tr ag)
theorem c_rt3 (C : CityAt w s) {j : Nat} (hj : j < s.2.2.1.2.1.1) (hQ : ∀ u, CityAt u (mkk (mkk (mkk s 3) 1) 0) → agr w u [0] → Q (some (.int (nI 2 * (nI (s.2.2.1.2.1.2 (j * 5 + 3)) + nI (s.2.2.1.2.1.2 (j * 5 + 2)))))) u) : Cl X (d + 4) 84 [.ref 0, .int (nI 3), .int (nI j)] w Q := by
  have Cv : CityAt _ (mkk s 3) := C.onMk (s.2.2.2.2.2.2 + (kmf 3).toInt64)
  rw [c_rt_head C (by decide)]
  simp only [s84_33, s84_68, s84_69, s84_70, s84_71, s84_74, s84_75, s84_78, s84_81, s84_82, s84_83, s84_86, s84_87, s84_88, s84_89, s84_90, s84_91, s84_94, s84_95, s84_98, s84_101, s84_102, s84_103, s84_106, s84_107, s84_108, s84_109, s84_110, s84_111, s84_112, OpV_some, OpN_some, OpA_some, OpR_some, Option.toList_some, Option.toList_none, List.cons_append, List.nil_append, true_and, and_true, nI11, or_true, true_or, or_false, false_or, show am_tsw 33 123 1 5 #[35, 55, 75, 84, 104] (nI 3).toInt = some 108 by decide, cls_at Cv.o, show (0 : Nat) < 1000 by decide]
  refine c_rt1 Cv hj fun u Cu ag => ?_
  simp only [s84_0, s84_1, s84_2, s84_5, s84_6, s84_7, s84_8, s84_11, s84_14, s84_16, s84_17, s84_18, s84_19, s84_22, s84_25, s84_26, s84_27, s84_28, s84_29, s84_32, s84_33, s84_68, s84_69, s84_70, s84_71, s84_74, s84_75, s84_78, s84_81, s84_82, s84_83, s84_86, s84_87, s84_88, s84_89, s84_90, s84_91, s84_94, s84_95, s84_98, s84_101, s84_102, s84_103, s84_106, s84_107, s84_108, s84_109, s84_110, s84_111, s84_112, s84_115, s84_116, s84_117, s84_118, s84_119, s84_120, s84_123, s84_124, s84_127, s84_130, s84_131, s84_132, s84_135, s84_136, s84_137, s84_138, s84_139, s84_140, s84_143, s84_144, s84_147, s84_150, s84_151, s84_154, s84_155, s84_156, s84_157, s84_160, s84_163, s84_164, s84_165, s84_168, OpV_some, OpN_some, OpA_some, OpR_some, Option.toList_some, Option.toList_none, List.cons_append, List.nil_append, true_and, and_true, nI11, or_true, true_or, or_false, false_or]
  exact hQ u Cu (((agr.rf w _).st (by decide) _).tr ag)
theorem c_rt4 (C : CityAt w s) {j : Nat} (hj : j < s.2.2.1.2.1.1) (hQ : ∀ u, CityAt u (mkk (mkk (mkk s 4) 2) 0) → agr w u [0] → Q (some (.int (nI (s.2.2.1.2.1.2 (j * 5 + 3)) - nI (s.2.2.1.2.1.2 (j * 5 + 1)) + nI (s.2.2.1.2.1.2 (j * 5))))) u) : Cl X (d + 4) 84 [.ref 0, .int (nI 4), .int (nI j)] w Q := by
  have Cv : CityAt _ (mkk s 4) := C.onMk (s.2.2.2.2.2.2 + (kmf 4).toInt64)
  rw [c_rt_head C (by decide)]
  simp only [s84_33, s84_68, s84_69, s84_70, s84_71, s84_74, s84_75, s84_78, s84_81, s84_82, s84_83, s84_86, s84_87, s84_88, s84_89, s84_90, s84_91, s84_94, s84_95, s84_98, s84_101, s84_102, s84_103, s84_106, s84_107, s84_108, s84_109, s84_110, s84_111, s84_112, s84_115, s84_116, s84_117, s84_118, s84_119, s84_120, OpV_some, OpN_some, OpA_some, OpR_some, Option.toList_some, Option.toList_none, List.cons_append, List.nil_append, true_and, and_true, nI11, or_true, true_or, or_false, false_or, show am_tsw 33 123 1 5 #[35, 55, 75, 84, 104] (nI 4).toInt = some 117 by decide, cls_at Cv.o, show (0 : Nat) < 1000 by decide]
  refine c_rt2 Cv hj fun u Cu ag => ?_
  simp only [s84_0, s84_1, s84_2, s84_5, s84_6, s84_7, s84_8, s84_11, s84_14, s84_16, s84_17, s84_18, s84_19, s84_22, s84_25, s84_26, s84_27, s84_28, s84_29, s84_32, s84_33, s84_68, s84_69, s84_70, s84_71, s84_74, s84_75, s84_78, s84_81, s84_82, s84_83, s84_86, s84_87, s84_88, s84_89, s84_90, s84_91, s84_94, s84_95, s84_98, s84_101, s84_102, s84_103, s84_106, s84_107, s84_108, s84_109, s84_110, s84_111, s84_112, s84_115, s84_116, s84_117, s84_118, s84_119, s84_120, s84_123, s84_124, s84_127, s84_130, s84_131, s84_132, s84_135, s84_136, s84_137, s84_138, s84_139, s84_140, s84_143, s84_144, s84_147, s84_150, s84_151, s84_154, s84_155, s84_156, s84_157, s84_160, s84_163, s84_164, s84_165, s84_168, OpV_some, OpN_some, OpA_some, OpR_some, Option.toList_some, Option.toList_none, List.cons_append, List.nil_append, true_and, and_true, nI11, or_true, true_or, or_false, false_or, Cu.f3, Cu.n1, Cu.rd.cl, c_pget0 Cu hj, show (0 : Nat) < 1000 by decide, show (4 : Nat) < 1000 by decide, show (7 : Nat) < 1000 by decide]
  exact hQ u Cu (((agr.rf w _).st (by decide) _).tr ag)
theorem c_rt5 (C : CityAt w s) {j : Nat} (hj : j < s.2.2.1.2.1.1) (hQ : ∀ u, CityAt u (mkk (mkk s 5) 0) → agr w u [0] → Q (some (.int (nI (s.2.2.1.2.1.2 (j * 5 + 3)) + rs_go (nIf s.2.2.1.1.2) 5 4 s.2.2.1.1.1 0 (nI 0)))) u) : Cl X (d + 3) 84 [.ref 0, .int (nI 5), .int (nI j)] w Q := by
  have Cv : CityAt _ (mkk s 5) := C.onMk (s.2.2.2.2.2.2 + (kmf 5).toInt64)
  rw [c_rt_head C (by decide)]
  simp only [s84_33, s84_68, s84_69, s84_70, s84_71, s84_74, s84_75, s84_78, s84_81, s84_82, s84_83, s84_86, s84_87, s84_88, s84_89, s84_90, s84_91, s84_94, s84_95, s84_98, s84_101, s84_102, s84_103, s84_106, s84_107, s84_108, s84_109, s84_110, s84_111, s84_112, s84_115, s84_116, s84_117, s84_118, s84_119, s84_120, s84_123, s84_124, s84_127, s84_130, s84_131, s84_132, s84_135, s84_136, s84_137, s84_138, s84_139, s84_140, OpV_some, OpN_some, OpA_some, OpR_some, Option.toList_some, Option.toList_none, List.cons_append, List.nil_append, true_and, and_true, nI11, or_true, true_or, or_false, false_or, show am_tsw 33 123 1 5 #[35, 55, 75, 84, 104] (nI 5).toInt = some 137 by decide, cls_at Cv.o, show (0 : Nat) < 1000 by decide]
  refine c_rt0 Cv hj fun u Cu ag => ?_
  simp only [s84_0, s84_1, s84_2, s84_5, s84_6, s84_7, s84_8, s84_11, s84_14, s84_16, s84_17, s84_18, s84_19, s84_22, s84_25, s84_26, s84_27, s84_28, s84_29, s84_32, s84_33, s84_68, s84_69, s84_70, s84_71, s84_74, s84_75, s84_78, s84_81, s84_82, s84_83, s84_86, s84_87, s84_88, s84_89, s84_90, s84_91, s84_94, s84_95, s84_98, s84_101, s84_102, s84_103, s84_106, s84_107, s84_108, s84_109, s84_110, s84_111, s84_112, s84_115, s84_116, s84_117, s84_118, s84_119, s84_120, s84_123, s84_124, s84_127, s84_130, s84_131, s84_132, s84_135, s84_136, s84_137, s84_138, s84_139, s84_140, s84_143, s84_144, s84_147, s84_150, s84_151, s84_154, s84_155, s84_156, s84_157, s84_160, s84_163, s84_164, s84_165, s84_168, OpV_some, OpN_some, OpA_some, OpR_some, Option.toList_some, Option.toList_none, List.cons_append, List.nil_append, true_and, and_true, nI11, or_true, true_or, or_false, false_or, Cu.f3, Cu.n0, Cu.rp.cl, rows_sum Cu.rp (show 4 < 5 by decide), show (0 : Nat) < 1000 by decide, show (4 : Nat) < 1000 by decide, show (5 : Nat) < 1000 by decide]
  exact hQ u Cu (((agr.rf w _).st (by decide) _).tr ag)
/-- what a rider is worth by a kind, and the trace behind it -/
def sp_rateN (s : CSt) (k j : Nat) : Int32 × CSt :=
  if k = 0 then (nI (s.2.2.1.2.1.2 (j * 5 + 3)), mkk s 0)
  else if k = 1 then (nI (s.2.2.1.2.1.2 (j * 5 + 3)) + nI (s.2.2.1.2.1.2 (j * 5 + 2)), mkk (mkk s 1) 0)
  else if k = 2 then (nI (s.2.2.1.2.1.2 (j * 5 + 3)) - nI (s.2.2.1.2.1.2 (j * 5 + 1)), mkk (mkk s 2) 0)
  else if k = 3 then (nI 2 * (nI (s.2.2.1.2.1.2 (j * 5 + 3)) + nI (s.2.2.1.2.1.2 (j * 5 + 2))), mkk (mkk (mkk s 3) 1) 0)
  else if k = 4 then (nI (s.2.2.1.2.1.2 (j * 5 + 3)) - nI (s.2.2.1.2.1.2 (j * 5 + 1)) + nI (s.2.2.1.2.1.2 (j * 5)), mkk (mkk (mkk s 4) 2) 0)
  else (nI (s.2.2.1.2.1.2 (j * 5 + 3)) + rs_go (nIf s.2.2.1.1.2) 5 4 s.2.2.1.1.1 0 (nI 0), mkk (mkk s 5) 0)
def sp_rate (s : CSt) (x y : Int32) : Int32 × CSt := if (0 ≤ x ∧ x < nI 6) ∧ (0 ≤ y ∧ y < nI s.2.2.1.2.1.1) then sp_rateN s (cl x) (cl y) else (-1000000, s)
theorem c_rate (C : CityAt w s) (x y : Int32) (hQ : ∀ u, CityAt u (sp_rate s x y).2 → agr w u (List.range 57) → Q (some (.int (sp_rate s x y).1)) u) : Cl X (d + 5) 73 [.ref 0, .int x, .int y] w Q := by
  have h4 := C.rd.2.2.2.2.1
  rw [e73]
  unfold sp_rate at hQ
  simp only [s73_0, s73_1, s73_2, s73_3, s73_6, s73_9, s73_10, s73_13, s73_16, s73_17, s73_20, s73_23, s73_25, s73_26, s73_27, s73_28, OpV_some, OpN_some, OpA_some, OpR_some, Option.toList_some, Option.toList_none, List.cons_append, List.nil_append, true_and, and_true, nI11, or_true, true_or, or_false, false_or, C.f3, C.n1, C.rd.cl, rows_has C.rd, c_within, nI_ite, rng_le x 5 (by decide), show (0 : Nat) < 1000 by decide, show (4 : Nat) < 1000 by decide, show (7 : Nat) < 1000 by decide]
  rcases ix x (n := 6) (by decide) with ⟨k, hk, rfl⟩ | hx
  · have hx := ix_in hk (by decide)
    rcases ix y (n := s.2.2.1.2.1.1) (by omega) with ⟨j, hj, rfl⟩ | hy
    · have hy := ix_in hj (by omega)
      simp only [hx, hy, and_self, if_true, cl_of (show k < 2 ^ 31 by omega), cl_of (show j < 2 ^ 31 by omega)] at hQ
      simp only [hx, hy, and_self, not_true, if_false, if_true, OpV_some, OpN_some, OpA_some, OpR_some, Option.toList_some, Option.toList_none, List.cons_append, List.nil_append, true_and, and_true, nI11, or_true, true_or, or_false, false_or, s73_29, show (0 : Nat) < 1000 by decide]
      refine ⟨cls_at C.o, ?_⟩
      have hk6 : k = 0 ∨ k = 1 ∨ k = 2 ∨ k = 3 ∨ k = 4 ∨ k = 5 := by omega
      rcases hk6 with rfl | rfl | rfl | rfl | rfl | rfl
      · refine c_rt0 C hj fun u Cu ag => ?_
        simp only [s73_32, OpV_some, OpN_some, OpA_some, OpR_some, Option.toList_some, Option.toList_none, List.cons_append, List.nil_append, true_and, and_true, nI11, or_true, true_or, or_false, false_or]
        exact hQ u Cu (ag.mo (by decide))
      · refine c_rt1 C hj fun u Cu ag => ?_
        simp only [s73_32, OpV_some, OpN_some, OpA_some, OpR_some, Option.toList_some, Option.toList_none, List.cons_append, List.nil_append, true_and, and_true, nI11, or_true, true_or, or_false, false_or]
        exact hQ u Cu (ag.mo (by decide))
      · refine c_rt2 C hj fun u Cu ag => ?_
        simp only [s73_32, OpV_some, OpN_some, OpA_some, OpR_some, Option.toList_some, Option.toList_none, List.cons_append, List.nil_append, true_and, and_true, nI11, or_true, true_or, or_false, false_or]
        exact hQ u Cu (ag.mo (by decide))
      · refine c_rt3 C hj fun u Cu ag => ?_
        simp only [s73_32, OpV_some, OpN_some, OpA_some, OpR_some, Option.toList_some, Option.toList_none, List.cons_append, List.nil_append, true_and, and_true, nI11, or_true, true_or, or_false, false_or]
        exact hQ u Cu (ag.mo (by decide))
      · refine c_rt4 C hj fun u Cu ag => ?_
        simp only [s73_32, OpV_some, OpN_some, OpA_some, OpR_some, Option.toList_some, Option.toList_none, List.cons_append, List.nil_append, true_and, and_true, nI11, or_true, true_or, or_false, false_or]
        exact hQ u Cu (ag.mo (by decide))
      · refine c_rt5 C hj fun u Cu ag => ?_
        simp only [s73_32, OpV_some, OpN_some, OpA_some, OpR_some, Option.toList_some, Option.toList_none, List.cons_append, List.nil_append, true_and, and_true, nI11, or_true, true_or, or_false, false_or]
        exact hQ u Cu (ag.mo (by decide))
    · simp only [hx, hy, and_false, if_false] at hQ
      simp only [hx, hy, and_self, not_true, not_false_eq_true, if_false, if_true]
      exact hQ w C (agr.rf w _)
  · simp only [hx, false_and, if_false] at hQ
    simp only [hx, not_false_eq_true, if_true]
    exact hQ w C (agr.rf w _)
end API7
