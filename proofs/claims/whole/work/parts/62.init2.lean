/-! the world of a new object, ahead of its first doors -/
def W1 : am_W := [.inr (7, [.ref 1, .int (nI 0), .ref 2, .ref 4, .ref 13, .ref 15, .ref 34, .long 0, .ref 35, .ref 44, .ref 45, .ref 48, .ref 49, .ref 53, .ref 56]),
  .inl (0, 300, .inl fun _ => 0),
  .inr (4, [.int (nI 8), .int (nI 2), .ref 3, .int (nI 0)]),
  .inl (0, 16, .inl fun _ => 0),
  .inr (0, [.ref 5, .ref 7, .ref 9, .ref 11]),
  .inr (4, [.int (nI 8), .int (nI 5), .ref 6, .int (nI 0)]),
  .inl (0, 40, .inl fun _ => 0),
  .inr (4, [.int (nI 4), .int (nI 5), .ref 8, .int (nI 0)]),
  .inl (0, 20, .inl fun _ => 0),
  .inr (4, [.int (nI 10), .int (nI 7), .ref 10, .int (nI 0)]),
  .inl (0, 70, .inl fun _ => 0),
  .inr (4, [.int (nI 10), .int (nI 4), .ref 12, .int (nI 0)]),
  .inl (0, 40, .inl fun _ => 0),
  .inr (4, [.int (nI 6), .int (nI 2), .ref 14, .int (nI 0)]),
  .inl (0, 12, .inl fun _ => 0),
  .inl (2, 2, .inr (.inr (.inr (.inr imgs)))),
  .inr (0, [.ref 17, .ref 19, .ref 21, .ref 23]),
  .inr (4, [.int (nI 8), .int (nI 5), .ref 18, .int (nI 0)]),
  .inl (0, 40, .inl fun _ => 0),
  .inr (4, [.int (nI 4), .int (nI 5), .ref 20, .int (nI 0)]),
  .inl (0, 20, .inl fun _ => 0),
  .inr (4, [.int (nI 10), .int (nI 7), .ref 22, .int (nI 0)]),
  .inl (0, 70, .inl fun _ => 0),
  .inr (4, [.int (nI 10), .int (nI 4), .ref 24, .int (nI 0)]),
  .inl (0, 40, .inl fun _ => 0),
  .inr (0, [.ref 26, .ref 28, .ref 30, .ref 32]),
  .inr (4, [.int (nI 8), .int (nI 5), .ref 27, .int (nI 0)]),
  .inl (0, 40, .inl fun _ => 0),
  .inr (4, [.int (nI 4), .int (nI 5), .ref 29, .int (nI 0)]),
  .inl (0, 20, .inl fun _ => 0),
  .inr (4, [.int (nI 10), .int (nI 7), .ref 31, .int (nI 0)]),
  .inl (0, 70, .inl fun _ => 0),
  .inr (4, [.int (nI 10), .int (nI 4), .ref 33, .int (nI 0)]),
  .inl (0, 40, .inl fun _ => 0),
  .inl (1, 2, .inl fun _ => 0),
  .inr (1, [.ref 36, .ref 38, .ref 40, .ref 42, .int (nI 0), .int (nI 0), .int (nI 0), .int (nI 0), .int (nI 0), .ref 43]),
  .inr (4, [.int (nI 8), .int (nI 2), .ref 37, .int (nI 0)]),
  .inl (0, 16, .inl fun _ => 0),
  .inr (4, [.int (nI 8), .int (nI 5), .ref 39, .int (nI 0)]),
  .inl (0, 40, .inl fun _ => 0),
  .inr (4, [.int (nI 4), .int (nI 5), .ref 41, .int (nI 0)]),
  .inl (0, 20, .inl fun _ => 0),
  .inl (0, 300, .inl fun _ => 0),
  .inl (0, 4, .inl fun _ => 0),
  .inr (5, [.ref 2, .ref 5]),
  .inr (5, [.ref 2, .ref 46]),
  .inr (4, [.int (nI 8), .int (nI 5), .ref 47, .int (nI 0)]),
  .inl (0, 40, .inl fun _ => 0),
  .inr (2, [.int (nI 0), .int (nI 0), .int (nI 0), .int (nI 0)]),
  .inr (3, [.ref 50, .ref 52, .int (nI 0), .int (nI 0), .int (nI 0)]),
  .inr (4, [.int (nI 6), .int (nI 1), .ref 51, .int (nI 0)]),
  .inl (0, 6, .inl fun _ => 0),
  .inr (2, [.int (nI 0), .int (nI 0), .int (nI 0), .int (nI 0)]),
  .inr (6, [.ref 54, .ref 55, .int (nI 0), .int (nI 0)]),
  .inl (0, 8, .inl fun _ => 0),
  .inl (0, 8, .inl fun _ => 0),
  .inl (0, 4, .inl fun _ => 0)]
theorem cl_300 : (nI 300).toNatClampNeg = 300 := by decide
theorem cl_2 : (nI 2).toNatClampNeg = 2 := by decide
theorem cl_4 : (nI 4).toNatClampNeg = 4 := by decide
theorem cl_8 : (nI 8).toNatClampNeg = 8 := by decide
theorem cl_0 : (nI 0).toNatClampNeg = 0 := by decide
theorem cl_1 : (nI 1).toNatClampNeg = 1 := by decide
section INITB
variable {X : am_X} {d : Nat} {Q : am_Q} {w : am_W}
theorem pmc52 : pm_c 52 = 56 := rfl
theorem pmz52 : pm_z 52 = 2077 := rfl
set_option maxRecDepth 20000 in
set_option maxHeartbeats 4000000 in
theorem c_init1 : Cl X (d + 6) 52 [.ref 0] [.inr (7, [.null, .int 0, .null, .null, .null, .null, .null, .long 0, .null, .null, .null, .null, .null, .null, .null])] Q = Wp X (Cl X (d + 5)) 52 Q (195, [some (.ref 0)], [], W1, 56, 2077) := by
  rw [e52]
  simp (decide := true) only [s52_0, s52_1, s52_4, s52_5, s52_8, s52_10, s52_13, s52_14, s52_15, s52_18, s52_19, s52_22, s52_23, s52_25, s52_26, s52_29, s52_32, s52_33, s52_36, s52_37, s52_40, s52_43, s52_44, s52_47, s52_48, s52_50, s52_51, s52_54, s52_57, s52_58, s52_59, s52_62, s52_63, s52_64, s52_67, s52_68, s52_71, s52_72, s52_73, s52_74, s52_77, s52_78, s52_81, s52_82, s52_85, s52_86, s52_87, s52_89, s52_92, s52_93, s52_94, s52_97, s52_98, s52_101, s52_102, s52_105, s52_108, s52_109, s52_112, s52_113, s52_114, s52_117, s52_118, s52_121, s52_124, s52_127, s52_130, s52_131, s52_134, s52_135, s52_136, s52_139, s52_142, s52_143, s52_145, s52_146, s52_149, s52_152, s52_155, s52_156, s52_159, s52_160, s52_163, s52_166, s52_167, s52_170, s52_171, s52_174, s52_177, s52_178, s52_181, s52_182, s52_185, s52_188, s52_189, s52_190, s52_192, s0_0, s0_1, s0_4, s0_5, s0_8, s0_9, s0_11, s0_12, s0_15, s0_18, s0_19, s0_22, s0_23, s0_24, s0_25, s0_28, s0_31, s0_32, s0_35, s0_36, s0_38, s0_40, s0_43, s0_46, s0_47, s0_50, s0_51, s0_53, s0_54, s0_57, s0_60, e0, s7_0, s7_1, s7_4, s7_5, s7_8, s7_9, s7_11, s7_12, s7_15, s7_18, s7_19, s7_22, s7_23, s7_25, s7_26, s7_29, s7_32, s7_33, s7_36, s7_37, s7_38, s7_39, s7_42, s7_45, s7_46, s7_49, s7_51, s7_54, s7_55, s7_56, s7_59, s7_60, s7_61, s7_64, s7_65, s7_66, s7_69, s7_70, s7_71, s7_74, s7_75, s7_76, s7_79, s7_80, s7_81, s7_83, s7_86, e7, s25_0, s25_1, s25_4, s25_5, s25_6, s25_9, s25_10, s25_11, s25_14, s25_15, s25_16, s25_19, s25_20, s25_21, s25_24, e25, s27_0, s27_1, s27_4, s27_5, s27_8, s27_9, s27_11, s27_12, s27_15, s27_18, s27_19, s27_22, s27_23, s27_26, s27_29, s27_30, s27_31, s27_34, s27_35, s27_36, s27_39, s27_40, s27_41, s27_44, e27, s42_0, s42_1, s42_4, s42_5, s42_6, s42_9, s42_10, s42_11, s42_14, e42, s48_0, s48_1, s48_4, s48_5, s48_7, s48_9, s48_12, s48_13, s48_15, s48_17, s48_20, s48_21, s48_22, s48_25, s48_26, s48_27, s48_30, e48, OpV_some, OpN_some, OpA_some, OpR_some, Option.toList_some, Option.toList_none, List.cons_append, List.nil_append, true_and, and_true, nI11, or_true, true_or, or_false, false_or, rows_init, am_put, am_fld, am_cls, am_refs, am_rst, List.set_cons_succ, List.set_cons_zero, List.getElem?_cons_succ, List.getElem?_cons_zero, List.length_cons, List.length_nil, List.length_set, List.length_append, List.cons_append, List.nil_append, Nat.reduceAdd, Nat.reduceMul, cl_300, cl_2, cl_4, cl_8, cl_0, cl_1, pmc52, pmz52, if_true, if_false, Nat.zero_add, in_nI (show 0 < 2 by decide) (show 2 < 2 ^ 31 by decide), in_nI (show 1 < 2 by decide) (show 2 < 2 ^ 31 by decide)]
  rfl
def z0 : Nat → Nat := fun _ => 0
def n0 : NSt := ((0, z0), (0, z0), (0, z0), (0, z0))
def s00 : CSt := ((0, z0), (0, z0), n0, (0, z0), z0, (fun _ => n0), 0)
/-- the state of a new city -/
def s0 : CSt := ((0, z0), (4, cpN (ssl 4 0 z0) z0 (8 * 2)), n0, (0, z0), z0, (fun _ => n0), 0)
theorem W1_rows {i j ro wi : Nat} (h1 : W1[i]? = some (.inr (4, [.int (nI ro), .int (nI wi), .ref j, .int (nI 0)]))) (h2 : W1[j]? = some (.inl (0, ro * wi, .inl fun _ => 0))) (hi : i < 1000) (hj : j < 1000) (hr : ro ≤ 100) (hw : wi ≤ 100) : RowsAt W1 i j ro wi 0 (nIf z0) := ⟨h1, h2, hi, hj, Nat.zero_le _, hr, hw⟩
theorem W1_now {b : Nat} (h : b = 4 ∨ b = 16 ∨ b = 25) : NAt W1 b n0 := by
  rcases h with rfl | rfl | rfl
  · exact ⟨rfl, by decide, W1_rows rfl rfl (by decide) (by decide) (by decide) (by decide), W1_rows rfl rfl (by decide) (by decide) (by decide) (by decide), W1_rows rfl rfl (by decide) (by decide) (by decide) (by decide), W1_rows rfl rfl (by decide) (by decide) (by decide) (by decide)⟩
  · exact ⟨rfl, by decide, W1_rows rfl rfl (by decide) (by decide) (by decide) (by decide), W1_rows rfl rfl (by decide) (by decide) (by decide) (by decide), W1_rows rfl rfl (by decide) (by decide) (by decide) (by decide), W1_rows rfl rfl (by decide) (by decide) (by decide) (by decide)⟩
  · exact ⟨rfl, by decide, W1_rows rfl rfl (by decide) (by decide) (by decide) (by decide), W1_rows rfl rfl (by decide) (by decide) (by decide) (by decide), W1_rows rfl rfl (by decide) (by decide) (by decide) (by decide), W1_rows rfl rfl (by decide) (by decide) (by decide) (by decide)⟩
theorem W1_city : CityAt W1 s00 := by
  refine ⟨rfl, rfl, W1_rows rfl rfl (by decide) (by decide) (by decide) (by decide), W1_now (Or.inl rfl), W1_rows rfl rfl (by decide) (by decide) (by decide) (by decide), rfl, W1_now (Or.inr (Or.inl rfl)), W1_now (Or.inr (Or.inr rfl)), rfl, ?_⟩
  refine ⟨⟨⟨0, 0, 0, 0, 0, rfl⟩, ⟨_, _, W1_rows rfl rfl (by decide) (by decide) (by decide) (by decide)⟩, ⟨_, _, W1_rows rfl rfl (by decide) (by decide) (by decide) (by decide)⟩, ⟨_, _, W1_rows rfl rfl (by decide) (by decide) (by decide) (by decide)⟩, ⟨z0, rfl⟩, ⟨z0, rfl⟩⟩, rfl, rfl, ⟨_, _, W1_rows rfl rfl (by decide) (by decide) (by decide) (by decide)⟩, ⟨_, _, _, _, rfl⟩, ⟨0, z0, 0, 0, 0, rfl, W1_rows rfl rfl (by decide) (by decide) (by decide) (by decide), ⟨_, _, _, _, rfl⟩⟩, ⟨z0, z0, 0, 0, rfl, rfl, rfl⟩, ⟨z0, rfl⟩⟩
theorem W1_rd : rdw W1 0 (0, 0, 0, 0) ((0, z0), (0, z0), (0, z0)) z0 z0 = W1 := rfl
theorem c_init (hQ : ∀ u, CityAt u s0 → u.length = 57 → Q none u) : Cl X (d + 6) 52 [.ref 0] [.inr (7, [.null, .int 0, .null, .null, .null, .null, .null, .long 0, .null, .null, .null, .null, .null, .null, .null])] Q := by
  have H : 44 ≤ W1.length := by decide
  have hrO : rOK ((4, ssl 4 0 z0), (0, z0), (0, z0)) := ⟨show 4 ≤ 8 by decide, show 0 ≤ 8 by decide, show 0 ≤ 4 by decide⟩
  have an : ∀ Q : am_Q, Cl X (d + 5) 8 [.ref 35] W1 Q = Q none (rdw W1 0 (0, 0, 0, 0) ((4, ssl 4 0 z0), (0, z0), (0, z0)) z0 z0) := fun Q => by
    conv => lhs; rw [← W1_rd]
    exact rw_anew H ⟨show 0 ≤ 8 by decide, show 0 ≤ 8 by decide, show 0 ≤ 4 by decide⟩
  have C := W1_city
  have C1 := C.reader (le := 0) (t := (0, 0, 0, 0)) (B := z0) (N := z0) H hrO
  have hl : (rdw W1 0 (0, 0, 0, 0) ((4, ssl 4 0 z0), (0, z0), (0, z0)) z0 z0).length = 57 := rfl
  have R1 := rdw_D (le := 0) (t := (0, 0, 0, 0)) (B := z0) (N := z0) (u := W1) (r := ((4, ssl 4 0 z0), (0, z0), (0, z0))) H hrO.1
  have F0 := rdw_f0 (le := 0) (t := (0, 0, 0, 0)) (r := ((4, ssl 4 0 z0), (0, z0), (0, z0))) (B := z0) (N := z0) H
  have hcl : am_cls W1 35 = some 1 := rfl
  rw [c_init1]
  simp only [s52_195, s52_196, s52_199, OpV_some, OpN_some, OpA_some, OpR_some, Option.toList_some, Option.toList_none, List.cons_append, List.nil_append, true_and, and_true, nI11, or_true, true_or, or_false, false_or, C.f8, hcl, an, pmc52, pmz52, Nat.le_refl, show (0 : Nat) < 1000 by decide, show (35 : Nat) < 1000 by decide]
  generalize rdw W1 0 (0, 0, 0, 0) ((4, ssl 4 0 z0), (0, z0), (0, z0)) z0 z0 = w1 at C1 hl R1 F0
  have C2 := C1.onDoors (show 4 ≤ 8 by decide) (cpN (ssl 4 0 z0) z0 (8 * 2))
  have cp : Cl X (d + 5) 41 [.ref 2, .ref 36] w1 = fun Q => Q none (rar (rsz w1 2 3 8 2 4) 3 (8 * 2) (nIf (cpN (ssl 4 0 z0) z0 (8 * 2)))) := funext fun Q => by
    rw [rows_copy C1.dr R1 (by decide) (by decide) (by decide) (by decide), cpy_nIf]
    rfl
  simp only [s52_202, s52_203, s52_206, s52_207, s52_210, s52_213, s52_216, OpV_some, OpN_some, OpA_some, OpR_some, Option.toList_some, Option.toList_none, List.cons_append, List.nil_append, true_and, and_true, nI11, or_true, true_or, or_false, false_or, C1.f2, C1.f8, F0, C1.dr.cl, cp, pmc52, pmz52, Nat.le_refl, show (0 : Nat) < 1000 by decide, show (2 : Nat) < 1000 by decide, show (35 : Nat) < 1000 by decide]
  refine hQ _ C2 ?_
  unfold rar rsz
  rw [List.length_set, List.length_set]
  exact hl
end INITB
