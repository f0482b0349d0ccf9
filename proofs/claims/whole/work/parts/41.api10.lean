/-! type -/
/-- a byte of a long: the last one is number 0 -/
def byN (v : Int64) (i : Nat) : Nat := ((((v.toUInt64 >>> ((nI 8 * nI i).toInt64.toUInt64 &&& Int64.toUInt64 63)).toInt64).toInt32) &&& nI 255).toBitVec.toNat
theorem nI_bits (x : Int32) : nI x.toBitVec.toNat = x := by
  apply Int32.toBitVec_inj.mp
  unfold nI
  apply BitVec.eq_of_toNat_eq
  simp
theorem by_lt (v : Int64) (i : Nat) : byN v i < 256 := by
  unfold byN
  rw [Int32.toBitVec_and, BitVec.toNat_and]
  have : (nI 255).toBitVec.toNat = 255 := by decide
  rw [this]
  exact Nat.lt_of_le_of_lt Nat.and_le_right (by decide)
def tyL (v : Int64) : Nat → Nat → (Nat → Nat) → (Nat → Nat)
  | 0, _, f => f
  | n + 1, l, f => tyL v n (l + 1) (upN f l (byN v n))
section API10
variable {X : am_X} {d : Nat} {Q : am_Q} {w : am_W} {s : CSt}
def st_tx (s : CSt) (n : Nat) (f : Nat → Nat) : CSt := ((n, f), s.2)
theorem CityAt.onText (C : CityAt w s) (f : Nat → Nat) : CityAt (w.set 1 (.inl (0, 300, .inl (nIf f)))) (st_tx s s.1.1 f) := by
  have ag : agr w (w.set 1 (.inl (0, 300, .inl (nIf f)))) [1] := (agr.rf w _).st (by decide) _
  exact ⟨(ag.2 0 (by decide)).trans C.o, set_at C.tx, C.dr.ag ag (by decide) (by decide), NAt.ag C.2.2.2.1 ag (by decide), C.sn.ag ag (by decide) (by decide), (ag.2 15 (by decide)).trans C.im, C.i0.ag ag (by decide), C.i1.ag ag (by decide), (ag.2 34 (by decide)).trans C.kp, C.sc.ag ag (by decide)⟩
theorem c_type_loop {v : Int64} {l3 : Int32} : ∀ (n : Nat) (s : CSt) (u : am_W) (l4 : Int32), l4 = nI n - nI 1 → s.1.1 + n ≤ 300 → CityAt u s → agr w u [0, 1] → (∀ z, CityAt z (st_tx s (s.1.1 + n) (tyL v n s.1.1 s.1.2)) → agr w z [0, 1] → Q (some (.int (nI (s.1.1 + n)))) z) →
    Wp X (Cl X d) 53 Q (33, [some (.ref 0), some (.long v), some (.retAddr 0), some (.int l3), some (.int l4)], [], u, 0, 0)
  | 0, s, u, l4, e, h3, C, ag, hQ => by
    have h0 : (l4 < 0) = True := by rw [e]; exact eq_true (by decide)
    rw [s53_33]
    simp only [s53_0, s53_1, s53_2, s53_5, s53_6, s53_8, s53_11, s53_12, s53_13, s53_14, s53_17, s53_18, s53_19, s53_22, s53_25, s53_27, s53_28, s53_29, s53_30, s53_31, s53_35, s53_38, s53_39, s53_42, s53_43, s53_46, s53_47, s53_49, s53_51, s53_52, s53_53, s53_54, s53_57, s53_58, s53_59, s53_60, s53_61, s53_64, s53_65, s53_66, s53_69, s53_72, s53_75, s53_76, s53_79, OpV_some, OpN_some, OpA_some, OpR_some, Option.toList_some, Option.toList_none, List.cons_append, List.nil_append, true_and, and_true, nI11, or_true, true_or, or_false, false_or, h0, if_true, C.f1, show (0 : Nat) < 1000 by decide]
    exact hQ u C ag
  | n + 1, s, u, l4, e, h3, C, ag, hQ => by
    have e4 : l4 = nI n := by rw [e, nI_subN (by omega)]; rfl
    subst e4
    have hb : ∀ x : Int32, x = nI x.toBitVec.toNat := fun x => (nI_bits x).symm
    have C1 := C.onText (upN s.1.2 s.1.1 (byN v n))
    have C2 : CityAt _ (st_tx s (s.1.1 + 1) (upN s.1.2 s.1.1 (byN v n))) := C1.set0 (s.1.1 + 1) s.2.2.2.2.2.2
    have hast : am_ast u 1 (nI s.1.1).toNatClampNeg ((((v.toUInt64 >>> ((nI 8 * nI n).toInt64.toUInt64 &&& Int64.toUInt64 63)).toInt64).toInt32) &&& nI 255) = u.set 1 (.inl (0, 300, .inl (nIf (upN s.1.2 s.1.1 (byN v n))))) := by
      rw [ast_at C.tx, nI_clamp (by omega), hb (_ &&& nI 255), upd_nIf]; rfl
    have f1' : am_fld (u.set 1 (.inl (0, 300, .inl (nIf (upN s.1.2 s.1.1 (byN v n)))))) 0 7 1 = some (.int (nI s.1.1)) := C1.f1
    have hput : am_put (u.set 1 (.inl (0, 300, .inl (nIf (upN s.1.2 s.1.1 (byN v n)))))) 0 1 (.int (nI (s.1.1 + 1))) = (u.set 1 (.inl (0, 300, .inl (nIf (upN s.1.2 s.1.1 (byN v n)))))).set 0 (objC (s.1.1 + 1) s.2.2.2.2.2.2) := put_at C1.o
    rw [s53_33]
    simp only [s53_0, s53_1, s53_2, s53_5, s53_6, s53_8, s53_11, s53_12, s53_13, s53_14, s53_17, s53_18, s53_19, s53_22, s53_25, s53_27, s53_28, s53_29, s53_30, s53_31, s53_35, s53_38, s53_39, s53_42, s53_43, s53_46, s53_47, s53_49, s53_51, s53_52, s53_53, s53_54, s53_57, s53_58, s53_59, s53_60, s53_61, s53_64, s53_65, s53_66, s53_69, s53_72, s53_75, s53_76, s53_79, OpV_some, OpN_some, OpA_some, OpR_some, Option.toList_some, Option.toList_none, List.cons_append, List.nil_append, true_and, and_true, nI11, or_true, true_or, or_false, false_or, nI_lt0 (show n < 2 ^ 31 by omega), if_false, C.f0, C.f1, arr_at (show 1 < 1000 by decide) C.tx, in_nI (show s.1.1 < 300 by omega) (show 300 < 2 ^ 31 by decide), hast, f1', nI_add, hput, show (0 : Nat) < 1000 by decide, show (1 : Nat) < 1000 by decide]
    refine c_type_loop n _ _ _ (show nI n + (-1) = nI n - nI 1 by rw [Int32.sub_eq_add_neg]; rfl) (by show s.1.1 + 1 + n ≤ 300; omega) C2 ((ag.st (by decide) _).st (by decide) _) fun z Cz agz => ?_
    have e2 : s.1.1 + 1 + n = s.1.1 + (n + 1) := by omega
    have Cz' : CityAt z (st_tx s (s.1.1 + 1 + n) (tyL v (n + 1) s.1.1 s.1.2)) := Cz
    rw [e2] at Cz'
    show Q (some (.int (nI (s.1.1 + 1 + n)))) z
    rw [e2]
    exact hQ z Cz' agz
def sp_type (s : CSt) (v : Int64) (n : Int32) : Int32 × CSt :=
  if nI 1 ≤ n ∧ n ≤ nI 8 then (if 300 < s.1.1 + cl n then (-3, s) else (nI (s.1.1 + cl n), st_tx s (s.1.1 + cl n) (tyL v (cl n) s.1.1 s.1.2))) else (-1, s)
theorem c_type (C : CityAt w s) (V : Valid s) (v : Int64) (n : Int32) (hQ : ∀ u, CityAt u (sp_type s v n).2 → agr w u (List.range 57) → Q (some (.int (sp_type s v n).1)) u) : Cl X (d + 1) 53 [.ref 0, .long v, .int n] w Q := by
  have h3 := V.1
  rw [e53]
  unfold sp_type at hQ
  by_cases hn : nI 1 ≤ n ∧ n ≤ nI 8
  · obtain ⟨k, k1, k8, rfl⟩ : ∃ k, 1 ≤ k ∧ k ≤ 8 ∧ n = nI k := by
      have h1 := hn.1
      have h2 := hn.2
      rw [Int32.le_iff_toInt_le] at h1 h2
      have e1 : (nI 1).toInt = 1 := by decide
      have e8 : (nI 8).toInt = 8 := by decide
      rw [e1] at h1
      rw [e8] at h2
      refine ⟨n.toInt.toNat, by omega, by omega, toInt_inj' ?_⟩
      rw [nI_toInt (by omega)]
      omega
    simp only [hn, and_self, if_true, cl_of (show k < 2 ^ 31 by omega)] at hQ
    simp only [s53_0, s53_1, s53_2, s53_5, s53_6, s53_8, s53_11, s53_12, s53_13, s53_14, s53_17, s53_18, s53_19, s53_22, s53_25, s53_27, s53_28, s53_29, s53_30, s53_31, s53_35, s53_38, s53_39, s53_42, s53_43, s53_46, s53_47, s53_49, s53_51, s53_52, s53_53, s53_54, s53_57, s53_58, s53_59, s53_60, s53_61, s53_64, s53_65, s53_66, s53_69, s53_72, s53_75, s53_76, s53_79, OpV_some, OpN_some, OpA_some, OpR_some, Option.toList_some, Option.toList_none, List.cons_append, List.nil_append, true_and, and_true, nI11, or_true, true_or, or_false, false_or, nI_ltN (show k < 2 ^ 31 by omega) (show 1 < 2 ^ 31 by decide), nI_ltN (show 8 < 2 ^ 31 by decide) (show k < 2 ^ 31 by omega), show ¬ k < 1 by omega, show ¬ 8 < k by omega, if_false, C.f1, nI_add, nI_ltN (show 300 < 2 ^ 31 by decide) (show s.1.1 + k < 2 ^ 31 by omega), show (0 : Nat) < 1000 by decide]
    by_cases h9 : 300 < s.1.1 + k
    · simp only [h9, if_true] at hQ ⊢
      exact hQ w C (agr.rf w _)
    · simp only [h9, if_false] at hQ ⊢
      exact c_type_loop k s w _ rfl (by omega) C (agr.rf w _) fun z Cz ag => hQ z Cz (ag.mo (by decide))
  · simp only [hn, if_false] at hQ
    by_cases h1 : n < nI 1
    · simp only [s53_0, s53_1, s53_2, s53_5, s53_6, s53_8, s53_11, s53_12, s53_13, s53_14, s53_17, s53_18, s53_19, s53_22, s53_25, s53_27, s53_28, s53_29, s53_30, s53_31, s53_35, s53_38, s53_39, s53_42, s53_43, s53_46, s53_47, s53_49, s53_51, s53_52, s53_53, s53_54, s53_57, s53_58, s53_59, s53_60, s53_61, s53_64, s53_65, s53_66, s53_69, s53_72, s53_75, s53_76, s53_79, OpV_some, OpN_some, OpA_some, OpR_some, Option.toList_some, Option.toList_none, List.cons_append, List.nil_append, true_and, and_true, nI11, or_true, true_or, or_false, false_or, h1, if_true]
      exact hQ w C (agr.rf w _)
    · by_cases h2 : nI 8 < n
      · simp only [s53_0, s53_1, s53_2, s53_5, s53_6, s53_8, s53_11, s53_12, s53_13, s53_14, s53_17, s53_18, s53_19, s53_22, s53_25, s53_27, s53_28, s53_29, s53_30, s53_31, s53_35, s53_38, s53_39, s53_42, s53_43, s53_46, s53_47, s53_49, s53_51, s53_52, s53_53, s53_54, s53_57, s53_58, s53_59, s53_60, s53_61, s53_64, s53_65, s53_66, s53_69, s53_72, s53_75, s53_76, s53_79, OpV_some, OpN_some, OpA_some, OpR_some, Option.toList_some, Option.toList_none, List.cons_append, List.nil_append, true_and, and_true, nI11, or_true, true_or, or_false, false_or, h1, h2, if_true, if_false]
        exact hQ w C (agr.rf w _)
      · exact absurd ⟨by rw [← i32_nlt]; exact h1, by rw [← i32_nlt]; exact h2⟩ hn
end API10
