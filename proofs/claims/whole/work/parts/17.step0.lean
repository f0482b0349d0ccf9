theorem g_iconst {X : am_X} {d k : Nat} {Q : am_Q} {pc pc' : Nat} {ls : List (Option Value)} {st : List Value} {w : am_W} {c z : Nat} {n : Int} {v : Int32} (hi : pm_i k pc = some (.iconst n, 1)) (hv : Int32.ofInt n = v) (hp : pc + 1 = pc') : Wp X (Cl X d) k Q (pc, ls, st, w, c, z) = Wp X (Cl X d) k Q (pc', ls, .int v :: st, w, c, z) := by subst hv; exact g_stk hi rfl hp
theorem g_bipush {X : am_X} {d k : Nat} {Q : am_Q} {pc pc' : Nat} {ls : List (Option Value)} {st : List Value} {w : am_W} {c z : Nat} {n : Int} {v : Int32} (hi : pm_i k pc = some (.bipush n, 2)) (hv : (Int8.ofInt n).toInt32 = v) (hp : pc + 2 = pc') : Wp X (Cl X d) k Q (pc, ls, st, w, c, z) = Wp X (Cl X d) k Q (pc', ls, .int v :: st, w, c, z) := by subst hv; exact g_stk hi rfl hp
theorem g_sipush {X : am_X} {d k : Nat} {Q : am_Q} {pc pc' : Nat} {ls : List (Option Value)} {st : List Value} {w : am_W} {c z : Nat} {n : Int} {v : Int32} (hi : pm_i k pc = some (.sipush n, 3)) (hv : (Int16.ofInt n).toInt32 = v) (hp : pc + 3 = pc') : Wp X (Cl X d) k Q (pc, ls, st, w, c, z) = Wp X (Cl X d) k Q (pc', ls, .int v :: st, w, c, z) := by subst hv; exact g_stk hi rfl hp
theorem g_iinc {X : am_X} {d k : Nat} {Q : am_Q} {pc pc' : Nat} {ls ls' : List (Option Value)} {st : List Value} {w : am_W} {c z : Nat} {i : Nat} {n : Int} {x v : Int32} (hi : pm_i k pc = some (.iinc i n, 3)) (hl : ls[i]? = some (some (.int x))) (hv : Int32.ofInt n = v) (hl2 : ls.set i (some (.int (x + v))) = ls') (hp : pc + 3 = pc') : Wp X (Cl X d) k Q (pc, ls, st, w, c, z) = Wp X (Cl X d) k Q (pc', ls', st, w, c, z) := by
  subst hv; subst hl2; subst hp
  exact g_oneT hi rfl (by simp only [am_one, hl])
theorem g_obj {X : am_X} {d k : Nat} {Q : am_Q} {pc pc' : Nat} {ls : List (Option Value)} {st : List Value} {w : am_W} {c z : Nat} {i p j n : Nat} (hi : pm_i k pc = some (.invokespecial i, 3)) (hr : am_f2 rM (pm_o k) i = some (4, j, n)) (hc : Nat.ble (st.map fun v => v.category).sum 8 = true) (hp : pc + 3 = pc') : Wp X (Cl X d) k Q (pc, ls, .ref p :: st, w, c, z) = (p < 1000 ∧ Wp X (Cl X d) k Q (pc', ls, st, w, c, z)) := by
  subst hp
  rw [g_one (A := (st.map fun v => v.category).sum ≤ 8 ∧ p < 1000) (s' := (pc + 3, ls, st, w, c, z)) hi rfl (by simp only [am_one, hr])]
  simp only [Nat.le_of_ble_eq_true hc, true_and]
theorem g_callS0 {X : am_X} {d k : Nat} {Q : am_Q} {pc pc' : Nat} {ls : List (Option Value)} {st : List Value} {w : am_W} {i j n : Nat} {as rest : List Value} (hi : pm_i k pc = some (.invokestatic i, 3)) (hr : am_f2 rM (pm_o k) i = some (1, j, n)) (hl : (st.take n).length = n) (hd : st.drop n = rest) (has : (st.take n).reverse = as) (hcat : (rest.map fun v => v.category).sum ≤ 8) (hc : pm_c j = 0) (hz : pm_z j = 0) (hp : pc + 3 = pc') :
    Wp X (Cl X d) k Q (pc, ls, st, w, 0, 0) = Cl X d j as w (fun r w' => Wp X (Cl X d) k Q (pc', ls, r.toList ++ rest, w', 0, 0)) := by
  rw [g_callS hi hr hl hd has hcat hc hz hp]
  simp only [Nat.zero_le, true_and]
theorem g_callVA {X : am_X} {d k : Nat} {Q : am_Q} {pc pc' : Nat} {ls : List (Option Value)} {st : List Value} {w : am_W} {c z : Nat} {i j n ci p : Nat} {as rest : List Value} (hi : pm_i k pc = some (.invokevirtual i, 3)) (hr : am_f2 rM (pm_o k) i = some (0, j, n)) (hd : st.drop n = .ref p :: rest) (has : (st.take n).reverse = as) (ho : pm_o j = ci) (hci : ¬ ci = 10) (hcat : (rest.map fun v => v.category).sum ≤ 8) (hc : pm_c j = 0) (hz : pm_z j = 0) (hp : pc + 3 = pc') :
    Wp X (Cl X d) k Q (pc, ls, st, w, c, z) = ((p < 1000 ∧ am_cls w p = some ci) ∧ c ≤ pm_c k ∧ z ≤ pm_z k ∧ Cl X d j (.ref p :: as) w (fun r w' => Wp X (Cl X d) k Q (pc', ls, r.toList ++ rest, w', c, z))) := by
  subst has; subst hp
  rw [Wp_eq (Cl_mono X d), ← own_if ho hci]
  have h1 : am_pure X k (.invokevirtual i) 3 pc ls st w c z = none := rfl
  simp only [am_F, hi, h1, am_call, hr, hd, hcat, and_true, hc, hz, Nat.add_zero]
theorem g_retA {X : am_X} {d k : Nat} {Q : am_Q} {pc : Nat} {ls : List (Option Value)} {w : am_W} {c z : Nat} {n : Nat} (hi : pm_i k pc = some (.return_, n)) (h1 : am_pure X k .return_ n pc ls [] w c z = none) (h2 : am_call k .return_ [] w = none) (h : pm_r k = none) : Wp X (Cl X d) k Q (pc, ls, [], w, c, z) = (c ≤ pm_c k ∧ z ≤ pm_z k ∧ Q none w) := by
  rw [g_ret hi h1 h2 (A := pm_r k = none) (v := none) rfl]
  simp only [h, true_and]
theorem g_retL {X : am_X} {d k : Nat} {Q : am_Q} {pc : Nat} {ls : List (Option Value)} {st : List Value} {w : am_W} {I : Instr} {n : Nat} {r : Option FieldType} {v : Option Value} (hi : pm_i k pc = some (I, n)) (h1 : am_pure X k I n pc ls st w 0 0 = none) (h2 : am_call k I st w = none) (h : am_ret k I st = some (r = r, v)) : Wp X (Cl X d) k Q (pc, ls, st, w, 0, 0) = Q v w := by
  rw [g_ret hi h1 h2 h]
  simp only [Nat.zero_le, true_and]
theorem cb_m10 : (Int8.ofInt (-10)).toInt32 = (-10) := by decide
theorem cb_m9 : (Int8.ofInt (-9)).toInt32 = (-9) := by decide
theorem cb_m3 : (Int8.ofInt (-3)).toInt32 = (-3) := by decide
theorem cb_m2 : (Int8.ofInt (-2)).toInt32 = (-2) := by decide
theorem cb_6 : (Int8.ofInt 6).toInt32 = (nI 6) := by decide
theorem cb_7 : (Int8.ofInt 7).toInt32 = (nI 7) := by decide
theorem cb_8 : (Int8.ofInt 8).toInt32 = (nI 8) := by decide
theorem cb_9 : (Int8.ofInt 9).toInt32 = (nI 9) := by decide
theorem cb_10 : (Int8.ofInt 10).toInt32 = (nI 10) := by decide
theorem cb_12 : (Int8.ofInt 12).toInt32 = (nI 12) := by decide
theorem cb_16 : (Int8.ofInt 16).toInt32 = (nI 16) := by decide
theorem cb_17 : (Int8.ofInt 17).toInt32 = (nI 17) := by decide
theorem cb_24 : (Int8.ofInt 24).toInt32 = (nI 24) := by decide
theorem cb_31 : (Int8.ofInt 31).toInt32 = (nI 31) := by decide
theorem cb_32 : (Int8.ofInt 32).toInt32 = (nI 32) := by decide
theorem cb_33 : (Int8.ofInt 33).toInt32 = (nI 33) := by decide
theorem cb_36 : (Int8.ofInt 36).toInt32 = (nI 36) := by decide
theorem cb_39 : (Int8.ofInt 39).toInt32 = (nI 39) := by decide
theorem cb_48 : (Int8.ofInt 48).toInt32 = (nI 48) := by decide
theorem cb_54 : (Int8.ofInt 54).toInt32 = (nI 54) := by decide
theorem cb_57 : (Int8.ofInt 57).toInt32 = (nI 57) := by decide
theorem cb_59 : (Int8.ofInt 59).toInt32 = (nI 59) := by decide
theorem cb_64 : (Int8.ofInt 64).toInt32 = (nI 64) := by decide
theorem cb_93 : (Int8.ofInt 93).toInt32 = (nI 93) := by decide
theorem cb_94 : (Int8.ofInt 94).toInt32 = (nI 94) := by decide
theorem cb_97 : (Int8.ofInt 97).toInt32 = (nI 97) := by decide
theorem cb_98 : (Int8.ofInt 98).toInt32 = (nI 98) := by decide
theorem cb_99 : (Int8.ofInt 99).toInt32 = (nI 99) := by decide
theorem cb_100 : (Int8.ofInt 100).toInt32 = (nI 100) := by decide
theorem cb_101 : (Int8.ofInt 101).toInt32 = (nI 101) := by decide
theorem cb_105 : (Int8.ofInt 105).toInt32 = (nI 105) := by decide
theorem cb_108 : (Int8.ofInt 108).toInt32 = (nI 108) := by decide
theorem cb_111 : (Int8.ofInt 111).toInt32 = (nI 111) := by decide
theorem cb_112 : (Int8.ofInt 112).toInt32 = (nI 112) := by decide
theorem cb_114 : (Int8.ofInt 114).toInt32 = (nI 114) := by decide
theorem cb_115 : (Int8.ofInt 115).toInt32 = (nI 115) := by decide
theorem cb_122 : (Int8.ofInt 122).toInt32 = (nI 122) := by decide
theorem ci_m1 : Int32.ofInt (-1) = (-1) := by decide
theorem ci_0 : Int32.ofInt 0 = (nI 0) := by decide
theorem ci_1 : Int32.ofInt 1 = (nI 1) := by decide
theorem ci_2 : Int32.ofInt 2 = (nI 2) := by decide
theorem ci_3 : Int32.ofInt 3 = (nI 3) := by decide
theorem ci_4 : Int32.ofInt 4 = (nI 4) := by decide
theorem ci_5 : Int32.ofInt 5 = (nI 5) := by decide
theorem ci_7 : Int32.ofInt 7 = (nI 7) := by decide
theorem cs_134 : (Int16.ofInt 134).toInt32 = (nI 134) := by decide
theorem cs_255 : (Int16.ofInt 255).toInt32 = (nI 255) := by decide
theorem cs_268 : (Int16.ofInt 268).toInt32 = (nI 268) := by decide
theorem cs_300 : (Int16.ofInt 300).toInt32 = (nI 300) := by decide
theorem cs_999 : (Int16.ofInt 999).toInt32 = (nI 999) := by decide
theorem cs_1000 : (Int16.ofInt 1000).toInt32 = (nI 1000) := by decide
theorem cs_8000 : (Int16.ofInt 8000).toInt32 = (nI 8000) := by decide
