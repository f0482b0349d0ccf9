/-! the law's start -/
def st_fl : List Cond := flatC (Jvm.Cond.and given_1 narrow_1)
def st_rd (j : Nat) : Term := .string "SwingCity$Reader" ([89, 95, 97, 99].getD j 0)
theorem st_el1 : ∀ j, j < 6 → Cond.eq (.elem (.static "SwingCity" "KIND_MARK" "[I") (.int (Int32.ofNat j))) (.int (am_kind.getD j 0)) ∈ st_fl := by decide +kernel
theorem st_el2 : ∀ j, j < 4 → Cond.eq (.elem (.static "SwingCity$Reader" "NUMBERS" "[I") (.int (Int32.ofNat j))) (.int (am_nums.getD j 0)) ∈ st_fl := by decide +kernel
theorem st_el3 : ∀ j, j < 16 → Cond.eq (.elem (.static "SwingCity$Reader" "LEAST" "[I") (.int (Int32.ofNat j))) (.int (am_least.getD j 0)) ∈ st_fl := by decide +kernel
theorem st_el4 : ∀ j, j < 16 → Cond.eq (.elem (.static "SwingCity$Reader" "MOST" "[I") (.int (Int32.ofNat j))) (.int (am_most.getD j 0)) ∈ st_fl := by decide +kernel
theorem st_len : ∀ q ∈ ([("SwingCity", "KIND_MARK", 6), ("SwingCity$Reader", "NUMBERS", 4), ("SwingCity$Reader", "LEAST", 16), ("SwingCity$Reader", "MOST", 16)] : List (String × String × Nat)), Cond.eq (.length (.static q.1 q.2.1 "[I")) (.int (Int32.ofNat q.2.2)) ∈ st_fl ∧ Cond.arrayOf (.static q.1 q.2.1 "[I") .int ∈ st_fl := by decide +kernel
theorem st_str : ∀ i, i < 4 → Cond.exactly (st_rd i) "java/lang/String" ∈ st_fl ∧ Cond.eq (.field (st_rd i) "java/lang/String" "coder" "B") (.int 0) ∈ st_fl ∧ Cond.arrayOf (.field (st_rd i) "java/lang/String" "value" "[B") .byte ∈ st_fl ∧ Cond.eq (.length (.field (st_rd i) "java/lang/String" "value" "[B")) (.int (Int32.ofNat ([5, 4, 4, 5].getD i 0))) ∈ st_fl := by decide +kernel
theorem st_sel : ∀ i, i < 4 → ∀ j, j < [5, 4, 4, 5].getD i 0 → Cond.eq (.elem (.field (st_rd i) "java/lang/String" "value" "[B") (.int (Int32.ofNat j))) (.int ((am_tx.getD i []).getD j 0)) ∈ st_fl := by decide +kernel
theorem st_ne : ∀ i, i < 4 → ∀ j, j < 4 → i ≠ j → Cond.not (Cond.eq (st_rd i) (st_rd j)) ∈ st_fl ∨ Cond.not (Cond.eq (st_rd j) (st_rd i)) ∈ st_fl := by decide +kernel
theorem st_cs : Cond.eq (.static "java/lang/String" "COMPACT_STRINGS" "Z") (.int 1) ∈ st_fl := by decide +kernel
theorem st_fm : Cond.isRef (.static "jdk/internal/util/Preconditions" "SIOOBE_FORMATTER" "Ljava/util/function/BiFunction;") ∈ st_fl := by decide +kernel
set_option maxHeartbeats 4000000 in
theorem st_G {s : State} {b L : Nat} {xs : Nat → Int32} (hL : L ≤ 3584) (hts : ∀ w ∈ lw_tbl, w.before #[Value.ref b] s = true) (hX : va_X b L xs s s.heap) (hbl : b < s.heap.size) (hgv : (Jvm.Cond.and given_1 narrow_1).before #[Value.ref b] s = true) :
    ∃ (D : va_G) (dA : Nat → ClassId) (ad : Nat → Nat) (fv : Value), am_G D dA ad fv s.heap.size (L, xs) s s.heap ∧ ad 0 = b := by
  have hs : ∀ c ∈ st_fl, c.before #[Value.ref b] s = true := flat_of_before _ hgv
  have hA : ∀ a : Nat, a < s.heap.size → ¬ s.heap.size ≤ a := fun a h => Nat.not_le.mpr h
  have hg : ∀ w ∈ lw_good, w.before #[Value.ref b] s = true := fun w h => hts w (List.mem_filter.mp h).1
  -- classes
  have hkn : ∀ (c : Nat), ∃ z : ClassId × (Nat → Nat), ∀ q : vw_C, vwCl[c]? = some q → u_Kn s q.1 q.2.1 q.2.2 z.1 z.2 := by
    intro c
    have hi : ∀ q : vw_C, vwCl[c]? = some q → (Cond.instantiable q.1 q.2.2).before #[Value.ref b] s = true := by
      intro q hq
      match c, hq with
      | 0, h => cases h; exact hts _ st_k0
      | 1, h => cases h; exact hts _ st_k1
      | 2, h => cases h; exact hts _ st_k2
      | 3, h => cases h; exact hts _ st_k3
      | 4, h => cases h; exact hts _ st_k4
      | 5, h => cases h; exact hts _ st_k5
      | 6, h => cases h; exact hts _ st_k6
      | 7, h => cases h; exact hts _ st_k7
      | 8, h => cases h; exact hts _ st_k8
      | n + 9, h => cases h
    cases hq : vwCl[c]? with
    | none => exact ⟨(0, fun _ => 0), fun q h => by cases h⟩
    | some q =>
      obtain ⟨cC, iS, hk⟩ := u_known hg (vwCl_in q (List.mem_of_getElem? hq)) (hi q hq)
      exact ⟨(cC, iS), fun q' h => by cases h; exact hk⟩
  obtain ⟨Dz, hDz⟩ := Classical.axiomOfChoice hkn
  -- rows
  have harr : ∀ ty, Cond.arrayClass ty ∈ lw_tbl → (∀ n, ty ≠ .object n) → ∃ cA, ArrOfT s cA ty ∧ va_RA s cA ty := by
    intro ty h hno
    obtain ⟨cA, kA, comp, h1, h2, h3⟩ := Cond.arrayClass_spec (hts _ h)
    refine ⟨cA, fun n z => ⟨fun k h => (by cases h), kA, h2, comp, h3⟩, ?_⟩
    cases ty with
    | object n => exact absurd rfl (hno n)
    | _ => exact h1
  obtain ⟨cI, hI⟩ := harr .int (List.mem_filter.mp (ck_all_of ac_w _ List.mem_cons_self)).1 (fun n h => by cases h)
  obtain ⟨cZ, hZ⟩ := harr .boolean (List.mem_filter.mp (ck_all_of ac_w _ (List.mem_cons_of_mem _ List.mem_cons_self))).1 (fun n h => by cases h)
  have hO : ∃ cA, ArrOfT s cA (.object "SwingCity$Now") ∧ va_RA s cA (.object "SwingCity$Now") := by
    obtain ⟨comp, cA, kA, h1, -, h3, h4, h5⟩ := Cond.arrayOver_spec (hts _ st_ao)
    exact ⟨cA, fun n z => ⟨fun k h => (by cases h), kA, h3, comp, h4⟩, kA, comp, h3, h4, h1, h5⟩
  obtain ⟨cO, hO⟩ := hO
  -- statics
  have tab : ∀ (C n : String) (N : Nat) (l : List Int32), N < 2 ^ 31 → Cond.eq (.length (.static C n "[I")) (.int (Int32.ofNat N)) ∈ st_fl ∧ Cond.arrayOf (.static C n "[I") .int ∈ st_fl → (∀ j, j < N → Cond.eq (.elem (.static C n "[I") (.int (Int32.ofNat j))) (.int (l.getD j 0)) ∈ st_fl) → Cond.laysStatic C n "[I" ∈ lw_tbl → Cond.initialized C ∈ lw_tbl →
      ∃ t : Nat, va_Z C n "[I" (.ref t) (fun a => s.heap.size ≤ a) s s.heap ∧ va_T .int t N (fun j => .int (l.getD j 0)) (fun a => s.heap.size ≤ a) s s.heap := by
    intro C n N l hN h1 h2 h3 h4
    obtain ⟨t, e1, e2⟩ := va_Tof (f := fun j => .int (l.getD j 0)) (A := fun a => s.heap.size ≤ a) hN (hs _ h1.2) (va_eqt (hs _ h1.1)) (fun j hj => va_eqt (hs _ (h2 j hj))) hA
    exact ⟨t, va_Zof (hts _ h3) (hts _ h4) e1 hA, e2⟩
  obtain ⟨t1, z1, T1⟩ := tab "SwingCity" "KIND_MARK" 6 am_kind (by decide) (st_len _ (List.mem_of_getElem? (i := 0) rfl)) st_el1 st_z0 st_i0
  obtain ⟨t2, z2, T2⟩ := tab "SwingCity$Reader" "NUMBERS" 4 am_nums (by decide) (st_len _ (List.mem_of_getElem? (i := 1) rfl)) st_el2 st_z1 st_i1
  obtain ⟨t3, z3, T3⟩ := tab "SwingCity$Reader" "LEAST" 16 am_least (by decide) (st_len _ (List.mem_of_getElem? (i := 2) rfl)) st_el3 st_z2 st_i2
  obtain ⟨t4, z4, T4⟩ := tab "SwingCity$Reader" "MOST" 16 am_most (by decide) (st_len _ (List.mem_of_getElem? (i := 3) rfl)) st_el4 st_z3 st_i3
  have z5 : va_Z "java/lang/String" "COMPACT_STRINGS" "Z" (.int 1) (fun a => s.heap.size ≤ a) s s.heap := va_Zof (hts _ st_z4) (hts _ st_i4) (va_eqi (hs _ st_cs)) hA
  have z6 : ∃ fv, (fv = .null ∨ ∃ a, fv = .ref a) ∧ va_Z "jdk/internal/util/Preconditions" "SIOOBE_FORMATTER" "Ljava/util/function/BiFunction;" fv (fun a => s.heap.size ≤ a) s s.heap := by
    rcases va_Zqof (A := fun a => s.heap.size ≤ a) (hts _ st_z5) (hts _ st_i5) (hs _ st_fm) hA with h | ⟨t, h⟩
    · exact ⟨_, Or.inl rfl, h⟩
    · exact ⟨_, Or.inr ⟨t, rfl⟩, h⟩
  obtain ⟨fv, hfv, z6⟩ := z6
  -- texts
  obtain ⟨adK, adV, hS, hE⟩ := vk_Sof (s := s) (args := #[Value.ref b]) (N := 4) (tm := st_rd) (len := [5, 4, 4, 5]) (byt := am_tx) (A := fun a => s.heap.size ≤ a) (by decide) (fun i hi => hs _ (st_str i hi).1) (fun i hi => hs _ (st_str i hi).2.1) (fun i hi => hs _ (st_str i hi).2.2.1) (fun i hi => hs _ (st_str i hi).2.2.2) (fun i hi j hj => hs _ (st_sel i hi j hj)) (fun i j hi hj hij => (st_ne i hi j hj hij).imp (hs _) (hs _)) hA
  refine ⟨(fun c => (Dz c).1, fun c => (Dz c).2), fun t => [cI, cZ, cO].getD t 0, fun j => [b, t1, t2, t3, t4, adV 0, adV 1, adV 2, adV 3, 0, adK 0, adK 1, adK 2, adK 3].getD j 0, fv, ⟨⟨fun c q hq => hDz c q hq, fun k q hk => ?_⟩, ?_, va_AO.of (hts _ st_ao), ?_, ?_, ?_, ?_, hfv⟩, rfl⟩
  · match k, hk with
    | 0, h => cases h; exact hI
    | 1, h => cases h; exact hZ
    | 2, h => cases h; exact hO
    | n + 3, h => cases h
  · intro q hq
    refine va_Nw.of rfl (A := #[Value.ref b]) (hts _ ?_)
    simp only [am_nest, List.mem_cons, List.not_mem_nil, or_false] at hq
    rcases hq with rfl | rfl | rfl | rfl | rfl | rfl
    · exact st_n0
    · exact st_n1
    · exact st_n2
    · exact st_n3
    · exact st_n4
    · exact st_n5
  · intro q hq
    simp only [am_rs, List.mem_cons, List.not_mem_nil, or_false] at hq
    rcases hq with rfl | rfl | rfl | rfl
    · exact vk_R.of (hts _ st_s0) (hE 0 (by decide))
    · exact vk_R.of (hts _ st_s1) (hE 1 (by decide))
    · exact vk_R.of (hts _ st_s2) (hE 2 (by decide))
    · exact vk_R.of (hts _ st_s3) (hE 3 (by decide))
  · intro q hq
    simp only [am_zs, List.mem_cons, List.not_mem_nil, or_false] at hq
    rcases hq with rfl | rfl | rfl | rfl | rfl | rfl
    · exact z1
    · exact z2
    · exact z3
    · exact z4
    · exact z5
    · exact z6
  · intro j q hj
    match j, hj with
    | 0, h =>
      cases h
      obtain ⟨scr, h1, h2, h3, h4, h5⟩ := hX
      exact ⟨scr, h1, h2, h3, by rw [h4]; exact Nat.le_refl _, by rw [h4], fun j hj => h5 j hj, hA b hbl⟩
    | 1, h => cases h; exact T1
    | 2, h => cases h; exact T2
    | 3, h => cases h; exact T3
    | 4, h => cases h; exact T4
    | 5, h => cases h; exact (hS.1 0 (by decide)).2.2.2
    | 6, h => cases h; exact (hS.1 1 (by decide)).2.2.2
    | 7, h => cases h; exact (hS.1 2 (by decide)).2.2.2
    | 8, h => cases h; exact (hS.1 3 (by decide)).2.2.2
    | n + 9, h => cases h
  · intro j hj
    match j, hj with
    | 0, _ => exact ⟨(hS.1 0 (by decide)).1, (hS.1 0 (by decide)).2.1, (hS.1 0 (by decide)).2.2.1⟩
    | 1, _ => exact ⟨(hS.1 1 (by decide)).1, (hS.1 1 (by decide)).2.1, (hS.1 1 (by decide)).2.2.1⟩
    | 2, _ => exact ⟨(hS.1 2 (by decide)).1, (hS.1 2 (by decide)).2.1, (hS.1 2 (by decide)).2.2.1⟩
    | 3, _ => exact ⟨(hS.1 3 (by decide)).1, (hS.1 3 (by decide)).2.1, (hS.1 3 (by decide)).2.2.1⟩
    | n + 4, h => omega
