/-! the reference's doors, ropes, rides -/
def StM (A : Nat → Nat → Int32) (nS nR : Nat) (h g : Nat → Nat) : Prop :=
  (∀ k, k < nS → A 1 k = nI (h (k * 2)) ∧ A 2 k = nI (h (k * 2 + 1))) ∧ (∀ k, k < nR → A 3 (4 * k) = nI (g (k * 5)) ∧ A 3 (4 * k + 1) = nI (g (k * 5 + 1)) ∧ A 5 (16 + k) = nI (g (k * 5 + 3))) ∧ DoorOK h nS ∧ RopeOK g nR nS
def offN (st be t : Nat) : Nat := (((t : Int) - (st : Int)) % ((2 * be : Nat) : Int)).toNat
def thB (g : Nat → Nat) (k be s t : Nat) : Bool := decide ((g (k * 5) = s ∧ offN (g (k * 5 + 3)) be t = 0) ∨ (g (k * 5 + 1) = s ∧ offN (g (k * 5 + 3)) be t = be))
/-- a remainder made positive -/
theorem irem_adj (a : Int32) {m : Nat} (h0 : 0 < m) (hm : m < 1000) : (a % nI m < 0 → a % nI m + nI m = nI (a.toInt % (m : Int)).toNat) ∧ (¬ a % nI m < 0 → a % nI m = nI (a.toInt % (m : Int)).toNat) := by
  have hmT : (nI m).toInt = (m : Int) := nI_toInt (by omega)
  have hr : (a % nI m).toInt = a.toInt.tmod (m : Int) := by rw [Int32.toInt_mod, hmT]
  have hb := tmod_bounds (a := a.toInt) (M := (m : Int)) (by omega)
  have hmod0 : 0 ≤ a.toInt % (m : Int) := Int.emod_nonneg _ (by omega)
  have hmod1 : a.toInt % (m : Int) < m := Int.emod_lt_of_pos _ (by omega)
  have hnn : (nI (a.toInt % (m : Int)).toNat).toInt = a.toInt % (m : Int) := by
    rw [nI_toInt (by omega)]; omega
  have hd1 := Int.mul_tdiv_add_tmod a.toInt (m : Int)
  have hd2 := Int.mul_ediv_add_emod a.toInt (m : Int)
  have hq : (m : Int) * (a.toInt.tdiv m - a.toInt / m) = a.toInt % m - a.toInt.tmod m := by rw [Int.mul_sub]; omega
  have hdiff : ∀ z : Int, (m : Int) * z < m * 2 → (m : Int) * (-1) < m * z → z = 0 ∨ z = 1 := fun z h1 h2 => by
    have := Int.lt_of_mul_lt_mul_left h1 (by omega)
    have := Int.lt_of_mul_lt_mul_left h2 (by omega)
    omega
  have h01 := hdiff _ (by rw [hq]; omega) (by rw [hq]; omega)
  have hneg : (a % nI m < 0) = (a.toInt.tmod (m : Int) < 0) := by rw [Int32.lt_iff_toInt_lt, hr]; rfl
  rw [hneg]
  constructor
  · intro hn
    apply toInt_inj'
    rw [hnn, Int32.toInt_add, hr, hmT]
    have hbm : (a.toInt.tmod (m : Int) + m).bmod (2 ^ 32) = a.toInt.tmod (m : Int) + m := by
      rw [Int.bmod_eq_of_le] <;> omega
    rw [hbm]
    rcases h01 with q | q <;> rw [q] at hq <;> omega
  · intro hn
    apply toInt_inj'
    rw [hnn, hr]
    rcases h01 with q | q <;> rw [q] at hq <;> omega
/-- whether a rope is there, by what is left over -/
theorem th_iff {g : Nat → Nat} {k be s : Nat} (h1 : 1 ≤ be) (hne : g (k * 5) ≠ g (k * 5 + 1)) (hh : g (k * 5) = s ∨ g (k * 5 + 1) = s) (t : Nat) : thB g k be s t = decide (((t : Int) - (((g (k * 5 + 3) + (if g (k * 5) = s then 0 else be) : Nat) : Int))) % ((2 * be : Nat) : Int) = 0) := by
  unfold thB offN
  have e0 := Int.emod_nonneg ((t : Int) - (g (k * 5 + 3) : Int)) (b := ((2 * be : Nat) : Int)) (by omega)
  have e1 := Int.emod_lt_of_pos ((t : Int) - (g (k * 5 + 3) : Int)) (b := ((2 * be : Nat) : Int)) (by omega)
  by_cases q : g (k * 5) = s
  · have q2 : ¬ g (k * 5 + 1) = s := fun e => hne (q.trans e.symm)
    simp only [q, q2, true_and, false_and, or_false, if_true, Nat.add_zero]
    apply decide_eq_decide.mpr
    omega
  · have q2 : g (k * 5 + 1) = s := hh.resolve_left q
    simp only [q, q2, true_and, false_and, false_or, if_false]
    apply decide_eq_decide.mpr
    have key : ((t : Int) - ((g (k * 5 + 3) + be : Nat) : Int)) % ((2 * be : Nat) : Int) = (((t : Int) - (g (k * 5 + 3) : Int)) % ((2 * be : Nat) : Int) - (be : Int)) % ((2 * be : Nat) : Int) := by
      rw [Int.emod_sub_emod]
      congr 1
      omega
    rw [key]
    constructor
    · intro h
      have : ((t : Int) - (g (k * 5 + 3) : Int)) % ((2 * be : Nat) : Int) - (be : Int) = 0 := by omega
      rw [this]
      rfl
    · intro h
      obtain ⟨c, hc⟩ := Int.dvd_of_emod_eq_zero h
      have hc0 : c = 0 := by
        have a1 : ((2 * be : Nat) : Int) * c < ((2 * be : Nat) : Int) * 1 := by omega
        have a2 : ((2 * be : Nat) : Int) * (-1) < ((2 * be : Nat) : Int) * c := by omega
        have := Int.lt_of_mul_lt_mul_left a1 (by omega)
        have := Int.lt_of_mul_lt_mul_left a2 (by omega)
        omega
      rw [hc0] at hc
      omega
/-- the first minute in which a rope is there: there it is, and ahead of it not -/
theorem fat_th {g : Nat → Nat} {k s t : Nat} (h1 : 1 ≤ g (k * 5 + 2)) (hne : g (k * 5) ≠ g (k * 5 + 1)) (hh : g (k * 5) = s ∨ g (k * 5 + 1) = s) : thB g k (g (k * 5 + 2)) s (fat g k s t) = true ∧ ∀ t', t ≤ t' → t' < fat g k s t → thB g k (g (k * 5 + 2)) s t' = false := by
  unfold fat
  generalize hc : ((g (k * 5 + 3) + (if g (k * 5) = s then 0 else g (k * 5 + 2)) : Nat) : Int) = c
  generalize hm : ((2 * g (k * 5 + 2) : Nat) : Int) = m
  have hm0 : 0 < m := by omega
  have e0 := Int.emod_nonneg (c - (t : Int)) (b := m) (by omega)
  have e1 := Int.emod_lt_of_pos (c - (t : Int)) (b := m) hm0
  constructor
  · rw [th_iff h1 hne hh, hc, hm]
    apply decide_eq_true
    have : (((t + ((c - (t : Int)) % m).toNat : Nat) : Int) - c) = ((c - (t : Int)) % m) - (c - (t : Int)) := by omega
    rw [this, Int.emod_sub_emod, Int.sub_self]
    rfl
  · intro t' h2 h3
    rw [th_iff h1 hne hh, hc, hm]
    apply decide_eq_false
    intro h
    have a1 : (c - (t : Int)) % m = ((t' : Int) - t) % m := by
      have := Int.emod_eq_emod_iff_emod_sub_eq_zero.mpr h
      have : ((t' : Int) - t) % m = (c - t) % m := by
        apply Int.emod_eq_emod_iff_emod_sub_eq_zero.mpr
        rw [show (t' : Int) - t - (c - t) = t' - c by omega]
        exact h
      exact this.symm
    have a2 : ((t' : Int) - t) % m = (t' : Int) - t := Int.emod_eq_of_lt (by omega) (by omega)
    omega
def r4 (a : Nat → Int32) (x y z f : Int32) : Nat → Int32 := fun j => if j = 24 then x else if j = 25 then y else if j = 26 then z else if j = 27 then f else a j
theorem r4_n (a : Nat → Int32) (x y z f : Int32) {j : Nat} (h : (Nat.ble 24 j && Nat.ble j 27) = false) : r4 a x y z f j = a j := by
  have h' : ¬ (24 ≤ j ∧ j ≤ 27) := fun q => by
    rw [Nat.ble_eq_true_of_le q.1, Nat.ble_eq_true_of_le q.2] at h
    cases h
  unfold r4
  rw [if_neg (by omega), if_neg (by omega), if_neg (by omega), if_neg (by omega)]
theorem r4_24 (a : Nat → Int32) (x y z f : Int32) : r4 a x y z f 24 = x := rfl
theorem r4_25 (a : Nat → Int32) (x y z f : Int32) : r4 a x y z f 25 = y := rfl
theorem r4_26 (a : Nat → Int32) (x y z f : Int32) : r4 a x y z f 26 = z := rfl
theorem r4_27 (a : Nat → Int32) (x y z f : Int32) : r4 a x y z f 27 = f := rfl
theorem r4_u24 (a : Nat → Int32) (x y z f v : Int32) : fu (r4 a x y z f) 24 v = r4 a v y z f := by
  funext j; unfold fu r4; by_cases h : j = 24 <;> simp [h]
theorem r4_u25 (a : Nat → Int32) (x y z f v : Int32) : fu (r4 a x y z f) 25 v = r4 a x v z f := by
  funext j; unfold fu r4; by_cases h : j = 25 <;> simp [h]
theorem r4_u26 (a : Nat → Int32) (x y z f v : Int32) : fu (r4 a x y z f) 26 v = r4 a x y v f := by
  funext j; unfold fu r4; by_cases h : j = 26 <;> simp [h]
theorem r4_u27 (a : Nat → Int32) (x y z f v : Int32) : fu (r4 a x y z f) 27 v = r4 a x y z v := by
  funext j; unfold fu r4; by_cases h : j = 27 <;> simp [h]
theorem r4_i24 (a : Nat → Int32) (v : Int32) : fu a 24 v = r4 a v (a 25) (a 26) (a 27) := by
  funext j; unfold fu r4
  by_cases h : j = 24
  · simp [h]
  · by_cases h2 : j = 25
    · simp [h2]
    · by_cases h3 : j = 26
      · simp [h3]
      · by_cases h4 : j = 27 <;> simp [h, h2, h3, h4]
section MRIDE
variable {X : am_X} {d : Nat} {Q : am_Q} {u : am_W} {tr : Int64} {a : Nat → Int32} {A : Nat → Nat → Int32} {nS nR : Nat} {h g : Nat → Nat}
theorem m_isOpen (H : 69 ≤ u.length) (S : StM A nS nR h g) {s t : Nat} (hs : s < nS) (ht : t < 2 ^ 30) : Cl X (d + 1) 107 [.ref 57, .int (nI s), .int (nI t)] (mw u tr a A) Q = Q (some (.int (nI (if opnB h s t then 1 else 0)))) (mw u tr a A) := by
  obtain ⟨hd1, hd8, hd⟩ := S.2.2.1
  obtain ⟨h1, h2, h3, h4⟩ := hd s hs
  obtain ⟨d1, d2⟩ := S.1 s hs
  have hlt : t % h (s * 2) < 2 ^ 31 := Nat.lt_of_le_of_lt (Nat.mod_le _ _) (by omega)
  rw [e107]
  simp only [s107_0, s107_1, s107_2, s107_5, s107_6, s107_7, s107_8, s107_9, s107_12, s107_13, s107_14, s107_17, s107_18, s107_21, s107_22, OpV_some, OpN_some, OpA_some, OpR_some, Option.toList_some, Option.toList_none, List.cons_append, List.nil_append, true_and, and_true, nI11, or_true, true_or, or_false, false_or, mI0 H, mP0 H, mI3 H, mP3 H, mI4 H, mP4 H, mI5 H, mP5 H, mI6 H, mP6 H, mI7 H, mP7 H, mI8 H, mP8 H, mI9 H, mP9 H, mI10 H, mP10 H, mI11 H, mP11 H, mI12 H, mP12 H, mI13 H, mP13 H, mI14 H, mP14 H, mI23 H, mP23 H, mI24 H, mP24 H, mI25 H, mP25 H, mI26 H, mP26 H, mI27 H, mP27 H, mI30 H, mP30 H, mI31 H, mP31 H, mI1 H, mP1 H, mR2 H, mR15 H, mR16 H, mR17 H, mR18 H, mR19 H, mR20 H, mR21 H, mR22 H, mR28 H, mR29 H, mA0 H, mS0 H, mA1 H, mS1 H, mA2 H, mS2 H, mA3 H, mS3 H, mA4 H, mS4 H, mA5 H, mS5 H, mA6 H, mS6 H, mA7 H, mS7 H, mA8 H, mS8 H, mA9 H, mS9 H, mA10 H, mS10 H, mw_cl H, fu_s, fu_n, ua_s, ua_n, Nat.reduceBEq, lt57, lt58, lt59, lt60, lt61, lt62, lt63, lt64, lt65, lt66, lt67, lt68, in_nI (show s < 16 by omega) (show 16 < 2 ^ 31 by decide), cl_nI (show s < 2 ^ 31 by omega), d1, d2, nI_eq0 (show h (s * 2) < 2 ^ 31 by omega), show ¬ h (s * 2) = 0 by omega, not_false_eq_true, nI_mod (show t < 2 ^ 31 by omega) (show 0 < h (s * 2) by omega) (show h (s * 2) < 2 ^ 31 by omega), nI_ltN hlt (show h (s * 2 + 1) < 2 ^ 31 by omega), b01_0, b01_1]
  unfold opnB
  by_cases q : t % h (s * 2) < h (s * 2 + 1) <;> simp [q]
theorem m_hangs (H : 69 ≤ u.length) (S : StM A nS nR h g) {k s : Nat} (hk : k < nR) (hs : s < 2 ^ 30) : Cl X (d + 1) 110 [.ref 57, .int (nI k), .int (nI s)] (mw u tr a A) Q = Q (some (.int (nI (if g (k * 5) = s ∨ g (k * 5 + 1) = s then 1 else 0)))) (mw u tr a A) := by
  obtain ⟨hn, hr⟩ := S.2.2.2
  obtain ⟨hs1, hs2, -⟩ := S.2.2.1
  obtain ⟨h1, h2, h3, h4, h5, h6, h7⟩ := hr k hk
  obtain ⟨d0, d1, d3⟩ := S.2.1 k hk
  rw [e110]
  simp only [s110_0, s110_1, s110_4, s110_5, s110_6, s110_7, s110_8, s110_9, s110_12, s110_13, s110_16, s110_17, s110_18, s110_19, s110_20, s110_21, s110_22, s110_23, s110_26, s110_27, s110_30, s110_31, OpV_some, OpN_some, OpA_some, OpR_some, Option.toList_some, Option.toList_none, List.cons_append, List.nil_append, true_and, and_true, nI11, or_true, true_or, or_false, false_or, mI0 H, mP0 H, mI3 H, mP3 H, mI4 H, mP4 H, mI5 H, mP5 H, mI6 H, mP6 H, mI7 H, mP7 H, mI8 H, mP8 H, mI9 H, mP9 H, mI10 H, mP10 H, mI11 H, mP11 H, mI12 H, mP12 H, mI13 H, mP13 H, mI14 H, mP14 H, mI23 H, mP23 H, mI24 H, mP24 H, mI25 H, mP25 H, mI26 H, mP26 H, mI27 H, mP27 H, mI30 H, mP30 H, mI31 H, mP31 H, mI1 H, mP1 H, mR2 H, mR15 H, mR16 H, mR17 H, mR18 H, mR19 H, mR20 H, mR21 H, mR22 H, mR28 H, mR29 H, mA0 H, mS0 H, mA1 H, mS1 H, mA2 H, mS2 H, mA3 H, mS3 H, mA4 H, mS4 H, mA5 H, mS5 H, mA6 H, mS6 H, mA7 H, mS7 H, mA8 H, mS8 H, mA9 H, mS9 H, mA10 H, mS10 H, mw_cl H, fu_s, fu_n, ua_s, ua_n, Nat.reduceBEq, lt57, lt58, lt59, lt60, lt61, lt62, lt63, lt64, lt65, lt66, lt67, lt68, pk_mul, nI_add, in_nI (show 4 * k < 64 by omega) (show 64 < 2 ^ 31 by decide), cl_nI (show 4 * k < 2 ^ 31 by omega), in_nI (show 4 * k + 1 < 64 by omega) (show 64 < 2 ^ 31 by decide), cl_nI (show 4 * k + 1 < 2 ^ 31 by omega), d0, d1, nI_eqN (show g (k * 5) < 2 ^ 31 by omega) (show s < 2 ^ 31 by omega), nI_eqN (show g (k * 5 + 1) < 2 ^ 31 by omega) (show s < 2 ^ 31 by omega), b01_0, b01_1]
  by_cases q1 : g (k * 5) = s <;> by_cases q2 : g (k * 5 + 1) = s <;> simp only [q1, q2, if_true, if_false, or_true, true_or, or_false, or_self]
theorem m_across (H : 69 ≤ u.length) (S : StM A nS nR h g) {k s : Nat} (hk : k < nR) (hs : s < 2 ^ 30) : Cl X (d + 1) 111 [.ref 57, .int (nI k), .int (nI s)] (mw u tr a A) Q = Q (some (.int (nI (oth g k s)))) (mw u tr a A) := by
  obtain ⟨hn, hr⟩ := S.2.2.2
  obtain ⟨hs1, hs2, -⟩ := S.2.2.1
  obtain ⟨h1, h2, h3, h4, h5, h6, h7⟩ := hr k hk
  obtain ⟨d0, d1, d3⟩ := S.2.1 k hk
  rw [e111]
  simp only [s111_0, s111_1, s111_4, s111_5, s111_6, s111_7, s111_8, s111_9, s111_12, s111_13, s111_16, s111_17, s111_18, s111_19, s111_20, s111_21, s111_22, s111_25, s111_26, s111_29, s111_30, s111_31, s111_32, s111_33, OpV_some, OpN_some, OpA_some, OpR_some, Option.toList_some, Option.toList_none, List.cons_append, List.nil_append, true_and, and_true, nI11, or_true, true_or, or_false, false_or, mI0 H, mP0 H, mI3 H, mP3 H, mI4 H, mP4 H, mI5 H, mP5 H, mI6 H, mP6 H, mI7 H, mP7 H, mI8 H, mP8 H, mI9 H, mP9 H, mI10 H, mP10 H, mI11 H, mP11 H, mI12 H, mP12 H, mI13 H, mP13 H, mI14 H, mP14 H, mI23 H, mP23 H, mI24 H, mP24 H, mI25 H, mP25 H, mI26 H, mP26 H, mI27 H, mP27 H, mI30 H, mP30 H, mI31 H, mP31 H, mI1 H, mP1 H, mR2 H, mR15 H, mR16 H, mR17 H, mR18 H, mR19 H, mR20 H, mR21 H, mR22 H, mR28 H, mR29 H, mA0 H, mS0 H, mA1 H, mS1 H, mA2 H, mS2 H, mA3 H, mS3 H, mA4 H, mS4 H, mA5 H, mS5 H, mA6 H, mS6 H, mA7 H, mS7 H, mA8 H, mS8 H, mA9 H, mS9 H, mA10 H, mS10 H, mw_cl H, fu_s, fu_n, ua_s, ua_n, Nat.reduceBEq, lt57, lt58, lt59, lt60, lt61, lt62, lt63, lt64, lt65, lt66, lt67, lt68, pk_mul, nI_add, in_nI (show 4 * k < 64 by omega) (show 64 < 2 ^ 31 by decide), cl_nI (show 4 * k < 2 ^ 31 by omega), in_nI (show 4 * k + 1 < 64 by omega) (show 64 < 2 ^ 31 by decide), cl_nI (show 4 * k + 1 < 2 ^ 31 by omega), d0, d1, nI_eqN (show g (k * 5) < 2 ^ 31 by omega) (show s < 2 ^ 31 by omega)]
  unfold oth
  by_cases q1 : g (k * 5) = s <;> simp only [q1, if_true, if_false]
theorem m_isThere (H : 69 ≤ u.length) (S : StM A nS nR h g) {k be s t : Nat} (hk : k < nR) (hb1 : 1 ≤ be) (hb : be ≤ 11) (hs : s < 2 ^ 30) (ht : t < 2 ^ 29) : Cl X (d + 1) 109 [.ref 57, .int (nI k), .int (nI be), .int (nI s), .int (nI t)] (mw u tr a A) Q = Q (some (.int (nI (if thB g k be s t = true then 1 else 0)))) (mw u tr a A) := by
  obtain ⟨hn, hr⟩ := S.2.2.2
  obtain ⟨hs1, hs2, -⟩ := S.2.2.1
  obtain ⟨h1, h2, h3, h4, h5, h6, h7⟩ := hr k hk
  obtain ⟨d0, d1, d3⟩ := S.2.1 k hk
  have e : (nI t - nI (g (k * 5 + 3))).toInt = (t : Int) - (g (k * 5 + 3) : Int) := nI_sub_toInt (by omega) (by omega)
  obtain ⟨a1, a2⟩ := irem_adj (nI t - nI (g (k * 5 + 3))) (m := 2 * be) (by omega) (by omega)
  rw [e] at a1 a2
  have hof : offN (g (k * 5 + 3)) be t < 2 ^ 31 := by
    unfold offN
    have := Int.emod_lt_of_pos ((t : Int) - (g (k * 5 + 3) : Int)) (b := ((2 * be : Nat) : Int)) (by omega)
    omega
  have tail : Wp X (Cl X d) 109 Q (34, [some (.ref 57), some (.int (nI k)), some (.int (nI be)), some (.int (nI s)), some (.int (nI t)), some (.int ((nI t - nI (g (k * 5 + 3))) % nI (2 * be)))], [.int (nI (offN (g (k * 5 + 3)) be t))], mw u tr a A, 0, 0) = Q (some (.int (nI (if thB g k be s t = true then 1 else 0)))) (mw u tr a A) := by
    simp only [s109_34, s109_36, s109_37, s109_40, s109_41, s109_42, s109_43, s109_44, s109_45, s109_48, s109_50, s109_53, s109_54, s109_57, s109_58, s109_59, s109_60, s109_61, s109_62, s109_63, s109_64, s109_67, s109_69, s109_70, s109_73, s109_74, s109_77, s109_78, OpV_some, OpN_some, OpA_some, OpR_some, Option.toList_some, Option.toList_none, List.cons_append, List.nil_append, true_and, and_true, nI11, or_true, true_or, or_false, false_or, mI0 H, mP0 H, mI3 H, mP3 H, mI4 H, mP4 H, mI5 H, mP5 H, mI6 H, mP6 H, mI7 H, mP7 H, mI8 H, mP8 H, mI9 H, mP9 H, mI10 H, mP10 H, mI11 H, mP11 H, mI12 H, mP12 H, mI13 H, mP13 H, mI14 H, mP14 H, mI23 H, mP23 H, mI24 H, mP24 H, mI25 H, mP25 H, mI26 H, mP26 H, mI27 H, mP27 H, mI30 H, mP30 H, mI31 H, mP31 H, mI1 H, mP1 H, mR2 H, mR15 H, mR16 H, mR17 H, mR18 H, mR19 H, mR20 H, mR21 H, mR22 H, mR28 H, mR29 H, mA0 H, mS0 H, mA1 H, mS1 H, mA2 H, mS2 H, mA3 H, mS3 H, mA4 H, mS4 H, mA5 H, mS5 H, mA6 H, mS6 H, mA7 H, mS7 H, mA8 H, mS8 H, mA9 H, mS9 H, mA10 H, mS10 H, mw_cl H, fu_s, fu_n, ua_s, ua_n, Nat.reduceBEq, lt57, lt58, lt59, lt60, lt61, lt62, lt63, lt64, lt65, lt66, lt67, lt68, pk_mul, nI_add, in_nI (show 4 * k < 64 by omega) (show 64 < 2 ^ 31 by decide), cl_nI (show 4 * k < 2 ^ 31 by omega), in_nI (show 4 * k + 1 < 64 by omega) (show 64 < 2 ^ 31 by decide), cl_nI (show 4 * k + 1 < 2 ^ 31 by omega), d0, d1, nI_eqN (show g (k * 5) < 2 ^ 31 by omega) (show s < 2 ^ 31 by omega), nI_eqN (show g (k * 5 + 1) < 2 ^ 31 by omega) (show s < 2 ^ 31 by omega), nI_eq0 hof, nI_eqN hof (show be < 2 ^ 31 by omega), b01_0, b01_1]
    unfold thB
    rcases Classical.propComplete (g (k * 5) = s) with q1 | q1 <;> rcases Classical.propComplete (g (k * 5 + 1) = s) with q2 | q2 <;> rcases Classical.propComplete (offN (g (k * 5 + 3)) be t = 0) with q3 | q3 <;> rcases Classical.propComplete (offN (g (k * 5 + 3)) be t = be) with q4 | q4 <;> simp only [q1, q2, q3, q4, if_true, if_false, and_self, and_true, true_and, and_false, false_and, or_true, true_or, or_false, or_self, decide_true, decide_false, Bool.false_eq_true]
  rw [e109]
  simp only [s109_0, s109_2, s109_3, s109_6, s109_8, s109_9, s109_10, s109_11, s109_12, s109_13, s109_14, s109_15, s109_16, s109_18, s109_20, s109_23, s109_25, s109_26, s109_27, s109_28, s109_29, s109_32, OpV_some, OpN_some, OpA_some, OpR_some, Option.toList_some, Option.toList_none, List.cons_append, List.nil_append, true_and, and_true, nI11, or_true, true_or, or_false, false_or, mI0 H, mP0 H, mI3 H, mP3 H, mI4 H, mP4 H, mI5 H, mP5 H, mI6 H, mP6 H, mI7 H, mP7 H, mI8 H, mP8 H, mI9 H, mP9 H, mI10 H, mP10 H, mI11 H, mP11 H, mI12 H, mP12 H, mI13 H, mP13 H, mI14 H, mP14 H, mI23 H, mP23 H, mI24 H, mP24 H, mI25 H, mP25 H, mI26 H, mP26 H, mI27 H, mP27 H, mI30 H, mP30 H, mI31 H, mP31 H, mI1 H, mP1 H, mR2 H, mR15 H, mR16 H, mR17 H, mR18 H, mR19 H, mR20 H, mR21 H, mR22 H, mR28 H, mR29 H, mA0 H, mS0 H, mA1 H, mS1 H, mA2 H, mS2 H, mA3 H, mS3 H, mA4 H, mS4 H, mA5 H, mS5 H, mA6 H, mS6 H, mA7 H, mS7 H, mA8 H, mS8 H, mA9 H, mS9 H, mA10 H, mS10 H, mw_cl H, fu_s, fu_n, ua_s, ua_n, Nat.reduceBEq, lt57, lt58, lt59, lt60, lt61, lt62, lt63, lt64, lt65, lt66, lt67, lt68, pk_mul, nI_add, in_nI (show 16 + k < 134 by omega) (show 134 < 2 ^ 31 by decide), cl_nI (show 16 + k < 2 ^ 31 by omega), d3, nI_eq0 (show 2 * be < 2 ^ 31 by omega), show ¬ 2 * be = 0 by omega, not_false_eq_true]
  by_cases hn : (nI t - nI (g (k * 5 + 3))) % nI (2 * be) < 0
  · simp only [hn, if_true]
    rw [a1 hn]
    exact tail
  · simp only [hn, if_false]
    conv in (Value.int ((nI t - nI (g (k * 5 + 3))) % nI (2 * be))) :: _ => rw [a2 hn]
    exact tail
theorem m_rides_wait (H : 69 ≤ u.length) (S : StM A nS nR h g) {k s t0 : Nat} {G : Int32} (hk : k < nR) (hs : s < 2 ^ 30) (hh : g (k * 5) = s ∨ g (k * 5 + 1) = s) {t f : Nat} (hf : f < 2 ^ 29) (hff : thB g k (g (k * 5 + 2)) s f = true ∧ ∀ t', t ≤ t' → t' < f → thB g k (g (k * 5 + 2)) s t' = false) (y z b : Int32) : ∀ (n t' : Nat), t ≤ t' → t' + n = f → Wp X (Cl X (d + 1)) 112 Q (6, [some (.ref 57), some (.int (nI k)), some (.int (nI (g (k * 5 + 2)))), some (.int (nI s)), some (.int (nI t0)), some (.int G), none], [], mw u tr (r4 a (nI t') y z b) A, 0, 0) = Wp X (Cl X (d + 1)) 112 Q (33, [some (.ref 57), some (.int (nI k)), some (.int (nI (g (k * 5 + 2)))), some (.int (nI s)), some (.int (nI t0)), some (.int G), none], [], mw u tr (r4 a (nI f) y z b) A, 0, 0)
  | 0, t', h1, e => by
    obtain ⟨hn, hr⟩ := S.2.2.2
    obtain ⟨g1, g2, g3, g4, g5, g6, g7⟩ := hr k hk
    have e' : t' = f := by omega
    subst e'
    rw [s112_6]
    simp only [s112_7, s112_8, s112_9, s112_10, s112_11, s112_14, s112_17, OpV_some, OpN_some, OpA_some, OpR_some, Option.toList_some, Option.toList_none, List.cons_append, List.nil_append, true_and, and_true, nI11, or_true, true_or, or_false, false_or, mI0 H, mP0 H, mI3 H, mP3 H, mI4 H, mP4 H, mI5 H, mP5 H, mI6 H, mP6 H, mI7 H, mP7 H, mI8 H, mP8 H, mI9 H, mP9 H, mI10 H, mP10 H, mI11 H, mP11 H, mI12 H, mP12 H, mI13 H, mP13 H, mI14 H, mP14 H, mI23 H, mP23 H, mI24 H, mP24 H, mI25 H, mP25 H, mI26 H, mP26 H, mI27 H, mP27 H, mI30 H, mP30 H, mI31 H, mP31 H, mI1 H, mP1 H, mR2 H, mR15 H, mR16 H, mR17 H, mR18 H, mR19 H, mR20 H, mR21 H, mR22 H, mR28 H, mR29 H, mA0 H, mS0 H, mA1 H, mS1 H, mA2 H, mS2 H, mA3 H, mS3 H, mA4 H, mS4 H, mA5 H, mS5 H, mA6 H, mS6 H, mA7 H, mS7 H, mA8 H, mS8 H, mA9 H, mS9 H, mA10 H, mS10 H, mw_cl H, fu_s, fu_n, ua_s, ua_n, Nat.reduceBEq, lt57, lt58, lt59, lt60, lt61, lt62, lt63, lt64, lt65, lt66, lt67, lt68, r4_24, m_isThere H S hk g4 g5 hs hf, hff.1, if_true, nI1z, if_false]
  | n + 1, t', h1, e => by
    obtain ⟨hn, hr⟩ := S.2.2.2
    obtain ⟨g1, g2, g3, g4, g5, g6, g7⟩ := hr k hk
    have hfa := hff.2 t' h1 (by omega)
    have ih := m_rides_wait H S (t0 := t0) (G := G) hk hs hh hf hff y z b n (t' + 1) (by omega) (by omega)
    rw [s112_6]
    simp only [s112_7, s112_8, s112_9, s112_10, s112_11, s112_14, s112_17, s112_20, s112_21, s112_22, s112_25, s112_26, s112_27, s112_30, OpV_some, OpN_some, OpA_some, OpR_some, Option.toList_some, Option.toList_none, List.cons_append, List.nil_append, true_and, and_true, nI11, or_true, true_or, or_false, false_or, mI0 H, mP0 H, mI3 H, mP3 H, mI4 H, mP4 H, mI5 H, mP5 H, mI6 H, mP6 H, mI7 H, mP7 H, mI8 H, mP8 H, mI9 H, mP9 H, mI10 H, mP10 H, mI11 H, mP11 H, mI12 H, mP12 H, mI13 H, mP13 H, mI14 H, mP14 H, mI23 H, mP23 H, mI24 H, mP24 H, mI25 H, mP25 H, mI26 H, mP26 H, mI27 H, mP27 H, mI30 H, mP30 H, mI31 H, mP31 H, mI1 H, mP1 H, mR2 H, mR15 H, mR16 H, mR17 H, mR18 H, mR19 H, mR20 H, mR21 H, mR22 H, mR28 H, mR29 H, mA0 H, mS0 H, mA1 H, mS1 H, mA2 H, mS2 H, mA3 H, mS3 H, mA4 H, mS4 H, mA5 H, mS5 H, mA6 H, mS6 H, mA7 H, mS7 H, mA8 H, mS8 H, mA9 H, mS9 H, mA10 H, mS10 H, mw_cl H, fu_s, fu_n, ua_s, ua_n, Nat.reduceBEq, lt57, lt58, lt59, lt60, lt61, lt62, lt63, lt64, lt65, lt66, lt67, lt68, r4_24, r4_u24, m_isThere H S hk g4 g5 hs (show t' < 2 ^ 29 by omega), hfa, if_true, if_false, Bool.false_eq_true, nI0z, nI_add]
    exact ih
theorem m_rides_go (H : 69 ≤ u.length) (S : StM A nS nR h g) {k s t0 G : Nat} (hk : k < nR) (hs : s < nS) (hG : G ≤ 5) (x : Int32) (l3 : Int32) : ∀ (n i e si : Nat), i + n = G → si < nS → e < 2 ^ 20 + i * 20 → Wp X (Cl X (d + 1)) 112 Q (54, [some (.ref 57), some (.int (nI k)), some (.int (nI (g (k * 5 + 2)))), some (.int l3), some (.int (nI t0)), some (.int (nI G)), some (.int (nI i))], [], mw u tr (r4 a x (nI e) (nI si) (nI 1)) A, 0, 0) = Q none (mw u tr (r4 a x (nI (rdg h g k n e si).1) (nI (rdg h g k n e si).2.1) (nI (if (rdg h g k n e si).2.2 then 1 else 0))) A)
  | 0, i, e, si, hi, hsi, he => by
    rw [s112_54]
    simp only [s112_56, s112_58, s112_121, OpV_some, OpN_some, OpA_some, OpR_some, Option.toList_some, Option.toList_none, List.cons_append, List.nil_append, true_and, and_true, nI11, or_true, true_or, or_false, false_or, nI_ltN (show i < 2 ^ 31 by omega) (show G < 2 ^ 31 by omega), show ¬ i < G by omega, if_false, rdg, if_true]
  | n + 1, i, e, si, hi, hsi, he => by
    obtain ⟨hn, hr⟩ := S.2.2.2
    obtain ⟨g1, g2, g3, g4, g5, g6, g7⟩ := hr k hk
    have hd8 := S.2.2.1.2.1
    have ho : oth g k si < nS := by unfold oth; split <;> omega
    have ih := m_rides_go H S hk hs hG (t0 := t0) x l3 n (i + 1) (e + g (k * 5 + 2)) (oth g k si) (by omega) ho (by omega)
    rw [s112_54]
    simp only [s112_56, s112_58, s112_61, s112_62, s112_65, s112_68, s112_69, s112_70, s112_73, s112_74, s112_75, s112_78, s112_79, s112_80, s112_81, s112_82, s112_85, s112_88, s112_91, s112_92, s112_93, s112_94, s112_97, s112_98, s112_101, s112_104, s112_107, s112_108, s112_111, s112_112, s112_115, s112_118, OpV_some, OpN_some, OpA_some, OpR_some, Option.toList_some, Option.toList_none, List.cons_append, List.nil_append, true_and, and_true, nI11, or_true, true_or, or_false, false_or, mI0 H, mP0 H, mI3 H, mP3 H, mI4 H, mP4 H, mI5 H, mP5 H, mI6 H, mP6 H, mI7 H, mP7 H, mI8 H, mP8 H, mI9 H, mP9 H, mI10 H, mP10 H, mI11 H, mP11 H, mI12 H, mP12 H, mI13 H, mP13 H, mI14 H, mP14 H, mI23 H, mP23 H, mI24 H, mP24 H, mI25 H, mP25 H, mI26 H, mP26 H, mI27 H, mP27 H, mI30 H, mP30 H, mI31 H, mP31 H, mI1 H, mP1 H, mR2 H, mR15 H, mR16 H, mR17 H, mR18 H, mR19 H, mR20 H, mR21 H, mR22 H, mR28 H, mR29 H, mA0 H, mS0 H, mA1 H, mS1 H, mA2 H, mS2 H, mA3 H, mS3 H, mA4 H, mS4 H, mA5 H, mS5 H, mA6 H, mS6 H, mA7 H, mS7 H, mA8 H, mS8 H, mA9 H, mS9 H, mA10 H, mS10 H, mw_cl H, fu_s, fu_n, ua_s, ua_n, Nat.reduceBEq, lt57, lt58, lt59, lt60, lt61, lt62, lt63, lt64, lt65, lt66, lt67, lt68, r4_25, r4_26, r4_27, r4_u25, r4_u26, r4_u27, nI_ltN (show i < 2 ^ 31 by omega) (show G < 2 ^ 31 by omega), show i < G by omega, if_true, nI1z, if_false, nI_add, m_across H S hk (show si < 2 ^ 30 by omega), m_isOpen H S ho (show e + g (k * 5 + 2) < 2 ^ 30 by omega), nI_ite, b01_0, b01_1, rdg]
    by_cases hop : opnB h (oth g k si) (e + g (k * 5 + 2)) = true
    · simp only [hop, not_true, if_true, if_false, Bool.false_eq_true]
      rw [s112_54]
      by_cases hi2 : i + 1 < G
      · simp only [s112_56, s112_58, s112_61, s112_62, s112_65, s112_121, OpV_some, OpN_some, OpA_some, OpR_some, Option.toList_some, Option.toList_none, List.cons_append, List.nil_append, true_and, and_true, nI11, or_true, true_or, or_false, false_or, mI0 H, mP0 H, mI3 H, mP3 H, mI4 H, mP4 H, mI5 H, mP5 H, mI6 H, mP6 H, mI7 H, mP7 H, mI8 H, mP8 H, mI9 H, mP9 H, mI10 H, mP10 H, mI11 H, mP11 H, mI12 H, mP12 H, mI13 H, mP13 H, mI14 H, mP14 H, mI23 H, mP23 H, mI24 H, mP24 H, mI25 H, mP25 H, mI26 H, mP26 H, mI27 H, mP27 H, mI30 H, mP30 H, mI31 H, mP31 H, mI1 H, mP1 H, mR2 H, mR15 H, mR16 H, mR17 H, mR18 H, mR19 H, mR20 H, mR21 H, mR22 H, mR28 H, mR29 H, mA0 H, mS0 H, mA1 H, mS1 H, mA2 H, mS2 H, mA3 H, mS3 H, mA4 H, mS4 H, mA5 H, mS5 H, mA6 H, mS6 H, mA7 H, mS7 H, mA8 H, mS8 H, mA9 H, mS9 H, mA10 H, mS10 H, mw_cl H, fu_s, fu_n, ua_s, ua_n, Nat.reduceBEq, lt57, lt58, lt59, lt60, lt61, lt62, lt63, lt64, lt65, lt66, lt67, lt68, r4_27, nI_ltN (show i + 1 < 2 ^ 31 by omega) (show G < 2 ^ 31 by omega), hi2, if_true, nI0z, if_false]
      · simp only [s112_56, s112_58, s112_61, s112_62, s112_65, s112_121, OpV_some, OpN_some, OpA_some, OpR_some, Option.toList_some, Option.toList_none, List.cons_append, List.nil_append, true_and, and_true, nI11, or_true, true_or, or_false, false_or, mI0 H, mP0 H, mI3 H, mP3 H, mI4 H, mP4 H, mI5 H, mP5 H, mI6 H, mP6 H, mI7 H, mP7 H, mI8 H, mP8 H, mI9 H, mP9 H, mI10 H, mP10 H, mI11 H, mP11 H, mI12 H, mP12 H, mI13 H, mP13 H, mI14 H, mP14 H, mI23 H, mP23 H, mI24 H, mP24 H, mI25 H, mP25 H, mI26 H, mP26 H, mI27 H, mP27 H, mI30 H, mP30 H, mI31 H, mP31 H, mI1 H, mP1 H, mR2 H, mR15 H, mR16 H, mR17 H, mR18 H, mR19 H, mR20 H, mR21 H, mR22 H, mR28 H, mR29 H, mA0 H, mS0 H, mA1 H, mS1 H, mA2 H, mS2 H, mA3 H, mS3 H, mA4 H, mS4 H, mA5 H, mS5 H, mA6 H, mS6 H, mA7 H, mS7 H, mA8 H, mS8 H, mA9 H, mS9 H, mA10 H, mS10 H, mw_cl H, fu_s, fu_n, ua_s, ua_n, Nat.reduceBEq, lt57, lt58, lt59, lt60, lt61, lt62, lt63, lt64, lt65, lt66, lt67, lt68, r4_27, nI_ltN (show i + 1 < 2 ^ 31 by omega) (show G < 2 ^ 31 by omega), hi2, if_true, nI0z, if_false]
    · simp only [hop, not_false_eq_true, if_true, if_false, Bool.false_eq_true]
      exact ih
/-- rides: when it is taken, where and when it ends, whether by a fall -/
theorem m_rides (H : 69 ≤ u.length) (S : StM A nS nR h g) {k s t G : Nat} (hk : k < nR) (hs : s < nS) (hh : g (k * 5) = s ∨ g (k * 5 + 1) = s) (ht : t < 10000) (hG : G ≤ 5) : Cl X (d + 2) 112 [.ref 57, .int (nI k), .int (nI (g (k * 5 + 2))), .int (nI s), .int (nI t), .int (nI G)] (mw u tr a A) Q = Q none (mw u tr (r4 a (nI (fat g k s t)) (nI (rid h g k G s t).1) (nI (rid h g k G s t).2.1) (nI (if (rid h g k G s t).2.2 then 1 else 0))) A) := by
  obtain ⟨hn, hr⟩ := S.2.2.2
  obtain ⟨g1, g2, g3, g4, g5, g6, g7⟩ := hr k hk
  have hd8 := S.2.2.1.2.1
  have hf := fat_le g (k := k) (s := s) (t := t) g4
  rw [e112]
  simp only [s112_0, s112_1, s112_3, OpV_some, OpN_some, OpA_some, OpR_some, Option.toList_some, Option.toList_none, List.cons_append, List.nil_append, true_and, and_true, nI11, or_true, true_or, or_false, false_or, mI0 H, mP0 H, mI3 H, mP3 H, mI4 H, mP4 H, mI5 H, mP5 H, mI6 H, mP6 H, mI7 H, mP7 H, mI8 H, mP8 H, mI9 H, mP9 H, mI10 H, mP10 H, mI11 H, mP11 H, mI12 H, mP12 H, mI13 H, mP13 H, mI14 H, mP14 H, mI23 H, mP23 H, mI24 H, mP24 H, mI25 H, mP25 H, mI26 H, mP26 H, mI27 H, mP27 H, mI30 H, mP30 H, mI31 H, mP31 H, mI1 H, mP1 H, mR2 H, mR15 H, mR16 H, mR17 H, mR18 H, mR19 H, mR20 H, mR21 H, mR22 H, mR28 H, mR29 H, mA0 H, mS0 H, mA1 H, mS1 H, mA2 H, mS2 H, mA3 H, mS3 H, mA4 H, mS4 H, mA5 H, mS5 H, mA6 H, mS6 H, mA7 H, mS7 H, mA8 H, mS8 H, mA9 H, mS9 H, mA10 H, mS10 H, mw_cl H, fu_s, fu_n, ua_s, ua_n, Nat.reduceBEq, lt57, lt58, lt59, lt60, lt61, lt62, lt63, lt64, lt65, lt66, lt67, lt68, r4_i24]
  rw [m_rides_wait H S hk (show s < 2 ^ 30 by omega) hh (show fat g k s t < 2 ^ 29 by omega) (fat_th g4 g3 hh) _ _ _ (fat g k s t - t) t (Nat.le_refl _) (by omega)]
  simp only [s112_33, s112_34, s112_35, s112_38, s112_41, s112_42, s112_43, s112_46, s112_47, s112_48, s112_51, s112_52, OpV_some, OpN_some, OpA_some, OpR_some, Option.toList_some, Option.toList_none, List.cons_append, List.nil_append, true_and, and_true, nI11, or_true, true_or, or_false, false_or, mI0 H, mP0 H, mI3 H, mP3 H, mI4 H, mP4 H, mI5 H, mP5 H, mI6 H, mP6 H, mI7 H, mP7 H, mI8 H, mP8 H, mI9 H, mP9 H, mI10 H, mP10 H, mI11 H, mP11 H, mI12 H, mP12 H, mI13 H, mP13 H, mI14 H, mP14 H, mI23 H, mP23 H, mI24 H, mP24 H, mI25 H, mP25 H, mI26 H, mP26 H, mI27 H, mP27 H, mI30 H, mP30 H, mI31 H, mP31 H, mI1 H, mP1 H, mR2 H, mR15 H, mR16 H, mR17 H, mR18 H, mR19 H, mR20 H, mR21 H, mR22 H, mR28 H, mR29 H, mA0 H, mS0 H, mA1 H, mS1 H, mA2 H, mS2 H, mA3 H, mS3 H, mA4 H, mS4 H, mA5 H, mS5 H, mA6 H, mS6 H, mA7 H, mS7 H, mA8 H, mS8 H, mA9 H, mS9 H, mA10 H, mS10 H, mw_cl H, fu_s, fu_n, ua_s, ua_n, Nat.reduceBEq, lt57, lt58, lt59, lt60, lt61, lt62, lt63, lt64, lt65, lt66, lt67, lt68, r4_24, r4_25, r4_26, r4_27, r4_u25, r4_u26, r4_u27, b01_1]
  exact m_rides_go H S hk hs hG _ _ G 0 (fat g k s t) s (by omega) hs (by omega)
end MRIDE
