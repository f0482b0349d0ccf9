/-! doors and ropes as plain numbers: h (2 s): turn, h (2 s + 1): open; g (5 k ..): a, b, beat, start, stopped -/
def DoorOK (h : Nat → Nat) (nS : Nat) : Prop := 2 ≤ nS ∧ nS ≤ 8 ∧ ∀ s, s < nS → 1 ≤ h (s * 2) ∧ h (s * 2) ≤ 9 ∧ 1 ≤ h (s * 2 + 1) ∧ h (s * 2 + 1) ≤ 9
def RopeOK (g : Nat → Nat) (nR nS : Nat) : Prop := nR ≤ 8 ∧ ∀ k, k < nR → g (k * 5) < nS ∧ g (k * 5 + 1) < nS ∧ g (k * 5) ≠ g (k * 5 + 1) ∧ 1 ≤ g (k * 5 + 2) ∧ g (k * 5 + 2) ≤ 11 ∧ g (k * 5 + 3) ≤ 999 ∧ g (k * 5 + 4) ≤ 1
def opn (h : Nat → Nat) (s t : Nat) : Prop := t % h (s * 2) < h (s * 2 + 1)
theorem opn_dec (h : Nat → Nat) (s t : Nat) : opn h s t ∨ ¬ opn h s t := Classical.em _
def opnB (h : Nat → Nat) (s t : Nat) : Bool := decide (t % h (s * 2) < h (s * 2 + 1))
def oth (g : Nat → Nat) (k s : Nat) : Nat := if g (k * 5) = s then g (k * 5 + 1) else g (k * 5)
def canB (g : Nat → Nat) (nR k s : Nat) : Bool := decide (k < nR) && (decide (g (k * 5 + 4) = 0) && (decide (g (k * 5) = s) || decide (g (k * 5 + 1) = s)))
/-- the first minute from one on in which a rope is at a sill -/
def fat (g : Nat → Nat) (k s t : Nat) : Nat := t + ((((g (k * 5 + 3) + (if g (k * 5) = s then 0 else g (k * 5 + 2)) : Nat) : Int) - (t : Int)) % ((2 * g (k * 5 + 2) : Nat) : Int)).toNat
def acr (h : Nat → Nat) (to st : Nat) : Nat → Nat → Nat
  | 0, _ => 1000
  | n + 1, t => if t ≤ 999 then (if opnB h to t then t else acr h to st n (t + st)) else 1000
def acrF (h g : Nat → Nat) (k s t : Nat) : Nat := acr h (oth g k s) (2 * g (k * 5 + 2)) 1000 (fat g k s t + g (k * 5 + 2))
def StAt (w : am_W) (i di dj ri rj nS nR : Nat) (fd fr : Nat → Int32) (h g : Nat → Nat) : Prop :=
  w[i]? = some (.inr (5, [.ref di, .ref ri])) ∧ i < 1000 ∧ RowsAt w di dj 8 2 nS fd ∧ RowsAt w ri rj 8 5 nR fr ∧ (∀ t, t < nS * 2 → fd t = nI (h t)) ∧ (∀ t, t < nR * 5 → fr t = nI (g t)) ∧ DoorOK h nS ∧ RopeOK g nR nS
theorem xor_neg {x y : Int32} (hy : ¬ y < 0) : (x ^^^ y < 0) = (x < 0) := by
  have key : ∀ z : Int32, (z < 0) = (z.toBitVec.msb = true) := fun z => by
    rw [Int32.lt_iff_toInt_lt, BitVec.msb_eq_toInt]
    show (z.toBitVec.toInt < 0) = _
    simp
  rw [key, key, show (x ^^^ y).toBitVec = x.toBitVec ^^^ y.toBitVec from rfl, BitVec.msb_xor]
  rw [key] at hy
  simp [Bool.eq_false_iff.mpr (fun h => hy h)]
theorem toInt_inj' {a b : Int32} (h : a.toInt = b.toInt) : a = b := Int32.toInt_inj.mp h
section STREETS
variable {X : am_X} {d : Nat} {Q : am_Q} {w : am_W} {i di dj ri rj nS nR : Nat} {fd fr : Nat → Int32} {h g : Nat → Nat}
/-- floorMod of what is small -/
theorem math_fmod (a : Int32) {m : Nat} (h0 : 0 < m) (hm : m < 1000) (ha : -100000 < a.toInt) (ha2 : a.toInt < 100000) : Cl X (d + 1) 143 [.int a, .int (nI m)] w Q = Q (some (.int (nI (a.toInt % (m : Int)).toNat))) w := by
  have hmT : (nI m).toInt = (m : Int) := nI_toInt (by omega)
  have hr : (a % nI m).toInt = a.toInt.tmod (m : Int) := by rw [Int32.toInt_mod, hmT]
  have hb := tmod_bounds (a := a.toInt) (M := (m : Int)) (by omega)
  have hm0 : ¬ nI m = 0 := nI_ne0 h0 (by omega)
  have hmn : ¬ nI m < 0 := nI_pos (by omega)
  have hmod0 : 0 ≤ a.toInt % (m : Int) := Int.emod_nonneg _ (by omega)
  have hmod1 : a.toInt % (m : Int) < m := Int.emod_lt_of_pos _ (by omega)
  have hnn : (nI (a.toInt % (m : Int)).toNat).toInt = a.toInt % (m : Int) := by
    rw [nI_toInt (by omega)]; omega
  rw [e143]
  simp only [s143_0, s143_1, s143_2, s143_3, s143_4, s143_5, s143_6, s143_7, s143_10, s143_11, s143_14, s143_15, s143_16, s143_17, s143_18, s143_19, OpV_some, OpN_some, OpA_some, OpR_some, Option.toList_some, Option.toList_none, List.cons_append, List.nil_append, true_and, and_true, nI11, or_true, true_or, or_false, false_or, hm0, not_false_eq_true, xor_neg hmn]
  have hd1 := Int.mul_tdiv_add_tmod a.toInt (m : Int)
  have hd2 := Int.mul_ediv_add_emod a.toInt (m : Int)
  have hq : (m : Int) * (a.toInt.tdiv m - a.toInt / m) = a.toInt % m - a.toInt.tmod m := by rw [Int.mul_sub]; omega
  have hz : (a % nI m = 0) = (a.toInt.tmod (m : Int) = 0) := by
    apply propext
    constructor
    · intro q; rw [← hr, q]; rfl
    · intro q; apply toInt_inj'; rw [hr, q]; rfl
  have hdiff : ∀ z : Int, (m : Int) * z < m * 2 → (m : Int) * (-1) < m * z → z = 0 ∨ z = 1 := fun z h1 h2 => by
    have := Int.lt_of_mul_lt_mul_left h1 (by omega)
    have := Int.lt_of_mul_lt_mul_left h2 (by omega)
    omega
  have h01 := hdiff _ (by rw [hq]; omega) (by rw [hq]; omega)
  have hsgn : (a < 0) = (a.toInt < 0) := by rw [Int32.lt_iff_toInt_lt]; rfl
  have hpos : 0 ≤ a.toInt → 0 ≤ a.toInt.tmod (m : Int) := fun q => Int.tmod_nonneg _ q
  have hneg : a.toInt ≤ 0 → a.toInt.tmod (m : Int) ≤ 0 := fun q => by
    have := Int.tmod_nonneg (a := -a.toInt) (m : Int) (by omega)
    rw [Int.neg_tmod] at this
    omega
  have keep : a.toInt % m = a.toInt.tmod m → a % nI m = nI (a.toInt % (m : Int)).toNat := fun q => by
    apply toInt_inj'
    rw [hnn, hr, q]
  by_cases ha0 : a.toInt < 0
  · have h1 := hneg (by omega)
    by_cases hz0 : a.toInt.tmod (m : Int) = 0
    · simp only [hsgn, ha0, hz, hz0, if_true]
      rw [keep]
      rcases h01 with q | q <;> rw [q] at hq <;> omega
    · simp only [hsgn, ha0, hz, hz0, if_true, if_false]
      have e : a % nI m + nI m = nI (a.toInt % (m : Int)).toNat := by
        apply toInt_inj'
        rw [hnn, Int32.toInt_add, hr, hmT]
        have hbm : (a.toInt.tmod (m : Int) + m).bmod (2 ^ 32) = a.toInt.tmod (m : Int) + m := by
          rw [Int.bmod_eq_of_le] <;> omega
        rw [hbm]
        rcases h01 with q | q <;> rw [q] at hq <;> omega
      rw [e]
  · simp only [hsgn, ha0, if_false]
    have h1 := hpos (by omega)
    rw [keep]
    rcases h01 with q | q <;> rw [q] at hq <;> omega
theorem StAt.f0 (S : StAt w i di dj ri rj nS nR fd fr h g) : am_fld w i 5 0 = some (.ref di) := fld_at S.1
theorem StAt.f1 (S : StAt w i di dj ri rj nS nR fd fr h g) : am_fld w i 5 1 = some (.ref ri) := fld_at S.1
theorem StAt.cl (S : StAt w i di dj ri rj nS nR fd fr h g) : am_cls w i = some 5 := cls_at S.1
theorem StAt.i1 (S : StAt w i di dj ri rj nS nR fd fr h g) : (i < 1000) = True := eq_true S.2.1
theorem StAt.dr (S : StAt w i di dj ri rj nS nR fd fr h g) : RowsAt w di dj 8 2 nS fd := S.2.2.1
theorem StAt.rr (S : StAt w i di dj ri rj nS nR fd fr h g) : RowsAt w ri rj 8 5 nR fr := S.2.2.2.1
theorem StAt.dk (S : StAt w i di dj ri rj nS nR fd fr h g) : DoorOK h nS := S.2.2.2.2.2.2.1
theorem StAt.rk (S : StAt w i di dj ri rj nS nR fd fr h g) : RopeOK g nR nS := S.2.2.2.2.2.2.2
theorem StAt.rope (S : StAt w i di dj ri rj nS nR fd fr h g) {k c : Nat} (hk : k < nR) (hc : c < 5) : Cl X (d + 1) 34 [.ref ri, .int (nI k), .int (nI c)] w Q = Q (some (.int (nI (g (k * 5 + c))))) w := by
  rw [rows_get S.rr hk hc, S.2.2.2.2.2.1 (k * 5 + c) (by omega)]
theorem StAt.rope0 (S : StAt w i di dj ri rj nS nR fd fr h g) {k : Nat} (hk : k < nR) : Cl X (d + 1) 34 [.ref ri, .int (nI k), .int (nI 0)] w Q = Q (some (.int (nI (g (k * 5))))) w := S.rope hk (by decide)
theorem StAt.door (S : StAt w i di dj ri rj nS nR fd fr h g) {k c : Nat} (hk : k < nS) (hc : c < 2) : Cl X (d + 1) 34 [.ref di, .int (nI k), .int (nI c)] w Q = Q (some (.int (nI (h (k * 2 + c))))) w := by
  rw [rows_get S.dr hk hc, S.2.2.2.2.1 (k * 2 + c) (by omega)]
theorem StAt.door0 (S : StAt w i di dj ri rj nS nR fd fr h g) {k : Nat} (hk : k < nS) : Cl X (d + 1) 34 [.ref di, .int (nI k), .int (nI 0)] w Q = Q (some (.int (nI (h (k * 2))))) w := S.door hk (by decide)
theorem nI_mod {a b : Nat} (ha : a < 2 ^ 31) (h0 : 0 < b) (hb : b < 2 ^ 31) : nI a % nI b = nI (a % b) := by
  rw [← irem_eq_mod]; exact pk_rem ha h0 hb
theorem st_isOpen (S : StAt w i di dj ri rj nS nR fd fr h g) {s t : Nat} (hs : s < nS) (ht : t < 2 ^ 30) : Cl X (d + 2) 43 [.ref i, .int (nI s), .int (nI t)] w Q = Q (some (.int (nI (if opnB h s t then 1 else 0)))) w := by
  obtain ⟨-, -, hd⟩ := S.dk
  obtain ⟨h1, h2, h3, h4⟩ := hd s hs
  have hlt : t % h (s * 2) < 2 ^ 31 := Nat.lt_of_le_of_lt (Nat.mod_le _ _) (by omega)
  rw [e43]
  simp only [s43_0, s43_1, s43_4, s43_5, s43_6, s43_9, s43_10, s43_11, s43_14, s43_15, s43_16, s43_17, s43_18, s43_21, s43_22, s43_23, s43_26, s43_29, s43_30, s43_33, s43_34, S.f0, S.i1, S.dr.i1, S.dr.cl, OpV_some, OpN_some, OpA_some, OpR_some, Option.toList_some, Option.toList_none, List.cons_append, List.nil_append, true_and, and_true, nI11, or_true, true_or, or_false, false_or, S.door0 hs, S.door hs (show 1 < 2 by decide), nI_gt0 (show h (s * 2) < 2 ^ 31 by omega), show 0 < h (s * 2) by omega, if_true, nI_eq0 (show h (s * 2) < 2 ^ 31 by omega), show ¬ h (s * 2) = 0 by omega, not_false_eq_true, nI_mod (show t < 2 ^ 31 by omega) (show 0 < h (s * 2) by omega) (show h (s * 2) < 2 ^ 31 by omega), nI_ltN hlt (show h (s * 2 + 1) < 2 ^ 31 by omega), b01_0, b01_1]
  unfold opnB
  by_cases q : t % h (s * 2) < h (s * 2 + 1) <;> simp [q]
theorem st_canTake (S : StAt w i di dj ri rj nS nR fd fr h g) {k s : Nat} (hk : k < 2 ^ 30) (hs : s < nS) : Cl X (d + 2) 44 [.ref i, .int (nI k), .int (nI s)] w Q = Q (some (.int (nI (if canB g nR k s then 1 else 0)))) w := by
  obtain ⟨hn, hr⟩ := S.rk
  obtain ⟨hs1, hs2, -⟩ := S.dk
  rw [e44]
  by_cases hkn : k < nR
  · obtain ⟨h1, h2, h3, h4, h5, h6, h7⟩ := hr k hkn
    have hin : (0 : Int32) ≤ nI k ∧ nI k < nI nR := ⟨nI_pos' (by omega), nI_lt hkn (by omega)⟩
    simp only [s44_0, s44_1, s44_4, s44_5, s44_8, s44_11, s44_12, s44_15, s44_16, s44_17, s44_20, s44_23, s44_24, s44_27, s44_28, s44_29, s44_32, s44_35, s44_36, s44_39, s44_40, s44_41, s44_44, s44_45, s44_48, s44_49, s44_52, s44_53, s44_54, s44_57, s44_58, s44_61, s44_62, s44_65, s44_66, S.f1, S.i1, S.rr.i1, S.rr.cl, OpV_some, OpN_some, OpA_some, OpR_some, Option.toList_some, Option.toList_none, List.cons_append, List.nil_append, true_and, and_true, nI11, or_true, true_or, or_false, false_or, rows_has S.rr, hin, and_self, if_true, nI1z, if_false, S.rope0 hkn, S.rope hkn (show 4 < 5 by decide), S.rope hkn (show 2 < 5 by decide), S.rope hkn (show 1 < 5 by decide), nI_eq0 (show g (k * 5 + 4) < 2 ^ 31 by omega), nI_gt0 (show g (k * 5 + 2) < 2 ^ 31 by omega), show 0 < g (k * 5 + 2) by omega, nI_eqN (show g (k * 5) < 2 ^ 31 by omega) (show s < 2 ^ 31 by omega), nI_eqN (show g (k * 5 + 1) < 2 ^ 31 by omega) (show s < 2 ^ 31 by omega), b01_0, b01_1]
    unfold canB
    by_cases q1 : g (k * 5 + 4) = 0 <;> by_cases q2 : g (k * 5) = s <;> by_cases q3 : g (k * 5 + 1) = s <;> simp [q1, q2, q3, hkn]
  · have hin : ¬ ((0 : Int32) ≤ nI k ∧ nI k < nI nR) := fun q => hkn ((nI_ltI (by omega) (by omega)).mp q.2)
    simp only [s44_0, s44_1, s44_4, s44_5, s44_8, s44_11, s44_12, s44_15, s44_16, s44_17, s44_20, s44_23, s44_24, s44_27, s44_28, s44_29, s44_32, s44_35, s44_36, s44_39, s44_40, s44_41, s44_44, s44_45, s44_48, s44_49, s44_52, s44_53, s44_54, s44_57, s44_58, s44_61, s44_62, s44_65, s44_66, S.f1, S.i1, S.rr.i1, S.rr.cl, OpV_some, OpN_some, OpA_some, OpR_some, Option.toList_some, Option.toList_none, List.cons_append, List.nil_append, true_and, and_true, nI11, or_true, true_or, or_false, false_or, rows_has S.rr, hin, if_true, nI0z, if_false, b01_0, b01_1]
    simp [canB, hkn]
theorem st_other (S : StAt w i di dj ri rj nS nR fd fr h g) {k s : Nat} (hk : k < nR) (hs : s < 2 ^ 31) : Cl X (d + 2) 45 [.ref i, .int (nI k), .int (nI s)] w Q = Q (some (.int (nI (oth g k s)))) w := by
  obtain ⟨hn, hr⟩ := S.rk
  obtain ⟨hs1, hs2, -⟩ := S.dk
  obtain ⟨h1, h2, h3, h4, h5, h6, h7⟩ := hr k hk
  rw [e45]
  simp only [s45_0, s45_1, s45_4, s45_5, s45_6, s45_9, s45_10, s45_13, s45_14, s45_17, s45_18, s45_19, s45_22, s45_25, s45_26, s45_29, s45_30, s45_31, s45_34, S.f1, S.i1, S.rr.i1, S.rr.cl, OpV_some, OpN_some, OpA_some, OpR_some, Option.toList_some, Option.toList_none, List.cons_append, List.nil_append, true_and, and_true, nI11, or_true, true_or, or_false, false_or, S.rope0 hk, S.rope hk (show 1 < 5 by decide), nI_eqN (show g (k * 5) < 2 ^ 31 by omega) hs]
  unfold oth
  by_cases q2 : g (k * 5) = s <;> simp [q2]
theorem st_firstAt (S : StAt w i di dj ri rj nS nR fd fr h g) {k s t : Nat} (hk : k < nR) (hs : s < 2 ^ 31) (ht : t < 20000) : Cl X (d + 2) 46 [.ref i, .int (nI k), .int (nI s), .int (nI t)] w Q = Q (some (.int (nI (fat g k s t)))) w := by
  obtain ⟨hn, hr⟩ := S.rk
  obtain ⟨hs1, hs2, -⟩ := S.dk
  obtain ⟨h1, h2, h3, h4, h5, h6, h7⟩ := hr k hk
  have key : ∀ c : Nat, c ≤ 11 → Cl X (d + 1) 143 [.int (nI (g (k * 5 + 3) + c) - nI t), .int (nI (2 * g (k * 5 + 2)))] w = fun Q => Q (some (.int (nI ((((g (k * 5 + 3) + c : Nat) : Int) - (t : Int)) % ((2 * g (k * 5 + 2) : Nat) : Int)).toNat))) w := by
    intro c hc
    funext Q
    have e : (nI (g (k * 5 + 3) + c) - nI t).toInt = ((g (k * 5 + 3) + c : Nat) : Int) - (t : Int) := pk_sub_toInt (by omega) (by omega)
    rw [math_fmod _ (by omega) (by omega) (by rw [e]; omega) (by rw [e]; omega), e]
  rw [e46]
  simp only [s46_0, s46_1, s46_4, s46_5, s46_6, s46_9, s46_11, s46_13, s46_14, s46_17, s46_20, s46_21, s46_22, s46_25, s46_26, s46_27, s46_30, s46_31, s46_34, s46_35, s46_36, s46_39, s46_40, s46_43, s46_44, s46_47, s46_49, s46_50, s46_52, s46_53, s46_55, s46_56, s46_57, s46_58, s46_60, s46_61, s46_64, s46_65, S.f1, S.i1, S.rr.i1, S.rr.cl, OpV_some, OpN_some, OpA_some, OpR_some, Option.toList_some, Option.toList_none, List.cons_append, List.nil_append, true_and, and_true, nI11, or_true, true_or, or_false, false_or, S.rope0 hk, S.rope hk (show 2 < 5 by decide), S.rope hk (show 3 < 5 by decide), nI_ltN (show g (k * 5 + 2) < 2 ^ 31 by omega) (show 1 < 2 ^ 31 by decide), show ¬ g (k * 5 + 2) < 1 by omega, if_false, nI_eqN (show g (k * 5) < 2 ^ 31 by omega) hs, pk_mul, nI_add, key 0 (by omega), key (g (k * 5 + 2)) h5]
  unfold fat
  by_cases q2 : g (k * 5) = s <;> simp [q2]
theorem st_across_loop (S : StAt w i di dj ri rj nS nR fd fr h g) {k s f0 b to : Nat} (hb : b ≤ 11) (hto : to < nS) : ∀ (n t : Nat), t < 100000 → (∃ m, 1000 ≤ t + m * (2 * b) ∧ m < n) → Wp X (Cl X (d + 2)) 47 Q (41, [some (.ref i), some (.int (nI k)), some (.int (nI s)), some (.int (nI f0)), some (.int (nI b)), some (.int (nI to)), some (.int (nI t))], [], w, 0, 0) = Q (some (.int (nI (acr h to (2 * b) n t)))) w
  | 0, t, _, hm => by obtain ⟨m, -, h2⟩ := hm; omega
  | n + 1, t, ht, hm => by
    rw [s47_41]
    by_cases h9 : 999 < t
    · simp only [s47_0, s47_1, s47_4, s47_5, s47_6, s47_9, s47_11, s47_13, s47_14, s47_17, s47_20, s47_21, s47_22, s47_23, s47_24, s47_27, s47_29, s47_30, s47_31, s47_32, s47_33, s47_36, s47_38, s47_39, s47_43, s47_46, s47_49, s47_50, s47_52, s47_54, s47_57, s47_60, s47_62, s47_63, s47_65, s47_66, s47_68, s47_69, s47_70, s47_72, s47_75, s47_78, OpV_some, OpN_some, OpA_some, OpR_some, Option.toList_some, Option.toList_none, List.cons_append, List.nil_append, true_and, and_true, nI11, or_true, true_or, or_false, false_or, nI_ltN (show 999 < 2 ^ 31 by decide) (show t < 2 ^ 31 by omega), h9, if_true]
      rw [acr, if_neg (by omega)]
    · simp only [s47_0, s47_1, s47_4, s47_5, s47_6, s47_9, s47_11, s47_13, s47_14, s47_17, s47_20, s47_21, s47_22, s47_23, s47_24, s47_27, s47_29, s47_30, s47_31, s47_32, s47_33, s47_36, s47_38, s47_39, s47_43, s47_46, s47_49, s47_50, s47_52, s47_54, s47_57, s47_60, s47_62, s47_63, s47_65, s47_66, s47_68, s47_69, s47_70, s47_72, s47_75, s47_78, S.i1, S.cl, OpV_some, OpN_some, OpA_some, OpR_some, Option.toList_some, Option.toList_none, List.cons_append, List.nil_append, true_and, and_true, nI11, or_true, true_or, or_false, false_or, nI_ltN (show 999 < 2 ^ 31 by decide) (show t < 2 ^ 31 by omega), h9, if_false, st_isOpen S hto (show t < 2 ^ 30 by omega), nI_ite]
      have e1 : acr h to (2 * b) (n + 1) t = if opnB h to t = true then t else acr h to (2 * b) n (t + 2 * b) := by
        rw [acr, if_pos (show t ≤ 999 by omega)]
      rw [e1]
      by_cases ho : opnB h to t = true
      · simp only [ho, not_true, if_true, if_false]
      · have ih := st_across_loop S hb hto (k := k) (s := s) (f0 := f0) n (t + 2 * b) (by omega) (by
          obtain ⟨m, h1, h2⟩ := hm
          match m, h1, h2 with
          | 0, h1, h2 => omega
          | m + 1, h1, h2 => exact ⟨m, by rw [Nat.succ_mul] at h1; omega, by omega⟩)
        simp only [ho, not_false_eq_true, if_true, if_false, pk_mul, nI_add, Bool.false_eq_true]
        exact ih
theorem fat_le (g : Nat → Nat) {k s t : Nat} (h1 : 1 ≤ g (k * 5 + 2)) : t ≤ fat g k s t ∧ fat g k s t < t + 2 * g (k * 5 + 2) := by
  unfold fat
  have h2 := Int.emod_nonneg (((g (k * 5 + 3) + (if g (k * 5) = s then 0 else g (k * 5 + 2)) : Nat) : Int) - (t : Int)) (b := ((2 * g (k * 5 + 2) : Nat) : Int)) (by omega)
  have h3 := Int.emod_lt_of_pos (((g (k * 5 + 3) + (if g (k * 5) = s then 0 else g (k * 5 + 2)) : Nat) : Int) - (t : Int)) (b := ((2 * g (k * 5 + 2) : Nat) : Int)) (by omega)
  omega
theorem st_across (S : StAt w i di dj ri rj nS nR fd fr h g) {k s t : Nat} (hk : k < nR) (hs : s < 2 ^ 31) (ht : t < 2000) : Cl X (d + 3) 47 [.ref i, .int (nI k), .int (nI s), .int (nI t)] w Q = Q (some (.int (nI (acrF h g k s t)))) w := by
  obtain ⟨hn, hr⟩ := S.rk
  obtain ⟨hs1, hs2, -⟩ := S.dk
  obtain ⟨h1, h2, h3, h4, h5, h6, h7⟩ := hr k hk
  have hf := fat_le g (k := k) (s := s) (t := t) h4
  have hto : oth g k s < nS := by unfold oth; split <;> omega
  rw [e47]
  simp only [s47_0, s47_1, s47_4, s47_5, s47_6, s47_9, s47_11, s47_13, s47_14, s47_17, s47_20, s47_21, s47_22, s47_23, s47_24, s47_27, s47_29, s47_30, s47_31, s47_32, s47_33, s47_36, s47_38, s47_39, s47_43, s47_46, s47_49, s47_50, s47_52, s47_54, s47_57, s47_60, s47_62, s47_63, s47_65, s47_66, s47_68, s47_69, s47_70, s47_72, s47_75, s47_78, S.f1, S.i1, S.cl, S.rr.i1, S.rr.cl, OpV_some, OpN_some, OpA_some, OpR_some, Option.toList_some, Option.toList_none, List.cons_append, List.nil_append, true_and, and_true, nI11, or_true, true_or, or_false, false_or, S.rope hk (show 2 < 5 by decide), nI_ltN (show g (k * 5 + 2) < 2 ^ 31 by omega) (show 1 < 2 ^ 31 by decide), show ¬ g (k * 5 + 2) < 1 by omega, if_false, st_other S hk hs, st_firstAt S hk hs (show t < 20000 by omega), nI_add]
  exact st_across_loop S h5 hto 1000 _ (by omega) ⟨999, by
    have : 999 * 2 ≤ 999 * (2 * g (k * 5 + 2)) := Nat.mul_le_mul_left _ (by omega)
    omega, by omega⟩
end STREETS
