/-! drift by the reference -/
def usN (k : Nat) : Nat → Bool → Nat → Bool
  | 0, b, _ => b
  | f + 1, b, v => if v = 0 then b else usN k f (b || decide (v % 10 = k + 1)) (v / 10)
theorem usN_iff (k : Nat) : ∀ (f : Nat) (b : Bool) (v : Nat), v < 10 ^ f → (usN k f b v = true ↔ b = true ∨ ∃ j, v / 10 ^ j % 10 = k + 1)
  | 0, b, v, h => by
    have h0 : v = 0 := by simpa using h
    subst h0
    refine ⟨fun q => Or.inl q, fun q => q.elim id fun ⟨j, hj⟩ => ?_⟩
    rw [Nat.zero_div] at hj
    cases hj
  | f + 1, b, v, h => by
    unfold usN
    by_cases h0 : v = 0
    · rw [if_pos h0]
      refine ⟨fun q => Or.inl q, fun q => q.elim id fun ⟨j, hj⟩ => ?_⟩
      rw [h0, Nat.zero_div] at hj
      cases hj
    · rw [if_neg h0, usN_iff k f _ _ (by rw [Nat.pow_succ] at h; omega)]
      simp only [Bool.or_eq_true, decide_eq_true_eq]
      constructor
      · rintro ((q | q) | ⟨j, hj⟩)
        · exact Or.inl q
        · exact Or.inr ⟨0, by rw [Nat.pow_zero, Nat.div_one]; exact q⟩
        · exact Or.inr ⟨j + 1, by rw [Nat.pow_succ', ← Nat.div_div_eq_div_mul]; exact hj⟩
      · rintro (q | ⟨j, hj⟩)
        · exact Or.inl (Or.inl q)
        · cases j with
          | zero => rw [Nat.pow_zero, Nat.div_one] at hj; exact Or.inl (Or.inr hj)
          | succ j => exact Or.inr ⟨j, by rw [Nat.div_div_eq_div_mul, ← Nat.pow_succ']; exact hj⟩
theorem rrd_end : ∀ (mo tz : Nat) (F : Nat → Nat) (v : Nat), (rrd mo tz F v).1 = true → v / 10 ^ ((rrd mo tz F v).2.1 - tz) = 0 ∧ tz ≤ (rrd mo tz F v).2.1
  | 0, tz, F, v, h => by
    have h0 : v = 0 := of_decide_eq_true h
    subst h0
    exact ⟨Nat.zero_div _, Nat.le_refl _⟩
  | mo + 1, tz, F, v, h => by
    unfold rrd at h ⊢
    by_cases h0 : v = 0
    · rw [if_pos h0]
      subst h0
      exact ⟨Nat.zero_div _, Nat.le_refl _⟩
    · rw [if_neg h0] at h ⊢
      by_cases h1 : v % 10 < 1 ∨ 8 < v % 10
      · rw [if_pos h1] at h
        cases h
      · rw [if_neg h1] at h ⊢
        obtain ⟨a, b⟩ := rrd_end mo (tz + 1) (upN F tz (v % 10 - 1)) (v / 10) h
        generalize (rrd mo (tz + 1) (upN F tz (v % 10 - 1)) (v / 10)).2.1 = z at a b
        refine ⟨?_, by omega⟩
        rw [show z - tz = (z - (tz + 1)) + 1 by omega, Nat.pow_succ', ← Nat.div_div_eq_div_mul]
        exact a
/-- which ropes a number tells -/
theorem us_F {mo : Nat} {x : Int32} (h : (rtv mo x).1 = true) (k : Nat) : usN k 10 false (cl x) = true ↔ ∃ j, j < (rtv mo x).2.1 ∧ (rtv mo x).2.2 j = k := by
  have hx := cl_back (rtv_x h)
  rw [usN_iff k 10 false (cl x) (by omega)]
  have hd := rtv_dig h
  have he : cl x / 10 ^ (rtv mo x).2.1 = 0 := by
    have h' := h
    unfold rtv at h' ⊢
    rw [if_neg (rtv_x h)] at h' ⊢
    have := (rrd_end mo 0 (fun _ => 0) (cl x) h').1
    rw [Nat.sub_zero] at this
    exact this
  constructor
  · rintro (q | ⟨j, hj⟩)
    · cases q
    · have hlt : j < (rtv mo x).2.1 := by
        apply Classical.byContradiction
        intro hn
        obtain ⟨e, hE⟩ : ∃ e, j = (rtv mo x).2.1 + e := ⟨j - (rtv mo x).2.1, by omega⟩
        rw [hE, Nat.pow_add, ← Nat.div_div_eq_div_mul, he, Nat.zero_div] at hj
        cases hj
      refine ⟨j, hlt, ?_⟩
      have := hd j hlt
      omega
  · rintro ⟨j, hj, hF⟩
    exact Or.inr ⟨j, by rw [hd j hj, hF]⟩
def dma (U : Nat → Bool) (base : Nat) : Nat → Nat → Nat → Nat
  | 0, _, acc => acc
  | n + 1, k, acc => dma U base n (k + 1) (acc * (if U k = true then base else 1))
theorem dma_eq (U : Nat → Bool) (base : Nat) : ∀ (n k acc : Nat), dma U base n k acc = acc * dmp U base n k
  | 0, k, acc => by unfold dma dmp; rw [Nat.mul_one]
  | n + 1, k, acc => by unfold dma dmp; rw [dma_eq U base n, Nat.mul_assoc]
theorem dmp_le (U : Nat → Bool) {base : Nat} (h1 : 1 ≤ base) (h3 : base ≤ 3) : ∀ (n k : Nat), dmp U base n k ≤ 3 ^ n
  | 0, k => Nat.le_refl _
  | n + 1, k => by
    unfold dmp
    rw [Nat.pow_succ']
    refine Nat.mul_le_mul ?_ (dmp_le U h1 h3 n (k + 1))
    split <;> omega
/-- the best so far, and one more -/
def bst (y : Nat) (o : Option Nat) (m : Nat) : Option Nat := match o with
  | none => some m
  | some b => some (if y = 0 then (if m < b then m else b) else (if b < m then m else b))
def mdl (y : Nat) (ok : Nat → Bool) (mi : Nat → Nat) : Nat → Nat → Option Nat → Option Nat
  | 0, _, o => o
  | n + 1, w, o => mdl y ok mi n (w + 1) (if ok w = true then bst y o (mi w) else o)
def spO (y : Nat) (o : Option Nat) (S : Nat → Prop) : Prop := match o with
  | none => ∀ m, ¬ S m
  | some b => S b ∧ ∀ m, S m → if y = 0 then b ≤ m else m ≤ b
def spP (o : Option (Nat × Nat)) (S : Nat → Prop) : Prop := match o with
  | none => ∀ m, ¬ S m
  | some p => (S p.1 ∧ ∀ m, S m → p.1 ≤ m) ∧ (S p.2 ∧ ∀ m, S m → m ≤ p.2)
def setW (ok : Nat → Bool) (mi : Nat → Nat) (n : Nat) : Nat → Prop := fun m => ∃ w, w < n ∧ ok w = true ∧ mi w = m
theorem setW_up {ok : Nat → Bool} {mi : Nat → Nat} {n m : Nat} : setW ok mi (n + 1) m ↔ setW ok mi n m ∨ (ok n = true ∧ mi n = m) := by
  constructor
  · rintro ⟨w, h1, h2, h3⟩
    by_cases e : w = n
    · subst e
      exact Or.inr ⟨h2, h3⟩
    · exact Or.inl ⟨w, by omega, h2, h3⟩
  · rintro (⟨w, h1, h2, h3⟩ | ⟨h2, h3⟩)
    · exact ⟨w, by omega, h2, h3⟩
    · exact ⟨n, by omega, h2, h3⟩
theorem mdl_spec (y : Nat) (ok : Nat → Bool) (mi : Nat → Nat) : ∀ (n w : Nat) (o : Option Nat), spO y o (setW ok mi w) → spO y (mdl y ok mi n w o) (setW ok mi (w + n))
  | 0, w, o, h => h
  | n + 1, w, o, h => by
    unfold mdl
    rw [show w + (n + 1) = w + 1 + n by omega]
    refine mdl_spec y ok mi n (w + 1) _ ?_
    by_cases q : ok w = true
    · rw [if_pos q]
      cases o with
      | none =>
        refine ⟨setW_up.mpr (Or.inr ⟨q, rfl⟩), fun m hm => ?_⟩
        rcases setW_up.mp hm with z | ⟨_, z⟩
        · exact absurd z (h m)
        · rw [z]; split <;> exact Nat.le_refl _
      | some b =>
        obtain ⟨h1, h2⟩ := h
        show setW ok mi (w + 1) (if y = 0 then (if mi w < b then mi w else b) else (if b < mi w then mi w else b)) ∧ ∀ m, setW ok mi (w + 1) m → if y = 0 then (if y = 0 then (if mi w < b then mi w else b) else (if b < mi w then mi w else b)) ≤ m else m ≤ (if y = 0 then (if mi w < b then mi w else b) else (if b < mi w then mi w else b))
        by_cases y0 : y = 0
        · simp only [y0, if_true] at h2 ⊢
          by_cases c : mi w < b
          · rw [if_pos c]
            refine ⟨setW_up.mpr (Or.inr ⟨q, rfl⟩), fun m hm => ?_⟩
            rcases setW_up.mp hm with z | ⟨_, z⟩
            · have := h2 m z; omega
            · omega
          · rw [if_neg c]
            refine ⟨setW_up.mpr (Or.inl h1), fun m hm => ?_⟩
            rcases setW_up.mp hm with z | ⟨_, z⟩
            · exact h2 m z
            · omega
        · simp only [y0, if_false] at h2 ⊢
          by_cases c : b < mi w
          · rw [if_pos c]
            refine ⟨setW_up.mpr (Or.inr ⟨q, rfl⟩), fun m hm => ?_⟩
            rcases setW_up.mp hm with z | ⟨_, z⟩
            · have := h2 m z; omega
            · omega
          · rw [if_neg c]
            refine ⟨setW_up.mpr (Or.inl h1), fun m hm => ?_⟩
            rcases setW_up.mp hm with z | ⟨_, z⟩
            · exact h2 m z
            · omega
    · rw [if_neg q]
      have e : ∀ m, setW ok mi (w + 1) m ↔ setW ok mi w m := fun m => setW_up.trans ⟨fun z => z.elim id fun c => absurd c.1 q, Or.inl⟩
      cases o with
      | none => exact fun m hm => h m ((e m).mp hm)
      | some b => exact ⟨(e b).mpr h.1, fun m hm => h.2 m ((e m).mp hm)⟩
theorem drl_spec (s : CSt) (x : Int32) (G a t dd : Nat) : ∀ (n c : Nat) (o : Option (Nat × Nat)), spP o (setW (fun c => decide ((dflw s x G a t dd c).1 = (rtv 4 x).2.1)) (fun c => (dflw s x G a t dd c).2.2) c) → spP (drl s x G a t dd n c o) (setW (fun c => decide ((dflw s x G a t dd c).1 = (rtv 4 x).2.1)) (fun c => (dflw s x G a t dd c).2.2) (c + n))
  | 0, c, o, h => h
  | n + 1, c, o, h => by
    unfold drl
    rw [show c + (n + 1) = c + 1 + n by omega]
    refine drl_spec s x G a t dd n (c + 1) _ ?_
    by_cases q : (dflw s x G a t dd c).1 = (rtv 4 x).2.1
    · rw [if_pos q]
      have hq := decide_eq_true q
      cases o with
      | none =>
        refine ⟨⟨setW_up.mpr (Or.inr ⟨hq, rfl⟩), fun m hm => ?_⟩, ⟨setW_up.mpr (Or.inr ⟨hq, rfl⟩), fun m hm => ?_⟩⟩
        · rcases setW_up.mp hm with z | ⟨_, z⟩
          · exact absurd z (h m)
          · exact Nat.le_of_eq z
        · rcases setW_up.mp hm with z | ⟨_, z⟩
          · exact absurd z (h m)
          · exact Nat.le_of_eq z.symm
      | some p =>
        obtain ⟨⟨h1, h2⟩, h3, h4⟩ := h
        refine ⟨⟨?_, fun m hm => ?_⟩, ⟨?_, fun m hm => ?_⟩⟩
        · show setW _ _ _ (min p.1 (dflw s x G a t dd c).2.2)
          by_cases e : p.1 ≤ (dflw s x G a t dd c).2.2
          · rw [Nat.min_eq_left e]; exact setW_up.mpr (Or.inl h1)
          · rw [Nat.min_eq_right (by omega)]; exact setW_up.mpr (Or.inr ⟨hq, rfl⟩)
        · show min p.1 (dflw s x G a t dd c).2.2 ≤ m
          rcases setW_up.mp hm with z | ⟨_, z⟩
          · have := h2 m z; omega
          · have z2 : (dflw s x G a t dd c).2.2 = m := z
            omega
        · show setW _ _ _ (max p.2 (dflw s x G a t dd c).2.2)
          by_cases e : (dflw s x G a t dd c).2.2 ≤ p.2
          · rw [Nat.max_eq_left e]; exact setW_up.mpr (Or.inl h3)
          · rw [Nat.max_eq_right (by omega)]; exact setW_up.mpr (Or.inr ⟨hq, rfl⟩)
        · show m ≤ max p.2 (dflw s x G a t dd c).2.2
          rcases setW_up.mp hm with z | ⟨_, z⟩
          · have := h4 m z; omega
          · have z2 : (dflw s x G a t dd c).2.2 = m := z
            omega
    · rw [if_neg q]
      have e : ∀ m, setW (fun c => decide ((dflw s x G a t dd c).1 = (rtv 4 x).2.1)) (fun c => (dflw s x G a t dd c).2.2) (c + 1) m ↔ setW (fun c => decide ((dflw s x G a t dd c).1 = (rtv 4 x).2.1)) (fun c => (dflw s x G a t dd c).2.2) c m := fun m => setW_up.trans ⟨fun z => z.elim id fun c => absurd (of_decide_eq_true c.1) q, Or.inl⟩
      cases o with
      | none => exact fun m hm => h m ((e m).mp hm)
      | some p => exact ⟨⟨(e _).mpr h.1.1, fun m hm => h.1.2 m ((e m).mp hm)⟩, ⟨(e _).mpr h.2.1, fun m hm => h.2.2 m ((e m).mp hm)⟩⟩
theorem sp_uniq {y : Nat} {o : Option Nat} {p : Option (Nat × Nat)} {S T : Nat → Prop} (hST : ∀ m, S m ↔ T m) (h1 : spO y o S) (h2 : spP p T) : fgO o = if y = 0 then mLo p else mHi p := by
  cases o with
  | none =>
    cases p with
    | none => split <;> rfl
    | some p => exact absurd ((hST _).mpr h2.1.1) (h1 _)
  | some b =>
    cases p with
    | none => exact absurd ((hST _).mp h1.1) (h2 _)
    | some p =>
      obtain ⟨a1, a2⟩ := h1
      obtain ⟨⟨b1, b2⟩, b3, b4⟩ := h2
      by_cases y0 : y = 0
      · simp only [y0, if_true] at a2 ⊢
        have e1 := a2 _ ((hST _).mpr b1)
        have e2 := b2 _ ((hST _).mp a1)
        show nI b = nI p.1
        rw [Nat.le_antisymm e1 e2]
      · simp only [y0, if_false] at a2 ⊢
        have e1 := a2 _ ((hST _).mpr b3)
        have e2 := b4 _ ((hST _).mp a1)
        show nI b = nI p.2
        rw [Nat.le_antisymm e2 e1]
section MDRIFT
variable {X : am_X} {d : Nat} {Q : am_Q} {u w : am_W} {tr : Int64} {a : Nat → Int32} {A : Nat → Nat → Int32} {s : CSt} {nS nR : Nat} {h g : Nat → Nat}
theorem m_uses_loop {k : Nat} (hk : k < 100) (l0 : Int32) : ∀ (f : Nat) (b : Bool) (v : Nat), v < 10 ^ f → v < 2 ^ 31 → Wp X (Cl X d) 130 Q (4, [some (.int l0), some (.int (nI k)), some (.int (nI (if b = true then 1 else 0))), some (.int (nI v))], [], w, 0, 0) = Q (some (.int (nI (if usN k f b v = true then 1 else 0)))) w
  | 0, b, v, hf, hv => by
    have e0 : v = 0 := by simpa using hf
    subst e0
    rw [s130_4]
    unfold usN
    cases b <;> simp only [s130_0, s130_1, s130_2, s130_3, s130_5, s130_8, s130_9, s130_12, s130_13, s130_15, s130_16, s130_17, s130_18, s130_19, s130_22, s130_23, s130_26, s130_27, s130_28, s130_29, s130_31, s130_32, s130_33, s130_36, s130_37, OpV_some, OpN_some, OpA_some, OpR_some, Option.toList_some, Option.toList_none, List.cons_append, List.nil_append, true_and, and_true, nI11, or_true, true_or, or_false, false_or, show ((0 : Int32) < nI 0) = False by decide, if_false, if_true, Bool.false_eq_true, b01_0, b01_1]
  | f + 1, b, v, hf, hv => by
    have ih := fun b => m_uses_loop hk l0 f b (v / 10) (by rw [Nat.pow_succ] at hf; omega) (by omega)
    have hm : v % 10 < 10 := Nat.mod_lt _ (by decide)
    rw [s130_4]
    unfold usN
    by_cases q0 : v = 0
    · subst q0
      simp only [s130_0, s130_1, s130_2, s130_3, s130_5, s130_8, s130_9, s130_12, s130_13, s130_15, s130_16, s130_17, s130_18, s130_19, s130_22, s130_23, s130_26, s130_27, s130_28, s130_29, s130_31, s130_32, s130_33, s130_36, s130_37, OpV_some, OpN_some, OpA_some, OpR_some, Option.toList_some, Option.toList_none, List.cons_append, List.nil_append, true_and, and_true, nI11, or_true, true_or, or_false, false_or, show ((0 : Int32) < nI 0) = False by decide, if_false, if_true, b01_i]
    · simp only [s130_5, s130_8, s130_9, s130_12, s130_13, s130_15, s130_16, s130_17, s130_18, s130_19, s130_22, s130_23, s130_26, s130_27, s130_28, s130_29, s130_31, s130_32, s130_33, OpV_some, OpN_some, OpA_some, OpR_some, Option.toList_some, Option.toList_none, List.cons_append, List.nil_append, true_and, and_true, nI11, or_true, true_or, or_false, false_or, nI_gt0 hv, show 0 < v by omega, q0, if_true, if_false, nI_ite, nI_mod hv (show 0 < 10 by decide) (show 10 < 2 ^ 31 by decide), nI_div hv (show 0 < 10 by decide) (show 10 < 2 ^ 31 by decide), show (nI 10 = 0) = False by decide, not_false_eq_true, nI_add, nI_eqN (show v % 10 < 2 ^ 31 by omega) (show k + 1 < 2 ^ 31 by omega)]
      rw [← ih]
      cases b
      · by_cases q : v % 10 = k + 1
        · simp only [q, Bool.false_eq_true, not_false_eq_true, if_true, if_false, decide_true, Bool.or_true]
        · simp only [q, Bool.false_eq_true, not_false_eq_true, if_true, if_false, decide_false, Bool.or_false]
      · simp only [not_true, if_true, if_false, Bool.true_or]
theorem m_uses {k v : Nat} (hk : k < 100) (hv : v < 2 ^ 31) : Cl X (d + 1) 130 [.int (nI v), .int (nI k)] w Q = Q (some (.int (nI (if usN k 10 false v = true then 1 else 0)))) w := by
  rw [e130]
  simp only [s130_0, s130_1, s130_2, s130_3, s130_5, s130_8, s130_9, s130_12, s130_13, s130_15, s130_16, s130_17, s130_18, s130_19, s130_22, s130_23, s130_26, s130_27, s130_28, s130_29, s130_31, s130_32, s130_33, s130_36, s130_37, OpV_some, OpN_some, OpA_some, OpR_some, Option.toList_some, Option.toList_none, List.cons_append, List.nil_append, true_and, and_true, nI11, or_true, true_or, or_false, false_or]
  exact m_uses_loop hk (nI v) 10 false v (by omega) hv
theorem m_dr_all (H : 69 ≤ u.length) {v dd : Nat} (hv : v < 2 ^ 31) (h8 : nR ≤ 8) (ha : a 10 = nI nR) (G p t y best : Int32) : ∀ (n k acc : Nat) (l10 l11 : Option Value), k + n = nR → Wp X (Cl X (d + 1)) 129 Q (50, [some (.ref 57), some (.int G), some (.int p), some (.int t), some (.int (nI v)), some (.int (nI dd)), some (.int y), some (.int best), some (.int (nI acc)), some (.int (nI k)), l10, l11], [], mw u tr a A, 0, 0) = Wp X (Cl X (d + 1)) 129 Q (91, [some (.ref 57), some (.int G), some (.int p), some (.int t), some (.int (nI v)), some (.int (nI dd)), some (.int y), some (.int best), some (.int (nI (dma (fun k => usN k 10 false v) (dd + 1) n k acc))), some (.int (nI 0)), l10, l11], [], mw u tr a A, 0, 0)
  | 0, k, acc, l10, l11, e => by
    rw [s129_50]
    simp only [s129_52, s129_53, s129_56, s129_88, s129_89, OpV_some, OpN_some, OpA_some, OpR_some, Option.toList_some, Option.toList_none, List.cons_append, List.nil_append, true_and, and_true, nI11, or_true, true_or, or_false, false_or, mI0 H, mP0 H, mI3 H, mP3 H, mI4 H, mP4 H, mI5 H, mP5 H, mI6 H, mP6 H, mI7 H, mP7 H, mI8 H, mP8 H, mI9 H, mP9 H, mI10 H, mP10 H, mI11 H, mP11 H, mI12 H, mP12 H, mI13 H, mP13 H, mI14 H, mP14 H, mI23 H, mP23 H, mI24 H, mP24 H, mI25 H, mP25 H, mI26 H, mP26 H, mI27 H, mP27 H, mI30 H, mP30 H, mI31 H, mP31 H, mI1 H, mP1 H, mR2 H, mR15 H, mR16 H, mR17 H, mR18 H, mR19 H, mR20 H, mR21 H, mR22 H, mR28 H, mR29 H, mA0 H, mS0 H, mA1 H, mS1 H, mA2 H, mS2 H, mA3 H, mS3 H, mA4 H, mS4 H, mA5 H, mS5 H, mA6 H, mS6 H, mA7 H, mS7 H, mA8 H, mS8 H, mA9 H, mS9 H, mA10 H, mS10 H, mw_cl H, fu_s, fu_n, ua_s, ua_n, Nat.reduceBEq, lt57, lt58, lt59, lt60, lt61, lt62, lt63, lt64, lt65, lt66, lt67, lt68, ha, nI_ltN (show k < 2 ^ 31 by omega) (show nR < 2 ^ 31 by omega), show ¬ k < nR by omega, if_false, dma]
  | n + 1, k, acc, l10, l11, e => by
    have ih := fun acc => m_dr_all H (dd := dd) hv h8 ha G p t y best n (k + 1) acc l10 l11 (by omega)
    rw [s129_50]
    simp only [s129_52, s129_53, s129_56, s129_59, s129_61, s129_63, s129_65, s129_68, s129_71, s129_73, s129_74, s129_75, s129_78, s129_79, s129_80, s129_82, s129_85, OpV_some, OpN_some, OpA_some, OpR_some, Option.toList_some, Option.toList_none, List.cons_append, List.nil_append, true_and, and_true, nI11, or_true, true_or, or_false, false_or, mI0 H, mP0 H, mI3 H, mP3 H, mI4 H, mP4 H, mI5 H, mP5 H, mI6 H, mP6 H, mI7 H, mP7 H, mI8 H, mP8 H, mI9 H, mP9 H, mI10 H, mP10 H, mI11 H, mP11 H, mI12 H, mP12 H, mI13 H, mP13 H, mI14 H, mP14 H, mI23 H, mP23 H, mI24 H, mP24 H, mI25 H, mP25 H, mI26 H, mP26 H, mI27 H, mP27 H, mI30 H, mP30 H, mI31 H, mP31 H, mI1 H, mP1 H, mR2 H, mR15 H, mR16 H, mR17 H, mR18 H, mR19 H, mR20 H, mR21 H, mR22 H, mR28 H, mR29 H, mA0 H, mS0 H, mA1 H, mS1 H, mA2 H, mS2 H, mA3 H, mS3 H, mA4 H, mS4 H, mA5 H, mS5 H, mA6 H, mS6 H, mA7 H, mS7 H, mA8 H, mS8 H, mA9 H, mS9 H, mA10 H, mS10 H, mw_cl H, fu_s, fu_n, ua_s, ua_n, Nat.reduceBEq, lt57, lt58, lt59, lt60, lt61, lt62, lt63, lt64, lt65, lt66, lt67, lt68, ha, nI_ltN (show k < 2 ^ 31 by omega) (show nR < 2 ^ 31 by omega), show k < nR by omega, if_true, m_uses (show k < 100 by omega) hv, nI_ite, nI_add, pk_mul, dma]
    by_cases q : usN k 10 false v = true
    · simp only [q, not_true, if_true, if_false]
      exact ih _
    · simp only [q, not_false_eq_true, if_true, if_false, Bool.false_eq_true]
      exact ih _
theorem m_dr_in (H : 69 ≤ u.length) {v dd : Nat} (hv : v < 2 ^ 31) (h8 : nR ≤ 8) (hdd : dd ≤ 2) (ha : a 10 = nI nR) (hg : ∀ k, k < nR → 1 ≤ g (k * 5 + 2) ∧ g (k * 5 + 2) ≤ 9 ∧ g (k * 5 + 4) ≤ 1) (G p t y best all wy : Int32) : ∀ (n k l : Nat) (f : Nat → Nat) (f9 : Nat → Int32), k + n = nR → l < 2 ^ 30 → (∀ q, q < nR → f9 q = nI (bt0 f q)) → (∀ q, k ≤ q → f (q * 5 + 2) = g (q * 5 + 2)) → (∀ q, f (q * 5 + 4) = g (q * 5 + 4)) →
    ∃ (f9' : Nat → Int32) (l' : Nat), (∀ q, q < nR → f9' q = nI (bt0 (dmf (fun k => usN k 10 false v) g (dd + 1) n k l f) q)) ∧ Wp X (Cl X (d + 1)) 129 Q (109, [some (.ref 57), some (.int G), some (.int p), some (.int t), some (.int (nI v)), some (.int (nI dd)), some (.int y), some (.int best), some (.int all), some (.int wy), some (.int (nI l)), some (.int (nI k))], [], mw u tr a (ua A 9 f9), 0, 0) = Wp X (Cl X (d + 1)) 129 Q (174, [some (.ref 57), some (.int G), some (.int p), some (.int t), some (.int (nI v)), some (.int (nI dd)), some (.int y), some (.int best), some (.int all), some (.int wy), some (.int (nI l')), some (.int (nI nR))], [], mw u tr a (ua A 9 f9'), 0, 0)
  | 0, k, l, f, f9, e, hl, h9, hf, hf4 => by
    refine ⟨f9, l, h9, ?_⟩
    rw [s129_109]
    simp only [s129_111, s129_112, s129_115, OpV_some, OpN_some, OpA_some, OpR_some, Option.toList_some, Option.toList_none, List.cons_append, List.nil_append, true_and, and_true, nI11, or_true, true_or, or_false, false_or, mI0 H, mP0 H, mI3 H, mP3 H, mI4 H, mP4 H, mI5 H, mP5 H, mI6 H, mP6 H, mI7 H, mP7 H, mI8 H, mP8 H, mI9 H, mP9 H, mI10 H, mP10 H, mI11 H, mP11 H, mI12 H, mP12 H, mI13 H, mP13 H, mI14 H, mP14 H, mI23 H, mP23 H, mI24 H, mP24 H, mI25 H, mP25 H, mI26 H, mP26 H, mI27 H, mP27 H, mI30 H, mP30 H, mI31 H, mP31 H, mI1 H, mP1 H, mR2 H, mR15 H, mR16 H, mR17 H, mR18 H, mR19 H, mR20 H, mR21 H, mR22 H, mR28 H, mR29 H, mA0 H, mS0 H, mA1 H, mS1 H, mA2 H, mS2 H, mA3 H, mS3 H, mA4 H, mS4 H, mA5 H, mS5 H, mA6 H, mS6 H, mA7 H, mS7 H, mA8 H, mS8 H, mA9 H, mS9 H, mA10 H, mS10 H, mw_cl H, fu_s, fu_n, ua_s, ua_n, Nat.reduceBEq, lt57, lt58, lt59, lt60, lt61, lt62, lt63, lt64, lt65, lt66, lt67, lt68, ha, nI_ltN (show k < 2 ^ 31 by omega) (show nR < 2 ^ 31 by omega), show ¬ k < nR by omega, if_false]
    rw [show k = nR by omega]
  | n + 1, k, l, f, f9, e, hl, h9, hf, hf4 => by
    obtain ⟨g1, g2, g4⟩ := hg k (by omega)
    have hfk := hf k (Nat.le_refl _)
    have hf4k := hf4 k
    unfold dmf
    by_cases q : usN k 10 false v = true
    · rw [if_pos q]
      have hm : l % (dd + 1) < dd + 1 := Nat.mod_lt _ (by omega)
      have hdv : l / (dd + 1) ≤ l := Nat.div_le_self _ _
      have hb0 : f9 k = nI (bt0 f k) := h9 k (by omega)
      have hbl : bt0 f k < 2 ^ 31 := by unfold bt0; rw [hfk]; split <;> omega
      obtain ⟨f9', l', hr, ih⟩ := m_dr_in H hv h8 hdd ha hg G p t y best all wy n (k + 1) (l / (dd + 1)) (upN f (k * 5 + 2) (g (k * 5 + 2) + l % (dd + 1))) (upd f9 k (nI (if g (k * 5 + 4) = 1 then 0 else g (k * 5 + 2) + l % (dd + 1)))) (by omega) (by omega) (fun q' hq' => by
        unfold bt0
        by_cases e2 : q' = k
        · subst e2
          rw [upd_s, upN_s, upN_n _ _ (by omega), hf4k]
        · rw [upd_n _ _ e2, upN_n _ _ (by omega), upN_n _ _ (by omega)]
          exact h9 q' hq') (fun q' hq' => by rw [upN_n _ _ (by omega)]; exact hf q' (by omega)) (fun q' => by rw [upN_n _ _ (by omega)]; exact hf4 q')
      refine ⟨f9', l', hr, ?_⟩
      rw [s129_109, ← ih]
      simp only [s129_111, s129_112, s129_115, s129_118, s129_120, s129_122, s129_125, s129_128, s129_129, s129_132, s129_134, s129_135, s129_136, s129_137, s129_140, s129_142, s129_143, s129_146, s129_147, s129_150, s129_152, s129_154, s129_155, s129_156, s129_157, s129_158, s129_159, s129_161, s129_163, s129_164, s129_165, s129_166, s129_168, s129_171, OpV_some, OpN_some, OpA_some, OpR_some, Option.toList_some, Option.toList_none, List.cons_append, List.nil_append, true_and, and_true, nI11, or_true, true_or, or_false, false_or, mI0 H, mP0 H, mI3 H, mP3 H, mI4 H, mP4 H, mI5 H, mP5 H, mI6 H, mP6 H, mI7 H, mP7 H, mI8 H, mP8 H, mI9 H, mP9 H, mI10 H, mP10 H, mI11 H, mP11 H, mI12 H, mP12 H, mI13 H, mP13 H, mI14 H, mP14 H, mI23 H, mP23 H, mI24 H, mP24 H, mI25 H, mP25 H, mI26 H, mP26 H, mI27 H, mP27 H, mI30 H, mP30 H, mI31 H, mP31 H, mI1 H, mP1 H, mR2 H, mR15 H, mR16 H, mR17 H, mR18 H, mR19 H, mR20 H, mR21 H, mR22 H, mR28 H, mR29 H, mA0 H, mS0 H, mA1 H, mS1 H, mA2 H, mS2 H, mA3 H, mS3 H, mA4 H, mS4 H, mA5 H, mS5 H, mA6 H, mS6 H, mA7 H, mS7 H, mA8 H, mS8 H, mA9 H, mS9 H, mA10 H, mS10 H, mw_cl H, fu_s, fu_n, ua_s, ua_n, Nat.reduceBEq, lt57, lt58, lt59, lt60, lt61, lt62, lt63, lt64, lt65, lt66, lt67, lt68, ua_ua, ha, nI_ltN (show k < 2 ^ 31 by omega) (show nR < 2 ^ 31 by omega), show k < nR by omega, if_true, m_uses (show k < 100 by omega) hv, q, nI_ite, nI1z, not_true, if_false, nI_add, in_nI (show k < 8 by omega) (show 8 < 2 ^ 31 by omega), cl_nI (show k < 2 ^ 31 by omega), hb0, nI_eq0 hbl, nI_mod (show l < 2 ^ 31 by omega) (show 0 < dd + 1 by omega) (show dd + 1 < 2 ^ 31 by omega), nI_div (show l < 2 ^ 31 by omega) (show 0 < dd + 1 by omega) (show dd + 1 < 2 ^ 31 by omega), nI_eq0 (show dd + 1 < 2 ^ 31 by omega), show ¬ (dd + 1 = 0) by omega, not_false_eq_true]
      unfold bt0
      rw [hfk, hf4k]
      by_cases z : g (k * 5 + 4) = 1
      · simp only [z, if_true, Nat.add_zero]
      · simp only [z, if_false, show ¬ g (k * 5 + 2) = 0 by omega]
    · rw [if_neg q]
      obtain ⟨f9', l', hr, ih⟩ := m_dr_in H hv h8 hdd ha hg G p t y best all wy n (k + 1) l f f9 (by omega) hl h9 (fun q' hq' => hf q' (by omega)) hf4
      refine ⟨f9', l', hr, ?_⟩
      rw [s129_109, ← ih]
      simp only [s129_111, s129_112, s129_115, s129_118, s129_120, s129_122, s129_125, s129_168, s129_171, OpV_some, OpN_some, OpA_some, OpR_some, Option.toList_some, Option.toList_none, List.cons_append, List.nil_append, true_and, and_true, nI11, or_true, true_or, or_false, false_or, mI0 H, mP0 H, mI3 H, mP3 H, mI4 H, mP4 H, mI5 H, mP5 H, mI6 H, mP6 H, mI7 H, mP7 H, mI8 H, mP8 H, mI9 H, mP9 H, mI10 H, mP10 H, mI11 H, mP11 H, mI12 H, mP12 H, mI13 H, mP13 H, mI14 H, mP14 H, mI23 H, mP23 H, mI24 H, mP24 H, mI25 H, mP25 H, mI26 H, mP26 H, mI27 H, mP27 H, mI30 H, mP30 H, mI31 H, mP31 H, mI1 H, mP1 H, mR2 H, mR15 H, mR16 H, mR17 H, mR18 H, mR19 H, mR20 H, mR21 H, mR22 H, mR28 H, mR29 H, mA0 H, mS0 H, mA1 H, mS1 H, mA2 H, mS2 H, mA3 H, mS3 H, mA4 H, mS4 H, mA5 H, mS5 H, mA6 H, mS6 H, mA7 H, mS7 H, mA8 H, mS8 H, mA9 H, mS9 H, mA10 H, mS10 H, mw_cl H, fu_s, fu_n, ua_s, ua_n, Nat.reduceBEq, lt57, lt58, lt59, lt60, lt61, lt62, lt63, lt64, lt65, lt66, lt67, lt68, ha, nI_ltN (show k < 2 ^ 31 by omega) (show nR < 2 ^ 31 by omega), show k < nR by omega, if_true, m_uses (show k < 100 by omega) hv, q, Bool.false_eq_true, if_false, nI0z, nI_ite, not_false_eq_true, nI_add]
end MDRIFT
