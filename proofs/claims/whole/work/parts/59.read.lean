/-! an item is read; all items are -/
theorem nxt_ok (B : Nat → Nat) {le pl va : Nat} (h : pl ≤ le) : pl ≤ (nxt B le pl va).1 ∧ (nxt B le pl va).1 ≤ le ∧ (nxt B le pl va).2.1 ≤ 4 ∧ ((nxt B le pl va).2.1 = 2 → (nxt B le pl va).2.2 ≤ 100) ∧ ((nxt B le pl va).2.1 ≠ 0 → pl < (nxt B le pl va).1) := by
  unfold nxt
  by_cases h1 : le ≤ pl
  · rw [if_pos h1]
    exact ⟨Nat.le_refl _, h, (by decide : 0 ≤ 4), fun q => absurd (show 0 = 2 from q) (by decide), fun q => absurd rfl q⟩
  · rw [if_neg h1]
    by_cases h2 : ltr (B pl) = true
    · rw [if_pos h2]
      have a := scn_ge (fun i => ltr (B i)) (le - pl) pl
      have b : pl < scn (fun i => ltr (B i)) (le - pl) pl := by
        obtain ⟨m, hm⟩ : ∃ m, le - pl = m + 1 := ⟨le - pl - 1, by omega⟩
        rw [hm]
        unfold scn
        rw [if_pos h2]
        have := scn_ge (fun i => ltr (B i)) m (pl + 1)
        omega
      exact ⟨a.1, by omega, (by decide : 1 ≤ 4), fun q => absurd (show 1 = 2 from q) (by decide), fun _ => b⟩
    · rw [if_neg h2]
      by_cases h3 : fig (B pl) = true
      · rw [if_pos h3]
        obtain ⟨a1, a2, a3⟩ := nmv_ge B (le - pl) pl 0 (by omega)
        have b : pl < (nmv B (le - pl) pl 0).1 := by
          obtain ⟨m, hm⟩ : ∃ m, le - pl = m + 1 := ⟨le - pl - 1, by omega⟩
          rw [hm]
          unfold nmv
          rw [if_pos h3]
          have := nmv_ge B m (pl + 1) (min 100 (0 * 10 + (B pl - 48))) (by omega)
          omega
        refine ⟨a1, by omega, ?_, fun _ => a3, fun _ => b⟩
        show ntk B pl _ _ ≤ 4
        unfold ntk
        split <;> decide
      · rw [if_neg h3]
        refine ⟨by show pl ≤ pl + 1; omega, by show pl + 1 ≤ le; omega, ?_, ?_, fun _ => by show pl < pl + 1; omega⟩
        · show (if B pl = 59 then 3 else 4) ≤ 4
          split <;> decide
        · show (if B pl = 59 then 3 else 4) = 2 → _
          split <;> exact fun q => absurd q (by decide)
theorem tkn_ok (B : Nat → Nat) {le : Nat} {t : TS} (h : t.2.1 ≤ le) : t.2.1 ≤ (tkn B le t).1 ∧ (tkn B le t).1 ≤ (tkn B le t).2.1 ∧ (tkn B le t).2.1 ≤ le ∧ (tkn B le t).2.2.1 ≤ 4 ∧ ((tkn B le t).2.2.1 = 2 → (tkn B le t).2.2.2 ≤ 100) ∧ ((tkn B le t).2.2.1 ≠ 0 → (tkn B le t).1 < (tkn B le t).2.1) := by
  have a := scn_ge (fun i => decide (B i = 32)) (le - t.2.1) t.2.1
  have hs : skp B le t.2.1 ≤ le := by unfold skp; omega
  obtain ⟨b1, b2, b3, b4, b5⟩ := nxt_ok B (va := t.2.2.2) hs
  exact ⟨a.1, b1, b2, b3, b4, b5⟩
def rdn (B : Nat → Nat) (le k nS : Nat) : Nat → Nat → TS → (Nat → Nat) → Bool × TS × (Nat → Nat)
  | 0, _, t, N => (true, t, N)
  | n + 1, i, t, N => if (tkn B le t).2.2.1 = 2 ∧ okN k i (tkn B le t).2.2.2 (N 0) nS = true then rdn B le k nS n (i + 1) (tkn B le t) (upN N i (tkn B le t).2.2.2) else (false, tkn B le t, N)
/-- readItem: whether it is one; the token at hand then; what is told; numbers -/
def rit (B : Nat → Nat) (le it : Nat) (t : TS) (r : RSt) (N : Nat → Nat) : Bool × TS × RSt × (Nat → Nat) :=
  if itW B t.1 t.2.1 t.2.2.1 < 4 ∧ mayB (itW B t.1 t.2.1 t.2.2.1) it r.2.1.1 r.2.2.1 = true then
    (if (rdn B le (itW B t.1 t.2.1 t.2.2.1) r.1.1 (numC (itW B t.1 t.2.1 t.2.2.1)) 0 t N).1 = true then
      (if (tkn B le (rdn B le (itW B t.1 t.2.1 t.2.2.1) r.1.1 (numC (itW B t.1 t.2.1 t.2.2.1)) 0 t N).2.1).2.2.1 = 3 then
        (true, tkn B le (rdn B le (itW B t.1 t.2.1 t.2.2.1) r.1.1 (numC (itW B t.1 t.2.1 t.2.2.1)) 0 t N).2.1, adI (itW B t.1 t.2.1 t.2.2.1) (rdn B le (itW B t.1 t.2.1 t.2.2.1) r.1.1 (numC (itW B t.1 t.2.1 t.2.2.1)) 0 t N).2.2 r, (rdn B le (itW B t.1 t.2.1 t.2.2.1) r.1.1 (numC (itW B t.1 t.2.1 t.2.2.1)) 0 t N).2.2)
      else (false, tkn B le (rdn B le (itW B t.1 t.2.1 t.2.2.1) r.1.1 (numC (itW B t.1 t.2.1 t.2.2.1)) 0 t N).2.1, r, (rdn B le (itW B t.1 t.2.1 t.2.2.1) r.1.1 (numC (itW B t.1 t.2.1 t.2.2.1)) 0 t N).2.2))
    else (false, (rdn B le (itW B t.1 t.2.1 t.2.2.1) r.1.1 (numC (itW B t.1 t.2.1 t.2.2.1)) 0 t N).2.1, r, (rdn B le (itW B t.1 t.2.1 t.2.2.1) r.1.1 (numC (itW B t.1 t.2.1 t.2.2.1)) 0 t N).2.2))
  else (false, t, r, N)
def rlp (B : Nat → Nat) (le : Nat) : Nat → Nat → TS → RSt → (Nat → Nat) → Int32 × TS × RSt × (Nat → Nat)
  | 0, it, t, r, N => (nI it, t, r, N)
  | n + 1, it, t, r, N => if t.2.2.1 = 0 then (nI it, t, r, N) else if (rit B le it t r N).1 = true then rlp B le n (it + 1) (tkn B le (rit B le it t r N).2.1) (rit B le it t r N).2.2.1 (rit B le it t r N).2.2.2 else (-10 - nI (rit B le it t r N).2.1.1, (rit B le it t r N).2)
theorem nuf_at : ∀ k, k < 4 → nuf k = nI (numC k) := by decide
theorem numC_le : ∀ k, k < 4 → numC k ≤ 4 := by decide
/-- a row of numbers that is whole is as it may be -/
theorem rdn_ok (B : Nat → Nat) {le k nS : Nat} : ∀ (n i : Nat) (t : TS) (N : Nat → Nat), t.2.1 ≤ le → (∀ j, j < i → okN k j (N j) (N 0) nS = true) → (rdn B le k nS n i t N).2.1.2.1 ≤ le ∧ t.2.1 ≤ (rdn B le k nS n i t N).2.1.2.1 ∧ ((rdn B le k nS n i t N).1 = true → ∀ j, j < i + n → okN k j ((rdn B le k nS n i t N).2.2 j) ((rdn B le k nS n i t N).2.2 0) nS = true)
  | 0, i, t, N, ht, h => ⟨ht, Nat.le_refl _, fun _ => h⟩
  | n + 1, i, t, N, ht, h => by
    obtain ⟨a1, a2, a3, a4, a5, a6⟩ := tkn_ok B ht
    unfold rdn
    by_cases q : (tkn B le t).2.2.1 = 2 ∧ okN k i (tkn B le t).2.2.2 (N 0) nS = true
    · rw [if_pos q]
      obtain ⟨b1, b2, b3⟩ := rdn_ok B n (i + 1) (tkn B le t) (upN N i (tkn B le t).2.2.2) a3 (fun j hj => by
        unfold upN
        by_cases hj2 : j = i
        · subst hj2
          rw [if_pos rfl]
          by_cases h0 : j = 0
          · subst h0
            have := q.2
            unfold okN at this ⊢
            simp only [show ¬ ((0 : Nat) = 1) by decide, false_and, and_false, not_false_eq_true, true_and] at this ⊢
            exact this
          · rw [if_neg (fun e => h0 e.symm)]
            exact q.2
        · rw [if_neg hj2, if_neg (by omega)]
          exact h j (by omega))
      refine ⟨b1, by omega, fun hh j hj => b3 hh j (by omega)⟩
    · rw [if_neg q]
      exact ⟨a3, by show t.2.1 ≤ (tkn B le t).2.1; omega, fun hh => by cases hh⟩
section READ
variable {X : am_X} {d : Nat} {Q : am_Q} {u : am_W} {le : Nat} {r : RSt} {B : Nat → Nat}
theorem rw_nums_loop (H : 44 ≤ u.length) (h3 : le ≤ 300) (h4 : ∀ i, i < le → B i < 256) (hD1 : 1 ≤ r.1.1) (hD : r.1.1 ≤ 8) {k : Nat} (hk : k < 4) (it : Int32) : ∀ (n i : Nat) (t : TS) (N : Nat → Nat), i + n = numC k → t.2.1 ≤ le → (i = 1 → N 0 < 2 ^ 30) → Wp X (Cl X (d + 6)) 10 Q (30, [some (.ref 35), some (.int it), some (.int (nI k)), some (.int (nI i))], [], rdw u le t r B N, 0, 0) = if (rdn B le k r.1.1 n i t N).1 = true then Wp X (Cl X (d + 6)) 10 Q (87, [some (.ref 35), some (.int it), some (.int (nI k)), some (.int (nI (numC k)))], [], rdw u le (rdn B le k r.1.1 n i t N).2.1 r B (rdn B le k r.1.1 n i t N).2.2, 0, 0) else Q (some (.int (nI 0))) (rdw u le (rdn B le k r.1.1 n i t N).2.1 r B (rdn B le k r.1.1 n i t N).2.2)
  | 0, i, t, N, e, ht, hN => by
    have h5 := numC_le k hk
    rw [s10_30]
    simp only [s10_31, s10_34, s10_35, s10_36, OpV_some, OpN_some, OpA_some, OpR_some, Option.toList_some, Option.toList_none, List.cons_append, List.nil_append, true_and, and_true, nI11, or_true, true_or, or_false, false_or, a1002, in_nI hk (show 4 < 2 ^ 31 by decide), cl_nI (show k < 2 ^ 31 by omega), nuf_at k hk, nI_ltN (show i < 2 ^ 31 by omega) (show numC k < 2 ^ 31 by omega), show ¬ i < numC k by omega, if_false, rdn, if_true]
    rw [show i = numC k by omega]
  | n + 1, i, t, N, e, ht, hN => by
    have h5 := numC_le k hk
    obtain ⟨a1, a2, a3, a4, a5, a6⟩ := tkn_ok B ht
    have ih := fun N' hN' => rw_nums_loop H h3 h4 hD1 hD hk it n (i + 1) (tkn B le t) N' (by omega) a3 hN'
    rw [s10_30]
    simp only [s10_31, s10_34, s10_35, s10_36, s10_39, s10_40, s10_41, s10_44, s10_45, s10_48, s10_49, s10_52, s10_53, s10_56, s10_57, OpV_some, OpN_some, OpA_some, OpR_some, Option.toList_some, Option.toList_none, List.cons_append, List.nil_append, true_and, and_true, nI11, or_true, true_or, or_false, false_or, a1002, in_nI hk (show 4 < 2 ^ 31 by decide), cl_nI (show k < 2 ^ 31 by omega), nuf_at k hk, nI_ltN (show i < 2 ^ 31 by omega) (show numC k < 2 ^ 31 by omega), show i < numC k by omega, if_true, rdw_f9 H, rdw_arN H, nI_ltN (show i < 2 ^ 31 by omega) (show 4 < 2 ^ 31 by decide), show i < 4 by omega, rdw_cl H, rw_next H h3 h4 ht, rdw_f7 H, nI_eqN (show (tkn B le t).2.2.1 < 2 ^ 31 by omega) (show 2 < 2 ^ 31 by decide), show (35 : Nat) < 1000 by decide, show (43 : Nat) < 1000 by decide]
    rw [rdn]
    by_cases q : (tkn B le t).2.2.1 = 2
    · have hv := a5 q
      simp only [q, if_true, s10_60, s10_61, s10_62, s10_63, s10_66, s10_69, s10_70, OpV_some, OpN_some, OpA_some, OpR_some, Option.toList_some, Option.toList_none, List.cons_append, List.nil_append, true_and, and_true, nI11, or_true, true_or, or_false, false_or, rdw_cl H, rw_isNum H hD1 hD (t := tkn B le t) (N := N) (show (tkn B le t).2.2.2 < 2 ^ 30 by omega) hN hk (show i < 4 by omega), nI_ite, b01_0, true_and, show (35 : Nat) < 1000 by decide]
      by_cases q2 : okN k i (tkn B le t).2.2.2 (N 0) r.1.1 = true
      · simp only [q2, not_true, if_true, if_false, s10_71, s10_72, s10_75, s10_76, s10_77, s10_80, s10_81, s10_84, OpV_some, OpN_some, OpA_some, OpR_some, Option.toList_some, Option.toList_none, List.cons_append, List.nil_append, true_and, and_true, nI11, or_true, true_or, or_false, false_or, rdw_f8 H, rdw_f9 H, rdw_arN H, in_nI (show i < 4 by omega) (show 4 < 2 ^ 31 by decide), cl_nI (show i < 2 ^ 31 by omega), rdw_N H, nI_add, show (35 : Nat) < 1000 by decide, show (43 : Nat) < 1000 by decide]
        refine ih _ fun hi => ?_
        have : i = 0 := by omega
        subst this
        unfold upN
        rw [if_pos rfl]
        omega
      · simp only [q2, not_false_eq_true, if_true, if_false, Bool.false_eq_true, s10_60, s10_61, s10_62, s10_63, s10_66, s10_69, s10_70, OpV_some, OpN_some, OpA_some, OpR_some, Option.toList_some, Option.toList_none, List.cons_append, List.nil_append, true_and, and_true, nI11, or_true, true_or, or_false, false_or, b01_0, and_false]
    · simp only [q, if_false, s10_60, s10_61, s10_62, s10_63, s10_66, s10_69, s10_70, OpV_some, OpN_some, OpA_some, OpR_some, Option.toList_some, Option.toList_none, List.cons_append, List.nil_append, true_and, and_true, nI11, or_true, true_or, or_false, false_or, b01_0, false_and, Bool.false_eq_true]
theorem mayB_2 {k it nR nP : Nat} (h : mayB k it nR nP = true) : (k = 2 → nR < 8) ∧ (k = 3 → nP < 4) ∧ (k = 0 → it = 0) := by
  unfold mayB at h
  refine ⟨fun e => ?_, fun e => ?_, fun e => ?_⟩ <;> subst e <;> simpa using h
theorem adI_rOK {k : Nat} {N : Nat → Nat} (hr : rOK r) (h0 : k = 0 → N 0 ≤ 8) (h2 : k = 2 → r.2.1.1 < 8) (h3 : k = 3 → r.2.2.1 < 4) (hk : k < 4) : rOK (adI k N r) := by
  obtain ⟨a, b, c⟩ := hr
  unfold adI rOK
  rcases (show k = 0 ∨ k = 1 ∨ k = 2 ∨ k = 3 by omega) with rfl | rfl | rfl | rfl
  · exact ⟨h0 rfl, b, c⟩
  · exact ⟨a, b, c⟩
  · exact ⟨a, h2 rfl, c⟩
  · exact ⟨a, b, h3 rfl⟩
/-- what an item that is one comes to -/
theorem rit_ok (hD1 : 2 ≤ r.1.1) (hr : rOK r) {it : Nat} {t : TS} {N : Nat → Nat} (ht : t.2.1 ≤ le) : (rit B le it t r N).2.1.2.1 ≤ le ∧ t.2.1 ≤ (rit B le it t r N).2.1.2.1 ∧ rOK (rit B le it t r N).2.2.1 ∧ 2 ≤ (rit B le it t r N).2.2.1.1.1 := by
  unfold rit
  generalize hk : itW B t.1 t.2.1 t.2.2.1 = k
  by_cases q : k < 4 ∧ mayB k it r.2.1.1 r.2.2.1 = true
  · rw [if_pos q]
    obtain ⟨m2, m3, m0⟩ := mayB_2 q.2
    obtain ⟨b1, b2, b3⟩ := rdn_ok B (k := k) (nS := r.1.1) (numC k) 0 t N ht (fun j hj => absurd hj (by omega))
    generalize rdn B le k r.1.1 (numC k) 0 t N = x at b1 b2 b3
    obtain ⟨a1, a2, a3, a4, a5, a6⟩ := tkn_ok B b1
    by_cases q2 : x.1 = true
    · rw [if_pos q2]
      by_cases q3 : (tkn B le x.2.1).2.2.1 = 3
      · rw [if_pos q3]
        have b4 := b3 q2
        have h0 : k = 0 → 2 ≤ x.2.2 0 ∧ x.2.2 0 ≤ 8 := fun e => by
          subst e
          have := b4 0 (by decide)
          unfold okN at this
          have := of_decide_eq_true this
          exact ⟨this.2.1, this.2.2⟩
        refine ⟨a3, by show t.2.1 ≤ (tkn B le x.2.1).2.1; omega, adI_rOK hr (fun e => (h0 e).2) m2 m3 q.1, ?_⟩
        show 2 ≤ (adI k x.2.2 r).1.1
        unfold adI
        by_cases e0 : k = 0
        · rw [if_pos e0]; exact (h0 e0).1
        · rw [if_neg e0]
          split
          · exact hD1
          · split <;> exact hD1
      · rw [if_neg q3]
        exact ⟨a3, by show t.2.1 ≤ (tkn B le x.2.1).2.1; omega, hr, hD1⟩
    · rw [if_neg q2]
      exact ⟨b1, b2, hr, hD1⟩
  · rw [if_neg q]
    exact ⟨ht, Nat.le_refl _, hr, hD1⟩
theorem itI_neg {k : Nat} : (itI k < 0) = ¬ k < 4 := by
  unfold itI
  by_cases h : k < 4
  · rw [if_pos h, nI_lt0 (by omega)]; simp [h]
  · rw [if_neg h]; simp [h]
theorem itW_le (B : Nat → Nat) (pl be tk : Nat) : itW B pl be tk ≤ 4 := by
  unfold itW
  repeat' split
  all_goals decide
theorem rw_readItem (H : 44 ≤ u.length) (h3 : le ≤ 300) (h4 : ∀ i, i < le → B i < 256) (hD1 : 2 ≤ r.1.1) (hr : rOK r) {it : Nat} (hit : it < 10000) {t : TS} {N : Nat → Nat} (hp : t.1 ≤ t.2.1) (ht : t.2.1 ≤ le) (htk : t.2.2.1 ≤ 4) : Cl X (d + 7) 10 [.ref 35, .int (nI it)] (rdw u le t r B N) Q = Q (some (.int (nI (if (rit B le it t r N).1 = true then 1 else 0)))) (rdw u le (rit B le it t r N).2.1 (rit B le it t r N).2.2.1 B (rit B le it t r N).2.2.2) := by
  rw [e10]
  simp only [s10_0, s10_1, s10_4, s10_5, s10_6, OpV_some, OpN_some, OpA_some, OpR_some, Option.toList_some, Option.toList_none, List.cons_append, List.nil_append, true_and, and_true, nI11, or_true, true_or, or_false, false_or, rdw_cl H, rw_item H h3 h4 hp ht (show t.2.2.1 < 2 ^ 31 by omega), itI_neg, show (35 : Nat) < 1000 by decide]
  unfold rit
  have hk4 := itW_le B t.1 t.2.1 t.2.2.1
  generalize itW B t.1 t.2.1 t.2.2.1 = k at hk4
  by_cases q : k < 4
  · have hI : itI k = nI k := if_pos q
    have hst : ∀ Q : am_Q, Cl X (d + 6) 12 [.ref 35, .int (nI k), .int (nI it)] (rdw u le t r B N) Q = Q (some (.int (nI (if mayB k it r.2.1.1 r.2.2.1 = true then 1 else 0)))) (rdw u le t r B N) := fun Q => rd_stand (rdw_ob H h3 h4) (rdw_R H hr.2.1) (rdw_P H hr.2.2) q hit
    simp only [q, not_true, if_false, true_and, hI, s10_9, s10_10, s10_13, s10_14, s10_17, s10_18, s10_19, s10_20, s10_23, s10_26, s10_27, OpV_some, OpN_some, OpA_some, OpR_some, Option.toList_some, Option.toList_none, List.cons_append, List.nil_append, true_and, and_true, nI11, or_true, true_or, or_false, false_or, a1002, nI_ltN (show k < 2 ^ 31 by omega) (show 4 < 2 ^ 31 by decide), if_true, rdw_cl H, hst, nI_ite, b01_0, show (35 : Nat) < 1000 by decide, show 1000 ≤ 1002 by decide]
    by_cases q1 : mayB k it r.2.1.1 r.2.2.1 = true
    · obtain ⟨m2, m3, m0⟩ := mayB_2 q1
      obtain ⟨b1, b2, b3⟩ := rdn_ok B (k := k) (nS := r.1.1) (numC k) 0 t N ht (fun j hj => absurd hj (by omega))
      simp only [q1, not_true, if_false, if_true, s10_28, s10_29, OpV_some, OpN_some, OpA_some, OpR_some, Option.toList_some, Option.toList_none, List.cons_append, List.nil_append, true_and, and_true, nI11, or_true, true_or, or_false, false_or]
      rw [rw_nums_loop H h3 h4 (by omega) hr.1 q (nI it) (numC k) 0 t N (by omega) ht (fun e => absurd e (by decide))]
      generalize rdn B le k r.1.1 (numC k) 0 t N = x at b1 b2 b3
      obtain ⟨a1, a2, a3, a4, a5, a6⟩ := tkn_ok B b1
      by_cases q2 : x.1 = true
      · simp only [q2, if_true, s10_87, s10_88, s10_91, s10_92, s10_95, s10_96, s10_99, s10_100, s10_101, s10_102, s10_103, s10_106, s10_107, OpV_some, OpN_some, OpA_some, OpR_some, Option.toList_some, Option.toList_none, List.cons_append, List.nil_append, true_and, and_true, nI11, or_true, true_or, or_false, false_or, rdw_cl H, rw_next H h3 h4 b1, rdw_f7 H, nI_eqN (show (tkn B le x.2.1).2.2.1 < 2 ^ 31 by omega) (show 3 < 2 ^ 31 by decide), b01_0, b01_1, show (35 : Nat) < 1000 by decide]
        have b4 := b3 q2
        by_cases q3 : (tkn B le x.2.1).2.2.1 = 3
        · simp only [q3, if_true]
          rw [rw_addItem H hr q (fun e => by
            subst e
            have := b4 0 (by decide)
            unfold okN at this
            exact (of_decide_eq_true this).2.2) (fun e => by
            subst e
            have := b4 0 (by decide)
            unfold okN at this
            have := (of_decide_eq_true this).2.2
            have e2 : msN r.1.1 (1 * 4 + 0) = r.1.1 - 1 := rfl
            rw [e2] at this
            omega) m2 m3]
          simp only [s10_87, s10_88, s10_91, s10_92, s10_95, s10_96, s10_99, s10_100, s10_101, s10_102, s10_103, s10_106, s10_107, OpV_some, OpN_some, OpA_some, OpR_some, Option.toList_some, Option.toList_none, List.cons_append, List.nil_append, true_and, and_true, nI11, or_true, true_or, or_false, false_or, b01_1]
        · simp only [q3, if_false, Bool.false_eq_true]
      · simp only [q2, if_false, Bool.false_eq_true]
    · simp only [q1, not_false_eq_true, if_true, if_false, Bool.false_eq_true, s10_26, s10_27, OpV_some, OpN_some, OpA_some, OpR_some, Option.toList_some, Option.toList_none, List.cons_append, List.nil_append, true_and, and_true, nI11, or_true, true_or, or_false, false_or, b01_0]
  · simp only [q, not_false_eq_true, if_true, if_false, false_and, Bool.false_eq_true, s10_26, s10_27, OpV_some, OpN_some, OpA_some, OpR_some, Option.toList_some, Option.toList_none, List.cons_append, List.nil_append, true_and, and_true, nI11, or_true, true_or, or_false, false_or, b01_0]
theorem rw_read_loop (H : 44 ≤ u.length) (h3 : le ≤ 300) (h4 : ∀ i, i < le → B i < 256) (l1 : Nat) (l2 : Int32) : ∀ (n it : Nat) (t : TS) (r : RSt) (N : Nat → Nat), it + n = 300 → 2 ≤ r.1.1 → rOK r → t.1 ≤ t.2.1 → t.2.1 ≤ le → t.2.2.1 ≤ 4 → Wp X (Cl X (d + 7)) 9 Q (58, [some (.ref 35), some (.ref l1), some (.int l2), some (.int (nI it))], [], rdw u le t r B N, 0, 0) = Q (some (.int (rlp B le n it t r N).1)) (rdw u le (rlp B le n it t r N).2.1 (rlp B le n it t r N).2.2.1 B (rlp B le n it t r N).2.2.2)
  | 0, it, t, r, N, e, hD1, hr, hp, ht, htk => by
    have hit : it = 300 := by omega
    subst hit
    rw [s9_58]
    simp only [s9_59, s9_62, s9_65, s9_66, s9_69, s9_72, s9_73, s9_74, s9_77, s9_80, s9_82, s9_83, s9_86, s9_87, s9_88, s9_91, s9_92, s9_95, s9_98, s9_99, OpV_some, OpN_some, OpA_some, OpR_some, Option.toList_some, Option.toList_none, List.cons_append, List.nil_append, true_and, and_true, nI11, or_true, true_or, or_false, false_or, rdw_f7 H, nI_eq0 (show t.2.2.1 < 2 ^ 31 by omega), show (nI 300 < nI 300) = False by decide, if_false, rlp, show (35 : Nat) < 1000 by decide, ite_self]
  | n + 1, it, t, r, N, e, hD1, hr, hp, ht, htk => by
    obtain ⟨c1, c2, c3, c4⟩ := rit_ok (B := B) (it := it) (N := N) hD1 hr ht
    rw [s9_58]
    rw [rlp]
    by_cases q : t.2.2.1 = 0
    · simp only [s9_59, s9_62, s9_98, s9_99, OpV_some, OpN_some, OpA_some, OpR_some, Option.toList_some, Option.toList_none, List.cons_append, List.nil_append, true_and, and_true, nI11, or_true, true_or, or_false, false_or, rdw_f7 H, q, show (nI 0 = 0) = True by decide, if_true, show (35 : Nat) < 1000 by decide]
    · simp only [s9_59, s9_62, s9_65, s9_66, s9_69, s9_72, s9_73, s9_74, s9_77, s9_80, s9_82, s9_83, s9_86, s9_87, OpV_some, OpN_some, OpA_some, OpR_some, Option.toList_some, Option.toList_none, List.cons_append, List.nil_append, true_and, and_true, nI11, or_true, true_or, or_false, false_or, rdw_f7 H, rdw_cl H, nI_eq0 (show t.2.2.1 < 2 ^ 31 by omega), q, if_false, nI_ltN (show it < 2 ^ 31 by omega) (show 300 < 2 ^ 31 by decide), show it < 300 by omega, if_true, rw_readItem H h3 h4 hD1 hr (show it < 10000 by omega) hp ht htk, nI_ite, rdw_f5 H, show (35 : Nat) < 1000 by decide]
      generalize rit B le it t r N = x at c1 c2 c3 c4
      by_cases q2 : x.1 = true
      · obtain ⟨a1, a2, a3, a4, a5, a6⟩ := tkn_ok B c1
        simp only [q2, not_true, if_false, if_true, s9_88, s9_91, s9_92, s9_95, OpV_some, OpN_some, OpA_some, OpR_some, Option.toList_some, Option.toList_none, List.cons_append, List.nil_append, true_and, and_true, nI11, or_true, true_or, or_false, false_or, nI_add, rdw_cl H, rw_next H h3 h4 c1, show (35 : Nat) < 1000 by decide]
        exact rw_read_loop H h3 h4 l1 l2 n (it + 1) _ _ _ (by omega) c4 c3 a2 a3 a4
      · simp only [q2, not_false_eq_true, if_true, if_false, Bool.false_eq_true]
end READ
