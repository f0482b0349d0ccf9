/-! Valid by keep, back, city; the new state -/
theorem cpN_lt (f g : Nat → Nat) {n i : Nat} (h : i < n) : cpN f g n i = f i := if_pos h
theorem goes_cgz {D D' : Nat → Nat} : ∀ n, (∀ i, i < n → D' (i * 7) = D (i * 7)) → goes D' n = goes D n
  | 0, _ => rfl
  | n + 1, h => by
    unfold goes
    rw [goes_cgz n fun i hi => h i (by omega), h n (by omega)]
theorem cpNow_ok {n : NSt} (o : NSt) {nS : Nat} (h : NowOK n nS) : NowOK (cpNow n o) nS := by
  obtain ⟨n1, n2, n3, n4, n5, n6⟩ := h
  have h1 := n1.1
  have h3 := n3.1
  have h4 := n4.1
  have eR : ∀ k c, k < n.1.1 → c < 5 → (cpNow n o).1.2 (k * 5 + c) = n.1.2 (k * 5 + c) := fun k c hk hc => cpN_lt _ _ (by omega)
  have eR0 : ∀ k, k < n.1.1 → (cpNow n o).1.2 (k * 5) = n.1.2 (k * 5) := fun k hk => eR k 0 hk (by decide)
  have eP : ∀ k c, k < n.2.1.1 → c < 5 → (cpNow n o).2.1.2 (k * 5 + c) = n.2.1.2 (k * 5 + c) := fun k c hk hc => cpN_lt _ _ (by omega)
  have eP0 : ∀ k, k < n.2.1.1 → (cpNow n o).2.1.2 (k * 5) = n.2.1.2 (k * 5) := fun k hk => eP k 0 hk (by decide)
  have eD : ∀ k c, k < n.2.2.1.1 → c < 7 → (cpNow n o).2.2.1.2 (k * 7 + c) = n.2.2.1.2 (k * 7 + c) := fun k c hk hc => cpN_lt _ _ (by omega)
  refine ⟨⟨h1, fun k hk => ?_⟩, fun k hk => ?_, ⟨h3, fun k hk => ?_⟩, ⟨h4, ?_, fun i hi => ?_⟩, n5, fun t ht => ?_⟩
  · have hk2 : k < n.1.1 := hk
    rw [eR0 k hk2, eR k 1 hk2 (by decide), eR k 2 hk2 (by decide), eR k 3 hk2 (by decide), eR k 4 hk2 (by decide)]
    exact n1.2 k hk2
  · have hk2 : k < n.1.1 := hk
    rw [eR k 2 hk2 (by decide)]
    exact n2 k hk2
  · have hk2 : k < n.2.1.1 := hk
    rw [eP0 k hk2, eP k 1 hk2 (by decide), eP k 2 hk2 (by decide), eP k 3 hk2 (by decide), eP k 4 hk2 (by decide)]
    exact n3.2 k hk2
  · refine Nat.le_trans (Nat.le_of_eq (goes_cgz _ fun i hi => eD i 0 hi (by decide))) n4.2.1
  · have hi2 : i < n.2.2.1.1 := hi
    have dr : DRow n.1.1 n.1.2 n.2.1.1 n.2.1.2 nS n.2.2.1.2 i := n4.2.2 i hi2
    have dr2 : DRow n.1.1 n.1.2 n.2.1.1 n.2.1.2 nS (cpNow n o).2.2.1.2 i := dr.cg fun c hc => eD i c hi2 hc
    exact dr2.tab (fun k hk => ⟨eR0 k hk, eR k 1 hk (by decide), eR k 2 hk (by decide)⟩) (fun q hq => eP q 2 hq (by decide))
  · have ht2 : t < n.2.2.2.1 * 4 := ht
    have : (cpNow n o).2.2.2.2 t = n.2.2.2.2 t := cpN_lt _ _ (by omega)
    rw [this]
    exact n6 t ht2
theorem cpNow_same {n : NSt} (o : NSt) {nS : Nat} (h : NowOK n nS) : Same (cpNow n o) n := by
  obtain ⟨n1, n2, n3, n4, n5, n6⟩ := h
  have h1 := n1.1
  have h3 := n3.1
  exact ⟨rfl, rfl, fun k hk => ⟨cpN_lt _ _ (by omega), cpN_lt _ _ (by omega), cpN_lt _ _ (by omega)⟩, fun r hr => cpN_lt _ _ (by omega)⟩
theorem Same.sy {a b : NSt} (h : Same a b) : Same b a := by
  obtain ⟨h1, h2, h3, h4⟩ := h
  exact ⟨h1.symm, h2.symm, fun k hk => ⟨(h3 k (by omega)).1.symm, (h3 k (by omega)).2.1.symm, (h3 k (by omega)).2.2.symm⟩, fun r hr => (h4 r (by omega)).symm⟩
theorem Same.tr {a b c : NSt} (h : Same a b) (g : Same b c) : Same a c := by
  obtain ⟨h1, h2, h3, h4⟩ := h
  obtain ⟨g1, g2, g3, g4⟩ := g
  refine ⟨h1.trans g1, h2.trans g2, fun k hk => ?_, fun r hr => (h4 r (by omega)).trans (g4 r hr)⟩
  obtain ⟨a0, a1, a2⟩ := h3 k (by omega)
  obtain ⟨b0, b1, b2⟩ := g3 k hk
  exact ⟨a0.trans b0, a1.trans b1, a2.trans b2⟩
section VALIDB
variable {s : CSt}
theorem V_keep (V : Valid s) (x : Int32) : Valid (sp_keep s x).2 := by
  unfold sp_keep
  split
  · obtain ⟨v1, v2, v3, v4, v5, v6⟩ := V
    refine ⟨v1, v2, v3, v4, v5, fun i hi => ?_⟩
    show upN s.2.2.2.2.1 (cl x) 1 i ≤ 1 ∧ (upN s.2.2.2.2.1 (cl x) 1 i = 1 → NowOK (updI s.2.2.2.2.2.1 (cl x) (cpNow s.2.2.1 (s.2.2.2.2.2.1 (cl x))) i) s.2.1.1 ∧ Same (updI s.2.2.2.2.2.1 (cl x) (cpNow s.2.2.1 (s.2.2.2.2.2.1 (cl x))) i) s.2.2.1)
    unfold upN updI
    by_cases q : i = cl x
    · rw [if_pos q, if_pos q]
      exact ⟨Nat.le_refl _, fun _ => ⟨cpNow_ok _ v4, cpNow_same _ v4⟩⟩
    · rw [if_neg q, if_neg q]
      exact v6 i hi
  · exact V
theorem V_back (V : Valid s) (x : Int32) : Valid (sp_back s x).2 := by
  unfold sp_back
  split
  · rename_i hx
    obtain ⟨k, hk, rfl⟩ : ∃ j, j < 2 ∧ x = nI j := (ix x (by decide)).resolve_right (not_not_intro hx)
    rw [cl_of (show k < 2 ^ 31 by omega)]
    split
    · exact V
    · rename_i h0
      have hv := V.2.2.2.2.2 k hk
      obtain ⟨w1, w2⟩ := hv.2 (by omega)
      exact V.onNow (cpNow_ok _ w1) (w2.sy.tr (cpNow_same _ w1).sy)
  · exact V
theorem rlp_V (B : Nat → Nat) {le : Nat} : ∀ (n it : Nat) (t : TS) (r : RSt) (N : Nat → Nat), t.2.1 ≤ le → RdV r → (it = 0 → r.2.1.1 = 0 ∧ r.2.2.1 = 0) → ¬ (rlp B le n it t r N).1 < 0 → RdV (rlp B le n it t r N).2.2.1
  | 0, it, t, r, N, ht, hr, h0, _ => hr
  | n + 1, it, t, r, N, ht, hr, h0, hn => by
    unfold rlp at hn ⊢
    by_cases hE : t.2.2.1 = 0
    · rw [if_pos hE]; exact hr
    · rw [if_neg hE] at hn ⊢
      by_cases hI : itW B t.1 t.2.1 t.2.2.1 < 4 ∧ mayB (itW B t.1 t.2.1 t.2.2.1) it r.2.1.1 r.2.2.1 = true
      · obtain ⟨c1, c2, c3⟩ := rdn_ok B (k := itW B t.1 t.2.1 t.2.2.1) (nS := r.1.1) (numC (itW B t.1 t.2.1 t.2.2.1)) 0 t N ht (fun j hj => absurd hj (by omega))
        by_cases z : (rdn B le (itW B t.1 t.2.1 t.2.2.1) r.1.1 (numC (itW B t.1 t.2.1 t.2.2.1)) 0 t N).1 = true
        · have hy := rit_yes (le := le) (N := N) hI z
          have hV := adI_V hr hI.1 (fun i hi => c3 z i (by omega)) hI.2 h0
          rw [hy] at hn ⊢
          generalize rdn B le (itW B t.1 t.2.1 t.2.2.1) r.1.1 (numC (itW B t.1 t.2.1 t.2.2.1)) 0 t N = x at c1 c2 c3 z hn hV hy
          obtain ⟨y1, y2, y3, y4, y5, y6⟩ := tkn_ok B c1
          by_cases q : (tkn B le x.2.1).2.2.1 = 3
          · rw [if_pos q, if_pos rfl] at hn ⊢
            exact rlp_V B n (it + 1) _ _ _ (tkn_ok B y3).2.2.1 hV (fun z => absurd z (by omega)) hn
          · rw [if_neg q, if_neg (show ¬ (false = true) by decide)]
            exact hr
        · obtain ⟨hz1, hz2⟩ := rit_nums (le := le) (N := N) hI (Bool.eq_false_iff.mpr z)
          have hz3 : (rit B le it t r N).2.2.1 = r := by
            unfold rit
            rw [if_pos hI, if_neg z]
          rw [if_neg (by rw [hz1]; decide)]
          show RdV (rit B le it t r N).2.2.1
          rw [hz3]
          exact hr
      · have hno := rit_no (le := le) (N := N) hI
        rw [hno, if_neg (show ¬ (false = true) by decide)]
        exact hr
theorem V_stcity (V : Valid s) {r : RSt} (h : RdV r) : Valid (st_city s r) := by
  obtain ⟨r1, r2, r3, r4, r5⟩ := h
  have b1 := r1.2.1
  have b2 := r2.1
  have b4 := r4.1
  refine ⟨Nat.zero_le _, fun i hi => absurd hi (Nat.not_lt_zero _), ⟨r1.1, b1, fun q hq => ?_⟩, ⟨⟨b2, fun k hk => ?_⟩, fun k hk => ?_, ⟨b4, fun q hq => ?_⟩, ⟨Nat.zero_le _, Nat.le_refl _, fun i hi => absurd hi (Nat.not_lt_zero _)⟩, Nat.zero_le _, fun t ht => absurd ht (by show ¬ t < 0 * 4; omega)⟩, ⟨Nat.zero_le _, fun i hi => absurd hi (Nat.not_lt_zero _)⟩, fun i hi => ?_⟩
  · have hq2 : q < r.1.1 := hq
    show 1 ≤ cpN r.1.2 s.2.1.2 (8 * 2) (q * 2) ∧ cpN r.1.2 s.2.1.2 (8 * 2) (q * 2) ≤ 9 ∧ 1 ≤ cpN r.1.2 s.2.1.2 (8 * 2) (q * 2 + 1) ∧ cpN r.1.2 s.2.1.2 (8 * 2) (q * 2 + 1) ≤ 9
    rw [cpN_lt _ _ (by omega), cpN_lt _ _ (by omega)]
    exact r1.2.2 q hq2
  · have hk2 : k < r.2.1.1 := hk
    have e : ∀ c, c < 5 → (st_city s r).2.2.1.1.2 (k * 5 + c) = r.2.1.2 (k * 5 + c) := fun c hc => cpN_lt _ _ (by omega)
    have e0 : (st_city s r).2.2.1.1.2 (k * 5) = r.2.1.2 (k * 5) := e 0 (by decide)
    rw [e0, e 1 (by decide), e 2 (by decide), e 3 (by decide), e 4 (by decide)]
    exact r2.2 k hk2
  · have hk2 : k < r.2.1.1 := hk
    have e : (st_city s r).2.2.1.1.2 (k * 5 + 2) = r.2.1.2 (k * 5 + 2) := cpN_lt _ _ (by omega)
    rw [e]
    exact (r3 k hk2).1
  · have hq2 : q < r.2.2.1 := hq
    have e : ∀ c, c < 5 → (st_city s r).2.2.1.2.1.2 (q * 5 + c) = r.2.2.2 (q * 5 + c) := fun c hc => cpN_lt _ _ (by omega)
    have e0 : (st_city s r).2.2.1.2.1.2 (q * 5) = r.2.2.2 (q * 5) := e 0 (by decide)
    rw [e0, e 1 (by decide), e 2 (by decide), e 3 (by decide), e 4 (by decide)]
    exact r4.2 q hq2
  · have e : (st_city s r).2.2.2.2.1 i = 0 := by
      show upN (upN s.2.2.2.2.1 0 0) 1 0 i = 0
      rcases (show i = 0 ∨ i = 1 by omega) with rfl | rfl
      · rw [upN_n _ _ (by omega), upN_s]
      · rw [upN_s]
    rw [e]
    exact ⟨Nat.zero_le _, fun z => absurd z (by omega)⟩
theorem V_city (V : Valid s) (t : TS) (r : RSt) (B N : Nat → Nat) : Valid (sp_city s t r B N).2 := by
  unfold sp_city
  split
  · exact V
  · rename_i hn
    refine V_stcity V ?_
    unfold rdF at hn ⊢
    refine rlp_V _ 300 0 _ _ N (tkn_ok _ (Nat.zero_le _)).2.2.1 ?_ (fun _ => ⟨rfl, rfl⟩) hn
    refine ⟨⟨by show 2 ≤ 4; decide, by show 4 ≤ 8; decide, fun q hq => ?_⟩, ⟨by show 0 ≤ 8; decide, fun k hk => absurd hk (Nat.not_lt_zero _)⟩, fun k hk => absurd hk (Nat.not_lt_zero _), ⟨by show 0 ≤ 4; decide, fun k hk => absurd hk (Nat.not_lt_zero _)⟩, fun k hk => absurd hk (Nat.not_lt_zero _)⟩
    have hq2 : q < 4 := hq
    show 1 ≤ ssl 4 0 r.1.2 (q * 2) ∧ ssl 4 0 r.1.2 (q * 2) ≤ 9 ∧ 1 ≤ ssl 4 0 r.1.2 (q * 2 + 1) ∧ ssl 4 0 r.1.2 (q * 2 + 1) ≤ 9
    rw [ssl_at, ssl_at, if_pos (by omega), if_pos (by omega)]
    decide
theorem V_s0 : Valid s0 := by
  refine ⟨Nat.zero_le _, fun i hi => absurd hi (Nat.not_lt_zero _), ⟨by show 2 ≤ 4; decide, by show 4 ≤ 8; decide, fun q hq => ?_⟩, ⟨⟨Nat.zero_le _, fun i hi => absurd hi (Nat.not_lt_zero _)⟩, fun i hi => absurd hi (Nat.not_lt_zero _), ⟨Nat.zero_le _, fun i hi => absurd hi (Nat.not_lt_zero _)⟩, ⟨Nat.zero_le _, Nat.le_refl _, fun i hi => absurd hi (Nat.not_lt_zero _)⟩, Nat.zero_le _, fun t ht => absurd ht (by show ¬ t < 0 * 4; omega)⟩, ⟨Nat.zero_le _, fun i hi => absurd hi (Nat.not_lt_zero _)⟩, fun i hi => ⟨Nat.zero_le _, fun z => absurd z (by show ¬ 0 = 1; decide)⟩⟩
  have hq2 : q < 4 := hq
  show 1 ≤ cpN (ssl 4 0 z0) z0 (8 * 2) (q * 2) ∧ cpN (ssl 4 0 z0) z0 (8 * 2) (q * 2) ≤ 9 ∧ 1 ≤ cpN (ssl 4 0 z0) z0 (8 * 2) (q * 2 + 1) ∧ cpN (ssl 4 0 z0) z0 (8 * 2) (q * 2 + 1) ≤ 9
  rw [cpN_lt _ _ (by omega), cpN_lt _ _ (by omega), ssl_at, ssl_at, if_pos (by omega), if_pos (by omega)]
  decide
end VALIDB
