/-! a state that is as it should be stays so -/
def DRow (nR : Nat) (g : Nat → Nat) (nP : Nat) (p : Nat → Nat) (nS : Nat) (D : Nat → Nat) (i : Nat) : Prop := D (i * 7) ≤ 2 ∧
  (D (i * 7) = 2 → D (i * 7 + 1) < nR ∧ D (i * 7 + 2) = g (D (i * 7 + 1) * 5) ∧ D (i * 7 + 3) = g (D (i * 7 + 1) * 5 + 1) ∧ D (i * 7 + 4) = g (D (i * 7 + 1) * 5 + 2) ∧ D (i * 7 + 5) ≤ 999 ∧ D (i * 7 + 6) ≤ 1) ∧
  (D (i * 7) ≠ 2 → D (i * 7 + 1) < nP ∧ D (i * 7 + 2) < nS ∧ D (i * 7 + 3) ≤ 999 ∧ D (i * 7 + 4) = p (D (i * 7 + 1) * 5 + 2) ∧ D (i * 7 + 5) ≤ 99 ∧ D (i * 7 + 6) ≤ 1)
theorem DRow.cg {nR nP nS : Nat} {g p D D' : Nat → Nat} {i j : Nat} (h : DRow nR g nP p nS D j) (e : ∀ c, c < 7 → D' (i * 7 + c) = D (j * 7 + c)) : DRow nR g nP p nS D' i := by
  have e0 : D' (i * 7) = D (j * 7) := e 0 (by decide)
  unfold DRow at h ⊢
  rw [e0, e 1 (by decide), e 2 (by decide), e 3 (by decide), e 4 (by decide), e 5 (by decide), e 6 (by decide)]
  exact h
theorem DRow.tab {nR nP nS : Nat} {g p g' p' D : Nat → Nat} {i : Nat} (h : DRow nR g nP p nS D i) (hg : ∀ k, k < nR → g' (k * 5) = g (k * 5) ∧ g' (k * 5 + 1) = g (k * 5 + 1) ∧ g' (k * 5 + 2) = g (k * 5 + 2)) (hp : ∀ q, q < nP → p' (q * 5 + 2) = p (q * 5 + 2)) : DRow nR g' nP p' nS D i := by
  obtain ⟨h1, h2, h3⟩ := h
  refine ⟨h1, fun z => ?_, fun z => ?_⟩
  · obtain ⟨a1, a2, a3, a4, a5, a6⟩ := h2 z
    obtain ⟨b0, b1, b2⟩ := hg _ a1
    exact ⟨a1, a2.trans b0.symm, a3.trans b1.symm, a4.trans b2.symm, a5, a6⟩
  · obtain ⟨a1, a2, a3, a4, a5, a6⟩ := h3 z
    exact ⟨a1, a2, a3, a4.trans (hp _ a1).symm, a5, a6⟩
theorem goes_le (D : Nat → Nat) : ∀ n, goes D n ≤ n
  | 0 => Nat.le_refl _
  | n + 1 => by
    have := goes_le D n
    unfold goes
    split <;> omega
theorem goes_cg {D D' : Nat → Nat} : ∀ n, (∀ i, i < n → D' (i * 7) = D (i * 7)) → goes D' n = goes D n
  | 0, _ => rfl
  | n + 1, h => by
    unfold goes
    rw [goes_cg n (fun i hi => h i (by omega)), h n (by omega)]
theorem goes_sh {D D' : Nat → Nat} : ∀ n, (∀ i, i < n → D' (i * 7) = D ((i + 1) * 7)) → goes D' n ≤ goes D (n + 1)
  | 0, _ => Nat.zero_le _
  | n + 1, h => by
    have ih := goes_sh n (fun i hi => h i (by omega))
    have e : goes D (n + 1 + 1) = goes D (n + 1) + (if D ((n + 1) * 7) = 0 then 1 else 0) := rfl
    rw [e]
    show goes D' n + (if D' (n * 7) = 0 then 1 else 0) ≤ _
    rw [h n (by omega)]
    omega
theorem dnew_ok {nR nP nS : Nat} {g p D O : Nat → Nat} {nD so r : Nat} (hD : nD ≤ 10) (h : ∀ i, i < nD → DRow nR g nP p nS D i) (hs : so ≤ 2) (h2 : so = 2 → r < nR ∧ O (r * 5) = g (r * 5) ∧ O (r * 5 + 1) = g (r * 5 + 1) ∧ O (r * 5 + 2) = g (r * 5 + 2) ∧ O (r * 5 + 3) ≤ 999 ∧ O (r * 5 + 4) ≤ 1) (h3 : so ≠ 2 → r < nP ∧ O (r * 5) < nS ∧ O (r * 5 + 1) ≤ 999 ∧ O (r * 5 + 2) = p (r * 5 + 2) ∧ O (r * 5 + 3) ≤ 99 ∧ O (r * 5 + 4) ≤ 1) :
    adN 10 nD ≤ 10 ∧ (∀ i, i < adN 10 nD → DRow nR g nP p nS (dnew D nD so r O) i) ∧ goes (dnew D nD so r O) (adN 10 nD) ≤ goes D nD + (if so = 0 then 1 else 0) := by
  obtain ⟨p0, p1, p2⟩ := dnew_new D nD so r O
  have p22 := p2 0 (by decide)
  have p23 := p2 1 (by decide)
  have p24 := p2 2 (by decide)
  have p25 := p2 3 (by decide)
  have p26 := p2 4 (by decide)
  have key : ∃ l, adN 10 nD = l + 1 ∧ l ≤ 9 ∧ (∀ i, i < l → DRow nR g nP p nS (dnew D nD so r O) i) ∧ goes (dnew D nD so r O) l ≤ goes D nD := by
    by_cases q : nD < 10
    · have ha : adN 10 nD = nD + 1 := if_pos q
      refine ⟨nD, ha, by omega, fun i hi => (h i hi).cg fun c hc => ?_, ?_⟩
      · rw [dnew_old _ _ hD (by omega), if_pos q]
      · rw [goes_cg nD fun i hi => by rw [dnew_old _ _ hD (by omega), if_pos q]]
        exact Nat.le_refl _
    · have ha : adN 10 nD = nD := if_neg q
      have e10 : nD = 10 := by omega
      refine ⟨9, by omega, by omega, fun i hi => (h (i + 1) (by omega)).cg fun c hc => ?_, ?_⟩
      · rw [dnew_old _ _ hD (by omega), if_neg q, show i * 7 + c + 7 = (i + 1) * 7 + c by omega]
      · have := goes_sh (D := D) (D' := dnew D nD so r O) 9 (fun i hi => by rw [dnew_old _ _ hD (by omega), if_neg q, show i * 7 + 7 = (i + 1) * 7 by omega])
        rw [e10] at this ⊢
        exact this
  obtain ⟨l, ha, hl, hrows, hg⟩ := key
  rw [ha, Nat.add_sub_cancel] at p0 p1 p22 p23 p24 p25 p26
  rw [ha]
  refine ⟨by omega, fun i hi => ?_, ?_⟩
  · by_cases q : i < l
    · exact hrows i q
    · have : i = l := by omega
      subst this
      have p22' : dnew D nD so r O (i * 7 + 2) = O (r * 5) := p22
      have p23' : dnew D nD so r O (i * 7 + 3) = O (r * 5 + 1) := p23
      have p24' : dnew D nD so r O (i * 7 + 4) = O (r * 5 + 2) := p24
      have p25' : dnew D nD so r O (i * 7 + 5) = O (r * 5 + 3) := p25
      have p26' : dnew D nD so r O (i * 7 + 6) = O (r * 5 + 4) := p26
      unfold DRow
      rw [p0, p1, p22', p23', p24', p25', p26']
      exact ⟨hs, h2, h3⟩
  · show goes (dnew D nD so r O) l + (if dnew D nD so r O (l * 7) = 0 then 1 else 0) ≤ _
    rw [p0]
    omega
theorem Same.rf (n : NSt) : Same n n := ⟨rfl, rfl, fun _ _ => ⟨rfl, rfl, rfl⟩, fun _ _ => rfl⟩
section VAL
variable {s : CSt}
theorem Valid.onNow (V : Valid s) {n' : NSt} (h : NowOK n' s.2.1.1) (hs : Same s.2.2.1 n') : Valid (st_now s n') := by
  obtain ⟨v1, v2, v3, v4, v5, v6⟩ := V
  refine ⟨v1, v2, v3, h, v5, fun i hi => ⟨(v6 i hi).1, fun z => ?_⟩⟩
  obtain ⟨w1, w2⟩ := (v6 i hi).2 z
  obtain ⟨s1, s2, s3, s4⟩ := hs
  refine ⟨w1, w2.1.trans s1, w2.2.1.trans s2, fun k hk => ?_, fun q hq => ?_⟩
  · have hk2 : k < n'.1.1 := hk
    obtain ⟨a0, a1, a2⟩ := w2.2.2.1 k (by omega)
    obtain ⟨b0, b1, b2⟩ := s3 k hk
    exact ⟨a0.trans b0, a1.trans b1, a2.trans b2⟩
  · have hq2 : q < n'.2.1.1 := hq
    exact (w2.2.2.2 q (by omega)).trans (s4 q hq)
theorem Valid.rows (V : Valid s) : ∀ i, i < s.2.2.1.2.2.1.1 → DRow s.2.2.1.1.1 s.2.2.1.1.2 s.2.2.1.2.1.1 s.2.2.1.2.1.2 s.2.1.1 s.2.2.1.2.2.1.2 i := V.2.2.2.1.2.2.2.1.2.2
theorem V_clear (V : Valid s) : Valid (st_tl s 0) := ⟨Nat.zero_le _, fun i hi => absurd hi (Nat.not_lt_zero _), V.2.2⟩
theorem V_forget (V : Valid s) : Valid (st_seen s (0, s.2.2.2.1.2)) := ⟨V.1, V.2.1, V.2.2.1, V.2.2.2.1, ⟨Nat.zero_le _, fun i hi => absurd hi (Nat.not_lt_zero _)⟩, V.2.2.2.2.2⟩
theorem V_type (V : Valid s) (v : Int64) (n : Int32) : Valid (sp_type s v n).2 := by
  unfold sp_type
  split
  · split
    · exact V
    · rename_i h1 h2
      refine ⟨by show s.1.1 + cl n ≤ 300; omega, fun i hi => ?_, V.2.2⟩
      have hi2 : i < s.1.1 + cl n := hi
      show tyL v (cl n) s.1.1 s.1.2 i < 256
      rw [tyL_at]
      split
      · exact by_lt _ _
      · exact V.2.1 i (by omega)
  · exact V
theorem V_saw (V : Valid s) (x t : Int32) : Valid (sp_saw s x t).2 := by
  have hS := Rel.nS V
  unfold sp_saw
  split
  · rename_i hc
    split
    · rename_i h6
      obtain ⟨hx, ht⟩ := hc
      obtain ⟨j, hj, rfl⟩ : ∃ j, j < s.2.1.1 ∧ x = nI j := (ix x (by omega)).resolve_right (not_not_intro hx)
      obtain ⟨k, hk, rfl⟩ : ∃ j, j < 1000 ∧ t = nI j := (ix t (by decide)).resolve_right (not_not_intro ht)
      rw [cl_of (show j < 2 ^ 31 by omega), cl_of (show k < 2 ^ 31 by omega)]
      refine ⟨V.1, V.2.1, V.2.2.1, V.2.2.2.1, ⟨by show s.2.2.2.1.1 + 1 ≤ 6; omega, fun i hi => ?_⟩, V.2.2.2.2.2⟩
      have hi2 : i < s.2.2.2.1.1 + 1 := hi
      show upN (upN s.2.2.2.1.2 (s.2.2.2.1.1 * 2) j) (s.2.2.2.1.1 * 2 + 1) k (i * 2) < s.2.1.1 ∧ upN (upN s.2.2.2.1.2 (s.2.2.2.1.1 * 2) j) (s.2.2.2.1.1 * 2 + 1) k (i * 2 + 1) ≤ 999
      by_cases e : i = s.2.2.2.1.1
      · subst e
        rw [upN_n _ _ (by omega), upN_s, upN_s]
        exact ⟨hj, by omega⟩
      · rw [upN_n _ _ (by omega), upN_n _ _ (by omega), upN_n _ _ (by omega), upN_n _ _ (by omega)]
        exact V.2.2.2.2.1.2 i (by omega)
    · exact V
  · exact V
theorem V_mk (V : Valid s) (m : Int64) : Valid (st_mk s m) := V
theorem V_mkk (V : Valid s) (k : Nat) : Valid (mkk s k) := V_mk V _
theorem V_rate (V : Valid s) (x y : Int32) : Valid (sp_rate s x y).2 := by
  unfold sp_rate sp_rateN
  split
  · split
    · exact V_mkk V 0
    · split
      · exact V_mkk (V_mkk V 1) 0
      · split
        · exact V_mkk (V_mkk V 2) 0
        · split
          · exact V_mkk (V_mkk (V_mkk V 3) 1) 0
          · split
            · exact V_mkk (V_mkk (V_mkk V 4) 2) 0
            · exact V_mkk (V_mkk V 5) 0
  · exact V
/-- ropes that change by start and stop alone -/
theorem V_ropes (V : Valid s) {k : Nat} (hk : k < s.2.2.1.1.1) {g' : Nat → Nat} (e3 : g' (k * 5 + 3) ≤ 999) (e4 : g' (k * 5 + 4) ≤ 1) (ec : ∀ q c, q < s.2.2.1.1.1 → c < 5 → (q ≠ k ∨ c < 3) → g' (q * 5 + c) = s.2.2.1.1.2 (q * 5 + c)) : Valid (st_now s (st_ropes (st_deed s.2.2.1 2 k s.2.2.1.1.2) g')) := by
  obtain ⟨n1, n2, n3, n4, n5, n6⟩ := V.2.2.2.1
  obtain ⟨g1, g2, g3, g4, g5, g6, g7⟩ := n1.2 k hk
  have c012 : ∀ q, q < s.2.2.1.1.1 → g' (q * 5) = s.2.2.1.1.2 (q * 5) ∧ g' (q * 5 + 1) = s.2.2.1.1.2 (q * 5 + 1) ∧ g' (q * 5 + 2) = s.2.2.1.1.2 (q * 5 + 2) := fun q hq => ⟨ec q 0 hq (by decide) (Or.inr (by decide)), ec q 1 hq (by decide) (Or.inr (by decide)), ec q 2 hq (by decide) (Or.inr (by decide))⟩
  obtain ⟨d1, d2, d3⟩ := dnew_ok (so := 2) (r := k) (O := s.2.2.1.1.2) n4.1 V.rows (by decide) (fun _ => ⟨hk, rfl, rfl, rfl, g6, g7⟩) (fun z => absurd rfl z)
  refine V.onNow ⟨⟨n1.1, fun q hq => ?_⟩, fun q hq => ?_, n3, ⟨d1, ?_, fun i hi => (d2 i hi).tab c012 (fun _ _ => rfl)⟩, n5, n6⟩ ⟨rfl, rfl, fun q hq => ?_, fun _ _ => rfl⟩
  · have hq2 : q < s.2.2.1.1.1 := hq
    obtain ⟨b0, b1, b2⟩ := c012 q hq2
    obtain ⟨x1, x2, x3, x4, x5, x6, x7⟩ := n1.2 q hq2
    show g' (q * 5) < s.2.1.1 ∧ g' (q * 5 + 1) < s.2.1.1 ∧ g' (q * 5) ≠ g' (q * 5 + 1) ∧ 1 ≤ g' (q * 5 + 2) ∧ g' (q * 5 + 2) ≤ 11 ∧ g' (q * 5 + 3) ≤ 999 ∧ g' (q * 5 + 4) ≤ 1
    rw [b0, b1, b2]
    refine ⟨x1, x2, x3, x4, x5, ?_, ?_⟩
    · by_cases e : q = k
      · rw [e]; exact e3
      · rw [ec q 3 hq2 (by decide) (Or.inl e)]; exact x6
    · by_cases e : q = k
      · rw [e]; exact e4
      · rw [ec q 4 hq2 (by decide) (Or.inl e)]; exact x7
  · have hq2 : q < s.2.2.1.1.1 := hq
    show g' (q * 5 + 2) ≤ 9
    rw [(c012 q hq2).2.2]
    exact n2 q hq2
  · exact Nat.le_trans d3 n4.2.1
  · have hq2 : q < s.2.2.1.1.1 := hq
    obtain ⟨b0, b1, b2⟩ := c012 q hq2
    exact ⟨b0.symm, b1.symm, b2.symm⟩
theorem V_stop (V : Valid s) (x : Int32) : Valid (sp_stop s x).2 := by
  have hR := Rel.nR V
  unfold sp_stop
  split
  · rename_i hx
    obtain ⟨k, hk, rfl⟩ : ∃ j, j < s.2.2.1.1.1 ∧ x = nI j := (ix x (by omega)).resolve_right (not_not_intro hx)
    rw [cl_of (show k < 2 ^ 31 by omega)]
    split
    · exact V
    · refine V_ropes V hk ?_ ?_ fun q c hq hc ho => upN_n _ _ (by omega)
      · rw [upN_n _ _ (by omega)]; exact (V.2.2.2.1.1.2 k hk).2.2.2.2.2.1
      · rw [upN_s]; exact Nat.le_refl _
  · exact V
theorem V_push (V : Valid s) (x t : Int32) : Valid (sp_push s x t).2 := by
  have hR := Rel.nR V
  unfold sp_push
  split
  · rename_i hc
    obtain ⟨hx, ht⟩ := hc
    obtain ⟨k, hk, rfl⟩ : ∃ j, j < s.2.2.1.1.1 ∧ x = nI j := (ix x (by omega)).resolve_right (not_not_intro hx)
    obtain ⟨m, hm, rfl⟩ : ∃ j, j < 1000 ∧ t = nI j := (ix t (by decide)).resolve_right (not_not_intro ht)
    rw [cl_of (show k < 2 ^ 31 by omega), cl_of (show m < 2 ^ 31 by omega)]
    refine V_ropes V hk ?_ ?_ fun q c hq hc ho => (upN_n _ _ (by omega)).trans (upN_n _ _ (by omega))
    · rw [upN_n _ _ (by omega), upN_s]; omega
    · rw [upN_s]; exact Nat.zero_le _
  · exact V
/-- riders that change but for their grips -/
theorem V_riders (V : Valid s) {r so : Nat} (hr : r < s.2.2.1.2.1.1) (hso : so = 0 ∨ so = 1) {p' : Nat → Nat} {nM : Nat} {M : Nat → Nat} (e0 : p' (r * 5) < s.2.1.1) (e1 : p' (r * 5 + 1) ≤ 999) (e3 : p' (r * 5 + 3) ≤ 99) (e4 : p' (r * 5 + 4) ≤ 1) (ec : ∀ q c, q < s.2.2.1.2.1.1 → c < 5 → (q ≠ r ∨ c = 2) → p' (q * 5 + c) = s.2.2.1.2.1.2 (q * 5 + c)) (hM : nM ≤ 10) (hM2 : ∀ t, t < nM * 4 → M t ≤ 999) (hgo : goes (dnew s.2.2.1.2.2.1.2 s.2.2.1.2.2.1.1 so r s.2.2.1.2.1.2) (adN 10 s.2.2.1.2.2.1.1) ≤ nM) : Valid (st_now s (s.2.2.1.1, (s.2.2.1.2.1.1, p'), (adN 10 s.2.2.1.2.2.1.1, dnew s.2.2.1.2.2.1.2 s.2.2.1.2.2.1.1 so r s.2.2.1.2.1.2), (nM, M))) := by
  obtain ⟨n1, n2, n3, n4, n5, n6⟩ := V.2.2.2.1
  obtain ⟨r1, r2, r3, r4, r5, r6⟩ := n3.2 r hr
  obtain ⟨d1, d2, d3⟩ := dnew_ok (so := so) (r := r) (O := s.2.2.1.2.1.2) n4.1 V.rows (by omega) (fun z => absurd z (by omega)) (fun _ => ⟨hr, r1, r2, rfl, r5, r6⟩)
  refine V.onNow ⟨n1, n2, ⟨n3.1, fun q hq => ?_⟩, ⟨d1, hgo, fun i hi => (d2 i hi).tab (fun _ _ => ⟨rfl, rfl, rfl⟩) (fun q hq => ec q 2 hq (by decide) (Or.inr rfl))⟩, hM, hM2⟩ ⟨rfl, rfl, fun _ _ => ⟨rfl, rfl, rfl⟩, fun q hq => (ec q 2 hq (by decide) (Or.inr rfl)).symm⟩
  have hq2 : q < s.2.2.1.2.1.1 := hq
  obtain ⟨x1, x2, x3, x4, x5, x6⟩ := n3.2 q hq2
  show p' (q * 5) < s.2.1.1 ∧ p' (q * 5 + 1) ≤ 999 ∧ 1 ≤ p' (q * 5 + 2) ∧ p' (q * 5 + 2) ≤ 5 ∧ p' (q * 5 + 3) ≤ 99 ∧ p' (q * 5 + 4) ≤ 1
  rw [ec q 2 hq2 (by decide) (Or.inr rfl)]
  by_cases e : q = r
  · subst e
    exact ⟨e0, e1, x3, x4, e3, e4⟩
  · have c0 : p' (q * 5) = s.2.2.1.2.1.2 (q * 5) := ec q 0 hq2 (by decide) (Or.inl e)
    rw [c0, ec q 1 hq2 (by decide) (Or.inl e), ec q 3 hq2 (by decide) (Or.inl e), ec q 4 hq2 (by decide) (Or.inl e)]
    exact ⟨x1, x2, x3, x4, x5, x6⟩
theorem V_goes (V : Valid s) {r so : Nat} (hr : r < s.2.2.1.2.1.1) (hso : so = 0 ∨ so = 1) : goes (dnew s.2.2.1.2.2.1.2 s.2.2.1.2.2.1.1 so r s.2.2.1.2.1.2) (adN 10 s.2.2.1.2.2.1.1) ≤ s.2.2.1.2.2.2.1 + (if so = 0 then 1 else 0) ∧ goes (dnew s.2.2.1.2.2.1.2 s.2.2.1.2.2.1.1 so r s.2.2.1.2.1.2) (adN 10 s.2.2.1.2.2.1.1) ≤ 10 := by
  obtain ⟨n1, n2, n3, n4, n5, n6⟩ := V.2.2.2.1
  obtain ⟨r1, r2, r3, r4, r5, r6⟩ := n3.2 r hr
  obtain ⟨d1, d2, d3⟩ := dnew_ok (so := so) (r := r) (O := s.2.2.1.2.1.2) n4.1 V.rows (by omega) (fun z => absurd z (by omega)) (fun _ => ⟨hr, r1, r2, rfl, r5, r6⟩)
  have := n4.2.1
  have := goes_le (dnew s.2.2.1.2.2.1.2 s.2.2.1.2.2.1.1 so r s.2.2.1.2.1.2) (adN 10 s.2.2.1.2.2.1.1)
  omega
theorem V_waits (V : Valid s) (x n : Int32) : Valid (sp_waits s x n).2 := by
  have hP := Rel.nP V
  unfold sp_waits
  split
  · rename_i hc
    obtain ⟨hx, hn⟩ := hc
    obtain ⟨r, hr, rfl⟩ : ∃ j, j < s.2.2.1.2.1.1 ∧ x = nI j := (ix x (by omega)).resolve_right (not_not_intro hx)
    rw [cl_of (show r < 2 ^ 31 by omega)]
    split
    · exact V
    · rename_i h9
      obtain ⟨r1, r2, r3, r4, r5, r6⟩ := V.2.2.2.1.2.2.1.2 r hr
      have hg := (V_goes V hr (so := 1) (Or.inr rfl)).1
      rw [if_neg (by decide), Nat.add_zero] at hg
      refine V_riders V hr (Or.inr rfl) ?_ ?_ ?_ ?_ (fun q c hq hc ho => upN_n _ _ (by omega)) V.2.2.2.1.2.2.2.2.1 V.2.2.2.1.2.2.2.2.2 hg
      · rw [upN_n _ _ (by omega)]; exact r1
      · rw [upN_s]; omega
      · rw [upN_n _ _ (by omega)]; exact r5
      · rw [upN_n _ _ (by omega)]; exact r6
  · exact V
theorem V_go (V : Valid s) (x y : Int32) : Valid (sp_go s x y).2 := by
  have hP := Rel.nP V
  have hR := Rel.nR V
  unfold sp_go
  split
  · rename_i hc
    obtain ⟨hx, hy⟩ := hc
    obtain ⟨r, hr, rfl⟩ : ∃ j, j < s.2.2.1.2.1.1 ∧ x = nI j := (ix x (by omega)).resolve_right (not_not_intro hx)
    obtain ⟨k, hk, rfl⟩ : ∃ j, j < s.2.2.1.1.1 ∧ y = nI j := (ix y (by omega)).resolve_right (not_not_intro hy)
    rw [cl_of (show r < 2 ^ 31 by omega), cl_of (show k < 2 ^ 31 by omega)]
    unfold sp_goN
    split
    · exact V
    · split
      · rename_i hc
        obtain ⟨n1, n2, n3, n4, n5, n6⟩ := V.2.2.2.1
        obtain ⟨r1, r2, r3, r4, r5, r6⟩ := n3.2 r hr
        have hg := V_goes V hr (so := 0) (Or.inl rfl)
        rw [if_pos rfl] at hg
        have hsn : (sp_goR s r k).2.1 < s.2.1.1 := rdg_sill n1 hk _ _ _ r1
        have hgt : fat s.2.2.1.1.2 k (s.2.2.1.2.1.2 (r * 5)) (s.2.2.1.2.1.2 (r * 5 + 1)) < (sp_goR s r k).1 := rdg_gt n1 hk _ _ _ r3
        have h9 := hc.2
        generalize sp_goR s r k = z at hsn hgt h9
        have ha : adN 10 s.2.2.1.2.2.2.1 ≤ 10 ∧ 1 ≤ adN 10 s.2.2.1.2.2.2.1 ∧ goes (dnew s.2.2.1.2.2.1.2 s.2.2.1.2.2.1.1 0 r s.2.2.1.2.1.2) (adN 10 s.2.2.1.2.2.1.1) ≤ adN 10 s.2.2.1.2.2.2.1 := by
          unfold adN at hg ⊢
          by_cases q : s.2.2.1.2.2.2.1 < 10
          · rw [if_pos q]; omega
          · rw [if_neg q]; omega
        refine V_riders V hr (Or.inl rfl) ?_ ?_ ?_ ?_ (fun q c hq hc ho => (((upN_n _ _ (by omega)).trans (upN_n _ _ (by omega))).trans (upN_n _ _ (by omega))).trans (upN_n _ _ (by omega))) ha.1 (fun t ht => ?_) ha.2.2
        · rw [upN_n _ _ (by omega), upN_n _ _ (by omega), upN_n _ _ (by omega), upN_s]; exact hsn
        · rw [upN_n _ _ (by omega), upN_n _ _ (by omega), upN_s]; exact h9
        · rw [upN_n _ _ (by omega), upN_s]; omega
        · rw [upN_s]; split <;> decide
        · obtain ⟨p0, p1, p2, p3⟩ := mnew_new s.2.2.1.2.2.2.2 s.2.2.1.2.2.2.1 r k (fat s.2.2.1.1.2 k (s.2.2.1.2.1.2 (r * 5)) (s.2.2.1.2.1.2 (r * 5 + 1))) z.1
          by_cases q : t < (adN 10 s.2.2.1.2.2.2.1 - 1) * 4
          · rw [mnew_old _ n5 q]
            unfold adN at q
            split
            · rename_i hlt
              rw [if_pos hlt] at q
              exact n6 t (by omega)
            · rename_i hlt
              rw [if_neg hlt] at q
              exact n6 (t + 4) (by omega)
          · rcases (show t = (adN 10 s.2.2.1.2.2.2.1 - 1) * 4 ∨ t = (adN 10 s.2.2.1.2.2.2.1 - 1) * 4 + 1 ∨ t = (adN 10 s.2.2.1.2.2.2.1 - 1) * 4 + 2 ∨ t = (adN 10 s.2.2.1.2.2.2.1 - 1) * 4 + 3 by omega) with e | e | e | e <;> rw [e]
            · rw [p0]; omega
            · rw [p1]; omega
            · rw [p2]; omega
            · rw [p3]; exact h9
      · exact V
  · exact V
theorem V_undo (V : Valid s) : Valid (sp_undo s).2 := by
  unfold sp_undo
  split
  · exact V
  · rename_i h0
    obtain ⟨n1, n2, n3, n4, n5, n6⟩ := V.2.2.2.1
    obtain ⟨l, hl⟩ : ∃ l, s.2.2.1.2.2.1.1 = l + 1 := ⟨s.2.2.1.2.2.1.1 - 1, by omega⟩
    have hl1 : s.2.2.1.2.2.1.1 - 1 = l := by omega
    obtain ⟨k0, k2, k3⟩ := V.rows l (by omega)
    have hgo := n4.2.1
    rw [hl] at hgo
    have hgo2 : goes s.2.2.1.2.2.1.2 l + (if s.2.2.1.2.2.1.2 (l * 7) = 0 then 1 else 0) ≤ s.2.2.1.2.2.2.1 := hgo
    have hrow : ∀ i, i < l → DRow s.2.2.1.1.1 s.2.2.1.1.2 s.2.2.1.2.1.1 s.2.2.1.2.1.2 s.2.1.1 s.2.2.1.2.2.1.2 i := fun i hi => V.rows i (by omega)
    have hl10 : l ≤ 10 := by have := n4.1; omega
    unfold st_undo
    rw [hl1]
    by_cases h2 : s.2.2.1.2.2.1.2 (l * 7) = 2
    · obtain ⟨x1, x2, x3, x4, x5, x6⟩ := k2 h2
      rw [if_pos h2, if_pos h2, if_neg (by omega)]
      rw [if_neg (by omega)] at hgo2
      generalize s.2.2.1.2.2.1.2 (l * 7 + 1) = w at x1 x2 x3 x4
      have c012 : ∀ q, q < s.2.2.1.1.1 → tgo l w s.2.2.1.2.2.1.2 5 0 s.2.2.1.1.2 (q * 5) = s.2.2.1.1.2 (q * 5) ∧ tgo l w s.2.2.1.2.2.1.2 5 0 s.2.2.1.1.2 (q * 5 + 1) = s.2.2.1.1.2 (q * 5 + 1) ∧ tgo l w s.2.2.1.2.2.1.2 5 0 s.2.2.1.1.2 (q * 5 + 2) = s.2.2.1.1.2 (q * 5 + 2) := fun q hq => by
        by_cases e : q = w
        · subst e
          exact ⟨(tgo_in (c := 0) (by decide)).trans x2, (tgo_in (c := 1) (by decide)).trans x3, (tgo_in (c := 2) (by decide)).trans x4⟩
        · exact ⟨tgo_out (c := 0) (by decide) e, tgo_out (by decide) e, tgo_out (by decide) e⟩
      refine V.onNow ⟨⟨n1.1, fun q hq => ?_⟩, fun q hq => ?_, n3, ⟨hl10, by show goes s.2.2.1.2.2.1.2 l ≤ s.2.2.1.2.2.2.1; omega, fun i hi => (hrow i hi).tab c012 (fun _ _ => rfl)⟩, n5, n6⟩ ⟨rfl, rfl, fun q hq => ⟨(c012 q hq).1.symm, (c012 q hq).2.1.symm, (c012 q hq).2.2.symm⟩, fun _ _ => rfl⟩
      · have hq2 : q < s.2.2.1.1.1 := hq
        obtain ⟨b0, b1, b2⟩ := c012 q hq2
        obtain ⟨y1, y2, y3, y4, y5, y6, y7⟩ := n1.2 q hq2
        show tgo l w s.2.2.1.2.2.1.2 5 0 s.2.2.1.1.2 (q * 5) < s.2.1.1 ∧ tgo l w s.2.2.1.2.2.1.2 5 0 s.2.2.1.1.2 (q * 5 + 1) < s.2.1.1 ∧ tgo l w s.2.2.1.2.2.1.2 5 0 s.2.2.1.1.2 (q * 5) ≠ tgo l w s.2.2.1.2.2.1.2 5 0 s.2.2.1.1.2 (q * 5 + 1) ∧ 1 ≤ tgo l w s.2.2.1.2.2.1.2 5 0 s.2.2.1.1.2 (q * 5 + 2) ∧ tgo l w s.2.2.1.2.2.1.2 5 0 s.2.2.1.1.2 (q * 5 + 2) ≤ 11 ∧ tgo l w s.2.2.1.2.2.1.2 5 0 s.2.2.1.1.2 (q * 5 + 3) ≤ 999 ∧ tgo l w s.2.2.1.2.2.1.2 5 0 s.2.2.1.1.2 (q * 5 + 4) ≤ 1
        rw [b0, b1, b2]
        refine ⟨y1, y2, y3, y4, y5, ?_, ?_⟩
        · by_cases e : q = w
          · subst e; rw [tgo_in (c := 3) (by decide)]; exact x5
          · rw [tgo_out (by decide) e]; exact y6
        · by_cases e : q = w
          · subst e; rw [tgo_in (c := 4) (by decide)]; exact x6
          · rw [tgo_out (by decide) e]; exact y7
      · have hq2 : q < s.2.2.1.1.1 := hq
        show tgo l w s.2.2.1.2.2.1.2 5 0 s.2.2.1.1.2 (q * 5 + 2) ≤ 9
        rw [(c012 q hq2).2.2]
        exact n2 q hq2
    · obtain ⟨x1, x2, x3, x4, x5, x6⟩ := k3 h2
      rw [if_neg h2, if_neg h2]
      generalize s.2.2.1.2.2.1.2 (l * 7 + 1) = w at x1 x4
      have c2 : ∀ q, q < s.2.2.1.2.1.1 → tgo l w s.2.2.1.2.2.1.2 5 0 s.2.2.1.2.1.2 (q * 5 + 2) = s.2.2.1.2.1.2 (q * 5 + 2) := fun q hq => by
        by_cases e : q = w
        · subst e
          exact (tgo_in (c := 2) (by decide)).trans x4
        · exact tgo_out (by decide) e
      have hM : (if s.2.2.1.2.2.1.2 (l * 7) = 0 then s.2.2.1.2.2.2.1 - 1 else s.2.2.1.2.2.2.1) ≤ s.2.2.1.2.2.2.1 ∧ goes s.2.2.1.2.2.1.2 l ≤ (if s.2.2.1.2.2.1.2 (l * 7) = 0 then s.2.2.1.2.2.2.1 - 1 else s.2.2.1.2.2.2.1) := by
        split at hgo2
        · rename_i hz; rw [if_pos hz]; omega
        · rename_i hz; rw [if_neg hz]; omega
      refine V.onNow ⟨n1, n2, ⟨n3.1, fun q hq => ?_⟩, ⟨hl10, hM.2, fun i hi => (hrow i hi).tab (fun _ _ => ⟨rfl, rfl, rfl⟩) c2⟩, by have := hM.1; show (if s.2.2.1.2.2.1.2 (l * 7) = 0 then s.2.2.1.2.2.2.1 - 1 else s.2.2.1.2.2.2.1) ≤ 10; omega, fun t ht => n6 t (by
        have ht2 : t < (if s.2.2.1.2.2.1.2 (l * 7) = 0 then s.2.2.1.2.2.2.1 - 1 else s.2.2.1.2.2.2.1) * 4 := ht
        have := Nat.mul_le_mul_right 4 hM.1
        omega)⟩ ⟨rfl, rfl, fun _ _ => ⟨rfl, rfl, rfl⟩, fun q hq => (c2 q hq).symm⟩
      have hq2 : q < s.2.2.1.2.1.1 := hq
      obtain ⟨y1, y2, y3, y4, y5, y6⟩ := n3.2 q hq2
      show tgo l w s.2.2.1.2.2.1.2 5 0 s.2.2.1.2.1.2 (q * 5) < s.2.1.1 ∧ tgo l w s.2.2.1.2.2.1.2 5 0 s.2.2.1.2.1.2 (q * 5 + 1) ≤ 999 ∧ 1 ≤ tgo l w s.2.2.1.2.2.1.2 5 0 s.2.2.1.2.1.2 (q * 5 + 2) ∧ tgo l w s.2.2.1.2.2.1.2 5 0 s.2.2.1.2.1.2 (q * 5 + 2) ≤ 5 ∧ tgo l w s.2.2.1.2.2.1.2 5 0 s.2.2.1.2.1.2 (q * 5 + 3) ≤ 99 ∧ tgo l w s.2.2.1.2.2.1.2 5 0 s.2.2.1.2.1.2 (q * 5 + 4) ≤ 1
      rw [c2 q hq2]
      by_cases e : q = w
      · subst e
        have t0 : tgo l q s.2.2.1.2.2.1.2 5 0 s.2.2.1.2.1.2 (q * 5) = s.2.2.1.2.2.1.2 (l * 7 + 2) := tgo_in (c := 0) (by decide)
        rw [t0, tgo_in (c := 1) (by decide), tgo_in (c := 3) (by decide), tgo_in (c := 4) (by decide)]
        exact ⟨x2, x3, y3, y4, x5, x6⟩
      · have t0 : tgo l w s.2.2.1.2.2.1.2 5 0 s.2.2.1.2.1.2 (q * 5) = s.2.2.1.2.1.2 (q * 5) := tgo_out (c := 0) (by decide) e
        rw [t0, tgo_out (by decide) e, tgo_out (by decide) e, tgo_out (by decide) e]
        exact ⟨y1, y2, y3, y4, y5, y6⟩
end VAL
