/-! drifts: the two ways to tell them give the same -/
def dmf (U : Nat → Bool) (g : Nat → Nat) (base : Nat) : Nat → Nat → Nat → (Nat → Nat) → (Nat → Nat)
  | 0, _, _, f => f
  | n + 1, k, l, f => if U k = true then dmf U g base n (k + 1) (l / base) (upN f (k * 5 + 2) (g (k * 5 + 2) + l % base)) else dmf U g base n (k + 1) l f
def dmp (U : Nat → Bool) (base : Nat) : Nat → Nat → Nat
  | 0, _ => 1
  | n + 1, k => (if U k = true then base else 1) * dmp U base n (k + 1)
/-- ropes whose beats are by less than so much more than told -/
def Adj (base : Nat) (g f : Nat → Nat) : Prop := ∀ k, (g (k * 5 + 2) ≤ f (k * 5 + 2) ∧ f (k * 5 + 2) < g (k * 5 + 2) + base) ∧ f (k * 5) = g (k * 5) ∧ f (k * 5 + 1) = g (k * 5 + 1) ∧ f (k * 5 + 3) = g (k * 5 + 3) ∧ f (k * 5 + 4) = g (k * 5 + 4)
theorem Adj.rf {base : Nat} (hb : 0 < base) (g : Nat → Nat) : Adj base g g := fun k => ⟨⟨Nat.le_refl _, by omega⟩, rfl, rfl, rfl, rfl⟩
theorem Adj.up {base : Nat} {g f : Nat → Nat} (h : Adj base g f) {q b : Nat} (hb : b < base) : Adj base g (upN f (q * 5 + 2) (g (q * 5 + 2) + b)) := fun k => by
  obtain ⟨⟨a1, a2⟩, a3, a4, a5, a6⟩ := h k
  refine ⟨?_, (upN_n _ _ (by omega)).trans a3, (upN_n _ _ (by omega)).trans a4, (upN_n _ _ (by omega)).trans a5, (upN_n _ _ (by omega)).trans a6⟩
  by_cases e : k = q
  · subst e
    rw [upN_s]
    omega
  · rw [upN_n _ _ (by omega)]
    exact ⟨a1, a2⟩
theorem drf_adj {L g : Nat → Nat} {nR base : Nat} (hb : 0 < base) : ∀ (n i l : Nat) (f : Nat → Nat), Adj base g f → Adj base g (drf L g nR base n i l f)
  | 0, i, l, f, h => h
  | n + 1, i, l, f, h => by
    unfold drf
    refine drf_adj hb n (i + 1) _ _ ?_
    split
    · exact h.up (Nat.mod_lt _ hb)
    · exact h
theorem dmf_adj {U : Nat → Bool} {g : Nat → Nat} {base : Nat} (hb : 0 < base) : ∀ (n k l : Nat) (f : Nat → Nat), Adj base g f → Adj base g (dmf U g base n k l f)
  | 0, k, l, f, h => h
  | n + 1, k, l, f, h => by
    unfold dmf
    split
    · exact dmf_adj hb n (k + 1) _ _ (h.up (Nat.mod_lt _ hb))
    · exact dmf_adj hb n (k + 1) _ _ h
theorem drf_sur {L g : Nat → Nat} {nR base : Nat} {β : Nat → Nat} (hβ : ∀ k, β k < base) : ∀ (n i : Nat) (f : Nat → Nat), ∃ l, l < base ^ n ∧ ∀ k, k < nR → ((∃ j, i ≤ j ∧ j < i + n ∧ L j = k) → drf L g nR base n i l f (k * 5 + 2) = g (k * 5 + 2) + β k) ∧ ((¬ ∃ j, i ≤ j ∧ j < i + n ∧ L j = k) → drf L g nR base n i l f (k * 5 + 2) = f (k * 5 + 2))
  | 0, i, f => ⟨0, by rw [Nat.pow_zero]; exact Nat.one_pos, fun k _ => ⟨fun ⟨j, h1, h2, _⟩ => absurd h2 (by omega), fun _ => rfl⟩⟩
  | n + 1, i, f => by
    have hb : 0 < base := Nat.lt_of_le_of_lt (Nat.zero_le _) (hβ 0)
    obtain ⟨l, hl, h⟩ := drf_sur hβ (L := L) (g := g) (nR := nR) n (i + 1) (if L i < nR then upN f (L i * 5 + 2) (g (L i * 5 + 2) + β (L i)) else f)
    have hm : (β (L i) + base * l) % base = β (L i) := by rw [Nat.add_mul_mod_self_left, Nat.mod_eq_of_lt (hβ _)]
    have hd : (β (L i) + base * l) / base = l := by rw [Nat.add_mul_div_left _ _ hb, Nat.div_eq_of_lt (hβ _), Nat.zero_add]
    refine ⟨β (L i) + base * l, ?_, fun k hk => ?_⟩
    · have h1 : base * (l + 1) ≤ base * base ^ n := Nat.mul_le_mul_left _ hl
      have h2 := hβ (L i)
      rw [Nat.pow_succ', Nat.mul_add] at *
      omega
    · unfold drf
      rw [hm, hd]
      obtain ⟨p, q⟩ := h k hk
      by_cases e : ∃ j, i + 1 ≤ j ∧ j < i + 1 + n ∧ L j = k
      · refine ⟨fun _ => p e, fun hn => absurd ?_ hn⟩
        obtain ⟨j, a1, a2, a3⟩ := e
        exact ⟨j, by omega, by omega, a3⟩
      · rw [q e]
        by_cases e2 : L i = k
        · rw [e2, if_pos hk, upN_s]
          exact ⟨fun _ => rfl, fun hn => absurd ⟨i, Nat.le_refl _, by omega, e2⟩ hn⟩
        · have e3 : (if L i < nR then upN f (L i * 5 + 2) (g (L i * 5 + 2) + β (L i)) else f) (k * 5 + 2) = f (k * 5 + 2) := by
            split
            · exact upN_n _ _ (by omega)
            · rfl
          rw [e3]
          refine ⟨fun hj => ?_, fun _ => rfl⟩
          obtain ⟨j, a1, a2, a3⟩ := hj
          have : j ≠ i := fun q => e2 (q ▸ a3)
          exact absurd ⟨j, by omega, by omega, a3⟩ e
theorem dmf_sur {U : Nat → Bool} {g : Nat → Nat} {base : Nat} {β : Nat → Nat} (hβ : ∀ k, β k < base) : ∀ (n k : Nat) (f : Nat → Nat), ∃ l, l < dmp U base n k ∧ ∀ q, (k ≤ q ∧ q < k + n ∧ U q = true → dmf U g base n k l f (q * 5 + 2) = g (q * 5 + 2) + β q) ∧ (q < k → dmf U g base n k l f (q * 5 + 2) = f (q * 5 + 2))
  | 0, k, f => ⟨0, by show 0 < 1; decide, fun q => ⟨fun ⟨_, h2, _⟩ => absurd h2 (by omega), fun _ => rfl⟩⟩
  | n + 1, k, f => by
    have hb : 0 < base := Nat.lt_of_le_of_lt (Nat.zero_le _) (hβ 0)
    by_cases hU : U k = true
    · obtain ⟨l, hl, h⟩ := dmf_sur hβ (U := U) (g := g) n (k + 1) (upN f (k * 5 + 2) (g (k * 5 + 2) + β k))
      have hm : (β k + base * l) % base = β k := by rw [Nat.add_mul_mod_self_left, Nat.mod_eq_of_lt (hβ _)]
      have hd : (β k + base * l) / base = l := by rw [Nat.add_mul_div_left _ _ hb, Nat.div_eq_of_lt (hβ _), Nat.zero_add]
      refine ⟨β k + base * l, ?_, fun q => ?_⟩
      · unfold dmp
        rw [if_pos hU]
        have h1 : base * (l + 1) ≤ base * dmp U base n (k + 1) := Nat.mul_le_mul_left _ hl
        have h2 := hβ k
        rw [Nat.mul_add] at h1
        omega
      · unfold dmf
        rw [if_pos hU, hm, hd]
        obtain ⟨p1, p2⟩ := h q
        refine ⟨fun ⟨a1, a2, a3⟩ => ?_, fun a1 => ?_⟩
        · by_cases e : q = k
          · subst e
            rw [p2 (by omega), upN_s]
          · exact p1 ⟨by omega, by omega, a3⟩
        · rw [p2 (by omega), upN_n _ _ (by omega)]
    · obtain ⟨l, hl, h⟩ := dmf_sur hβ (U := U) (g := g) n (k + 1) f
      refine ⟨l, ?_, fun q => ?_⟩
      · unfold dmp
        rw [if_neg hU, Nat.one_mul]
        exact hl
      · unfold dmf
        rw [if_neg hU]
        obtain ⟨p1, p2⟩ := h q
        refine ⟨fun ⟨a1, a2, a3⟩ => ?_, fun a1 => p2 (by omega)⟩
        by_cases e : q = k
        · subst e
          exact absurd a3 hU
        · exact p1 ⟨by omega, by omega, a3⟩
/-! a ride is by its own rope's numbers alone -/
def eqK (g g' : Nat → Nat) (k : Nat) : Prop := g (k * 5) = g' (k * 5) ∧ g (k * 5 + 1) = g' (k * 5 + 1) ∧ g (k * 5 + 2) = g' (k * 5 + 2) ∧ g (k * 5 + 3) = g' (k * 5 + 3) ∧ g (k * 5 + 4) = g' (k * 5 + 4)
theorem oth_k {g g' : Nat → Nat} {k : Nat} (h : eqK g g' k) (s : Nat) : oth g k s = oth g' k s := by
  obtain ⟨h0, h1, h2, h3, h4⟩ := h
  unfold oth
  rw [h0, h1]
theorem canB_k {g g' : Nat → Nat} {k : Nat} (h : eqK g g' k) (nR s : Nat) : canB g nR k s = canB g' nR k s := by
  obtain ⟨h0, h1, h2, h3, h4⟩ := h
  unfold canB
  rw [h0, h1, h4]
theorem fat_k {g g' : Nat → Nat} {k : Nat} (h : eqK g g' k) (s t : Nat) : fat g k s t = fat g' k s t := by
  obtain ⟨h0, h1, h2, h3, h4⟩ := h
  unfold fat
  rw [h0, h2, h3]
theorem rdg_k {h g g' : Nat → Nat} {k : Nat} (e : eqK g g' k) : ∀ (n t s : Nat), rdg h g k n t s = rdg h g' k n t s
  | 0, t, s => rfl
  | n + 1, t, s => by
    unfold rdg
    rw [oth_k e, e.2.2.1, rdg_k e n]
theorem rid_k {h g g' : Nat → Nat} {k : Nat} (e : eqK g g' k) (G s t : Nat) : rid h g k G s t = rid h g' k G s t := by
  unfold rid
  rw [fat_k e, rdg_k e]
theorem flw_k {h g g' : Nat → Nat} {nR G sz : Nat} {F : Nat → Nat} (e : ∀ j, j < sz → eqK g g' (F j)) : ∀ (n i si mi : Nat), i + n ≤ sz → flw h g nR G F sz n i si mi = flw h g' nR G F sz n i si mi
  | 0, i, si, mi, _ => rfl
  | n + 1, i, si, mi, he => by
    unfold flw
    rw [canB_k (e (sz - 1 - i) (by omega)), rid_k (e (sz - 1 - i) (by omega))]
    split
    · exact flw_k e n (i + 1) _ _ (by omega)
    · rfl
theorem flw_no {h g : Nat → Nat} {nR G sz : Nat} {F : Nat → Nat} : ∀ (n i si mi : Nat), i + n = sz → (∃ j, i ≤ j ∧ j < sz ∧ nR ≤ F (sz - 1 - j)) → (flw h g nR G F sz n i si mi).1 < sz
  | 0, i, si, mi, he, ⟨j, h1, h2, h3⟩ => by omega
  | n + 1, i, si, mi, he, ⟨j, h1, h2, h3⟩ => by
    unfold flw
    by_cases c : canB g nR (F (sz - 1 - i)) si = true ∧ (rid h g (F (sz - 1 - i)) G si mi).1 ≤ 999 ∧ (rid h g (F (sz - 1 - i)) G si mi).2.2 = false
    · rw [if_pos c]
      have hlt : F (sz - 1 - i) < nR := by
        have := c.1
        unfold canB at this
        simp at this
        exact this.1
      have : j ≠ i := fun q => by subst q; omega
      exact flw_no n (i + 1) _ _ (by omega) ⟨j, by omega, h2, h3⟩
    · rw [if_neg c]
      show i < sz
      omega
theorem isN_iff (L : Nat → Nat) (x : Nat) : ∀ (n j : Nat) (b : Bool), isN L x n j b = true → ∀ q, j ≤ q → q < j + n → L q ≠ x
  | 0, j, b, h, q, h1, h2 => by omega
  | n + 1, j, b, h, q, h1, h2 => by
    unfold isN at h
    by_cases e : q = j
    · subst e
      intro hq
      have : ∀ (n j : Nat), isN L x n j false = false := by
        intro n
        induction n with
        | zero => intro j; rfl
        | succ n ih => intro j; unfold isN; rw [Bool.false_and]; exact ih _
      rw [hq] at h
      simp only [ne_eq, not_true, decide_false, Bool.and_false] at h
      rw [this] at h
      cases h
    · exact isN_iff L x n (j + 1) _ h q (by omega) (by omega)
theorem isN_new (L : Nat → Nat) (x : Nat) : ∀ (n j : Nat), (∀ q, j ≤ q → q < j + n → L q ≠ x) → isN L x n j true = true
  | 0, j, _ => rfl
  | n + 1, j, h => by
    unfold isN
    have : decide (L j ≠ x) = true := decide_eq_true (h j (Nat.le_refl _) (by omega))
    rw [this]
    exact isN_new L x n (j + 1) fun q h1 h2 => h q (by omega) (by omega)
theorem lus_cov {F : Nat → Nat} {sz : Nat} : ∀ (n i un : Nat) (L : Nat → Nat), i + n = sz → (∀ j, j < i → ∃ q, q < un ∧ L q = F (sz - 1 - j)) → ∀ j, j < sz → ∃ q, q < (lus F sz n i un L).1 ∧ (lus F sz n i un L).2 q = F (sz - 1 - j)
  | 0, i, un, L, e, h => fun j hj => h j (by omega)
  | n + 1, i, un, L, e, h => by
    unfold lus
    by_cases c : isN L (F (sz - 1 - i)) un 0 true = true
    · rw [if_pos c]
      refine lus_cov n (i + 1) _ _ (by omega) fun j hj => ?_
      by_cases e2 : j = i
      · subst e2
        exact ⟨un, by omega, upN_s _ _ _⟩
      · obtain ⟨q, q1, q2⟩ := h j (by omega)
        exact ⟨q, by omega, (upN_n _ _ (by omega)).trans q2⟩
    · rw [if_neg c]
      refine lus_cov n (i + 1) _ _ (by omega) fun j hj => ?_
      by_cases e2 : j = i
      · subst e2
        have : ∃ q, q < un ∧ L q = F (sz - 1 - j) := by
          apply Classical.byContradiction
          intro hn
          exact c (isN_new L _ un 0 fun q _ h2 hq => hn ⟨q, by omega, hq⟩)
        exact this
      · exact h j (by omega)
/-- what one way to tell drifts gives, the other gives too -/
theorem drift_eq {h g F L : Nat → Nat} {U : Nat → Bool} {nR G sz un base a t : Nat} (hb : 0 < base) (hU : ∀ k, k < nR → (U k = true ↔ ∃ j, j < sz ∧ F j = k)) (hL : ∀ j, j < sz → ∃ q, q < un ∧ L q = F (sz - 1 - j)) :
    (∀ c, c < base ^ un → (flw h (drf L g nR base un 0 c g) nR G F sz sz 0 a t).1 = sz → ∃ w, w < dmp U base nR 0 ∧ flw h (dmf U g base nR 0 w g) nR G F sz sz 0 a t = flw h (drf L g nR base un 0 c g) nR G F sz sz 0 a t) ∧
    (∀ w, w < dmp U base nR 0 → (flw h (dmf U g base nR 0 w g) nR G F sz sz 0 a t).1 = sz → ∃ c, c < base ^ un ∧ flw h (drf L g nR base un 0 c g) nR G F sz sz 0 a t = flw h (dmf U g base nR 0 w g) nR G F sz sz 0 a t) := by
  have hlt : ∀ g', (flw h g' nR G F sz sz 0 a t).1 = sz → ∀ j, j < sz → F j < nR := fun g' hs j hj => by
    apply Classical.byContradiction
    intro hn
    have := flw_no (h := h) (g := g') (nR := nR) (G := G) (F := F) (sz := sz) sz 0 a t (by omega) ⟨sz - 1 - j, by omega, by omega, by rw [show sz - 1 - (sz - 1 - j) = j by omega]; omega⟩
    omega
  constructor
  · intro c hc hs
    have hF := hlt _ hs
    have A1 := drf_adj (L := L) (nR := nR) hb un 0 c g (Adj.rf hb g)
    obtain ⟨w, hw, hws⟩ := dmf_sur (U := U) (g := g) (β := fun k => drf L g nR base un 0 c g (k * 5 + 2) - g (k * 5 + 2)) (base := base) (fun k => by have := (A1 k).1; omega) nR 0 g
    refine ⟨w, hw, flw_k (fun j hj => ?_) sz 0 a t (by omega)⟩
    obtain ⟨⟨a1, a2⟩, a3, a4, a5, a6⟩ := A1 (F j)
    have B1 := dmf_adj (U := U) hb nR 0 w g (Adj.rf hb g)
    obtain ⟨-, b3, b4, b5, b6⟩ := B1 (F j)
    have e := (hws (F j)).1 ⟨Nat.zero_le _, by rw [Nat.zero_add]; exact hF j hj, (hU _ (hF j hj)).mpr ⟨j, hj, rfl⟩⟩
    exact ⟨b3.trans a3.symm, b4.trans a4.symm, by rw [e]; show g (F j * 5 + 2) + (drf L g nR base un 0 c g (F j * 5 + 2) - g (F j * 5 + 2)) = _; omega, b5.trans a5.symm, b6.trans a6.symm⟩
  · intro w hw hs
    have hF := hlt _ hs
    have B1 := dmf_adj (U := U) hb nR 0 w g (Adj.rf hb g)
    obtain ⟨c, hc, hcs⟩ := drf_sur (L := L) (g := g) (nR := nR) (β := fun k => dmf U g base nR 0 w g (k * 5 + 2) - g (k * 5 + 2)) (base := base) (fun k => by have := (B1 k).1; omega) un 0 g
    refine ⟨c, hc, flw_k (fun j hj => ?_) sz 0 a t (by omega)⟩
    obtain ⟨⟨a1, a2⟩, a3, a4, a5, a6⟩ := B1 (F j)
    have A1 := drf_adj (L := L) (nR := nR) hb un 0 c g (Adj.rf hb g)
    obtain ⟨-, b3, b4, b5, b6⟩ := A1 (F j)
    obtain ⟨q, q1, q2⟩ := hL (sz - 1 - j) (by omega)
    rw [show sz - 1 - (sz - 1 - j) = j by omega] at q2
    have e := (hcs (F j) (hF j hj)).1 ⟨q, Nat.zero_le _, by rw [Nat.zero_add]; exact q1, q2⟩
    exact ⟨b3.trans a3.symm, b4.trans a4.symm, by rw [e]; show g (F j * 5 + 2) + (dmf U g base nR 0 w g (F j * 5 + 2) - g (F j * 5 + 2)) = _; omega, b5.trans a5.symm, b6.trans a6.symm⟩
