/-! soonest: rides more and more, and minute by minute, come to the same -/
theorem acr_iff (h : Nat → Nat) (to st : Nat) (hst : 1 ≤ st) {T : Nat} (hT : T ≤ 999) : ∀ (n t : Nat), 1000 ≤ t + n * st → (acr h to st n t ≤ T ↔ ∃ m, t + m * st ≤ T ∧ opnB h to (t + m * st) = true)
  | 0, t, hn => by
    rw [Nat.zero_mul] at hn
    refine ⟨fun q => ?_, fun ⟨m, h1, _⟩ => ?_⟩
    · have : (1000 : Nat) ≤ T := q
      omega
    · have : t ≤ t + m * st := Nat.le_add_right _ _
      omega
  | n + 1, t, hn => by
    unfold acr
    by_cases h9 : t ≤ 999
    · rw [if_pos h9]
      by_cases ho : opnB h to t = true
      · rw [if_pos ho]
        refine ⟨fun q => ⟨0, by rw [Nat.zero_mul]; exact q, by rw [Nat.zero_mul]; exact ho⟩, fun ⟨m, h1, _⟩ => ?_⟩
        have : t ≤ t + m * st := Nat.le_add_right _ _
        omega
      · rw [if_neg ho, acr_iff h to st hst hT n (t + st) (by rw [Nat.succ_mul] at hn; omega)]
        constructor
        · rintro ⟨m, h1, h2⟩
          refine ⟨m + 1, ?_, ?_⟩
          · rw [Nat.succ_mul]; omega
          · rw [Nat.succ_mul, show t + (m * st + st) = t + st + m * st by omega]; exact h2
        · rintro ⟨m, h1, h2⟩
          cases m with
          | zero => rw [Nat.zero_mul] at h2; exact absurd h2 ho
          | succ m =>
            rw [Nat.succ_mul, show t + (m * st + st) = t + st + m * st by omega] at h1 h2
            exact ⟨m, h1, h2⟩
    · rw [if_neg h9]
      refine ⟨fun q => by omega, fun ⟨m, h1, _⟩ => ?_⟩
      have : t ≤ t + m * st := Nat.le_add_right _ _
      omega
theorem th_m {g : Nat → Nat} {k s T0 : Nat} (h1 : 1 ≤ g (k * 5 + 2)) (hne : g (k * 5) ≠ g (k * 5 + 1)) (hh : g (k * 5) = s ∨ g (k * 5 + 1) = s) (x : Nat) : (T0 ≤ x ∧ thB g k (g (k * 5 + 2)) s x = true) ↔ ∃ m, x = fat g k s T0 + m * (2 * g (k * 5 + 2)) := by
  obtain ⟨f1, f2⟩ := fat_th (t := T0) h1 hne hh
  have fl := fat_le g (k := k) (s := s) (t := T0) h1
  constructor
  · rintro ⟨h2, h3⟩
    have hx : fat g k s T0 ≤ x := by
      apply Classical.byContradiction
      intro hn
      rw [f2 x h2 (by omega)] at h3
      cases h3
    rw [th_iff h1 hne hh] at h3 f1
    have h3 := of_decide_eq_true h3
    have f1 := of_decide_eq_true f1
    have h4 : ((x : Int) - (fat g k s T0 : Int)) % ((2 * g (k * 5 + 2) : Nat) : Int) = 0 := by
      have e : (x : Int) - (fat g k s T0 : Int) = ((x : Int) - (((g (k * 5 + 3) + (if g (k * 5) = s then 0 else g (k * 5 + 2)) : Nat) : Int))) - ((fat g k s T0 : Int) - (((g (k * 5 + 3) + (if g (k * 5) = s then 0 else g (k * 5 + 2)) : Nat) : Int))) := by omega
      rw [e, Int.sub_emod, h3, f1]
      rfl
    obtain ⟨c, hc⟩ := Int.dvd_of_emod_eq_zero h4
    have hc0 : 0 ≤ c := by
      apply Classical.byContradiction
      intro hn
      have : ((2 * g (k * 5 + 2) : Nat) : Int) * c ≤ ((2 * g (k * 5 + 2) : Nat) : Int) * (-1) := Int.mul_le_mul_of_nonneg_left (by omega) (by omega)
      omega
    refine ⟨c.toNat, ?_⟩
    have e2 : ((c.toNat * (2 * g (k * 5 + 2)) : Nat) : Int) = ((2 * g (k * 5 + 2) : Nat) : Int) * c := by
      rw [Int.natCast_mul, Int.toNat_of_nonneg hc0, Int.mul_comm]
    omega
  · rintro ⟨m, rfl⟩
    refine ⟨by have : 0 ≤ m * (2 * g (k * 5 + 2)) := Nat.zero_le _; omega, ?_⟩
    rw [th_iff h1 hne hh] at f1 ⊢
    have f1 := of_decide_eq_true f1
    apply decide_eq_true
    have e : ((fat g k s T0 + m * (2 * g (k * 5 + 2)) : Nat) : Int) - (((g (k * 5 + 3) + (if g (k * 5) = s then 0 else g (k * 5 + 2)) : Nat) : Int)) = ((fat g k s T0 : Int) - (((g (k * 5 + 3) + (if g (k * 5) = s then 0 else g (k * 5 + 2)) : Nat) : Int))) + (m : Int) * ((2 * g (k * 5 + 2) : Nat) : Int) := by
      rw [Int.natCast_add, Int.natCast_mul]; omega
    rw [e, Int.add_mul_emod_self_right]
    exact f1
theorem th_shift {g : Nat → Nat} {k s : Nat} (h1 : 1 ≤ g (k * 5 + 2)) (hne : g (k * 5) ≠ g (k * 5 + 1)) (hh : g (k * 5) = s ∨ g (k * 5 + 1) = s) (x : Nat) : thB g k (g (k * 5 + 2)) (oth g k s) (x + g (k * 5 + 2)) = thB g k (g (k * 5 + 2)) s x := by
  have hh2 : g (k * 5) = oth g k s ∨ g (k * 5 + 1) = oth g k s := by
    unfold oth
    by_cases q : g (k * 5) = s
    · rw [if_pos q]; exact Or.inr rfl
    · rw [if_neg q]; exact Or.inl rfl
  rw [th_iff h1 hne hh2, th_iff h1 hne hh]
  congr 1
  unfold oth
  by_cases q : g (k * 5) = s
  · rw [if_pos q, if_neg hne, if_pos q]
    congr 1
    have : ((x + g (k * 5 + 2) : Nat) : Int) - ((g (k * 5 + 3) + g (k * 5 + 2) : Nat) : Int) = (x : Int) - ((g (k * 5 + 3) + 0 : Nat) : Int) := by omega
    rw [this]
  · rw [if_neg q, if_pos rfl, if_neg q]
    congr 1
    have : ((x + g (k * 5 + 2) : Nat) : Int) - ((g (k * 5 + 3) + 0 : Nat) : Int) = ((x : Int) - ((g (k * 5 + 3) + g (k * 5 + 2) : Nat) : Int)) + ((2 * g (k * 5 + 2) : Nat) : Int) := by omega
    rw [this, Int.add_emod_right]
theorem acrF_iff {h g : Nat → Nat} {k s T0 T : Nat} (h1 : 1 ≤ g (k * 5 + 2)) (hne : g (k * 5) ≠ g (k * 5 + 1)) (hh : g (k * 5) = s ∨ g (k * 5 + 1) = s) (hT : T ≤ 999) : acrF h g k s T0 ≤ T ↔ ∃ x, T0 ≤ x ∧ x + g (k * 5 + 2) ≤ T ∧ thB g k (g (k * 5 + 2)) s x = true ∧ opnB h (oth g k s) (x + g (k * 5 + 2)) = true := by
  unfold acrF
  rw [acr_iff h _ _ (by omega) hT 1000 _ (by omega)]
  constructor
  · rintro ⟨m, a1, a2⟩
    have := (th_m (T0 := T0) h1 hne hh (fat g k s T0 + m * (2 * g (k * 5 + 2)))).mpr ⟨m, rfl⟩
    refine ⟨fat g k s T0 + m * (2 * g (k * 5 + 2)), this.1, by omega, this.2, ?_⟩
    rw [show fat g k s T0 + m * (2 * g (k * 5 + 2)) + g (k * 5 + 2) = fat g k s T0 + g (k * 5 + 2) + m * (2 * g (k * 5 + 2)) by omega]
    exact a2
  · rintro ⟨x, a1, a2, a3, a4⟩
    obtain ⟨m, rfl⟩ := (th_m (T0 := T0) h1 hne hh x).mp ⟨a1, a3⟩
    refine ⟨m, by omega, ?_⟩
    rw [show fat g k s T0 + g (k * 5 + 2) + m * (2 * g (k * 5 + 2)) = fat g k s T0 + m * (2 * g (k * 5 + 2)) + g (k * 5 + 2) by omega]
    exact a4
theorem canB_iff {g : Nat → Nat} {nR k s : Nat} : canB g nR k s = true ↔ k < nR ∧ g (k * 5 + 4) = 0 ∧ (g (k * 5) = s ∨ g (k * 5 + 1) = s) := by
  unfold canB
  simp
theorem oth_oth {g : Nat → Nat} {k s : Nat} (hne : g (k * 5) ≠ g (k * 5 + 1)) (hh : g (k * 5) = s ∨ g (k * 5 + 1) = s) : oth g k (oth g k s) = s := by
  unfold oth
  by_cases q : g (k * 5) = s
  · rw [if_pos q, if_neg hne]; exact q
  · rw [if_neg q, if_pos rfl]; exact hh.resolve_left q
theorem oth_hang {g : Nat → Nat} {k : Nat} (s : Nat) : g (k * 5) = oth g k s ∨ g (k * 5 + 1) = oth g k s := by
  unfold oth
  by_cases q : g (k * 5) = s
  · rw [if_pos q]; exact Or.inr rfl
  · rw [if_neg q]; exact Or.inl rfl
theorem crs_iff {h g : Nat → Nat} {nR : Nat} {E N : Nat → Nat} {k fr s t : Nat} : crs h g nR E k fr N s ≤ t ↔ N s ≤ t ∨ (E fr ≤ 999 ∧ canB g nR k fr = true ∧ oth g k fr = s ∧ acrF h g k fr (E fr) ≤ t) := by
  unfold crs
  by_cases c : E fr ≤ 999 ∧ canB g nR k fr = true
  · rw [if_pos c]
    unfold upN
    by_cases q : s = oth g k fr
    · subst q
      rw [if_pos rfl]
      constructor
      · intro z
        by_cases y : N (oth g k fr) ≤ t
        · exact Or.inl y
        · exact Or.inr ⟨c.1, c.2, rfl, by omega⟩
      · rintro (z | ⟨_, _, _, z⟩) <;> omega
    · rw [if_neg q]
      exact ⟨Or.inl, fun z => z.elim id fun y => absurd y.2.2.1.symm q⟩
  · rw [if_neg c]
    exact ⟨Or.inl, fun z => z.elim id fun y => absurd ⟨y.1, y.2.1⟩ c⟩
theorem rnd_iff {h g : Nat → Nat} {nR : Nat} {E : Nat → Nat} {s t : Nat} : ∀ (n k : Nat) (N : Nat → Nat), rnd h g nR E n k N s ≤ t ↔ N s ≤ t ∨ ∃ k', k ≤ k' ∧ k' < k + n ∧ ∃ fr, (fr = g (k' * 5) ∨ fr = g (k' * 5 + 1)) ∧ E fr ≤ 999 ∧ canB g nR k' fr = true ∧ oth g k' fr = s ∧ acrF h g k' fr (E fr) ≤ t
  | 0, k, N => ⟨Or.inl, fun z => z.elim id fun ⟨k', h1, h2, _⟩ => absurd h2 (by omega)⟩
  | n + 1, k, N => by
    unfold rnd
    rw [rnd_iff n (k + 1), crs_iff, crs_iff]
    constructor
    · rintro (((z | z) | z) | ⟨k', h1, h2, z⟩)
      · exact Or.inl z
      · exact Or.inr ⟨k, Nat.le_refl _, by omega, _, Or.inl rfl, z⟩
      · exact Or.inr ⟨k, Nat.le_refl _, by omega, _, Or.inr rfl, z⟩
      · exact Or.inr ⟨k', by omega, by omega, z⟩
    · rintro (z | ⟨k', h1, h2, fr, h3, z⟩)
      · exact Or.inl (Or.inl (Or.inl z))
      · by_cases q : k' = k
        · subst q
          rcases h3 with e | e <;> subst e
          · exact Or.inl (Or.inl (Or.inr z))
          · exact Or.inl (Or.inr z)
        · exact Or.inr ⟨k', by omega, by omega, fr, h3, z⟩
def Mi (h g : Nat → Nat) (nR a t : Nat) : Nat → Nat → Nat
  | 0 => N0 (fun _ => 0) a t
  | i + 1 => rnd h g nR (Mi h g nR a t i) nR 0 (Mi h g nR a t i)
section SM
variable {h g : Nat → Nat} {nS nR a t0 : Nat}
theorem Mi_succ (hg : RopeOK g nR nS) {i s t : Nat} (ht : t ≤ 999) : Mi h g nR a t0 (i + 1) s ≤ t ↔ Mi h g nR a t0 i s ≤ t ∨ ∃ k x, canB g nR k s = true ∧ x + g (k * 5 + 2) ≤ t ∧ Mi h g nR a t0 i (oth g k s) ≤ x ∧ thB g k (g (k * 5 + 2)) s (x + g (k * 5 + 2)) = true ∧ opnB h s (x + g (k * 5 + 2)) = true := by
  show rnd h g nR (Mi h g nR a t0 i) nR 0 (Mi h g nR a t0 i) s ≤ t ↔ _
  rw [rnd_iff]
  constructor
  · rintro (z | ⟨k, h1, h2, fr, h3, h4, h5, h6, h7⟩)
    · exact Or.inl z
    · obtain ⟨c1, c2, c3⟩ := canB_iff.mp h5
      obtain ⟨g1, g2, g3, g4, g5, g6, g7⟩ := hg.2 k c1
      obtain ⟨x, x1, x2, x3, x4⟩ := (acrF_iff g4 g3 c3 ht).mp h7
      refine Or.inr ⟨k, x, ?_, x2, ?_, ?_, ?_⟩
      · rw [← h6]; exact canB_iff.mpr ⟨c1, c2, oth_hang fr⟩
      · rw [← h6, oth_oth g3 c3]; exact x1
      · rw [← h6, th_shift g4 g3 c3]; exact x3
      · rw [← h6]; exact x4
  · rintro (z | ⟨k, x, h1, h2, h3, h4, h5⟩)
    · exact Or.inl z
    · obtain ⟨c1, c2, c3⟩ := canB_iff.mp h1
      obtain ⟨g1, g2, g3, g4, g5, g6, g7⟩ := hg.2 k c1
      have oo := oth_oth g3 c3
      refine Or.inr ⟨k, Nat.zero_le _, by omega, oth g k s, ?_, by omega, canB_iff.mpr ⟨c1, c2, oth_hang s⟩, oo, ?_⟩
      · rcases oth_hang (g := g) (k := k) s with e | e
        · exact Or.inl e.symm
        · exact Or.inr e.symm
      · refine (acrF_iff g4 g3 (oth_hang s) ht).mpr ⟨x, h3, h2, ?_, ?_⟩
        · rw [← th_shift g4 g3 (oth_hang s), oo]; exact h4
        · rw [oo]; exact h5
theorem crs_anti {E N : Nat → Nat} {k fr s : Nat} : crs h g nR E k fr N s ≤ N s := by
  unfold crs
  split
  · unfold upN
    split
    · rename_i e; rw [e]; omega
    · exact Nat.le_refl _
  · exact Nat.le_refl _
theorem rnd_anti {E : Nat → Nat} {s : Nat} : ∀ (n k : Nat) (N : Nat → Nat), rnd h g nR E n k N s ≤ N s
  | 0, k, N => Nat.le_refl _
  | n + 1, k, N => Nat.le_trans (rnd_anti n (k + 1) _) (Nat.le_trans crs_anti crs_anti)
theorem Mi_anti {s : Nat} : ∀ (n i : Nat), Mi h g nR a t0 (i + n) s ≤ Mi h g nR a t0 i s
  | 0, i => Nat.le_refl _
  | n + 1, i => Nat.le_trans (rnd_anti nR 0 _) (Mi_anti n i)
theorem Mi_le {i j s : Nat} (hij : i ≤ j) : Mi h g nR a t0 j s ≤ Mi h g nR a t0 i s := by
  obtain ⟨n, rfl⟩ : ∃ n, j = i + n := ⟨j - i, by omega⟩
  exact Mi_anti n i
theorem Mi_ge (hg : RopeOK g nR nS) (h8 : nS ≤ 8) (ht0 : t0 ≤ 999) : ∀ (i s : Nat), s < nS → t0 ≤ Mi h g nR a t0 i s
  | 0, s, hs => by
    show t0 ≤ upN (cpN (fun _ => 1000) (fun _ => 0) 8) a t0 s
    unfold upN cpN
    split
    · exact Nat.le_refl _
    · rw [if_pos (by omega)]; show t0 ≤ 1000; omega
  | i + 1, s, hs => by
    apply Classical.byContradiction
    intro hn
    rcases (Mi_succ hg (show t0 - 1 ≤ 999 by omega)).mp (show Mi h g nR a t0 (i + 1) s ≤ t0 - 1 by omega) with z | ⟨k, x, h1, h2, h3, _⟩
    · have := Mi_ge hg h8 ht0 i s hs
      omega
    · obtain ⟨c1, c2, c3⟩ := canB_iff.mp h1
      have := Mi_ge hg h8 ht0 i (oth g k s) (oth_lt hg c1)
      omega
/-! minute by minute -/
def leO (o : Option Nat) (i : Nat) : Prop := match o with
  | none => False
  | some v => v ≤ i
def upB (b c : Option Nat) : Option Nat := match b, c with
  | b, none => b
  | none, some v => some (v + 1)
  | some b, some v => some (if v + 1 < b then v + 1 else b)
theorem upB_iff (b c : Option Nat) (i : Nat) : leO (upB b c) i ↔ leO b i ∨ ∃ v, c = some v ∧ v + 1 ≤ i := by
  cases c with
  | none => 
    have e : upB b none = b := by cases b <;> rfl
    rw [e]
    exact ⟨Or.inl, fun z => z.elim id fun ⟨v, hv, _⟩ => by cases hv⟩
  | some v =>
    cases b with
    | none => exact ⟨fun z => Or.inr ⟨v, rfl, z⟩, fun z => z.elim False.elim fun ⟨w, hw, hl⟩ => by cases hw; exact hl⟩
    | some b =>
      show (if v + 1 < b then v + 1 else b) ≤ i ↔ b ≤ i ∨ _
      constructor
      · intro z
        split at z
        · exact Or.inr ⟨v, rfl, z⟩
        · exact Or.inl z
      · rintro (z | ⟨w, hw, hl⟩)
        · split <;> omega
        · cases hw
          split <;> omega
def mayT (h g : Nat → Nat) (nR fr k t s : Nat) : Bool := decide (canB g nR k s = true ∧ g (k * 5 + 2) ≤ t ∧ fr ≤ t - g (k * 5 + 2) ∧ opnB h s t = true ∧ thB g k (g (k * 5 + 2)) s t = true)
def stK (h g : Nat → Nat) (nR fr : Nat) (T : Nat → Nat → Option Nat) (t s : Nat) : Nat → Nat → Option Nat → Option Nat
  | 0, _, b => b
  | n + 1, k, b => stK h g nR fr T t s n (k + 1) (upB b (if mayT h g nR fr k t s = true then T (t - g (k * 5 + 2)) (oth g k s) else none))
def hist (h g : Nat → Nat) (nR fr a : Nat) : Nat → Nat → Nat → Option Nat
  | 0 => fun _ _ => none
  | n + 1 => fun t s => if t = fr + n then stK h g nR fr (hist h g nR fr a n) t s nR 0 (if n = 0 then (if s = a then some 0 else none) else hist h g nR fr a n (t - 1) s) else hist h g nR fr a n t s
def fvT (h g : Nat → Nat) (nR fr a t s : Nat) : Option Nat := hist h g nR fr a (t - fr + 1) t s
theorem hist_st {fr : Nat} : ∀ (n t s : Nat), fr ≤ t → t < fr + n → hist h g nR fr a n t s = fvT h g nR fr a t s
  | 0, t, s, h1, h2 => by omega
  | n + 1, t, s, h1, h2 => by
    by_cases e : t = fr + n
    · unfold fvT
      rw [show t - fr + 1 = n + 1 by omega]
    · show (if t = fr + n then _ else hist h g nR fr a n t s) = _
      rw [if_neg e]
      exact hist_st n t s h1 (by omega)
theorem stK_iff {fr : Nat} {T : Nat → Nat → Option Nat} {t s i : Nat} : ∀ (n k : Nat) (b : Option Nat), leO (stK h g nR fr T t s n k b) i ↔ leO b i ∨ ∃ k', k ≤ k' ∧ k' < k + n ∧ mayT h g nR fr k' t s = true ∧ ∃ v, T (t - g (k' * 5 + 2)) (oth g k' s) = some v ∧ v + 1 ≤ i
  | 0, k, b => ⟨Or.inl, fun z => z.elim id fun ⟨k', h1, h2, _⟩ => absurd h2 (by omega)⟩
  | n + 1, k, b => by
    unfold stK
    rw [stK_iff n (k + 1), upB_iff]
    constructor
    · rintro ((z | ⟨v, h1, h2⟩) | ⟨k', h1, h2, z⟩)
      · exact Or.inl z
      · split at h1
        · rename_i hm
          exact Or.inr ⟨k, Nat.le_refl _, by omega, hm, v, h1, h2⟩
        · cases h1
      · exact Or.inr ⟨k', by omega, by omega, z⟩
    · rintro (z | ⟨k', h1, h2, h3, v, h4, h5⟩)
      · exact Or.inl (Or.inl z)
      · by_cases q : k' = k
        · subst q
          exact Or.inl (Or.inr ⟨v, by rw [if_pos h3]; exact h4, h5⟩)
        · exact Or.inr ⟨k', by omega, by omega, h3, v, h4, h5⟩
theorem fvT_iff (hg : RopeOK g nR nS) {fr t s i : Nat} (ht : fr ≤ t) : leO (fvT h g nR fr a t s) i ↔ (t = fr ∧ s = a) ∨ (fr < t ∧ leO (fvT h g nR fr a (t - 1) s) i) ∨ ∃ k, mayT h g nR fr k t s = true ∧ ∃ v, fvT h g nR fr a (t - g (k * 5 + 2)) (oth g k s) = some v ∧ v + 1 ≤ i := by
  have key : ∀ k v, mayT h g nR fr k t s = true → (hist h g nR fr a (t - fr) (t - g (k * 5 + 2)) (oth g k s) = some v ↔ fvT h g nR fr a (t - g (k * 5 + 2)) (oth g k s) = some v) := fun k v hm => by
    obtain ⟨m1, m2, m3, m4, m5⟩ := of_decide_eq_true hm
    have g4 := (hg.2 k (canB_iff.mp m1).1).2.2.2.1
    rw [hist_st (t - fr) _ _ m3 (by omega)]
  have kk : ∀ k, mayT h g nR fr k t s = true → k < nR := fun k hm => (canB_iff.mp (of_decide_eq_true hm).1).1
  have e0 : fvT h g nR fr a t s = stK h g nR fr (hist h g nR fr a (t - fr)) t s nR 0 (if t - fr = 0 then (if s = a then some 0 else none) else hist h g nR fr a (t - fr) (t - 1) s) := if_pos (by omega)
  rw [e0, stK_iff]
  by_cases q : t = fr
  · rw [if_pos (by omega)]
    constructor
    · rintro (z | ⟨k, h1, h2, h3, v, h4, h5⟩)
      · by_cases e : s = a
        · exact Or.inl ⟨q, e⟩
        · rw [if_neg e] at z
          exact z.elim
      · exact Or.inr (Or.inr ⟨k, h3, v, (key k v h3).mp h4, h5⟩)
    · rintro (⟨_, e⟩ | ⟨z, _⟩ | ⟨k, h3, v, h4, h5⟩)
      · rw [if_pos e]; exact Or.inl (Nat.zero_le _)
      · omega
      · exact Or.inr ⟨k, Nat.zero_le _, by have := kk k h3; omega, h3, v, (key k v h3).mpr h4, h5⟩
  · rw [if_neg (by omega), hist_st (t - fr) (t - 1) s (by omega) (by omega)]
    constructor
    · rintro (z | ⟨k, h1, h2, h3, v, h4, h5⟩)
      · exact Or.inr (Or.inl ⟨by omega, z⟩)
      · exact Or.inr (Or.inr ⟨k, h3, v, (key k v h3).mp h4, h5⟩)
    · rintro (⟨e, _⟩ | ⟨_, z⟩ | ⟨k, h3, v, h4, h5⟩)
      · exact absurd e q
      · exact Or.inl z
      · exact Or.inr ⟨k, Nat.zero_le _, by have := kk k h3; omega, h3, v, (key k v h3).mpr h4, h5⟩
theorem leO_mo {o : Option Nat} {i j : Nat} (hij : i ≤ j) (hl : leO o i) : leO o j := by
  cases o with
  | none => exact hl
  | some v => exact Nat.le_trans hl hij
theorem fvT_mo (hg : RopeOK g nR nS) {fr s i : Nat} : ∀ (n t : Nat), fr ≤ t → leO (fvT h g nR fr a t s) i → leO (fvT h g nR fr a (t + n) s) i
  | 0, t, h1, h2 => h2
  | n + 1, t, h1, h2 => by
    refine (fvT_iff hg (show fr ≤ t + (n + 1) by omega)).mpr (Or.inr (Or.inl ⟨by omega, ?_⟩))
    rw [show t + (n + 1) - 1 = t + n by omega]
    exact fvT_mo hg n t h1 h2
theorem fvT_M (hg : RopeOK g nR nS) (h8 : nS ≤ 8) (ha : a < nS) {fr : Nat} (hfr : fr ≤ 999) : (∀ (n t : Nat), t < fr + n → fr ≤ t → t ≤ 999 → ∀ s, s < nS → ∀ i, leO (fvT h g nR fr a t s) i → Mi h g nR a fr i s ≤ t) ∧ (∀ (i t : Nat), fr ≤ t → t ≤ 999 → ∀ s, s < nS → Mi h g nR a fr i s ≤ t → leO (fvT h g nR fr a t s) i) := by
  constructor
  · intro n
    induction n with
    | zero => intro t h1 h2; omega
    | succ n ih =>
      intro t h1 h2 h3 s hs i hl
      rcases (fvT_iff hg h2).mp hl with ⟨e1, e2⟩ | ⟨e1, e2⟩ | ⟨k, hm, v, e1, e2⟩
      · have : Mi h g nR a fr 0 s = fr := by
          show upN _ a fr s = fr
          rw [e2]; exact upN_s _ _ _
        have := Mi_le (h := h) (g := g) (nR := nR) (a := a) (t0 := fr) (s := s) (Nat.zero_le i)
        omega
      · have := ih (t - 1) (by omega) (by omega) (by omega) s hs i e2
        omega
      · obtain ⟨m1, m2, m3, m4, m5⟩ := of_decide_eq_true hm
        obtain ⟨c1, c2, c3⟩ := canB_iff.mp m1
        have g4 := (hg.2 k c1).2.2.2.1
        have hv := ih (t - g (k * 5 + 2)) (by omega) m3 (by omega) (oth g k s) (oth_lt hg c1) v (by rw [e1]; exact Nat.le_refl _)
        have hx : t - g (k * 5 + 2) + g (k * 5 + 2) = t := by omega
        have := (Mi_succ (h := h) (a := a) (t0 := fr) (i := v) (s := s) hg h3).mpr (Or.inr ⟨k, t - g (k * 5 + 2), m1, by omega, hv, by rw [hx]; exact m5, by rw [hx]; exact m4⟩)
        exact Nat.le_trans (Mi_le e2) this
  · intro i
    induction i with
    | zero =>
      intro t h2 h3 s hs hm
      have hm2 : upN (cpN (fun _ => 1000) (fun _ => 0) 8) a fr s ≤ t := hm
      by_cases e : s = a
      · obtain ⟨n, rfl⟩ : ∃ n, t = fr + n := ⟨t - fr, by omega⟩
        exact fvT_mo hg n fr (Nat.le_refl _) ((fvT_iff hg (Nat.le_refl _)).mpr (Or.inl ⟨rfl, e⟩))
      · rw [upN_n _ _ e] at hm2
        unfold cpN at hm2
        rw [if_pos (by omega)] at hm2
        have hm3 : (1000 : Nat) ≤ t := hm2
        omega
    | succ i ih =>
      intro t h2 h3 s hs hm
      rcases (Mi_succ hg h3).mp hm with z | ⟨k, x, m1, m2, m3, m4, m5⟩
      · exact leO_mo (Nat.le_succ i) (ih t h2 h3 s hs z)
      · obtain ⟨c1, c2, c3⟩ := canB_iff.mp m1
        have ho := oth_lt hg c1 (s := s)
        have hge := Mi_ge (h := h) (a := a) hg h8 hfr i (oth g k s) ho
        have hv := ih x (by omega) (by omega) (oth g k s) ho m3
        have hstep : leO (fvT h g nR fr a (x + g (k * 5 + 2)) s) (i + 1) := by
          cases hF : fvT h g nR fr a x (oth g k s) with
          | none => rw [hF] at hv; exact hv.elim
          | some v =>
            rw [hF] at hv
            have hv2 : v ≤ i := hv
            refine (fvT_iff hg (by omega)).mpr (Or.inr (Or.inr ⟨k, decide_eq_true ⟨m1, by omega, by omega, m5, m4⟩, v, ?_, by omega⟩))
            rw [show x + g (k * 5 + 2) - g (k * 5 + 2) = x by omega]
            exact hF
        obtain ⟨n, rfl⟩ : ∃ n, t = x + g (k * 5 + 2) + n := ⟨t - (x + g (k * 5 + 2)), by omega⟩
        exact fvT_mo hg n _ (by omega) hstep
/-! eight sills: seven rides are enough -/
theorem sm_le {f f' : Nat → Nat} : ∀ (n : Nat), (∀ i, i < n → f i ≤ f' i) → sm f n ≤ sm f' n
  | 0, _ => Nat.le_refl _
  | n + 1, hh => by
    unfold sm
    have := sm_le n (fun i hi => hh i (by omega))
    have := hh n (by omega)
    omega
theorem sm_lt {f f' : Nat → Nat} : ∀ (n : Nat), (∀ i, i < n → f i ≤ f' i) → (∃ i, i < n ∧ f i < f' i) → sm f n < sm f' n
  | 0, _, ⟨i, hi, _⟩ => by omega
  | n + 1, hh, ⟨i, hi, hl⟩ => by
    unfold sm
    have h1 := hh n (by omega)
    by_cases q : i = n
    · subst q
      have := sm_le i (fun j hj => hh j (by omega))
      omega
    · have := sm_lt n (fun j hj => hh j (by omega)) ⟨i, by omega, hl⟩
      omega
theorem sm_one : ∀ (n : Nat) (f : Nat → Nat), (∀ i, i < n → f i ≤ 1) → sm f n ≤ n
  | 0, f, _ => Nat.le_refl _
  | n + 1, f, hh => by
    unfold sm
    have := sm_one n f (fun i hi => hh i (by omega))
    have := hh n (by omega)
    omega
def isS (o : Option Nat) : Nat := match o with
  | none => 0
  | some _ => 1
theorem isS_leO {o : Option Nat} : (isS o = 1 ↔ ∃ i, leO o i) ∧ isS o ≤ 1 := by
  cases o with
  | none => exact ⟨⟨fun z => (by cases z), fun ⟨i, z⟩ => z.elim⟩, by decide⟩
  | some v => exact ⟨⟨fun _ => ⟨v, Nat.le_refl _⟩, fun _ => rfl⟩, Nat.le_refl _⟩
theorem fvT_cnt (hg : RopeOK g nR nS) {fr : Nat} : ∀ (n t : Nat), t < fr + n → fr ≤ t → ∀ s, s < nS → ∀ v, fvT h g nR fr a t s = some v → v + 1 ≤ sm (fun s => isS (fvT h g nR fr a t s)) nS
  | 0, t, h1, h2 => by omega
  | n + 1, t, h1, h2 => by
    intro s hs v hv
    have mono : ∀ t1, fr ≤ t1 → t1 ≤ t → ∀ q, isS (fvT h g nR fr a t1 q) ≤ isS (fvT h g nR fr a t q) := fun t1 k1 k2 q => by
      rcases Nat.lt_or_ge (isS (fvT h g nR fr a t1 q)) 1 with z | z
      · omega
      · have e1 : isS (fvT h g nR fr a t1 q) = 1 := by have := (isS_leO (o := fvT h g nR fr a t1 q)).2; omega
        obtain ⟨i, hi⟩ := isS_leO.1.mp e1
        have := fvT_mo hg (t - t1) t1 k1 hi
        rw [show t1 + (t - t1) = t by omega] at this
        rw [e1, isS_leO.1.mpr ⟨i, this⟩]
        exact Nat.le_refl _
    have hs1 : isS (fvT h g nR fr a t s) = 1 := by rw [hv]; rfl
    have bound : ∀ i, leO (fvT h g nR fr a t s) i → v ≤ i := fun i hl => by rw [hv] at hl; exact hl
    have pos : 1 ≤ sm (fun s => isS (fvT h g nR fr a t s)) nS := by
      have := sm_lt (f := fun _ => 0) (f' := fun s => isS (fvT h g nR fr a t s)) nS (fun _ _ => Nat.zero_le _) ⟨s, hs, by show 0 < isS (fvT h g nR fr a t s); omega⟩
      omega
    rcases (fvT_iff hg h2).mp (show leO (fvT h g nR fr a t s) v by rw [hv]; exact Nat.le_refl _) with ⟨e1, e2⟩ | ⟨e1, e2⟩ | ⟨k, hm, v', e1, e2⟩
    · have := bound 0 ((fvT_iff hg h2).mpr (Or.inl ⟨e1, e2⟩))
      omega
    · cases hF : fvT h g nR fr a (t - 1) s with
      | none => rw [hF] at e2; exact e2.elim
      | some w =>
        have ih := fvT_cnt hg n (t - 1) (by omega) (by omega) s hs w hF
        have b := bound w ((fvT_iff hg h2).mpr (Or.inr (Or.inl ⟨e1, by rw [hF]; exact Nat.le_refl _⟩)))
        have m := sm_le nS (fun q _ => mono (t - 1) (by omega) (by omega) q)
        omega
    · obtain ⟨m1, m2, m3, m4, m5⟩ := of_decide_eq_true hm
      obtain ⟨c1, c2, c3⟩ := canB_iff.mp m1
      have g4 := (hg.2 k c1).2.2.2.1
      by_cases hF : ∃ w, fvT h g nR fr a (t - 1) s = some w
      · obtain ⟨w, hF⟩ := hF
        have ih := fvT_cnt hg n (t - 1) (by omega) (by omega) s hs w hF
        have b := bound w ((fvT_iff hg h2).mpr (Or.inr (Or.inl ⟨by omega, by rw [hF]; exact Nat.le_refl _⟩)))
        have m := sm_le nS (fun q _ => mono (t - 1) (by omega) (by omega) q)
        omega
      · have ih := fvT_cnt hg n (t - g (k * 5 + 2)) (by omega) m3 (oth g k s) (oth_lt hg c1) v' e1
        have hN : isS (fvT h g nR fr a (t - 1) s) = 0 := by
          cases hz : fvT h g nR fr a (t - 1) s with
          | none => rfl
          | some w => exact absurd ⟨w, hz⟩ hF
        have m1' := sm_le (f := fun s => isS (fvT h g nR fr a (t - g (k * 5 + 2)) s)) (f' := fun s => isS (fvT h g nR fr a (t - 1) s)) nS (fun q _ => by
          show isS (fvT h g nR fr a (t - g (k * 5 + 2)) q) ≤ isS (fvT h g nR fr a (t - 1) q)
          rcases Nat.lt_or_ge (isS (fvT h g nR fr a (t - g (k * 5 + 2)) q)) 1 with z | z
          · omega
          · have e1 : isS (fvT h g nR fr a (t - g (k * 5 + 2)) q) = 1 := by have := (isS_leO (o := fvT h g nR fr a (t - g (k * 5 + 2)) q)).2; omega
            obtain ⟨i, hi⟩ := isS_leO.1.mp e1
            have := fvT_mo hg (g (k * 5 + 2) - 1) _ m3 hi
            rw [show t - g (k * 5 + 2) + (g (k * 5 + 2) - 1) = t - 1 by omega] at this
            rw [e1, isS_leO.1.mpr ⟨i, this⟩]
            exact Nat.le_refl _)
        have m2' := sm_lt (f := fun s => isS (fvT h g nR fr a (t - 1) s)) (f' := fun s => isS (fvT h g nR fr a t s)) nS (fun q _ => mono (t - 1) (by omega) (by omega) q) ⟨s, hs, by show isS (fvT h g nR fr a (t - 1) s) < isS (fvT h g nR fr a t s); omega⟩
        have b := bound (v' + 1) ((fvT_iff hg h2).mpr (Or.inr (Or.inr ⟨k, hm, v', e1, Nat.le_refl _⟩)))
        omega
theorem fvT_7 (hg : RopeOK g nR nS) (h8 : nS ≤ 8) {fr t s v : Nat} (ht : fr ≤ t) (hs : s < nS) (hv : fvT h g nR fr a t s = some v) : v ≤ 7 := by
  have h1 := fvT_cnt hg (t - fr + 1) t (by omega) ht s hs v hv
  have h2 := sm_one nS (fun s => isS (fvT h g nR fr a t s)) (fun i _ => (isS_leO (o := fvT h g nR fr a t i)).2)
  omega
theorem wys_M (hg : RopeOK g nR nS) (h8 : nS ≤ 8) {b fr : Nat} (hb : b < 8) : ∀ (n ri : Nat) (E N : Nat → Nat) (m r : Nat), (∀ q, q < 8 → N q = Mi h g nR a fr ri q) → m = Mi h g nR a fr ri b → r ≤ ri → Mi h g nR a fr r b = m → (∀ i, i < r → m < Mi h g nR a fr i b) →
    (wys h g nR b n (ri + 1) E N m r).2.2.1 = Mi h g nR a fr (ri + n) b ∧ Mi h g nR a fr (wys h g nR b n (ri + 1) E N m r).2.2.2 b = Mi h g nR a fr (ri + n) b ∧ ∀ i, i < (wys h g nR b n (ri + 1) E N m r).2.2.2 → Mi h g nR a fr (ri + n) b < Mi h g nR a fr i b
  | 0, ri, E, N, m, r, h1, h2, h3, h4, h5 => ⟨h2, by show Mi h g nR a fr r b = _; rw [h4, h2]; rfl, fun i hi => by have := h5 i hi; rw [Nat.add_zero]; omega⟩
  | n + 1, ri, E, N, m, r, h1, h2, h3, h4, h5 => by
    have hE : ∀ q, q < 8 → cpN N E 8 q = Mi h g nR a fr ri q := fun q hq => by unfold cpN; rw [if_pos hq]; exact h1 q hq
    have hN : ∀ q, q < 8 → rnd h g nR (cpN N E 8) nR 0 N q = Mi h g nR a fr (ri + 1) q := fun q hq => rnd_cg hg h8 hE nR 0 _ _ (by omega) h1 q hq
    have han := Mi_le (h := h) (g := g) (nR := nR) (a := a) (t0 := fr) (s := b) (Nat.le_succ ri)
    unfold wys
    rw [hN b hb, show ri + (n + 1) = ri + 1 + n by omega]
    by_cases c : Mi h g nR a fr (ri + 1) b < m
    · rw [if_pos c]
      refine wys_M hg h8 hb n (ri + 1) _ _ _ _ hN rfl (Nat.le_refl _) rfl fun i hi => ?_
      have := Mi_le (h := h) (g := g) (nR := nR) (a := a) (t0 := fr) (s := b) (show i ≤ ri by omega)
      omega
    · rw [if_neg c]
      have e : Mi h g nR a fr (ri + 1) b = m := by
        have h6 : Mi h g nR a fr (ri + 1) b ≤ Mi h g nR a fr ri b := han
        omega
      exact wys_M hg h8 hb n (ri + 1) _ _ _ _ hN e.symm (by omega) h4 h5
/-- the soonest way, as the reference's minutes tell it -/
theorem swy_fvT (hg : RopeOK g nR nS) (h8 : nS ≤ 8) (ha : a < nS) {b fr : Nat} (hb : b < nS) (hfr : fr ≤ 999) :
    ((swy h g nR a fr b).1 ≤ 999 → fr ≤ (swy h g nR a fr b).1 ∧ fvT h g nR fr a (swy h g nR a fr b).1 b = some (swy h g nR a fr b).2 ∧ ∀ t, fr ≤ t → t < (swy h g nR a fr b).1 → fvT h g nR fr a t b = none) ∧
    (¬ (swy h g nR a fr b).1 ≤ 999 → ∀ t, fr ≤ t → t ≤ 999 → fvT h g nR fr a t b = none) := by
  obtain ⟨w1, w2, w3⟩ := wys_M (h := h) (a := a) (b := b) (fr := fr) hg h8 (by omega) 7 0 (fun _ => 0) (N0 (fun _ => 0) a fr) (N0 (fun _ => 0) a fr b) 0 (fun _ _ => rfl) rfl (Nat.le_refl _) rfl (fun i hi => absurd hi (by omega))
  obtain ⟨F1, F2⟩ := fvT_M (h := h) hg h8 ha hfr
  have hsw : swy h g nR a fr b = (wys h g nR b 7 1 (fun _ => 0) (N0 (fun _ => 0) a fr) (N0 (fun _ => 0) a fr b) 0).2.2 := rfl
  rw [← hsw] at w1 w2 w3
  rw [Nat.zero_add] at w1 w2 w3
  have none_of : ∀ t, fr ≤ t → t ≤ 999 → t < (swy h g nR a fr b).1 → fvT h g nR fr a t b = none := fun t t1 t2 t3 => by
    cases hF : fvT h g nR fr a t b with
    | none => rfl
    | some v =>
      have h7 := fvT_7 hg h8 t1 hb hF
      have h9 := F1 (t - fr + 1) t (by omega) t1 t2 b hb v (by rw [hF]; exact Nat.le_refl _)
      have := Mi_le (h := h) (g := g) (nR := nR) (a := a) (t0 := fr) (s := b) h7
      omega
  refine ⟨fun hm => ⟨?_, ?_, fun t t1 t2 => none_of t t1 (by omega) t2⟩, fun hm t t1 t2 => none_of t t1 t2 (by omega)⟩
  · rw [w1]; exact Mi_ge hg h8 hfr 7 b hb
  · have hge : fr ≤ (swy h g nR a fr b).1 := by rw [w1]; exact Mi_ge hg h8 hfr 7 b hb
    have l1 := F2 (swy h g nR a fr b).2 (swy h g nR a fr b).1 hge hm b hb (by omega)
    cases hF : fvT h g nR fr a (swy h g nR a fr b).1 b with
    | none => rw [hF] at l1; exact l1.elim
    | some v =>
      rw [hF] at l1
      have l2 : v ≤ (swy h g nR a fr b).2 := l1
      have l3 := F1 ((swy h g nR a fr b).1 - fr + 1) (swy h g nR a fr b).1 (by omega) hge hm b hb v (by rw [hF]; exact Nat.le_refl _)
      have : v = (swy h g nR a fr b).2 := by
        apply Classical.byContradiction
        intro hn
        have := w3 v (by omega)
        omega
      rw [this]
end SM
