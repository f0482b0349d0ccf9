/-! fits: rows counted one by one, and rope by rope -/
theorem sm_sw (F : Nat → Nat → Nat) (m : Nat) : ∀ n, sm (fun r => sm (fun k => F r k) n) m = sm (fun k => sm (fun r => F r k) m) n
  | 0 => by
    show sm (fun _ => 0) m = 0
    exact sm_0 m
  | n + 1 => by
    show sm (fun r => sm (fun k => F r k) n + F r n) m = sm (fun k => sm (fun r => F r k) m) n + sm (fun r => F r n) m
    rw [sm_add, sm_sw F m n]
theorem sm_app (f : Nat → Nat) (m : Nat) : ∀ n, sm f (m + n) = sm f m + sm (fun i => f (m + i)) n
  | 0 => rfl
  | n + 1 => by
    show sm f (m + n) + f (m + n) = sm f m + (sm (fun i => f (m + i)) n + f (m + n))
    rw [sm_app f m n]
    omega
theorem sm_8 (f : Nat → Nat) : ∀ m, sm f (8 * m) = sm (fun r => sm (fun k => f (8 * r + k)) 8) m
  | 0 => rfl
  | m + 1 => by
    show sm f (8 * (m + 1)) = sm (fun r => sm (fun k => f (8 * r + k)) 8) m + sm (fun k => f (8 * m + k)) 8
    rw [Nat.mul_add, Nat.mul_one, sm_app, sm_8 f m]
theorem asS_iff {Sn : Nat → Nat} {si fr le be : Nat} : ∀ (n i : Nat), asS Sn si fr le be n i = true ↔ ∀ j, i ≤ j → j < i + n → asB Sn si fr le be j = true
  | 0, i => ⟨fun _ j h1 h2 => absurd h2 (by omega), fun _ => rfl⟩
  | n + 1, i => by
    unfold asS
    by_cases q : asB Sn si fr le be i = true
    · rw [if_pos q, asS_iff n (i + 1)]
      refine ⟨fun z j h1 h2 => ?_, fun z j h1 h2 => z j (by omega) (by omega)⟩
      by_cases e : j = i
      · rw [e]; exact q
      · exact z j (by omega) (by omega)
    · rw [if_neg q]
      exact ⟨fun z => (by cases z), fun z => absurd (z i (Nat.le_refl _) (by omega)) q⟩
section FM
variable (h g Sn : Nat → Nat) (nR nSn G : Nat)
def okR (k si fr : Nat) : Prop := canB g nR k si = true ∧ (rid h g k G si fr).1 ≤ 999 ∧ (rid h g k G si fr).2.2 = false
def lkB (si fr to e : Nat) : Bool := decide (Sn (e * 2) = si ∧ fr ≤ Sn (e * 2 + 1) ∧ Sn (e * 2 + 1) ≤ to)
/-- one row, as the reference goes along it -/
def mfr : Nat → Nat → Nat → Nat → (Nat → Bool) → Prop
  | 0, _, si, fr, P => ∀ e, e < nSn → (P e || lkB Sn si fr 999 e) = true
  | n + 1, row, si, fr, P => okR h g nR G (row % 8) si fr ∧ mfr n (row / 8) (rid h g (row % 8) G si fr).2.1 (rid h g (row % 8) G si fr).1 (fun e => P e || lkB Sn si fr (fat g (row % 8) si fr) e)
def crow : Nat → Nat → Nat → Nat → Prop
  | 0, _, si, fr => asS Sn si fr 999 1000 nSn 0 = true
  | n + 1, row, si, fr => (okR h g nR G (row % 8) si fr ∧ asS Sn si fr (fat g (row % 8) si fr) (rid h g (row % 8) G si fr).1 nSn 0 = true) ∧ crow n (row / 8) (rid h g (row % 8) G si fr).2.1 (rid h g (row % 8) G si fr).1
end FM
section FMB
variable {h g Sn : Nat → Nat} {nR nSn nS G : Nat}
theorem rdg_gt (hg : RopeOK g nR nS) {k : Nat} (hk : k < nR) : ∀ (n e s : Nat), 1 ≤ n → e < (rdg h g k n e s).1
  | 0, e, s, hn => by omega
  | n + 1, e, s, _ => by
    have g4 := (hg.2 k hk).2.2.2.1
    unfold rdg
    split
    · show e < e + g (k * 5 + 2)
      omega
    · cases n with
      | zero => show e < e + g (k * 5 + 2); omega
      | succ n =>
        have := rdg_gt hg hk (n + 1) (e + g (k * 5 + 2)) (oth g k s) (by omega)
        omega
theorem mfr_iff (hg : RopeOK g nR nS) (hG : 1 ≤ G) (hSn : ∀ e, e < nSn → Sn (e * 2 + 1) ≤ 999) : ∀ (n row si fr : Nat) (P : Nat → Bool), (∀ e, e < nSn → P e = true → Sn (e * 2 + 1) < fr) → (mfr h g Sn nR nSn G n row si fr P ↔ (∀ e, e < nSn → Sn (e * 2 + 1) < fr → P e = true) ∧ crow h g Sn nR nSn G n row si fr)
  | 0, row, si, fr, P, hP => by
    show (∀ e, e < nSn → (P e || lkB Sn si fr 999 e) = true) ↔ _ ∧ asS Sn si fr 999 1000 nSn 0 = true
    rw [asS_iff]
    constructor
    · intro z
      refine ⟨fun e he hl => ?_, fun j _ hj => ?_⟩
      · rcases Bool.or_eq_true _ _ |>.mp (z e he) with y | y
        · exact y
        · have := of_decide_eq_true y
          omega
      · have hj' : j < nSn := by omega
        apply decide_eq_true
        rintro ⟨⟨y1, y2⟩, y3⟩
        rcases Bool.or_eq_true _ _ |>.mp (z j hj') with y | y
        · have := hP j hj' y
          omega
        · have := of_decide_eq_true y
          omega
    · rintro ⟨z1, z2⟩ e he
      apply Bool.or_eq_true _ _ |>.mpr
      have h9 := hSn e he
      by_cases y : Sn (e * 2 + 1) < fr
      · exact Or.inl (z1 e he y)
      · right
        have := of_decide_eq_true (z2 e (Nat.zero_le _) (by omega))
        apply decide_eq_true
        omega
  | n + 1, row, si, fr, P, hP => by
    show (okR h g nR G (row % 8) si fr ∧ mfr h g Sn nR nSn G n (row / 8) (rid h g (row % 8) G si fr).2.1 (rid h g (row % 8) G si fr).1 (fun e => P e || lkB Sn si fr (fat g (row % 8) si fr) e)) ↔ _ ∧ ((okR h g nR G (row % 8) si fr ∧ asS Sn si fr (fat g (row % 8) si fr) (rid h g (row % 8) G si fr).1 nSn 0 = true) ∧ crow h g Sn nR nSn G n (row / 8) (rid h g (row % 8) G si fr).2.1 (rid h g (row % 8) G si fr).1)
    by_cases ok : okR h g nR G (row % 8) si fr
    · have hk := (canB_iff.mp ok.1).1
      have g4 := (hg.2 _ hk).2.2.2.1
      have f1 := fat_le g (k := row % 8) (s := si) (t := fr) g4
      have f2 : fat g (row % 8) si fr < (rid h g (row % 8) G si fr).1 := rdg_gt hg hk G _ _ hG
      have ih := mfr_iff hg hG hSn n (row / 8) (rid h g (row % 8) G si fr).2.1 (rid h g (row % 8) G si fr).1 (fun e => P e || lkB Sn si fr (fat g (row % 8) si fr) e) (fun e he hp => by
        rcases Bool.or_eq_true _ _ |>.mp hp with y | y
        · have := hP e he y
          omega
        · have := of_decide_eq_true y
          omega)
      rw [ih, asS_iff]
      constructor
      · rintro ⟨_, z1, z2⟩
        refine ⟨fun e he hl => ?_, ⟨ok, fun j _ hj => ?_⟩, z2⟩
        · rcases Bool.or_eq_true _ _ |>.mp (z1 e he (by omega)) with y | y
          · exact y
          · have := of_decide_eq_true y
            omega
        · have hj' : j < nSn := by omega
          apply decide_eq_true
          rintro ⟨⟨y1, y2⟩, y3⟩
          rcases Bool.or_eq_true _ _ |>.mp (z1 j hj' y2) with y | y
          · have := hP j hj' y
            omega
          · have := of_decide_eq_true y
            omega
      · rintro ⟨z1, ⟨_, z2⟩, z3⟩
        refine ⟨ok, fun e he hl => ?_, z3⟩
        apply Bool.or_eq_true _ _ |>.mpr
        by_cases y : Sn (e * 2 + 1) < fr
        · exact Or.inl (z1 e he y)
        · right
          have := of_decide_eq_true (z2 e (Nat.zero_le _) (by omega))
          apply decide_eq_true
          omega
    · exact ⟨fun z => absurd z.1 ok, fun z => absurd z.2.1.1 ok⟩
theorem cfS_sm (rec : Nat → Nat → Nat) (si fr : Nat) : ∀ (n k acc : Nat), cfS h g Sn nR nSn G rec si fr n k acc = acc + sm (fun t => if canB g nR (k + t) si = true ∧ (rid h g (k + t) G si fr).1 ≤ 999 ∧ (rid h g (k + t) G si fr).2.2 = false ∧ asS Sn si fr (fat g (k + t) si fr) (rid h g (k + t) G si fr).1 nSn 0 = true then rec (rid h g (k + t) G si fr).2.1 (rid h g (k + t) G si fr).1 else 0) n
  | 0, k, acc => rfl
  | n + 1, k, acc => by
    unfold cfS
    rw [cfS_sm rec si fr n (k + 1), sm_head]
    simp only [Nat.add_zero]
    have e : sm (fun t => if canB g nR (k + 1 + t) si = true ∧ (rid h g (k + 1 + t) G si fr).1 ≤ 999 ∧ (rid h g (k + 1 + t) G si fr).2.2 = false ∧ asS Sn si fr (fat g (k + 1 + t) si fr) (rid h g (k + 1 + t) G si fr).1 nSn 0 = true then rec (rid h g (k + 1 + t) G si fr).2.1 (rid h g (k + 1 + t) G si fr).1 else 0) n = sm (fun t => if canB g nR (k + (t + 1)) si = true ∧ (rid h g (k + (t + 1)) G si fr).1 ≤ 999 ∧ (rid h g (k + (t + 1)) G si fr).2.2 = false ∧ asS Sn si fr (fat g (k + (t + 1)) si fr) (rid h g (k + (t + 1)) G si fr).1 nSn 0 = true then rec (rid h g (k + (t + 1)) G si fr).2.1 (rid h g (k + (t + 1)) G si fr).1 else 0) n := sm_cg n fun t _ => by rw [show k + 1 + t = k + (t + 1) by omega]
    rw [e]
    split <;> omega
/-- a row as a number -/
noncomputable def cI (P : Prop) : Nat := @ite Nat P (Classical.propDecidable P) 1 0
theorem cI_t {P : Prop} (hp : P) : cI P = 1 := if_pos hp
theorem cI_f {P : Prop} (hp : ¬ P) : cI P = 0 := if_neg hp
theorem cI_cg {P Q : Prop} (e : P ↔ Q) : cI P = cI Q := by rw [propext e]
theorem cI_le (P : Prop) : cI P ≤ 1 := by
  rcases Classical.em P with z | z
  · rw [cI_t z]; exact Nat.le_refl _
  · rw [cI_f z]; decide
theorem cfit_sm (h8 : nR ≤ 8) : ∀ (n si fr : Nat), sm (fun row => cI (crow h g Sn nR nSn G n row si fr)) (8 ^ n) = cfit h g Sn nR nSn G n si fr
  | 0, si, fr => by
    show 0 + cI (asS Sn si fr 999 1000 nSn 0 = true) = if asS Sn si fr 999 1000 nSn 0 = true then 1 else 0
    by_cases q : asS Sn si fr 999 1000 nSn 0 = true
    · rw [cI_t q, if_pos q]
    · rw [cI_f q, if_neg q]
  | n + 1, si, fr => by
    rw [Nat.pow_succ', sm_8, sm_sw]
    have key : ∀ k, k < 8 → sm (fun r => cI (crow h g Sn nR nSn G (n + 1) (8 * r + k) si fr)) (8 ^ n) = if canB g nR k si = true ∧ (rid h g k G si fr).1 ≤ 999 ∧ (rid h g k G si fr).2.2 = false ∧ asS Sn si fr (fat g k si fr) (rid h g k G si fr).1 nSn 0 = true then cfit h g Sn nR nSn G n (rid h g k G si fr).2.1 (rid h g k G si fr).1 else 0 := fun k hk => by
      have e1 : ∀ r, (8 * r + k) % 8 = k := fun r => by omega
      have e2 : ∀ r, (8 * r + k) / 8 = r := fun r => by omega
      by_cases c : canB g nR k si = true ∧ (rid h g k G si fr).1 ≤ 999 ∧ (rid h g k G si fr).2.2 = false ∧ asS Sn si fr (fat g k si fr) (rid h g k G si fr).1 nSn 0 = true
      · rw [if_pos c, ← cfit_sm h8 n]
        refine sm_cg _ fun r _ => cI_cg ?_
        show ((okR h g nR G ((8 * r + k) % 8) si fr ∧ asS Sn si fr (fat g ((8 * r + k) % 8) si fr) (rid h g ((8 * r + k) % 8) G si fr).1 nSn 0 = true) ∧ crow h g Sn nR nSn G n ((8 * r + k) / 8) (rid h g ((8 * r + k) % 8) G si fr).2.1 (rid h g ((8 * r + k) % 8) G si fr).1) ↔ _
        rw [e1, e2]
        exact ⟨fun z => z.2, fun z => ⟨⟨⟨c.1, c.2.1, c.2.2.1⟩, c.2.2.2⟩, z⟩⟩
      · rw [if_neg c]
        have : sm (fun r => cI (crow h g Sn nR nSn G (n + 1) (8 * r + k) si fr)) (8 ^ n) = sm (fun _ => 0) (8 ^ n) := sm_cg _ fun r _ => cI_f fun z => by
          have z2 : (okR h g nR G ((8 * r + k) % 8) si fr ∧ asS Sn si fr (fat g ((8 * r + k) % 8) si fr) (rid h g ((8 * r + k) % 8) G si fr).1 nSn 0 = true) ∧ crow h g Sn nR nSn G n ((8 * r + k) / 8) (rid h g ((8 * r + k) % 8) G si fr).2.1 (rid h g ((8 * r + k) % 8) G si fr).1 := z
          rw [e1] at z2
          exact c ⟨z2.1.1.1, z2.1.1.2.1, z2.1.1.2.2, z2.1.2⟩
        rw [this, sm_0]
    rw [sm_cg 8 key]
    show _ = cfS h g Sn nR nSn G (cfit h g Sn nR nSn G n) si fr nR 0 0
    rw [cfS_sm, Nat.zero_add]
    obtain ⟨m, hm⟩ : ∃ m, 8 = nR + m := ⟨8 - nR, by omega⟩
    have e3 : ∀ f : Nat → Nat, (∀ i, f (nR + i) = 0) → sm f 8 = sm f nR := fun f hf => by
      rw [hm, sm_app, sm_cg m (fun i _ => hf i), sm_0, Nat.add_zero]
    rw [e3 _ (fun i => if_neg fun z => by
      have := (canB_iff.mp z.1).1
      omega)]
    refine sm_cg nR fun t _ => ?_
    simp only [Nat.zero_add]
end FMB
