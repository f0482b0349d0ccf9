/-! how the machine on worlds stands to the machine -/
def lw_good : List Cond := lw_tbl.filter goodWord
def am_sg (ad : Nat → Nat) (fv : Value) (base p : Nat) : Value := if p < 1000 then .ref (base + p) else if p = 1020 then fv else .ref (ad (p - 1000))
def am_cv (sg : Nat → Value) (v : Value) : Value := match v with
  | .ref p => sg p
  | v => v
def am_ce (sg : Nat → Value) (dA : Nat → ClassId) (base : Nat) (c : va_E) : va_E := match c with
  | .inl (t, n, .inr (.inr (.inr (.inr f)))) => .inl (dA t, n, .inr (.inr (.inr (.inr fun j => (f j).map (base + ·)))))
  | .inl (t, a) => .inl (dA t, a)
  | .inr (ci, fs) => .inr (ci, fs.map (am_cv sg))
def am_cw (sg : Nat → Value) (dA : Nat → ClassId) (base : Nat) (w : am_W) : va_W := w.mapIdx fun i c => (base + i, am_ce sg dA base c)
section RELW
variable {sg : Nat → Value} {dA : Nat → ClassId} {base : Nat} {w : am_W}
theorem am_cw_at {p : Nat} {c : va_E} (h : w[p]? = some c) : (am_cw sg dA base w)[p]? = some (base + p, am_ce sg dA base c) := by
  simp [am_cw, h]
theorem am_cw_of {p : Nat} {q : Nat × va_E} (h : (am_cw sg dA base w)[p]? = some q) : ∃ c, w[p]? = some c ∧ q = (base + p, am_ce sg dA base c) := by
  simp only [am_cw, List.getElem?_mapIdx, Option.map_eq_some_iff] at h
  obtain ⟨c, h1, h2⟩ := h
  exact ⟨c, h1, h2.symm⟩
theorem am_cw_set (p : Nat) (c : va_E) : am_cw sg dA base (w.set p c) = (am_cw sg dA base w).set p (base + p, am_ce sg dA base c) := by
  simp [am_cw, List.mapIdx_set]
theorem am_cw_push (c : va_E) : am_cw sg dA base (w ++ [c]) = am_cw sg dA base w ++ [(base + w.length, am_ce sg dA base c)] := by
  simp [am_cw]
theorem am_cw_len : (am_cw sg dA base w).length = w.length := by simp [am_cw]
theorem am_cw_D {A : Nat → Prop} (hA : ∀ q, base ≤ q → A q) : va_D A (am_cw sg dA base w) := by
  refine ⟨fun i j p q hi hj hpq => ?_, fun k q hk => ?_⟩
  · obtain ⟨c1, -, rfl⟩ := am_cw_of hi
    obtain ⟨c2, -, rfl⟩ := am_cw_of hj
    have : base + i = base + j := hpq
    omega
  · obtain ⟨c1, -, rfl⟩ := am_cw_of hk
    exact hA _ (Nat.le_add_right _ _)
end RELW
/-! locals -/
def am_al (sg : Nat → Value) (ls : List (Option Value)) : List (Nat × Value) := (List.range ls.length).filterMap fun i => (am_ld ls i).map fun v => (i, am_cv sg v)
theorem am_ld_lt {ls : List (Option Value)} {i : Nat} {v : Value} (h : am_ld ls i = some v) : i < ls.length := by
  unfold am_ld at h
  split at h
  · exact (List.getElem?_eq_some_iff.mp (by assumption)).1
  · exact (List.getElem?_eq_some_iff.mp (by assumption)).1
  · exact (List.getElem?_eq_some_iff.mp (by assumption)).1
  · cases h
theorem am_al_mem {sg : Nat → Value} {ls : List (Option Value)} {q : Nat × Value} : q ∈ am_al sg ls ↔ ∃ i v, am_ld ls i = some v ∧ q = (i, am_cv sg v) := by
  simp only [am_al, List.mem_filterMap, List.mem_range, Option.map_eq_some_iff]
  constructor
  · rintro ⟨i, -, v, h1, h2⟩
    exact ⟨i, v, h1, h2.symm⟩
  · rintro ⟨i, v, h1, h2⟩
    exact ⟨i, am_ld_lt h1, v, h1, h2.symm⟩
def am_L (sg : Nat → Value) (n : Nat) (ls : List (Option Value)) (LS : Array Slot) : Prop := lv_has LS n (am_al sg ls) ∧ ls.length = n
theorem am_L.get {sg : Nat → Value} {n : Nat} {ls : List (Option Value)} {LS : Array Slot} (h : am_L sg n ls LS) {i : Nat} {v : Value} (hv : am_ld ls i = some v) : LS[i]? = some (.val (am_cv sg v)) :=
  h.1.2.2 (i, am_cv sg v) (am_al_mem.mpr ⟨i, v, hv, rfl⟩)
theorem am_ld_cases {ls : List (Option Value)} {i : Nat} {v : Value} (h : am_ld ls i = some v) : (∃ x, v = .int x ∧ ls[i]? = some (some (.int x))) ∨ (∃ x, v = .ref x ∧ ls[i]? = some (some (.ref x))) ∨ (∃ x, v = .long x ∧ ls[i]? = some (some (.long x)) ∧ ls[i + 1]? = some (some (.retAddr 0))) := by
  unfold am_ld at h
  split at h
  · cases h; exact Or.inl ⟨_, rfl, by assumption⟩
  · cases h; exact Or.inr (Or.inl ⟨_, rfl, by assumption⟩)
  · split at h
    · cases h; exact Or.inr (Or.inr ⟨_, rfl, by assumption, by assumption⟩)
    · cases h
  · cases h
theorem am_ld_int {ls : List (Option Value)} {i : Nat} {x : Int32} (h : ls[i]? = some (some (.int x))) : am_ld ls i = some (.int x) := by simp [am_ld, h]
theorem am_ld_ref {ls : List (Option Value)} {i : Nat} {x : Nat} (h : ls[i]? = some (some (.ref x))) : am_ld ls i = some (.ref x) := by simp [am_ld, h]
theorem am_ld_long {ls : List (Option Value)} {i : Nat} {x : Int64} (h : ls[i]? = some (some (.long x))) (h2 : ls[i + 1]? = some (some (.retAddr 0))) : am_ld ls i = some (.long x) := by simp [am_ld, h, h2]
theorem am_sg_rn {ad : Nat → Nat} {fv : Value} {base : Nat} (hf : fv = .null ∨ ∃ a, fv = .ref a) (p : Nat) : am_sg ad fv base p = .null ∨ ∃ a, am_sg ad fv base p = .ref a := by
  unfold am_sg
  split
  · exact Or.inr ⟨_, rfl⟩
  · split
    · exact hf
    · exact Or.inr ⟨_, rfl⟩
theorem am_cv_cat {sg : Nat → Value} (hs : ∀ p, sg p = .null ∨ ∃ a, sg p = .ref a) (v : Value) : (am_cv sg v).category = v.category := by
  cases v with
  | ref p =>
    show (sg p).category = 1
    rcases hs p with h | ⟨a, h⟩ <;> rw [h] <;> rfl
  | _ => rfl
theorem am_cats {sg : Nat → Value} (hs : ∀ p, sg p = .null ∨ ∃ a, sg p = .ref a) (st : List Value) : ((st.map (am_cv sg)).map fun v => v.category).sum = (st.map fun v => v.category).sum := by
  rw [List.map_map]
  congr 1
  apply List.map_congr_left
  intro v _
  exact am_cv_cat hs v
/-- a store of one word -/
theorem am_L.store1 {sg : Nat → Value} (hs : ∀ p, sg p = .null ∨ ∃ a, sg p = .ref a) {n : Nat} {ls : List (Option Value)} {LS LS' : Array Slot} (h : am_L sg n ls LS) {i : Nat} {v : Value} (hv : am_c1 v = true)
    (h' : lv_has LS' n ((i, am_cv sg v) :: (am_al sg ls).filter (fun q => !(q.1 == i) && !(q.1 + 1 == i && q.2.category == 2)))) : am_L sg n (ls.set i (some v)) LS' := by
  refine ⟨⟨h'.1, h'.2.1, fun q hq => h'.2.2 q ?_⟩, by rw [List.length_set]; exact h.2⟩
  obtain ⟨j, u, hu, rfl⟩ := am_al_mem.mp hq
  by_cases hij : i = j
  · subst hij
    have hlt : i < ls.length := by have := am_ld_lt hu; rwa [List.length_set] at this
    have e : (ls.set i (some v))[i]? = some (some v) := by simp [hlt]
    have : u = v := by
      cases v with
      | int x => rw [am_ld_int e] at hu; exact (Option.some.inj hu).symm
      | ref x => rw [am_ld_ref e] at hu; exact (Option.some.inj hu).symm
      | _ => cases hv
    subst this
    exact List.mem_cons_self
  · refine List.mem_cons_of_mem _ (List.mem_filter.mpr ⟨?_, ?_⟩)
    · refine am_al_mem.mpr ⟨j, u, ?_, rfl⟩
      rcases am_ld_cases hu with ⟨x, rfl, h1⟩ | ⟨x, rfl, h1⟩ | ⟨x, rfl, h1, h2⟩
      · rw [List.getElem?_set_ne hij] at h1; exact am_ld_int h1
      · rw [List.getElem?_set_ne hij] at h1; exact am_ld_ref h1
      · rw [List.getElem?_set_ne hij] at h1
        by_cases h3 : i = j + 1
        · subst h3
          have hlt := (List.getElem?_eq_some_iff.mp h2).1
          rw [List.length_set] at hlt
          rw [List.getElem?_set_self hlt] at h2
          cases v <;> simp [am_c1] at hv h2
        · rw [List.getElem?_set_ne h3] at h2
          exact am_ld_long h1 h2
    · have hji : ¬ j = i := fun e => hij e.symm
      simp only [Bool.and_eq_true, Bool.not_eq_true', beq_eq_false_iff_ne, ne_eq, Bool.and_eq_false_iff]
      refine ⟨hji, ?_⟩
      rcases am_ld_cases hu with ⟨x, rfl, h1⟩ | ⟨x, rfl, h1⟩ | ⟨x, rfl, h1, h2⟩
      · exact Or.inr (show ¬ (1 : Nat) = 2 by decide)
      · exact Or.inr (by rw [am_cv_cat hs]; exact (show ¬ (1 : Nat) = 2 by decide))
      · left
        intro h3
        subst h3
        have hlt := (List.getElem?_eq_some_iff.mp h2).1
        rw [List.length_set] at hlt
        rw [List.getElem?_set_self hlt] at h2
        cases v <;> simp [am_c1] at hv h2
theorem am_L.store2 {sg : Nat → Value} (hs : ∀ p, sg p = .null ∨ ∃ a, sg p = .ref a) {n : Nat} {ls : List (Option Value)} {LS LS' : Array Slot} (h : am_L sg n ls LS) {i : Nat} {x : Int64}
    (h' : lv_has LS' n ((i, Value.long x) :: (am_al sg ls).filter (fun q => !(q.1 == i) && (!(q.1 == i + 1) && !(q.1 + 1 == i && q.2.category == 2))))) : am_L sg n ((ls.set i (some (.long x))).set (i + 1) (some (.retAddr 0))) LS' := by
  refine ⟨⟨h'.1, h'.2.1, fun q hq => h'.2.2 q ?_⟩, by rw [List.length_set, List.length_set]; exact h.2⟩
  obtain ⟨j, u, hu, rfl⟩ := am_al_mem.mp hq
  have hi1 : ¬ i + 1 = i := by omega
  by_cases hij : i = j
  · subst hij
    rcases am_ld_cases hu with ⟨y, rfl, h1⟩ | ⟨y, rfl, h1⟩ | ⟨y, rfl, h1, h2⟩
    all_goals
      rw [List.getElem?_set_ne hi1] at h1
      have hlt := (List.getElem?_eq_some_iff.mp h1).1
      rw [List.length_set] at hlt
      rw [List.getElem?_set_self hlt] at h1
      cases h1
    exact List.mem_cons_self
  · by_cases hij2 : i + 1 = j
    · subst hij2
      rcases am_ld_cases hu with ⟨y, rfl, h1⟩ | ⟨y, rfl, h1⟩ | ⟨y, rfl, h1, h2⟩
      all_goals
        have hlt := (List.getElem?_eq_some_iff.mp h1).1
        rw [List.length_set] at hlt
        rw [List.getElem?_set_self hlt] at h1
        cases h1
    · refine List.mem_cons_of_mem _ (List.mem_filter.mpr ⟨?_, ?_⟩)
      · refine am_al_mem.mpr ⟨j, u, ?_, rfl⟩
        rcases am_ld_cases hu with ⟨y, rfl, h1⟩ | ⟨y, rfl, h1⟩ | ⟨y, rfl, h1, h2⟩
        · rw [List.getElem?_set_ne hij2, List.getElem?_set_ne hij] at h1; exact am_ld_int h1
        · rw [List.getElem?_set_ne hij2, List.getElem?_set_ne hij] at h1; exact am_ld_ref h1
        · rw [List.getElem?_set_ne hij2, List.getElem?_set_ne hij] at h1
          rw [List.getElem?_set_ne (show i + 1 ≠ j + 1 by omega)] at h2
          by_cases h3 : i = j + 1
          · subst h3
            have hlt := (List.getElem?_eq_some_iff.mp h2).1
            rw [List.length_set] at hlt
            rw [List.getElem?_set_self hlt] at h2
            cases h2
          · rw [List.getElem?_set_ne h3] at h2
            exact am_ld_long h1 h2
      · simp only [Bool.and_eq_true, Bool.not_eq_true', beq_eq_false_iff_ne, ne_eq, Bool.and_eq_false_iff]
        refine ⟨fun e => hij e.symm, fun e => hij2 e.symm, ?_⟩
        rcases am_ld_cases hu with ⟨y, rfl, h1⟩ | ⟨y, rfl, h1⟩ | ⟨y, rfl, h1, h2⟩
        · exact Or.inr (show ¬ (1 : Nat) = 2 by decide)
        · exact Or.inr (by rw [am_cv_cat hs]; exact (show ¬ (1 : Nat) = 2 by decide))
        · left
          intro h3
          subst h3
          rw [List.getElem?_set_ne (show j + 1 + 1 ≠ j + 1 by omega)] at h2
          have hlt := (List.getElem?_eq_some_iff.mp h2).1
          rw [List.length_set] at hlt
          rw [List.getElem?_set_self hlt] at h2
          cases h2
