/-! the state of a city, as plain numbers; what the class's cells hold of it -/
abbrev Tab : Type := Nat × (Nat → Nat)
/-- ropes, riders, deeds, rides -/
abbrev NSt : Type := Tab × Tab × Tab × Tab
/-- text, doors, now, seen, which images are kept, images, trace -/
abbrev CSt : Type := Tab × Tab × NSt × Tab × (Nat → Nat) × (Nat → NSt) × Int64
def NAt (w : am_W) (b : Nat) (n : NSt) : Prop := NowAt w b n.1.1 n.1.2 n.2.1.1 n.2.1.2 n.2.2.1.1 n.2.2.1.2 n.2.2.2.1 n.2.2.2.2
def objC (tl : Nat) (mk : Int64) : va_E := .inr (7, [.ref 1, .int (nI tl), .ref 2, .ref 4, .ref 13, .ref 15, .ref 34, .long mk, .ref 35, .ref 44, .ref 45, .ref 48, .ref 49, .ref 53, .ref 56])
def imgs : Nat → Option Nat := va_up (va_up (fun _ => none) 0 (some 16)) 1 (some 25)
def ReaderAt (w : am_W) : Prop := (∃ a b c d e : Nat, w[35]? = some (.inr (1, [.ref 36, .ref 38, .ref 40, .ref 42, .int (nI a), .int (nI b), .int (nI c), .int (nI d), .int (nI e), .ref 43]))) ∧ (∃ n f, RowsAt w 36 37 8 2 n (nIf f)) ∧ (∃ n f, RowsAt w 38 39 8 5 n (nIf f)) ∧ (∃ n f, RowsAt w 40 41 4 5 n (nIf f)) ∧ (∃ f, w[42]? = some (.inl (0, 300, .inl (nIf f)))) ∧ (∃ f, w[43]? = some (.inl (0, 4, .inl (nIf f))))
def WyAt (w : am_W) : Prop := ∃ (E N : Nat → Nat) (m r : Nat), w[53]? = some (.inr (6, [.ref 54, .ref 55, .int (nI m), .int (nI r)])) ∧ w[54]? = some (.inl (0, 8, .inl (nIf E))) ∧ w[55]? = some (.inl (0, 8, .inl (nIf N)))
def ScrAt (w : am_W) : Prop := ReaderAt w ∧ w[44]? = some (.inr (5, [.ref 2, .ref 5])) ∧ w[45]? = some (.inr (5, [.ref 2, .ref 46])) ∧ (∃ n f, RowsAt w 46 47 8 5 n (nIf f)) ∧ RdAt w 48 ∧ (∃ tz F sz mi si, RtAt w tz F sz mi si) ∧ WyAt w ∧ (∃ f, w[56]? = some (.inl (0, 4, .inl (nIf f))))
def CityAt (w : am_W) (s : CSt) : Prop :=
  w[0]? = some (objC s.1.1 s.2.2.2.2.2.2) ∧ w[1]? = some (.inl (0, 300, .inl (nIf s.1.2))) ∧ RowsAt w 2 3 8 2 s.2.1.1 (nIf s.2.1.2) ∧ NAt w 4 s.2.2.1 ∧ RowsAt w 13 14 6 2 s.2.2.2.1.1 (nIf s.2.2.2.1.2) ∧
  w[15]? = some (.inl (2, 2, .inr (.inr (.inr (.inr imgs))))) ∧ NAt w 16 (s.2.2.2.2.2.1 0) ∧ NAt w 25 (s.2.2.2.2.2.1 1) ∧ w[34]? = some (.inl (1, 2, .inl (nIf s.2.2.2.2.1))) ∧ ScrAt w
/-- nothing of w but the places of l may have changed -/
theorem NAt.ag {w u : am_W} {b : Nat} {n : NSt} {l : List Nat} (h : NAt w b n) (ag : agr w u l) (hl : ∀ q, q ∈ l → q < b ∨ b + 8 < q) : NAt u b n :=
  NowAt.oth h fun q a1 a2 => ag.2 q fun hq => by have := hl q hq; omega
theorem RowsAt.ag {w u : am_W} {i j ro wi sz : Nat} {f : Nat → Int32} {l : List Nat} (h : RowsAt w i j ro wi sz f) (ag : agr w u l) (hi : i ∉ l) (hj : j ∉ l) : RowsAt u i j ro wi sz f := h.oth (ag.2 i hi) (ag.2 j hj)
theorem ScrAt.ag {w u : am_W} {l : List Nat} (h : ScrAt w) (ag : agr w u l) (hl : ∀ q, q ∈ l → q < 35) : ScrAt u := by
  have key : ∀ q, 35 ≤ q → u[q]? = w[q]? := fun q hq => ag.2 q fun hm => by have := hl q hm; omega
  obtain ⟨⟨⟨a, b, c, d, e, h1⟩, ⟨n2, f2, h2⟩, ⟨n3, f3, h3⟩, ⟨n4, f4, h4⟩, ⟨f5, h5⟩, ⟨f6, h6⟩⟩, g1, g2, ⟨n7, f7, h7⟩, ⟨x0, x1, x2, x3, h8⟩, ⟨tz, F, sz, mi, si, r1, r2, ⟨y0, y1, y2, y3, r3⟩⟩, ⟨E, N, m, r, w1, w2, w3⟩, ⟨f9, h9⟩⟩ := h
  exact ⟨⟨⟨a, b, c, d, e, (key _ (by decide)).trans h1⟩, ⟨n2, f2, h2.oth (key _ (by decide)) (key _ (by decide))⟩, ⟨n3, f3, h3.oth (key _ (by decide)) (key _ (by decide))⟩, ⟨n4, f4, h4.oth (key _ (by decide)) (key _ (by decide))⟩, ⟨f5, (key _ (by decide)).trans h5⟩, ⟨f6, (key _ (by decide)).trans h6⟩⟩, (key _ (by decide)).trans g1, (key _ (by decide)).trans g2, ⟨n7, f7, h7.oth (key _ (by decide)) (key _ (by decide))⟩, ⟨x0, x1, x2, x3, (key _ (by decide)).trans h8⟩, ⟨tz, F, sz, mi, si, (key _ (by decide)).trans r1, r2.oth (key _ (by decide)) (key _ (by decide)), ⟨y0, y1, y2, y3, (key _ (by decide)).trans r3⟩⟩, ⟨E, N, m, r, (key _ (by decide)).trans w1, (key _ (by decide)).trans w2, (key _ (by decide)).trans w3⟩, ⟨f9, (key _ (by decide)).trans h9⟩⟩
section CITY
variable {X : am_X} {d : Nat} {Q : am_Q} {w : am_W} {s : CSt}
theorem CityAt.o (C : CityAt w s) : w[0]? = some (objC s.1.1 s.2.2.2.2.2.2) := C.1
theorem CityAt.tx (C : CityAt w s) : w[1]? = some (.inl (0, 300, .inl (nIf s.1.2))) := C.2.1
theorem CityAt.dr (C : CityAt w s) : RowsAt w 2 3 8 2 s.2.1.1 (nIf s.2.1.2) := C.2.2.1
theorem CityAt.nw (C : CityAt w s) : NowAt w 4 s.2.2.1.1.1 s.2.2.1.1.2 s.2.2.1.2.1.1 s.2.2.1.2.1.2 s.2.2.1.2.2.1.1 s.2.2.1.2.2.1.2 s.2.2.1.2.2.2.1 s.2.2.1.2.2.2.2 := C.2.2.2.1
theorem CityAt.rp (C : CityAt w s) : RowsAt w 5 6 8 5 s.2.2.1.1.1 (nIf s.2.2.1.1.2) := C.nw.r
theorem CityAt.rd (C : CityAt w s) : RowsAt w 7 8 4 5 s.2.2.1.2.1.1 (nIf s.2.2.1.2.1.2) := C.nw.pp
theorem CityAt.sn (C : CityAt w s) : RowsAt w 13 14 6 2 s.2.2.2.1.1 (nIf s.2.2.2.1.2) := C.2.2.2.2.1
theorem CityAt.im (C : CityAt w s) : w[15]? = some (.inl (2, 2, .inr (.inr (.inr (.inr imgs))))) := C.2.2.2.2.2.1
theorem CityAt.i0 (C : CityAt w s) : NAt w 16 (s.2.2.2.2.2.1 0) := C.2.2.2.2.2.2.1
theorem CityAt.i1 (C : CityAt w s) : NAt w 25 (s.2.2.2.2.2.1 1) := C.2.2.2.2.2.2.2.1
theorem CityAt.kp (C : CityAt w s) : w[34]? = some (.inl (1, 2, .inl (nIf s.2.2.2.2.1))) := C.2.2.2.2.2.2.2.2.1
theorem CityAt.sc (C : CityAt w s) : ScrAt w := C.2.2.2.2.2.2.2.2.2
theorem CityAt.f0 (C : CityAt w s) : am_fld w 0 7 0 = some (.ref 1) := fld_at C.o
theorem CityAt.f1 (C : CityAt w s) : am_fld w 0 7 1 = some (.int (nI s.1.1)) := fld_at C.o
theorem CityAt.f2 (C : CityAt w s) : am_fld w 0 7 2 = some (.ref 2) := fld_at C.o
theorem CityAt.f3 (C : CityAt w s) : am_fld w 0 7 3 = some (.ref 4) := fld_at C.o
theorem CityAt.f4 (C : CityAt w s) : am_fld w 0 7 4 = some (.ref 13) := fld_at C.o
theorem CityAt.f5 (C : CityAt w s) : am_fld w 0 7 5 = some (.ref 15) := fld_at C.o
theorem CityAt.f6 (C : CityAt w s) : am_fld w 0 7 6 = some (.ref 34) := fld_at C.o
theorem CityAt.f7 (C : CityAt w s) : am_fld w 0 7 7 = some (.long s.2.2.2.2.2.2) := fld_at C.o
theorem CityAt.f8 (C : CityAt w s) : am_fld w 0 7 8 = some (.ref 35) := fld_at C.o
theorem CityAt.f9 (C : CityAt w s) : am_fld w 0 7 9 = some (.ref 44) := fld_at C.o
theorem CityAt.f10 (C : CityAt w s) : am_fld w 0 7 10 = some (.ref 45) := fld_at C.o
theorem CityAt.f11 (C : CityAt w s) : am_fld w 0 7 11 = some (.ref 48) := fld_at C.o
theorem CityAt.f12 (C : CityAt w s) : am_fld w 0 7 12 = some (.ref 49) := fld_at C.o
theorem CityAt.f13 (C : CityAt w s) : am_fld w 0 7 13 = some (.ref 53) := fld_at C.o
theorem CityAt.f14 (C : CityAt w s) : am_fld w 0 7 14 = some (.ref 56) := fld_at C.o
theorem CityAt.n0 (C : CityAt w s) : am_fld w 4 0 0 = some (.ref 5) := C.nw.f0
theorem CityAt.n1 (C : CityAt w s) : am_fld w 4 0 1 = some (.ref 7) := C.nw.f1
theorem CityAt.n2 (C : CityAt w s) : am_fld w 4 0 2 = some (.ref 9) := C.nw.f2
theorem CityAt.n3 (C : CityAt w s) : am_fld w 4 0 3 = some (.ref 11) := C.nw.f3
/-- within, isMinute -/
theorem c_within (x a b : Int32) : Cl X (d + 1) 78 [.int x, .int a, .int b] w Q = Q (some (.int (nI (if a ≤ x ∧ x ≤ b then 1 else 0)))) w := by
  rw [e78]
  simp only [s78_0, s78_1, s78_2, s78_5, s78_6, s78_7, s78_10, s78_11, s78_14, s78_15, OpV_some, OpN_some, OpA_some, OpR_some, Option.toList_some, Option.toList_none, List.cons_append, List.nil_append, true_and, and_true, nI11, or_true, true_or, or_false, false_or]
  by_cases h1 : x < a
  · have h2 : ¬ (a ≤ x ∧ x ≤ b) := fun q => by have := q.1; rw [← i32_nlt] at this; exact this h1
    simp only [h1, h2, if_true, if_false, b01_0, true_and]
  · have h0 : a ≤ x := by rw [← i32_nlt]; exact h1
    by_cases h3 : b < x
    · have h2 : ¬ (a ≤ x ∧ x ≤ b) := fun q => by have := q.2; rw [← i32_nlt] at this; exact this h3
      simp only [h1, h3, h2, if_true, if_false, b01_0, true_and]
    · have h4 : x ≤ b := by rw [← i32_nlt]; exact h3
      simp only [h1, h3, h0, h4, and_self, if_true, if_false, b01_1, true_and]
theorem c_minute (x : Int32) : Cl X (d + 2) 79 [.int x] w Q = Q (some (.int (nI (if nI 0 ≤ x ∧ x ≤ nI 999 then 1 else 0)))) w := by
  rw [e79]
  simp only [s79_0, s79_1, s79_2, s79_5, s79_8, OpV_some, OpN_some, OpA_some, OpR_some, Option.toList_some, Option.toList_none, List.cons_append, List.nil_append, true_and, and_true, nI11, or_true, true_or, or_false, false_or, c_within]
  by_cases h : nI 0 ≤ x ∧ x ≤ nI 999
  · simp only [h, and_self, if_true, b01_1, true_and]
  · simp only [h, if_false, b01_0, true_and]
/-- what a number is that one asks by: a place below n, or none -/
theorem ix (x : Int32) {n : Nat} (hn : n < 2 ^ 31) : (∃ j, j < n ∧ x = nI j) ∨ ¬ (0 ≤ x ∧ x < nI n) := by
  rcases pk_ix x hn with h | h | h
  · exact Or.inr fun q => by have := q.1; rw [← i32_nlt] at this; exact this h
  · exact Or.inr fun q => by have := q.2; rw [← i32_nle] at this; exact this h
  · exact Or.inl h
theorem ix_in {n j : Nat} (h : j < n) (hn : n < 2 ^ 31) : (0 : Int32) ≤ nI j ∧ nI j < nI n := ⟨nI_pos' (by omega), nI_lt h hn⟩
end CITY
