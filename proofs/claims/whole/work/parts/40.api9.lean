/-! ropes on trial; tune -/
theorem crs_gcg {h g g' : Nat → Nat} {nR k : Nat} (hg : ∀ q, q < 40 → g q = g' q) (hk : k < 8) (E : Nat → Nat) (s : Nat) (N : Nat → Nat) : crs h g nR E k s N = crs h g' nR E k s N := by
  unfold crs canB acrF oth fat
  rw [hg (k * 5) (by omega), hg (k * 5 + 1) (by omega), hg (k * 5 + 2) (by omega), hg (k * 5 + 3) (by omega), hg (k * 5 + 4) (by omega)]
theorem rnd_gcg {h g g' : Nat → Nat} {nR : Nat} (h8 : nR ≤ 8) (hg : ∀ q, q < 40 → g q = g' q) (E : Nat → Nat) : ∀ (n k : Nat) (N : Nat → Nat), k + n = nR → rnd h g nR E n k N = rnd h g' nR E n k N
  | 0, k, N, e => rfl
  | n + 1, k, N, e => by
    unfold rnd
    rw [hg (k * 5) (by omega), hg (k * 5 + 1) (by omega), crs_gcg hg (by omega), crs_gcg hg (by omega)]
    exact rnd_gcg h8 hg E n (k + 1) _ (by omega)
theorem wys_gcg {h g g' : Nat → Nat} {nR b : Nat} (h8 : nR ≤ 8) (hg : ∀ q, q < 40 → g q = g' q) : ∀ (n ri : Nat) (E N : Nat → Nat) (m r : Nat), wys h g nR b n ri E N m r = wys h g' nR b n ri E N m r
  | 0, ri, E, N, m, r => rfl
  | n + 1, ri, E, N, m, r => by
    unfold wys
    rw [rnd_gcg h8 hg _ nR 0 N (by omega)]
    split
    · exact wys_gcg h8 hg n _ _ _ _ _
    · exact wys_gcg h8 hg n _ _ _ _ _
theorem swy_gcg {h g g' : Nat → Nat} {nR a t b : Nat} (h8 : nR ≤ 8) (hg : ∀ q, q < 40 → g q = g' q) : swy h g nR a t b = swy h g' nR a t b := by
  unfold swy wysF
  rw [wys_gcg h8 hg]
/-- ropes with the beat of one set, and it not stopped -/
def tng (g : Nat → Nat) (k be : Nat) : Nat → Nat := upN (upN g (k * 5 + 4) 0) (k * 5 + 2) be
/-- the best beat (0: none) and its minute, of so many more from a beat on -/
def tnl (h g : Nat → Nat) (nR k a t b : Nat) : Nat → Nat → Nat → Nat → Nat × Nat
  | 0, _, bb, bm => (bb, bm)
  | n + 1, be, bb, bm => if (swy h (tng g k be) nR a t b).1 ≤ 999 ∧ (swy h (tng g k be) nR a t b).1 < bm then tnl h g nR k a t b n (be + 1) be (swy h (tng g k be) nR a t b).1 else tnl h g nR k a t b n (be + 1) bb bm
def bbI (x : Nat) : Int32 := if x = 0 then -9 else nI x
theorem RopeOK.cg {g g' : Nat → Nat} {nR nS : Nat} (h : RopeOK g nR nS) (hg : ∀ q, q < 40 → g q = g' q) : RopeOK g' nR nS := by
  have h8 := h.1
  refine ⟨h8, fun k hk => ?_⟩
  rw [← hg (k * 5) (by omega), ← hg (k * 5 + 1) (by omega), ← hg (k * 5 + 2) (by omega), ← hg (k * 5 + 3) (by omega), ← hg (k * 5 + 4) (by omega)]
  exact h.2 k hk
theorem RopeOK.onT {g : Nat → Nat} {nR nS k be : Nat} (h : RopeOK g nR nS) (h1 : 1 ≤ be) (h9 : be ≤ 9) : RopeOK (tng g k be) nR nS := by
  refine ⟨h.1, fun q hq => ?_⟩
  obtain ⟨a1, a2, a3, a4, a5, a6, a7⟩ := h.2 q hq
  have c1 : q * 5 + 1 ≠ k * 5 + 2 ∧ q * 5 + 1 ≠ k * 5 + 4 := by constructor <;> omega
  have c3 : q * 5 + 3 ≠ k * 5 + 2 ∧ q * 5 + 3 ≠ k * 5 + 4 := by constructor <;> omega
  have c2 : q * 5 + 2 ≠ k * 5 + 4 := by omega
  have c4 : q * 5 + 4 ≠ k * 5 + 2 := by omega
  have c0' : q * 5 ≠ k * 5 + 2 ∧ q * 5 ≠ k * 5 + 4 := by constructor <;> omega
  unfold tng upN
  simp only [c0'.1, c0'.2, c1.1, c1.2, c3.1, c3.2, c2, c4, if_false]
  refine ⟨a1, a2, a3, ?_, ?_, a6, ?_⟩
  · split <;> omega
  · split <;> omega
  · split <;> omega
section API9
variable {X : am_X} {d : Nat} {Q : am_Q} {w : am_W} {s : CSt}
theorem CityAt.onTr (C : CityAt w s) {u : am_W} (ag : agr w u [46, 47]) {n : Nat} {f : Nat → Nat} (h7 : RowsAt u 46 47 8 5 n (nIf f)) : CityAt u s := by
  obtain ⟨tz, F, sz, mi, si, h⟩ := C.rt
  obtain ⟨f9, h9⟩ := C.df
  exact C.scr ag (by decide) ⟨n, f, h7⟩ (C.ri.ag ag (by decide)) ⟨tz, F, sz, mi, si, h.ag ag (by decide) (by decide) (by decide) (by decide)⟩ (C.wyA.ag ag (by decide) (by decide) (by decide)) ⟨f9, (ag.2 _ (by decide)).trans h9⟩
theorem CityAt.st45 (C : CityAt w s) (V : Valid s) {g' : Nat → Nat} (h7 : RowsAt w 46 47 8 5 s.2.2.1.1.1 (nIf g')) (hg : RopeOK g' s.2.2.1.1.1 s.2.1.1) : StAt w 45 2 3 46 47 s.2.1.1 s.2.2.1.1.1 (nIf s.2.1.2) (nIf g') s.2.1.2 g' :=
  ⟨C.sc.2.2.1, by decide, C.dr, h7, fun _ _ => rfl, fun _ _ => rfl, V.2.2.1, hg⟩
theorem CityAt.t1 (C : CityAt w s) : am_fld w 45 5 1 = some (.ref 46) := fld_at C.sc.2.2.1
end API9
