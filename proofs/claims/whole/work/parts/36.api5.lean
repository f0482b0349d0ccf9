/-! soonest; canAskRoute; route -/
theorem crs_cg {h g : Nat → Nat} {nR : Nat} {E E' N N' : Nat → Nat} {k s : Nat} (hs : s < 8) (hE : ∀ q, q < 8 → E q = E' q) (ho : oth g k s < 8) (hN : ∀ q, q < 8 → N q = N' q) : ∀ q, q < 8 → crs h g nR E k s N q = crs h g nR E' k s N' q := by
  intro q hq
  unfold crs
  rw [hE s hs]
  split
  · unfold upN
    rw [hN _ ho]
    split
    · rfl
    · exact hN q hq
  · exact hN q hq
theorem rnd_cg {h g : Nat → Nat} {nR nS : Nat} (hg : RopeOK g nR nS) (h8 : nS ≤ 8) {E E' : Nat → Nat} (hE : ∀ q, q < 8 → E q = E' q) : ∀ (n k : Nat) (N N' : Nat → Nat), k + n = nR → (∀ q, q < 8 → N q = N' q) → ∀ q, q < 8 → rnd h g nR E n k N q = rnd h g nR E' n k N' q
  | 0, k, N, N', _, hN, q, hq => hN q hq
  | n + 1, k, N, N', e, hN, q, hq => by
    have hk : k < nR := by omega
    obtain ⟨h1, h2, -⟩ := hg.2 k hk
    have o1 := oth_lt hg hk (s := g (k * 5))
    have o2 := oth_lt hg hk (s := g (k * 5 + 1))
    unfold rnd
    exact rnd_cg hg h8 hE n (k + 1) _ _ (by omega) (crs_cg (by omega) hE (by omega) (crs_cg (by omega) hE (by omega) hN)) q hq
theorem wys_cg {h g : Nat → Nat} {nR nS b : Nat} (hg : RopeOK g nR nS) (h8 : nS ≤ 8) (hb : b < 8) : ∀ (n ri : Nat) (E E' N N' : Nat → Nat) (m r : Nat), (∀ q, q < 8 → N q = N' q) → (wys h g nR b n ri E N m r).2.2 = (wys h g nR b n ri E' N' m r).2.2
  | 0, ri, E, E', N, N', m, r, hN => rfl
  | n + 1, ri, E, E', N, N', m, r, hN => by
    have hE : ∀ q, q < 8 → cpN N E 8 q = cpN N' E' 8 q := fun q hq => by unfold cpN; rw [if_pos hq, if_pos hq]; exact hN q hq
    have hR := rnd_cg (h := h) hg h8 hE nR 0 N N' (by omega) hN
    unfold wys
    rw [hR b hb]
    split
    · exact wys_cg hg h8 hb n _ _ _ _ _ _ _ hR
    · exact wys_cg hg h8 hb n _ _ _ _ _ _ _ hR
/-- the soonest way: its minute (1000: none), its rides -/
def swy (h g : Nat → Nat) (nR a t b : Nat) : Nat × Nat := (wysF h g nR a t b (fun _ => 0) (fun _ => 0)).2.2
theorem wysF_swy {h g : Nat → Nat} {nR nS a t b : Nat} (hg : RopeOK g nR nS) (h8 : nS ≤ 8) (hb : b < 8) (E N : Nat → Nat) : (wysF h g nR a t b E N).2.2 = swy h g nR a t b := by
  have hN : ∀ q, q < 8 → N0 N a t q = N0 (fun _ => 0) a t q := fun q hq => by
    unfold N0 upN cpN; rw [if_pos hq, if_pos hq]
  unfold swy wysF
  rw [hN b hb]
  exact wys_cg hg h8 hb 7 1 _ _ _ _ _ _ hN
section API5
variable {X : am_X} {d : Nat} {Q : am_Q} {w : am_W} {s : CSt}
theorem CityAt.wyU (C : CityAt w s) (E N : Nat → Nat) (m r : Nat) : has3 w 53 54 55 ∧ CityAt (_root_.wy w E N m r) s := by
  sorry
end API5
