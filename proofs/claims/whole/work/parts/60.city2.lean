/-! the text is read; city -/
theorem rdc_len (le : Nat) (t : TS) (r : RSt) (B N : Nat → Nat) : (rdc le t r B N).length = 9 := rfl
section CITYB
variable {X : am_X} {d : Nat} {Q : am_Q} {u w : am_W} {le : Nat} {t : TS} {r : RSt} {B N : Nat → Nat} {s : CSt}
theorem rdw_out (H : 44 ≤ u.length) {p : Nat} (hp : p < 35 ∨ 44 ≤ p) : (rdw u le t r B N)[p]? = u[p]? := spl_out (by rw [rdc_len]; omega) (by rw [rdc_len]; omega)
theorem rdw_ag (H : 44 ≤ u.length) : agr u (rdw u le t r B N) [35, 36, 37, 38, 39, 40, 41, 42, 43] := by
  refine ⟨spl_len (by rw [rdc_len]; omega), fun p hp => rdw_out H ?_⟩
  simp only [List.mem_cons, List.not_mem_nil, or_false, not_or] at hp
  omega
theorem rw_anew (H : 44 ≤ u.length) (hr : rOK r) : Cl X (d + 3) 8 [.ref 35] (rdw u le t r B N) Q = Q none (rdw u le t ((4, ssl 4 0 r.1.2), (0, r.2.1.2), (0, r.2.2.2)) B N) := by
  have R1 := rdw_R (t := t) (le := le) (B := B) (N := N) (r := ((4, ssl 4 0 r.1.2), r.2)) H hr.2.1
  have P1 := rdw_P (t := t) (le := le) (B := B) (N := N) (r := ((4, ssl 4 0 r.1.2), (0, r.2.1.2), r.2.2)) H hr.2.2
  have a1 : Cl X (d + 2) 37 [.ref 38] (rdw u le t ((4, ssl 4 0 r.1.2), r.2) B N) = fun Q => Q none (rdw u le t ((4, ssl 4 0 r.1.2), (0, r.2.1.2), r.2.2) B N) := funext fun Q => by
    rw [rows_empty R1, rdw_sR H]
  have a2 : Cl X (d + 2) 37 [.ref 40] (rdw u le t ((4, ssl 4 0 r.1.2), (0, r.2.1.2), r.2.2) B N) = fun Q => Q none (rdw u le t ((4, ssl 4 0 r.1.2), (0, r.2.1.2), (0, r.2.2.2)) B N) := funext fun Q => by
    rw [rows_empty P1, rdw_sP H]
  rw [e8]
  simp only [s8_0, s8_1, s8_2, s8_5, s8_6, s8_9, s8_12, s8_13, s8_16, s8_19, OpV_some, OpN_some, OpA_some, OpR_some, Option.toList_some, Option.toList_none, List.cons_append, List.nil_append, true_and, and_true, nI11, or_true, true_or, or_false, false_or, rdw_cl H, rw_sills H hr.1 (show 4 ≤ 8 by decide), rdw_f1 H, rdw_f2 H, R1.cl, P1.cl, a1, a2, show (35 : Nat) < 1000 by decide, show (38 : Nat) < 1000 by decide, show (40 : Nat) < 1000 by decide]
theorem rw_bytes_loop (H : 44 ≤ u.length) (h3 : le ≤ 300) {f : Nat → Nat} (hf : u[1]? = some (.inl (0, 300, .inl (nIf f)))) (l2 : Int32) : ∀ (n i : Nat), i + n = le → Wp X (Cl X d) 9 Q (24, [some (.ref 35), some (.ref 1), some (.int l2), some (.int (nI i))], [], rdw u le t r (cpN f B i) N, 0, 0) = Wp X (Cl X d) 9 Q (47, [some (.ref 35), some (.ref 1), some (.int l2), some (.int (nI le))], [], rdw u le t r (cpN f B le) N, 0, 0)
  | 0, i, e => by
    rw [s9_24]
    simp only [s9_25, s9_26, s9_29, OpV_some, OpN_some, OpA_some, OpR_some, Option.toList_some, Option.toList_none, List.cons_append, List.nil_append, true_and, and_true, nI11, or_true, true_or, or_false, false_or, rdw_f4 H, nI_ltN (show i < 2 ^ 31 by omega) (show le < 2 ^ 31 by omega), show ¬ i < le by omega, if_false, show (35 : Nat) < 1000 by decide]
    rw [show i = le by omega]
  | n + 1, i, e => by
    have ih := rw_bytes_loop H h3 hf l2 n (i + 1) (by omega)
    have a1 : ∀ B, am_arr X (rdw u le t r B N) 1 = some (0, 300, nIf f) := fun B => arr_at (by decide) ((rdw_out H (by decide)).trans hf)
    rw [s9_24]
    simp only [s9_25, s9_26, s9_29, s9_32, s9_33, s9_36, s9_37, s9_38, s9_39, s9_40, s9_41, s9_44, OpV_some, OpN_some, OpA_some, OpR_some, Option.toList_some, Option.toList_none, List.cons_append, List.nil_append, true_and, and_true, nI11, or_true, true_or, or_false, false_or, rdw_f4 H, rdw_f3 H, a1, rdw_arB H, nI_ltN (show i < 2 ^ 31 by omega) (show le < 2 ^ 31 by omega), show i < le by omega, if_true, in_nI (show i < 300 by omega) (show 300 < 2 ^ 31 by decide), cl_nI (show i < 2 ^ 31 by omega), nIf, rdw_B H, cpN_up, nI_add, show (35 : Nat) < 1000 by decide, show (42 : Nat) < 1000 by decide]
    exact ih
/-- what read comes to: the answer, the token at hand, what is told, numbers -/
def rdF (f : Nat → Nat) (tl : Nat) (t : TS) (r : RSt) (B N : Nat → Nat) : Int32 × TS × RSt × (Nat → Nat) := rlp (cpN f B tl) tl 300 0 (tkn (cpN f B tl) tl (t.1, 0, t.2.2)) ((4, ssl 4 0 r.1.2), (0, r.2.1.2), (0, r.2.2.2)) N
theorem rw_read (H : 44 ≤ u.length) (hr : rOK r) {f : Nat → Nat} (hf : u[1]? = some (.inl (0, 300, .inl (nIf f)))) {tl : Nat} (h3 : tl ≤ 300) (h4 : ∀ i, i < tl → f i < 256) : Cl X (d + 8) 9 [.ref 35, .ref 1, .int (nI tl)] (rdw u le t r B N) Q = Q (some (.int (rdF f tl t r B N).1)) (rdw u tl (rdF f tl t r B N).2.1 (rdF f tl t r B N).2.2.1 (cpN f B tl) (rdF f tl t r B N).2.2.2) := by
  have a1 : ∀ le t r B N, am_arr X (rdw u le t r B N) 1 = some (0, 300, nIf f) := fun le t r B N => arr_at (by decide) ((rdw_out H (by decide)).trans hf)
  have e1 : imin (nI 300) (nI tl) = nI tl := by rw [imin_nI (by decide) (by omega), Nat.min_eq_right h3]
  have h4' : ∀ i, i < tl → cpN f B tl i < 256 := fun i hi => by unfold cpN; rw [if_pos hi]; exact h4 i hi
  have ht : (t.1, 0, t.2.2).2.1 ≤ tl := Nat.zero_le _
  obtain ⟨k1, k2, k3, k4, k5, k6⟩ := tkn_ok (cpN f B tl) ht
  rw [e9]
  simp only [s9_0, s9_1, s9_4, s9_5, s9_6, s9_9, s9_10, s9_11, s9_12, s9_13, s9_16, s9_19, s9_22, s9_23, OpV_some, OpN_some, OpA_some, OpR_some, Option.toList_some, Option.toList_none, List.cons_append, List.nil_append, true_and, and_true, nI11, or_true, true_or, or_false, false_or, rdw_cl H, rw_anew H hr, rdw_f3 H, rdw_f4 H, rdw_arB H, a1, math_min, e1, rdw_p4 H, show (35 : Nat) < 1000 by decide, show (42 : Nat) < 1000 by decide, show (1 : Nat) < 1000 by decide]
  have := rw_bytes_loop (X := X) (d := d + 7) (Q := Q) (B := B) (N := N) (t := t) (r := ((4, ssl 4 0 r.1.2), (0, r.2.1.2), (0, r.2.2.2))) H h3 hf (nI tl) tl 0 (by omega)
  rw [cpN_0] at this
  rw [this]
  simp only [s9_47, s9_48, s9_49, s9_52, s9_53, s9_54, s9_55, OpV_some, OpN_some, OpA_some, OpR_some, Option.toList_some, Option.toList_none, List.cons_append, List.nil_append, true_and, and_true, nI11, or_true, true_or, or_false, false_or, rdw_f6 H, rdw_p6 H, rdw_cl H, rw_next H h3 h4' ht, show (35 : Nat) < 1000 by decide]
  rw [rw_read_loop H h3 h4' 1 (nI tl) 300 0 _ _ _ (by omega) (show 2 ≤ 4 by decide) ⟨show 4 ≤ 8 by decide, by show 0 ≤ 8; omega, by show 0 ≤ 4; omega⟩ k2 k3 k4]
  rfl
/-! the city's state with new doors, ropes, riders -/
theorem CityAt.onDoors (C : CityAt w s) {n : Nat} (hn : n ≤ 8) (f : Nat → Nat) : CityAt (rar (rsz w 2 3 8 2 n) 3 (8 * 2) (nIf f)) (s.1, (n, f), s.2.2) := by
  have ag : agr w (rar (rsz w 2 3 8 2 n) 3 (8 * 2) (nIf f)) [2, 3] := ((agr.rf w _).st (by decide) _).st (by decide) _
  exact ⟨(ag.2 0 (by decide)).trans C.o, (ag.2 1 (by decide)).trans C.tx, (C.dr.onS hn).onA _, NAt.ag C.2.2.2.1 ag (by decide), C.sn.ag ag (by decide) (by decide), (ag.2 15 (by decide)).trans C.im, C.i0.ag ag (by decide), C.i1.ag ag (by decide), (ag.2 34 (by decide)).trans C.kp, C.sc.ag ag (by decide)⟩
theorem CityAt.newRopes (C : CityAt w s) {n : Nat} (hn : n ≤ 8) (f : Nat → Nat) : CityAt (rar (rsz w 5 6 8 5 n) 6 (8 * 5) (nIf f)) (st_now s ((n, f), s.2.2.1.2)) := by
  have ag : agr w (rar (rsz w 5 6 8 5 n) 6 (8 * 5) (nIf f)) [5, 6] := ((agr.rf w _).st (by decide) _).st (by decide) _
  have N := C.2.2.2.1
  exact C.onNow ag (by decide) ⟨(ag.2 4 (by decide)).trans N.1, by decide, (C.rp.onS hn).onA _, N.pp.ag ag (by decide) (by decide), N.dd.ag ag (by decide) (by decide), N.m.ag ag (by decide) (by decide)⟩
theorem CityAt.newRiders (C : CityAt w s) {n : Nat} (hn : n ≤ 4) (f : Nat → Nat) : CityAt (rar (rsz w 7 8 4 5 n) 8 (4 * 5) (nIf f)) (st_now s (s.2.2.1.1, (n, f), s.2.2.1.2.2)) := by
  have ag : agr w (rar (rsz w 7 8 4 5 n) 8 (4 * 5) (nIf f)) [7, 8] := ((agr.rf w _).st (by decide) _).st (by decide) _
  have N := C.2.2.2.1
  exact C.onNow ag (by decide) ⟨(ag.2 4 (by decide)).trans N.1, by decide, N.r.ag ag (by decide) (by decide), (C.rd.onS hn).onA _, N.dd.ag ag (by decide) (by decide), N.m.ag ag (by decide) (by decide)⟩
theorem CityAt.noDeeds (C : CityAt w s) : CityAt (rsz w 9 10 10 7 0) (st_now s (s.2.2.1.1, s.2.2.1.2.1, (0, s.2.2.1.2.2.1.2), s.2.2.1.2.2.2)) := by
  have ag : agr w (rsz w 9 10 10 7 0) [9, 10] := (agr.rf w _).st (by decide) _
  have N := C.2.2.2.1
  exact C.onNow ag (by decide) ⟨(ag.2 4 (by decide)).trans N.1, by decide, N.r.ag ag (by decide) (by decide), N.pp.ag ag (by decide) (by decide), N.dd.onS (by decide), N.m.ag ag (by decide) (by decide)⟩
theorem CityAt.noRides (C : CityAt w s) : CityAt (rsz w 11 12 10 4 0) (st_now s (s.2.2.1.1, s.2.2.1.2.1, s.2.2.1.2.2.1, (0, s.2.2.1.2.2.2.2))) := by
  have ag : agr w (rsz w 11 12 10 4 0) [11, 12] := (agr.rf w _).st (by decide) _
  have N := C.2.2.2.1
  exact C.onNow ag (by decide) ⟨(ag.2 4 (by decide)).trans N.1, by decide, N.r.ag ag (by decide) (by decide), N.pp.ag ag (by decide) (by decide), N.dd.ag ag (by decide) (by decide), N.m.onS (by decide)⟩
theorem CityAt.noSeen (C : CityAt w s) : CityAt (rsz w 13 14 6 2 0) (st_seen s (0, s.2.2.2.1.2)) := C.onSeen ((agr.rf w _).st (by decide) _) (C.sn.onS (by omega))
theorem CityAt.reader (C : CityAt w s) (H : 44 ≤ w.length) (hr : rOK r) : CityAt (rdw w le t r B N) s := by
  have ag := rdw_ag (le := le) (t := t) (r := r) (B := B) (N := N) H
  obtain ⟨-, g1, g2, ⟨n7, f7, h7⟩, h8, ⟨tz, F, sz, mi, si, h⟩, hw, ⟨f9, h9⟩⟩ := C.sc
  exact ⟨(ag.2 0 (by decide)).trans C.o, (ag.2 1 (by decide)).trans C.tx, C.dr.ag ag (by decide) (by decide), NAt.ag C.2.2.2.1 ag (by decide), C.sn.ag ag (by decide) (by decide), (ag.2 15 (by decide)).trans C.im, C.i0.ag ag (by decide), C.i1.ag ag (by decide), (ag.2 34 (by decide)).trans C.kp,
    ⟨⟨⟨_, _, _, _, _, rdw_at H (i := 0) (by decide)⟩, ⟨_, _, rdw_D H hr.1⟩, ⟨_, _, rdw_R H hr.2.1⟩, ⟨_, _, rdw_P H hr.2.2⟩, ⟨_, rdw_at H (i := 7) (by decide)⟩, ⟨_, rdw_at H (i := 8) (by decide)⟩⟩, (ag.2 _ (by decide)).trans g1, (ag.2 _ (by decide)).trans g2, ⟨n7, f7, h7.ag ag (by decide) (by decide)⟩, h8.ag ag (by decide), ⟨tz, F, sz, mi, si, h.ag ag (by decide) (by decide) (by decide) (by decide)⟩, hw.ag ag (by decide) (by decide) (by decide), ⟨f9, (ag.2 _ (by decide)).trans h9⟩⟩⟩
theorem CityAt.asR (C : CityAt w s) (H : 44 ≤ w.length) : ∃ le t r B N, rOK r ∧ rdw w le t r B N = w := by
  obtain ⟨⟨a, b, c, d, e, h1⟩, ⟨n2, f2, h2⟩, ⟨n3, f3, h3⟩, ⟨n4, f4, h4⟩, ⟨f5, h5⟩, ⟨f6, h6⟩⟩ := C.sc.1
  refine ⟨a, (b, c, d, e), ((n2, f2), (n3, f3), (n4, f4)), f5, f6, ⟨h2.2.2.2.2.1, h3.2.2.2.2.1, h4.2.2.2.2.1⟩, spl_self (by rw [rdc_len]; omega) fun i hi => ?_⟩
  rw [rdc_len] at hi
  match i, hi with
  | 0, _ => exact h1
  | 1, _ => exact h2.1
  | 2, _ => exact h2.2.1
  | 3, _ => exact h3.1
  | 4, _ => exact h3.2.1
  | 5, _ => exact h4.1
  | 6, _ => exact h4.2.1
  | 7, _ => exact h5
  | 8, _ => exact h6
def st_city (s : CSt) (r : RSt) : CSt := ((0, s.1.2), (r.1.1, cpN r.1.2 s.2.1.2 (8 * 2)), ((r.2.1.1, cpN r.2.1.2 s.2.2.1.1.2 (8 * 5)), (r.2.2.1, cpN r.2.2.2 s.2.2.1.2.1.2 (4 * 5)), (0, s.2.2.1.2.2.1.2), (0, s.2.2.1.2.2.2.2)), (0, s.2.2.2.1.2), upN (upN s.2.2.2.2.1 0 0) 1 0, s.2.2.2.2.2)
def sp_city (s : CSt) (t : TS) (r : RSt) (B N : Nat → Nat) : Int32 × CSt := if (rdF s.1.2 s.1.1 t r B N).1 < 0 then ((rdF s.1.2 s.1.1 t r B N).1, s) else ((rdF s.1.2 s.1.1 t r B N).1, st_city s (rdF s.1.2 s.1.1 t r B N).2.2.1)
theorem rlp_rOK (B : Nat → Nat) {le : Nat} : ∀ (n it : Nat) (t : TS) (r : RSt) (N : Nat → Nat), 2 ≤ r.1.1 → rOK r → t.2.1 ≤ le → rOK (rlp B le n it t r N).2.2.1
  | 0, it, t, r, N, h, hr, ht => hr
  | n + 1, it, t, r, N, h, hr, ht => by
    obtain ⟨c1, c2, c3, c4⟩ := rit_ok (B := B) (it := it) (N := N) h hr ht
    unfold rlp
    split
    · exact hr
    · split
      · exact rlp_rOK B n (it + 1) _ _ _ c4 c3 (tkn_ok B c1).2.2.1
      · exact c3
theorem c_city (C : CityAt w s) (V : Valid s) (H : 57 ≤ w.length) (hQ : ∀ u t r B N, CityAt u (sp_city s t r B N).2 → agr w u (List.range 57) → Q (some (.int (sp_city s t r B N).1)) u) : Cl X (d + 9) 55 [.ref 0] w Q := by
  have H4 : 44 ≤ w.length := by omega
  obtain ⟨le, t, r, B, N, hr, hw⟩ := C.asR H4
  have hQ := fun u => hQ u t r B N
  have hrO : rOK (rdF s.1.2 s.1.1 t r B N).2.2.1 := rlp_rOK _ _ _ _ _ _ (show 2 ≤ 4 by decide) ⟨show 4 ≤ 8 by decide, by show 0 ≤ 8; omega, by show 0 ≤ 4; omega⟩ (tkn_ok _ (Nat.zero_le _)).2.2.1
  have hread : ∀ Q : am_Q, Cl X (d + 8) 9 [.ref 35, .ref 1, .int (nI s.1.1)] w Q = Q (some (.int (rdF s.1.2 s.1.1 t r B N).1)) (rdw w s.1.1 (rdF s.1.2 s.1.1 t r B N).2.1 (rdF s.1.2 s.1.1 t r B N).2.2.1 (cpN s.1.2 B s.1.1) (rdF s.1.2 s.1.1 t r B N).2.2.2) := fun Q => by
    conv => lhs; rw [← hw]
    exact rw_read H4 hr C.tx V.1 V.2.1
  have hcl : am_cls w 35 = some 1 := by
    conv => lhs; rw [← hw]
    exact rdw_cl H4
  unfold sp_city at hQ
  generalize rdF s.1.2 s.1.1 t r B N = x at hrO hread hQ
  generalize cpN s.1.2 B s.1.1 = B1 at hread
  have C1 := C.reader (le := s.1.1) (t := x.2.1) (B := B1) (N := x.2.2.2) H4 hrO
  have ag1 := (rdw_ag (le := s.1.1) (t := x.2.1) (r := x.2.2.1) (B := B1) (N := x.2.2.2) H4).mo (show ∀ q, q ∈ [35, 36, 37, 38, 39, 40, 41, 42, 43] → q ∈ List.range 57 by decide)
  rw [e55]
  simp only [s55_0, s55_1, s55_4, s55_5, s55_8, s55_9, s55_12, s55_15, s55_16, s55_17, s55_20, s55_21, s55_22, s55_23, s55_26, s55_27, s55_30, s55_33, s55_36, s55_37, s55_40, s55_43, s55_44, s55_47, s55_50, s55_53, s55_54, s55_57, s55_60, s55_61, s55_64, s55_67, s55_70, s55_71, s55_74, s55_77, s55_80, s55_81, s55_84, s55_87, s55_90, s55_91, s55_94, s55_97, s55_98, s55_101, s55_102, s55_103, s55_104, s55_105, s55_108, s55_109, s55_110, s55_111, s55_112, s55_113, s55_116, s55_117, OpV_some, OpN_some, OpA_some, OpR_some, Option.toList_some, Option.toList_none, List.cons_append, List.nil_append, true_and, and_true, nI11, or_true, true_or, or_false, false_or, C.f8, C.f0, C.f1, hcl, hread, show (0 : Nat) < 1000 by decide, show (35 : Nat) < 1000 by decide]
  by_cases hx : x.1 < 0
  · simp only [hx, if_true] at hQ ⊢
    exact hQ _ C1 ag1
  · simp only [hx, if_false] at hQ ⊢
    have R1 := rdw_D (le := s.1.1) (t := x.2.1) (B := B1) (N := x.2.2.2) (u := w) H4 hrO.1
    have R2 := rdw_R (le := s.1.1) (t := x.2.1) (B := B1) (N := x.2.2.2) (u := w) H4 hrO.2.1
    have R3 := rdw_P (le := s.1.1) (t := x.2.1) (B := B1) (N := x.2.2.2) (u := w) H4 hrO.2.2
    have F0 := rdw_f0 (le := s.1.1) (t := x.2.1) (r := x.2.2.1) (B := B1) (N := x.2.2.2) H4
    have F1 := rdw_f1 (le := s.1.1) (t := x.2.1) (r := x.2.2.1) (B := B1) (N := x.2.2.2) H4
    have F2 := rdw_f2 (le := s.1.1) (t := x.2.1) (r := x.2.2.1) (B := B1) (N := x.2.2.2) H4
    generalize rdw w s.1.1 x.2.1 x.2.2.1 B1 x.2.2.2 = w1 at C1 ag1 R1 R2 R3 F0 F1 F2
    have C2 := C1.onDoors hrO.1 (cpN x.2.2.1.1.2 s.2.1.2 (8 * 2))
    have agA : agr w1 (rar (rsz w1 2 3 8 2 x.2.2.1.1.1) 3 (8 * 2) (nIf (cpN x.2.2.1.1.2 s.2.1.2 (8 * 2)))) [2, 3] := ((agr.rf w1 _).st (by decide) _).st (by decide) _
    have F1a : am_fld (rar (rsz w1 2 3 8 2 x.2.2.1.1.1) 3 (8 * 2) (nIf (cpN x.2.2.1.1.2 s.2.1.2 (8 * 2)))) 35 1 1 = some (.ref 38) := by unfold am_fld at F1 ⊢; rw [agA.2 35 (by decide)]; exact F1
    have F2a : am_fld (rar (rsz w1 2 3 8 2 x.2.2.1.1.1) 3 (8 * 2) (nIf (cpN x.2.2.1.1.2 s.2.1.2 (8 * 2)))) 35 1 2 = some (.ref 40) := by unfold am_fld at F2 ⊢; rw [agA.2 35 (by decide)]; exact F2
    have R2a := R2.ag agA (by decide) (by decide)
    have R3a := R3.ag agA (by decide) (by decide)
    simp only [C1.f2, C1.f8, F0, C1.dr.cl, rows_copy C1.dr R1 (show 2 ≠ 36 by decide) (show 3 ≠ 37 by decide) (show 36 ≠ 3 by decide) (show 2 ≠ 37 by decide), cpy_nIf, s55_22, s55_23, s55_26, s55_27, s55_30, s55_33, s55_36, s55_37, s55_40, OpV_some, OpN_some, OpA_some, OpR_some, Option.toList_some, Option.toList_none, List.cons_append, List.nil_append, true_and, and_true, nI11, or_true, true_or, or_false, false_or, show (0 : Nat) < 1000 by decide, show (2 : Nat) < 1000 by decide, show (35 : Nat) < 1000 by decide, C2.f3]
    have ag2 := ag1.tr (agA.mo (show ∀ q, q ∈ [2, 3] → q ∈ List.range 57 by decide))
    generalize rar (rsz w1 2 3 8 2 x.2.2.1.1.1) 3 (8 * 2) (nIf (cpN x.2.2.1.1.2 s.2.1.2 (8 * 2))) = w2 at C2 ag2 F1a F2a R2a R3a
    have C3 := C2.newRopes hrO.2.1 (cpN x.2.2.1.2.1.2 s.2.2.1.1.2 (8 * 5))
    have agB : agr w2 (rar (rsz w2 5 6 8 5 x.2.2.1.2.1.1) 6 (8 * 5) (nIf (cpN x.2.2.1.2.1.2 s.2.2.1.1.2 (8 * 5)))) [5, 6] := ((agr.rf w2 _).st (by decide) _).st (by decide) _
    have F2b : am_fld (rar (rsz w2 5 6 8 5 x.2.2.1.2.1.1) 6 (8 * 5) (nIf (cpN x.2.2.1.2.1.2 s.2.2.1.1.2 (8 * 5)))) 35 1 2 = some (.ref 40) := by unfold am_fld at F2a ⊢; rw [agB.2 35 (by decide)]; exact F2a
    have R3b := R3a.ag agB (by decide) (by decide)
    have cp2 : Cl X (d + 8) 41 [.ref 5, .ref 38] w2 = fun Q => Q none (rar (rsz w2 5 6 8 5 x.2.2.1.2.1.1) 6 (8 * 5) (nIf (cpN x.2.2.1.2.1.2 s.2.2.1.1.2 (8 * 5)))) := funext fun Q => by
      rw [rows_copy C2.rp R2a (by decide) (by decide) (by decide) (by decide), cpy_nIf]
    simp only [C2.f3, C2.n0, C2.f8, F1a, C2.rp.cl, cp2, s55_36, s55_37, s55_40, s55_43, s55_44, s55_47, s55_50, s55_53, s55_54, s55_57, s55_60, s55_61, s55_64, s55_67, OpV_some, OpN_some, OpA_some, OpR_some, Option.toList_some, Option.toList_none, List.cons_append, List.nil_append, true_and, and_true, nI11, or_true, true_or, or_false, false_or, show (0 : Nat) < 1000 by decide, show (4 : Nat) < 1000 by decide, show (5 : Nat) < 1000 by decide, show (35 : Nat) < 1000 by decide]
    have ag3 := ag2.tr (agB.mo (show ∀ q, q ∈ [5, 6] → q ∈ List.range 57 by decide))
    generalize rar (rsz w2 5 6 8 5 x.2.2.1.2.1.1) 6 (8 * 5) (nIf (cpN x.2.2.1.2.1.2 s.2.2.1.1.2 (8 * 5))) = w3 at C3 ag3 F2b R3b
    have C4 := C3.newRiders hrO.2.2 (cpN x.2.2.1.2.2.2 s.2.2.1.2.1.2 (4 * 5))
    have agC : agr w3 (rar (rsz w3 7 8 4 5 x.2.2.1.2.2.1) 8 (4 * 5) (nIf (cpN x.2.2.1.2.2.2 s.2.2.1.2.1.2 (4 * 5)))) [7, 8] := ((agr.rf w3 _).st (by decide) _).st (by decide) _
    have cp3 : Cl X (d + 8) 41 [.ref 7, .ref 40] w3 = fun Q => Q none (rar (rsz w3 7 8 4 5 x.2.2.1.2.2.1) 8 (4 * 5) (nIf (cpN x.2.2.1.2.2.2 s.2.2.1.2.1.2 (4 * 5)))) := funext fun Q => by
      rw [rows_copy C3.rd R3b (by decide) (by decide) (by decide) (by decide), cpy_nIf]
      rfl
    simp only [C3.f3, C3.n1, C3.f8, F2b, C3.rd.cl, cp3, s55_53, s55_54, s55_57, s55_60, s55_61, s55_64, s55_67, s55_70, s55_71, s55_74, OpV_some, OpN_some, OpA_some, OpR_some, Option.toList_some, Option.toList_none, List.cons_append, List.nil_append, true_and, and_true, nI11, or_true, true_or, or_false, false_or, show (0 : Nat) < 1000 by decide, show (4 : Nat) < 1000 by decide, show (7 : Nat) < 1000 by decide, show (35 : Nat) < 1000 by decide]
    have ag4 := ag3.tr (agC.mo (show ∀ q, q ∈ [7, 8] → q ∈ List.range 57 by decide))
    generalize rar (rsz w3 7 8 4 5 x.2.2.1.2.2.1) 8 (4 * 5) (nIf (cpN x.2.2.1.2.2.2 s.2.2.1.2.1.2 (4 * 5))) = w4 at C4 ag4
    have C5 := C4.noDeeds
    have ag5 := ag4.st (show 9 ∈ List.range 57 by decide) (.inr (4, [.int (nI 10), .int (nI 7), .ref 10, .int (nI 0)]))
    have cp4 : Cl X (d + 8) 37 [.ref 9] w4 = fun Q => Q none (rsz w4 9 10 10 7 0) := funext fun Q => rows_empty C4.nw.dd
    have C6 := C5.noRides
    have cp5 : Cl X (d + 8) 37 [.ref 11] (rsz w4 9 10 10 7 0) = fun Q => Q none (rsz (rsz w4 9 10 10 7 0) 11 12 10 4 0) := funext fun Q => rows_empty C5.nw.m
    have C7 := C6.noSeen
    have cp6 : Cl X (d + 8) 37 [.ref 13] (rsz (rsz w4 9 10 10 7 0) 11 12 10 4 0) = fun Q => Q none (rsz (rsz (rsz w4 9 10 10 7 0) 11 12 10 4 0) 13 14 6 2 0) := funext fun Q => rows_empty C6.sn
    have ag7 := (ag5.st (show 11 ∈ List.range 57 by decide) (.inr (4, [.int (nI 10), .int (nI 4), .ref 12, .int (nI 0)]))).st (show 13 ∈ List.range 57 by decide) (.inr (4, [.int (nI 6), .int (nI 2), .ref 14, .int (nI 0)]))
    simp only [C4.f3, C4.n2, C4.nw.dd.cl, cp4, C5.f3, C5.n3, C5.nw.m.cl, cp5, C6.f4, C6.sn.cl, cp6, s55_70, s55_71, s55_74, s55_77, s55_80, s55_81, s55_84, s55_87, s55_90, s55_91, s55_94, OpV_some, OpN_some, OpA_some, OpR_some, Option.toList_some, Option.toList_none, List.cons_append, List.nil_append, true_and, and_true, nI11, or_true, true_or, or_false, false_or, show (0 : Nat) < 1000 by decide, show (4 : Nat) < 1000 by decide, show (9 : Nat) < 1000 by decide, show (11 : Nat) < 1000 by decide, show (13 : Nat) < 1000 by decide]
    change agr w (rsz (rsz (rsz w4 9 10 10 7 0) 11 12 10 4 0) 13 14 6 2 0) (List.range 57) at ag7
    generalize rsz (rsz (rsz w4 9 10 10 7 0) 11 12 10 4 0) 13 14 6 2 0 = w7 at C7 ag7
    have C8 := C7.onKept (upN s.2.2.2.2.1 0 0)
    have ha : am_ast w7 34 (nI 0).toNatClampNeg (nI 0) = w7.set 34 (.inl (1, 2, .inl (nIf (upN s.2.2.2.2.1 0 0)))) := by
      rw [ast_at C7.kp, nI_clamp (by decide), upd_nIf]; rfl
    have ag8 := ag7.st (show 34 ∈ List.range 57 by decide) (.inl (1, 2, .inl (nIf (upN s.2.2.2.2.1 0 0))))
    simp only [C7.f6, arr_at (show 34 < 1000 by decide) C7.kp, in_nI (show 0 < 2 by decide) (show 2 < 2 ^ 31 by decide), b01_0, ha, s55_97, s55_98, s55_101, s55_102, s55_103, OpV_some, OpN_some, OpA_some, OpR_some, Option.toList_some, Option.toList_none, List.cons_append, List.nil_append, true_and, and_true, nI11, or_true, true_or, or_false, false_or, show (0 : Nat) < 1000 by decide, show (34 : Nat) < 1000 by decide]
    generalize w7.set 34 (.inl (1, 2, .inl (nIf (upN s.2.2.2.2.1 0 0)))) = w8 at C8 ag8
    have C9 := C8.onKept (upN (upN s.2.2.2.2.1 0 0) 1 0)
    have ha : am_ast w8 34 (nI 1).toNatClampNeg (nI 0) = w8.set 34 (.inl (1, 2, .inl (nIf (upN (upN s.2.2.2.2.1 0 0) 1 0)))) := by
      rw [ast_at C8.kp, nI_clamp (by decide), upd_nIf]; rfl
    have ag9 := ag8.st (show 34 ∈ List.range 57 by decide) (.inl (1, 2, .inl (nIf (upN (upN s.2.2.2.2.1 0 0) 1 0))))
    simp only [C8.f6, arr_at (show 34 < 1000 by decide) C8.kp, in_nI (show 1 < 2 by decide) (show 2 < 2 ^ 31 by decide), b01_0, ha, s55_104, s55_105, s55_108, s55_109, s55_110, OpV_some, OpN_some, OpA_some, OpR_some, Option.toList_some, Option.toList_none, List.cons_append, List.nil_append, true_and, and_true, nI11, or_true, true_or, or_false, false_or, show (0 : Nat) < 1000 by decide, show (34 : Nat) < 1000 by decide]
    generalize w8.set 34 (.inl (1, 2, .inl (nIf (upN (upN s.2.2.2.2.1 0 0) 1 0)))) = w9 at C9 ag9
    have hp : am_put w9 0 1 (.int (nI 0)) = w9.set 0 (objC 0 s.2.2.2.2.2.2) := put_at C9.o
    simp only [C9.f1, hp, s55_111, s55_112, s55_113, s55_116, s55_117, OpV_some, OpN_some, OpA_some, OpR_some, Option.toList_some, Option.toList_none, List.cons_append, List.nil_append, true_and, and_true, nI11, or_true, true_or, or_false, false_or, show (0 : Nat) < 1000 by decide]
    exact hQ _ (C9.set0 0 s.2.2.2.2.2.2) (ag9.st (by decide) _)
end CITYB
