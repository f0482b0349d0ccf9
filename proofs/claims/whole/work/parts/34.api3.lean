/-! scratch places; count, go -/
section API3
variable {X : am_X} {d : Nat} {Q : am_Q} {w : am_W} {s : CSt}
theorem RdAt.ag {u : am_W} {q : Nat} {l : List Nat} (h : RdAt w q) (ag : agr w u l) (hq : q ∉ l) : RdAt u q := by
  obtain ⟨a, b, c, e, h⟩ := h; exact ⟨a, b, c, e, (ag.2 q hq).trans h⟩
theorem WyAt.ag {u : am_W} {l : List Nat} (h : WyAt w) (ag : agr w u l) (h1 : 53 ∉ l) (h2 : 54 ∉ l) (h3 : 55 ∉ l) : WyAt u := by
  obtain ⟨E, N, m, r, a, b, c⟩ := h; exact ⟨E, N, m, r, (ag.2 _ h1).trans a, (ag.2 _ h2).trans b, (ag.2 _ h3).trans c⟩
theorem RtAt.ag {u : am_W} {l : List Nat} {tz sz mi si : Nat} {F : Nat → Nat} (R : RtAt w tz F sz mi si) (ag : agr w u l) (h1 : 49 ∉ l) (h2 : 50 ∉ l) (h3 : 51 ∉ l) (h4 : 52 ∉ l) : RtAt u tz F sz mi si := by
  obtain ⟨a, b, c, e, h⟩ := R.2.2
  exact ⟨(ag.2 _ h1).trans R.1, R.2.1.ag ag h2 h3, ⟨a, b, c, e, (ag.2 _ h4).trans h⟩⟩
theorem CityAt.scr (C : CityAt w s) {u : am_W} {l : List Nat} (ag : agr w u l) (hl : ∀ q, q ∈ l → 46 ≤ q ∧ q ≤ 56) (h7 : ∃ n f, RowsAt u 46 47 8 5 n (nIf f)) (h8 : RdAt u 48) (hr : ∃ tz F sz mi si, RtAt u tz F sz mi si) (hw : WyAt u) (h9 : ∃ f, u[56]? = some (.inl (0, 4, .inl (nIf f)))) : CityAt u s := by
  have kl : ∀ q, q < 46 → q ∉ l := fun q hq hm => by have := hl q hm; omega
  have k : ∀ q, q < 46 → u[q]? = w[q]? := fun q hq => ag.2 q (kl q hq)
  obtain ⟨⟨⟨a, b, c, d, e, h1⟩, ⟨n2, f2, h2⟩, ⟨n3, f3, h3⟩, ⟨n4, f4, h4⟩, ⟨f5, h5⟩, ⟨f6, h6⟩⟩, g1, g2, -⟩ := C.sc
  exact ⟨(k 0 (by decide)).trans C.o, (k 1 (by decide)).trans C.tx, C.dr.ag ag (kl _ (by decide)) (kl _ (by decide)), NAt.ag C.2.2.2.1 ag (fun q hq => Or.inr (by have := hl q hq; omega)), C.sn.ag ag (kl _ (by decide)) (kl _ (by decide)), (k 15 (by decide)).trans C.im, C.i0.ag ag (fun q hq => Or.inr (by have := hl q hq; omega)), C.i1.ag ag (fun q hq => Or.inr (by have := hl q hq; omega)), (k 34 (by decide)).trans C.kp,
    ⟨⟨⟨a, b, c, d, e, (k _ (by decide)).trans h1⟩, ⟨n2, f2, h2.oth (k _ (by decide)) (k _ (by decide))⟩, ⟨n3, f3, h3.oth (k _ (by decide)) (k _ (by decide))⟩, ⟨n4, f4, h4.oth (k _ (by decide)) (k _ (by decide))⟩, ⟨f5, (k _ (by decide)).trans h5⟩, ⟨f6, (k _ (by decide)).trans h6⟩⟩, (k _ (by decide)).trans g1, (k _ (by decide)).trans g2, h7, h8, hr, hw, h9⟩⟩
theorem CityAt.tr (C : CityAt w s) : ∃ n f, RowsAt w 46 47 8 5 n (nIf f) := C.sc.2.2.2.1
theorem CityAt.ri (C : CityAt w s) : RdAt w 48 := C.sc.2.2.2.2.1
theorem CityAt.rt (C : CityAt w s) : ∃ tz F sz mi si, RtAt w tz F sz mi si := C.sc.2.2.2.2.2.1
theorem CityAt.wyA (C : CityAt w s) : WyAt w := C.sc.2.2.2.2.2.2.1
theorem CityAt.df (C : CityAt w s) : ∃ f, w[56]? = some (.inl (0, 4, .inl (nIf f))) := C.sc.2.2.2.2.2.2.2
theorem CityAt.rd48 (C : CityAt w s) (a b c e : Int32) : CityAt (rd4 w 48 a b c e) s := by
  have ag : agr w (rd4 w 48 a b c e) [48] := (agr.rf w _).st (by decide) _
  obtain ⟨n, f, h7⟩ := C.tr
  obtain ⟨x0, x1, x2, x3, h8⟩ := C.ri
  obtain ⟨tz, F, sz, mi, si, h⟩ := C.rt
  obtain ⟨f9, h9⟩ := C.df
  exact C.scr ag (by decide) ⟨n, f, h7.ag ag (by decide) (by decide)⟩ ⟨a, b, c, e, rd4_at h8⟩ ⟨tz, F, sz, mi, si, h.ag ag (by decide) (by decide) (by decide) (by decide)⟩ (C.wyA.ag ag (by decide) (by decide) (by decide)) ⟨f9, (ag.2 _ (by decide)).trans h9⟩
theorem rar_rar (u : am_W) (j n : Nat) (f g : Nat → Int32) : rar (rar u j n f) j n g = rar u j n g := by unfold rar; rw [List.set_set]
theorem nI_sub_toInt {a b : Nat} (ha : a < 2 ^ 30) (hb : b < 2 ^ 30) : (nI a - nI b).toInt = (a : Int) - b := by
  rw [Int32.toInt_sub, nI_toInt (by omega), nI_toInt (by omega), Int.bmod_eq_of_le] <;> omega
theorem purse {a b : Nat} (ha : a < 2 ^ 30) (hb : b < 2 ^ 30) : imax (nI 0) (nI a - nI b) = nI (a - b) := by
  by_cases h : b ≤ a
  · rw [nI_subN h, imax_nI (by decide) (by omega), Nat.max_eq_right (by omega)]
  · have h1 : ¬ nI 0 < nI a - nI b := by
      rw [Int32.lt_iff_toInt_lt, nI_sub_toInt ha hb, nI_toInt (by decide)]; omega
    unfold imax
    rw [if_neg h1, Nat.sub_eq_zero_of_le (by omega)]
/-- a ride made: by rider r on rope k, taken, its end, its sill, whether by a fall -/
def st_go (n : NSt) (r k tk en si fl : Nat) : NSt :=
  (n.1, (n.2.1.1, upN (upN (upN (upN n.2.1.2 (r * 5) si) (r * 5 + 1) en) (r * 5 + 3) (n.2.1.2 (r * 5 + 3) - n.1.2 (k * 5 + 2))) (r * 5 + 4) fl), (adN 10 n.2.2.1.1, dnew n.2.2.1.2 n.2.2.1.1 0 r n.2.1.2), (adN 10 n.2.2.2.1, mnew n.2.2.2.2 n.2.2.2.1 r k tk en))
def sp_goR (s : CSt) (r k : Nat) : Nat × Nat × Bool := rid s.2.1.2 s.2.2.1.1.2 k (s.2.2.1.2.1.2 (r * 5 + 2)) (s.2.2.1.2.1.2 (r * 5)) (s.2.2.1.2.1.2 (r * 5 + 1))
def sp_goN (s : CSt) (r k : Nat) : Int32 × CSt :=
  if s.2.2.1.2.1.2 (r * 5 + 4) = 1 then (-2, s)
  else if canB s.2.2.1.1.2 s.2.2.1.1.1 k (s.2.2.1.2.1.2 (r * 5)) = true ∧ (sp_goR s r k).1 ≤ 999 then
    (nI (if (sp_goR s r k).2.2 = true then (sp_goR s r k).1 + 1000 else (sp_goR s r k).1), st_now s (st_go s.2.2.1 r k (fat s.2.2.1.1.2 k (s.2.2.1.2.1.2 (r * 5)) (s.2.2.1.2.1.2 (r * 5 + 1))) (sp_goR s r k).1 (sp_goR s r k).2.1 (if (sp_goR s r k).2.2 = true then 1 else 0)))
  else (-2, s)
def sp_go (s : CSt) (x y : Int32) : Int32 × CSt :=
  if (0 ≤ x ∧ x < nI s.2.2.1.2.1.1) ∧ (0 ≤ y ∧ y < nI s.2.2.1.1.1) then sp_goN s (cl x) (cl y) else (-1, s)
theorem c_go_tail (C : CityAt w s) (V : Valid s) {j k tk en si : Nat} {fl : Bool} (hj : j < s.2.2.1.2.1.1) (hk : k < s.2.2.1.1.1) (h48 : w[48]? = some (.inr (2, [.int (nI tk), .int (nI en), .int (nI si), .int (nI (if fl = true then 1 else 0))])))
    (hQ : ∀ u, CityAt u (st_now s (st_go s.2.2.1 j k tk en si (if fl = true then 1 else 0))) → agr w u (List.range 57) → Q (some (.int (nI (if fl = true then en + 1000 else en)))) u) :
    Wp X (Cl X (d + 3)) 60 Q (87, [some (.ref 0), some (.int (nI j)), some (.int (nI k)), some (.ref 7)], [], w, 0, 0) := by
  obtain ⟨-, hr⟩ := V.2.2.2.1.2.2.1
  obtain ⟨r1, r2, r3, r4, r5, r6⟩ := hr j hj
  have hb9 := V.2.2.2.1.2.1 k hk
  simp only [s60_0, s60_1, s60_4, s60_7, s60_8, s60_11, s60_14, s60_15, s60_18, s60_21, s60_22, s60_25, s60_28, s60_29, s60_30, s60_31, s60_34, s60_37, s60_38, s60_39, s60_40, s60_41, s60_44, s60_45, s60_48, s60_50, s60_51, s60_52, s60_55, s60_56, s60_59, s60_60, s60_61, s60_62, s60_63, s60_66, s60_67, s60_68, s60_69, s60_72, s60_73, s60_74, s60_75, s60_78, s60_81, s60_84, s60_86, s60_87, s60_88, s60_91, s60_92, s60_93, s60_94, s60_97, s60_98, s60_101, s60_102, s60_103, s60_104, s60_107, s60_110, s60_111, s60_112, s60_113, s60_114, s60_117, s60_120, s60_123, s60_124, s60_125, s60_126, s60_127, s60_130, s60_133, s60_136, s60_137, s60_138, s60_139, s60_140, s60_141, s60_142, s60_143, s60_146, s60_147, s60_150, s60_153, s60_154, s60_155, s60_158, s60_159, s60_162, s60_165, s60_166, s60_167, s60_168, s60_169, s60_172, s60_175, s60_178, s60_179, s60_182, s60_183, s60_186, s60_187, s60_190, s60_193, s60_196, s60_197, s60_200, s60_203, s60_206, s60_207, s60_210, s60_211, s60_214, s60_217, OpV_some, OpN_some, OpA_some, OpR_some, Option.toList_some, Option.toList_none, List.cons_append, List.nil_append, true_and, and_true, nI11, or_true, true_or, or_false, false_or, C.f3, C.nw.cl, show (0 : Nat) < 1000 by decide, show (4 : Nat) < 1000 by decide]
  refine c_deedP C hj fun v ag Cv => ?_
  simp only [s60_0, s60_1, s60_4, s60_7, s60_8, s60_11, s60_14, s60_15, s60_18, s60_21, s60_22, s60_25, s60_28, s60_29, s60_30, s60_31, s60_34, s60_37, s60_38, s60_39, s60_40, s60_41, s60_44, s60_45, s60_48, s60_50, s60_51, s60_52, s60_55, s60_56, s60_59, s60_60, s60_61, s60_62, s60_63, s60_66, s60_67, s60_68, s60_69, s60_72, s60_73, s60_74, s60_75, s60_78, s60_81, s60_84, s60_86, s60_87, s60_88, s60_91, s60_92, s60_93, s60_94, s60_97, s60_98, s60_101, s60_102, s60_103, s60_104, s60_107, s60_110, s60_111, s60_112, s60_113, s60_114, s60_117, s60_120, s60_123, s60_124, s60_125, s60_126, s60_127, s60_130, s60_133, s60_136, s60_137, s60_138, s60_139, s60_140, s60_141, s60_142, s60_143, s60_146, s60_147, s60_150, s60_153, s60_154, s60_155, s60_158, s60_159, s60_162, s60_165, s60_166, s60_167, s60_168, s60_169, s60_172, s60_175, s60_178, s60_179, s60_182, s60_183, s60_186, s60_187, s60_190, s60_193, s60_196, s60_197, s60_200, s60_203, s60_206, s60_207, s60_210, s60_211, s60_214, s60_217, OpV_some, OpN_some, OpA_some, OpR_some, Option.toList_some, Option.toList_none, List.cons_append, List.nil_append, true_and, and_true, nI11, or_true, true_or, or_false, false_or, Cv.f3, Cv.f11, Cv.nw.cl, show (0 : Nat) < 1000 by decide, show (4 : Nat) < 1000 by decide]
  have h48v := (ag.2 48 (by decide)).trans h48
  refine now_ride Cv.nw h48v (by decide) (by decide) (by decide) fun v2 ag2 hm => ?_
  have N2 := Cv.2.2.2.1
  have C2 : CityAt v2 (st_now s (s.2.2.1.1, s.2.2.1.2.1, (adN 10 s.2.2.1.2.2.1.1, dnew s.2.2.1.2.2.1.2 s.2.2.1.2.2.1.1 0 j s.2.2.1.2.1.2), (adN 10 s.2.2.1.2.2.2.1, mnew s.2.2.1.2.2.2.2 s.2.2.1.2.2.2.1 j k tk en))) :=
    Cv.onNow ag2 (by decide) ⟨(ag2.2 4 (by decide)).trans N2.1, by decide, N2.r.ag ag2 (by decide) (by decide), N2.pp.ag ag2 (by decide) (by decide), N2.dd.ag ag2 (by decide) (by decide), hm⟩
  have Cp := fun p => C2.onRiders p
  have h48p : ∀ p, (rar v2 8 20 (nIf p))[48]? = some (.inr (2, [.int (nI tk), .int (nI en), .int (nI si), .int (nI (if fl = true then 1 else 0))])) := fun p => (set_ne (by decide)).trans ((ag2.2 48 (by decide)).trans h48v)
  have e0 : rar v2 8 20 (nIf s.2.2.1.2.1.2) = v2 := set_self C2.rd.2.1
  have P0 : ∀ (p : Nat → Nat) (v d : Nat) (Q : am_Q), Cl X (d + 1) 35 [.ref 7, .int (nI j), .int (nI 0), .int (nI v)] (rar v2 8 20 (nIf p)) Q = Q none (rar v2 8 20 (nIf (upN p (j * 5) v))) := fun p v d Q => by
    rw [rows_setN (Cp p).rd hj (by decide), rar_rar]; rfl
  have P1 : ∀ (p : Nat → Nat) (v d : Nat) (Q : am_Q), Cl X (d + 1) 35 [.ref 7, .int (nI j), .int (nI 1), .int (nI v)] (rar v2 8 20 (nIf p)) Q = Q none (rar v2 8 20 (nIf (upN p (j * 5 + 1) v))) := fun p v d Q => by
    rw [rows_setN (Cp p).rd hj (by decide), rar_rar]; rfl
  have P3 : ∀ (p : Nat → Nat) (v d : Nat) (Q : am_Q), Cl X (d + 1) 35 [.ref 7, .int (nI j), .int (nI 3), .int (nI v)] (rar v2 8 20 (nIf p)) Q = Q none (rar v2 8 20 (nIf (upN p (j * 5 + 3) v))) := fun p v d Q => by
    rw [rows_setN (Cp p).rd hj (by decide), rar_rar]; rfl
  have P4 : ∀ (p : Nat → Nat) (v d : Nat) (Q : am_Q), Cl X (d + 1) 35 [.ref 7, .int (nI j), .int (nI 4), .int (nI v)] (rar v2 8 20 (nIf p)) Q = Q none (rar v2 8 20 (nIf (upN p (j * 5 + 4) v))) := fun p v d Q => by
    rw [rows_setN (Cp p).rd hj (by decide), rar_rar]; rfl
  have G3 : ∀ (p : Nat → Nat) (d : Nat) (Q : am_Q), Cl X (d + 1) 34 [.ref 7, .int (nI j), .int (nI 3)] (rar v2 8 20 (nIf p)) Q = Q (some (.int (nI (p (j * 5 + 3))))) (rar v2 8 20 (nIf p)) := fun p d Q => rows_getN (Cp p).rd hj (by decide)
  have G2 : ∀ (p : Nat → Nat) (d : Nat) (Q : am_Q), Cl X (d + 1) 34 [.ref 5, .int (nI k), .int (nI 2)] (rar v2 8 20 (nIf p)) Q = Q (some (.int (nI (s.2.2.1.1.2 (k * 5 + 2))))) (rar v2 8 20 (nIf p)) := fun p d Q => rows_getN (Cp p).rp hk (by decide)
  have R1 : ∀ p, am_fld (rar v2 8 20 (nIf p)) 48 2 1 = some (.int (nI en)) := fun p => fld_at (h48p p)
  have R2 : ∀ p, am_fld (rar v2 8 20 (nIf p)) 48 2 2 = some (.int (nI si)) := fun p => fld_at (h48p p)
  have R3 : ∀ p, am_fld (rar v2 8 20 (nIf p)) 48 2 3 = some (.int (nI (if fl = true then 1 else 0))) := fun p => fld_at (h48p p)
  have F3 : ∀ p, am_fld (rar v2 8 20 (nIf p)) 0 7 3 = some (.ref 4) := fun p => (Cp p).f3
  have F11 : ∀ p, am_fld (rar v2 8 20 (nIf p)) 0 7 11 = some (.ref 48) := fun p => (Cp p).f11
  have FN : ∀ p, am_fld (rar v2 8 20 (nIf p)) 4 0 0 = some (.ref 5) := fun p => (Cp p).n0
  have K7 : ∀ p, am_cls (rar v2 8 20 (nIf p)) 7 = some 4 := fun p => (Cp p).rd.cl
  have K5 : ∀ p, am_cls (rar v2 8 20 (nIf p)) 5 = some 4 := fun p => (Cp p).rp.cl
  have hp3 : upN (upN s.2.2.1.2.1.2 (j * 5) si) (j * 5 + 1) en (j * 5 + 3) = s.2.2.1.2.1.2 (j * 5 + 3) := by
    unfold upN; rw [if_neg (by omega), if_neg (by omega)]
  have agf : ∀ p, agr w (rar v2 8 20 (nIf p)) (List.range 57) := fun p => ((ag.mo (by decide)).tr (ag2.mo (by decide))).st (by decide) _
  rw [← e0]
  simp only [s60_0, s60_1, s60_4, s60_7, s60_8, s60_11, s60_14, s60_15, s60_18, s60_21, s60_22, s60_25, s60_28, s60_29, s60_30, s60_31, s60_34, s60_37, s60_38, s60_39, s60_40, s60_41, s60_44, s60_45, s60_48, s60_50, s60_51, s60_52, s60_55, s60_56, s60_59, s60_60, s60_61, s60_62, s60_63, s60_66, s60_67, s60_68, s60_69, s60_72, s60_73, s60_74, s60_75, s60_78, s60_81, s60_84, s60_86, s60_87, s60_88, s60_91, s60_92, s60_93, s60_94, s60_97, s60_98, s60_101, s60_102, s60_103, s60_104, s60_107, s60_110, s60_111, s60_112, s60_113, s60_114, s60_117, s60_120, s60_123, s60_124, s60_125, s60_126, s60_127, s60_130, s60_133, s60_136, s60_137, s60_138, s60_139, s60_140, s60_141, s60_142, s60_143, s60_146, s60_147, s60_150, s60_153, s60_154, s60_155, s60_158, s60_159, s60_162, s60_165, s60_166, s60_167, s60_168, s60_169, s60_172, s60_175, s60_178, s60_179, s60_182, s60_183, s60_186, s60_187, s60_190, s60_193, s60_196, s60_197, s60_200, s60_203, s60_206, s60_207, s60_210, s60_211, s60_214, s60_217, OpV_some, OpN_some, OpA_some, OpR_some, Option.toList_some, Option.toList_none, List.cons_append, List.nil_append, true_and, and_true, nI11, or_true, true_or, or_false, false_or, F3, F11, FN, K7, K5, R1, R2, R3, P0, P1, P3, P4, G3, G2, hp3, math_max, purse (show s.2.2.1.2.1.2 (j * 5 + 3) < 2 ^ 30 by omega) (show s.2.2.1.1.2 (k * 5 + 2) < 2 ^ 30 by omega), nI_ite, nI_add, show (0 : Nat) < 1000 by decide, show (4 : Nat) < 1000 by decide, show (5 : Nat) < 1000 by decide, show (7 : Nat) < 1000 by decide, show (48 : Nat) < 1000 by decide]
  cases fl
  · simp only [Bool.false_eq_true, if_false, if_true, not_false_eq_true] at hQ ⊢
    exact hQ _ (Cp _) (agf _)
  · simp only [if_true, if_false, not_true] at hQ ⊢
    exact hQ _ (Cp _) (agf _)
theorem c_go (C : CityAt w s) (V : Valid s) (x y : Int32) (hQ : ∀ u, CityAt u (sp_go s x y).2 → agr w u (List.range 57) → Q (some (.int (sp_go s x y).1)) u) : Cl X (d + 4) 60 [.ref 0, .int x, .int y] w Q := by
  have h8 := C.rp.2.2.2.2.1
  have h4 := C.rd.2.2.2.2.1
  have S := C.st V
  rw [e60]
  unfold sp_go at hQ
  simp only [s60_0, s60_1, s60_4, s60_7, s60_8, s60_11, s60_14, s60_15, s60_18, s60_21, s60_22, s60_25, s60_28, s60_29, s60_30, s60_31, s60_34, s60_37, s60_38, s60_39, s60_40, s60_41, s60_44, s60_45, s60_48, s60_50, s60_51, s60_52, s60_55, s60_56, s60_59, s60_60, s60_61, s60_62, s60_63, s60_66, s60_67, s60_68, s60_69, s60_72, s60_73, s60_74, s60_75, s60_78, s60_81, OpV_some, OpN_some, OpA_some, OpR_some, Option.toList_some, Option.toList_none, List.cons_append, List.nil_append, true_and, and_true, nI11, or_true, true_or, or_false, false_or, C.f3, C.n0, C.n1, C.rp.cl, C.rd.cl, C.nw.cl, rows_has C.rp, rows_has C.rd, nI_ite, show (0 : Nat) < 1000 by decide, show (4 : Nat) < 1000 by decide, show (5 : Nat) < 1000 by decide, show (7 : Nat) < 1000 by decide]
  rcases ix x (n := s.2.2.1.2.1.1) (by omega) with ⟨j, hj, rfl⟩ | hx
  · have hx := ix_in hj (by omega)
    rcases ix y (n := s.2.2.1.1.1) (by omega) with ⟨k, hk, rfl⟩ | hy
    · have hy := ix_in hk (by omega)
      obtain ⟨-, hr⟩ := V.2.2.2.1.2.2.1
      obtain ⟨r1, r2, r3, r4, r5, r6⟩ := hr j hj
      obtain ⟨x0, x1, x2, x3, h48⟩ := C.ri
      have RF := fun (Q : am_Q) => ride_find (X := X) (d := d) (Q := Q) h48 (by decide) S (by decide) (by decide) (by decide) (by decide) (by decide) (show k < 2 ^ 30 by omega) r4 r1 (show s.2.2.1.2.1.2 (j * 5 + 1) < 10000 by omega)
      simp only [hx, hy, and_self, if_true, cl_of (show j < 2 ^ 31 by omega), cl_of (show k < 2 ^ 31 by omega)] at hQ
      simp only [hx, hy, and_self, not_true, if_false, OpV_some, OpN_some, OpA_some, OpR_some, Option.toList_some, Option.toList_none, List.cons_append, List.nil_append, true_and, and_true, nI11, or_true, true_or, or_false, false_or, s60_0, s60_1, s60_4, s60_7, s60_8, s60_11, s60_14, s60_15, s60_18, s60_21, s60_22, s60_25, s60_28, s60_29, s60_30, s60_31, s60_34, s60_37, s60_38, s60_39, s60_40, s60_41, s60_44, s60_45, s60_48, s60_50, s60_51, s60_52, s60_55, s60_56, s60_59, s60_60, s60_61, s60_62, s60_63, s60_66, s60_67, s60_68, s60_69, s60_72, s60_73, s60_74, s60_75, s60_78, s60_81, C.f9, C.f11, cls_at h48, c_pget0 C hj, c_pget C hj (show 1 < 5 by decide), c_pget C hj (show 2 < 5 by decide), c_pget C hj (show 4 < 5 by decide), nI_eqN (show s.2.2.1.2.1.2 (j * 5 + 4) < 2 ^ 31 by omega) (show 1 < 2 ^ 31 by decide), C.rd.cl, RF, show (0 : Nat) < 1000 by decide, show (7 : Nat) < 1000 by decide, show (48 : Nat) < 1000 by decide, show (44 : Nat) < 1000 by decide]
      unfold sp_goN at hQ
      by_cases h1 : s.2.2.1.2.1.2 (j * 5 + 4) = 1
      · simp only [h1, if_true] at hQ ⊢
        exact hQ w C (agr.rf w _)
      · simp only [h1, if_false] at hQ ⊢
        by_cases hc : canB s.2.2.1.1.2 s.2.2.1.1.1 k (s.2.2.1.2.1.2 (j * 5)) = true
        · by_cases h9 : (sp_goR s j k).1 ≤ 999
          · have h9' := h9
            unfold sp_goR at h9'
            simp only [hc, h9, and_self, if_true] at hQ
            simp only [hc, h9', if_true, OpV_some, OpN_some, OpA_some, OpR_some, Option.toList_some, Option.toList_none, List.cons_append, List.nil_append, true_and, and_true, nI11, or_true, true_or, or_false, false_or, nI_ite, not_true, if_false, s60_81]
            refine c_go_tail (C.rd48 _ _ _ _) V hj hk (rd4_at h48) fun u Cu ag => hQ u Cu (((agr.rf w _).st (by decide) _).tr ag)
          · have h9' := h9
            unfold sp_goR at h9'
            simp only [h9, and_false, if_false] at hQ
            simp only [hc, h9', if_true, OpV_some, OpN_some, OpA_some, OpR_some, Option.toList_some, Option.toList_none, List.cons_append, List.nil_append, true_and, and_true, nI11, or_true, true_or, or_false, false_or, nI_ite, not_false_eq_true, if_false, s60_84, s60_86]
            exact hQ _ (C.rd48 _ _ _ _) ((agr.rf w _).st (by decide) _)
        · simp only [hc, false_and, if_false, Bool.false_eq_true] at hQ ⊢
          simp only [OpV_some, OpN_some, OpA_some, OpR_some, Option.toList_some, Option.toList_none, List.cons_append, List.nil_append, true_and, and_true, nI11, or_true, true_or, or_false, false_or, nI_ite, if_true, if_false, nI0z, s60_84, s60_86]
          exact hQ _ (C.rd48 _ _ _ _) ((agr.rf w _).st (by decide) _)
    · simp only [hx, hy, and_false, if_false] at hQ
      simp only [hx, hy, and_self, not_true, not_false_eq_true, if_false, if_true]
      exact hQ w C (agr.rf w _)
  · simp only [hx, false_and, if_false] at hQ
    simp only [hx, not_false_eq_true, if_true]
    exact hQ w C (agr.rf w _)
end API3
