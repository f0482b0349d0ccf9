/-! the reference's constructor -/
def on0 (e : Nat) : Nat → Int32 := fun u => if u < e then nI 1 else 0
theorem on0_up (e : Nat) : upd (on0 e) e (nI 1) = on0 (e + 1) := by
  funext u
  unfold upd on0
  by_cases q : u = e
  · subst q; rw [if_pos rfl, if_pos (by omega)]
  · rw [if_neg q]
    by_cases h2 : u < e
    · rw [if_pos h2, if_pos (by omega)]
    · rw [if_neg h2, if_neg (by omega)]
def a00 : Nat → Int32 := fun i => if i = 9 then nI 4 else 0
def A00 : Nat → Nat → Int32 := fun _ _ => 0
section MINIT
variable {X : am_X} {d : Nat} {Q : am_Q} {u w : am_W}
theorem pmc85 : pm_c 85 = 11 := rfl
theorem pmz85 : pm_z 85 = 8844 := rfl
theorem lenU (hu : u.length = 57) (L : List va_E) : (u ++ L).length = 57 + L.length := by rw [List.length_append, hu]
theorem getU (hu : u.length = 57) (c : va_E) (L : List va_E) : (u ++ c :: L)[57]? = some c := by
  rw [List.getElem?_append_right (by omega), hu]; rfl
theorem fldU (hu : u.length = 57) (fs : List Value) (L : List va_E) (f : Nat) : am_fld (u ++ (.inr (8, fs)) :: L) 57 8 f = fs[f]? := fld_at (getU hu _ _)
theorem putU (hu : u.length = 57) (fs : List Value) (L : List va_E) (f : Nat) (v : Value) : am_put (u ++ (.inr (8, fs)) :: L) 57 f v = u ++ (.inr (8, fs.set f v)) :: L := by
  rw [put_at (getU hu _ _), List.set_append_right _ _ (by omega), hu]
  rfl
theorem mi_loop (H : 69 ≤ u.length) {tr : Int64} {a : Nat → Int32} (A : Nat → Nat → Int32) : ∀ (n e : Nat), e + n = 8 → Wp X (Cl X d) 85 Q (102, [some (.ref 57), some (.int (nI e))], [], mw u tr a (ua (ua A 1 (on0 e)) 2 (on0 e)), 11, 8844) = Q none (mw u tr a (ua (ua A 1 (on0 8)) 2 (on0 8)))
  | 0, e, he => by
    have : e = 8 := by omega
    subst this
    rw [s85_102]
    simp only [s85_103, s85_105, s85_128, OpV_some, OpN_some, OpA_some, OpR_some, Option.toList_some, Option.toList_none, List.cons_append, List.nil_append, true_and, and_true, nI11, or_true, true_or, or_false, false_or, show (nI 8 < nI 8) = False by decide, if_false, pmc85, pmz85, Nat.le_refl]
  | n + 1, e, he => by
    have ih := mi_loop H (tr := tr) (a := a) A n (e + 1) (by omega)
    have cm : ∀ g1 g2 g3, ua (ua (ua A 1 g1) 2 g2) 1 g3 = ua (ua A 1 g3) 2 g2 := fun g1 g2 g3 => by
      funext j
      unfold ua
      by_cases q : j = 1
      · subst q; rfl
      · rw [if_neg q, if_neg q, if_neg q]
    rw [s85_102]
    simp only [s85_103, s85_105, s85_108, s85_109, s85_112, s85_113, s85_114, s85_115, s85_116, s85_119, s85_120, s85_121, s85_122, s85_125, OpV_some, OpN_some, OpA_some, OpR_some, Option.toList_some, Option.toList_none, List.cons_append, List.nil_append, true_and, and_true, nI11, or_true, true_or, or_false, false_or, mI0 H, mP0 H, mI3 H, mP3 H, mI4 H, mP4 H, mI5 H, mP5 H, mI6 H, mP6 H, mI7 H, mP7 H, mI8 H, mP8 H, mI9 H, mP9 H, mI10 H, mP10 H, mI11 H, mP11 H, mI12 H, mP12 H, mI13 H, mP13 H, mI14 H, mP14 H, mI23 H, mP23 H, mI24 H, mP24 H, mI25 H, mP25 H, mI26 H, mP26 H, mI27 H, mP27 H, mI30 H, mP30 H, mI31 H, mP31 H, mI1 H, mP1 H, mR2 H, mR15 H, mR16 H, mR17 H, mR18 H, mR19 H, mR20 H, mR21 H, mR22 H, mR28 H, mR29 H, mA0 H, mS0 H, mA1 H, mS1 H, mA2 H, mS2 H, mA3 H, mS3 H, mA4 H, mS4 H, mA5 H, mS5 H, mA6 H, mS6 H, mA7 H, mS7 H, mA8 H, mS8 H, mA9 H, mS9 H, mA10 H, mS10 H, mw_cl H, fu_s, fu_n, ua_s, ua_n, Nat.reduceBEq, lt57, lt58, lt59, lt60, lt61, lt62, lt63, lt64, lt65, lt66, lt67, lt68, ua_ua, nI_ltN (show e < 2 ^ 31 by omega) (show 8 < 2 ^ 31 by omega), show e < 8 by omega, if_true, nI_add, in_nI (show e < 16 by omega) (show 16 < 2 ^ 31 by omega), cl_nI (show e < 2 ^ 31 by omega), on0_up, cm]
    exact ih
set_option maxRecDepth 20000 in
set_option maxHeartbeats 4000000 in
theorem m_init1 (hu : u.length = 57) : Cl X (d + 1) 85 [.ref 57] (u ++ [.inr (8, [.int 0, .long 0, .null, .int 0, .int 0, .int 0, .int 0, .int 0, .int 0, .int 0, .int 0, .int 0, .int 0, .int 0, .int 0, .null, .null, .null, .null, .null, .null, .null, .null, .int 0, .int 0, .int 0, .int 0, .int 0, .null, .null, .int 0, .int 0])]) Q = Wp X (Cl X d) 85 Q (102, [some (.ref 57), some (.int (nI 0))], [], u ++ mwc 0 a00 A00, 11, 8844) := by
  rw [e85]
  simp (decide := true) only [s85_0, s85_1, s85_4, s85_5, s85_8, s85_10, s85_13, s85_14, s85_16, s85_18, s85_21, s85_22, s85_24, s85_26, s85_29, s85_30, s85_32, s85_34, s85_37, s85_38, s85_40, s85_42, s85_45, s85_46, s85_49, s85_51, s85_54, s85_55, s85_58, s85_60, s85_63, s85_64, s85_65, s85_67, s85_70, s85_71, s85_73, s85_75, s85_78, s85_79, s85_81, s85_83, s85_86, s85_87, s85_90, s85_92, s85_95, s85_96, s85_97, s85_100, s85_101, OpV_some, OpN_some, OpA_some, OpR_some, Option.toList_some, Option.toList_none, List.cons_append, List.nil_append, true_and, and_true, nI11, or_true, true_or, or_false, false_or, fldU hu, putU hu, lenU hu, List.append_assoc, List.set_cons_succ, List.set_cons_zero, List.getElem?_cons_succ, List.getElem?_cons_zero, List.length_cons, List.length_nil, List.cons_append, List.nil_append, Nat.reduceAdd, Nat.reduceMul, cl_300, cl_2, cl_8, show (nI 16).toNatClampNeg = 16 by decide, show (nI 64).toNatClampNeg = 64 by decide, show (nI 24).toNatClampNeg = 24 by decide, show (nI 134).toNatClampNeg = 134 by decide, show (nI 268).toNatClampNeg = 268 by decide, show (nI 12).toNatClampNeg = 12 by decide, show (nI 8000).toNatClampNeg = 8000 by decide, pmc85, pmz85, if_true, if_false, Nat.zero_add]
  rfl
theorem CityAt.pre {s : CSt} (C : CityAt w s) (key : ∀ q, q < 57 → u[q]? = w[q]?) : CityAt u s := by
  obtain ⟨c1, c2, c3, c4, c5, c6, c7, c8, c9, h⟩ := C
  obtain ⟨⟨⟨a, b, c, d, e, h1⟩, ⟨n2, f2, h2⟩, ⟨n3, f3, h3⟩, ⟨n4, f4, h4⟩, ⟨f5, h5⟩, ⟨f6, h6⟩⟩, g1, g2, ⟨n7, f7, h7⟩, ⟨x0, x1, x2, x3, h8⟩, ⟨tz, F, sz, mi, si, r1, r2, ⟨y0, y1, y2, y3, r3⟩⟩, ⟨E, N, m, r, w1, w2, w3⟩, ⟨f9, h9⟩⟩ := h
  exact ⟨(key _ (by decide)).trans c1, (key _ (by decide)).trans c2, c3.oth (key _ (by decide)) (key _ (by decide)), NowAt.oth c4 (fun q a b => key q (by omega)), c5.oth (key _ (by decide)) (key _ (by decide)), (key _ (by decide)).trans c6, NowAt.oth c7 (fun q a b => key q (by omega)), NowAt.oth c8 (fun q a b => key q (by omega)), (key _ (by decide)).trans c9,
    ⟨⟨⟨a, b, c, d, e, (key _ (by decide)).trans h1⟩, ⟨n2, f2, h2.oth (key _ (by decide)) (key _ (by decide))⟩, ⟨n3, f3, h3.oth (key _ (by decide)) (key _ (by decide))⟩, ⟨n4, f4, h4.oth (key _ (by decide)) (key _ (by decide))⟩, ⟨f5, (key _ (by decide)).trans h5⟩, ⟨f6, (key _ (by decide)).trans h6⟩⟩, (key _ (by decide)).trans g1, (key _ (by decide)).trans g2, ⟨n7, f7, h7.oth (key _ (by decide)) (key _ (by decide))⟩, ⟨x0, x1, x2, x3, (key _ (by decide)).trans h8⟩, ⟨tz, F, sz, mi, si, (key _ (by decide)).trans r1, r2.oth (key _ (by decide)) (key _ (by decide)), ⟨y0, y1, y2, y3, (key _ (by decide)).trans r3⟩⟩, ⟨E, N, m, r, (key _ (by decide)).trans w1, (key _ (by decide)).trans w2, (key _ (by decide)).trans w3⟩, ⟨f9, (key _ (by decide)).trans h9⟩⟩⟩
/-- both objects hold the same -/
def LInv (w : am_W) : Prop := w.length = 69 ∧ ∃ (s : CSt) (tr : Int64) (a : Nat → Int32) (A : Nat → Nat → Int32), CityAt w s ∧ Valid s ∧ Rel tr a A s ∧ mw w tr a A = w
theorem mw_mid {tr : Int64} {a : Nat → Int32} {A : Nat → Nat → Int32} (hl : w.length = 69) (hw : mw w tr a A = w) (ag : agr w u (List.range 57)) : mw u tr a A = u := by
  have hu : u.length = 69 := ag.1.trans hl
  refine spl_self (by rw [mwc_len]; omega) fun i hi => ?_
  rw [mwc_len] at hi
  have e1 : u[57 + i]? = w[57 + i]? := ag.2 _ fun h => by have := List.mem_range.mp h; omega
  have e2 := mw_at (u := w) (tr := tr) (a := a) (A := A) (by omega) hi
  rw [hw] at e2
  exact e1.trans e2
theorem mw_end {tr : Int64} {a : Nat → Int32} {A : Nat → Nat → Int32} {s : CSt} (hl : u.length = 69) (C : CityAt u s) (V : Valid s) (R : Rel tr a A s) : LInv (mw u tr a A) := by
  have H : 69 ≤ u.length := by omega
  have hl2 : (mw u tr a A).length = 69 := (mw_len H).trans hl
  refine ⟨hl2, s, tr, a, A, C.pre fun q hq => mw_out H (Or.inl hq), V, R, ?_⟩
  refine spl_self (by rw [mwc_len]; omega) fun i hi => ?_
  rw [mwc_len] at hi
  exact mw_at H hi
theorem Rel_s0 : Rel 0 a00 (ua (ua A00 1 (on0 8)) 2 (on0 8)) s0 := by
  refine ⟨rfl, ⟨rfl, fun i hi => absurd hi (Nat.not_lt_zero _)⟩, ⟨rfl, fun k hk => ?_⟩, ⟨rfl, fun i hi => absurd hi (Nat.not_lt_zero _)⟩, ⟨rfl, fun i hi => absurd hi (Nat.not_lt_zero _)⟩, ?_, ⟨rfl, fun i hi => absurd hi (Nat.not_lt_zero _)⟩, fun i hi => ⟨rfl, fun z => absurd z (by show ¬ 0 = 1; decide)⟩⟩
  · have hk2 : k < 4 := hk
    show on0 8 k = nI (cpN (ssl 4 0 z0) z0 (8 * 2) (k * 2)) ∧ on0 8 k = nI (cpN (ssl 4 0 z0) z0 (8 * 2) (k * 2 + 1))
    rw [cpN_lt _ _ (by omega), cpN_lt _ _ (by omega), ssl_at, ssl_at, if_pos (by omega), if_pos (by omega)]
    exact ⟨if_pos (by omega), if_pos (by omega)⟩
  · exact ⟨fun i hi => absurd hi (Nat.not_lt_zero _), fun i hi => absurd hi (Nat.not_lt_zero _), rfl, fun i hi => absurd hi (Nat.not_lt_zero _), rfl, fun t ht => absurd ht (by show ¬ t < 0 * 4; omega)⟩
theorem m_init (hu : u.length = 57) (C : CityAt u s0) (hQ : ∀ v, LInv v → Q none v) : Cl X (d + 1) 85 [.ref 57] (u ++ [.inr (8, [.int 0, .long 0, .null, .int 0, .int 0, .int 0, .int 0, .int 0, .int 0, .int 0, .int 0, .int 0, .int 0, .int 0, .int 0, .null, .null, .null, .null, .null, .null, .null, .null, .int 0, .int 0, .int 0, .int 0, .int 0, .null, .null, .int 0, .int 0])]) Q := by
  rw [m_init1 hu]
  have hl : (u ++ mwc 0 a00 A00).length = 69 := by rw [lenU hu, mwc_len]
  have H : 69 ≤ (u ++ mwc 0 a00 A00).length := by omega
  have e0 : ua (ua A00 1 (on0 0)) 2 (on0 0) = A00 := by
    have z : on0 0 = A00 1 := by funext j; exact if_neg (Nat.not_lt_zero _)
    have z2 : on0 0 = A00 2 := by funext j; exact if_neg (Nat.not_lt_zero _)
    rw [show ua A00 1 (on0 0) = A00 by rw [z, ua_id], z2, ua_id]
  have es : mw (u ++ mwc 0 a00 A00) 0 a00 A00 = u ++ mwc 0 a00 A00 := by
    refine spl_self (by rw [mwc_len]; omega) fun i hi => ?_
    rw [List.getElem?_append_right (by omega), hu, Nat.add_sub_cancel_left]
  have L := mi_loop (X := X) (d := d) (Q := Q) (u := u ++ mwc 0 a00 A00) H (tr := 0) (a := a00) A00 8 0 rfl
  rw [e0, es] at L
  rw [L]
  refine hQ _ (mw_end hl (C.pre fun q hq => ?_) V_s0 Rel_s0)
  rw [List.getElem?_append_left (by omega)]
end MINIT
