theorem vw_nm {ci : Nat} {q : vw_C} (h : vwCl[ci]? = some q) : (∀ a, a < q.2.2 → ∀ b, b < q.2.2 → a ≠ b → (q.2.1 a).2.1 ≠ (q.2.1 b).2.1) ∧ (∀ k, k < q.2.2 → parseFieldDescriptor (q.2.1 k).2.2.1 = some (am_ty ci k)) ∧ q.2.2 = am_N ci := by
  match ci, h with
  | 0, h => cases h; exact ⟨nmX0, tyX0_ok, rfl⟩
  | 1, h => cases h; exact ⟨nmX1, tyX1_ok, rfl⟩
  | 2, h => cases h; exact ⟨nmX2, tyX2_ok, rfl⟩
  | 3, h => cases h; exact ⟨nmX3, tyX3_ok, rfl⟩
  | 4, h => cases h; exact ⟨nmX4, tyX4_ok, rfl⟩
  | 5, h => cases h; exact ⟨nmX5, tyX5_ok, rfl⟩
  | 6, h => cases h; exact ⟨nmX6, tyX6_ok, rfl⟩
  | 7, h => cases h; exact ⟨nmX7, tyX7_ok, rfl⟩
  | 8, h => cases h; exact ⟨nmX8, tyX8_ok, rfl⟩
  | n + 9, h => cases h
theorem rF_get {o i ci f : Nat} (h : am_f2 rF o i = some (ci, f)) : ∃ q : vw_C, vwCl[ci]? = some q ∧ f < q.2.2 ∧ parseFieldDescriptor (q.2.1 f).2.2.1 = some (am_ty ci f) ∧ (q.2.1 f).1 = cn ci ∧ q.1 = cn ci ∧ Cond.fieldLink (cn o) i (q.2.1 f).1 (q.2.1 f).2.1 (q.2.1 f).2.2.1 ∈ lw_good := by
  have hm := am_f2_mem h
  have h1 := List.all_eq_true.mp rF_all _ hm
  have h2 := rF_in hm
  simp only [rF_ok, rF_w] at h1 h2
  cases hq : vwCl[ci]? with
  | none => rw [hq] at h1; cases h1
  | some q =>
    rw [hq] at h1 h2
    simp only [Bool.and_eq_true, decide_eq_true_eq] at h1
    exact ⟨q, rfl, h1.1.1.1, h1.1.1.2, h1.1.2, h1.2, h2 _ List.mem_cons_self⟩
theorem am_fit_ok {sg : Nat → Value} (hs : ∀ p, sg p = .null ∨ ∃ a, sg p = .ref a) {t : FieldType} {v : Value} (h : am_fit t v) : narrow t (am_cv sg v) = am_cv sg v ∧ fits t (am_cv sg v) = true := by
  unfold am_fit at h
  split at h
  · exact ⟨rfl, rfl⟩
  · exact ⟨rfl, rfl⟩
  · rcases h with rfl | rfl <;> exact ⟨rfl, rfl⟩
  · rename_i p
    show narrow _ (sg p) = sg p ∧ fits _ (sg p) = true
    rcases hs p with h1 | ⟨a, h1⟩ <;> rw [h1] <;> exact ⟨rfl, rfl⟩
  · rename_i p
    show narrow _ (sg p) = sg p ∧ fits _ (sg p) = true
    rcases hs p with h1 | ⟨a, h1⟩ <;> rw [h1] <;> exact ⟨rfl, rfl⟩
  · exact h.elim
theorem am_fld_inv {w : am_W} {p ci f : Nat} {v : Value} (h : am_fld w p ci f = some v) : ∃ fs, w[p]? = some (.inr (ci, fs)) ∧ fs[f]? = some v := by
  unfold am_fld at h
  split at h
  · rename_i c fs hw
    split at h
    · rename_i hc
      subst hc
      exact ⟨fs, hw, h⟩
    · cases h
  · cases h
theorem am_cls_inv {w : am_W} {p ci : Nat} (h : am_cls w p = some ci) : ∃ fs, w[p]? = some (.inr (ci, fs)) := by
  unfold am_cls at h
  split at h
  · rename_i c fs hw
    cases h
    exact ⟨_, hw⟩
  · cases h
theorem am_arr_inv {X : am_X} {w : am_W} {p : Nat} {a : Nat × Nat × (Nat → Int32)} (h : am_arr X w p = some a) : (p < 1000 ∧ w[p]? = some (.inl (a.1, a.2.1, .inl a.2.2))) ∨ (1000 ≤ p ∧ (am_ro X)[p - 1000]? = some a) := by
  unfold am_arr at h
  split at h
  · left
    refine ⟨by assumption, ?_⟩
    split at h
    · rename_i hw
      cases h
      exact hw
    · cases h
  · exact Or.inr ⟨by omega, h⟩
theorem am_refs_inv {w : am_W} {p : Nat} {a : Nat × (Nat → Option Nat)} (h : am_refs w p = some a) : w[p]? = some (.inl (2, a.1, .inr (.inr (.inr (.inr a.2))))) := by
  unfold am_refs at h
  split at h
  · rename_i hw
    split at h
    · rename_i ht
      subst ht
      cases h
      exact hw
    · cases h
  · cases h
theorem am_ro_lt {X : am_X} {j : Nat} {a : Nat × Nat × (Nat → Int32)} (h : (am_ro X)[j]? = some a) : j < 9 := (List.getElem?_eq_some_iff.mp h).1
theorem am_ro_t {X : am_X} {j : Nat} {a : Nat × Nat × (Nat → Int32)} (h : (am_ro X)[j]? = some a) : a.1 = 0 ∨ a.1 = 3 := by
  match j, h with
  | 0, h => cases h; exact Or.inl rfl
  | 1, h => cases h; exact Or.inl rfl
  | 2, h => cases h; exact Or.inl rfl
  | 3, h => cases h; exact Or.inl rfl
  | 4, h => cases h; exact Or.inl rfl
  | 5, h => cases h; exact Or.inr rfl
  | 6, h => cases h; exact Or.inr rfl
  | 7, h => cases h; exact Or.inr rfl
  | 8, h => cases h; exact Or.inr rfl
  | n + 9, h => cases h
theorem am_sg_lo {ad : Nat → Nat} {fv : Value} {base p : Nat} (h : p < 1000) : am_sg ad fv base p = .ref (base + p) := by unfold am_sg; rw [if_pos h]
theorem am_sg_hi {ad : Nat → Nat} {fv : Value} {base p : Nat} (h : 1000 ≤ p) (h2 : p - 1000 < 20) : am_sg ad fv base p = .ref (ad (p - 1000)) := by unfold am_sg; rw [if_neg (by omega), if_neg (by omega)]
theorem am_dv (sg : Nat → Value) (t : FieldType) : am_cv sg (defaultValue t) = defaultValue t := by cases t <;> rfl
section SIMB
variable {p : Program} {l : Launch} {e : Env} {R : Room} {s : State} {m : MethodId} {args : Array Value} {below : List Frame} {meth : Method} {c : Code} {H : Heap} {locs : List Loc} {cells slots : Nat} {Q : State → Prop}
variable {D : va_G} {dA : Nat → ClassId} {ad : Nat → Nat} {fv : Value} {base : Nat} {X : am_X} {k : Nat} {LS : Array Slot} {w : am_W}
theorem am_H.put (hH : am_H D dA ad fv base s w H locs) {q f : Nat} {c0 c1 : va_E} {H1 : Heap} (hp : w[q]? = some c0) (hat : va_at D vwCl (base + q, am_ce (am_sg ad fv base) dA base c1) H1) (z : H1.size = H.size) (oq : ∀ r, r ≠ base + q → H1[r]? = H[r]?) : am_H D dA ad fv base s (w.set q c1) H1 (locs ++ [⟨base + q, f⟩]) := by
  obtain ⟨h1, h2, h3, h4⟩ := hH
  refine ⟨?_, by rw [z, List.length_set]; exact h2, h3.put z oq (Nat.le_add_right _ _), by rw [List.length_set]; exact h4⟩
  rw [am_cw_set]
  exact h1.set (am_cw_D (A := fun a => base ≤ a) (fun _ h => h)) (am_cw_at hp) hat oq
theorem am_H.push (hH : am_H D dA ad fv base s w H locs) (hbs : base ≤ s.heap.size) {c1 : va_E} {H1 : Heap} (hat : va_at D vwCl (base + w.length, am_ce (am_sg ad fv base) dA base c1) H1) (z : H1.size = H.size + 1) (oq : ∀ r, r < H.size → H1[r]? = H[r]?) (hl : w.length < 1000) : am_H D dA ad fv base s (w ++ [c1]) H1 locs := by
  obtain ⟨h1, h2, h3, h4⟩ := hH
  refine ⟨?_, by rw [z, h2, List.length_append]; rfl, ⟨by have := h3.1; omega, fun r hr hA => (oq r (Nat.lt_of_lt_of_le hr h3.1)).trans (h3.2.1 r hr hA), h3.2.2⟩, by rw [List.length_append]; exact hl⟩
  rw [am_cw_push]
  refine (h1.kept fun i q hi => oq q.1 ((h1 i q hi).lt)).app fun i q hi => ?_
  have hz : i < 1 := (List.getElem?_eq_some_iff.mp hi).1
  rw [show i = 0 by omega] at hi
  cases hi
  exact hat
/-- a field of an object of the world is written -/
theorem am_putW (Cx : am_Cx p s m args meth c D dA ad fv base X k) (hH : am_H D dA ad fv base s w H locs) {i pc q ci f : Nat} {v v0 : Value} {rest : List Value} (hd : decode (pm_b k) pc = .ok (.putfield i, 3)) (hr : am_f2 rF (pm_o k) i = some (ci, f)) (hf : am_fld w q ci f = some v0) (hfin : am_fin k ci f = true) (hfit : am_fit (am_ty ci f) v)
    (kk : ∀ (H1 : Heap) (locs1 : List Loc), am_H D dA ad fv base s (am_put w q f v) H1 locs1 → W p l e R s m args below meth c H1 locs1 cells slots Q (F0 m (pc + 3) LS rest)) : W p l e R s m args below meth c H locs cells slots Q (F0 m pc LS (am_cv (am_sg ad fv base) v :: .ref (base + q) :: rest)) := by
  obtain ⟨hx, hb, hml, hown, hts, hG, hbs, hini⟩ := Cx
  have hfv := hG.2.2.2.2.2.2.2
  obtain ⟨⟨C, T, N⟩, hc, hk, hty, hdecl, hC, hw⟩ := rF_get hr
  obtain ⟨fs, hwq, hfs⟩ := am_fld_inv hf
  obtain ⟨hnm, htys, -⟩ := vw_nm hc
  have hin := vwCl_in _ (List.mem_of_getElem? hc)
  have hap := va_apart (own := cn (pm_o k)) hts hin (am_ty ci) htys hnm hG.1 hc
  obtain ⟨r, h1, cell, q1, q2, q3, q4⟩ := hH.1 q _ (am_cw_at hwq)
  have hrr : r = (C, T, N) := Option.some.inj (h1.symm.trans hc)
  subst hrr
  obtain ⟨hS, hfc, kC, hkC, hkind⟩ := hG.1.1 ci _ hc
  obtain ⟨cf, kf, fi, fd, hi, hsl⟩ := hS f hk
  have hlay := hts _ (hin _ (u_in_lay hk))
  have hst := (u_facts hfc hkC (u_lays hts hin hk) hi).1
  obtain ⟨hn1, hn2⟩ := am_fit_ok (am_sg_rn (ad := ad) (base := base) hfv) hfit
  have hl : f < (fs.map (am_cv (am_sg ad fv base))).length := by rw [List.length_map]; exact (List.getElem?_eq_some_iff.mp hfs).1
  have hnew : ∀ H1 : Heap, H1[base + q]? = some (cell.setSlot fd.slot (am_cv (am_sg ad fv base) v)) → H1.size = H.size → (∀ r, r ≠ base + q → H1[r]? = H[r]?) → am_H D dA ad fv base s (am_put w q f v) H1 (locs ++ [⟨base + q, fd.slot⟩]) := by
    intro H1 e1 e2 e3
    have hpw : am_put w q f v = w.set q (.inr (ci, fs.set f v)) := by simp [am_put, hwq]
    rw [hpw]
    refine hH.put hwq ⟨_, hc, ?_⟩ e2 e3
    show t_OB _ _ _ _ _ (vp_V ((fs.set f v).map (am_cv (am_sg ad fv base))))
    rw [List.map_set]
    rw [hsl] at e1
    exact t_OB.to (V := updV (vp_V (fs.map (am_cv (am_sg ad fv base)))) f (am_cv (am_sg ad fv base) v)) ⟨_, e1, q2, q3, t_set q4 hap hk _⟩ (fun j _ => vp_updV_set hl _ j)
  have hlt : fd.slot < cell.slots.size := by rw [hsl]; exact k2_hasslot (q4 f hk)
  have hfl : (vwCl.getD ci ("", fun _ => ("", "", "", true), 0)) = (C, T, N) := by rw [List.getD_eq_getElem?_getD, hc]; rfl
  unfold u_lay at hlay
  by_cases hF : (T f).2.2.2 = true
  · rw [if_pos hF] at hlay
    have hkk : k ∈ am_ini ∧ pm_o k = ci := by
      unfold am_fin at hfin
      rw [hfl, hF] at hfin
      simpa using hfin
    have hcf : m.cls = cf := by
      obtain ⟨_, _, c', _, _, _, -, -, hf', -, -, -, hown2, -⟩ := Cond.laysFinal_spec hlay
      have e1 : c' = cf := by have := hi.symm.trans hf'; simp at this; exact this.1.symm
      rw [show (T f).1 = cn (pm_o k) by rw [hkk.2]; exact hdecl] at hown2
      rw [← e1]; exact Option.some.inj (hown.symm.trans hown2)
    have h6 := u_fits hfc hkC hkind (Or.inr hlay) hi hty hn1 hn2
    exact W.putFinK hx hb hown (hts _ hw) hi hst hcf (hini hkk.1) (by rw [q2]; exact h6) q1 q3 hlt rfl rfl hd fun H1 e1 e2 e3 => kk H1 _ (hnew H1 e1 e2 e3)
  · rw [if_neg hF] at hlay
    have h6 := u_store hfc hkC hkind hlay hi hty hn1 hn2
    exact W.putK hx hb (f := fd) ⟨hown, hts _ hw, ⟨_, _, _, hi⟩, hst⟩ (by rw [q2]; exact h6) q1 q3 hlt rfl rfl hd fun H1 e1 e2 e3 => kk H1 _ (hnew H1 e1 e2 e3)
theorem am_iastW (Cx : am_Cx p s m args meth c D dA ad fv base X k) (hH : am_H D dA ad fv base s w H locs) {pc q n : Nat} {f : Nat → Int32} {i x : Int32} {rest : List Value} (hd : decode (pm_b k) pc = .ok (.iastore, 1)) (hw : w[q]? = some (.inl (0, n, .inl f))) (hin : vp_in i n)
    (kk : ∀ (H1 : Heap) (locs1 : List Loc), am_H D dA ad fv base s (am_ast w q i.toNatClampNeg x) H1 locs1 → W p l e R s m args below meth c H1 locs1 cells slots Q (F0 m (pc + 1) LS rest)) : W p l e R s m args below meth c H locs cells slots Q (F0 m pc LS (.int x :: .int i :: .ref (base + q) :: rest)) := by
  obtain ⟨hx, hb, hml, hown, hts, hG, hbs, hini⟩ := Cx
  have ha : H[base + q]? = some (arrV (dA 0) n (fun j => .int (f j))) := hH.1 q _ (am_cw_at hw)
  refine W.iast hx hb ha ((hG.1.2 0 (dA 0, .int) rfl).1 n _) (fun h => by cases h) (by rw [arrV_size]; exact hin) rfl rfl hd fun H1 e1 z oq => kk H1 _ ?_
  have hpw : am_ast w q i.toNatClampNeg x = w.set q (.inl (0, n, .inl (upd f i.toNatClampNeg x))) := by simp [am_ast, hw]
  rw [hpw]
  refine hH.put hw ?_ z oq
  show H1[base + q]? = some (arrV (dA 0) n (fun j => .int (upd f i.toNatClampNeg x j)))
  rw [e1, arrV_store]
  congr 2
  funext j
  unfold updV upd
  split <;> rfl
theorem am_zastW (Cx : am_Cx p s m args meth c D dA ad fv base X k) (hH : am_H D dA ad fv base s w H locs) {pc q n : Nat} {f : Nat → Int32} {i x : Int32} {rest : List Value} (hd : decode (pm_b k) pc = .ok (.bastore, 1)) (hw : w[q]? = some (.inl (1, n, .inl f))) (hin : vp_in i n) (hx01 : x = 0 ∨ x = 1)
    (kk : ∀ (H1 : Heap) (locs1 : List Loc), am_H D dA ad fv base s (am_ast w q i.toNatClampNeg x) H1 locs1 → W p l e R s m args below meth c H1 locs1 cells slots Q (F0 m (pc + 1) LS rest)) : W p l e R s m args below meth c H locs cells slots Q (F0 m pc LS (.int x :: .int i :: .ref (base + q) :: rest)) := by
  obtain ⟨hx, hb, hml, hown, hts, hG, hbs, hini⟩ := Cx
  have ha : H[base + q]? = some (arrV (dA 1) n (fun j => .int (f j))) := hH.1 q _ (am_cw_at hw)
  refine W.zast hx hb ha ((hG.1.2 1 (dA 1, .boolean) rfl).1 n _) (fun h => by cases h) (by rw [arrV_size]; exact hin) rfl rfl hd fun H1 e1 z oq => kk H1 _ ?_
  have hpw : am_ast w q i.toNatClampNeg x = w.set q (.inl (1, n, .inl (upd f i.toNatClampNeg x))) := by simp [am_ast, hw]
  rw [hpw]
  refine hH.put hw ?_ z oq
  show H1[base + q]? = some (arrV (dA 1) n (fun j => .int (upd f i.toNatClampNeg x j)))
  have hnar : narrow .boolean (.int x) = .int x := by rcases hx01 with rfl | rfl <;> rfl
  rw [e1, hnar, arrV_store]
  congr 2
  funext j
  unfold updV upd
  split <;> rfl
theorem am_aastW (Cx : am_Cx p s m args meth c D dA ad fv base X k) (hH : am_H D dA ad fv base s w H locs) {pc q n r : Nat} {f : Nat → Option Nat} {i : Int32} {fs rest : List Value} (hd : decode (pm_b k) pc = .ok (.aastore, 1)) (hw : w[q]? = some (.inl (2, n, .inr (.inr (.inr (.inr f)))))) (hin : vp_in i n) (hr : w[r]? = some (.inr (0, fs)))
    (kk : ∀ (H1 : Heap) (locs1 : List Loc), am_H D dA ad fv base s (am_rst w q i.toNatClampNeg r) H1 locs1 → W p l e R s m args below meth c H1 locs1 cells slots Q (F0 m (pc + 1) LS rest)) : W p l e R s m args below meth c H locs cells slots Q (F0 m pc LS (.ref (base + r) :: .int i :: .ref (base + q) :: rest)) := by
  obtain ⟨hx, hb, hml, hown, hts, hG, hbs, hini⟩ := Cx
  have hlt : i.toNatClampNeg < n := Nat.not_le.mp fun q => hin (Or.inr q)
  have h0 : ¬ i < 0 := fun q => hin (Or.inl q)
  have ha : H[base + q]? = some (arrV (dA 2) n (fun j => va_rf ((f j).map (base + ·)))) := hH.1 q _ (am_cw_at hw)
  obtain ⟨r', hr', cellV, g1, g2, g3, -⟩ := hH.1 r _ (am_cw_at hr)
  have hc : vwCl[0]? = some (RX0, TX0, 4) := rfl
  have hcls := (hG.1.1 0 _ hc).2
  obtain ⟨kA, comp, k1, k2, k3, -⟩ := (hG.1.2 2 (dA 2, .object "SwingCity$Now") rfl).2
  have hcomp : comp = D.1 0 := Option.some.inj (k3.symm.trans hcls.1)
  subst hcomp
  obtain ⟨kC, hkC, -⟩ := hcls.2
  refine W.aast hx hb ha (fun q h => by cases h) (fun h => by cases h) k1 k2 rfl hkC ⟨h0, by rw [arrV_size]; exact hlt⟩ g1 (fun q h => by rw [g3] at h; cases h) (by rw [g2]; exact hkC) (by rw [g2]; exact va_assign hcls) rfl rfl hd fun H1 e1 z oq => kk H1 _ ?_
  have hpw : am_rst w q i.toNatClampNeg r = w.set q (.inl (2, n, .inr (.inr (.inr (.inr (va_up f i.toNatClampNeg (some r))))))) := by simp [am_rst, hw]
  rw [hpw]
  refine hH.put hw ?_ z oq
  show H1[base + q]? = some (arrV (dA 2) n (fun j => va_rf ((va_up f i.toNatClampNeg (some r) j).map (base + ·))))
  rw [e1, arrV_store]
  congr 2
  funext j
  unfold updV va_up
  split <;> rfl
theorem am_newW (Cx : am_Cx p s m args meth c D dA ad fv base X k) (hH : am_H D dA ad fv base s w H locs) {i pc ci : Nat} {rest : List Value} (hd : decode (pm_b k) pc = .ok (.new i, 3)) (hr : am_f2 rC (pm_o k) i = some ci) (hc1 : cells + 1 ≤ R.cells) (hc2 : slots + am_N ci ≤ R.slots) (hl : w.length < 1000)
    (kk : ∀ (H1 : Heap), am_H D dA ad fv base s (w ++ [.inr (ci, am_new ci)]) H1 locs → W p l e R s m args below meth c H1 locs (cells + 1) (slots + am_N ci) Q (F0 m (pc + 3) LS (.ref (base + w.length) :: rest))) : W p l e R s m args below meth c H locs cells slots Q (F0 m pc LS rest) := by
  obtain ⟨hx, hb, hml, hown, hts, hG, hbs, hini⟩ := Cx
  have hm := am_f2_mem hr
  have h1 := List.all_eq_true.mp rC_ok _ hm
  have hlt : ci < 9 := by simpa using h1
  have hc : ∃ q, vwCl[ci]? = some q := ⟨_, List.getElem?_eq_getElem (show ci < vwCl.length from hlt)⟩
  obtain ⟨⟨C, T, N⟩, hc⟩ := hc
  have hws := rC_in hm
  simp only [rC_w, hc] at hws
  obtain ⟨hnm, htys, hN⟩ := vw_nm hc
  simp only at hN
  subst hN
  have hin := vwCl_in _ (List.mem_of_getElem? hc)
  have hKn := hG.1.1 ci _ hc
  refine W.newcK hx hb hown (hts _ (hws _ List.mem_cons_self)) (hts _ (hws _ (List.mem_cons_of_mem _ List.mem_cons_self))) (hts _ (hws _ (List.mem_cons_of_mem _ (List.mem_cons_of_mem _ List.mem_cons_self)))) rfl hd hc1 hc2 hKn.2.1 hH.2.1 fun H1 kC hkC e1 z1 o1 => ?_
  refine kk H1 (hH.push hbs ⟨_, hc, ?_⟩ (by rw [z1, hH.2.1]) (fun r hr => o1 r (by rw [← hH.2.1]; exact hr)) hl)
  refine (u_born (am_ty ci) hts hin hKn hkC e1 htys).to fun j hj => ?_
  show defaultValue (am_ty ci j) = vp_V ((am_new ci).map (am_cv (am_sg ad fv base))) j
  have : ((am_new ci).map (am_cv (am_sg ad fv base)))[j]? = some (defaultValue (am_ty ci j)) := by
    simp only [am_new, List.map_map, List.getElem?_map]
    rw [List.getElem?_range hj]
    simp [am_dv]
  simp [vp_V, this]
theorem am_newaW (Cx : am_Cx p s m args meth c D dA ad fv base X k) (hH : am_H D dA ad fv base s w H locs) {pc t : Nat} {a : ArrayType} {x : Int32} {rest : List Value} (hd : decode (pm_b k) pc = .ok (.newarray a, 2)) (ha : (a = .int ∧ t = 0) ∨ (a = .boolean ∧ t = 1)) (h0 : 0 ≤ x) (hx1 : x ≤ 10000) (hc1 : cells + 1 ≤ R.cells) (hc2 : slots + x.toNatClampNeg ≤ R.slots) (hl : w.length < 1000)
    (kk : ∀ (H1 : Heap), am_H D dA ad fv base s (w ++ [.inl (t, x.toNatClampNeg, .inl fun _ => 0)]) H1 locs → W p l e R s m args below meth c H1 locs (cells + 1) (slots + x.toNatClampNeg) Q (F0 m (pc + 2) LS (.ref (base + w.length) :: rest))) : W p l e R s m args below meth c H locs cells slots Q (F0 m pc LS (.int x :: rest)) := by
  obtain ⟨hx, hb, hml, hown, hts, hG, hbs, hini⟩ := Cx
  have hn : ¬ x < 0 := by rw [Int32.lt_iff_toInt_lt]; rw [Int32.le_iff_toInt_le] at h0; exact Int.not_lt.mpr h0
  have hN : x.toNatClampNeg ≤ 10000 := by
    rw [Int32.le_iff_toInt_le] at hx1
    have : x.toInt ≤ 10000 := hx1
    show x.toInt.toNat ≤ 10000
    omega
  have hac : (Cond.arrayClass (newarray.typeOf a)).before args s = true := by
    rcases ha with ⟨rfl, -⟩ | ⟨rfl, -⟩
    · exact hts _ (ck_all_of ac_w _ List.mem_cons_self)
    · exact hts _ (ck_all_of ac_w _ (List.mem_cons_of_mem _ List.mem_cons_self))
  refine va_newaK hx hb hac rfl hd rfl hn rfl (by rcases ha with ⟨rfl, -⟩ | ⟨rfl, -⟩ <;> show _ * _ ≤ _ <;> simp only [newarray.typeOf, componentBytes] <;> omega) hc1 hc2 hH.2.1 fun H1 cA e1 z1 o1 hAr hNm => ?_
  refine kk H1 (hH.push hbs ?_ (by rw [z1, hH.2.1]) (fun r hr => o1 r (by rw [← hH.2.1]; exact hr)) hl)
  show H1[base + w.length]? = some (arrV (dA t) x.toNatClampNeg (fun _ => .int 0))
  rw [e1]
  rcases ha with ⟨rfl, rfl⟩ | ⟨rfl, rfl⟩
  · rw [show cA = dA 0 from Option.some.inj (hNm.symm.trans (hG.1.2 0 (dA 0, .int) rfl).2)]; rfl
  · rw [show cA = dA 1 from Option.some.inj (hNm.symm.trans (hG.1.2 1 (dA 1, .boolean) rfl).2)]; rfl
theorem am_anewW (Cx : am_Cx p s m args meth c D dA ad fv base X k) (hH : am_H D dA ad fv base s w H locs) {i pc : Nat} {x : Int32} {rest : List Value} (hd : decode (pm_b k) pc = .ok (.anewarray i, 3)) (hr : am_f2 rC (pm_o k) i = some 0) (h0 : 0 ≤ x) (hx1 : x ≤ 10000) (hc1 : cells + 1 ≤ R.cells) (hc2 : slots + x.toNatClampNeg ≤ R.slots) (hl : w.length < 1000)
    (kk : ∀ (H1 : Heap), am_H D dA ad fv base s (w ++ [.inl (2, x.toNatClampNeg, .inr (.inr (.inr (.inr fun _ => none))))]) H1 locs → W p l e R s m args below meth c H1 locs (cells + 1) (slots + x.toNatClampNeg) Q (F0 m (pc + 3) LS (.ref (base + w.length) :: rest))) : W p l e R s m args below meth c H locs cells slots Q (F0 m pc LS (.int x :: rest)) := by
  obtain ⟨hx, hb, hml, hown, hts, hG, hbs, hini⟩ := Cx
  have hn : ¬ x < 0 := by rw [Int32.lt_iff_toInt_lt]; rw [Int32.le_iff_toInt_le] at h0; exact Int.not_lt.mpr h0
  have hN : x.toNatClampNeg ≤ 10000 := by
    rw [Int32.le_iff_toInt_le] at hx1
    have : x.toInt ≤ 10000 := hx1
    show x.toInt.toNat ≤ 10000
    omega
  have hws := rC_in (am_f2_mem hr)
  have hcl : Cond.classLink (cn (pm_o k)) i "SwingCity$Now" ∈ lw_good := hws _ List.mem_cons_self
  refine W.anew hx hb hown (hts _ hcl) (va_AO.use hG.2.2.1) rfl hd rfl hn (by omega) hc1 hc2 fun cA kA comp f1 f2 f3 f4 => ?_
  have e0 : H.size = base + w.length := hH.2.1
  refine W.eq (g2 := F0 m (pc + 3) LS (.ref (base + w.length) :: rest)) (by rw [← e0]) ?_
  refine kk _ (hH.push hbs ?_ (by rw [Array.size_push]) (fun r hr => by rw [Array.getElem?_push_lt hr, Array.getElem?_eq_getElem hr]) hl)
  show (H.push _)[base + w.length]? = some (arrV (dA 2) x.toNatClampNeg (fun _ => .null))
  rw [← e0, Array.getElem?_push_size, ← arrV_new]
  obtain ⟨kA', comp', k1, k2, k3, k4⟩ := (hG.1.2 2 (dA 2, .object "SwingCity$Now") rfl).2
  rw [show cA = dA 2 from Option.some.inj (f1.symm.trans k4)]
end SIMB
