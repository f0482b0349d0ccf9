def am_ws (k : Nat) : List Cond := Cond.code (pm_y k) (pm_b k) (pm_L k) (pm_r k) :: lw_good
def am_rm (d k : Nat) : Room := { frames := d, cells := pm_c k, slots := pm_z k, locals := 64 * d }
def am_Pc (D : va_G) (dA : Nat → ClassId) (ad : Nat → Nat) (fv : Value) (base : Nat) (X : am_X) (as : List Value) (w : am_W) : Array Value → State → Prop := fun v U =>
  v = (as.map (am_cv (am_sg ad fv base))).toArray ∧ va_P D vwCl (am_cw (am_sg ad fv base) dA base w) U.heap ∧ U.heap.size = base + w.length ∧ am_G D dA ad fv base X U U.heap ∧ w.length ≤ 1000
def am_Qc (D : va_G) (dA : Nat → ClassId) (ad : Nat → Nat) (fv : Value) (base : Nat) (Q : am_Q) : Array Value → State → Outcome → State → Prop := fun _ st o t =>
  (∃ (r : Option Value) (w' : am_W), o = .returned (r.map (am_cv (am_sg ad fv base))) ∧ Q r w' ∧ va_P D vwCl (am_cw (am_sg ad fv base) dA base w') t.heap ∧ t.heap.size = base + w'.length ∧ w'.length ≤ 1000) ∧ va_F (fun a => base ≤ a) st t
theorem am_blind {D : va_G} {dA : Nat → ClassId} {ad : Nat → Nat} {fv : Value} {base : Nat} {X : am_X} {as : List Value} {w : am_W} : FrameBlind (am_Pc D dA ad fv base X as w) := by
  intro a U g mk ⟨h1, h2, h3, h4, h5⟩
  exact ⟨h1, h2, h3, am_G.same (s := U) rfl h4, h5⟩
/-- a method whose name has no row of its own in the table of natives -/
theorem am_ofW {l : Launch} {y : MethodName} {ws ws' : List Cond} {rm : Room} {Pc : Array Value → State → Prop} {Qc : Array Value → State → Outcome → State → Prop} {mc ms : Nat} {free : Addr → Prop} {cc : ByteArray} {maxL : Nat} {ret : Option FieldType}
    (hy : plainFor y = true) (hw : ws = Cond.code y cc maxL ret :: ws')
    (body : ∀ p e s m args below meth c s₁, BodyLoose p l y (headSpec ws rm) cc maxL ret e s m args below meth c s₁ → c.maxLocals = maxL → Pc args s →
      W p l e (headSpec ws rm).room s m args below meth c s.heap [] 0 0 (MQ below Qc args s mc ms free) (entryFrame m args maxL)) : Met l y ws rm Pc Qc mc ms free := by
  refine MetFree.of_bodySF (code := cc) (maxLocals := maxL) (ret := ret) hy (fun args s m h hn => ?_) (fun p e s m args below meth c s₁ B hml hP _ => ?_)
  · obtain ⟨meth, c, h1, h2, h3, h4, h5, h6, -, -⟩ := Cond.code_spec hn (atoms_spec (ws := ws) h _ (by rw [hw]; exact List.mem_cons_self))
    exact ⟨meth, c, h1, h2, h3, h4, h5, h6⟩
  · have hh0 : s₁.heap = s.heap := by rw [B.state]; rfl
    obtain ⟨t, a1, o, b1, b2, b3⟩ := body p e s m args below meth c s₁ B hml hP s₁ hh0 (Stand.of_body B)
    exact ⟨t, o, a1, b1, b2, ⟨b3.1, b3.2⟩⟩
theorem am_goodIn {j : Nat} (hj : j < 153) : GoodIn lw_good (am_ws j) := by
  intro w hw
  rcases List.mem_cons.mp hw with rfl | h
  · exact ⟨pm_code hj, good_of_word rfl⟩
  · exact ⟨h, good_of_word (lw_good_all w h)⟩
theorem pm_pl {k : Nat} (hk : k < 154) : (pm_y k).cls ≠ "java/lang/invoke/MethodHandle" ∧ (pm_y k).cls ≠ "java/lang/invoke/VarHandle" ∧ (pm_y k).cls = cn (pm_o k) ∧ pm_L k ≤ 20 ∧ plainFor (pm_y k) = true := by
  have h1 := List.all_eq_true.mp pm_plain _ (List.mem_of_getElem? (pm_get hk))
  have h2 := List.all_eq_true.mp pm_plainF _ (List.mem_of_getElem? (pm_get hk))
  simp only [Bool.and_eq_true, decide_eq_true_eq] at h1
  exact ⟨h1.1.1.1, h1.1.1.2, h1.1.2, h1.2, h2⟩
theorem vw_cn {ci : Nat} {q : vw_C} (h : vwCl[ci]? = some q) : q.1 = cn ci := by
  match ci, h with
  | 0, h => cases h; rfl
  | 1, h => cases h; rfl
  | 2, h => cases h; rfl
  | 3, h => cases h; rfl
  | 4, h => cases h; rfl
  | 5, h => cases h; rfl
  | 6, h => cases h; rfl
  | 7, h => cases h; rfl
  | 8, h => cases h; rfl
  | n + 9, h => cases h
theorem rM_get {o i t j n : Nat} (h : am_f2 rM o i = some (t, j, n)) (ht : t < 4) : j < 153 ∧ (parseMethodDescriptor (pm_y j).desc).map (fun d => d.parameters.length) = some n ∧ (2 ≤ t → (pm_y j).name = "<init>" ∧ pm_r j = none) ∧ (t = 3 → (o, i, j) ∈ am_nest) := by
  have hm := am_f2_mem h
  have h1 := List.all_eq_true.mp rM_all _ hm
  simp only [rM_ok, Bool.or_eq_true, Bool.and_eq_true, decide_eq_true_eq] at h1
  rcases h1 with h1 | h1
  · omega
  · obtain ⟨⟨⟨⟨-, h2⟩, h3⟩, h4⟩, h5⟩ := h1
    refine ⟨h2, h3, fun h6 => ?_, fun h6 => ?_⟩
    · rcases h4 with h4 | h4
      · omega
      · exact h4
    · rcases h5 with h5 | h5
      · simp [h6] at h5
      · exact h5
section SIMD
variable {p : Program} {l : Launch} {e : Env} {R : Room} {s : State} {m : MethodId} {args : Array Value} {below : List Frame} {meth : Method} {c : Code} {H : Heap} {locs : List Loc} {cells slots : Nat} {Q : State → Prop}
variable {D : va_G} {dA : Nat → ClassId} {ad : Nat → Nat} {fv : Value} {base : Nat} {X : am_X} {k : Nat} {LS : Array Slot} {w : am_W}
theorem am_callW {mc ms pc : Nat} {st0 rest : List Value} {Q' : am_Q} {a : Array Value} (hr : va_Run p l e R s m args below meth c H locs cells slots mc ms (F0 m pc LS st0) rest (am_Qc D dA ad fv base Q' a) (fun q => base ≤ q)) (hH : am_H D dA ad fv base s w H locs)
    (kk : ∀ (r : Option Value) (w' : am_W) (H1 : Heap) (locs1 : List Loc), Q' r w' → am_H D dA ad fv base s w' H1 locs1 → W p l e R s m args below meth c H1 locs1 (cells + mc) (slots + ms) Q (F0 m (pc + 3) LS ((r.map (am_cv (am_sg ad fv base))).toList ++ rest))) : W p l e R s m args below meth c H locs cells slots Q (F0 m pc LS st0) := by
  intro T hT Xs
  obtain ⟨v, st₀, t, T', L, h0, X', hL, e1, e2, ⟨⟨r, w', hv, hq, hp, hsz, hl⟩, hz, hk⟩, st⟩ := hr T hT Xs
  cases hv
  rw [h0] at hz hk
  have hS := hH.2.2.1
  obtain ⟨t2, a1, b1⟩ := kk r w' T'.heap (locs ++ L) hq ⟨by rw [e1]; exact hp, by rw [e1]; exact hsz, ⟨Nat.le_trans hS.1 (by rw [e1]; exact hz), fun q h1 h2 => by rw [e1, hk q (Nat.lt_of_lt_of_le h1 hS.1) h2]; exact hS.2.1 q h1 h2, fun q hq => by
      rcases List.mem_append.mp hq with h | h
      · exact hS.2.2 q h
      · exact hL q h⟩, hl⟩ T' rfl X'
  exact ⟨t2, st t2 a1, b1⟩
theorem am_recv (Cx : am_Cx p s m args meth c D dA ad fv base X k) (hH : am_H D dA ad fv base s w H locs) {q ci : Nat} (h : if q < 1000 then am_cls w q = some ci else q < 1014 ∧ 1010 ≤ q ∧ ci = 10) : ∃ b, am_sg ad fv base q = .ref b ∧ ∃ cell : Cell, H[b]? = some cell ∧ cell.vm.isStatics = false ∧ s.vm.findClass (cn ci) = some cell.cls := by
  obtain ⟨hx, hb, hml, hown, hts, hG, hbs, -⟩ := Cx
  split at h
  · rename_i hq
    obtain ⟨fs, hw⟩ := am_cls_inv h
    obtain ⟨r, h1, -⟩ := hH.1 q _ (am_cw_at hw)
    refine ⟨_, am_sg_lo hq, ?_⟩
    have := va_recv hG.1 hH.1 h1 (am_cw_at hw)
    rwa [vw_cn h1] at this
  · obtain ⟨h1, h2, rfl⟩ := h
    refine ⟨_, am_sg_hi (by omega) (by omega), ?_⟩
    obtain ⟨a1, -, -⟩ := hG.2.2.2.2.2.2.1 (q - 1010) (by omega)
    rw [show 10 + (q - 1010) = q - 1000 by omega] at a1
    obtain ⟨cell, g1, g2, g3, -⟩ := a1.kept hH.2.2.1.2.1
    exact ⟨cell, g1, g2, g3⟩
theorem am_pre (Cx : am_Cx p s m args meth c D dA ad fv base X k) (hH : am_H D dA ad fv base s w H locs) (as : List Value) (U : State) (hU : U.heap = H) (hW : s.WarmedH U.vm) : am_Pc D dA ad fv base X as w (as.map (am_cv (am_sg ad fv base))).toArray U := by
  obtain ⟨hx, hb, hml, hown, hts, hG, hbs, -⟩ := Cx
  exact ⟨rfl, by rw [hU]; exact hH.1, by rw [hU]; exact hH.2.1, by rw [hU]; exact hG.moved hW hH.2.2.1.2.1, hH.2.2.2⟩
theorem take_drop_map {f : Value → Value} {st rest : List Value} {n : Nat} {v : Value} (h : st.drop n = v :: rest) : st.map f = (((st.take n).reverse.map f).reverse) ++ f v :: rest.map f ∧ ((st.take n).reverse.map f).length = n := by
  constructor
  · conv => lhs; rw [← List.take_append_drop n st, h]
    simp
  · have : n < st.length := by
      have := congrArg List.length h
      simp at this
      omega
    simp
    omega
set_option maxHeartbeats 4000000 in
theorem am_call_sim {d : Nat} (Cx : am_Cx p s m args meth c D dA ad fv base X k) (hRc : R.cells = pm_c k) (hRz : R.slots = pm_z k) (hRf : d + 1 ≤ R.frames) (hRl : 64 * (d + 1) ≤ R.locals) (hH : am_H D dA ad fv base s w H locs) {I : Instr} {n pc : Nat} {ls : List (Option Value)} {st : List Value} {r : Prop × Nat × List Value × List Value} (hd : decode (pm_b k) pc = .ok (I, n)) (hn : am_lok I n = true)
    (hL : am_L (am_sg ad fv base) (pm_L k) ls LS) (h : am_call k I st w = some r) (hA : r.1) (hc : cells + pm_c r.2.1 ≤ pm_c k) (hz : slots + pm_z r.2.1 ≤ pm_z k) {Q' : am_Q}
    (hM : r.2.1 < 153 → Met l (pm_y r.2.1) (am_ws r.2.1) (am_rm d r.2.1) (am_Pc D dA ad fv base X r.2.2.1 w) (am_Qc D dA ad fv base Q') (pm_c r.2.1) (pm_z r.2.1) (fun q => base ≤ q))
    (kk : ∀ (v : Option Value) (w' : am_W) (H1 : Heap) (locs1 : List Loc), Q' v w' → am_H D dA ad fv base s w' H1 locs1 → W p l e R s m args below meth c H1 locs1 (cells + pm_c r.2.1) (slots + pm_z r.2.1) Q (F0 m (pc + 3) LS ((v.toList ++ r.2.2.2).map (am_cv (am_sg ad fv base))))) : W p l e R s m args below meth c H locs cells slots Q (F0 m pc LS (st.map (am_cv (am_sg ad fv base)))) := by
  have Cx0 := Cx
  obtain ⟨hx, hb, hml, hown, hts, hG, hbs, -⟩ := Cx
  have hfv := hG.2.2.2.2.2.2.2
  have hsr := am_sg_rn (ad := ad) (base := base) hfv
  have kk2 : ∀ (v : Option Value) (w' : am_W) (H1 : Heap) (locs1 : List Loc), Q' v w' → am_H D dA ad fv base s w' H1 locs1 → W p l e R s m args below meth c H1 locs1 (cells + pm_c r.2.1) (slots + pm_z r.2.1) Q (F0 m (pc + 3) LS ((v.map (am_cv (am_sg ad fv base))).toList ++ r.2.2.2.map (am_cv (am_sg ad fv base)))) := by
    intro v w' H1 locs1 h1 h2
    have := kk v w' H1 locs1 h1 h2
    rw [List.map_append] at this
    cases v <;> exact this
  have hfix : CallFix p m c (pm_b k) (pm_L k) s args lw_good (cn (pm_o k)) := ⟨hx, hb, hml, hown, hts⟩
  have hsz : LS.size = pm_L k := hL.1.1
  cases I
  case invokevirtual i =>
    cases (beq_iff_eq.mp hn); simp only [am_call] at h
    split at h
    · rename_i j n' hq
      split at h
      · rename_i pp rest hdr
        cases h
        obtain ⟨hrc, hcat⟩ := hA
        obtain ⟨hj, hpar, -, -⟩ := rM_get hq (by omega)
        have hws := rM_in (am_f2_mem hq)
        obtain ⟨hp1, hp2, hp3, hp4, -⟩ := pm_pl (show j < 154 by omega)
        obtain ⟨hst, hlen⟩ := take_drop_map (f := am_cv (am_sg ad fv base)) hdr
        obtain ⟨b, hb1, hcell⟩ := am_recv Cx0 hH hrc
        have hGI : GoodIn lw_good (wsV (cn (pm_o k)) i (pm_y j).cls (pm_y j) (am_ws j)) := by
          intro w0 hw0
          rcases List.mem_append.mp hw0 with hw1 | hw1
          · have : w0 ∈ lw_good := hws w0 hw1
            exact ⟨this, good_of_word (lw_good_all _ this)⟩
          · exact am_goodIn hj w0 hw1
        have hpre : PreV s H (pm_y j).cls b (am_Pc D dA ad fv base X (.ref pp :: (st.take n').reverse) w) ((st.take n').reverse.map (am_cv (am_sg ad fv base))) := by
          refine ⟨am_blind, by rw [hp3]; exact hcell, fun U hU hW => ?_⟩
          have := am_pre Cx0 hH (.ref pp :: (st.take n').reverse) U hU hW
          rw [List.map_cons, show am_cv (am_sg ad fv base) (.ref pp) = .ref b from hb1] at this
          exact this
        have hrun := va_runV (l := l) (e := e) (below := below) (meth := meth) (locs := locs) (cells := cells) (slots := slots) (g := F0 m pc LS (st.map (am_cv (am_sg ad fv base)))) (rest := rest.map (am_cv (am_sg ad fv base))) hfix (hM hj) (cwV (R := R) n' hts hGI rfl rfl rfl ⟨rfl, hp1, hp2, hpar⟩ ⟨hRf, by show 8 + (pm_L j + 11) + 64 * d ≤ _; omega⟩) hpre rfl hlen hsz (by show st.map _ = _; rw [hst, show am_cv (am_sg ad fv base) (.ref pp) = .ref b from hb1]) (lv_room (by rw [am_cats hsr]; exact hcat)) hd ⟨by rw [hRc]; exact hc, by rw [hRz]; exact hz⟩
        exact am_callW hrun hH kk2
      · cases h
    · cases h
  case invokestatic i =>
    cases (beq_iff_eq.mp hn); simp only [am_call] at h
    split at h
    · rename_i j n' hq
      split at h
      · rename_i hlen
        cases h
        have hcat : ((st.drop n').map fun v => v.category).sum ≤ 8 := hA
        obtain ⟨hj, hpar, -, -⟩ := rM_get hq (by omega)
        have hws := rM_in (am_f2_mem hq)
        obtain ⟨hp1, hp2, hp3, hp4, -⟩ := pm_pl (show j < 154 by omega)
        have hGI : GoodIn lw_good (va_wsS (cn (pm_o k)) i (pm_y j) (am_ws j)) := by
          intro w0 hw0
          rcases List.mem_append.mp hw0 with hw1 | hw1
          · have : w0 ∈ lw_good := hws w0 hw1
            exact ⟨this, good_of_word (lw_good_all _ this)⟩
          · exact am_goodIn hj w0 hw1
        have hpre : PreS s H (am_Pc D dA ad fv base X ((st.take n').reverse) w) ((st.take n').reverse.map (am_cv (am_sg ad fv base))) := ⟨am_blind, fun U hU hW => am_pre Cx0 hH _ U hU hW⟩
        have hst : st.map (am_cv (am_sg ad fv base)) = ((st.take n').reverse.map (am_cv (am_sg ad fv base))).reverse ++ (st.drop n').map (am_cv (am_sg ad fv base)) := by
          conv => lhs; rw [← List.take_append_drop n' st]
          simp
        have hrun := va_runS (l := l) (e := e) (below := below) (meth := meth) (locs := locs) (cells := cells) (slots := slots) (g := F0 m pc LS (st.map (am_cv (am_sg ad fv base)))) (rest := (st.drop n').map (am_cv (am_sg ad fv base))) hfix (hM hj) (va_cwS (R := R) n' hts hGI rfl rfl rfl ⟨hp1, hp2, hpar⟩ ⟨hRf, by show 8 + (pm_L j + 11) + 64 * d ≤ _; omega⟩) hpre rfl (by rw [List.length_map, List.length_reverse]; exact hlen) hsz hst (lv_room (by rw [am_cats hsr]; exact hcat)) hd ⟨by rw [hRc]; exact hc, by rw [hRz]; exact hz⟩
        exact am_callW hrun hH kk2
      · cases h
    · cases h
  case invokespecial i =>
    cases (beq_iff_eq.mp hn); simp only [am_call] at h
    split at h
    · rename_i j n' hq
      split at h
      · rename_i pp rest hdr
        cases h
        obtain ⟨hp0, hcat⟩ := hA
        obtain ⟨hj, hpar, hini, -⟩ := rM_get hq (by omega)
        obtain ⟨hin1, hret⟩ := hini (by omega)
        have hws := rM_in (am_f2_mem hq)
        obtain ⟨hp1, hp2, hp3, hp4, -⟩ := pm_pl (show j < 154 by omega)
        obtain ⟨hst, hlen⟩ := take_drop_map (f := am_cv (am_sg ad fv base)) hdr
        have hb1 : am_sg ad fv base pp = .ref (base + pp) := am_sg_lo hp0
        have hpre : PreS s H (am_Pc D dA ad fv base X (.ref pp :: (st.take n').reverse) w) (.ref (base + pp) :: (st.take n').reverse.map (am_cv (am_sg ad fv base))) := by
          refine ⟨am_blind, fun U hU hW => ?_⟩
          have := am_pre Cx0 hH (.ref pp :: (st.take n').reverse) U hU hW
          rw [List.map_cons, show am_cv (am_sg ad fv base) (.ref pp) = .ref (base + pp) from hb1] at this
          exact this
        have hw3 : am_ws j = Cond.code (pm_y j) (pm_b j) (pm_L j) none :: lw_good := by unfold am_ws; rw [hret]
        have hrun := va_runI (l := l) (e := e) (below := below) (meth := meth) (locs := locs) (cells := cells) (slots := slots) (g := F0 m pc LS (st.map (am_cv (am_sg ad fv base)))) (rest := rest.map (am_cv (am_sg ad fv base))) hfix (hM hj) (cwI (R := R) n' hts (am_goodIn hj) hw3 rfl rfl (hts _ (hws _ (List.mem_of_getElem? (i := 2) rfl))) (hts _ (hws _ (List.mem_of_getElem? (i := 0) rfl))) (hts _ (hws _ (List.mem_of_getElem? (i := 1) rfl))) hin1 ⟨hp1, hp2, hpar⟩ ⟨hRf, by show 8 + (pm_L j + 11) + 64 * d ≤ _; omega⟩) hpre rfl hlen hsz (by show st.map _ = _; rw [hst, show am_cv (am_sg ad fv base) (.ref pp) = .ref (base + pp) from hb1]) (lv_room (by rw [am_cats hsr]; exact hcat)) hd ⟨by rw [hRc]; exact hc, by rw [hRz]; exact hz⟩
        exact am_callW hrun hH kk2
      · cases h
    · rename_i j n' hq
      split at h
      · rename_i pp rest hdr
        cases h
        obtain ⟨hp0, hcat⟩ := hA
        obtain ⟨hj, hpar, hini, hnest⟩ := rM_get hq (by omega)
        obtain ⟨hin1, hret⟩ := hini (by omega)
        have hnw := hG.2.1 _ (hnest rfl)
        have hws := rM_in (am_f2_mem hq)
        obtain ⟨hp1, hp2, hp3, hp4, -⟩ := pm_pl (show j < 154 by omega)
        obtain ⟨hst, hlen⟩ := take_drop_map (f := am_cv (am_sg ad fv base)) hdr
        have hb1 : am_sg ad fv base pp = .ref (base + pp) := am_sg_lo hp0
        have hpre : PreS s H (am_Pc D dA ad fv base X (.ref pp :: (st.take n').reverse) w) (.ref (base + pp) :: (st.take n').reverse.map (am_cv (am_sg ad fv base))) := by
          refine ⟨am_blind, fun U hU hW => ?_⟩
          have := am_pre Cx0 hH (.ref pp :: (st.take n').reverse) U hU hW
          rw [List.map_cons, show am_cv (am_sg ad fv base) (.ref pp) = .ref (base + pp) from hb1] at this
          exact this
        have hw3 : am_ws j = Cond.code (pm_y j) (pm_b j) (pm_L j) none :: lw_good := by unfold am_ws; rw [hret]
        have hrun := va_runIN (l := l) (e := e) (below := below) (meth := meth) (locs := locs) (cells := cells) (slots := slots) (g := F0 m pc LS (st.map (am_cv (am_sg ad fv base)))) (rest := rest.map (am_cv (am_sg ad fv base))) hfix (hM hj) ⟨va_cnB (R := R) n' hts (am_goodIn hj) hw3 rfl rfl hnw (hts _ (hws _ (List.mem_of_getElem? (i := 1) rfl))) ⟨hp1, hp2, hpar⟩ ⟨hRf, by show 8 + (pm_L j + 11) + 64 * d ≤ _; omega⟩, hin1, hts _ (hws _ (List.mem_of_getElem? (i := 0) rfl))⟩ hpre rfl hlen hsz (by show st.map _ = _; rw [hst, show am_cv (am_sg ad fv base) (.ref pp) = .ref (base + pp) from hb1]) (lv_room (by rw [am_cats hsr]; exact hcat)) hd ⟨by rw [hRc]; exact hc, by rw [hRz]; exact hz⟩
        exact am_callW hrun hH kk2
      · cases h
    · cases h
  all_goals cases (show (none : Option (Prop × Nat × List Value × List Value)) = some r from h)
end SIMD
