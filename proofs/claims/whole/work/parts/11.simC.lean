section SIMC
variable {p : Program} {l : Launch} {e : Env} {R : Room} {s : State} {m : MethodId} {args : Array Value} {below : List Frame} {meth : Method} {c : Code} {H : Heap} {locs : List Loc} {cells slots : Nat} {Q : State → Prop}
variable {D : va_G} {dA : Nat → ClassId} {ad : Nat → Nat} {fv : Value} {base : Nat} {X : am_X} {k : Nat} {LS : Array Slot} {w : am_W}
theorem am_to_inv {pc t : Nat} {off : Int} (h : am_to pc off = some t) : (pc : Int) + off = (t : Int) := by
  unfold am_to at h
  split at h
  · rename_i t' e
    cases h
    exact e
  · cases h
theorem am_al_at {sg : Nat → Value} {ls : List (Option Value)} {i : Nat} {x : Int32} (h : ls[i]? = some (some (.int x))) : ∃ j : Nat, (am_al sg ls)[j]? = some (i, Value.int x) :=
  List.getElem?_of_mem (am_al_mem.mpr ⟨i, .int x, am_ld_int h, rfl⟩)
set_option maxHeartbeats 4000000 in
theorem am_one_sim (Cx : am_Cx p s m args meth c D dA ad fv base X k) (hRc : R.cells = pm_c k) (hRz : R.slots = pm_z k) (hRf : 1 ≤ R.frames) (hRl : 20 ≤ R.locals) (hH : am_H D dA ad fv base s w H locs) {I : Instr} {n pc : Nat} {ls : List (Option Value)} {st : List Value} {r : Prop × am_S} (hd : decode (pm_b k) pc = .ok (I, n)) (hn : am_lok I n = true)
    (hL : am_L (am_sg ad fv base) (pm_L k) ls LS) (h : am_one X k I n pc ls st w cells slots = some r) (hA : r.1)
    (kk : ∀ (H1 : Heap) (locs1 : List Loc) (LS1 : Array Slot), am_H D dA ad fv base s r.2.2.2.2.1 H1 locs1 → am_L (am_sg ad fv base) (pm_L k) r.2.2.1 LS1 → W p l e R s m args below meth c H1 locs1 r.2.2.2.2.2.1 r.2.2.2.2.2.2 Q (F0 m r.2.1 LS1 (r.2.2.2.1.map (am_cv (am_sg ad fv base))))) : W p l e R s m args below meth c H locs cells slots Q (F0 m pc LS (st.map (am_cv (am_sg ad fv base)))) := by
  have Cx0 := Cx
  obtain ⟨hx, hb, hml, hown, hts, hG, hbs, -⟩ := Cx
  have hfv := hG.2.2.2.2.2.2.2
  have hsr := am_sg_rn (ad := ad) (base := base) hfv
  cases I
  case istore_n i =>
    cases (beq_iff_eq.mp hn); simp only [am_one] at h
    split at h
    · simp only [Option.map_eq_some_iff] at h
      obtain ⟨z, hz, rfl⟩ := h
      have hi : (i : Nat) < pm_L k := by rw [← hL.2]; exact (List.getElem?_eq_some_iff.mp hz).1
      exact lv_istore_n hx hb hd rfl hL.1 hi rfl fun ls' h' => kk _ _ _ hH (hL.store1 hsr (v := .int _) rfl h')
    · cases h
  case istore i =>
    cases (beq_iff_eq.mp hn); simp only [am_one] at h
    split at h
    · simp only [Option.map_eq_some_iff] at h
      obtain ⟨z, hz, rfl⟩ := h
      have hi : (i : Nat) < pm_L k := by rw [← hL.2]; exact (List.getElem?_eq_some_iff.mp hz).1
      exact lv_istore hx hb hd hL.1 hi rfl fun ls' h' => kk _ _ _ hH (hL.store1 hsr (v := .int _) rfl h')
    · cases h
  case astore_n i =>
    cases (beq_iff_eq.mp hn); simp only [am_one] at h
    split at h
    · rename_i x st
      simp only [Option.map_eq_some_iff] at h
      obtain ⟨z, hz, rfl⟩ := h
      have hi : (i : Nat) < pm_L k := by rw [← hL.2]; exact (List.getElem?_eq_some_iff.mp hz).1
      · have kk2 : ∀ ls', lv_has ls' (pm_L k) (((i : Nat), am_sg ad fv base x) :: (am_al (am_sg ad fv base) ls).filter (fun q => !(q.1 == (i : Nat)) && !(q.1 + 1 == (i : Nat) && q.2.category == 2))) → _ := fun ls' h' => kk _ _ ls' hH (hL.store1 hsr (v := .ref x) rfl h')
        show W p l e R s m args below meth c H locs cells slots Q (F0 m pc LS (am_sg ad fv base x :: st.map (am_cv (am_sg ad fv base))))
        rcases hsr x with hs | ⟨a, hs⟩
        · rw [hs] at kk2 ⊢; exact lv_astore_nN hx hb hd rfl hL.1 hi rfl kk2
        · rw [hs] at kk2 ⊢; exact lv_astore_n hx hb hd rfl hL.1 hi rfl kk2
    · cases h
  case lstore_n i =>
    cases (beq_iff_eq.mp hn); simp only [am_one] at h
    split at h
    · simp only [Option.map_eq_some_iff] at h
      obtain ⟨z, hz, rfl⟩ := h
      have hi : (i : Nat) + 1 < pm_L k := by rw [← hL.2]; exact (List.getElem?_eq_some_iff.mp hz).1
      exact lv_lstore_n hx hb hd rfl hL.1 hi rfl fun ls' h' => kk _ _ _ hH (hL.store2 hsr h')
    · cases h
  case iinc i v =>
    cases (beq_iff_eq.mp hn); simp only [am_one] at h
    split at h
    · rename_i x hi
      cases h
      obtain ⟨j, hj⟩ := am_al_at (sg := am_sg ad fv base) hi
      have hlt : i < pm_L k := by rw [← hL.2]; exact (List.getElem?_eq_some_iff.mp hi).1
      exact lv_iinc hx hb hd hL.1 hj rfl hlt rfl fun ls' h' => kk _ _ _ hH (hL.store1 hsr (v := .int _) rfl h')
    · cases h
  case goto off =>
    cases (beq_iff_eq.mp hn); simp only [am_one, Option.map_eq_some_iff] at h
    obtain ⟨t, ht, rfl⟩ := h
    exact lv_goto hx hb hd (am_to_inv ht) (kk _ _ _ hH hL)
  case ifCond cd off =>
    cases (beq_iff_eq.mp hn); simp only [am_one] at h
    split at h
    · rename_i x st
      simp only [Option.map_eq_some_iff] at h
      obtain ⟨t, ht, rfl⟩ := h
      have ht := am_to_inv ht
      have kt : am_cz cd x = true → W p l e R s m args below meth c H locs cells slots Q (F0 m t LS (st.map (am_cv (am_sg ad fv base)))) := fun hc => by
        have := kk _ _ _ hH hL
        simp only [hc, if_true] at this
        exact this
      have kf : ¬ am_cz cd x = true → W p l e R s m args below meth c H locs cells slots Q (F0 m (pc + 3) LS (st.map (am_cv (am_sg ad fv base)))) := fun hc => by
        have := kk _ _ _ hH hL
        simp only [hc, if_false] at this
        exact this
      cases cd
      · exact lv_if_eq hx hb hd ht (fun hc => kt (decide_eq_true hc)) (fun hc => kf (fun z => hc (of_decide_eq_true z)))
      · exact lv_if_ne hx hb hd ht (fun hc => kt (decide_eq_true hc)) (fun hc => kf (fun z => (of_decide_eq_true z) hc))
      · exact lv_if_lt hx hb hd ht (fun hc => kt (decide_eq_true hc)) (fun hc => kf (fun z => hc (of_decide_eq_true z)))
      · exact lv_if_ge hx hb hd ht (fun hc => kt (decide_eq_true hc)) (fun hc => kf (fun z => hc (of_decide_eq_true z)))
      · exact lv_if_gt hx hb hd ht (fun hc => kt (decide_eq_true hc)) (fun hc => kf (fun z => hc (of_decide_eq_true z)))
      · exact lv_if_le hx hb hd ht (fun hc => kt (decide_eq_true hc)) (fun hc => kf (fun z => hc (of_decide_eq_true z)))
    · cases h
  case if_icmp cd off =>
    cases (beq_iff_eq.mp hn); simp only [am_one] at h
    split at h
    · rename_i y x st
      simp only [Option.map_eq_some_iff] at h
      obtain ⟨t, ht, rfl⟩ := h
      have ht := am_to_inv ht
      have kt : am_cc cd x y = true → W p l e R s m args below meth c H locs cells slots Q (F0 m t LS (st.map (am_cv (am_sg ad fv base)))) := fun hc => by
        have := kk _ _ _ hH hL
        simp only [hc, if_true] at this
        exact this
      have kf : ¬ am_cc cd x y = true → W p l e R s m args below meth c H locs cells slots Q (F0 m (pc + 3) LS (st.map (am_cv (am_sg ad fv base)))) := fun hc => by
        have := kk _ _ _ hH hL
        simp only [hc, if_false] at this
        exact this
      cases cd
      · exact lv_icmp_eq hx hb hd ht (fun hc => kt (decide_eq_true hc)) (fun hc => kf (fun z => hc (of_decide_eq_true z)))
      · exact lv_icmp_ne hx hb hd ht (fun hc => kt (decide_eq_true hc)) (fun hc => kf (fun z => (of_decide_eq_true z) hc))
      · exact lv_icmp_lt hx hb hd ht (fun hc => kt (decide_eq_true hc)) (fun hc => kf (fun z => hc (of_decide_eq_true z)))
      · exact lv_icmp_ge hx hb hd ht (fun hc => kt (decide_eq_true hc)) (fun hc => kf (fun z => hc (of_decide_eq_true z)))
      · exact lv_icmp_gt hx hb hd ht (fun hc => kt (decide_eq_true hc)) (fun hc => kf (fun z => hc (of_decide_eq_true z)))
      · exact lv_icmp_le hx hb hd ht (fun hc => kt (decide_eq_true hc)) (fun hc => kf (fun z => hc (of_decide_eq_true z)))
    · cases h
  case tableswitch dflt lo hi offs =>
    simp only [am_one] at h
    split at h
    · rename_i x st
      simp only [Option.map_eq_some_iff] at h
      obtain ⟨t, ht, rfl⟩ := h
      unfold am_tsw at ht
      split at ht
      · exact lv_tableOut hx hb hd (by assumption) (am_to_inv ht) (kk _ _ _ hH hL)
      · rename_i hr
        split at ht
        · exact lv_tableIn hx hb hd (fun q => hr (Or.inl q)) (fun q => hr (Or.inr q)) (by assumption) (am_to_inv ht) (kk _ _ _ hH hL)
        · cases ht
    · cases h
  case idiv =>
    cases (beq_iff_eq.mp hn); simp only [am_one] at h
    split at h
    · cases h; exact lv_idiv hx hb hd hA (kk _ _ _ hH hL)
    · cases h
  case irem =>
    cases (beq_iff_eq.mp hn); simp only [am_one] at h
    split at h
    · rename_i y x st
      cases h
      refine lv_irem hx hb hd hA ?_
      rw [irem_eq_mod]
      exact kk _ _ _ hH hL
    · cases h
  case getfield i =>
    cases (beq_iff_eq.mp hn); simp only [am_one] at h
    split at h
    · rename_i q hq
      obtain ⟨ci, f⟩ := q
      split at h
      · rename_i pp st
        obtain ⟨pp, rfl⟩ : ∃ z : Nat, z = pp := ⟨pp, rfl⟩
        simp only [Option.map_eq_some_iff] at h
        obtain ⟨v, hv, rfl⟩ := h
        obtain ⟨⟨C, T, N⟩, hc, hk, hty, hdecl, hC, hw⟩ := rF_get hq
        obtain ⟨fs, hwq, hfs⟩ := am_fld_inv hv
        show W p l e R s m args below meth c H locs cells slots Q (F0 m pc LS (am_sg ad fv base pp :: st.map (am_cv (am_sg ad fv base))))
        rw [am_sg_lo hA]
        exact va_get (D := D) hx hb hts (vwCl_in _ (List.mem_of_getElem? hc)) hown hG.1 hH.1 pp (am_cw_at hwq) hc f hk (hts _ hw) (fun _ h => h) (v := am_cv (am_sg ad fv base) v) (by simp [hfs]) hd (kk _ _ _ hH hL)
      · cases h
    · split at h
      · rename_i f hf
        split at h
        · rename_i pp st
          obtain ⟨pp, rfl⟩ : ∃ z : Nat, z = pp := ⟨pp, rfl⟩
          cases h
          have hp : 1010 ≤ pp ∧ pp < 1014 := hA
          have h1 := am_f2_mem hf
          simp only [rT, List.mem_cons, Prod.mk.injEq, List.not_mem_nil, or_false] at h1
          obtain ⟨a1, a2, a3⟩ := hG.2.2.2.2.2.2.1 (pp - 1010) (by omega)
          rw [show 10 + (pp - 1010) = pp - 1000 by omega] at a1 a2 a3
          show W p l e R s m args below meth c H locs cells slots Q (F0 m pc LS (am_sg ad fv base pp :: st.map (am_cv (am_sg ad fv base))))
          rw [am_sg_hi (by omega) (by omega)]
          have kk1 := kk _ _ _ hH hL
          rcases h1 with ⟨e1, rfl, rfl⟩ | ⟨e1, rfl, rfl⟩
          · refine vk_getf hx hb a3 hH.2.2.1 hown (hts _ (by rw [e1]; exact gs_6)) (fun _ h => h) hd ?_
            have e2 : am_sg ad fv base (pp - 5) = .ref (ad (5 + (pp - 1010))) := by
              rw [am_sg_hi (by omega) (by omega), show pp - 5 - 1000 = 5 + (pp - 1010) by omega]
            have kk2 : W p l e R s m args below meth c H locs cells slots Q (F0 m (pc + 3) LS (am_sg ad fv base (pp - 5) :: st.map (am_cv (am_sg ad fv base)))) := kk1
            rw [e2] at kk2
            exact kk2
          · exact vk_getf hx hb a2 hH.2.2.1 hown (hts _ (by rw [e1]; exact gs_7)) (fun _ h => h) hd kk1
        · cases h
      · cases h
  case putfield i =>
    cases (beq_iff_eq.mp hn); simp only [am_one] at h
    split at h
    · rename_i q hq
      obtain ⟨ci, f⟩ := q
      split at h
      · rename_i v pp st
        obtain ⟨pp, rfl⟩ : ∃ z : Nat, z = pp := ⟨pp, rfl⟩
        simp only [Option.map_eq_some_iff] at h
        obtain ⟨v0, hv, rfl⟩ := h
        obtain ⟨hp, hfin, hfit⟩ := hA
        show W p l e R s m args below meth c H locs cells slots Q (F0 m pc LS (am_cv (am_sg ad fv base) v :: am_sg ad fv base pp :: st.map (am_cv (am_sg ad fv base))))
        rw [am_sg_lo hp]
        exact am_putW Cx0 hH hd hq hv hfin hfit fun H1 locs1 h1 => kk _ _ _ h1 hL
      · cases h
    · cases h
  case arraylength =>
    cases (beq_iff_eq.mp hn); simp only [am_one] at h
    split at h
    · rename_i pp st
      obtain ⟨pp, rfl⟩ : ∃ z : Nat, z = pp := ⟨pp, rfl⟩
      simp only [Option.map_eq_some_iff] at h
      obtain ⟨⟨t, n, f⟩, ha, rfl⟩ := h
      show W p l e R s m args below meth c H locs cells slots Q (F0 m pc LS (am_sg ad fv base pp :: st.map (am_cv (am_sg ad fv base))))
      rcases am_arr_inv ha with ⟨hp, hw⟩ | ⟨hp, hro⟩
      · rw [am_sg_lo hp]
        simp only at hw hA
        have ht : t = 0 ∨ t = 1 := by rcases hA with h | h | h; exact Or.inl h; exact Or.inr h; exact absurd hp (Nat.not_lt.mpr h)
        rcases ht with rfl | rfl
        · exact va_alen (D := D) hx hb hG.1 hH.1 pp 0 (am_cw_at hw) (ty := .int) rfl rfl hd (kk _ _ _ hH hL)
        · exact va_alen (D := D) hx hb hG.1 hH.1 pp 1 (am_cw_at hw) (ty := .boolean) rfl rfl hd (kk _ _ _ hH hL)
      · have := am_ro_lt hro
        rw [am_sg_hi hp (by omega)]
        exact va_tlen hx hb (hG.2.2.2.2.2.1 _ _ hro) hH.2.2.1 rfl hd (kk _ _ _ hH hL)
    · cases h
  case iaload =>
    cases (beq_iff_eq.mp hn); simp only [am_one] at h
    split at h
    · rename_i i pp st
      obtain ⟨pp, rfl⟩ : ∃ z : Nat, z = pp := ⟨pp, rfl⟩
      simp only [Option.map_eq_some_iff] at h
      obtain ⟨⟨t, n, f⟩, ha, rfl⟩ := h
      obtain ⟨ht, hin⟩ := hA
      simp only at ht hin
      subst ht
      show W p l e R s m args below meth c H locs cells slots Q (F0 m pc LS (.int i :: am_sg ad fv base pp :: st.map (am_cv (am_sg ad fv base))))
      rcases am_arr_inv ha with ⟨hp, hw⟩ | ⟨hp, hro⟩
      · rw [am_sg_lo hp]
        exact va_iald (D := D) hx hb hG.1 hH.1 pp 0 (am_cw_at hw) rfl hin hd (kk _ _ _ hH hL)
      · have := am_ro_lt hro
        rw [am_sg_hi hp (by omega)]
        exact va_ti hx hb (hG.2.2.2.2.2.1 _ _ hro) hH.2.2.1 hin rfl hd (kk _ _ _ hH hL)
    · cases h
  case baload =>
    cases (beq_iff_eq.mp hn); simp only [am_one] at h
    split at h
    · rename_i i pp st
      obtain ⟨pp, rfl⟩ : ∃ z : Nat, z = pp := ⟨pp, rfl⟩
      simp only [Option.map_eq_some_iff] at h
      obtain ⟨⟨t, n, f⟩, ha, rfl⟩ := h
      obtain ⟨ht, hin⟩ := hA
      simp only at ht hin
      show W p l e R s m args below meth c H locs cells slots Q (F0 m pc LS (.int i :: am_sg ad fv base pp :: st.map (am_cv (am_sg ad fv base))))
      rcases am_arr_inv ha with ⟨hp, hw⟩ | ⟨hp, hro⟩
      · rw [am_sg_lo hp]
        rcases ht with rfl | ⟨rfl, h3⟩
        · exact va_zald (D := D) hx hb hG.1 hH.1 pp 1 (am_cw_at hw) rfl hin hd (kk _ _ _ hH hL)
        · exact absurd hp (Nat.not_lt.mpr h3)
      · have := am_ro_lt hro
        rw [am_sg_hi hp (by omega)]
        have ht3 : t = 3 := by
          have := am_ro_t hro
          simp only at this
          omega
        subst ht3
        exact va_tb hx hb (hG.2.2.2.2.2.1 _ _ hro) hH.2.2.1 hin rfl hd (kk _ _ _ hH hL)
    · cases h
  case iastore =>
    cases (beq_iff_eq.mp hn); simp only [am_one] at h
    split at h
    · rename_i x i pp st
      obtain ⟨pp, rfl⟩ : ∃ z : Nat, z = pp := ⟨pp, rfl⟩
      simp only [Option.map_eq_some_iff] at h
      obtain ⟨⟨t, n, f⟩, ha, rfl⟩ := h
      obtain ⟨hp, ht, hin⟩ := hA
      simp only at ht hin
      subst ht
      rcases am_arr_inv ha with ⟨-, hw⟩ | ⟨hp2, hro⟩
      · show W p l e R s m args below meth c H locs cells slots Q (F0 m pc LS (.int x :: .int i :: am_sg ad fv base pp :: st.map (am_cv (am_sg ad fv base))))
        rw [am_sg_lo hp]
        exact am_iastW Cx0 hH hd hw hin fun H1 locs1 h1 => kk _ _ _ h1 hL
      · exact absurd hp (Nat.not_lt.mpr hp2)
    · cases h
  case bastore =>
    cases (beq_iff_eq.mp hn); simp only [am_one] at h
    split at h
    · rename_i x i pp st
      obtain ⟨pp, rfl⟩ : ∃ z : Nat, z = pp := ⟨pp, rfl⟩
      simp only [Option.map_eq_some_iff] at h
      obtain ⟨⟨t, n, f⟩, ha, rfl⟩ := h
      obtain ⟨hp, ht, hin, h01⟩ := hA
      simp only at ht hin
      subst ht
      rcases am_arr_inv ha with ⟨-, hw⟩ | ⟨hp2, hro⟩
      · show W p l e R s m args below meth c H locs cells slots Q (F0 m pc LS (.int x :: .int i :: am_sg ad fv base pp :: st.map (am_cv (am_sg ad fv base))))
        rw [am_sg_lo hp]
        exact am_zastW Cx0 hH hd hw hin h01 fun H1 locs1 h1 => kk _ _ _ h1 hL
      · exact absurd hp (Nat.not_lt.mpr hp2)
    · cases h
  case aaload =>
    cases (beq_iff_eq.mp hn); simp only [am_one] at h
    split at h
    · rename_i i pp st
      obtain ⟨pp, rfl⟩ : ∃ z : Nat, z = pp := ⟨pp, rfl⟩
      split at h
      · rename_i a ha
        simp only [Option.map_eq_some_iff] at h
        obtain ⟨q, hq, rfl⟩ := h
        obtain ⟨hp, hin, hq1⟩ := hA
        have hw := am_refs_inv ha
        show W p l e R s m args below meth c H locs cells slots Q (F0 m pc LS (.int i :: am_sg ad fv base pp :: st.map (am_cv (am_sg ad fv base))))
        rw [am_sg_lo hp]
        have kk2 : W p l e R s m args below meth c H locs cells slots Q (F0 m (pc + 1) LS (am_sg ad fv base q :: st.map (am_cv (am_sg ad fv base)))) := kk _ _ _ hH hL
        rw [am_sg_lo hq1] at kk2
        refine va_aldq (D := D) hx hb hG.1 hH.1 pp 2 (am_cw_at hw) rfl hin hd ?_
        simp only [hq, Option.map_some, va_rf]
        exact kk2
      · cases h
    · cases h
  case aastore =>
    cases (beq_iff_eq.mp hn); simp only [am_one] at h
    split at h
    · rename_i q i pp st
      obtain ⟨pp, rfl⟩ : ∃ z : Nat, z = pp := ⟨pp, rfl⟩
      simp only [Option.map_eq_some_iff] at h
      obtain ⟨a, ha, rfl⟩ := h
      obtain ⟨hp, hq, hc, hin⟩ := hA
      have hw := am_refs_inv ha
      obtain ⟨fs, hr⟩ := am_cls_inv hc
      show W p l e R s m args below meth c H locs cells slots Q (F0 m pc LS (am_sg ad fv base q :: .int i :: am_sg ad fv base pp :: st.map (am_cv (am_sg ad fv base))))
      rw [am_sg_lo hp, am_sg_lo hq]
      exact am_aastW Cx0 hH hd hw hin hr fun H1 locs1 h1 => kk _ _ _ h1 hL
    · cases h
  case newarray t =>
    cases (beq_iff_eq.mp hn); simp only [am_one] at h
    split at h
    · rename_i x st
      have key : ∀ (tt : Nat), ((t = .int ∧ tt = 0) ∨ (t = .boolean ∧ tt = 1)) → r = (0 ≤ x ∧ x ≤ 10000 ∧ cells + 1 ≤ pm_c k ∧ slots + x.toNatClampNeg ≤ pm_z k ∧ w.length < 1000, pc + 2, ls, .ref w.length :: st, w ++ [.inl (tt, x.toNatClampNeg, .inl fun _ => 0)], cells + 1, slots + x.toNatClampNeg) → W p l e R s m args below meth c H locs cells slots Q (F0 m pc LS ((.int x :: st).map (am_cv (am_sg ad fv base)))) := by
        intro tt htt hr
        subst hr
        obtain ⟨a1, a2, a3, a4, a5⟩ := hA
        refine am_newaW Cx0 hH hd htt a1 a2 (by rw [hRc]; exact a3) (by rw [hRz]; exact a4) a5 fun H1 h1 => ?_
        have kk2 : W p l e R s m args below meth c H1 locs (cells + 1) (slots + x.toNatClampNeg) Q (F0 m (pc + 2) LS (am_sg ad fv base w.length :: st.map (am_cv (am_sg ad fv base)))) := kk _ _ _ h1 hL
        rw [am_sg_lo a5] at kk2
        exact kk2
      split at h
      · exact key 0 (Or.inl ⟨rfl, rfl⟩) (Option.some.inj h).symm
      · exact key 1 (Or.inr ⟨rfl, rfl⟩) (Option.some.inj h).symm
      · cases h
    · cases h
  case anewarray i =>
    cases (beq_iff_eq.mp hn); simp only [am_one] at h
    split at h
    · rename_i hq
      split at h
      · rename_i x st
        cases h
        obtain ⟨a1, a2, a3, a4, a5⟩ := hA
        refine am_anewW Cx0 hH hd hq a1 a2 (by rw [hRc]; exact a3) (by rw [hRz]; exact a4) a5 fun H1 h1 => ?_
        have kk2 : W p l e R s m args below meth c H1 locs (cells + 1) (slots + x.toNatClampNeg) Q (F0 m (pc + 3) LS (am_sg ad fv base w.length :: st.map (am_cv (am_sg ad fv base)))) := kk _ _ _ h1 hL
        rw [am_sg_lo a5] at kk2
        exact kk2
      · cases h
    · cases h
  case new i =>
    cases (beq_iff_eq.mp hn); simp only [am_one] at h
    split at h
    · rename_i ci hq
      cases h
      obtain ⟨a3, a4, a5⟩ := hA
      refine am_newW Cx0 hH hd hq (by rw [hRc]; exact a3) (by rw [hRz]; exact a4) a5 fun H1 h1 => ?_
      have kk2 : W p l e R s m args below meth c H1 locs (cells + 1) (slots + am_N ci) Q (F0 m (pc + 3) LS (am_sg ad fv base w.length :: st.map (am_cv (am_sg ad fv base)))) := kk _ _ _ h1 hL
      rw [am_sg_lo a5] at kk2
      exact kk2
    · cases h
  case invokespecial i =>
    cases (beq_iff_eq.mp hn); simp only [am_one] at h
    split at h
    · rename_i j n hq
      split at h
      · rename_i pp st
        obtain ⟨pp, rfl⟩ : ∃ z : Nat, z = pp := ⟨pp, rfl⟩
        cases h
        have hws := rM_in (am_f2_mem hq)
        have hcat : (st.map fun v => v.category).sum ≤ 8 ∧ pp < 1000 := hA
        show W p l e R s m args below meth c H locs cells slots Q (F0 m pc LS (am_sg ad fv base pp :: st.map (am_cv (am_sg ad fv base))))
        rw [am_sg_lo hcat.2]
        exact W.objInit hx hb hown (hts _ (hws _ List.mem_cons_self)) (hts _ (hws _ (List.mem_cons_of_mem _ List.mem_cons_self))) (hts _ oi_code) rfl (by rw [hml]; exact hL.1.1) rfl hd hRf (by show 2 * 0 + _ + 12 ≤ _; rw [am_cats hsr]; omega) (kk _ _ _ hH hL)
      · cases h
    · cases h
  all_goals cases (show (none : Option (Prop × am_S)) = some r from h)
end SIMC
