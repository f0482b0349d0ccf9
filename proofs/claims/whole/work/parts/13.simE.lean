theorem am_ld_cons (a : Option Value) (ls : List (Option Value)) (j : Nat) : am_ld (a :: ls) (j + 1) = am_ld ls j := by
  simp [am_ld]
theorem am_ent_mem {sg : Nat → Value} (hs : ∀ p, sg p = .null ∨ ∃ a, sg p = .ref a) (n : Nat) : ∀ (as : List Value), as.all (fun v => am_isI v || am_isR v || am_isL v) = true → ∀ (o j : Nat) (v : Value), am_ld (am_ent as ++ List.replicate n none) j = some v → (o + j, am_cv sg v) ∈ lv_args o (as.map (am_cv sg))
  | [], _, o, j, v, h => by
    exfalso
    rcases am_ld_cases h with ⟨x, -, h1⟩ | ⟨x, -, h1⟩ | ⟨x, -, h1, -⟩
    all_goals
      simp only [am_ent, List.flatMap_nil, List.nil_append, List.getElem?_replicate] at h1
      split at h1 <;> cases h1
  | a :: as, hall, o, j, v, h => by
    rw [List.all_cons, Bool.and_eq_true] at hall
    obtain ⟨ha, hall⟩ := hall
    have hc : (am_cv sg a).category = a.category := am_cv_cat hs a
    cases a with
    | long x =>
      have e : am_ent (.long x :: as) ++ List.replicate n none = some (.long x) :: some (.retAddr 0) :: (am_ent as ++ List.replicate n none) := rfl
      rw [e] at h
      match j, h with
      | 0, h =>
        have : v = .long x := by
          rw [am_ld_long (i := 0) (x := x) rfl rfl] at h
          exact (Option.some.inj h).symm
        subst this
        exact List.mem_cons_self
      | 1, h =>
        exfalso
        rw [am_ld_cons] at h
        rcases am_ld_cases h with ⟨x, -, h1⟩ | ⟨x, -, h1⟩ | ⟨x, -, h1, -⟩ <;> cases h1
      | j + 2, h =>
        rw [am_ld_cons, am_ld_cons] at h
        have := am_ent_mem hs n as hall (o + 2) j v h
        rw [show o + (j + 2) = o + 2 + j by omega]
        exact List.mem_cons_of_mem _ this
    | int x =>
      have e : am_ent (.int x :: as) ++ List.replicate n none = some (.int x) :: (am_ent as ++ List.replicate n none) := rfl
      rw [e] at h
      match j, h with
      | 0, h =>
        have : v = .int x := by
          rw [am_ld_int (i := 0) (x := x) rfl] at h
          exact (Option.some.inj h).symm
        subst this
        exact List.mem_cons_self
      | j + 1, h =>
        rw [am_ld_cons] at h
        have := am_ent_mem hs n as hall (o + 1) j v h
        rw [show o + (j + 1) = o + 1 + j by omega]
        exact List.mem_cons_of_mem _ this
    | ref x =>
      have e : am_ent (.ref x :: as) ++ List.replicate n none = some (.ref x) :: (am_ent as ++ List.replicate n none) := rfl
      rw [e] at h
      match j, h with
      | 0, h =>
        have : v = .ref x := by
          rw [am_ld_ref (i := 0) (x := x) rfl] at h
          exact (Option.some.inj h).symm
        subst this
        exact List.mem_cons_self
      | j + 1, h =>
        rw [am_ld_cons] at h
        have := am_ent_mem hs n as hall (o + 1) j v h
        rw [show o + (j + 1) = o + 1 + j by omega]
        have e2 : lv_args o ((.ref x :: as).map (am_cv sg)) = (o, am_cv sg (.ref x)) :: lv_args (if (am_cv sg (.ref x)).category = 2 then o + 2 else o + 1) (as.map (am_cv sg)) := rfl
        rw [e2, hc]
        exact List.mem_cons_of_mem _ this
    | _ => cases ha
theorem am_ent_len {sg : Nat → Value} (hs : ∀ p, sg p = .null ∨ ∃ a, sg p = .ref a) : ∀ (as : List Value), as.all (fun v => am_isI v || am_isR v || am_isL v) = true → (lg_sl (as.map (am_cv sg))).length = (am_ent as).length
  | [], _ => rfl
  | a :: as, hall => by
    rw [List.all_cons, Bool.and_eq_true] at hall
    have ih := am_ent_len hs as hall.2
    have hc : (am_cv sg a).category = a.category := am_cv_cat hs a
    have e1 : lg_sl ((a :: as).map (am_cv sg)) = (if (am_cv sg a).category = 2 then [.val (am_cv sg a), .second] else [.val (am_cv sg a)]) ++ lg_sl (as.map (am_cv sg)) := rfl
    have e2 : am_ent (a :: as) = (if am_isL a then [some a, some (.retAddr 0)] else [some a]) ++ am_ent as := rfl
    rw [e1, e2, List.length_append, List.length_append, ih, hc]
    congr 1
    have h1 := hall.1
    cases a <;> first | rfl | cases h1
theorem am_entry {sg : Nat → Value} (hs : ∀ p, sg p = .null ∨ ∃ a, sg p = .ref a) {as : List Value} (hall : as.all (fun v => am_isI v || am_isR v || am_isL v) = true) {n : Nat} (hn : (am_ent as).length ≤ n) : am_L sg n (am_loc n as) ((lg_sl (as.map (am_cv sg)) ++ List.replicate (n - (lg_sl (as.map (am_cv sg))).length) Slot.unset).toArray) := by
  have h1 := lv_entry (as.map (am_cv sg)) (n := n) (by rw [am_ent_len hs as hall]; exact hn)
  refine ⟨⟨h1.1, h1.2.1, fun q hq => h1.2.2 q ?_⟩, by simp [am_loc]; omega⟩
  obtain ⟨j, v, h2, rfl⟩ := am_al_mem.mp hq
  have := am_ent_mem hs _ as hall 0 j v h2
  rwa [Nat.zero_add] at this
section SIME
variable {p : Program} {l : Launch} {e : Env} {R : Room} {s : State} {m : MethodId} {args : Array Value} {below : List Frame} {meth : Method} {c : Code} {Q : State → Prop}
variable {D : va_G} {dA : Nat → ClassId} {ad : Nat → Nat} {fv : Value} {base : Nat} {X : am_X} {k : Nat}
/-- what a point of the machine on worlds says of the machine -/
def am_Y (p : Program) (l : Launch) (e : Env) (R : Room) (s : State) (m : MethodId) (args : Array Value) (below : List Frame) (meth : Method) (c : Code) (Q : State → Prop) (D : va_G) (dA : Nat → ClassId) (ad : Nat → Nat) (fv : Value) (base k : Nat) (t : am_S) : Prop :=
  ∀ (H : Heap) (locs : List Loc) (LS : Array Slot), am_H D dA ad fv base s t.2.2.2.1 H locs → am_L (am_sg ad fv base) (pm_L k) t.2.1 LS → W p l e R s m args below meth c H locs t.2.2.2.2.1 t.2.2.2.2.2 Q (F0 m t.1 LS (t.2.2.1.map (am_cv (am_sg ad fv base))))
theorem am_closed {d : Nat} (Cx : am_Cx p s m args meth c D dA ad fv base X k) (hRc : R.cells = pm_c k) (hRz : R.slots = pm_z k) (hRf : d + 1 ≤ R.frames) (hRl : 64 * (d + 1) ≤ R.locals) {Q' : am_Q}
    (hM : ∀ j as w Q'', Cl X d j as w Q'' → j < 153 → Met l (pm_y j) (am_ws j) (am_rm d j) (am_Pc D dA ad fv base X as w) (am_Qc D dA ad fv base Q'') (pm_c j) (pm_z j) (fun q => base ≤ q))
    (hret : ∀ (pc : Nat) (I : Instr) (st : List Value) (w : am_W) (r : Prop × Option Value) (H : Heap) (locs : List Loc) (LS : Array Slot) (cells slots : Nat), decode (pm_b k) pc = .ok (I, 1) → am_ret k I st = some r → r.1 → cells ≤ pm_c k → slots ≤ pm_z k → Q' r.2 w → am_H D dA ad fv base s w H locs → W p l e R s m args below meth c H locs cells slots Q (F0 m pc LS (st.map (am_cv (am_sg ad fv base)))))
    (t : am_S) (ht : am_F X (Cl X d) k Q' (am_Y p l e R s m args below meth c Q D dA ad fv base k) t) : am_Y p l e R s m args below meth c Q D dA ad fv base k t := by
  obtain ⟨pc, ls, st, w, cc, zz⟩ := t
  intro H locs LS hH hL
  simp only at hH hL ⊢
  unfold am_F at ht
  split at ht
  · exact ht.elim
  · rename_i I n hi
    simp only at ht hi
    have hd := pm_dec hi
    have hn := pm_lok hi
    split at ht
    · rename_i r hr
      unfold am_pure at hr
      split at hr
      · rename_i st' hst
        cases hr
        exact am_stk_sim Cx hH.2.2.1 hd hn hL hst (ht.2 H locs LS hH hL)
      · exact am_one_sim Cx hRc hRz (by omega) (by omega) hH hd hn hL hr ht.1 fun H1 locs1 LS1 h1 h2 => ht.2 H1 locs1 LS1 h1 h2
    · split at ht
      · rename_i q hq
        obtain ⟨hA, hc, hz, hC⟩ := ht
        exact am_call_sim (d := d) Cx hRc hRz hRf hRl hH hd hn hL hq hA hc hz (hM _ _ _ _ hC) fun v w' H1 locs1 hY h1 => hY H1 locs1 LS h1 hL
      · split at ht
        · rename_i q hq
          obtain ⟨hA, hc, hz, hQ⟩ := ht
          have h1 : n = 1 := by
            cases I
            case ireturn => exact beq_iff_eq.mp hn
            case lreturn => exact beq_iff_eq.mp hn
            case return_ => exact beq_iff_eq.mp hn
            all_goals cases (show (none : Option (Prop × Option Value)) = some q from hq)
          subst h1
          exact hret pc I st w q H locs LS cc zz hd hq hA hc hz hQ hH
        · exact ht.elim
end SIME
set_option maxHeartbeats 4000000 in
/-- what the machine on worlds says of a call, the machine does -/
theorem am_met (l : Launch) (D : va_G) (dA : Nat → ClassId) (ad : Nat → Nat) (fv : Value) (base : Nat) (X : am_X) : ∀ (d k : Nat) (as : List Value) (w : am_W) (Q : am_Q), Cl X d k as w Q → k < 153 → Met l (pm_y k) (am_ws k) (am_rm d k) (am_Pc D dA ad fv base X as w) (am_Qc D dA ad fv base Q) (pm_c k) (pm_z k) (fun q => base ≤ q)
  | 0, _, _, _, _, h, _ => h.elim
  | d + 1, k, as, w, Q, h, hk => by
    obtain ⟨hlen, hall, hW⟩ := h
    obtain ⟨hp1, hp2, hp3, hp4, hp5⟩ := pm_pl (show k < 154 by omega)
    refine am_ofW hp5 rfl fun p e s m args below meth c s₁ B hml hv => ?_
    obtain ⟨hargs, hP, hsz, hG, hwl⟩ := hv
    have hts : ∀ w0 ∈ lw_good, w0.before args s = true := fun w0 h0 => atoms_spec (ws := am_ws k) B.pre w0 (List.mem_cons_of_mem _ h0)
    have hown : s.vm.findClass (cn (pm_o k)) = some m.cls := by rw [← hp3]; exact findClass_of_methodNamed B.named
    have hfv := hG.2.2.2.2.2.2.2
    have hsr := am_sg_rn (ad := ad) (base := base) hfv
    have Cx : am_Cx p s m args meth c D dA ad fv base X k := ⟨B.exec, B.bytes, hml, hown, hts, hG, by rw [hsz]; exact Nat.le_add_right _ _, fun hi => by
      rw [(name_of_methodNamed B.named B.method).1]
      simpa using List.all_eq_true.mp am_ini_ok k hi⟩
    have hlocks := B.notSynchronized
    have hr := B.returns
    have key := hW (am_Y p l e (am_rm (d + 1) k) s m args below meth c (MQ below (am_Qc D dA ad fv base Q) args s (pm_c k) (pm_z k) (fun q => base ≤ q)) D dA ad fv base k)
      (am_closed (d := d) Cx rfl rfl (Nat.le_refl _) (Nat.le_refl _) (fun j as w Q'' hC hj => am_met l D dA ad fv base X d j as w Q'' hC hj) ?_)
    · have hH : am_H D dA ad fv base s w s.heap [] := ⟨hP, hsz, va_S.rf, hwl⟩
      have := key s.heap [] _ hH (am_entry hsr hall hlen)
      rw [hargs, lg_entry_eq]
      rw [hargs] at this
      exact this
    · intro pc I st w0 r H locs LS cells slots hd hq hA hc hz hQ hH
      refine W.widen (k := pm_c k) (n := pm_z k) hc hz ?_
      have hpost : ∀ t : State, t.heap = H → s.WarmedH t.vm → am_Qc D dA ad fv base Q args s (.returned (r.2.map (am_cv (am_sg ad fv base)))) t := fun t ht hWm =>
        ⟨⟨r.2, w0, rfl, hQ, by rw [ht]; exact hH.1, by rw [ht]; exact hH.2.1, hH.2.2.2⟩, hH.2.2.1.F ht⟩
      cases I
      case ireturn =>
        simp only [am_ret] at hq
        split at hq
        · rename_i x
          cases hq
          unfold am_rfit at hA
          split at hA
          · exact W.zret B.exec B.bytes (by rw [hr]; assumption) rfl hpost hH.2.2.1.2.2 hd
          · exact W.zret B.exec B.bytes (by rw [hr]; assumption) (by rcases hA with rfl | rfl <;> rfl) hpost hH.2.2.1.2.2 hd
          · exact W.zret B.exec B.bytes (by rw [hr]; assumption) hA hpost hH.2.2.1.2.2 hd
          · exact W.zret B.exec B.bytes (by rw [hr]; assumption) (by have : x = 0 := hA; subst this; rfl) hpost hH.2.2.1.2.2 hd
          · exact hA.elim
        · cases hq
      case lreturn =>
        simp only [am_ret] at hq
        split at hq
        · cases hq
          exact W.lret B.exec B.bytes (by rw [hr]; exact hA) hpost hH.2.2.1.2.2 hd
        · cases hq
      case return_ =>
        simp only [am_ret] at hq
        split at hq
        · cases hq
          exact W.vret B.exec B.bytes (by rw [hr]; exact hA) hpost hH.2.2.1.2.2 hd
        · cases hq
      all_goals cases (show (none : Option (Prop × Option Value)) = some r from hq)
