/-! THE CLAIM OUT OF ONE WALK OF THE LAW'S BODY. Your part is whole_start (and what it stands on); all else here is the same for every law, but numbers. -/
def R_law : String := "SwingCityLaw"
def lw_P (b : Addr) (xs : List Int32) (args : Array Value) (s : State) : Prop := args = #[.ref b] ∧ s.IntsAt b xs ∧ xs.length ≤ 3584 ∧ (Jvm.Cond.and given_1 narrow_1).before args s = true
def lw_Q (_ : Array Value) (s : State) (o : Outcome) (t : State) : Prop := o = .returned (some (.int 1)) ∧ Framed s o t [] 600000 7302250
def lw_Z (below : List Frame) (a : Array Value) (s : State) : State → Prop := fun t => ∃ o, t.status = .running ∧ Ended t below o ∧ lw_Q a s o t
/-- the law's own end, with 1 on the stack, nothing written that was there before, its room as the claim has it -/
theorem lw_ret {p : Program} {l : Launch} {e : Env} {s : State} {m : MethodId} {below : List Frame} {meth : Method} {c : Code} {b : Nat} (hx : p.tables.exec = Jvm.exec) (hb : c.code = code) (hr : meth.sig.returnType = ret) (hlocks : meth.locks = false) {pc : Nat} {H : Heap} {ls : Array Slot} (hdg : decode code pc = .ok (.ireturn, 1)) : W p l e room_1 s m #[Value.ref b] below meth c H [] 600000 7302250 (lw_Z below #[Value.ref b] s) (F0 m pc ls [.int 1]) := by
  intro T hT X
  obtain ⟨fs, hret, hrun, hended, hW, hframe⟩ := X.leave (v := some (.int 1)) (hlocks := hlocks) (fun h => by rw [hr] at h; cases h)
  have hmeth' : T.vm.method? m = some meth := X.method'
  refine ⟨T.setFrames fs, ?_, .returned (some (.int 1)), hrun, hended, rfl, ⟨_, rfl⟩, hW, hframe⟩
  jvm_step X.here [X.here.top, hx, hb, hdg, hmeth', hr, ret, narrow_b1]
  (try refine ⟨rfl, ?_⟩); (try refine ⟨rfl, ?_⟩)
  first | (intro acts; rw [hret _ acts rfl rfl rfl]) | rw [hret _ _ rfl rfl rfl]
  exact Steps.refl _
/-- what holds at the law's entry: the machine, the code, the tables' words (any of lw_tbl by 'hts w (by decide +kernel)'), the script of L ints xs at the cell b, what the Statement gives of the start (any of its parts by flat_of_before) -/
def lw_At (p : Program) (s : State) (m : MethodId) (meth : Method) (c : Code) (b L : Nat) (xs : Nat → Int32) : Prop :=
  p.tables.exec = Jvm.exec ∧ c.code = code ∧ meth.sig.returnType = ret ∧ c.maxLocals = 4 ∧ s.vm.findClass R_law = some m.cls ∧ (∀ w ∈ lw_tbl, w.before #[Value.ref b] s = true) ∧ va_X b L xs s s.heap ∧ b < s.heap.size ∧ meth.locks = false ∧ (Jvm.Cond.and given_1 narrow_1).before #[Value.ref b] s = true
/-- the claim's walk, out of the law on worlds -/
theorem law_start (hWp : ∀ X : am_X, X.1 ≤ 3584 → Wp X (Cl X 30) 153 (fun r _ => r = some (.int 1)) (0, [some (.ref 1000), none, none, none], [], [], 0, 0)) {p : Program} {e : Env} {s : State} {m : MethodId} {below : List Frame} {meth : Method} {c : Code} (l : Launch) {b L : Nat} {xs : Nat → Int32} (hL : L ≤ 3584) (C0 : lw_At p s m meth c b L xs) : W p l e room_1 s m #[Value.ref b] below meth c s.heap [] 0 0 (lw_Z below #[Value.ref b] s) (entryFrame m ([Value.ref b] : List Value).toArray 4) := by
  obtain ⟨hx, hb, hr, hml, hown, hts, hX, hbl, hlocks, hgv⟩ := C0
  obtain ⟨D, dA, ad, fv, hG, had⟩ := st_G hL hts hX hbl hgv
  have hfv := hG.2.2.2.2.2.2.2
  have hsr := am_sg_rn (ad := ad) (base := s.heap.size) hfv
  have Cx : am_Cx p s m #[Value.ref b] meth c D dA ad fv s.heap.size (L, xs) 153 := ⟨hx, hb, hml, hown, fun w h => hts w (List.mem_filter.mp h).1, hG, Nat.le_refl _, fun h => absurd h (by decide)⟩
  have key := hWp (L, xs) hL (am_Y p l e room_1 s m #[Value.ref b] below meth c (lw_Z below #[Value.ref b] s) D dA ad fv s.heap.size 153)
    (am_closed (d := 30) Cx rfl rfl (by decide) (by decide) (fun j as w Q'' hC hj => am_met l D dA ad fv s.heap.size (L, xs) 30 j as w Q'' hC hj) ?_)
  · have hH : am_H D dA ad fv s.heap.size s [] s.heap [] := ⟨fun k q h => (by cases h), rfl, va_S.rf, Nat.zero_le _⟩
    have hent := am_entry hsr (as := [.ref 1000]) rfl (n := 4) (by decide)
    have := key s.heap [] _ hH hent
    have e0 : ([Value.ref 1000] : List Value).map (am_cv (am_sg ad fv s.heap.size)) = [.ref b] := by
      show [am_sg ad fv s.heap.size 1000] = _
      rw [am_sg_hi (by decide) (by decide), had]
    rw [e0] at this
    rw [lg_entry_eq]
    exact this
  · intro pc I st w0 r H locs LS cells slots hd hq hA hc hz hQ hH
    refine W.widen (k := 600000) (n := 7302250) hc hz ?_
    refine va_forget hH.2.2.1.2.2 ?_
    cases I
    case ireturn =>
      simp only [am_ret] at hq
      split at hq
      · cases hq
        cases hQ
        exact lw_ret hx hb hr hlocks hd
      · cases hq
    case lreturn =>
      simp only [am_ret] at hq
      split at hq
      · cases hq; cases hQ
      · cases hq
    case return_ =>
      simp only [am_ret] at hq
      split at hq
      · cases hq; cases hQ
      · cases hq
    all_goals cases (show (none : Option (Prop × Option Value)) = some r from hq)
