/-! what holds at every state: the tables' classes, what was there before -/
def am_tys (dA : Nat → ClassId) : List (ClassId × FieldType) := [(dA 0, .int), (dA 1, .boolean), (dA 2, .object "SwingCity$Now")]
def am_rs : List (Nat × String × Nat) := [(89, "sills", 10), (95, "door", 11), (97, "rope", 12), (99, "rider", 13)]
def am_zs : List (String × String × String × Value) := [("SwingCity", "KIND_MARK", "[I", .ref 1001), ("SwingCity$Reader", "NUMBERS", "[I", .ref 1002), ("SwingCity$Reader", "LEAST", "[I", .ref 1003), ("SwingCity$Reader", "MOST", "[I", .ref 1004), ("java/lang/String", "COMPACT_STRINGS", "Z", .int 1), ("jdk/internal/util/Preconditions", "SIOOBE_FORMATTER", "Ljava/util/function/BiFunction;", .ref 1020)]
def am_tt (t : Nat) : FieldType := match t with
  | 0 => .int
  | 1 => .boolean
  | _ => .byte
def am_nw (q : Nat × Nat × Nat) : Cond := .methodLinkNest (cn q.1) q.2.1 (pm_y q.2.2) "SwingCity"
def am_G (D : va_G) (dA : Nat → ClassId) (ad : Nat → Nat) (fv : Value) (base : Nat) (X : am_X) (U : State) (H : Heap) : Prop :=
  va_K D vwCl (am_tys dA) U ∧ (∀ q ∈ am_nest, va_Nw (am_nw q) U) ∧ va_AO "SwingCity$Now" U ∧ (∀ q ∈ am_rs, vk_R "SwingCity$Reader" q.1 q.2.1 (ad q.2.2) U) ∧
  (∀ q ∈ am_zs, va_Z q.1 q.2.1 q.2.2.1 (am_cv (am_sg ad fv base) q.2.2.2) (fun a => base ≤ a) U H) ∧
  (∀ (j : Nat) (q : Nat × Nat × (Nat → Int32)), (am_ro X)[j]? = some q → va_T (am_tt q.1) (ad j) q.2.1 (fun i => .int (q.2.2 i)) (fun a => base ≤ a) U H) ∧
  (∀ j, j < 4 → va_O "java/lang/String" (ad (10 + j)) (fun a => base ≤ a) U H ∧ va_OF "java/lang/String" "coder" "B" (.int 0) (ad (10 + j)) (fun a => base ≤ a) U H ∧ va_OF "java/lang/String" "value" "[B" (.ref (ad (5 + j))) (ad (10 + j)) (fun a => base ≤ a) U H) ∧
  (fv = .null ∨ ∃ a, fv = .ref a)
theorem am_G.moved {D : va_G} {dA : Nat → ClassId} {ad : Nat → Nat} {fv : Value} {base : Nat} {X : am_X} {s U : State} {H H1 : Heap} (hW : s.WarmedH U.vm) (hq : ∀ a : Nat, a < H.size → ¬ base ≤ a → H1[a]? = H[a]?) (h : am_G D dA ad fv base X s H) : am_G D dA ad fv base X U H1 := by
  obtain ⟨h1, h2, h3, h4, h5, h6, h7, h8⟩ := h
  refine ⟨va_K.moved hW.alike h1, fun q hq => va_Nw.warmM hW (h2 q hq), va_AO.moved hW.alike h3, fun q hq => vk_R.warm hW (h4 q hq), fun q hz => va_Z.moved hW.alike ((h5 q hz).kept hq), fun j q hj => va_T.moved hW.alike ((h6 j q hj).kept hq), fun j hj => ?_, h8⟩
  obtain ⟨a1, a2, a3⟩ := h7 j hj
  exact ⟨(a1.kept hq).moved hW.alike, (a2.kept hq).moved hW.alike, (a3.kept hq).moved hW.alike⟩
theorem am_G.same {D : va_G} {dA : Nat → ClassId} {ad : Nat → Nat} {fv : Value} {base : Nat} {X : am_X} {s U : State} {H : Heap} (hv : U.vm = s.vm) (h : am_G D dA ad fv base X s H) : am_G D dA ad fv base X U H := by
  have ha : s.vm.Alike U.vm := by rw [hv]; exact Vm.Alike.refl _
  obtain ⟨h1, h2, h3, h4, h5, h6, h7, h8⟩ := h
  refine ⟨va_K.moved ha h1, fun q hq => va_Nw.same rfl hv.symm (h2 q hq), va_AO.moved ha h3, fun q hq => vk_R.same hv (h4 q hq), fun q hz => va_Z.moved ha (h5 q hz), fun j q hj => va_T.moved ha (h6 j q hj), fun j hj => ?_, h8⟩
  obtain ⟨a1, a2, a3⟩ := h7 j hj
  exact ⟨a1.moved ha, a2.moved ha, a3.moved ha⟩
/-- the frame of a method: its code, its class, the words, what holds -/
def am_Cx (p : Program) (s : State) (m : MethodId) (args : Array Value) (meth : Method) (c : Code) (D : va_G) (dA : Nat → ClassId) (ad : Nat → Nat) (fv : Value) (base : Nat) (X : am_X) (k : Nat) : Prop :=
  p.tables.exec = Jvm.exec ∧ c.code = pm_b k ∧ c.maxLocals = pm_L k ∧ s.vm.findClass (cn (pm_o k)) = some m.cls ∧ (∀ w ∈ lw_good, w.before args s = true) ∧ am_G D dA ad fv base X s s.heap ∧ base ≤ s.heap.size ∧ (k ∈ am_ini → meth.name = "<init>")
def am_H (D : va_G) (dA : Nat → ClassId) (ad : Nat → Nat) (fv : Value) (base : Nat) (s : State) (w : am_W) (H : Heap) (locs : List Loc) : Prop :=
  va_P D vwCl (am_cw (am_sg ad fv base) dA base w) H ∧ H.size = base + w.length ∧ va_S (fun a => base ≤ a) s.heap H locs ∧ w.length ≤ 1000
section SIM
variable {p : Program} {l : Launch} {e : Env} {R : Room} {s : State} {m : MethodId} {args : Array Value} {below : List Frame} {meth : Method} {c : Code} {H : Heap} {locs : List Loc} {cells slots : Nat} {Q : State → Prop}
variable {D : va_G} {dA : Nat → ClassId} {ad : Nat → Nat} {fv : Value} {base : Nat} {X : am_X} {k : Nat} {LS : Array Slot}
theorem am_i2_inv {f : Int32 → Int32 → Int32} {st st' : List Value} (h : am_i2 f st = some st') : ∃ x y r, st = .int y :: .int x :: r ∧ st' = .int (f x y) :: r := by
  unfold am_i2 at h
  split at h
  · cases h; exact ⟨_, _, _, rfl, rfl⟩
  · cases h
theorem am_l2_inv {f : Int64 → Int64 → Int64} {st st' : List Value} (h : am_l2 f st = some st') : ∃ x y r, st = .long y :: .long x :: r ∧ st' = .long (f x y) :: r := by
  unfold am_l2 at h
  split at h
  · cases h; exact ⟨_, _, _, rfl, rfl⟩
  · cases h
theorem am_li_inv {f : Int64 → Int32 → Int64} {st st' : List Value} (h : am_li f st = some st') : ∃ x y r, st = .int y :: .long x :: r ∧ st' = .long (f x y) :: r := by
  unfold am_li at h
  split at h
  · cases h; exact ⟨_, _, _, rfl, rfl⟩
  · cases h
theorem am_ldI {ls : List (Option Value)} {i : Nat} {st st' : List Value} (h : ((am_ld ls i).filter am_isI).map (· :: st) = some st') : ∃ x, am_ld ls i = some (.int x) ∧ st' = .int x :: st := by
  simp only [Option.map_eq_some_iff, Option.filter_eq_some_iff] at h
  obtain ⟨v, ⟨h1, h2⟩, rfl⟩ := h
  cases v <;> first | exact ⟨_, h1, rfl⟩ | cases h2
theorem am_ldR {ls : List (Option Value)} {i : Nat} {st st' : List Value} (h : ((am_ld ls i).filter am_isR).map (· :: st) = some st') : ∃ x, am_ld ls i = some (.ref x) ∧ st' = .ref x :: st := by
  simp only [Option.map_eq_some_iff, Option.filter_eq_some_iff] at h
  obtain ⟨v, ⟨h1, h2⟩, rfl⟩ := h
  cases v <;> first | exact ⟨_, h1, rfl⟩ | cases h2
theorem am_ldL {ls : List (Option Value)} {i : Nat} {st st' : List Value} (h : ((am_ld ls i).filter am_isL).map (· :: st) = some st') : ∃ x, am_ld ls i = some (.long x) ∧ st' = .long x :: st := by
  simp only [Option.map_eq_some_iff, Option.filter_eq_some_iff] at h
  obtain ⟨v, ⟨h1, h2⟩, rfl⟩ := h
  cases v <;> first | exact ⟨_, h1, rfl⟩ | cases h2
theorem am_c1_cat {ad : Nat → Nat} {fv : Value} {base : Nat} (hf : fv = .null ∨ ∃ a, fv = .ref a) {v : Value} (h : am_c1 v = true) : (am_cv (am_sg ad fv base) v).category = 1 := by
  rw [am_cv_cat (am_sg_rn hf)]
  cases v <;> first | rfl | cases h
set_option maxHeartbeats 4000000 in
/-- an instruction that changes the stack alone -/
theorem am_stk_sim (Cx : am_Cx p s m args meth c D dA ad fv base X k) (hH : va_S (fun a => base ≤ a) s.heap H locs) {I : Instr} {n pc : Nat} {ls : List (Option Value)} {st st' : List Value} (hd : decode (pm_b k) pc = .ok (I, n)) (hn : am_lok I n = true)
    (hL : am_L (am_sg ad fv base) (pm_L k) ls LS) (h : am_stk k I ls st = some st')
    (kk : W p l e R s m args below meth c H locs cells slots Q (F0 m (pc + n) LS (st'.map (am_cv (am_sg ad fv base))))) : W p l e R s m args below meth c H locs cells slots Q (F0 m pc LS (st.map (am_cv (am_sg ad fv base)))) := by
  obtain ⟨hx, hb, hml, hown, hts, hG, hbs, -⟩ := Cx
  have hfv := hG.2.2.2.2.2.2.2
  cases I
  case iconst v => cases (beq_iff_eq.mp hn); cases h; exact lv_iconst hx hb hd rfl kk
  case bipush v => cases (beq_iff_eq.mp hn); cases h; exact lv_bipush hx hb hd rfl kk
  case sipush v => cases (beq_iff_eq.mp hn); cases h; exact lv_sipush hx hb hd rfl kk
  case lconst v => cases (beq_iff_eq.mp hn); cases h; exact lv_lconst hx hb hd rfl kk
  case ldc i =>
    cases (beq_iff_eq.mp hn)
    simp only [am_stk] at h
    split at h
    · rename_i v hv
      cases h
      have := ck_all_of rK_w _ (List.mem_map.mpr ⟨_, am_f2_mem hv, rfl⟩)
      exact lv_ldc hx hb hown (hts _ this) hd kk
    · simp only [Option.map_eq_some_iff] at h
      obtain ⟨j, hj, rfl⟩ := h
      have h1 := am_f2_mem hj
      simp only [rS, List.mem_cons, Prod.mk.injEq, List.not_mem_nil, or_false] at h1
      have hk : ∀ q ∈ am_rs, am_cv (am_sg ad fv base) (.ref (1010 + j)) = .ref (ad q.2.2) → cn (pm_o k) = "SwingCity$Reader" → i = q.1 → W p l e R s m args below meth c H locs cells slots Q (F0 m pc LS (st.map (am_cv (am_sg ad fv base)))) := by
        intro q hq e4 e2 e3
        have hr := hG.2.2.2.1 q hq
        rw [← e2] at hr
        subst e3
        refine va_ldcS hx hb hown hr hd ?_
        rw [List.map_cons, e4] at kk
        exact kk
      rcases h1 with ⟨e1, e2, rfl⟩ | ⟨e1, e2, rfl⟩ | ⟨e1, e2, rfl⟩ | ⟨e1, e2, rfl⟩
      · exact hk (89, "sills", 10) (by simp [am_rs]) rfl (by rw [e1]; rfl) e2
      · exact hk (95, "door", 11) (by simp [am_rs]) rfl (by rw [e1]; rfl) e2
      · exact hk (97, "rope", 12) (by simp [am_rs]) rfl (by rw [e1]; rfl) e2
      · exact hk (99, "rider", 13) (by simp [am_rs]) rfl (by rw [e1]; rfl) e2
  case ldc2_w i =>
    cases (beq_iff_eq.mp hn)
    simp only [am_stk, Option.map_eq_some_iff] at h
    obtain ⟨v, hv, rfl⟩ := h
    have := ck_all_of rJ_w _ (List.mem_map.mpr ⟨_, am_f2_mem hv, rfl⟩)
    exact lv_ldc2 hx hb hown (hts _ this) hd kk
  case iload_n i => cases (beq_iff_eq.mp hn); obtain ⟨x, h1, rfl⟩ := am_ldI h; exact lv_iload_n hx hb hd rfl (hL.get h1) kk
  case iload i => cases (beq_iff_eq.mp hn); obtain ⟨x, h1, rfl⟩ := am_ldI h; exact lv_iload hx hb hd (hL.get h1) kk
  case aload_n i =>
    cases (beq_iff_eq.mp hn); obtain ⟨x, h1, rfl⟩ := am_ldR h
    have h2 : LS[(i : Nat)]? = some (.val (am_sg ad fv base x)) := hL.get h1
    have kk : W p l e R s m args below meth c H locs cells slots Q (F0 m (pc + 1) LS (am_sg ad fv base x :: st.map (am_cv (am_sg ad fv base)))) := kk
    rcases am_sg_rn (ad := ad) (base := base) hfv x with hs | ⟨a, hs⟩
    · rw [hs] at h2 kk; exact lv_aload_nN hx hb hd rfl h2 kk
    · rw [hs] at h2 kk; exact lv_aload_n hx hb hd rfl h2 kk
  case aload i =>
    cases (beq_iff_eq.mp hn); obtain ⟨x, h1, rfl⟩ := am_ldR h
    have h2 : LS[(i : Nat)]? = some (.val (am_sg ad fv base x)) := hL.get h1
    have kk : W p l e R s m args below meth c H locs cells slots Q (F0 m (pc + 2) LS (am_sg ad fv base x :: st.map (am_cv (am_sg ad fv base)))) := kk
    rcases am_sg_rn (ad := ad) (base := base) hfv x with hs | ⟨a, hs⟩
    · rw [hs] at h2 kk; exact lv_aloadN hx hb hd h2 kk
    · rw [hs] at h2 kk; exact lv_aload hx hb hd h2 kk
  case lload_n i => cases (beq_iff_eq.mp hn); obtain ⟨x, h1, rfl⟩ := am_ldL h; exact lv_lload_n hx hb hd rfl (hL.get h1) kk
  case iadd => cases (beq_iff_eq.mp hn); obtain ⟨x, y, r, rfl, rfl⟩ := am_i2_inv h; exact lv_iadd hx hb hd kk
  case isub => cases (beq_iff_eq.mp hn); obtain ⟨x, y, r, rfl, rfl⟩ := am_i2_inv h; exact lv_isub hx hb hd kk
  case imul => cases (beq_iff_eq.mp hn); obtain ⟨x, y, r, rfl, rfl⟩ := am_i2_inv h; exact lv_imul hx hb hd kk
  case iand => cases (beq_iff_eq.mp hn); obtain ⟨x, y, r, rfl, rfl⟩ := am_i2_inv h; exact lv_iand hx hb hd kk
  case ior => cases (beq_iff_eq.mp hn); obtain ⟨x, y, r, rfl, rfl⟩ := am_i2_inv h; exact lv_ior hx hb hd kk
  case ixor => cases (beq_iff_eq.mp hn); obtain ⟨x, y, r, rfl, rfl⟩ := am_i2_inv h; exact lv_ixor hx hb hd kk
  case ishl => cases (beq_iff_eq.mp hn); obtain ⟨x, y, r, rfl, rfl⟩ := am_i2_inv h; exact lv_ishl hx hb hd kk
  case ishr => cases (beq_iff_eq.mp hn); obtain ⟨x, y, r, rfl, rfl⟩ := am_i2_inv h; exact lv_ishr hx hb hd kk
  case ladd => cases (beq_iff_eq.mp hn); obtain ⟨x, y, r, rfl, rfl⟩ := am_l2_inv h; exact lv_ladd hx hb hd kk
  case lmul => cases (beq_iff_eq.mp hn); obtain ⟨x, y, r, rfl, rfl⟩ := am_l2_inv h; exact lv_lmul hx hb hd kk
  case land => cases (beq_iff_eq.mp hn); obtain ⟨x, y, r, rfl, rfl⟩ := am_l2_inv h; exact lv_land hx hb hd kk
  case lor => cases (beq_iff_eq.mp hn); obtain ⟨x, y, r, rfl, rfl⟩ := am_l2_inv h; exact lv_lor hx hb hd kk
  case lshl => cases (beq_iff_eq.mp hn); obtain ⟨x, y, r, rfl, rfl⟩ := am_li_inv h; exact lv_lshl hx hb hd rfl kk
  case lshr => cases (beq_iff_eq.mp hn); obtain ⟨x, y, r, rfl, rfl⟩ := am_li_inv h; exact lv_lshr hx hb hd rfl kk
  case lushr => cases (beq_iff_eq.mp hn); obtain ⟨x, y, r, rfl, rfl⟩ := am_li_inv h; exact lv_lushr hx hb hd rfl kk
  case lcmp =>
    cases (beq_iff_eq.mp hn); simp only [am_stk] at h
    split at h
    · cases h; exact W.lcmp hx hb hd kk
    · cases h
  case i2l =>
    cases (beq_iff_eq.mp hn); simp only [am_stk] at h
    split at h
    · cases h; exact lv_i2l hx hb hd rfl kk
    · cases h
  case l2i =>
    cases (beq_iff_eq.mp hn); simp only [am_stk] at h
    split at h
    · cases h; exact lv_l2i hx hb hd rfl kk
    · cases h
  case i2c =>
    cases (beq_iff_eq.mp hn); simp only [am_stk] at h
    split at h
    · cases h; exact lv_i2c hx hb hd rfl kk
    · cases h
  case dup =>
    cases (beq_iff_eq.mp hn); simp only [am_stk] at h
    split at h
    · split at h
      · cases h; exact lv_dup hx hb hd (am_c1_cat hfv (by assumption)) kk
      · cases h
    · cases h
  case dup2 =>
    cases (beq_iff_eq.mp hn); simp only [am_stk] at h
    split at h
    · split at h
      · rename_i hc
        rw [Bool.and_eq_true] at hc
        cases h; exact lv_dup2_11 hx hb hd (am_c1_cat hfv hc.1) (am_c1_cat hfv hc.2) kk
      · cases h
    · cases h
  case pop =>
    cases (beq_iff_eq.mp hn); simp only [am_stk] at h
    split at h
    · split at h
      · cases h; exact lv_pop hx hb hd (am_c1_cat hfv (by assumption)) kk
      · cases h
    · cases h
  case getstatic i =>
    cases (beq_iff_eq.mp hn); simp only [am_stk, Option.map_eq_some_iff] at h
    obtain ⟨v, hv, rfl⟩ := h
    have h1 := am_f2_mem hv
    have hk : ∀ q ∈ am_zs, v = q.2.2.2 → Cond.fieldLink (cn (pm_o k)) i q.1 q.2.1 q.2.2.1 ∈ lw_good → W p l e R s m args below meth c H locs cells slots Q (F0 m pc LS (st.map (am_cv (am_sg ad fv base)))) := by
      intro q hq e1 hw
      have hz := hG.2.2.2.2.1 q hq
      rw [← e1] at hz
      exact va_gets hx hb hz hH hown (hts _ hw) (fun _ h => h) hd kk
    simp only [rG, List.mem_cons, Prod.mk.injEq, List.not_mem_nil, or_false] at h1
    rcases h1 with ⟨e1, rfl, e3⟩ | ⟨e1, rfl, e3⟩ | ⟨e1, rfl, e3⟩ | ⟨e1, rfl, e3⟩ | ⟨e1, rfl, e3⟩ | ⟨e1, rfl, e3⟩
    · exact hk _ (List.mem_of_getElem? (i := 0) rfl) e3 (by rw [e1]; exact gs_0)
    · exact hk _ (List.mem_of_getElem? (i := 1) rfl) e3 (by rw [e1]; exact gs_1)
    · exact hk _ (List.mem_of_getElem? (i := 2) rfl) e3 (by rw [e1]; exact gs_2)
    · exact hk _ (List.mem_of_getElem? (i := 3) rfl) e3 (by rw [e1]; exact gs_3)
    · exact hk _ (List.mem_of_getElem? (i := 4) rfl) e3 (by rw [e1]; exact gs_4)
    · exact hk _ (List.mem_of_getElem? (i := 5) rfl) e3 (by rw [e1]; exact gs_5)
  all_goals cases (show (none : Option (List Value)) = some st' from h)
end SIM
