/-! one step of the machine on worlds, as an equation -/
def OpV (o : Option Value) (K : Value → Prop) : Prop := match o with
  | some v => K v
  | none => False
def OpN (o : Option Nat) (K : Nat → Prop) : Prop := match o with
  | some v => K v
  | none => False
def OpA (o : Option (Nat × Nat × (Nat → Int32))) (K : Nat → Nat → (Nat → Int32) → Prop) : Prop := match o with
  | some (t, n, f) => K t n f
  | none => False
def OpR (o : Option (Nat × (Nat → Option Nat))) (K : Nat → (Nat → Option Nat) → Prop) : Prop := match o with
  | some (n, f) => K n f
  | none => False
theorem OpV_some (v : Value) (K : Value → Prop) : OpV (some v) K = K v := rfl
theorem OpN_some (v : Nat) (K : Nat → Prop) : OpN (some v) K = K v := rfl
theorem OpA_some (t n : Nat) (f : Nat → Int32) (K : Nat → Nat → (Nat → Int32) → Prop) : OpA (some (t, n, f)) K = K t n f := rfl
theorem OpR_some (n : Nat) (f : Nat → Option Nat) (K : Nat → (Nat → Option Nat) → Prop) : OpR (some (n, f)) K = K n f := rfl
section GEN
variable {X : am_X} {d k : Nat} {Q : am_Q} {pc pc' : Nat} {ls : List (Option Value)} {st : List Value} {w : am_W} {c z : Nat}
theorem g_stk {I : Instr} {n : Nat} {st' : List Value} (hi : pm_i k pc = some (I, n)) (h : am_stk k I ls st = some st') (hp : pc + n = pc') : Wp X (Cl X d) k Q (pc, ls, st, w, c, z) = Wp X (Cl X d) k Q (pc', ls, st', w, c, z) := by
  subst hp
  rw [Wp_eq (Cl_mono X d)]
  simp only [am_F, hi, am_pure, h, true_and]
theorem g_one {I : Instr} {n : Nat} {A : Prop} {s' : am_S} (hi : pm_i k pc = some (I, n)) (h1 : am_stk k I ls st = none) (h : am_one X k I n pc ls st w c z = some (A, s')) : Wp X (Cl X d) k Q (pc, ls, st, w, c, z) = (A ∧ Wp X (Cl X d) k Q s') := by
  rw [Wp_eq (Cl_mono X d)]
  simp only [am_F, hi, am_pure, h1, h]
theorem g_oneT {I : Instr} {n : Nat} {s' : am_S} (hi : pm_i k pc = some (I, n)) (h1 : am_stk k I ls st = none) (h : am_one X k I n pc ls st w c z = some (True, s')) : Wp X (Cl X d) k Q (pc, ls, st, w, c, z) = Wp X (Cl X d) k Q s' := by
  rw [g_one hi h1 h, true_and]
theorem g_if {cd : Jvm.ClassFile.Cond} {off : Int} {x : Int32} {t : Nat} (hi : pm_i k pc = some (.ifCond cd off, 3)) (ht : am_to pc off = some t) (hp : pc + 3 = pc') : Wp X (Cl X d) k Q (pc, ls, .int x :: st, w, c, z) = if am_cz cd x = true then Wp X (Cl X d) k Q (t, ls, st, w, c, z) else Wp X (Cl X d) k Q (pc', ls, st, w, c, z) := by
  subst hp
  rw [g_oneT hi rfl (s' := ((if am_cz cd x then t else pc + 3), ls, st, w, c, z)) (by simp only [am_one, ht, Option.map_some])]
  split <;> rfl
theorem g_ic {cd : Jvm.ClassFile.Cond} {off : Int} {x y : Int32} {t : Nat} (hi : pm_i k pc = some (.if_icmp cd off, 3)) (ht : am_to pc off = some t) (hp : pc + 3 = pc') : Wp X (Cl X d) k Q (pc, ls, .int y :: .int x :: st, w, c, z) = if am_cc cd x y = true then Wp X (Cl X d) k Q (t, ls, st, w, c, z) else Wp X (Cl X d) k Q (pc', ls, st, w, c, z) := by
  subst hp
  rw [g_oneT hi rfl (s' := ((if am_cc cd x y then t else pc + 3), ls, st, w, c, z)) (by simp only [am_one, ht, Option.map_some])]
  split <;> rfl
theorem ite_dec {P : Prop} [Decidable P] {α : Type} (a b : α) : (if decide P = true then a else b) = if P then a else b := by
  by_cases h : P <;> simp [h]
theorem ite_decP {P : Prop} [Decidable P] (a b : Prop) : (if decide P = true then a else b) = if P then a else b := by
  by_cases h : P <;> simp [h]
theorem g_if_eq {off : Int} {x : Int32} {t : Nat} (hi : pm_i k pc = some (.ifCond .eq off, 3)) (ht : am_to pc off = some t) (hp : pc + 3 = pc') : Wp X (Cl X d) k Q (pc, ls, .int x :: st, w, c, z) = if x = 0 then Wp X (Cl X d) k Q (t, ls, st, w, c, z) else Wp X (Cl X d) k Q (pc', ls, st, w, c, z) := (g_if hi ht hp).trans (ite_decP _ _)
theorem g_if_ne {off : Int} {x : Int32} {t : Nat} (hi : pm_i k pc = some (.ifCond .ne off, 3)) (ht : am_to pc off = some t) (hp : pc + 3 = pc') : Wp X (Cl X d) k Q (pc, ls, .int x :: st, w, c, z) = if x = 0 then Wp X (Cl X d) k Q (pc', ls, st, w, c, z) else Wp X (Cl X d) k Q (t, ls, st, w, c, z) := ((g_if hi ht hp).trans (ite_decP _ _)).trans (by by_cases h : x = 0 <;> simp [h])
theorem g_if_lt {off : Int} {x : Int32} {t : Nat} (hi : pm_i k pc = some (.ifCond .lt off, 3)) (ht : am_to pc off = some t) (hp : pc + 3 = pc') : Wp X (Cl X d) k Q (pc, ls, .int x :: st, w, c, z) = if x < 0 then Wp X (Cl X d) k Q (t, ls, st, w, c, z) else Wp X (Cl X d) k Q (pc', ls, st, w, c, z) := (g_if hi ht hp).trans (ite_decP _ _)
theorem i32_nle {x y : Int32} : (¬ x ≤ y) = (y < x) := by
  rw [Int32.le_iff_toInt_le, Int32.lt_iff_toInt_lt, Int.not_le]
theorem i32_nlt {x y : Int32} : (¬ x < y) = (y ≤ x) := by
  rw [Int32.le_iff_toInt_le, Int32.lt_iff_toInt_lt, Int.not_lt]
theorem ite_le {x y : Int32} (a b : Prop) : (if y ≤ x then a else b) = if x < y then b else a := by
  by_cases h : x < y
  · rw [if_pos h, if_neg (by rw [i32_nle]; exact h)]
  · rw [if_neg h, if_pos (by rw [← i32_nlt]; exact h)]
theorem g_if_ge {off : Int} {x : Int32} {t : Nat} (hi : pm_i k pc = some (.ifCond .ge off, 3)) (ht : am_to pc off = some t) (hp : pc + 3 = pc') : Wp X (Cl X d) k Q (pc, ls, .int x :: st, w, c, z) = if x < 0 then Wp X (Cl X d) k Q (pc', ls, st, w, c, z) else Wp X (Cl X d) k Q (t, ls, st, w, c, z) := ((g_if hi ht hp).trans (ite_decP _ _)).trans (ite_le _ _)
theorem g_if_gt {off : Int} {x : Int32} {t : Nat} (hi : pm_i k pc = some (.ifCond .gt off, 3)) (ht : am_to pc off = some t) (hp : pc + 3 = pc') : Wp X (Cl X d) k Q (pc, ls, .int x :: st, w, c, z) = if 0 < x then Wp X (Cl X d) k Q (t, ls, st, w, c, z) else Wp X (Cl X d) k Q (pc', ls, st, w, c, z) := (g_if hi ht hp).trans (ite_decP _ _)
theorem g_if_le {off : Int} {x : Int32} {t : Nat} (hi : pm_i k pc = some (.ifCond .le off, 3)) (ht : am_to pc off = some t) (hp : pc + 3 = pc') : Wp X (Cl X d) k Q (pc, ls, .int x :: st, w, c, z) = if 0 < x then Wp X (Cl X d) k Q (pc', ls, st, w, c, z) else Wp X (Cl X d) k Q (t, ls, st, w, c, z) := ((g_if hi ht hp).trans (ite_decP _ _)).trans (ite_le _ _)
theorem g_ic_eq {off : Int} {x y : Int32} {t : Nat} (hi : pm_i k pc = some (.if_icmp .eq off, 3)) (ht : am_to pc off = some t) (hp : pc + 3 = pc') : Wp X (Cl X d) k Q (pc, ls, .int y :: .int x :: st, w, c, z) = if x = y then Wp X (Cl X d) k Q (t, ls, st, w, c, z) else Wp X (Cl X d) k Q (pc', ls, st, w, c, z) := (g_ic hi ht hp).trans (ite_decP _ _)
theorem g_ic_ne {off : Int} {x y : Int32} {t : Nat} (hi : pm_i k pc = some (.if_icmp .ne off, 3)) (ht : am_to pc off = some t) (hp : pc + 3 = pc') : Wp X (Cl X d) k Q (pc, ls, .int y :: .int x :: st, w, c, z) = if x = y then Wp X (Cl X d) k Q (pc', ls, st, w, c, z) else Wp X (Cl X d) k Q (t, ls, st, w, c, z) := ((g_ic hi ht hp).trans (ite_decP _ _)).trans (by by_cases h : x = y <;> simp [h])
theorem g_ic_lt {off : Int} {x y : Int32} {t : Nat} (hi : pm_i k pc = some (.if_icmp .lt off, 3)) (ht : am_to pc off = some t) (hp : pc + 3 = pc') : Wp X (Cl X d) k Q (pc, ls, .int y :: .int x :: st, w, c, z) = if x < y then Wp X (Cl X d) k Q (t, ls, st, w, c, z) else Wp X (Cl X d) k Q (pc', ls, st, w, c, z) := (g_ic hi ht hp).trans (ite_decP _ _)
theorem g_ic_ge {off : Int} {x y : Int32} {t : Nat} (hi : pm_i k pc = some (.if_icmp .ge off, 3)) (ht : am_to pc off = some t) (hp : pc + 3 = pc') : Wp X (Cl X d) k Q (pc, ls, .int y :: .int x :: st, w, c, z) = if x < y then Wp X (Cl X d) k Q (pc', ls, st, w, c, z) else Wp X (Cl X d) k Q (t, ls, st, w, c, z) := ((g_ic hi ht hp).trans (ite_decP _ _)).trans (ite_le _ _)
theorem g_ic_gt {off : Int} {x y : Int32} {t : Nat} (hi : pm_i k pc = some (.if_icmp .gt off, 3)) (ht : am_to pc off = some t) (hp : pc + 3 = pc') : Wp X (Cl X d) k Q (pc, ls, .int y :: .int x :: st, w, c, z) = if y < x then Wp X (Cl X d) k Q (t, ls, st, w, c, z) else Wp X (Cl X d) k Q (pc', ls, st, w, c, z) := (g_ic hi ht hp).trans (ite_decP _ _)
theorem g_ic_le {off : Int} {x y : Int32} {t : Nat} (hi : pm_i k pc = some (.if_icmp .le off, 3)) (ht : am_to pc off = some t) (hp : pc + 3 = pc') : Wp X (Cl X d) k Q (pc, ls, .int y :: .int x :: st, w, c, z) = if y < x then Wp X (Cl X d) k Q (pc', ls, st, w, c, z) else Wp X (Cl X d) k Q (t, ls, st, w, c, z) := ((g_ic hi ht hp).trans (ite_decP _ _)).trans (ite_le _ _)
theorem g_div {x y : Int32} (hi : pm_i k pc = some (.idiv, 1)) (hp : pc + 1 = pc') : Wp X (Cl X d) k Q (pc, ls, .int y :: .int x :: st, w, c, z) = (¬ y = 0 ∧ Wp X (Cl X d) k Q (pc', ls, .int (x / y) :: st, w, c, z)) := by subst hp; exact g_one hi rfl rfl
theorem g_rem {x y : Int32} (hi : pm_i k pc = some (.irem, 1)) (hp : pc + 1 = pc') : Wp X (Cl X d) k Q (pc, ls, .int y :: .int x :: st, w, c, z) = (¬ y = 0 ∧ Wp X (Cl X d) k Q (pc', ls, .int (x % y) :: st, w, c, z)) := by subst hp; exact g_one hi rfl rfl
theorem g_tsw {x : Int32} {dflt lo hi : Int} {offs : Array Int} {n : Nat} (h : pm_i k pc = some (.tableswitch dflt lo hi offs, n)) : Wp X (Cl X d) k Q (pc, ls, .int x :: st, w, c, z) = OpN (am_tsw pc dflt lo hi offs x.toInt) (fun t => Wp X (Cl X d) k Q (t, ls, st, w, c, z)) := by
  rw [Wp_eq (Cl_mono X d)]
  cases ht : am_tsw pc dflt lo hi offs x.toInt with
  | none => simp only [am_F, h, am_pure, am_stk, am_one, ht, Option.map_none, am_call, am_ret, OpN]
  | some t => simp only [am_F, h, am_pure, am_stk, am_one, ht, Option.map_some, true_and, OpN]
theorem g_getf {i ci f p : Nat} (hi : pm_i k pc = some (.getfield i, 3)) (hr : am_f2 rF (pm_o k) i = some (ci, f)) (hp : pc + 3 = pc') : Wp X (Cl X d) k Q (pc, ls, .ref p :: st, w, c, z) = OpV (am_fld w p ci f) (fun v => p < 1000 ∧ Wp X (Cl X d) k Q (pc', ls, v :: st, w, c, z)) := by
  subst hp
  rw [Wp_eq (Cl_mono X d)]
  cases hf : am_fld w p ci f with
  | none => simp only [am_F, hi, am_pure, am_stk, am_one, hr, hf, Option.map_none, am_call, am_ret, OpV]
  | some v => simp only [am_F, hi, am_pure, am_stk, am_one, hr, hf, Option.map_some, OpV]
theorem g_putf {i ci f p : Nat} {v : Value} {A : Prop} (hi : pm_i k pc = some (.putfield i, 3)) (hr : am_f2 rF (pm_o k) i = some (ci, f)) (hfin : am_fin k ci f = true) (hA : am_fit (am_ty ci f) v = A) (hp : pc + 3 = pc') : Wp X (Cl X d) k Q (pc, ls, v :: .ref p :: st, w, c, z) = OpV (am_fld w p ci f) (fun _ => p < 1000 ∧ A ∧ Wp X (Cl X d) k Q (pc', ls, st, am_put w p f v, c, z)) := by
  subst hp; subst hA
  rw [Wp_eq (Cl_mono X d)]
  cases hf : am_fld w p ci f with
  | none => simp only [am_F, hi, am_pure, am_stk, am_one, hr, hf, Option.map_none, am_call, am_ret, OpV]
  | some v0 => simp only [am_F, hi, am_pure, am_stk, am_one, hr, hf, Option.map_some, hfin, true_and, and_assoc, OpV]
theorem g_putT {i ci f p : Nat} {v : Value} (hi : pm_i k pc = some (.putfield i, 3)) (hr : am_f2 rF (pm_o k) i = some (ci, f)) (hfin : am_fin k ci f = true) (hA : am_fit (am_ty ci f) v = True) (hp : pc + 3 = pc') : Wp X (Cl X d) k Q (pc, ls, v :: .ref p :: st, w, c, z) = OpV (am_fld w p ci f) (fun _ => p < 1000 ∧ Wp X (Cl X d) k Q (pc', ls, st, am_put w p f v, c, z)) := by
  rw [g_putf hi hr hfin hA hp]; simp only [true_and]
theorem g_getT {i f p : Nat} {v : Value} (hi : pm_i k pc = some (.getfield i, 3)) (hr : am_f2 rF (pm_o k) i = none) (hr2 : am_f2 rT (pm_o k) i = some f) (hv : (if f = 0 then Value.ref (p - 5) else .int 0) = v) (hp : pc + 3 = pc') : Wp X (Cl X d) k Q (pc, ls, .ref p :: st, w, c, z) = ((1010 ≤ p ∧ p < 1014) ∧ Wp X (Cl X d) k Q (pc', ls, v :: st, w, c, z)) := by
  subst hp; subst hv
  exact g_one hi rfl (by simp only [am_one, hr, hr2])
theorem g_alen {p : Nat} (hi : pm_i k pc = some (.arraylength, 1)) (hp : pc + 1 = pc') : Wp X (Cl X d) k Q (pc, ls, .ref p :: st, w, c, z) = OpA (am_arr X w p) (fun t n _ => (t = 0 ∨ t = 1 ∨ 1000 ≤ p) ∧ Wp X (Cl X d) k Q (pc', ls, .int (nI n) :: st, w, c, z)) := by
  subst hp
  rw [Wp_eq (Cl_mono X d)]
  cases hf : am_arr X w p with
  | none => simp only [am_F, hi, am_pure, am_stk, am_one, hf, Option.map_none, am_call, am_ret, OpA]
  | some a => simp only [am_F, hi, am_pure, am_stk, am_one, hf, Option.map_some, OpA]
theorem g_iald {p : Nat} {i : Int32} (hi : pm_i k pc = some (.iaload, 1)) (hp : pc + 1 = pc') : Wp X (Cl X d) k Q (pc, ls, .int i :: .ref p :: st, w, c, z) = OpA (am_arr X w p) (fun t n f => (t = 0 ∧ vp_in i n) ∧ Wp X (Cl X d) k Q (pc', ls, .int (f i.toNatClampNeg) :: st, w, c, z)) := by
  subst hp
  rw [Wp_eq (Cl_mono X d)]
  cases hf : am_arr X w p with
  | none => simp only [am_F, hi, am_pure, am_stk, am_one, hf, Option.map_none, am_call, am_ret, OpA]
  | some a => simp only [am_F, hi, am_pure, am_stk, am_one, hf, Option.map_some, OpA]
theorem g_bald {p : Nat} {i : Int32} (hi : pm_i k pc = some (.baload, 1)) (hp : pc + 1 = pc') : Wp X (Cl X d) k Q (pc, ls, .int i :: .ref p :: st, w, c, z) = OpA (am_arr X w p) (fun t n f => ((t = 1 ∨ (t = 3 ∧ 1000 ≤ p)) ∧ vp_in i n) ∧ Wp X (Cl X d) k Q (pc', ls, .int (f i.toNatClampNeg) :: st, w, c, z)) := by
  subst hp
  rw [Wp_eq (Cl_mono X d)]
  cases hf : am_arr X w p with
  | none => simp only [am_F, hi, am_pure, am_stk, am_one, hf, Option.map_none, am_call, am_ret, OpA]
  | some a => simp only [am_F, hi, am_pure, am_stk, am_one, hf, Option.map_some, OpA]
theorem g_iast {p : Nat} {i x : Int32} (hi : pm_i k pc = some (.iastore, 1)) (hp : pc + 1 = pc') : Wp X (Cl X d) k Q (pc, ls, .int x :: .int i :: .ref p :: st, w, c, z) = OpA (am_arr X w p) (fun t n _ => (p < 1000 ∧ t = 0 ∧ vp_in i n) ∧ Wp X (Cl X d) k Q (pc', ls, st, am_ast w p i.toNatClampNeg x, c, z)) := by
  subst hp
  rw [Wp_eq (Cl_mono X d)]
  cases hf : am_arr X w p with
  | none => simp only [am_F, hi, am_pure, am_stk, am_one, hf, Option.map_none, am_call, am_ret, OpA]
  | some a => simp only [am_F, hi, am_pure, am_stk, am_one, hf, Option.map_some, OpA]
theorem g_bast {p : Nat} {i x : Int32} (hi : pm_i k pc = some (.bastore, 1)) (hp : pc + 1 = pc') : Wp X (Cl X d) k Q (pc, ls, .int x :: .int i :: .ref p :: st, w, c, z) = OpA (am_arr X w p) (fun t n _ => (p < 1000 ∧ t = 1 ∧ vp_in i n ∧ (x = 0 ∨ x = 1)) ∧ Wp X (Cl X d) k Q (pc', ls, st, am_ast w p i.toNatClampNeg x, c, z)) := by
  subst hp
  rw [Wp_eq (Cl_mono X d)]
  cases hf : am_arr X w p with
  | none => simp only [am_F, hi, am_pure, am_stk, am_one, hf, Option.map_none, am_call, am_ret, OpA]
  | some a => simp only [am_F, hi, am_pure, am_stk, am_one, hf, Option.map_some, OpA]
theorem g_aald {p : Nat} {i : Int32} (hi : pm_i k pc = some (.aaload, 1)) (hp : pc + 1 = pc') : Wp X (Cl X d) k Q (pc, ls, .int i :: .ref p :: st, w, c, z) = OpR (am_refs w p) (fun n f => OpN (f i.toNatClampNeg) (fun q => (p < 1000 ∧ vp_in i n ∧ q < 1000) ∧ Wp X (Cl X d) k Q (pc', ls, .ref q :: st, w, c, z))) := by
  subst hp
  rw [Wp_eq (Cl_mono X d)]
  cases hf : am_refs w p with
  | none => simp only [am_F, hi, am_pure, am_stk, am_one, hf, am_call, am_ret, OpR]
  | some a =>
    cases hg : a.2 i.toNatClampNeg with
    | none => simp only [am_F, hi, am_pure, am_stk, am_one, hf, hg, Option.map_none, am_call, am_ret, OpR, OpN]
    | some q => simp only [am_F, hi, am_pure, am_stk, am_one, hf, hg, Option.map_some, OpR, OpN]
theorem g_aast {p q : Nat} {i : Int32} (hi : pm_i k pc = some (.aastore, 1)) (hp : pc + 1 = pc') : Wp X (Cl X d) k Q (pc, ls, .ref q :: .int i :: .ref p :: st, w, c, z) = OpR (am_refs w p) (fun n _ => (p < 1000 ∧ q < 1000 ∧ am_cls w q = some 0 ∧ vp_in i n) ∧ Wp X (Cl X d) k Q (pc', ls, st, am_rst w p i.toNatClampNeg q, c, z)) := by
  subst hp
  rw [Wp_eq (Cl_mono X d)]
  cases hf : am_refs w p with
  | none => simp only [am_F, hi, am_pure, am_stk, am_one, hf, Option.map_none, am_call, am_ret, OpR]
  | some a => simp only [am_F, hi, am_pure, am_stk, am_one, hf, Option.map_some, OpR]
theorem g_call {I : Instr} {j : Nat} {A : Prop} {as rest : List Value} {c' z' : Nat} (hi : pm_i k pc = some (I, 3)) (h1 : am_pure X k I 3 pc ls st w c z = none) (h : am_call k I st w = some (A, j, as, rest)) (hp : pc + 3 = pc') (hc : c + pm_c j = c') (hz : z + pm_z j = z') (hc1 : c' ≤ pm_c k) (hz1 : z' ≤ pm_z k) :
    Wp X (Cl X d) k Q (pc, ls, st, w, c, z) = (A ∧ Cl X d j as w (fun r w' => Wp X (Cl X d) k Q (pc', ls, r.toList ++ rest, w', c', z'))) := by
  subst hp; subst hc; subst hz
  rw [Wp_eq (Cl_mono X d)]
  simp only [am_F, hi, h1, h, hc1, hz1, true_and]
theorem own_if {p ci o : Nat} {w : am_W} (h : o = ci) (hci : ¬ ci = 10) : (if p < 1000 then am_cls w p = some o else p < 1014 ∧ 1010 ≤ p ∧ o = 10) = (p < 1000 ∧ am_cls w p = some ci) := by
  subst h
  by_cases hp : p < 1000 <;> simp [hp, hci]
/-- a call of a method of an object of the world; nothing is made -/
theorem g_callV {i j n ci p : Nat} {as rest : List Value} (hi : pm_i k pc = some (.invokevirtual i, 3)) (hr : am_f2 rM (pm_o k) i = some (0, j, n)) (hd : st.drop n = .ref p :: rest) (has : (st.take n).reverse = as) (ho : pm_o j = ci) (hci : ¬ ci = 10) (hcat : (rest.map fun v => v.category).sum ≤ 8) (hc : pm_c j = 0) (hz : pm_z j = 0) (hp : pc + 3 = pc') :
    Wp X (Cl X d) k Q (pc, ls, st, w, 0, 0) = ((p < 1000 ∧ am_cls w p = some ci) ∧ Cl X d j (.ref p :: as) w (fun r w' => Wp X (Cl X d) k Q (pc', ls, r.toList ++ rest, w', 0, 0))) := by
  subst has
  rw [g_call (I := .invokevirtual i) (j := j) (as := .ref p :: (st.take n).reverse) (rest := rest) (A := (if p < 1000 then am_cls w p = some (pm_o j) else p < 1014 ∧ 1010 ≤ p ∧ pm_o j = 10) ∧ (rest.map fun v => v.category).sum ≤ 8) (c' := 0) (z' := 0) hi rfl (by simp only [am_call, hr, hd]) hp (by rw [hc]) (by rw [hz]) (Nat.zero_le _) (Nat.zero_le _), own_if ho hci]
  simp only [hcat, and_true]
theorem g_callT {i j n p : Nat} {as rest : List Value} (hi : pm_i k pc = some (.invokevirtual i, 3)) (hr : am_f2 rM (pm_o k) i = some (0, j, n)) (hd : st.drop n = .ref p :: rest) (has : (st.take n).reverse = as) (ho : pm_o j = 10) (hcat : (rest.map fun v => v.category).sum ≤ 8) (hc : pm_c j = 0) (hz : pm_z j = 0) (hp : pc + 3 = pc') :
    Wp X (Cl X d) k Q (pc, ls, st, w, 0, 0) = ((if p < 1000 then am_cls w p = some 10 else p < 1014 ∧ 1010 ≤ p) ∧ Cl X d j (.ref p :: as) w (fun r w' => Wp X (Cl X d) k Q (pc', ls, r.toList ++ rest, w', 0, 0))) := by
  subst has
  rw [g_call (I := .invokevirtual i) (j := j) (as := .ref p :: (st.take n).reverse) (rest := rest) (A := (if p < 1000 then am_cls w p = some (pm_o j) else p < 1014 ∧ 1010 ≤ p ∧ pm_o j = 10) ∧ (rest.map fun v => v.category).sum ≤ 8) (c' := 0) (z' := 0) hi rfl (by simp only [am_call, hr, hd]) hp (by rw [hc]) (by rw [hz]) (Nat.zero_le _) (Nat.zero_le _)]
  simp only [hcat, and_true, ho]
theorem g_callS {i j n : Nat} {as rest : List Value} (hi : pm_i k pc = some (.invokestatic i, 3)) (hr : am_f2 rM (pm_o k) i = some (1, j, n)) (hl : (st.take n).length = n) (hd : st.drop n = rest) (has : (st.take n).reverse = as) (hcat : (rest.map fun v => v.category).sum ≤ 8) (hc : pm_c j = 0) (hz : pm_z j = 0) (hp : pc + 3 = pc') :
    Wp X (Cl X d) k Q (pc, ls, st, w, c, z) = (c ≤ pm_c k ∧ z ≤ pm_z k ∧ Cl X d j as w (fun r w' => Wp X (Cl X d) k Q (pc', ls, r.toList ++ rest, w', c, z))) := by
  subst has; subst hd; subst hp
  rw [Wp_eq (Cl_mono X d)]
  have h1 : am_pure X k (.invokestatic i) 3 pc ls st w c z = none := rfl
  simp only [am_F, hi, h1, am_call, hr, hl, if_true, hcat, true_and, hc, hz, Nat.add_zero]
theorem g_callI {i j n t p bc bz : Nat} {as rest : List Value} (hi : pm_i k pc = some (.invokespecial i, 3)) (hr : am_f2 rM (pm_o k) i = some (t, j, n)) (ht : t = 2 ∨ t = 3) (hd : st.drop n = .ref p :: rest) (has : (st.take n).reverse = as) (hcat : (rest.map fun v => v.category).sum ≤ 8) (hbc : pm_c j = bc) (hbz : pm_z j = bz) (hp : pc + 3 = pc') :
    Wp X (Cl X d) k Q (pc, ls, st, w, c, z) = (p < 1000 ∧ c + bc ≤ pm_c k ∧ z + bz ≤ pm_z k ∧ Cl X d j (.ref p :: as) w (fun r w' => Wp X (Cl X d) k Q (pc', ls, r.toList ++ rest, w', c + bc, z + bz))) := by
  subst has; subst hp; subst hbc; subst hbz
  rw [Wp_eq (Cl_mono X d)]
  have h1 : am_pure X k (.invokespecial i) 3 pc ls st w c z = none := by
    simp only [am_pure, am_stk, am_one, hr]
    rcases ht with rfl | rfl <;> rfl
  rcases ht with rfl | rfl
  · simp only [am_F, hi, h1, am_call, hr, hd, hcat, and_true]
  · simp only [am_F, hi, h1, am_call, hr, hd, hcat, and_true]
theorem g_ret {I : Instr} {n : Nat} {A : Prop} {v : Option Value} (hi : pm_i k pc = some (I, n)) (h1 : am_pure X k I n pc ls st w c z = none) (h2 : am_call k I st w = none) (h : am_ret k I st = some (A, v)) : Wp X (Cl X d) k Q (pc, ls, st, w, c, z) = (A ∧ c ≤ pm_c k ∧ z ≤ pm_z k ∧ Q v w) := by
  rw [Wp_eq (Cl_mono X d)]
  simp only [am_F, hi, h1, h2, h]
theorem g_retT {I : Instr} {n : Nat} {v : Option Value} (hi : pm_i k pc = some (I, n)) (h1 : am_pure X k I n pc ls st w 0 0 = none) (h2 : am_call k I st w = none) (h : am_ret k I st = some (True, v)) : Wp X (Cl X d) k Q (pc, ls, st, w, 0, 0) = Q v w := by
  rw [g_ret hi h1 h2 h]
  simp only [Nat.zero_le, true_and]
theorem g_retB {I : Instr} {n : Nat} {A : Prop} {v : Option Value} (hi : pm_i k pc = some (I, n)) (h1 : am_pure X k I n pc ls st w 0 0 = none) (h2 : am_call k I st w = none) (h : am_ret k I st = some (A, v)) : Wp X (Cl X d) k Q (pc, ls, st, w, 0, 0) = (A ∧ Q v w) := by
  rw [g_ret hi h1 h2 h]
  simp only [Nat.zero_le, true_and]
theorem g_in {as : List Value} {n : Nat} {l : List (Option Value)} (hn : pm_L k = n) (h1 : (am_ent as).length ≤ n) (h2 : as.all (fun v => am_isI v || am_isR v || am_isL v) = true) (hl : am_loc n as = l) : Cl X (d + 1) k as w Q = Wp X (Cl X d) k Q (0, l, [], w, 0, 0) := by
  subst hn; subst hl
  simp only [Cl, h1, h2, true_and]
end GEN
