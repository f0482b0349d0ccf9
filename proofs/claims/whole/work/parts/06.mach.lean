theorem pm_dq_spec {b : ByteArray} {a : Nat} {L : List (Option (Instr × Nat))} (h : pm_dq b a L = true) {pc : Nat} {e : Instr × Nat} (hp : L[pc]? = some (some e)) : decode b (a + pc) = .ok e := by
  have h1 := List.all_eq_true.mp h (some e, a + pc) (List.mk_add_mem_zipIdx_iff_getElem?.mpr hp)
  simpa using h1
/-! the machine on worlds: a reference is a place in the world (below 1000), or a thing that was there before (1000 on) -/
abbrev am_W : Type := List va_E
abbrev am_X : Type := Nat × (Nat → Int32)
abbrev am_S : Type := Nat × List (Option Value) × List Value × am_W × Nat × Nat
abbrev am_Q : Type := Option Value → am_W → Prop
abbrev am_C : Type := Nat → List Value → am_W → am_Q → Prop
def pmD : pm_T := (⟨"", "", ""⟩, ⟨#[]⟩, 0, none, 99, 0, 0, [])
def pmM (k : Nat) : pm_T := pm.getD k pmD
def pm_y (k : Nat) : MethodName := (pmM k).1
def pm_b (k : Nat) : ByteArray := (pmM k).2.1
def pm_L (k : Nat) : Nat := (pmM k).2.2.1
def pm_r (k : Nat) : Option FieldType := (pmM k).2.2.2.1
def pm_o (k : Nat) : Nat := (pmM k).2.2.2.2.1
def pm_c (k : Nat) : Nat := (pmM k).2.2.2.2.2.1
def pm_z (k : Nat) : Nat := (pmM k).2.2.2.2.2.2.1
def pm_i (k pc : Nat) : Option (Instr × Nat) := ((pmM k).2.2.2.2.2.2.2[pc]?).getD none
def am_f2 {β : Type} (l : List (Nat × Nat × β)) (o i : Nat) : Option β := (l.find? fun e => e.1 == o && e.2.1 == i).map fun e => e.2.2
def am_ini : List Nat := [0, 7, 25, 27, 32, 42, 48, 52, 85]
def rG : List (Nat × Nat × Value) := [(7, 236, .ref 1001), (1, 76, .ref 1002), (1, 104, .ref 1003), (1, 107, .ref 1004), (10, 38, .int 1), (10, 1053, .ref 1020)]
def rT : List (Nat × Nat × Nat) := [(10, 9, 0), (10, 15, 1)]
def am_kind : List Int32 := [1, 10, 100, 1000, 10000, 100000]
def am_nums : List Int32 := [1, 3, 4, 3]
def am_least : List Int32 := [2, 0, 0, 0, 0, 1, 1, 0, 0, 0, 1, 0, 0, 1, 0, 0]
def am_most : List Int32 := [8, 0, 0, 0, -1, 9, 9, 0, -1, -1, 9, 17, -1, 5, 99, 0]
def am_tx : List (List Int32) := [[115, 105, 108, 108, 115], [100, 111, 111, 114], [114, 111, 112, 101], [114, 105, 100, 101, 114]]
/-- the rows that were there before: script, four tables, four texts' bytes -/
def am_ro (X : am_X) : List (Nat × Nat × (Nat → Int32)) := [(0, X.1, X.2), (0, 6, fun i => am_kind.getD i 0), (0, 4, fun i => am_nums.getD i 0), (0, 16, fun i => am_least.getD i 0), (0, 16, fun i => am_most.getD i 0), (3, 5, fun i => (am_tx.getD 0 []).getD i 0), (3, 4, fun i => (am_tx.getD 1 []).getD i 0), (3, 4, fun i => (am_tx.getD 2 []).getD i 0), (3, 5, fun i => (am_tx.getD 3 []).getD i 0)]
def am_fld (w : am_W) (p ci f : Nat) : Option Value := match w[p]? with
  | some (.inr (c, fs)) => if c = ci then fs[f]? else none
  | _ => none
def am_cls (w : am_W) (p : Nat) : Option Nat := match w[p]? with
  | some (.inr (c, _)) => some c
  | _ => none
/-- a row of ints (kind 0), booleans (1), bytes (3): kind, length, contents -/
def am_arr (X : am_X) (w : am_W) (p : Nat) : Option (Nat × Nat × (Nat → Int32)) := if p < 1000 then (match w[p]? with
  | some (.inl (t, n, .inl f)) => some (t, n, f)
  | _ => none) else (am_ro X)[p - 1000]?
def am_refs (w : am_W) (p : Nat) : Option (Nat × (Nat → Option Nat)) := match w[p]? with
  | some (.inl (t, n, .inr (.inr (.inr (.inr f))))) => if t = 2 then some (n, f) else none
  | _ => none
def am_put (w : am_W) (p f : Nat) (v : Value) : am_W := match w[p]? with
  | some (.inr (c, fs)) => w.set p (.inr (c, fs.set f v))
  | _ => w
def am_ast (w : am_W) (p i : Nat) (x : Int32) : am_W := match w[p]? with
  | some (.inl (t, n, .inl f)) => w.set p (.inl (t, n, .inl (upd f i x)))
  | _ => w
def am_rst (w : am_W) (p i q : Nat) : am_W := match w[p]? with
  | some (.inl (t, n, .inr (.inr (.inr (.inr f))))) => w.set p (.inl (t, n, .inr (.inr (.inr (.inr (va_up f i (some q)))))))
  | _ => w
def am_ty (ci f : Nat) : FieldType := (vwTy.getD ci (fun _ => .int)) f
def am_fin (k ci f : Nat) : Bool := !((vwCl.getD ci ("", fun _ => ("", "", "", true), 0)).2.1 f).2.2.2 || (am_ini.contains k && pm_o k == ci)
def am_fit (t : FieldType) (v : Value) : Prop := match t, v with
  | .int, .int _ => True
  | .long, .long _ => True
  | .boolean, .int x => x = 0 ∨ x = 1
  | .array _, .ref _ => True
  | .object _, .ref _ => True
  | _, _ => False
def am_N (ci : Nat) : Nat := (vwCl.getD ci ("", fun _ => ("", "", "", true), 0)).2.2
def am_new (ci : Nat) : List Value := (List.range (am_N ci)).map fun j => defaultValue (am_ty ci j)
def am_to (pc : Nat) (off : Int) : Option Nat := match (pc : Int) + off with
  | .ofNat t => some t
  | _ => none
def am_cz (cd : Jvm.ClassFile.Cond) (x : Int32) : Bool := match cd with
  | .eq => decide (x = 0)
  | .ne => decide (¬ x = 0)
  | .lt => decide (x < 0)
  | .ge => decide (0 ≤ x)
  | .gt => decide (0 < x)
  | .le => decide (x ≤ 0)
def am_cc (cd : Jvm.ClassFile.Cond) (x y : Int32) : Bool := match cd with
  | .eq => decide (x = y)
  | .ne => decide (¬ x = y)
  | .lt => decide (x < y)
  | .ge => decide (y ≤ x)
  | .gt => decide (y < x)
  | .le => decide (x ≤ y)
def am_tsw (pc : Nat) (dflt lo hi : Int) (offs : Array Int) (x : Int) : Option Nat :=
  if x < lo ∨ hi < x then am_to pc dflt else match offs[(x - lo).toNat]? with
  | some o => am_to pc o
  | none => none
def am_ld (ls : List (Option Value)) (i : Nat) : Option Value := match ls[i]? with
  | some (some (.int x)) => some (.int x)
  | some (some (.ref p)) => some (.ref p)
  | some (some (.long x)) => if ls[i + 1]? = some (some (.retAddr 0)) then some (.long x) else none
  | _ => none
def am_isI : Value → Bool
  | .int _ => true
  | _ => false
def am_isR : Value → Bool
  | .ref _ => true
  | _ => false
def am_isL : Value → Bool
  | .long _ => true
  | _ => false
def am_c1 : Value → Bool
  | .int _ => true
  | .ref _ => true
  | _ => false
def am_i2 (f : Int32 → Int32 → Int32) (st : List Value) : Option (List Value) := match st with
  | .int y :: .int x :: st => some (.int (f x y) :: st)
  | _ => none
def am_l2 (f : Int64 → Int64 → Int64) (st : List Value) : Option (List Value) := match st with
  | .long y :: .long x :: st => some (.long (f x y) :: st)
  | _ => none
def am_li (f : Int64 → Int32 → Int64) (st : List Value) : Option (List Value) := match st with
  | .int y :: .long x :: st => some (.long (f x y) :: st)
  | _ => none
/-- instructions that change the stack alone -/
def am_stk (k : Nat) (I : Instr) (ls : List (Option Value)) (st : List Value) : Option (List Value) := match I with
  | .iconst v => some (.int (Int32.ofInt v) :: st)
  | .bipush v => some (.int (Int8.ofInt v).toInt32 :: st)
  | .sipush v => some (.int (Int16.ofInt v).toInt32 :: st)
  | .lconst v => some (.long (Int64.ofNat (v : Nat)) :: st)
  | .ldc i => match am_f2 rK (pm_o k) i with
    | some v => some (.int v :: st)
    | none => (am_f2 rS (pm_o k) i).map fun j => .ref (1010 + j) :: st
  | .ldc2_w i => (am_f2 rJ (pm_o k) i).map fun v => .long v :: st
  | .iload_n i => ((am_ld ls i).filter am_isI).map (· :: st)
  | .iload i => ((am_ld ls i).filter am_isI).map (· :: st)
  | .aload_n i => ((am_ld ls i).filter am_isR).map (· :: st)
  | .aload i => ((am_ld ls i).filter am_isR).map (· :: st)
  | .lload_n i => ((am_ld ls i).filter am_isL).map (· :: st)
  | .iadd => am_i2 (· + ·) st
  | .isub => am_i2 (· - ·) st
  | .imul => am_i2 (· * ·) st
  | .iand => am_i2 (· &&& ·) st
  | .ior => am_i2 (· ||| ·) st
  | .ixor => am_i2 (· ^^^ ·) st
  | .ishl => am_i2 (fun x y => x <<< (y &&& 31)) st
  | .ishr => am_i2 (fun x y => x >>> (y &&& 31)) st
  | .ladd => am_l2 (· + ·) st
  | .lmul => am_l2 (· * ·) st
  | .land => am_l2 (· &&& ·) st
  | .lor => am_l2 (· ||| ·) st
  | .lshl => am_li (fun x y => x <<< (y.toInt64 &&& 63)) st
  | .lshr => am_li (fun x y => x >>> (y.toInt64 &&& 63)) st
  | .lushr => am_li (fun x y => (x.toUInt64 >>> (y.toInt64.toUInt64 &&& Int64.toUInt64 63)).toInt64) st
  | .lcmp => match st with
    | .long y :: .long x :: st => some (.int (lg_cmp x y) :: st)
    | _ => none
  | .i2l => match st with
    | .int x :: st => some (.long x.toInt64 :: st)
    | _ => none
  | .l2i => match st with
    | .long x :: st => some (.int x.toInt32 :: st)
    | _ => none
  | .i2c => match st with
    | .int x :: st => some (.int (x.toUInt32 % 65536).toInt32 :: st)
    | _ => none
  | .dup => match st with
    | a :: st => if am_c1 a then some (a :: a :: st) else none
    | _ => none
  | .dup2 => match st with
    | a :: b :: st => if am_c1 a && am_c1 b then some (a :: b :: a :: b :: st) else none
    | _ => none
  | .pop => match st with
    | a :: st => if am_c1 a then some st else none
    | _ => none
  | .getstatic i => (am_f2 rG (pm_o k) i).map (· :: st)
  | _ => none
/-- instructions that go on at one place, under a condition -/
def am_one (X : am_X) (k : Nat) (I : Instr) (n pc : Nat) (ls : List (Option Value)) (st : List Value) (w : am_W) (c z : Nat) : Option (Prop × am_S) := match I with
  | .istore_n i => match st with
    | .int x :: st => (ls[(i : Nat)]?).map fun _ => (True, pc + n, ls.set i (some (.int x)), st, w, c, z)
    | _ => none
  | .istore i => match st with
    | .int x :: st => (ls[(i : Nat)]?).map fun _ => (True, pc + n, ls.set i (some (.int x)), st, w, c, z)
    | _ => none
  | .astore_n i => match st with
    | .ref x :: st => (ls[(i : Nat)]?).map fun _ => (True, pc + n, ls.set i (some (.ref x)), st, w, c, z)
    | _ => none
  | .lstore_n i => match st with
    | .long x :: st => (ls[(i : Nat) + 1]?).map fun _ => (True, pc + n, (ls.set (i : Nat) (some (.long x))).set ((i : Nat) + 1) (some (.retAddr 0)), st, w, c, z)
    | _ => none
  | .iinc i v => match ls[i]? with
    | some (some (.int x)) => some (True, pc + n, ls.set i (some (.int (x + Int32.ofInt v))), st, w, c, z)
    | _ => none
  | .goto off => (am_to pc off).map fun t => (True, t, ls, st, w, c, z)
  | .ifCond cd off => match st with
    | .int x :: st => (am_to pc off).map fun t => (True, (if am_cz cd x then t else pc + n), ls, st, w, c, z)
    | _ => none
  | .if_icmp cd off => match st with
    | .int y :: .int x :: st => (am_to pc off).map fun t => (True, (if am_cc cd x y then t else pc + n), ls, st, w, c, z)
    | _ => none
  | .tableswitch dflt lo hi offs => match st with
    | .int x :: st => (am_tsw pc dflt lo hi offs x.toInt).map fun t => (True, t, ls, st, w, c, z)
    | _ => none
  | .idiv => match st with
    | .int y :: .int x :: st => some (¬ y = 0, pc + n, ls, .int (x / y) :: st, w, c, z)
    | _ => none
  | .irem => match st with
    | .int y :: .int x :: st => some (¬ y = 0, pc + n, ls, .int (x % y) :: st, w, c, z)
    | _ => none
  | .getfield i => match am_f2 rF (pm_o k) i with
    | some q => match st with
      | .ref p :: st => (am_fld w p q.1 q.2).map fun v => (p < 1000, pc + n, ls, v :: st, w, c, z)
      | _ => none
    | none => match am_f2 rT (pm_o k) i with
      | some f => match st with
        | .ref p :: st => some (1010 ≤ p ∧ p < 1014, pc + n, ls, (if f = 0 then .ref (p - 5) else .int 0) :: st, w, c, z)
        | _ => none
      | none => none
  | .putfield i => match am_f2 rF (pm_o k) i with
    | some q => match st with
      | v :: .ref p :: st => (am_fld w p q.1 q.2).map fun _ => (p < 1000 ∧ am_fin k q.1 q.2 = true ∧ am_fit (am_ty q.1 q.2) v, pc + n, ls, st, am_put w p q.2 v, c, z)
      | _ => none
    | none => none
  | .arraylength => match st with
    | .ref p :: st => (am_arr X w p).map fun a => (a.1 = 0 ∨ a.1 = 1 ∨ 1000 ≤ p, pc + n, ls, .int (nI a.2.1) :: st, w, c, z)
    | _ => none
  | .iaload => match st with
    | .int i :: .ref p :: st => (am_arr X w p).map fun a => (a.1 = 0 ∧ vp_in i a.2.1, pc + n, ls, .int (a.2.2 i.toNatClampNeg) :: st, w, c, z)
    | _ => none
  | .baload => match st with
    | .int i :: .ref p :: st => (am_arr X w p).map fun a => ((a.1 = 1 ∨ (a.1 = 3 ∧ 1000 ≤ p)) ∧ vp_in i a.2.1, pc + n, ls, .int (a.2.2 i.toNatClampNeg) :: st, w, c, z)
    | _ => none
  | .iastore => match st with
    | .int x :: .int i :: .ref p :: st => (am_arr X w p).map fun a => (p < 1000 ∧ a.1 = 0 ∧ vp_in i a.2.1, pc + n, ls, st, am_ast w p i.toNatClampNeg x, c, z)
    | _ => none
  | .bastore => match st with
    | .int x :: .int i :: .ref p :: st => (am_arr X w p).map fun a => (p < 1000 ∧ a.1 = 1 ∧ vp_in i a.2.1 ∧ (x = 0 ∨ x = 1), pc + n, ls, st, am_ast w p i.toNatClampNeg x, c, z)
    | _ => none
  | .aaload => match st with
    | .int i :: .ref p :: st => match am_refs w p with
      | some a => (a.2 i.toNatClampNeg).map fun q => (p < 1000 ∧ vp_in i a.1 ∧ q < 1000, pc + n, ls, .ref q :: st, w, c, z)
      | none => none
    | _ => none
  | .aastore => match st with
    | .ref q :: .int i :: .ref p :: st => (am_refs w p).map fun a => (p < 1000 ∧ q < 1000 ∧ am_cls w q = some 0 ∧ vp_in i a.1, pc + n, ls, st, am_rst w p i.toNatClampNeg q, c, z)
    | _ => none
  | .newarray t => match st with
    | .int x :: st => match t with
      | .int => some (0 ≤ x ∧ x ≤ 10000 ∧ c + 1 ≤ pm_c k ∧ z + x.toNatClampNeg ≤ pm_z k ∧ w.length < 1000, pc + n, ls, .ref w.length :: st, w ++ [.inl (0, x.toNatClampNeg, .inl fun _ => 0)], c + 1, z + x.toNatClampNeg)
      | .boolean => some (0 ≤ x ∧ x ≤ 10000 ∧ c + 1 ≤ pm_c k ∧ z + x.toNatClampNeg ≤ pm_z k ∧ w.length < 1000, pc + n, ls, .ref w.length :: st, w ++ [.inl (1, x.toNatClampNeg, .inl fun _ => 0)], c + 1, z + x.toNatClampNeg)
      | _ => none
    | _ => none
  | .anewarray i => match am_f2 rC (pm_o k) i with
    | some 0 => match st with
      | .int x :: st => some (0 ≤ x ∧ x ≤ 10000 ∧ c + 1 ≤ pm_c k ∧ z + x.toNatClampNeg ≤ pm_z k ∧ w.length < 1000, pc + n, ls, .ref w.length :: st, w ++ [.inl (2, x.toNatClampNeg, .inr (.inr (.inr (.inr fun _ => none))))], c + 1, z + x.toNatClampNeg)
      | _ => none
    | _ => none
  | .new i => match am_f2 rC (pm_o k) i with
    | some ci => some (c + 1 ≤ pm_c k ∧ z + am_N ci ≤ pm_z k ∧ w.length < 1000, pc + n, ls, .ref w.length :: st, w ++ [.inr (ci, am_new ci)], c + 1, z + am_N ci)
    | none => none
  | .invokespecial i => match am_f2 rM (pm_o k) i with
    | some (4, _, _) => match st with
      | .ref p :: st => some ((st.map fun v => v.category).sum ≤ 8 ∧ p < 1000, pc + n, ls, st, w, c, z)
      | _ => none
    | _ => none
  | _ => none
def am_pure (X : am_X) (k : Nat) (I : Instr) (n pc : Nat) (ls : List (Option Value)) (st : List Value) (w : am_W) (c z : Nat) : Option (Prop × am_S) := match am_stk k I ls st with
  | some st' => some (True, pc + n, ls, st', w, c, z)
  | none => am_one X k I n pc ls st w c z
/-- a call: condition, method, arguments, the rest of the stack -/
def am_call (k : Nat) (I : Instr) (st : List Value) (w : am_W) : Option (Prop × Nat × List Value × List Value) := match I with
  | .invokevirtual i => match am_f2 rM (pm_o k) i with
    | some (0, j, n) => match st.drop n with
      | .ref p :: rest => some ((if p < 1000 then am_cls w p = some (pm_o j) else p < 1014 ∧ 1010 ≤ p ∧ pm_o j = 10) ∧ (rest.map fun v => v.category).sum ≤ 8, j, .ref p :: (st.take n).reverse, rest)
      | _ => none
    | _ => none
  | .invokestatic i => match am_f2 rM (pm_o k) i with
    | some (1, j, n) => if (st.take n).length = n then some (((st.drop n).map fun v => v.category).sum ≤ 8, j, (st.take n).reverse, st.drop n) else none
    | _ => none
  | .invokespecial i => match am_f2 rM (pm_o k) i with
    | some (2, j, n) => match st.drop n with
      | .ref p :: rest => some (p < 1000 ∧ (rest.map fun v => v.category).sum ≤ 8, j, .ref p :: (st.take n).reverse, rest)
      | _ => none
    | some (3, j, n) => match st.drop n with
      | .ref p :: rest => some (p < 1000 ∧ (rest.map fun v => v.category).sum ≤ 8, j, .ref p :: (st.take n).reverse, rest)
      | _ => none
    | _ => none
  | _ => none
def am_rfit (r : Option FieldType) (x : Int32) : Prop := match r with
  | some .int => True
  | some .boolean => x = 0 ∨ x = 1
  | some .char => narrow .char (.int x) = .int x
  | some .byte => x = 0
  | _ => False
def am_ret (k : Nat) (I : Instr) (st : List Value) : Option (Prop × Option Value) := match I with
  | .ireturn => match st with
    | [.int x] => some (am_rfit (pm_r k) x, some (.int x))
    | _ => none
  | .lreturn => match st with
    | [.long x] => some (pm_r k = some .long, some (.long x))
    | _ => none
  | .return_ => match st with
    | [] => some (pm_r k = none, none)
    | _ => none
  | _ => none
def am_F (X : am_X) (C : am_C) (k : Nat) (Q : am_Q) (Y : am_S → Prop) (s : am_S) : Prop := match pm_i k s.1 with
  | none => False
  | some (I, n) => match am_pure X k I n s.1 s.2.1 s.2.2.1 s.2.2.2.1 s.2.2.2.2.1 s.2.2.2.2.2 with
    | some r => r.1 ∧ Y r.2
    | none => match am_call k I s.2.2.1 s.2.2.2.1 with
      | some q => q.1 ∧ s.2.2.2.2.1 + pm_c q.2.1 ≤ pm_c k ∧ s.2.2.2.2.2 + pm_z q.2.1 ≤ pm_z k ∧ C q.2.1 q.2.2.1 s.2.2.2.1 (fun r w' => Y (s.1 + 3, s.2.1, r.toList ++ q.2.2.2, w', s.2.2.2.2.1 + pm_c q.2.1, s.2.2.2.2.2 + pm_z q.2.1))
      | none => match am_ret k I s.2.2.1 with
        | some q => q.1 ∧ s.2.2.2.2.1 ≤ pm_c k ∧ s.2.2.2.2.2 ≤ pm_z k ∧ Q q.2 s.2.2.2.1
        | none => False
def Wp (X : am_X) (C : am_C) (k : Nat) (Q : am_Q) (s : am_S) : Prop := ∀ Y : am_S → Prop, (∀ t, am_F X C k Q Y t → Y t) → Y s
def am_mono (C : am_C) : Prop := ∀ k as w (Q Q' : am_Q), (∀ r w', Q r w' → Q' r w') → C k as w Q → C k as w Q'
theorem am_F_mono {X : am_X} {C : am_C} (hC : am_mono C) {k : Nat} {Q Q' : am_Q} (hQ : ∀ r w', Q r w' → Q' r w') {Y Y' : am_S → Prop} (hY : ∀ t, Y t → Y' t) {s : am_S} (h : am_F X C k Q Y s) : am_F X C k Q' Y' s := by
  unfold am_F at h ⊢
  split at h
  · exact h
  · split at h
    · exact ⟨h.1, hY _ h.2⟩
    · split at h
      · exact ⟨h.1, h.2.1, h.2.2.1, hC _ _ _ _ _ (fun r w' => hY _) h.2.2.2⟩
      · split at h
        · exact ⟨h.1, h.2.1, h.2.2.1, hQ _ _ h.2.2.2⟩
        · exact h
theorem Wp_mono {X : am_X} {C : am_C} (hC : am_mono C) {k : Nat} {Q Q' : am_Q} (hQ : ∀ r w', Q r w' → Q' r w') {s : am_S} (h : Wp X C k Q s) : Wp X C k Q' s :=
  fun Y hY => h Y fun t ht => hY t (am_F_mono hC hQ (fun _ h => h) ht)
theorem Wp_in {X : am_X} {C : am_C} (hC : am_mono C) {k : Nat} {Q : am_Q} {s : am_S} (h : am_F X C k Q (Wp X C k Q) s) : Wp X C k Q s :=
  fun Y hY => hY s (am_F_mono hC (fun _ _ h => h) (fun t ht => ht Y hY) h)
theorem Wp_eq {X : am_X} {C : am_C} (hC : am_mono C) {k : Nat} {Q : am_Q} {s : am_S} : Wp X C k Q s = am_F X C k Q (Wp X C k Q) s :=
  propext ⟨fun h => h (am_F X C k Q (Wp X C k Q)) fun _ ht => am_F_mono hC (fun _ _ h => h) (fun _ h => Wp_in hC h) ht, Wp_in hC⟩
def am_ent (as : List Value) : List (Option Value) := as.flatMap fun v => if am_isL v then [some v, some (.retAddr 0)] else [some v]
def am_loc (n : Nat) (as : List Value) : List (Option Value) := am_ent as ++ List.replicate (n - (am_ent as).length) none
def Cl (X : am_X) : Nat → am_C
  | 0 => fun _ _ _ _ => False
  | d + 1 => fun k as w Q => (am_ent as).length ≤ pm_L k ∧ as.all (fun v => am_isI v || am_isR v || am_isL v) = true ∧ Wp X (Cl X d) k Q (0, am_loc (pm_L k) as, [], w, 0, 0)
theorem Cl_mono (X : am_X) : ∀ d, am_mono (Cl X d)
  | 0 => fun _ _ _ _ _ _ h => h
  | d + 1 => fun _ _ _ _ _ hQ h => ⟨h.1, h.2.1, Wp_mono (Cl_mono X d) hQ h.2.2⟩
