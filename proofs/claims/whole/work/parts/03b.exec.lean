def xob {α : Type} (h : xH) (a ci : Nat) (f : List Value → Option α) : Option α := match h.1 a with
  | some (.inr (c, fs)) => if c = ci then f fs else none
  | _ => none
theorem xob_inv {α : Type} {h : xH} {a ci : Nat} {f : List Value → Option α} {r : α} (e : xob h a ci f = some r) : ∃ fs, h.1 a = some (.inr (ci, fs)) ∧ f fs = some r := by
  unfold xob at e; split at e
  · rename_i c fs e1
    by_cases hc : c = ci
    · subst hc; rw [if_pos rfl] at e; exact ⟨fs, e1, e⟩
    · rw [if_neg hc] at e; cases e
  · cases e
abbrev xn (pc : Nat) (ls : xL) (st : List Value) (h : xH) : Option xS := some (pc, ls, st, h)
def xG (len n : Nat) (o : Option xS) : Option xS := if len = n then o else none
def xcb : Jvm.ClassFile.Cond → Int32 → Int32 → Bool
  | .eq, x, y => decide (x = y)
  | .ne, x, y => !decide (x = y)
  | .lt, x, y => decide (x < y)
  | .ge, x, y => decide (y ≤ x)
  | .gt, x, y => decide (y < x)
  | .le, x, y => decide (x ≤ y)
/-- to pc + off, which must be a place -/
def xjt (pc : Nat) (off : Int) (ls : xL) (st : List Value) (h : xH) : Option xS := if 0 ≤ (pc : Int) + off then xn ((pc : Int) + off).toNat ls st h else none
def xjc (b : Bool) (pc : Nat) (off : Int) (ls : xL) (st : List Value) (h : xH) : Option xS := if 0 ≤ (pc : Int) + off then (if b = true then xn ((pc : Int) + off).toNat ls st h else xn (pc + 3) ls st h) else none
abbrev xIn (i : Int32) (n : Nat) : Prop := ¬ (i < 0 ∨ n ≤ i.toNatClampNeg)
/-- reading: the array is of type t0, or of t1 -/
def xald (t0 t1 : Nat) (pc : Nat) (ls : xL) (st : List Value) (h : xH) : Option xS :=
  xqIR st fun a i s => xar h a fun t n z => if (t = t0 ∨ t = t1) ∧ xIn i n then xn (pc + 1) ls (z i.toNatClampNeg :: s) h else none
def xast (t0 : Nat) (v : Value) (pc : Nat) (ls : xL) (st : List Value) (h : xH) : Option xS :=
  xqIR st fun a i s => xar h a fun t n z => if t = t0 ∧ xIn i n then xn (pc + 1) ls s (xput h a (.inl (t0, n, updV z i.toNatClampNeg v))) else none
/-- the object at v is of class ci -/
def xis {α : Type} (h : xH) (v ci : Nat) (f : Option α) : Option α := match h.1 v with
  | some (.inr (c, _)) => if c = ci then f else none
  | _ => none
/-- arrays of references: r is a null or an object of just the class that the array is of -/
def xasq (r : Option Nat) (pc : Nat) (ls : xL) (st : List Value) (h : xH) : Option xS :=
  xqIR st fun a i s => xar h a fun t n z => if x_isq t = true ∧ xIn i n then (match r with
        | none => xn (pc + 1) ls s (xput h a (.inl (t, n, updV z i.toNatClampNeg .null)))
        | some v => xis h v (x_ac t) (xn (pc + 1) ls s (xput h a (.inl (t, n, updV z i.toNatClampNeg (.ref v)))))) else none
/-- v is a value of the type, as it stands -/
def xokv (ty : FieldType) (v : Value) : Bool := decide (narrow ty v = v) && fits ty v
def xdone (call : Nat → List Value → xH → Option xR) (jj pc : Nat) (as rest : List Value) (ls : xL) (h : xH) : Option xS :=
  if (rest.map fun v => v.category).sum ≤ 8 then (match call jj as h with | some (r, h') => xn (pc + 3) ls (r.toList ++ rest) h' | none => none) else none
/-- what a method of the JDK's that is no bytecode here needs -/
def xnat (d : Nat) (s : List Value) (o : Option xS) : Option xS := if d ≠ 0 ∧ (s.map fun v => v.category).sum ≤ 8 then o else none
/-- System.arraycopy between arrays of ints -/
def xcp (d pc : Nat) (ls : xL) (st : List Value) (h : xH) : Option xS := match st with
  | .int n :: .int dp :: .ref a :: .int sp :: .ref a0 :: rest => xar h a0 fun t0 n0 z0 => xar h a fun t1 n1 z1 =>
      if t0 = x_tI ∧ t1 = x_tI ∧ ¬ sp < 0 ∧ ¬ dp < 0 ∧ ¬ n < 0 ∧ sp.toNatClampNeg + n.toNatClampNeg ≤ n0 ∧ dp.toNatClampNeg + n.toNatClampNeg ≤ n1 ∧ (List.range n.toNatClampNeg).all (fun i => fits .int (z0 (sp.toNatClampNeg + i))) = true then
        xnat d rest (xn (pc + 3) ls rest (xput h a (.inl (x_tI, n1, va_cpy z0 z1 sp.toNatClampNeg dp.toNatClampNeg n.toNatClampNeg)))) else none
  | _ => none
def xret (j : Nat) (v : Value) : Bool := match x_rt j with
  | some ty => xokv ty v
  | none => false
set_option maxHeartbeats 4000000 in
def xs (d : Nat) (call : Nat → List Value → xH → Option xR) (j : Nat) (ins : Jvm.ClassFile.Instr) (len pc : Nat) (ls : xL) (st : List Value) (h : xH) : Option xS :=
  match ins with
  | .iload_n i => xG len 1 (xlc ls i.val 1 fun v => xcI v fun x => xn (pc + 1) ls (.int x :: st) h)
  | .iload i => xG len 2 (xlc ls i 1 fun v => xcI v fun x => xn (pc + 2) ls (.int x :: st) h)
  | .lload_n i => xG len 1 (xlc ls i.val 2 fun v => xcL v fun x => xn (pc + 1) ls (.long x :: st) h)
  | .lload i => xG len 2 (xlc ls i 2 fun v => xcL v fun x => xn (pc + 2) ls (.long x :: st) h)
  | .aload_n i => xG len 1 (xlc ls i.val 1 fun v => xcA v fun v => xn (pc + 1) ls (v :: st) h)
  | .aload i => xG len 2 (xlc ls i 1 fun v => xcA v fun v => xn (pc + 2) ls (v :: st) h)
  | .istore_n i => xG len 1 (xqI st fun x s => if i.val < x_nl j then xn (pc + 1) (xst1 ls i.val (.int x)) s h else none)
  | .istore i => xG len 2 (xqI st fun x s => if i < x_nl j then xn (pc + 2) (xst1 ls i (.int x)) s h else none)
  | .lstore_n i => xG len 1 (xqL st fun x s => if i.val + 1 < x_nl j then xn (pc + 1) (xst2 ls i.val (.long x)) s h else none)
  | .lstore i => xG len 2 (xqL st fun x s => if i + 1 < x_nl j then xn (pc + 2) (xst2 ls i (.long x)) s h else none)
  | .astore_n i => xG len 1 (xqA st fun r s => if i.val < x_nl j then xn (pc + 1) (xst1 ls i.val (va_rf r)) s h else none)
  | .astore i => xG len 2 (xqA st fun r s => if i < x_nl j then xn (pc + 2) (xst1 ls i (va_rf r)) s h else none)
  | .iinc i n => xG len 3 (xlc ls i 1 fun v => xcI v fun x => if i < x_nl j then xn (pc + 3) (xst1 ls i (.int (x + Int32.ofInt n))) st h else none)
  | .iconst n => xG len 1 (xn (pc + 1) ls (.int (Int32.ofInt n) :: st) h)
  | .bipush n => xG len 2 (xn (pc + 2) ls (.int (Int8.ofInt n).toInt32 :: st) h)
  | .sipush n => xG len 3 (xn (pc + 3) ls (.int (Int16.ofInt n).toInt32 :: st) h)
  | .lconst n => xG len 1 (xn (pc + 1) ls (.long (Int64.ofNat (n : Nat)) :: st) h)
  | .aconst_null => xG len 1 (xn (pc + 1) ls (.null :: st) h)
  | .ldc i => xG len 2 (match x_ldci (x_oc j) i with | some v => xn (pc + 2) ls (.int v :: st) h | none => none)
  | .ldc_w i => xG len 3 (match x_ldci (x_oc j) i with | some v => xn (pc + 3) ls (.int v :: st) h | none => none)
  | .ldc2_w i => xG len 3 (match x_ldcl (x_oc j) i with | some v => xn (pc + 3) ls (.long v :: st) h | none => none)
  | .iadd => xG len 1 (xqII st fun x y s => xn (pc + 1) ls (.int (x + y) :: s) h)
  | .isub => xG len 1 (xqII st fun x y s => xn (pc + 1) ls (.int (x - y) :: s) h)
  | .imul => xG len 1 (xqII st fun x y s => xn (pc + 1) ls (.int (x * y) :: s) h)
  | .iand => xG len 1 (xqII st fun x y s => xn (pc + 1) ls (.int (x &&& y) :: s) h)
  | .ior => xG len 1 (xqII st fun x y s => xn (pc + 1) ls (.int (x ||| y) :: s) h)
  | .ixor => xG len 1 (xqII st fun x y s => xn (pc + 1) ls (.int (x ^^^ y) :: s) h)
  | .idiv => xG len 1 (xqII st fun x y s => if y = 0 then none else xn (pc + 1) ls (.int (x / y) :: s) h)
  | .irem => xG len 1 (xqII st fun x y s => if y = 0 then none else xn (pc + 1) ls (.int (x - x / y * y) :: s) h)
  | .ineg => xG len 1 (xqI st fun x s => xn (pc + 1) ls (.int (-x) :: s) h)
  | .ishl => xG len 1 (xqII st fun x y s => xn (pc + 1) ls (.int (x <<< (y &&& 31)) :: s) h)
  | .ishr => xG len 1 (xqII st fun x y s => xn (pc + 1) ls (.int (x >>> (y &&& 31)) :: s) h)
  | .iushr => xG len 1 (xqII st fun x y s => xn (pc + 1) ls (.int (x.toUInt32 >>> (y.toUInt32 &&& Int32.toUInt32 31)).toInt32 :: s) h)
  | .ladd => xG len 1 (xqLL st fun x y s => xn (pc + 1) ls (.long (x + y) :: s) h)
  | .lsub => xG len 1 (xqLL st fun x y s => xn (pc + 1) ls (.long (x - y) :: s) h)
  | .lmul => xG len 1 (xqLL st fun x y s => xn (pc + 1) ls (.long (x * y) :: s) h)
  | .land => xG len 1 (xqLL st fun x y s => xn (pc + 1) ls (.long (x &&& y) :: s) h)
  | .lor => xG len 1 (xqLL st fun x y s => xn (pc + 1) ls (.long (x ||| y) :: s) h)
  | .lxor => xG len 1 (xqLL st fun x y s => xn (pc + 1) ls (.long (x ^^^ y) :: s) h)
  | .ldiv => xG len 1 (xqLL st fun x y s => if y = 0 then none else xn (pc + 1) ls (.long (x / y) :: s) h)
  | .lrem => xG len 1 (xqLL st fun x y s => if y = 0 then none else xn (pc + 1) ls (.long (x - x / y * y) :: s) h)
  | .lneg => xG len 1 (xqL st fun x s => xn (pc + 1) ls (.long (-x) :: s) h)
  | .lshl => xG len 1 (xqLI st fun x y s => xn (pc + 1) ls (.long (x <<< (y.toInt64 &&& 63)) :: s) h)
  | .lshr => xG len 1 (xqLI st fun x y s => xn (pc + 1) ls (.long (x >>> (y.toInt64 &&& 63)) :: s) h)
  | .lushr => xG len 1 (xqLI st fun x y s => xn (pc + 1) ls (.long (x.toUInt64 >>> (y.toInt64.toUInt64 &&& Int64.toUInt64 63)).toInt64 :: s) h)
  | .lcmp => xG len 1 (xqLL st fun x y s => xn (pc + 1) ls (.int (lg_cmp x y) :: s) h)
  | .i2l => xG len 1 (xqI st fun x s => xn (pc + 1) ls (.long x.toInt64 :: s) h)
  | .l2i => xG len 1 (xqL st fun x s => xn (pc + 1) ls (.int x.toInt32 :: s) h)
  | .i2b => xG len 1 (xqI st fun x s => xn (pc + 1) ls (.int x.toInt8.toInt32 :: s) h)
  | .i2s => xG len 1 (xqI st fun x s => xn (pc + 1) ls (.int x.toInt16.toInt32 :: s) h)
  | .i2c => xG len 1 (xqI st fun x s => xn (pc + 1) ls (.int (x.toUInt32 % 65536).toInt32 :: s) h)
  | .dup => xG len 1 (xqV st fun v s => if v.category = 1 then xn (pc + 1) ls (v :: v :: s) h else none)
  | .pop => xG len 1 (xqV st fun v s => if v.category = 1 then xn (pc + 1) ls s h else none)
  | .dup_x1 => xG len 1 (xqV st fun v s => xqV s fun w s => if v.category = 1 ∧ w.category = 1 then xn (pc + 1) ls (v :: w :: v :: s) h else none)
  | .dup_x2 => xG len 1 (xqV st fun v s => xqV s fun w s => xqV s fun u s => if v.category = 1 ∧ w.category = 1 ∧ u.category = 1 then xn (pc + 1) ls (v :: w :: u :: v :: s) h else none)
  | .dup2 => xG len 1 (xqV st fun v s => if v.category = 2 then xn (pc + 1) ls (v :: v :: s) h else xqV s fun w s => if v.category = 1 ∧ w.category = 1 then xn (pc + 1) ls (v :: w :: v :: w :: s) h else none)
  | .pop2 => xG len 1 (xqV st fun v s => if v.category = 2 then xn (pc + 1) ls s h else none)
  | .dup2_x1 => xG len 1 (xqV st fun v s => xqV s fun w s => if v.category = 2 ∧ w.category = 1 then xn (pc + 1) ls (v :: w :: v :: s) h else none)
  | .dup2_x2 => xG len 1 (xqV st fun v s => xqV s fun w s => xqV s fun u s => if v.category = 2 ∧ w.category = 1 ∧ u.category = 1 then xn (pc + 1) ls (v :: w :: u :: v :: s) h else none)
  | .ifCond c off => xG len 3 (xqI st fun x s => xjc (xcb c x 0) pc off ls s h)
  | .if_icmp c off => xG len 3 (xqII st fun x y s => xjc (xcb c x y) pc off ls s h)
  | .if_acmp c off => xG len 3 (xqA st fun y s => xqA s fun x s => xjc (match c with | .eq => decide (x = y) | .ne => !decide (x = y)) pc off ls s h)
  | .ifnull off => xG len 3 (xqA st fun r s => xjc r.isNone pc off ls s h)
  | .ifnonnull off => xG len 3 (xqA st fun r s => xjc r.isSome pc off ls s h)
  | .goto off => xG len 3 (xjt pc off ls st h)
  | .tableswitch dflt lo hi offs => xqI st fun x s => if x.toInt < lo ∨ hi < x.toInt then xjt pc dflt ls s h else (match offs[(x.toInt - lo).toNat]? with | some off => xjt pc off ls s h | none => none)
  | .lookupswitch dflt ps => xqI st fun x s => if (ps.toList.zip (ps.toList.drop 1)).all (fun (a, next) => a.1 < next.1) = true then xjt pc (Jvm.Op.lookupswitch.offset ps.toList dflt x.toInt) ls s h else none
  | .getfield i => xG len 3 (match x_fld (x_oc j) i with | some (ci, k) => xqR st fun a s => xgf h a ci k fun v => xn (pc + 3) ls (v :: s) h | none => none)
  | .putfield i => xG len 3 (match x_fld (x_oc j) i with
      | some (ci, k) => xqV st fun v s => xqR s fun a s => xob h a ci fun fs =>
          if k < fs.length ∧ xokv (x_ft ci k) v = true ∧ x_may j ci k = true then xn (pc + 3) ls s (xput h a (.inr (ci, fs.set k v))) else none
      | none => none)
  | .new i => xG len 3 (match x_newc (x_oc j) i with | some ci => xn (pc + 3) ls (.ref h.2.2.1 :: st) (xmk h (.inr (ci, x_df ci)) (x_df ci).length) | none => none)
  | .newarray ty => xG len 2 (xqI st fun n s => match x_na ty with
      | some t => if ¬ n < 0 ∧ n.toNatClampNeg ≤ 65536 then xn (pc + 2) ls (.ref h.2.2.1 :: s) (xmk h (.inl (t, n.toNatClampNeg, fun _ => defaultValue (Jvm.Op.newarray.typeOf ty))) n.toNatClampNeg) else none
      | none => none)
  | .anewarray i => xG len 3 (xqI st fun n s => match x_ana (x_oc j) i with
      | some t => if ¬ n < 0 ∧ n.toNatClampNeg ≤ 65536 then xn (pc + 3) ls (.ref h.2.2.1 :: s) (xmk h (.inl (t, n.toNatClampNeg, fun _ => .null)) n.toNatClampNeg) else none
      | none => none)
  | .arraylength => xG len 1 (xqR st fun a s => xar h a fun t n _ => if t < x_an then xn (pc + 1) ls (.int (Int32.ofNat n) :: s) h else none)
  | .iaload => xG len 1 (xald x_tI x_tS pc ls st h)
  | .laload => xG len 1 (xald x_tJ x_tJ pc ls st h)
  | .baload => xG len 1 (xald x_tB x_tZ pc ls st h)
  | .aaload => xG len 1 (xqIR st fun a i s => xar h a fun t n z => if x_isq t = true ∧ xIn i n then xn (pc + 1) ls (z i.toNatClampNeg :: s) h else none)
  | .iastore => xG len 1 (xqI st fun x s => xast x_tI (.int x) pc ls s h)
  | .lastore => xG len 1 (xqL st fun x s => xast x_tJ (.long x) pc ls s h)
  | .bastore => xG len 1 (xqI st fun x s => match xast x_tB (narrow .byte (.int x)) pc ls s h with | some r => some r | none => xast x_tZ (narrow .boolean (.int x)) pc ls s h)
  | .aastore => xG len 1 (xqA st fun r s => xasq r pc ls s h)
  | .invokestatic i => xG len 3 (match x_inv (x_oc j) i with
      | some (kd, jj, n) =>
        if kd = 0 then (if n ≤ st.length then xdone call jj pc (st.take n).reverse (st.drop n) ls h else none)
        else if kd = 7 then xcp d pc ls st h
        else if kd = 8 then xqII st fun x y s => xnat d s (xn (pc + 3) ls (.int (if y < x then y else x) :: s) h)
        else if kd = 9 then xqII st fun x y s => xnat d s (xn (pc + 3) ls (.int (if x < y then y else x) :: s) h)
        else if kd = 10 then xqLL st fun x y s => xnat d s (xn (pc + 3) ls (.long (if y < x then y else x) :: s) h)
        else none
      | none => none)
  | .invokevirtual i => xG len 3 (match x_inv (x_oc j) i with
      | some (kd, jj, n) => if kd = 2 ∧ n ≤ st.length then xqR (st.drop n) fun b rest => xis h b (x_rc jj) (xdone call jj pc (.ref b :: (st.take n).reverse) rest ls h) else none
      | none => none)
  | .invokespecial i => xG len 3 (match x_inv (x_oc j) i with
      | some (kd, jj, n) => if kd = 6 then xqR st fun _ rest => xnat d rest (xn (pc + 3) ls rest h)
          else if (kd = 4 ∨ kd = 5) ∧ n ≤ st.length then xqR (st.drop n) fun b rest => xdone call jj pc (.ref b :: (st.take n).reverse) rest ls h else none
      | none => none)
  | _ => none
/-- the ends of a method: what it answers -/
def xfin (j : Nat) (ins : Jvm.ClassFile.Instr) (len : Nat) (st : List Value) : Option (Option Value) :=
  if len = 1 then (match ins with
    | .ireturn => (match st with | [.int v] => if xret j (.int v) = true then some (some (.int v)) else none | _ => none)
    | .lreturn => (match st with | [.long v] => if xret j (.long v) = true then some (some (.long v)) else none | _ => none)
    | .areturn => (match st with | [.ref a] => if xret j (.ref a) = true then some (some (.ref a)) else none | [.null] => if xret j .null = true then some (some .null) else none | _ => none)
    | .return_ => (match st with | [] => if x_rt j = none then some none else none | _ => none)
    | _ => none) else none
