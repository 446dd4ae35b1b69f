/-! One instruction, one equation of xrun: the rows that a printed row of a method's place is an instance of. -/
noncomputable def xgo (d j : Nat) (o : Option xS) : Option xR := match o with
  | some (pc', ls', st', h') => xrun d j pc' ls' st' h'
  | none => none
section Rows
variable {d j pc : Nat} {ls : xL} {st s : List Value} {h : xH}
theorem xr_step {ins : Jvm.ClassFile.Instr} {len : Nat} (hd : decode (x_b j) pc = .ok (ins, len)) (hf : xfin j ins len st = none) : xrun d j pc ls st h = xgo d j (xs d (xm d) j ins len pc ls st h) := by
  show xrunc d (xm d) j pc ls st h = _
  rw [xrunc_step hd, hf]
  rfl
theorem xr_fin {ins : Jvm.ClassFile.Instr} {len : Nat} {v : Option Value} (hd : decode (x_b j) pc = .ok (ins, len)) (hf : xfin j ins len st = some v) : xrun d j pc ls st h = some (v, h) := by
  show xrunc d (xm d) j pc ls st h = _
  rw [xrunc_step hd, hf]
theorem go_lc {i c : Nat} {f : Value → Option xS} : xgo d j (xlc ls i c f) = xlc ls i c fun v => xgo d j (f v) := by
  unfold xlc; split
  · split <;> rfl
  · rfl
theorem go_cI {v : Value} {f : Int32 → Option xS} : xgo d j (xcI v f) = xcI v fun x => xgo d j (f x) := by unfold xcI; split <;> rfl
theorem go_cL {v : Value} {f : Int64 → Option xS} : xgo d j (xcL v f) = xcL v fun x => xgo d j (f x) := by unfold xcL; split <;> rfl
theorem go_cA {v : Value} {f : Value → Option xS} : xgo d j (xcA v f) = xcA v fun x => xgo d j (f x) := by unfold xcA; split <;> rfl
theorem go_gf {a ci k : Nat} {f : Value → Option xS} : xgo d j (xgf h a ci k f) = xgf h a ci k fun v => xgo d j (f v) := by
  unfold xgf; split
  · split
    · split <;> rfl
    · rfl
  · rfl
theorem go_ob {a ci : Nat} {f : List Value → Option xS} : xgo d j (xob h a ci f) = xob h a ci fun v => xgo d j (f v) := by
  unfold xob; split
  · split <;> rfl
  · rfl
theorem go_ar {a : Nat} {f : Nat → Nat → (Nat → Value) → Option xS} : xgo d j (xar h a f) = xar h a fun t n z => xgo d j (f t n z) := by unfold xar; split <;> rfl
theorem go_is {v ci : Nat} {f : Option xS} : xgo d j (xis h v ci f) = xis h v ci (xgo d j f) := by
  unfold xis; split
  · split <;> rfl
  · rfl
theorem go_if {c : Prop} {D : Decidable c} {a b : Option xS} : xgo d j (@ite _ c D a b) = @ite _ c D (xgo d j a) (xgo d j b) := by split <;> rfl
/-- a call's answer goes on -/
def xret' (o : Option xR) (f : Option Value → xH → Option xR) : Option xR := match o with
  | some (v, h') => f v h'
  | none => none
theorem go_done {call : Nat → List Value → xH → Option xR} {jj : Nat} {as rest : List Value} : xgo d j (xdone call jj pc as rest ls h) = if (rest.map fun v => v.category).sum ≤ 8 then xret' (call jj as h) fun v h' => xrun d j (pc + 3) ls (v.toList ++ rest) h' else none := by
  unfold xdone
  rw [go_if]
  congr 1
  unfold xret'
  generalize call jj as h = o
  cases o with
  | none => rfl
  | some q => rfl
theorem xjc_t {b : Bool} {off : Int} {tgt : Nat} (ht : (pc : Int) + off = (tgt : Int)) : xgo d j (xjc b pc off ls st h) = if b = true then xrun d j tgt ls st h else xrun d j (pc + 3) ls st h := by
  unfold xjc
  rw [if_pos (by rw [ht]; exact Int.natCast_nonneg _), ht, Int.toNat_natCast, go_if]
  rfl
theorem xjt_t {off : Int} {tgt : Nat} (ht : (pc : Int) + off = (tgt : Int)) : xgo d j (xjt pc off ls st h) = xrun d j tgt ls st h := by
  unfold xjt
  rw [if_pos (by rw [ht]; exact Int.natCast_nonneg _), ht, Int.toNat_natCast]
  rfl
theorem r_iload_n {i : Fin 4} (hd : decode (x_b j) pc = .ok (.iload_n i, 1)) : xrun d j pc ls st h = xlc ls i.val 1 fun v => xcI v fun x => xrun d j (pc + 1) ls (.int x :: st) h := by
  rw [xr_step hd rfl]; show xgo d j (xlc _ _ _ _) = _; simp only [go_lc, go_cI]; rfl
theorem r_iload {i : Nat} (hd : decode (x_b j) pc = .ok (.iload i, 2)) : xrun d j pc ls st h = xlc ls i 1 fun v => xcI v fun x => xrun d j (pc + 2) ls (.int x :: st) h := by
  rw [xr_step hd rfl]; show xgo d j (xlc _ _ _ _) = _; simp only [go_lc, go_cI]; rfl
theorem r_lload_n {i : Fin 4} (hd : decode (x_b j) pc = .ok (.lload_n i, 1)) : xrun d j pc ls st h = xlc ls i.val 2 fun v => xcL v fun x => xrun d j (pc + 1) ls (.long x :: st) h := by
  rw [xr_step hd rfl]; show xgo d j (xlc _ _ _ _) = _; simp only [go_lc, go_cL]; rfl
theorem r_lload {i : Nat} (hd : decode (x_b j) pc = .ok (.lload i, 2)) : xrun d j pc ls st h = xlc ls i 2 fun v => xcL v fun x => xrun d j (pc + 2) ls (.long x :: st) h := by
  rw [xr_step hd rfl]; show xgo d j (xlc _ _ _ _) = _; simp only [go_lc, go_cL]; rfl
theorem r_aload_n {i : Fin 4} (hd : decode (x_b j) pc = .ok (.aload_n i, 1)) : xrun d j pc ls st h = xlc ls i.val 1 fun v => xcA v fun x => xrun d j (pc + 1) ls (x :: st) h := by
  rw [xr_step hd rfl]; show xgo d j (xlc _ _ _ _) = _; simp only [go_lc, go_cA]; rfl
theorem r_aload {i : Nat} (hd : decode (x_b j) pc = .ok (.aload i, 2)) : xrun d j pc ls st h = xlc ls i 1 fun v => xcA v fun x => xrun d j (pc + 2) ls (x :: st) h := by
  rw [xr_step hd rfl]; show xgo d j (xlc _ _ _ _) = _; simp only [go_lc, go_cA]; rfl
theorem r_istore_n {i : Fin 4} {x : Int32} (hd : decode (x_b j) pc = .ok (.istore_n i, 1)) (hi : i.val < x_nl j) : xrun d j pc ls (.int x :: s) h = xrun d j (pc + 1) (xst1 ls i.val (.int x)) s h := by
  rw [xr_step hd rfl]; show xgo d j (if i.val < x_nl j then _ else _) = _; rw [if_pos hi]; rfl
theorem r_istore {i : Nat} {x : Int32} (hd : decode (x_b j) pc = .ok (.istore i, 2)) (hi : i < x_nl j) : xrun d j pc ls (.int x :: s) h = xrun d j (pc + 2) (xst1 ls i (.int x)) s h := by
  rw [xr_step hd rfl]; show xgo d j (if i < x_nl j then _ else _) = _; rw [if_pos hi]; rfl
theorem r_lstore_n {i : Fin 4} {x : Int64} (hd : decode (x_b j) pc = .ok (.lstore_n i, 1)) (hi : i.val + 1 < x_nl j) : xrun d j pc ls (.long x :: s) h = xrun d j (pc + 1) (xst2 ls i.val (.long x)) s h := by
  rw [xr_step hd rfl]; show xgo d j (if i.val + 1 < x_nl j then _ else _) = _; rw [if_pos hi]; rfl
theorem r_lstore {i : Nat} {x : Int64} (hd : decode (x_b j) pc = .ok (.lstore i, 2)) (hi : i + 1 < x_nl j) : xrun d j pc ls (.long x :: s) h = xrun d j (pc + 2) (xst2 ls i (.long x)) s h := by
  rw [xr_step hd rfl]; show xgo d j (if i + 1 < x_nl j then _ else _) = _; rw [if_pos hi]; rfl
/-- storing a reference, or null -/
def xsA {α : Type} (v : Value) (f : Value → Option α) : Option α := match v with | .ref a => f (.ref a) | .null => f .null | _ => none
theorem r_astore_n {i : Fin 4} {v : Value} (hd : decode (x_b j) pc = .ok (.astore_n i, 1)) (hi : i.val < x_nl j) : xrun d j pc ls (v :: s) h = xcA v fun v => xrun d j (pc + 1) (xst1 ls i.val v) s h := by
  cases v with
  | ref a => rw [xr_step hd rfl]; show xgo d j (if i.val < x_nl j then _ else none) = _; rw [if_pos hi]; rfl
  | null => rw [xr_step hd rfl]; show xgo d j (if i.val < x_nl j then _ else none) = _; rw [if_pos hi]; rfl
  | _ => rw [xr_step hd rfl]; rfl
theorem r_astore {i : Nat} {v : Value} (hd : decode (x_b j) pc = .ok (.astore i, 2)) (hi : i < x_nl j) : xrun d j pc ls (v :: s) h = xcA v fun v => xrun d j (pc + 2) (xst1 ls i v) s h := by
  cases v with
  | ref a => rw [xr_step hd rfl]; show xgo d j (if i < x_nl j then _ else none) = _; rw [if_pos hi]; rfl
  | null => rw [xr_step hd rfl]; show xgo d j (if i < x_nl j then _ else none) = _; rw [if_pos hi]; rfl
  | _ => rw [xr_step hd rfl]; rfl
theorem r_iinc {i : Nat} {n : Int} (hd : decode (x_b j) pc = .ok (.iinc i n, 3)) (hi : i < x_nl j) : xrun d j pc ls st h = xlc ls i 1 fun v => xcI v fun x => xrun d j (pc + 3) (xst1 ls i (.int (x + Int32.ofInt n))) st h := by
  rw [xr_step hd rfl]; show xgo d j (xlc ls i 1 fun v => xcI v fun x => if i < x_nl j then _ else _) = _; simp only [go_lc, go_cI, hi, if_true]; rfl
theorem r_iconst {n : Int} (hd : decode (x_b j) pc = .ok (.iconst n, 1)) : xrun d j pc ls (st) h = xrun d j (pc + 1) ls (.int (Int32.ofInt n) :: st) h := by
  rw [xr_step hd rfl]; rfl
theorem r_bipush {n : Int} (hd : decode (x_b j) pc = .ok (.bipush n, 2)) : xrun d j pc ls (st) h = xrun d j (pc + 2) ls (.int (Int8.ofInt n).toInt32 :: st) h := by
  rw [xr_step hd rfl]; rfl
theorem r_sipush {n : Int} (hd : decode (x_b j) pc = .ok (.sipush n, 3)) : xrun d j pc ls (st) h = xrun d j (pc + 3) ls (.int (Int16.ofInt n).toInt32 :: st) h := by
  rw [xr_step hd rfl]; rfl
theorem r_lconst {n : Fin 2} (hd : decode (x_b j) pc = .ok (.lconst n, 1)) : xrun d j pc ls (st) h = xrun d j (pc + 1) ls (.long (Int64.ofNat (n : Nat)) :: st) h := by
  rw [xr_step hd rfl]; rfl
theorem r_aconst_null (hd : decode (x_b j) pc = .ok (.aconst_null, 1)) : xrun d j pc ls (st) h = xrun d j (pc + 1) ls (.null :: st) h := by
  rw [xr_step hd rfl]; rfl
theorem r_iadd {x y : Int32} (hd : decode (x_b j) pc = .ok (.iadd, 1)) : xrun d j pc ls (.int y :: .int x :: s) h = xrun d j (pc + 1) ls (.int (x + y) :: s) h := by
  rw [xr_step hd rfl]; rfl
theorem r_isub {x y : Int32} (hd : decode (x_b j) pc = .ok (.isub, 1)) : xrun d j pc ls (.int y :: .int x :: s) h = xrun d j (pc + 1) ls (.int (x - y) :: s) h := by
  rw [xr_step hd rfl]; rfl
theorem r_imul {x y : Int32} (hd : decode (x_b j) pc = .ok (.imul, 1)) : xrun d j pc ls (.int y :: .int x :: s) h = xrun d j (pc + 1) ls (.int (x * y) :: s) h := by
  rw [xr_step hd rfl]; rfl
theorem r_iand {x y : Int32} (hd : decode (x_b j) pc = .ok (.iand, 1)) : xrun d j pc ls (.int y :: .int x :: s) h = xrun d j (pc + 1) ls (.int (x &&& y) :: s) h := by
  rw [xr_step hd rfl]; rfl
theorem r_ior {x y : Int32} (hd : decode (x_b j) pc = .ok (.ior, 1)) : xrun d j pc ls (.int y :: .int x :: s) h = xrun d j (pc + 1) ls (.int (x ||| y) :: s) h := by
  rw [xr_step hd rfl]; rfl
theorem r_ixor {x y : Int32} (hd : decode (x_b j) pc = .ok (.ixor, 1)) : xrun d j pc ls (.int y :: .int x :: s) h = xrun d j (pc + 1) ls (.int (x ^^^ y) :: s) h := by
  rw [xr_step hd rfl]; rfl
theorem r_ishl {x y : Int32} (hd : decode (x_b j) pc = .ok (.ishl, 1)) : xrun d j pc ls (.int y :: .int x :: s) h = xrun d j (pc + 1) ls (.int (x <<< (y &&& 31)) :: s) h := by
  rw [xr_step hd rfl]; rfl
theorem r_ishr {x y : Int32} (hd : decode (x_b j) pc = .ok (.ishr, 1)) : xrun d j pc ls (.int y :: .int x :: s) h = xrun d j (pc + 1) ls (.int (x >>> (y &&& 31)) :: s) h := by
  rw [xr_step hd rfl]; rfl
theorem r_iushr {x y : Int32} (hd : decode (x_b j) pc = .ok (.iushr, 1)) : xrun d j pc ls (.int y :: .int x :: s) h = xrun d j (pc + 1) ls (.int ((x.toUInt32 >>> (y.toUInt32 &&& Int32.toUInt32 31)).toInt32) :: s) h := by
  rw [xr_step hd rfl]; rfl
theorem r_ladd {x y : Int64} (hd : decode (x_b j) pc = .ok (.ladd, 1)) : xrun d j pc ls (.long y :: .long x :: s) h = xrun d j (pc + 1) ls (.long (x + y) :: s) h := by
  rw [xr_step hd rfl]; rfl
theorem r_lsub {x y : Int64} (hd : decode (x_b j) pc = .ok (.lsub, 1)) : xrun d j pc ls (.long y :: .long x :: s) h = xrun d j (pc + 1) ls (.long (x - y) :: s) h := by
  rw [xr_step hd rfl]; rfl
theorem r_lmul {x y : Int64} (hd : decode (x_b j) pc = .ok (.lmul, 1)) : xrun d j pc ls (.long y :: .long x :: s) h = xrun d j (pc + 1) ls (.long (x * y) :: s) h := by
  rw [xr_step hd rfl]; rfl
theorem r_land {x y : Int64} (hd : decode (x_b j) pc = .ok (.land, 1)) : xrun d j pc ls (.long y :: .long x :: s) h = xrun d j (pc + 1) ls (.long (x &&& y) :: s) h := by
  rw [xr_step hd rfl]; rfl
theorem r_lor {x y : Int64} (hd : decode (x_b j) pc = .ok (.lor, 1)) : xrun d j pc ls (.long y :: .long x :: s) h = xrun d j (pc + 1) ls (.long (x ||| y) :: s) h := by
  rw [xr_step hd rfl]; rfl
theorem r_lxor {x y : Int64} (hd : decode (x_b j) pc = .ok (.lxor, 1)) : xrun d j pc ls (.long y :: .long x :: s) h = xrun d j (pc + 1) ls (.long (x ^^^ y) :: s) h := by
  rw [xr_step hd rfl]; rfl
theorem r_lshl {x : Int64} {y : Int32} (hd : decode (x_b j) pc = .ok (.lshl, 1)) : xrun d j pc ls (.int y :: .long x :: s) h = xrun d j (pc + 1) ls (.long (x <<< (y.toInt64 &&& 63)) :: s) h := by
  rw [xr_step hd rfl]; rfl
theorem r_lshr {x : Int64} {y : Int32} (hd : decode (x_b j) pc = .ok (.lshr, 1)) : xrun d j pc ls (.int y :: .long x :: s) h = xrun d j (pc + 1) ls (.long (x >>> (y.toInt64 &&& 63)) :: s) h := by
  rw [xr_step hd rfl]; rfl
theorem r_lushr {x : Int64} {y : Int32} (hd : decode (x_b j) pc = .ok (.lushr, 1)) : xrun d j pc ls (.int y :: .long x :: s) h = xrun d j (pc + 1) ls (.long ((x.toUInt64 >>> (y.toInt64.toUInt64 &&& Int64.toUInt64 63)).toInt64) :: s) h := by
  rw [xr_step hd rfl]; rfl
theorem r_lcmp {x y : Int64} (hd : decode (x_b j) pc = .ok (.lcmp, 1)) : xrun d j pc ls (.long y :: .long x :: s) h = xrun d j (pc + 1) ls (.int (lg_cmp x y) :: s) h := by
  rw [xr_step hd rfl]; rfl
theorem r_ineg {x : Int32} (hd : decode (x_b j) pc = .ok (.ineg, 1)) : xrun d j pc ls (.int x :: s) h = xrun d j (pc + 1) ls (.int (-x) :: s) h := by
  rw [xr_step hd rfl]; rfl
theorem r_lneg {x : Int64} (hd : decode (x_b j) pc = .ok (.lneg, 1)) : xrun d j pc ls (.long x :: s) h = xrun d j (pc + 1) ls (.long (-x) :: s) h := by
  rw [xr_step hd rfl]; rfl
theorem r_i2l {x : Int32} (hd : decode (x_b j) pc = .ok (.i2l, 1)) : xrun d j pc ls (.int x :: s) h = xrun d j (pc + 1) ls (.long x.toInt64 :: s) h := by
  rw [xr_step hd rfl]; rfl
theorem r_l2i {x : Int64} (hd : decode (x_b j) pc = .ok (.l2i, 1)) : xrun d j pc ls (.long x :: s) h = xrun d j (pc + 1) ls (.int x.toInt32 :: s) h := by
  rw [xr_step hd rfl]; rfl
theorem r_i2b {x : Int32} (hd : decode (x_b j) pc = .ok (.i2b, 1)) : xrun d j pc ls (.int x :: s) h = xrun d j (pc + 1) ls (.int x.toInt8.toInt32 :: s) h := by
  rw [xr_step hd rfl]; rfl
theorem r_i2s {x : Int32} (hd : decode (x_b j) pc = .ok (.i2s, 1)) : xrun d j pc ls (.int x :: s) h = xrun d j (pc + 1) ls (.int x.toInt16.toInt32 :: s) h := by
  rw [xr_step hd rfl]; rfl
theorem r_i2c {x : Int32} (hd : decode (x_b j) pc = .ok (.i2c, 1)) : xrun d j pc ls (.int x :: s) h = xrun d j (pc + 1) ls (.int (x.toUInt32 % 65536).toInt32 :: s) h := by
  rw [xr_step hd rfl]; rfl
theorem r_idiv {x y : Int32} (hd : decode (x_b j) pc = .ok (.idiv, 1)) : xrun d j pc ls (.int y :: .int x :: s) h = if y = 0 then none else xrun d j (pc + 1) ls (.int (x / y) :: s) h := by
  rw [xr_step hd rfl]; show xgo d j (if y = 0 then none else _) = _; rw [go_if]; rfl
theorem r_irem {x y : Int32} (hd : decode (x_b j) pc = .ok (.irem, 1)) : xrun d j pc ls (.int y :: .int x :: s) h = if y = 0 then none else xrun d j (pc + 1) ls (.int (x - x / y * y) :: s) h := by
  rw [xr_step hd rfl]; show xgo d j (if y = 0 then none else _) = _; rw [go_if]; rfl
theorem r_ldiv {x y : Int64} (hd : decode (x_b j) pc = .ok (.ldiv, 1)) : xrun d j pc ls (.long y :: .long x :: s) h = if y = 0 then none else xrun d j (pc + 1) ls (.long (x / y) :: s) h := by
  rw [xr_step hd rfl]; show xgo d j (if y = 0 then none else _) = _; rw [go_if]; rfl
theorem r_lrem {x y : Int64} (hd : decode (x_b j) pc = .ok (.lrem, 1)) : xrun d j pc ls (.long y :: .long x :: s) h = if y = 0 then none else xrun d j (pc + 1) ls (.long (x - x / y * y) :: s) h := by
  rw [xr_step hd rfl]; show xgo d j (if y = 0 then none else _) = _; rw [go_if]; rfl
theorem r_dup {v : Value} (hd : decode (x_b j) pc = .ok (.dup, 1)) : xrun d j pc ls (v :: s) h = if v.category = 1 then xrun d j (pc + 1) ls (v :: v :: s) h else none := by
  rw [xr_step hd rfl]; show xgo d j (if _ then _ else none) = _; rw [go_if]; rfl
theorem r_pop {v : Value} (hd : decode (x_b j) pc = .ok (.pop, 1)) : xrun d j pc ls (v :: s) h = if v.category = 1 then xrun d j (pc + 1) ls (s) h else none := by
  rw [xr_step hd rfl]; show xgo d j (if _ then _ else none) = _; rw [go_if]; rfl
theorem r_dup_x1 {v w : Value} (hd : decode (x_b j) pc = .ok (.dup_x1, 1)) : xrun d j pc ls (v :: w :: s) h = if v.category = 1 ∧ w.category = 1 then xrun d j (pc + 1) ls (v :: w :: v :: s) h else none := by
  rw [xr_step hd rfl]; show xgo d j (if _ then _ else none) = _; rw [go_if]; rfl
theorem r_dup_x2 {v w u : Value} (hd : decode (x_b j) pc = .ok (.dup_x2, 1)) : xrun d j pc ls (v :: w :: u :: s) h = if v.category = 1 ∧ w.category = 1 ∧ u.category = 1 then xrun d j (pc + 1) ls (v :: w :: u :: v :: s) h else none := by
  rw [xr_step hd rfl]; show xgo d j (if _ then _ else none) = _; rw [go_if]; rfl
theorem r_pop2 {v : Value} (hd : decode (x_b j) pc = .ok (.pop2, 1)) : xrun d j pc ls (v :: s) h = if v.category = 2 then xrun d j (pc + 1) ls (s) h else none := by
  rw [xr_step hd rfl]; show xgo d j (if _ then _ else none) = _; rw [go_if]; rfl
theorem r_dup2_x1 {v w : Value} (hd : decode (x_b j) pc = .ok (.dup2_x1, 1)) : xrun d j pc ls (v :: w :: s) h = if v.category = 2 ∧ w.category = 1 then xrun d j (pc + 1) ls (v :: w :: v :: s) h else none := by
  rw [xr_step hd rfl]; show xgo d j (if _ then _ else none) = _; rw [go_if]; rfl
theorem r_dup2_x2 {v w u : Value} (hd : decode (x_b j) pc = .ok (.dup2_x2, 1)) : xrun d j pc ls (v :: w :: u :: s) h = if v.category = 2 ∧ w.category = 1 ∧ u.category = 1 then xrun d j (pc + 1) ls (v :: w :: u :: v :: s) h else none := by
  rw [xr_step hd rfl]; show xgo d j (if _ then _ else none) = _; rw [go_if]; rfl
theorem r_dup2 {v : Value} (hd : decode (x_b j) pc = .ok (.dup2, 1)) : xrun d j pc ls (v :: s) h = if v.category = 2 then xrun d j (pc + 1) ls (v :: v :: s) h else (match s with | w :: s => if v.category = 1 ∧ w.category = 1 then xrun d j (pc + 1) ls (v :: w :: v :: w :: s) h else none | [] => none) := by
  rw [xr_step hd rfl]; show xgo d j (if v.category = 2 then _ else xqV s _) = _; rw [go_if]
  congr 1
  unfold xqV
  cases s with
  | nil => rfl
  | cons w s => exact go_if
theorem r_icmp_eq {x y : Int32} {off : Int} {tgt : Nat} (hd : decode (x_b j) pc = .ok (.if_icmp .eq off, 3)) (ht : (pc : Int) + off = (tgt : Int)) : xrun d j pc ls (.int y :: .int x :: s) h = if x = y then xrun d j tgt ls s h else xrun d j (pc + 3) ls s h := by
  rw [xr_step hd rfl]; show xgo d j (xjc (xcb .eq x y) pc off ls s h) = _; rw [xjc_t ht]; simp only [xcb, decide_eq_true_eq]
theorem r_if_eq {x : Int32} {off : Int} {tgt : Nat} (hd : decode (x_b j) pc = .ok (.ifCond .eq off, 3)) (ht : (pc : Int) + off = (tgt : Int)) : xrun d j pc ls (.int x :: s) h = if x = 0 then xrun d j tgt ls s h else xrun d j (pc + 3) ls s h := by
  rw [xr_step hd rfl]; show xgo d j (xjc (xcb .eq x 0) pc off ls s h) = _; rw [xjc_t ht]; simp only [xcb, decide_eq_true_eq]
theorem r_icmp_lt {x y : Int32} {off : Int} {tgt : Nat} (hd : decode (x_b j) pc = .ok (.if_icmp .lt off, 3)) (ht : (pc : Int) + off = (tgt : Int)) : xrun d j pc ls (.int y :: .int x :: s) h = if x < y then xrun d j tgt ls s h else xrun d j (pc + 3) ls s h := by
  rw [xr_step hd rfl]; show xgo d j (xjc (xcb .lt x y) pc off ls s h) = _; rw [xjc_t ht]; simp only [xcb, decide_eq_true_eq]
theorem r_if_lt {x : Int32} {off : Int} {tgt : Nat} (hd : decode (x_b j) pc = .ok (.ifCond .lt off, 3)) (ht : (pc : Int) + off = (tgt : Int)) : xrun d j pc ls (.int x :: s) h = if x < 0 then xrun d j tgt ls s h else xrun d j (pc + 3) ls s h := by
  rw [xr_step hd rfl]; show xgo d j (xjc (xcb .lt x 0) pc off ls s h) = _; rw [xjc_t ht]; simp only [xcb, decide_eq_true_eq]
theorem r_icmp_ge {x y : Int32} {off : Int} {tgt : Nat} (hd : decode (x_b j) pc = .ok (.if_icmp .ge off, 3)) (ht : (pc : Int) + off = (tgt : Int)) : xrun d j pc ls (.int y :: .int x :: s) h = if y ≤ x then xrun d j tgt ls s h else xrun d j (pc + 3) ls s h := by
  rw [xr_step hd rfl]; show xgo d j (xjc (xcb .ge x y) pc off ls s h) = _; rw [xjc_t ht]; simp only [xcb, decide_eq_true_eq]
theorem r_if_ge {x : Int32} {off : Int} {tgt : Nat} (hd : decode (x_b j) pc = .ok (.ifCond .ge off, 3)) (ht : (pc : Int) + off = (tgt : Int)) : xrun d j pc ls (.int x :: s) h = if 0 ≤ x then xrun d j tgt ls s h else xrun d j (pc + 3) ls s h := by
  rw [xr_step hd rfl]; show xgo d j (xjc (xcb .ge x 0) pc off ls s h) = _; rw [xjc_t ht]; simp only [xcb, decide_eq_true_eq]
theorem r_icmp_gt {x y : Int32} {off : Int} {tgt : Nat} (hd : decode (x_b j) pc = .ok (.if_icmp .gt off, 3)) (ht : (pc : Int) + off = (tgt : Int)) : xrun d j pc ls (.int y :: .int x :: s) h = if y < x then xrun d j tgt ls s h else xrun d j (pc + 3) ls s h := by
  rw [xr_step hd rfl]; show xgo d j (xjc (xcb .gt x y) pc off ls s h) = _; rw [xjc_t ht]; simp only [xcb, decide_eq_true_eq]
theorem r_if_gt {x : Int32} {off : Int} {tgt : Nat} (hd : decode (x_b j) pc = .ok (.ifCond .gt off, 3)) (ht : (pc : Int) + off = (tgt : Int)) : xrun d j pc ls (.int x :: s) h = if 0 < x then xrun d j tgt ls s h else xrun d j (pc + 3) ls s h := by
  rw [xr_step hd rfl]; show xgo d j (xjc (xcb .gt x 0) pc off ls s h) = _; rw [xjc_t ht]; simp only [xcb, decide_eq_true_eq]
theorem r_icmp_le {x y : Int32} {off : Int} {tgt : Nat} (hd : decode (x_b j) pc = .ok (.if_icmp .le off, 3)) (ht : (pc : Int) + off = (tgt : Int)) : xrun d j pc ls (.int y :: .int x :: s) h = if x ≤ y then xrun d j tgt ls s h else xrun d j (pc + 3) ls s h := by
  rw [xr_step hd rfl]; show xgo d j (xjc (xcb .le x y) pc off ls s h) = _; rw [xjc_t ht]; simp only [xcb, decide_eq_true_eq]
theorem r_if_le {x : Int32} {off : Int} {tgt : Nat} (hd : decode (x_b j) pc = .ok (.ifCond .le off, 3)) (ht : (pc : Int) + off = (tgt : Int)) : xrun d j pc ls (.int x :: s) h = if x ≤ 0 then xrun d j tgt ls s h else xrun d j (pc + 3) ls s h := by
  rw [xr_step hd rfl]; show xgo d j (xjc (xcb .le x 0) pc off ls s h) = _; rw [xjc_t ht]; simp only [xcb, decide_eq_true_eq]
theorem r_icmp_ne {x y : Int32} {off : Int} {tgt : Nat} (hd : decode (x_b j) pc = .ok (.if_icmp .ne off, 3)) (ht : (pc : Int) + off = (tgt : Int)) : xrun d j pc ls (.int y :: .int x :: s) h = if x = y then xrun d j (pc + 3) ls s h else xrun d j tgt ls s h := by
  rw [xr_step hd rfl]; show xgo d j (xjc (xcb .ne x y) pc off ls s h) = _; rw [xjc_t ht]; by_cases hc : x = y <;> simp [xcb, hc]
theorem r_if_ne {x : Int32} {off : Int} {tgt : Nat} (hd : decode (x_b j) pc = .ok (.ifCond .ne off, 3)) (ht : (pc : Int) + off = (tgt : Int)) : xrun d j pc ls (.int x :: s) h = if x = 0 then xrun d j (pc + 3) ls s h else xrun d j tgt ls s h := by
  rw [xr_step hd rfl]; show xgo d j (xjc (xcb .ne x 0) pc off ls s h) = _; rw [xjc_t ht]; by_cases hc : x = 0 <;> simp [xcb, hc]
theorem r_goto {off : Int} {tgt : Nat} (hd : decode (x_b j) pc = .ok (.goto off, 3)) (ht : (pc : Int) + off = (tgt : Int)) : xrun d j pc ls st h = xrun d j tgt ls st h := by
  rw [xr_step hd rfl]; exact xjt_t ht
/-- null or not -/
def xnul {α : Type} (v : Value) (a b : Option α) : Option α := match v with | .null => a | .ref _ => b | _ => none
theorem r_ifnull {v : Value} {off : Int} {tgt : Nat} (hd : decode (x_b j) pc = .ok (.ifnull off, 3)) (ht : (pc : Int) + off = (tgt : Int)) : xrun d j pc ls (v :: s) h = xnul v (xrun d j tgt ls s h) (xrun d j (pc + 3) ls s h) := by
  rw [xr_step hd rfl]; show xgo d j (xqA (v :: s) fun r s => xjc r.isNone pc off ls s h) = _; unfold xqA xnul
  cases v <;> first | rfl | exact xjc_t ht
theorem r_ifnonnull {v : Value} {off : Int} {tgt : Nat} (hd : decode (x_b j) pc = .ok (.ifnonnull off, 3)) (ht : (pc : Int) + off = (tgt : Int)) : xrun d j pc ls (v :: s) h = xnul v (xrun d j (pc + 3) ls s h) (xrun d j tgt ls s h) := by
  rw [xr_step hd rfl]; show xgo d j (xqA (v :: s) fun r s => xjc r.isSome pc off ls s h) = _; unfold xqA xnul
  cases v <;> first | rfl | exact xjc_t ht
/-- two references: the same or not -/
def xsam {α : Type} (v w : Value) (a b : Option α) : Option α := match v, w with | .null, .null => a | .ref x, .ref y => if x = y then a else b | .null, .ref _ => b | .ref _, .null => b | _, _ => none
theorem r_acmp_ne {v w : Value} {off : Int} {tgt : Nat} (hd : decode (x_b j) pc = .ok (.if_acmp .ne off, 3)) (ht : (pc : Int) + off = (tgt : Int)) : xrun d j pc ls (w :: v :: s) h = xsam v w (xrun d j (pc + 3) ls s h) (xrun d j tgt ls s h) := by
  rw [xr_step hd rfl]; show xgo d j (xqA (w :: v :: s) fun y s => xqA s fun x s => xjc (!decide (x = y)) pc off ls s h) = _; unfold xqA xsam
  cases w <;> cases v <;> first | rfl | (rename_i a b; show xgo d j (xjc _ _ _ _ _ _) = _; rw [xjc_t ht]; by_cases hc : b = a <;> simp [hc]) | (show xgo d j (xjc _ _ _ _ _ _) = _; rw [xjc_t ht]; simp)
theorem r_acmp_eq {v w : Value} {off : Int} {tgt : Nat} (hd : decode (x_b j) pc = .ok (.if_acmp .eq off, 3)) (ht : (pc : Int) + off = (tgt : Int)) : xrun d j pc ls (w :: v :: s) h = xsam v w (xrun d j tgt ls s h) (xrun d j (pc + 3) ls s h) := by
  rw [xr_step hd rfl]; show xgo d j (xqA (w :: v :: s) fun y s => xqA s fun x s => xjc (decide (x = y)) pc off ls s h) = _; unfold xqA xsam
  cases w <;> cases v <;> first | rfl | (rename_i a b; show xgo d j (xjc _ _ _ _ _ _) = _; rw [xjc_t ht]; by_cases hc : b = a <;> simp [hc]) | (show xgo d j (xjc _ _ _ _ _ _) = _; rw [xjc_t ht]; simp)
theorem r_ldc {i : Nat} {v : Int32} (hd : decode (x_b j) pc = .ok (.ldc i, 2)) (hv : x_ldci (x_oc j) i = some v) : xrun d j pc ls st h = xrun d j (pc + 2) ls (.int v :: st) h := by
  rw [xr_step hd rfl]; show xgo d j (match x_ldci (x_oc j) i with | some v => _ | none => none) = _; rw [hv]; rfl
theorem r_ldcw {i : Nat} {v : Int32} (hd : decode (x_b j) pc = .ok (.ldc_w i, 3)) (hv : x_ldci (x_oc j) i = some v) : xrun d j pc ls st h = xrun d j (pc + 3) ls (.int v :: st) h := by
  rw [xr_step hd rfl]; show xgo d j (match x_ldci (x_oc j) i with | some v => _ | none => none) = _; rw [hv]; rfl
theorem r_ldc2 {i : Nat} {v : Int64} (hd : decode (x_b j) pc = .ok (.ldc2_w i, 3)) (hv : x_ldcl (x_oc j) i = some v) : xrun d j pc ls st h = xrun d j (pc + 3) ls (.long v :: st) h := by
  rw [xr_step hd rfl]; show xgo d j (match x_ldcl (x_oc j) i with | some v => _ | none => none) = _; rw [hv]; rfl
theorem r_getfield {i a ci k : Nat} (hd : decode (x_b j) pc = .ok (.getfield i, 3)) (hf : x_fld (x_oc j) i = some (ci, k)) : xrun d j pc ls (.ref a :: s) h = xgf h a ci k fun v => xrun d j (pc + 3) ls (v :: s) h := by
  rw [xr_step hd rfl]; show xgo d j (match x_fld (x_oc j) i with | some (ci, k) => _ | none => none) = _; rw [hf]; exact go_gf
theorem r_putfield {i a ci k : Nat} {v : Value} {ty : FieldType} (hd : decode (x_b j) pc = .ok (.putfield i, 3)) (hf : x_fld (x_oc j) i = some (ci, k)) (ht : x_ft ci k = ty) (hm : x_may j ci k = true) : xrun d j pc ls (v :: .ref a :: s) h = xob h a ci fun fs => if k < fs.length ∧ xokv ty v = true then xrun d j (pc + 3) ls s (xput h a (.inr (ci, fs.set k v))) else none := by
  subst ht
  rw [xr_step hd rfl]; show xgo d j (match x_fld (x_oc j) i with | some (ci, k) => _ | none => none) = _; rw [hf]
  show xgo d j (xob h a ci _) = _
  rw [go_ob]; simp only [go_if, hm, and_true]; rfl
theorem r_new {i ci : Nat} (hd : decode (x_b j) pc = .ok (.new i, 3)) (hf : x_newc (x_oc j) i = some ci) : xrun d j pc ls st h = xrun d j (pc + 3) ls (.ref h.2.2.1 :: st) (xmk h (.inr (ci, x_df ci)) (x_df ci).length) := by
  rw [xr_step hd rfl]; show xgo d j (match x_newc (x_oc j) i with | some ci => _ | none => none) = _; rw [hf]; rfl
theorem r_newarray {ty : Jvm.ClassFile.ArrayType} {t : Nat} {n : Int32} {v : Value} (hd : decode (x_b j) pc = .ok (.newarray ty, 2)) (hf : x_na ty = some t) (hv : defaultValue (newarray.typeOf ty) = v) : xrun d j pc ls (.int n :: s) h = if ¬ n < 0 ∧ n.toNatClampNeg ≤ 65536 then xrun d j (pc + 2) ls (.ref h.2.2.1 :: s) (xmk h (.inl (t, n.toNatClampNeg, fun _ => v)) n.toNatClampNeg) else none := by
  subst hv
  rw [xr_step hd rfl]; show xgo d j (match x_na ty with | some t => _ | none => none) = _; rw [hf]; exact go_if
theorem r_anewarray {i t : Nat} {n : Int32} (hd : decode (x_b j) pc = .ok (.anewarray i, 3)) (hf : x_ana (x_oc j) i = some t) : xrun d j pc ls (.int n :: s) h = if ¬ n < 0 ∧ n.toNatClampNeg ≤ 65536 then xrun d j (pc + 3) ls (.ref h.2.2.1 :: s) (xmk h (.inl (t, n.toNatClampNeg, fun _ => .null)) n.toNatClampNeg) else none := by
  rw [xr_step hd rfl]; show xgo d j (match x_ana (x_oc j) i with | some t => _ | none => none) = _; rw [hf]; exact go_if
theorem r_arraylength {a : Nat} (hd : decode (x_b j) pc = .ok (.arraylength, 1)) : xrun d j pc ls (.ref a :: s) h = xar h a fun t n _ => if t < x_an then xrun d j (pc + 1) ls (.int (Int32.ofNat n) :: s) h else none := by
  rw [xr_step hd rfl]; show xgo d j (xar h a _) = _; rw [go_ar]; simp only [go_if]; rfl
/-- reading a place of an array of type t0 or t1 -/
def xrd {α : Type} (h : xH) (a : Nat) (i : Int32) (t0 t1 : Nat) (f : Value → Option α) : Option α := xar h a fun t n z => if (t = t0 ∨ t = t1) ∧ xIn i n then f (z i.toNatClampNeg) else none
/-- writing v to a place of an array of type t0 -/
def xwr {α : Type} (h : xH) (a : Nat) (i : Int32) (t0 : Nat) (v : Value) (f : xH → Option α) : Option α := xar h a fun t n z => if t = t0 ∧ xIn i n then f (xput h a (.inl (t0, n, updV z i.toNatClampNeg v))) else none
theorem r_iaload {a : Nat} {i : Int32} (hd : decode (x_b j) pc = .ok (.iaload, 1)) : xrun d j pc ls (.int i :: .ref a :: s) h = xrd h a i x_tI x_tS fun v => xrun d j (pc + 1) ls (v :: s) h := by
  rw [xr_step hd rfl]; show xgo d j (xar h a _) = _; rw [go_ar]; simp only [go_if]; rfl
theorem r_laload {a : Nat} {i : Int32} (hd : decode (x_b j) pc = .ok (.laload, 1)) : xrun d j pc ls (.int i :: .ref a :: s) h = xrd h a i x_tJ x_tJ fun v => xrun d j (pc + 1) ls (v :: s) h := by
  rw [xr_step hd rfl]; show xgo d j (xar h a _) = _; rw [go_ar]; simp only [go_if]; rfl
theorem r_baload {a : Nat} {i : Int32} (hd : decode (x_b j) pc = .ok (.baload, 1)) : xrun d j pc ls (.int i :: .ref a :: s) h = xrd h a i x_tB x_tZ fun v => xrun d j (pc + 1) ls (v :: s) h := by
  rw [xr_step hd rfl]; show xgo d j (xar h a _) = _; rw [go_ar]; simp only [go_if]; rfl
/-- reading a place of an array of references -/
def xrq {α : Type} (h : xH) (a : Nat) (i : Int32) (f : Value → Option α) : Option α := xar h a fun t n z => if x_isq t = true ∧ xIn i n then f (z i.toNatClampNeg) else none
theorem r_aaload {a : Nat} {i : Int32} (hd : decode (x_b j) pc = .ok (.aaload, 1)) : xrun d j pc ls (.int i :: .ref a :: s) h = xrq h a i fun v => xrun d j (pc + 1) ls (v :: s) h := by
  rw [xr_step hd rfl]; show xgo d j (xar h a _) = _; rw [go_ar]; simp only [go_if]; rfl
theorem r_iastore {a : Nat} {i x : Int32} (hd : decode (x_b j) pc = .ok (.iastore, 1)) : xrun d j pc ls (.int x :: .int i :: .ref a :: s) h = xwr h a i x_tI (.int x) fun h' => xrun d j (pc + 1) ls s h' := by
  rw [xr_step hd rfl]; show xgo d j (xar h a _) = _; rw [go_ar]; simp only [go_if]; rfl
theorem r_lastore {a : Nat} {i : Int32} {x : Int64} (hd : decode (x_b j) pc = .ok (.lastore, 1)) : xrun d j pc ls (.long x :: .int i :: .ref a :: s) h = xwr h a i x_tJ (.long x) fun h' => xrun d j (pc + 1) ls s h' := by
  rw [xr_step hd rfl]; show xgo d j (xar h a _) = _; rw [go_ar]; simp only [go_if]; rfl
theorem r_bastore {a : Nat} {i x : Int32} (hd : decode (x_b j) pc = .ok (.bastore, 1)) : xrun d j pc ls (.int x :: .int i :: .ref a :: s) h = xar h a fun t n z => if (t = x_tB ∨ t = x_tZ) ∧ xIn i n then xrun d j (pc + 1) ls s (xput h a (.inl (t, n, updV z i.toNatClampNeg (narrow (if t = x_tB then .byte else .boolean) (.int x))))) else none := by
  rw [xr_step hd rfl]
  show xgo d j (match xast x_tB (narrow .byte (.int x)) pc ls (.int i :: .ref a :: s) h with | some r => some r | none => xast x_tZ (narrow .boolean (.int x)) pc ls (.int i :: .ref a :: s) h) = _
  unfold xast xqIR xar
  dsimp only
  have hne : x_tZ ≠ x_tB := by decide
  cases he : h.1 a with
  | none => rfl
  | some q =>
    rcases q with ⟨t, n, z⟩ | q
    · dsimp only
      by_cases h2 : xIn i n
      · by_cases h1 : t = x_tB
        · subst h1
          rw [if_pos (show x_tB = x_tB ∧ xIn i n from ⟨rfl, h2⟩), if_pos (show (x_tB = x_tB ∨ x_tB = x_tZ) ∧ xIn i n from ⟨Or.inl rfl, h2⟩)]
          rfl
        · by_cases h3 : t = x_tZ
          · subst h3
            rw [if_neg (show ¬ (x_tZ = x_tB ∧ xIn i n) from fun q => h1 q.1), if_pos (show x_tZ = x_tZ ∧ xIn i n from ⟨rfl, h2⟩), if_pos (show (x_tZ = x_tB ∨ x_tZ = x_tZ) ∧ xIn i n from ⟨Or.inr rfl, h2⟩)]
            rfl
          · rw [if_neg (fun q => h1 q.1), if_neg (fun q => h3 q.1), if_neg (fun q => q.1.elim h1 h3)]
            rfl
      · rw [if_neg (fun q => h2 q.2), if_neg (fun q => h2 q.2), if_neg (fun q => h2 q.2)]
        rfl
    · rfl
theorem r_aastore {a : Nat} {i : Int32} {v : Value} (hd : decode (x_b j) pc = .ok (.aastore, 1)) : xrun d j pc ls (v :: .int i :: .ref a :: s) h = xar h a fun t n z => if x_isq t = true ∧ xIn i n then (match v with
    | .null => xrun d j (pc + 1) ls s (xput h a (.inl (t, n, updV z i.toNatClampNeg .null)))
    | .ref v => xis h v (x_ac t) (xrun d j (pc + 1) ls s (xput h a (.inl (t, n, updV z i.toNatClampNeg (.ref v)))))
    | _ => none) else none := by
  cases v with
  | null => rw [xr_step hd rfl]; show xgo d j (xar h a _) = _; rw [go_ar]; simp only [go_if]; rfl
  | ref b => rw [xr_step hd rfl]; show xgo d j (xar h a _) = _; rw [go_ar]; simp only [go_if, go_is]; rfl
  | _ =>
    rw [xr_step hd rfl]
    show none = _
    unfold xar
    split
    · dsimp only
      split <;> rfl
    · rfl
theorem r_invokestatic {i jj n : Nat} {as : List Value} (hd : decode (x_b j) pc = .ok (.invokestatic i, 3)) (hf : x_inv (x_oc j) i = some (0, jj, n)) (hn : as.length = n) : xrun d j pc ls (as.reverse ++ s) h = if (s.map fun v => v.category).sum ≤ 8 then xret' (xm d jj as h) fun v h' => xrun d j (pc + 3) ls (v.toList ++ s) h' else none := by
  rw [xr_step hd rfl]
  show xgo d j (match x_inv (x_oc j) i with | some (kd, jj, n) => _ | none => none) = _
  rw [hf]
  show xgo d j (if n ≤ (as.reverse ++ s).length then _ else none) = _
  have hl : as.reverse.length = n := by rw [List.length_reverse, hn]
  rw [if_pos (by rw [List.length_append, hl]; exact Nat.le_add_right _ _), List.take_left' hl, List.drop_left' hl, List.reverse_reverse]
  exact go_done
theorem r_invokevirtual {i jj n b ci : Nat} {as : List Value} (hd : decode (x_b j) pc = .ok (.invokevirtual i, 3)) (hf : x_inv (x_oc j) i = some (2, jj, n)) (hn : as.length = n) (hc : x_rc jj = ci) : xrun d j pc ls (as.reverse ++ .ref b :: s) h = xis h b ci (if (s.map fun v => v.category).sum ≤ 8 then xret' (xm d jj (.ref b :: as) h) fun v h' => xrun d j (pc + 3) ls (v.toList ++ s) h' else none) := by
  subst hc
  rw [xr_step hd rfl]
  show xgo d j (match x_inv (x_oc j) i with | some (kd, jj, n) => _ | none => none) = _
  rw [hf]
  show xgo d j (if 2 = 2 ∧ n ≤ (as.reverse ++ .ref b :: s).length then _ else none) = _
  have hl : as.reverse.length = n := by rw [List.length_reverse, hn]
  rw [if_pos ⟨rfl, by rw [List.length_append, hl]; exact Nat.le_add_right _ _⟩, List.take_left' hl, List.drop_left' hl, List.reverse_reverse]
  show xgo d j (xis h b _ _) = _
  rw [go_is, go_done]
theorem r_invokespecial {i jj n kd b : Nat} {as : List Value} (hd : decode (x_b j) pc = .ok (.invokespecial i, 3)) (hf : x_inv (x_oc j) i = some (kd, jj, n)) (hk : kd = 4 ∨ kd = 5) (hn : as.length = n) : xrun d j pc ls (as.reverse ++ .ref b :: s) h = if (s.map fun v => v.category).sum ≤ 8 then xret' (xm d jj (.ref b :: as) h) fun v h' => xrun d j (pc + 3) ls (v.toList ++ s) h' else none := by
  rw [xr_step hd rfl]
  show xgo d j (match x_inv (x_oc j) i with | some (kd, jj, n) => _ | none => none) = _
  rw [hf]
  have h6 : ¬ kd = 6 := by rcases hk with rfl | rfl <;> decide
  show xgo d j (if kd = 6 then _ else if (kd = 4 ∨ kd = 5) ∧ n ≤ (as.reverse ++ .ref b :: s).length then _ else none) = _
  have hl : as.reverse.length = n := by rw [List.length_reverse, hn]
  rw [if_neg h6, if_pos ⟨hk, by rw [List.length_append, hl]; exact Nat.le_add_right _ _⟩, List.take_left' hl, List.drop_left' hl, List.reverse_reverse]
  exact go_done
theorem go_nat {sk : List Value} {o : Option xS} : xgo d j (xnat d sk o) = if d ≠ 0 ∧ (sk.map fun v => v.category).sum ≤ 8 then xgo d j o else none := go_if
theorem r_objinit {i jj n a : Nat} (hd : decode (x_b j) pc = .ok (.invokespecial i, 3)) (hf : x_inv (x_oc j) i = some (6, jj, n)) : xrun d j pc ls (.ref a :: s) h = if d ≠ 0 ∧ (s.map fun v => v.category).sum ≤ 8 then xrun d j (pc + 3) ls s h else none := by
  rw [xr_step hd rfl]
  show xgo d j (match x_inv (x_oc j) i with | some (kd, jj, n) => _ | none => none) = _
  rw [hf]
  exact go_nat
theorem r_imin {i jj n : Nat} {x y : Int32} (hd : decode (x_b j) pc = .ok (.invokestatic i, 3)) (hf : x_inv (x_oc j) i = some (8, jj, n)) : xrun d j pc ls (.int y :: .int x :: s) h = if d ≠ 0 ∧ (s.map fun v => v.category).sum ≤ 8 then xrun d j (pc + 3) ls (.int (if y < x then y else x) :: s) h else none := by
  rw [xr_step hd rfl]
  show xgo d j (match x_inv (x_oc j) i with | some (kd, jj, n) => _ | none => none) = _
  rw [hf]
  exact go_nat
theorem r_imax {i jj n : Nat} {x y : Int32} (hd : decode (x_b j) pc = .ok (.invokestatic i, 3)) (hf : x_inv (x_oc j) i = some (9, jj, n)) : xrun d j pc ls (.int y :: .int x :: s) h = if d ≠ 0 ∧ (s.map fun v => v.category).sum ≤ 8 then xrun d j (pc + 3) ls (.int (if x < y then y else x) :: s) h else none := by
  rw [xr_step hd rfl]
  show xgo d j (match x_inv (x_oc j) i with | some (kd, jj, n) => _ | none => none) = _
  rw [hf]
  exact go_nat
theorem r_lmin {i jj n : Nat} {x y : Int64} (hd : decode (x_b j) pc = .ok (.invokestatic i, 3)) (hf : x_inv (x_oc j) i = some (10, jj, n)) : xrun d j pc ls (.long y :: .long x :: s) h = if d ≠ 0 ∧ (s.map fun v => v.category).sum ≤ 8 then xrun d j (pc + 3) ls (.long (if y < x then y else x) :: s) h else none := by
  rw [xr_step hd rfl]
  show xgo d j (match x_inv (x_oc j) i with | some (kd, jj, n) => _ | none => none) = _
  rw [hf]
  exact go_nat
theorem r_acopy {i jj n a a0 : Nat} {k dp sp : Int32} (hd : decode (x_b j) pc = .ok (.invokestatic i, 3)) (hf : x_inv (x_oc j) i = some (7, jj, n)) : xrun d j pc ls (.int k :: .int dp :: .ref a :: .int sp :: .ref a0 :: s) h = xar h a0 fun t0 n0 z0 => xar h a fun t1 n1 z1 =>
      if t0 = x_tI ∧ t1 = x_tI ∧ ¬ sp < 0 ∧ ¬ dp < 0 ∧ ¬ k < 0 ∧ sp.toNatClampNeg + k.toNatClampNeg ≤ n0 ∧ dp.toNatClampNeg + k.toNatClampNeg ≤ n1 ∧ (List.range k.toNatClampNeg).all (fun i => fits .int (z0 (sp.toNatClampNeg + i))) = true then
        (if d ≠ 0 ∧ (s.map fun v => v.category).sum ≤ 8 then xrun d j (pc + 3) ls s (xput h a (.inl (x_tI, n1, va_cpy z0 z1 sp.toNatClampNeg dp.toNatClampNeg k.toNatClampNeg))) else none) else none := by
  rw [xr_step hd rfl]
  show xgo d j (match x_inv (x_oc j) i with | some (kd, jj, n) => _ | none => none) = _
  rw [hf]
  show xgo d j (xar h a0 _) = _
  rw [go_ar]
  simp only [go_ar, go_if, go_nat]
  rfl
theorem r_ireturn {v : Int32} {ty : FieldType} (hd : decode (x_b j) pc = .ok (.ireturn, 1)) (hr : x_rt j = some ty) (hv : xokv ty (.int v) = true) : xrun d j pc ls [.int v] h = some (some (.int v), h) := by
  refine xr_fin hd ?_
  have : xret j (.int v) = true := by unfold xret; rw [hr]; exact hv
  show (if xret j (.int v) = true then _ else none) = _
  rw [if_pos this]
theorem r_lreturn {v : Int64} (hd : decode (x_b j) pc = .ok (.lreturn, 1)) (hr : x_rt j = some .long) : xrun d j pc ls [.long v] h = some (some (.long v), h) := by
  refine xr_fin hd ?_
  have : xret j (.long v) = true := by unfold xret; rw [hr]; unfold xokv; simp [narrow, fits]
  show (if xret j (.long v) = true then _ else none) = _
  rw [if_pos this]
theorem r_return (hd : decode (x_b j) pc = .ok (.return_, 1)) (hr : x_rt j = none) : xrun d j pc ls [] h = some (none, h) := by
  refine xr_fin hd ?_
  show (if x_rt j = none then _ else none) = _
  rw [if_pos hr]
theorem r_areturn {v : Value} {C : String} (hd : decode (x_b j) pc = .ok (.areturn, 1)) (hr : x_rt j = some (.object C)) : xrun d j pc ls [v] h = xcA v fun v => some (some v, h) := by
  cases v with
  | ref a =>
    refine xr_fin hd ?_
    have : xret j (.ref a) = true := by unfold xret; rw [hr]; unfold xokv; simp [narrow, fits]
    show (if xret j (.ref a) = true then _ else none) = _
    rw [if_pos this]
  | null =>
    refine xr_fin hd ?_
    have : xret j .null = true := by unfold xret; rw [hr]; unfold xokv; simp [narrow, fits]
    show (if xret j .null = true then _ else none) = _
    rw [if_pos this]
  | _ => rw [xr_step hd rfl]; rfl
/-- a method from its start -/
theorem xm_eq {as : List Value} (hj : j < x_n) (hc : as.map Value.category = x_cs j) : xm (d + 1) j as h = xrun d j 0 (xentL (x_nl j) (x_cs j) as) [] h := by
  show (if j < x_n ∧ as.map Value.category = x_cs j then _ else none) = _
  rw [if_pos ⟨hj, hc⟩]
  rfl
end Rows

