def xe (d : Nat) (call : Nat → List Value → xH → Option xR) (j : Nat) : Nat → Nat → xL → List Value → xH → Option xR
  | 0 => fun _ _ _ _ => none
  | n + 1 => fun pc ls st h => match decode (x_b j) pc with
    | .ok (ins, len) => (match xfin j ins len st with
      | some v => some (v, h)
      | none => match xs d call j ins len pc ls st h with
        | some (pc', ls', st', h') => xe d call j n pc' ls' st' h'
        | none => none)
    | .error _ => none
theorem xe_succ {d : Nat} {call : Nat → List Value → xH → Option xR} {j n pc : Nat} {ls : xL} {st : List Value} {h : xH} {ins : Jvm.ClassFile.Instr} {len : Nat} (hd : decode (x_b j) pc = .ok (ins, len)) :
    xe d call j (n + 1) pc ls st h = (match xfin j ins len st with
      | some v => some (v, h)
      | none => match xs d call j ins len pc ls st h with
        | some (pc', ls', st', h') => xe d call j n pc' ls' st' h'
        | none => none) := by
  show (match decode (x_b j) pc with
    | .ok (ins, len) => (match xfin j ins len st with
      | some v => some (v, h)
      | none => match xs d call j ins len pc ls st h with
        | some (pc', ls', st', h') => xe d call j n pc' ls' st' h'
        | none => none)
    | .error _ => none) = _
  rw [hd]
theorem xe_up {d : Nat} {call : Nat → List Value → xH → Option xR} {j : Nat} : ∀ {n pc : Nat} {ls : xL} {st : List Value} {h : xH} {r : xR}, xe d call j n pc ls st h = some r → xe d call j (n + 1) pc ls st h = some r
  | 0, _, _, _, _, _, e => by cases e
  | n + 1, pc, ls, st, h, r, e => by
    cases hd : decode (x_b j) pc with
    | error x => simp [xe, hd] at e
    | ok q =>
      obtain ⟨ins, len⟩ := q
      rw [xe_succ hd] at e ⊢
      split at e
      · exact e
      · split at e
        · exact xe_up e
        · cases e
theorem xe_le {d : Nat} {call : Nat → List Value → xH → Option xR} {j n k pc : Nat} {ls : xL} {st : List Value} {h : xH} {r : xR} (e : xe d call j n pc ls st h = some r) : xe d call j (n + k) pc ls st h = some r := by
  induction k with
  | zero => exact e
  | succ k ih => exact xe_up ih
theorem xe_det {d : Nat} {call : Nat → List Value → xH → Option xR} {j n k pc : Nat} {ls : xL} {st : List Value} {h : xH} {r q : xR} (e : xe d call j n pc ls st h = some r) (f : xe d call j k pc ls st h = some q) : r = q := by
  have e1 := xe_le (k := k) e
  have f1 := xe_le (k := n) f
  rw [Nat.add_comm] at f1
  rw [e1] at f1
  exact Option.some.inj f1
noncomputable def xrunc (d : Nat) (call : Nat → List Value → xH → Option xR) (j pc : Nat) (ls : xL) (st : List Value) (h : xH) : Option xR :=
  @dite (Option xR) (∃ r n, xe d call j n pc ls st h = some r) (Classical.propDecidable _) (fun w => some (Classical.choose w)) (fun _ => none)
theorem xrunc_of {d : Nat} {call : Nat → List Value → xH → Option xR} {j n pc : Nat} {ls : xL} {st : List Value} {h : xH} {r : xR} (e : xe d call j n pc ls st h = some r) : xrunc d call j pc ls st h = some r := by
  have w : ∃ r n, xe d call j n pc ls st h = some r := ⟨r, n, e⟩
  unfold xrunc
  rw [dif_pos w]
  obtain ⟨k, hk⟩ := Classical.choose_spec w
  rw [xe_det hk e]
theorem xrunc_to {d : Nat} {call : Nat → List Value → xH → Option xR} {j pc : Nat} {ls : xL} {st : List Value} {h : xH} {r : xR} (e : xrunc d call j pc ls st h = some r) : ∃ n, xe d call j n pc ls st h = some r := by
  unfold xrunc at e
  split at e
  · rename_i w
    obtain ⟨k, hk⟩ := Classical.choose_spec w
    exact ⟨k, by rw [hk]; exact e⟩
  · cases e
theorem xrunc_step {d : Nat} {call : Nat → List Value → xH → Option xR} {j pc : Nat} {ls : xL} {st : List Value} {h : xH} {ins : Jvm.ClassFile.Instr} {len : Nat} (hd : decode (x_b j) pc = .ok (ins, len)) :
    xrunc d call j pc ls st h = (match xfin j ins len st with
      | some v => some (v, h)
      | none => match xs d call j ins len pc ls st h with
        | some (pc', ls', st', h') => xrunc d call j pc' ls' st' h'
        | none => none) := by
  cases hf : xfin j ins len st with
  | some v => exact xrunc_of (n := 1) (by rw [xe_succ hd, hf])
  | none =>
    cases hs : xs d call j ins len pc ls st h with
    | none =>
      cases hq : xrunc d call j pc ls st h with
      | none => rfl
      | some r =>
        obtain ⟨n, hn⟩ := xrunc_to hq
        cases n with
        | zero => cases hn
        | succ n =>
          rw [xe_succ hd, hf, hs] at hn
          cases hn
    | some q =>
      obtain ⟨pc', ls', st', h'⟩ := q
      show _ = xrunc d call j pc' ls' st' h'
      cases hr : xrunc d call j pc' ls' st' h' with
      | some r =>
        obtain ⟨n, hn⟩ := xrunc_to hr
        exact xrunc_of (n := n + 1) (by rw [xe_succ hd, hf, hs]; exact hn)
      | none =>
        cases hq : xrunc d call j pc ls st h with
        | none => rfl
        | some r =>
          obtain ⟨n, hn⟩ := xrunc_to hq
          cases n with
          | zero => cases hn
          | succ n =>
            rw [xe_succ hd, hf, hs] at hn
            rw [xrunc_of hn] at hr
            cases hr
/-- method j, with arguments as, on heap h; d: how deep calls may go -/
noncomputable def xm : Nat → Nat → List Value → xH → Option xR
  | 0 => fun _ _ _ => none
  | d + 1 => fun j as h => if j < x_n ∧ as.map Value.category = x_cs j then xrunc d (xm d) j 0 (xentL (x_nl j) (x_cs j) as) [] h else none
/-- method j at place pc, within calls d deep -/
noncomputable def xrun (d j pc : Nat) (ls : xL) (st : List Value) (h : xH) : Option xR := xrunc d (xm d) j pc ls st h
