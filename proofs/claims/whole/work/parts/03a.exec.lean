/-! AN ABSTRACT MACHINE: what a method does, as a function of its arguments and of a heap of cells that are spoken of by address.
    Nothing here is about the real machine: part 04 shows that what this one answers the real one does. -/
/-- a cell: an array (place of its type in x_at, length, contents) or an object (number of its class in x_cl, fields) -/
abbrev xE : Type := (Nat × Nat × (Nat → Value)) ⊕ (Nat × List Value)
/-- a heap: cells by address; base (nothing below it may be written); next address; slots made so far -/
abbrev xH : Type := (Nat → Option xE) × Nat × Nat × Nat
abbrev xR : Type := Option Value × xH
/-- locals by place: 0 nothing known, 1 a value of one slot, 2 a value of two -/
abbrev xL : Type := List (Nat × Value)
abbrev xS : Type := Nat × xL × List Value × xH
def xput (h : xH) (a : Nat) (e : xE) : xH := (va_up h.1 a (some e), h.2.1, h.2.2.1, h.2.2.2)
def xmk (h : xH) (e : xE) (n : Nat) : xH := (va_up h.1 h.2.2.1 (some e), h.2.1, h.2.2.1 + 1, h.2.2.2 + n)
def xent : List Nat → List Value → xL
  | [], _ => []
  | _, [] => []
  | 2 :: cs, v :: vs => (2, v) :: (0, .null) :: xent cs vs
  | _ :: cs, v :: vs => (1, v) :: xent cs vs
def xentL (n : Nat) (cs : List Nat) (vs : List Value) : xL := xent cs vs ++ List.replicate (n - (xent cs vs).length) (0, Value.null)
/-- the place ahead of i holds a value of two slots: it is lost -/
def xclr (ls : xL) (i : Nat) : xL := match i with
  | 0 => ls
  | i + 1 => match ls[i]? with
    | some (2, _) => ls.set i (0, .null)
    | _ => ls
def xst1 (ls : xL) (i : Nat) (v : Value) : xL := (xclr ls i).set i (1, v)
def xst2 (ls : xL) (i : Nat) (v : Value) : xL := ((xclr ls i).set i (2, v)).set (i + 1) (0, .null)
section Pick
variable {α : Type}
def xqI (st : List Value) (f : Int32 → List Value → Option α) : Option α := match st with | .int x :: s => f x s | _ => none
def xqII (st : List Value) (f : Int32 → Int32 → List Value → Option α) : Option α := match st with | .int y :: .int x :: s => f x y s | _ => none
def xqL (st : List Value) (f : Int64 → List Value → Option α) : Option α := match st with | .long x :: s => f x s | _ => none
def xqLL (st : List Value) (f : Int64 → Int64 → List Value → Option α) : Option α := match st with | .long y :: .long x :: s => f x y s | _ => none
def xqLI (st : List Value) (f : Int64 → Int32 → List Value → Option α) : Option α := match st with | .int y :: .long x :: s => f x y s | _ => none
def xqR (st : List Value) (f : Nat → List Value → Option α) : Option α := match st with | .ref a :: s => f a s | _ => none
def xqIR (st : List Value) (f : Nat → Int32 → List Value → Option α) : Option α := match st with | .int i :: .ref a :: s => f a i s | _ => none
def xqV (st : List Value) (f : Value → List Value → Option α) : Option α := match st with | v :: s => f v s | _ => none
/-- a reference or null -/
def xqA (st : List Value) (f : Option Nat → List Value → Option α) : Option α := match st with | .ref a :: s => f (some a) s | .null :: s => f none s | _ => none
def xlc (ls : xL) (i c : Nat) (f : Value → Option α) : Option α := match ls[i]? with | some (t, v) => if t = c then f v else none | none => none
def xcI (v : Value) (f : Int32 → Option α) : Option α := match v with | .int x => f x | _ => none
def xcL (v : Value) (f : Int64 → Option α) : Option α := match v with | .long x => f x | _ => none
def xcA (v : Value) (f : Value → Option α) : Option α := match v with | .ref a => f (.ref a) | .null => f .null | _ => none
/-- field k of the object at a, of class ci -/
def xgf (h : xH) (a ci k : Nat) (f : Value → Option α) : Option α := match h.1 a with
  | some (.inr (c, fs)) => if c = ci then (match fs[k]? with | some v => f v | none => none) else none
  | _ => none
/-- the array at a: place of its type, length, contents -/
def xar (h : xH) (a : Nat) (f : Nat → Nat → (Nat → Value) → Option α) : Option α := match h.1 a with
  | some (.inl (t, n, z)) => f t n z
  | _ => none
end Pick
theorem xqI_inv {α : Type} {st : List Value} {f : Int32 → List Value → Option α} {r : α} (h : xqI st f = some r) : ∃ x s, st = .int x :: s ∧ f x s = some r := by
  unfold xqI at h; split at h
  · exact ⟨_, _, rfl, h⟩
  · cases h
theorem xqII_inv {α : Type} {st : List Value} {f : Int32 → Int32 → List Value → Option α} {r : α} (h : xqII st f = some r) : ∃ x y s, st = .int y :: .int x :: s ∧ f x y s = some r := by
  unfold xqII at h; split at h
  · exact ⟨_, _, _, rfl, h⟩
  · cases h
theorem xqL_inv {α : Type} {st : List Value} {f : Int64 → List Value → Option α} {r : α} (h : xqL st f = some r) : ∃ x s, st = .long x :: s ∧ f x s = some r := by
  unfold xqL at h; split at h
  · exact ⟨_, _, rfl, h⟩
  · cases h
theorem xqLL_inv {α : Type} {st : List Value} {f : Int64 → Int64 → List Value → Option α} {r : α} (h : xqLL st f = some r) : ∃ x y s, st = .long y :: .long x :: s ∧ f x y s = some r := by
  unfold xqLL at h; split at h
  · exact ⟨_, _, _, rfl, h⟩
  · cases h
theorem xqLI_inv {α : Type} {st : List Value} {f : Int64 → Int32 → List Value → Option α} {r : α} (h : xqLI st f = some r) : ∃ x y s, st = .int y :: .long x :: s ∧ f x y s = some r := by
  unfold xqLI at h; split at h
  · exact ⟨_, _, _, rfl, h⟩
  · cases h
theorem xqR_inv {α : Type} {st : List Value} {f : Nat → List Value → Option α} {r : α} (h : xqR st f = some r) : ∃ a s, st = .ref a :: s ∧ f a s = some r := by
  unfold xqR at h; split at h
  · exact ⟨_, _, rfl, h⟩
  · cases h
theorem xqIR_inv {α : Type} {st : List Value} {f : Nat → Int32 → List Value → Option α} {r : α} (h : xqIR st f = some r) : ∃ a i s, st = .int i :: .ref a :: s ∧ f a i s = some r := by
  unfold xqIR at h; split at h
  · exact ⟨_, _, _, rfl, h⟩
  · cases h
theorem xqV_inv {α : Type} {st : List Value} {f : Value → List Value → Option α} {r : α} (h : xqV st f = some r) : ∃ v s, st = v :: s ∧ f v s = some r := by
  unfold xqV at h; split at h
  · exact ⟨_, _, rfl, h⟩
  · cases h
theorem xqA_inv {α : Type} {st : List Value} {f : Option Nat → List Value → Option α} {r : α} (h : xqA st f = some r) : ∃ a s, st = va_rf a :: s ∧ f a s = some r := by
  unfold xqA at h; split at h
  · exact ⟨some _, _, rfl, h⟩
  · exact ⟨none, _, rfl, h⟩
  · cases h
theorem xlc_inv {α : Type} {ls : xL} {i c : Nat} {f : Value → Option α} {r : α} (h : xlc ls i c f = some r) : ∃ v, ls[i]? = some (c, v) ∧ f v = some r := by
  unfold xlc at h; split at h
  · rename_i t v e
    by_cases hc : t = c
    · subst hc; rw [if_pos rfl] at h; exact ⟨v, e, h⟩
    · rw [if_neg hc] at h; cases h
  · cases h
theorem xcI_inv {α : Type} {v : Value} {f : Int32 → Option α} {r : α} (h : xcI v f = some r) : ∃ x, v = .int x ∧ f x = some r := by
  unfold xcI at h; split at h
  · exact ⟨_, rfl, h⟩
  · cases h
theorem xcL_inv {α : Type} {v : Value} {f : Int64 → Option α} {r : α} (h : xcL v f = some r) : ∃ x, v = .long x ∧ f x = some r := by
  unfold xcL at h; split at h
  · exact ⟨_, rfl, h⟩
  · cases h
theorem xcA_inv {α : Type} {v : Value} {f : Value → Option α} {r : α} (h : xcA v f = some r) : ((∃ a, v = .ref a) ∨ v = .null) ∧ f v = some r := by
  unfold xcA at h; split at h
  · exact ⟨Or.inl ⟨_, rfl⟩, h⟩
  · exact ⟨Or.inr rfl, h⟩
  · cases h
theorem xgf_inv {α : Type} {h : xH} {a ci k : Nat} {f : Value → Option α} {r : α} (e : xgf h a ci k f = some r) : ∃ fs v, h.1 a = some (.inr (ci, fs)) ∧ fs[k]? = some v ∧ f v = some r := by
  unfold xgf at e; split at e
  · rename_i c fs e1
    by_cases hc : c = ci
    · subst hc; rw [if_pos rfl] at e
      split at e
      · rename_i v e2; exact ⟨fs, v, e1, e2, e⟩
      · cases e
    · rw [if_neg hc] at e; cases e
  · cases e
theorem xar_inv {α : Type} {h : xH} {a : Nat} {f : Nat → Nat → (Nat → Value) → Option α} {r : α} (e : xar h a f = some r) : ∃ t n z, h.1 a = some (.inl (t, n, z)) ∧ f t n z = some r := by
  unfold xar at e; split at e
  · exact ⟨_, _, _, by assumption, e⟩
  · cases e
