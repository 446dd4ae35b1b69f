/-! What class and reference know of a CLASS. -/
theorem fndF_cg {f g : Nat → Int64} {w : Int64} : ∀ (k i : Nat), (∀ j, i ≤ j → j < i + k → f j = g j) → fndF f w k i = fndF g w k i
  | 0, i, _ => rfl
  | k + 1, i, h => by
    rw [fndF_s, fndF_s, h i (Nat.le_refl _) (by omega), fndF_cg k (i + 1) (fun j h1 h2 => h j (by omega) (by omega))]
theorem fnd_cg {f g : Nat → Int64} {w : Int64} {n : Nat} (h : ∀ j, j < n → f j = g j) : fnd f w n = fnd g w n := fndF_cg n 0 (fun j _ h2 => h j (by omega))
theorem fnd_inj {f : Nat → Int64} {n : Nat} {v w : Int64} {m : Nat} (h1 : fnd f v n = some m) (h2 : fnd f w n = some m) : v = w := (fnd_lt h1).2.symm.trans (fnd_lt h2).2
theorem eC_kG {SK : gS} {n : Nat} (hn : n ≤ 8) : kG (eC SK n) n := ⟨hn, fun _ _ _ h1 h2 => fnd_inj (f := sL SK 1) h1 h2, fun _ _ h => (fnd_lt (f := sL SK 1) h).1⟩
theorem eK_kG {S : gS} {mN : Nat → Nat} {b c : Nat} (hn : mN (6 * b + c) ≤ 8) : kG (eK S mN b c) (mN (6 * b + c)) := ⟨hn, fun _ _ _ h1 h2 => fnd_inj (f := fun i => sL S 3 (8 * (6 * b + c) + i)) h1 h2, fun _ _ h => (fnd_lt (f := fun i => sL S 3 (8 * (6 * b + c) + i)) h).1⟩
theorem fC_inj {S : gS} {cN : Nat → Nat} {b : Nat} : ∀ v w c, fC S cN b v = some c → fC S cN b w = some c → v = w := fun _ _ _ h1 h2 => fnd_inj (f := fun c => sL S 1 (6 * b + c)) h1 h2
theorem bF_inj {n : Nat} {SK : Nat → gS} : ∀ v w c, bF n SK v = some c → bF n SK w = some c → v = w := fun _ _ _ h1 h2 => fnd_inj (f := fun i => sJ (SK i) 0) h1 h2
/-- two views of a CLASS that tell the same -/
def eqE (a b : kE) : Prop := (∀ w, a.1 w = b.1 w) ∧ ∀ w m, a.1 w = some m → a.2.1 m = b.2.1 m ∧ a.2.2 m = b.2.2 m
theorem eC_eK {SK S : gS} {mN : Nat → Nat} {b c : Nat} (h : ∀ m, m < mN (6 * b + c) → sL SK 1 m = sL S 3 (8 * (6 * b + c) + m) ∧ sA SK 2 m = sA S 4 (8 * (6 * b + c) + m) ∧ kRow SK m = rw_ S (8 * (6 * b + c) + m)) : eqE (eC SK (mN (6 * b + c))) (eK S mN b c) := by
  refine ⟨fun w => fnd_cg fun j hj => (h j hj).1, fun w m hm => ?_⟩
  have hl := (fnd_lt (f := sL SK 1) hm).1
  refine ⟨(h m hl).2.2, ?_⟩
  show decide (¬ sA SK 2 m ≤ nI 5) = decide (¬ sA S 4 (8 * (6 * b + c) + m) ≤ nI 5)
  rw [(h m hl).2.1]
theorem actB_eq {a b : kE} (h : eqE a b) (x : aT) : actB a x = actB b x := by
  unfold actB
  by_cases hn : x.1 = nI 3 ∨ x.1 = nI 4 ∨ x.1 = nI 5
  · rw [if_pos hn, if_pos hn, ← h.1 x.2.1]
    cases hm : a.1 x.2.1 with
    | none => rfl
    | some m =>
      obtain ⟨e1, e2⟩ := h.2 _ _ hm
      show (if (if x.1 = nI 5 then a.2.1 m else (!a.2.2 m && (if x.1 = nI 4 then a.2.1 m else !a.2.1 m))) = true then [] else [x.2.2]) = (if (if x.1 = nI 5 then b.2.1 m else (!b.2.2 m && (if x.1 = nI 4 then b.2.1 m else !b.2.1 m))) = true then [] else [x.2.2])
      rw [e1, e2]
  · rw [if_neg hn, if_neg hn]
theorem ruM1_eq {a b c d : kE} (h : eqE a b) (k : eqE c d) (r : rT) : ruM1 a c r = ruM1 b d r := by
  unfold ruM1
  rw [h.1, k.1]
theorem laB_eq {a b : kE} (h : eqE a b) (r : rT) : laB a r = laB b r := by
  unfold laB
  rw [h.1, show actB a = actB b from funext (actB_eq h)]
theorem beB_eq {a b c d : kE} (h : eqE a b) (k : eqE c d) (r : rT) : beB a c r = beB b d r := by
  unfold beB
  by_cases h1 : r.1 = 1
  · rw [if_pos h1, if_pos h1, ← k.1 r.2.1]
    cases hm : c.1 r.2.1 with
    | none => rfl
    | some m =>
      have e1 := (k.2 _ _ hm).1
      show (if r.2.2.2.2.1 = true then (match a.1 (hdV r.2.2.2.2.2) with
        | none => [r.2.2.2.1]
        | some q => if c.2.1 m = a.2.1 q then [] else [r.2.2.2.1])
        else (if c.2.1 m = true then [r.2.2.2.1] else [])) = (if r.2.2.2.2.1 = true then (match b.1 (hdV r.2.2.2.2.2) with
        | none => [r.2.2.2.1]
        | some q => if d.2.1 m = b.2.1 q then [] else [r.2.2.2.1])
        else (if d.2.1 m = true then [r.2.2.2.1] else []))
      rw [e1, ← h.1 (hdV r.2.2.2.2.2)]
      cases hq : a.1 (hdV r.2.2.2.2.2) with
      | none => rfl
      | some q =>
        have e2 := (h.2 _ _ hq).1
        show (if r.2.2.2.2.1 = true then (if d.2.1 m = a.2.1 q then [] else [r.2.2.2.1]) else (if d.2.1 m = true then [r.2.2.2.1] else [])) = (if r.2.2.2.2.1 = true then (if d.2.1 m = b.2.1 q then [] else [r.2.2.2.1]) else (if d.2.1 m = true then [r.2.2.2.1] else []))
        rw [e2]
  · rw [if_neg h1, if_neg h1]
theorem rusB_eq {a b c d : kE} (h : eqE a b) (k : eqE c d) : ∀ (R prev : List rT), rusB a c prev R = rusB b d prev R
  | [], prev => rfl
  | r :: R, prev => by
    show ruB a c prev r ++ rusB a c (prev ++ [r]) R = ruB b d prev r ++ rusB b d (prev ++ [r]) R
    have e : ruB a c prev r = ruB b d prev r := by
      unfold ruB atB
      rw [ruM1_eq h k r, beB_eq h k r, laB_eq h r]
    rw [e, rusB_eq h k R]
theorem moB_eq {fo ft : Int64 → Option Nat} {A B C D : Nat → kE} (h : ∀ v c, fo v = some c → eqE (A c) (B c)) (k : ∀ v c, ft v = some c → eqE (C c) (D c)) (prev : List mT) (m : mT) : moB fo ft A C prev m = moB fo ft B D prev m := by
  unfold moB
  cases hf : fo m.2.1 with
  | none => rfl
  | some c =>
    cases ht : ft m.2.2.2.1 with
    | none => rfl
    | some e =>
      have z := rusB_eq (h _ _ hf) (k _ _ ht) m.2.2.2.2.2 []
      show _ ++ (if m.1 = true then [] else _ ++ rusB (A c) (C e) [] m.2.2.2.2.2) = _ ++ (if m.1 = true then [] else _ ++ rusB (B c) (D e) [] m.2.2.2.2.2)
      rw [z]
theorem mosB_eq {fo ft : Int64 → Option Nat} {A B C D : Nat → kE} (h : ∀ v c, fo v = some c → eqE (A c) (B c)) (k : ∀ v c, ft v = some c → eqE (C c) (D c)) : ∀ (L prev : List mT), mosB fo ft A C prev L = mosB fo ft B D prev L
  | [], prev => rfl
  | m :: L, prev => by
    show moB fo ft A C prev m ++ mosB fo ft A C (prev ++ [m]) L = moB fo ft B D prev m ++ mosB fo ft B D (prev ++ [m]) L
    rw [moB_eq h k prev m, mosB_eq h k L]
