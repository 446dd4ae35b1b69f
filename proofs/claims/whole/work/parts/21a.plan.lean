/-! What the Move of good RULES tells. -/
/-- the RULE that sets slot s, and where its codes begin -/
def fnO (eo en : kE) (s : Nat) : Nat → List rT → Option (Nat × rT)
  | _, [] => none
  | c, r :: R => if ¬ r.1 = 2 ∧ ruSl en r = some s then some (c, r) else fnO eo en s (c + (ruCod eo r).length) R
def dpR (eo : kE) (m : Nat) (r : rT) : Bool := decide (r.1 = 2) && decide (eo.1 r.2.1 = some m)
def ktR (eo : kE) (m : Nat) (r : rT) : Bool := if r.1 = 2 then decide (eo.1 r.2.1 = some m) else if r.2.2.2.2.1 = true then decide (eo.1 (hdV r.2.2.2.2.2) = some m) else tld eo r.2.2.2.2.2 m
def cpO (eo : kE) (o : Option Nat) : Option (Nat × rT) → Option Nat
  | none => o
  | some q => if q.2.2.2.2.2.1 = true then eo.1 (hdV q.2.2.2.2.2.2) else o
def wkO (o : Nat × Nat) : Option (Nat × rT) → Nat × Nat
  | none => o
  | some q => if q.2.2.2.2.2.1 = true then o else (q.1, q.1 + q.2.2.2.2.2.2.length)
theorem drBad_n {ms : mS} {a : Nat} {o : Option Nat} (h : drBad ms a o = []) : ∃ m, o = some m ∧ ms.2.2.2.2.1 m = false := by
  cases o with
  | none => cases h
  | some m =>
    refine ⟨m, rfl, ?_⟩
    have h : (if ms.2.2.2.2.1 m = true then [a] else []) = [] := h
    split at h
    · cases h
    · rename_i q
      exact Bool.eq_false_iff.mpr q
theorem slBad_n {ms : mS} {a : Nat} {o : Option Nat} (h : slBad ms a o = []) : ∃ s, o = some s ∧ ms.1 s = false := by
  cases o with
  | none => cases h
  | some m =>
    refine ⟨m, rfl, ?_⟩
    have h : (if ms.1 m = true then [a] else []) = [] := h
    split at h
    · cases h
    · rename_i q
      exact Bool.eq_false_iff.mpr q
theorem juBad_n {eo : kE} {row : Bool} {a : Nat} {o : Option Nat} (h : juBad eo row a o = []) : ∃ m, o = some m ∧ eo.2.1 m = row := by
  cases o with
  | none => cases h
  | some m =>
    refine ⟨m, rfl, ?_⟩
    have h : (if eo.2.1 m = row then [] else [a]) = [] := h
    split at h
    · assumption
    · cases h
/-- a good RULE that sets something -/
theorem cruB_n {eo en : kE} {nN : Nat} {ms : mS} {r : rT} (h : cruB eo en nN ms r = []) (h2 : ¬ r.1 = 2) : ∃ s, ruSl en r = some s ∧ ms.1 s = false ∧ (r.2.2.2.2.1 = true → ∃ m, eo.1 (hdV r.2.2.2.2.2) = some m ∧ eo.2.1 m = slRow en nN (some s)) ∧ (¬ r.2.2.2.2.1 = true → r.2.2.2.2.2.flatMap (actB eo) = [] ∧ slRow en nN (some s) = false) := by
  unfold cruB at h
  rw [if_neg h2] at h
  obtain ⟨h3, h4⟩ := List.append_eq_nil_iff.mp h
  obtain ⟨s, e1, e2⟩ := slBad_n h3
  rw [e1] at h4
  refine ⟨s, e1, e2, fun hj => ?_, fun hj => ?_⟩
  · rw [if_pos hj] at h4
    exact juBad_n h4
  · rw [if_neg hj] at h4
    obtain ⟨h5, h6⟩ := List.append_eq_nil_iff.mp h4
    refine ⟨h5, ?_⟩
    split at h6
    · cases h6
    · rename_i q
      exact Bool.eq_false_iff.mpr q
theorem cruB_d {eo en : kE} {nN : Nat} {ms : mS} {r : rT} (h : cruB eo en nN ms r = []) (h2 : r.1 = 2) : ∃ m, eo.1 r.2.1 = some m ∧ ms.2.2.2.2.1 m = false := by
  unfold cruB at h
  rw [if_pos h2] at h
  exact drBad_n h
/-- what one RULE does -/
theorem rup_1 {eo en : kE} {nN c0 : Nat} {ms : mS} {r : rT} (h : cruB eo en nN ms r = []) : (∀ s, (ruStep eo en c0 ms r).1 s = (ms.1 s || decide (¬ r.1 = 2 ∧ ruSl en r = some s))) ∧ (∀ s, (ruStep eo en c0 ms r).2.1 s = if (¬ r.1 = 2 ∧ ruSl en r = some s) ∧ r.2.2.2.2.1 = true then eo.1 (hdV r.2.2.2.2.2) else ms.2.1 s) ∧ (∀ s, ((ruStep eo en c0 ms r).2.2.1 s, (ruStep eo en c0 ms r).2.2.2.1 s) = if (¬ r.1 = 2 ∧ ruSl en r = some s) ∧ ¬ r.2.2.2.2.1 = true then (c0, c0 + r.2.2.2.2.2.length) else (ms.2.2.1 s, ms.2.2.2.1 s)) ∧ (∀ m, (ruStep eo en c0 ms r).2.2.2.2.1 m = (ms.2.2.2.2.1 m || dpR eo m r)) ∧ ∀ m, (ruStep eo en c0 ms r).2.2.2.2.2 m = (ms.2.2.2.2.2 m || ktR eo m r) := by
  by_cases h2 : r.1 = 2
  · obtain ⟨m, e1, e2⟩ := cruB_d h h2
    have e : ruStep eo en c0 ms r = msDrop ms m := by
      unfold ruStep
      rw [if_pos h2, e1]
      show (if ms.2.2.2.2.1 m = true then ms else msDrop ms m) = _
      rw [if_neg (by rw [e2]; decide)]
    rw [e]
    refine ⟨fun s => ?_, fun s => ?_, fun s => ?_, fun q => ?_, fun q => ?_⟩
    · show ms.1 s = _
      rw [decide_eq_false (fun z => z.1 h2), Bool.or_false]
    · rw [if_neg (fun z => z.1.1 h2)]
      rfl
    · rw [if_neg (fun z => z.1.1 h2)]
      rfl
    · show up ms.2.2.2.2.1 m true q = _
      unfold up dpR
      rw [decide_eq_true h2, Bool.true_and, e1]
      by_cases c : q = m
      · rw [if_pos c, decide_eq_true (by rw [c]), Bool.or_true]
      · rw [if_neg c, decide_eq_false (fun z => c (Option.some.inj z).symm), Bool.or_false]
    · show up ms.2.2.2.2.2 m true q = _
      unfold up ktR
      rw [if_pos h2, e1]
      by_cases c : q = m
      · rw [if_pos c, decide_eq_true (by rw [c]), Bool.or_true]
      · rw [if_neg c, decide_eq_false (fun z => c (Option.some.inj z).symm), Bool.or_false]
  · obtain ⟨s, e1, e2, hj1, hj2⟩ := cruB_n h h2
    have ec : slClaim ms (ruSl en r) = msClaim ms s := by
      rw [e1]
      show (if ms.1 s = true then ms else msClaim ms s) = _
      rw [if_neg (by rw [e2]; decide)]
    have eA : ∀ q, up ms.1 s true q = (ms.1 q || decide (¬ r.1 = 2 ∧ ruSl en r = some q)) := by
      intro q
      unfold up
      by_cases c : q = s
      · rw [if_pos c, decide_eq_true (⟨h2, by rw [e1, c]⟩ : ¬ r.1 = 2 ∧ ruSl en r = some q), Bool.or_true]
      · rw [if_neg c, decide_eq_false (fun z : ¬ r.1 = 2 ∧ ruSl en r = some q => c (by
          have := z.2
          rw [e1] at this
          exact (Option.some.inj this).symm)), Bool.or_false]
    have eD : ∀ q, ms.2.2.2.2.1 q = (ms.2.2.2.2.1 q || dpR eo q r) := by
      intro q
      unfold dpR
      rw [decide_eq_false h2, Bool.false_and, Bool.or_false]
    by_cases hj : r.2.2.2.2.1 = true
    · obtain ⟨m, e3, e4⟩ := hj1 hj
      have e : ruStep eo en c0 ms r = msCopy (msClaim ms s) s m := by
        unfold ruStep
        rw [if_neg h2, if_pos hj, ec, e1, e3]
        rfl
      rw [e]
      refine ⟨eA, fun q => ?_, fun q => ?_, eD, fun q => ?_⟩
      · show up ms.2.1 s (some m) q = _
        unfold up
        by_cases c : q = s
        · rw [if_pos c, if_pos ⟨⟨h2, by rw [e1, c]⟩, hj⟩, e3]
        · rw [if_neg c, if_neg (fun z => c (by
            have := z.1.2
            rw [e1] at this
            exact (Option.some.inj this).symm))]
      · rw [if_neg (fun z => z.2 hj)]
        rfl
      · show up ms.2.2.2.2.2 m true q = _
        unfold up ktR
        rw [if_neg h2, if_pos hj, e3]
        by_cases c : q = m
        · rw [if_pos c, decide_eq_true (by rw [c]), Bool.or_true]
        · rw [if_neg c, decide_eq_false (fun z => c (Option.some.inj z).symm), Bool.or_false]
    · have e : ruStep eo en c0 ms r = msWork (msTold (msClaim ms s) (tld eo r.2.2.2.2.2)) s c0 (c0 + r.2.2.2.2.2.length) := by
        unfold ruStep
        rw [if_neg h2, if_neg hj, ec, e1]
        rfl
      rw [e]
      refine ⟨eA, fun q => ?_, fun q => ?_, eD, fun q => ?_⟩
      · rw [if_neg (fun z => hj z.2)]
        rfl
      · show (up ms.2.2.1 s c0 q, up ms.2.2.2.1 s (c0 + r.2.2.2.2.2.length) q) = _
        unfold up
        by_cases c : q = s
        · rw [if_pos c, if_pos c, if_pos ⟨⟨h2, by rw [e1, c]⟩, hj⟩]
        · rw [if_neg c, if_neg c, if_neg (fun z => c (by
            have := z.1.2
            rw [e1] at this
            exact (Option.some.inj this).symm))]
      · show (ms.2.2.2.2.2 q || tld eo r.2.2.2.2.2 q) = _
        unfold ktR
        rw [if_neg h2, if_neg hj]
theorem fnO_ahead {eo en : kE} {nN s : Nat} : ∀ (R : List rT) (c0 : Nat) (ms : mS), crusB eo en nN c0 ms R = [] → ms.1 s = true → ∀ c, fnO eo en s c R = none
  | [], c0, ms, h, hs, c => rfl
  | r :: R, c0, ms, h, hs, c => by
    obtain ⟨h1, h2⟩ := List.append_eq_nil_iff.mp (show cruB eo en nN ms r ++ crusB eo en nN (c0 + (ruCod eo r).length) (ruStep eo en c0 ms r) R = [] from h)
    show (if ¬ r.1 = 2 ∧ ruSl en r = some s then some (c, r) else fnO eo en s (c + (ruCod eo r).length) R) = none
    have hn : ¬ (¬ r.1 = 2 ∧ ruSl en r = some s) := by
      rintro ⟨z1, z2⟩
      obtain ⟨s', e1, e2, _⟩ := cruB_n h1 z1
      rw [z2] at e1
      cases e1
      rw [hs] at e2
      cases e2
    rw [if_neg hn]
    exact fnO_ahead R _ _ h2 (by rw [(rup_1 h1).1 s, hs]; rfl) _
/-- what all RULES do -/
theorem rus_1 {eo en : kE} {nN : Nat} : ∀ (R : List rT) (c0 : Nat) (ms : mS), crusB eo en nN c0 ms R = [] → (∀ s, (rusM eo en c0 ms R).1 s = (ms.1 s || (fnO eo en s c0 R).isSome)) ∧ (∀ s, (rusM eo en c0 ms R).2.1 s = cpO eo (ms.2.1 s) (fnO eo en s c0 R)) ∧ (∀ s, ((rusM eo en c0 ms R).2.2.1 s, (rusM eo en c0 ms R).2.2.2.1 s) = wkO (ms.2.2.1 s, ms.2.2.2.1 s) (fnO eo en s c0 R)) ∧ (∀ m, (rusM eo en c0 ms R).2.2.2.2.1 m = (ms.2.2.2.2.1 m || R.any (dpR eo m))) ∧ ∀ m, (rusM eo en c0 ms R).2.2.2.2.2 m = (ms.2.2.2.2.2 m || R.any (ktR eo m))
  | [], c0, ms, h => ⟨fun s => (Bool.or_false _).symm, fun s => rfl, fun s => rfl, fun m => (Bool.or_false _).symm, fun m => (Bool.or_false _).symm⟩
  | r :: R, c0, ms, h => by
    obtain ⟨h1, h2⟩ := List.append_eq_nil_iff.mp (show cruB eo en nN ms r ++ crusB eo en nN (c0 + (ruCod eo r).length) (ruStep eo en c0 ms r) R = [] from h)
    obtain ⟨a1, a2, a3, a4, a5⟩ := rup_1 (c0 := c0) h1
    obtain ⟨b1, b2, b3, b4, b5⟩ := rus_1 R (c0 + (ruCod eo r).length) (ruStep eo en c0 ms r) h2
    have ef : ∀ s, fnO eo en s c0 (r :: R) = if ¬ r.1 = 2 ∧ ruSl en r = some s then some (c0, r) else fnO eo en s (c0 + (ruCod eo r).length) R := fun s => rfl
    have en0 : ∀ s, (¬ r.1 = 2 ∧ ruSl en r = some s) → fnO eo en s (c0 + (ruCod eo r).length) R = none := fun s hs => fnO_ahead R _ _ h2 (by rw [a1 s, decide_eq_true hs, Bool.or_true]) _
    refine ⟨fun s => ?_, fun s => ?_, fun s => ?_, fun m => ?_, fun m => ?_⟩
    · show (rusM eo en (c0 + (ruCod eo r).length) (ruStep eo en c0 ms r) R).1 s = _
      rw [b1 s, a1 s, ef s]
      by_cases hs : ¬ r.1 = 2 ∧ ruSl en r = some s
      · rw [if_pos hs, en0 s hs, decide_eq_true hs]
        cases ms.1 s <;> rfl
      · rw [if_neg hs, decide_eq_false hs, Bool.or_false]
    · show (rusM eo en (c0 + (ruCod eo r).length) (ruStep eo en c0 ms r) R).2.1 s = _
      rw [b2 s, a2 s, ef s]
      by_cases hs : ¬ r.1 = 2 ∧ ruSl en r = some s
      · rw [if_pos hs, en0 s hs]
        show (if (¬ r.1 = 2 ∧ ruSl en r = some s) ∧ r.2.2.2.2.1 = true then eo.1 (hdV r.2.2.2.2.2) else ms.2.1 s) = if r.2.2.2.2.1 = true then eo.1 (hdV r.2.2.2.2.2) else ms.2.1 s
        by_cases hj : r.2.2.2.2.1 = true
        · rw [if_pos ⟨hs, hj⟩, if_pos hj]
        · rw [if_neg (fun z => hj z.2), if_neg hj]
      · rw [if_neg hs, if_neg (fun z => hs z.1)]
    · show ((rusM eo en (c0 + (ruCod eo r).length) (ruStep eo en c0 ms r) R).2.2.1 s, (rusM eo en (c0 + (ruCod eo r).length) (ruStep eo en c0 ms r) R).2.2.2.1 s) = _
      rw [b3 s, a3 s, ef s]
      by_cases hs : ¬ r.1 = 2 ∧ ruSl en r = some s
      · rw [if_pos hs, en0 s hs]
        show (if (¬ r.1 = 2 ∧ ruSl en r = some s) ∧ ¬ r.2.2.2.2.1 = true then (c0, c0 + r.2.2.2.2.2.length) else (ms.2.2.1 s, ms.2.2.2.1 s)) = if r.2.2.2.2.1 = true then (ms.2.2.1 s, ms.2.2.2.1 s) else (c0, c0 + r.2.2.2.2.2.length)
        by_cases hj : r.2.2.2.2.1 = true
        · rw [if_neg (fun z => z.2 hj), if_pos hj]
        · rw [if_pos ⟨hs, hj⟩, if_neg hj]
      · rw [if_neg hs, if_neg (fun z => hs z.1)]
    · show (rusM eo en (c0 + (ruCod eo r).length) (ruStep eo en c0 ms r) R).2.2.2.2.1 m = _
      rw [b4 m, a4 m, List.any_cons, Bool.or_assoc]
    · show (rusM eo en (c0 + (ruCod eo r).length) (ruStep eo en c0 ms r) R).2.2.2.2.2 m = _
      rw [b5 m, a5 m, List.any_cons, Bool.or_assoc]
/-- what inherit does -/
theorem ih_1 {eo en : kE} {nm : Nat → Int64} : ∀ (k i : Nat) (ms : mS), (∀ s, (ihP eo en nm k i ms).1 s = ms.1 s) ∧ (∀ s, (ihP eo en nm k i ms).2.1 s = if i ≤ s ∧ s < i + k then (match ihW eo en nm ms s with | some q => some q | none => ms.2.1 s) else ms.2.1 s) ∧ (∀ s, (ihP eo en nm k i ms).2.2.1 s = ms.2.2.1 s ∧ (ihP eo en nm k i ms).2.2.2.1 s = ms.2.2.2.1 s) ∧ (∀ m, (ihP eo en nm k i ms).2.2.2.2.1 m = ms.2.2.2.2.1 m) ∧ ∀ m, (ihP eo en nm k i ms).2.2.2.2.2 m = true ↔ ms.2.2.2.2.2 m = true ∨ ∃ s, i ≤ s ∧ s < i + k ∧ ihW eo en nm ms s = some m
  | 0, i, ms => ⟨fun s => rfl, fun s => by rw [if_neg (by omega)]; rfl, fun s => ⟨rfl, rfl⟩, fun m => rfl, fun m => ⟨fun h => Or.inl h, fun h => by
      rcases h with h | ⟨s, h1, h2, _⟩
      · exact h
      · omega⟩⟩
  | k + 1, i, ms => by
    have e1 : (∀ s, (ihM eo en nm ms i).1 s = ms.1 s) ∧ (∀ s, (ihM eo en nm ms i).2.1 s = if s = i then (match ihW eo en nm ms i with | some q => some q | none => ms.2.1 s) else ms.2.1 s) ∧ (∀ s, (ihM eo en nm ms i).2.2.1 s = ms.2.2.1 s ∧ (ihM eo en nm ms i).2.2.2.1 s = ms.2.2.2.1 s) ∧ (∀ m, (ihM eo en nm ms i).2.2.2.2.1 m = ms.2.2.2.2.1 m) ∧ ∀ m, (ihM eo en nm ms i).2.2.2.2.2 m = true ↔ ms.2.2.2.2.2 m = true ∨ ihW eo en nm ms i = some m := by
      unfold ihM
      cases ihW eo en nm ms i with
      | none => exact ⟨fun s => rfl, fun s => by split <;> rfl, fun s => ⟨rfl, rfl⟩, fun m => rfl, fun m => ⟨fun h => Or.inl h, fun h => by
          rcases h with h | h
          · exact h
          · cases h⟩⟩
      | some q =>
        refine ⟨fun s => rfl, fun s => ?_, fun s => ⟨rfl, rfl⟩, fun m => rfl, fun m => ?_⟩
        · show up ms.2.1 i (some q) s = _
          unfold up
          rfl
        · show up ms.2.2.2.2.2 q true m = true ↔ _
          unfold up
          by_cases c : m = q
          · rw [if_pos c, c]
            exact ⟨fun _ => Or.inr rfl, fun _ => rfl⟩
          · rw [if_neg c]
            exact ⟨fun h => Or.inl h, fun h => by
              rcases h with h | h
              · exact h
              · exact absurd (Option.some.inj h).symm c⟩
    obtain ⟨c1, c2, c3, c4, c5⟩ := e1
    obtain ⟨b1, b2, b3, b4, b5⟩ := ih_1 (eo := eo) (en := en) (nm := nm) k (i + 1) (ihM eo en nm ms i)
    have ew : ∀ s, ihW eo en nm (ihM eo en nm ms i) s = ihW eo en nm ms s := by
      intro s
      unfold ihW
      rw [c1 s]
      cases eo.1 (nm s) with
      | none => rfl
      | some q =>
        show (if ms.1 s = true then none else if (ihM eo en nm ms i).2.2.2.2.1 q = false ∧ eo.2.1 q = en.2.1 s then some q else none) = (if ms.1 s = true then none else if ms.2.2.2.2.1 q = false ∧ eo.2.1 q = en.2.1 s then some q else none)
        rw [c4 q]
    refine ⟨fun s => (b1 s).trans (c1 s), fun s => ?_, fun s => ⟨(b3 s).1.trans (c3 s).1, (b3 s).2.trans (c3 s).2⟩, fun m => (b4 m).trans (c4 m), fun m => ?_⟩
    · show (ihP eo en nm k (i + 1) (ihM eo en nm ms i)).2.1 s = _
      rw [b2 s, ew s, c2 s]
      by_cases hs : s = i
      · subst hs
        rw [if_neg (by omega), if_pos rfl, if_pos (by omega)]
      · rw [if_neg hs]
        by_cases hk : i + 1 ≤ s ∧ s < i + 1 + k
        · rw [if_pos hk, if_pos (by omega)]
        · rw [if_neg hk, if_neg (by omega)]
    · show (ihP eo en nm k (i + 1) (ihM eo en nm ms i)).2.2.2.2.2 m = true ↔ _
      rw [b5 m, c5 m]
      constructor
      · rintro ((h | h) | ⟨s, h1, h2, h3⟩)
        · exact Or.inl h
        · exact Or.inr ⟨i, by omega, by omega, h⟩
        · rw [ew s] at h3
          exact Or.inr ⟨s, by omega, by omega, h3⟩
      · rintro (h | ⟨s, h1, h2, h3⟩)
        · exact Or.inl (Or.inl h)
        · by_cases hs : s = i
          · subst hs
            exact Or.inl (Or.inr h3)
          · exact Or.inr ⟨s, by omega, by omega, by rw [ew s]; exact h3⟩
