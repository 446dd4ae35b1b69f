/-! The places that the class notes of RULES, and the reference's: the same least. -/
theorem mnF_ge {a : Nat} : ∀ (L : List Nat) (z : Nat), (∀ x, x ∈ L → a ≤ x) → mnF L (min z a) = min z a
  | [], z, _ => rfl
  | b :: L, z, h => by
    have hb := h b List.mem_cons_self
    show mnF L (min (min z a) b) = min z a
    rw [show min (min z a) b = min z a by omega]
    exact mnF_ge L z (fun x hx => h x (List.mem_cons_of_mem _ hx))
def kG (e : kE) (n : Nat) : Prop := n ≤ 8 ∧ (∀ v w m, e.1 v = some m → e.1 w = some m → v = w) ∧ ∀ v m, e.1 v = some m → m < n
def nmA (a : aT) : Prop := a.1 = nI 3 ∨ a.1 = nI 4 ∨ a.1 = nI 5
def rG (r : rT) : Prop := r.1 ≤ 2 ∧ (r.1 = 0 → r.2.1 = 0) ∧ (¬ r.1 = 2 → r.2.2.1 ≤ r.2.2.2.1) ∧ (∀ a, a ∈ r.2.2.2.2.2 → nmA a → r.2.2.1 ≤ a.2.2) ∧ (r.2.2.2.2.1 = true → r.1 = 1 ∧ ∃ a, r.2.2.2.2.2 = [a] ∧ a.2.2 = r.2.2.2.1)
def stP (eo en : kE) (prev : List rT) (ms : mS) : Prop := (∀ s, ms.1 s = true ↔ ∃ x, x ∈ prev ∧ ¬ x.1 = 2 ∧ ruSl en x = some s) ∧ ∀ m, ms.2.2.2.2.1 m = true ↔ ∃ x, x ∈ prev ∧ x.1 = 2 ∧ eo.1 x.2.1 = some m
theorem stP_0 (eo en : kE) : stP eo en [] ms0 :=
  ⟨fun s => ⟨(fun z => by cases z), fun ⟨x, hx, _⟩ => absurd hx List.not_mem_nil⟩, fun m => ⟨(fun z => by cases z), fun ⟨x, hx, _⟩ => absurd hx List.not_mem_nil⟩⟩
theorem up_t {f : Nat → Bool} {i j : Nat} : up f i true j = true ↔ j = i ∨ f j = true := by
  unfold up
  by_cases h : j = i
  · rw [if_pos h]
    exact ⟨fun _ => Or.inl h, fun _ => rfl⟩
  · rw [if_neg h]
    exact ⟨fun z => Or.inr z, fun z => by rcases z with z | z; exact absurd z h; exact z⟩
theorem slClaim_1 (ms : mS) (sl : Option Nat) (s : Nat) : (slClaim ms sl).1 s = true ↔ sl = some s ∨ ms.1 s = true := by
  cases sl with
  | none => exact ⟨fun z => Or.inr z, fun z => by rcases z with z | z; cases z; exact z⟩
  | some q =>
    show (if ms.1 q = true then ms else msClaim ms q).1 s = true ↔ _
    by_cases h : ms.1 q = true
    · rw [if_pos h]
      refine ⟨fun z => Or.inr z, fun z => ?_⟩
      rcases z with z | z
      · rw [← Option.some.inj z]
        exact h
      · exact z
    · rw [if_neg h]
      show up ms.1 q true s = true ↔ _
      rw [up_t]
      exact ⟨fun z => by rcases z with z | z; exact Or.inl (by rw [z]); exact Or.inr z, fun z => by rcases z with z | z; exact Or.inl (Option.some.inj z).symm; exact Or.inr z⟩
theorem slClaim_5 (ms : mS) (sl : Option Nat) : (slClaim ms sl).2 = ms.2 := by
  cases sl with
  | none => rfl
  | some q =>
    show (if ms.1 q = true then ms else msClaim ms q).2 = ms.2
    split <;> rfl
theorem ruStep_14 (eo en : kE) (c0 : Nat) (ms : mS) (r : rT) (h2 : ¬ r.1 = 2) : (ruStep eo en c0 ms r).1 = (slClaim ms (ruSl en r)).1 ∧ (ruStep eo en c0 ms r).2.2.2.2.1 = ms.2.2.2.2.1 := by
  have h5 := slClaim_5 ms (ruSl en r)
  have h6 : (slClaim ms (ruSl en r)).2.2.2.2.1 = ms.2.2.2.2.1 := by rw [h5]
  unfold ruStep
  rw [if_neg h2]
  generalize slClaim ms (ruSl en r) = m1 at *
  split
  · cases ruSl en r with
    | none => exact ⟨rfl, h6⟩
    | some s =>
      cases eo.1 (hdV r.2.2.2.2.2) with
      | none => exact ⟨rfl, h6⟩
      | some m => exact ⟨rfl, h6⟩
  · cases ruSl en r with
    | none => exact ⟨rfl, h6⟩
    | some s => exact ⟨rfl, h6⟩
theorem drMs_5 (ms : mS) (o : Option Nat) (m : Nat) : (drMs ms o).2.2.2.2.1 m = true ↔ o = some m ∨ ms.2.2.2.2.1 m = true := by
  cases o with
  | none => exact ⟨fun z => Or.inr z, fun z => by rcases z with z | z; cases z; exact z⟩
  | some q =>
    show (if ms.2.2.2.2.1 q = true then ms else msDrop ms q).2.2.2.2.1 m = true ↔ _
    by_cases h : ms.2.2.2.2.1 q = true
    · rw [if_pos h]
      refine ⟨fun z => Or.inr z, fun z => ?_⟩
      rcases z with z | z
      · rw [← Option.some.inj z]
        exact h
      · exact z
    · rw [if_neg h]
      show up ms.2.2.2.2.1 q true m = true ↔ _
      rw [up_t]
      exact ⟨fun z => by rcases z with z | z; exact Or.inl (by rw [z]); exact Or.inr z, fun z => by rcases z with z | z; exact Or.inl (Option.some.inj z).symm; exact Or.inr z⟩
theorem drMs_1 (ms : mS) (o : Option Nat) : (drMs ms o).1 = ms.1 := by
  cases o with
  | none => rfl
  | some q =>
    show (if ms.2.2.2.2.1 q = true then ms else msDrop ms q).1 = ms.1
    split <;> rfl
theorem mem_snoc {α : Type} {L : List α} {r x : α} : x ∈ L ++ [r] ↔ x ∈ L ∨ x = r := by
  rw [List.mem_append, List.mem_singleton]
theorem stP.step {eo en : kE} {prev : List rT} {ms : mS} (h : stP eo en prev ms) (c0 : Nat) (r : rT) : stP eo en (prev ++ [r]) (ruStep eo en c0 ms r) := by
  by_cases h2 : r.1 = 2
  · have e : ruStep eo en c0 ms r = drMs ms (eo.1 r.2.1) := if_pos h2
    rw [e]
    refine ⟨fun s => ?_, fun m => ?_⟩
    · rw [drMs_1, h.1 s]
      refine ⟨fun ⟨x, hx, q⟩ => ⟨x, mem_snoc.mpr (Or.inl hx), q⟩, fun ⟨x, hx, q⟩ => ?_⟩
      rcases mem_snoc.mp hx with z | z
      · exact ⟨x, z, q⟩
      · rw [z] at q
        exact absurd h2 q.1
    · rw [drMs_5, h.2 m]
      refine ⟨fun z => ?_, fun ⟨x, hx, q⟩ => ?_⟩
      · rcases z with z | ⟨x, hx, q⟩
        · exact ⟨r, mem_snoc.mpr (Or.inr rfl), h2, z⟩
        · exact ⟨x, mem_snoc.mpr (Or.inl hx), q⟩
      · rcases mem_snoc.mp hx with z | z
        · exact Or.inr ⟨x, z, q⟩
        · rw [z] at q
          exact Or.inl q.2
  · obtain ⟨e1, e2⟩ := ruStep_14 eo en c0 ms r h2
    refine ⟨fun s => ?_, fun m => ?_⟩
    · rw [e1, slClaim_1, h.1 s]
      refine ⟨fun z => ?_, fun ⟨x, hx, q⟩ => ?_⟩
      · rcases z with z | ⟨x, hx, q⟩
        · exact ⟨r, mem_snoc.mpr (Or.inr rfl), h2, z⟩
        · exact ⟨x, mem_snoc.mpr (Or.inl hx), q⟩
      · rcases mem_snoc.mp hx with z | z
        · exact Or.inr ⟨x, z, q⟩
        · rw [z] at q
          exact Or.inl q.2
    · rw [e2, h.2 m]
      refine ⟨fun ⟨x, hx, q⟩ => ⟨x, mem_snoc.mpr (Or.inl hx), q⟩, fun ⟨x, hx, q⟩ => ?_⟩
      rcases mem_snoc.mp hx with z | z
      · exact ⟨x, z, q⟩
      · rw [z] at q
        exact absurd q.1 h2
theorem tw_iff {prev : List rT} {r : rT} : tw prev r = true ↔ ∃ x, x ∈ prev ∧ x.1 = r.1 ∧ x.2.1 = r.2.1 := by
  unfold tw
  rw [List.any_eq_true]
  refine ⟨fun ⟨x, hx, q⟩ => ?_, fun ⟨x, hx, q1, q2⟩ => ⟨x, hx, ?_⟩⟩
  · rw [Bool.and_eq_true, decide_eq_true_eq, decide_eq_true_eq] at q
    exact ⟨x, hx, q⟩
  · rw [Bool.and_eq_true, decide_eq_true_eq, decide_eq_true_eq]
    exact ⟨q1, q2⟩
/-- the NAME ahead: noted by both, or by none -/
theorem at_same {eo en : kE} {nO nN : Nat} {prev : List rT} {ms : mS} {r : rT} (go : kG eo nO) (gn : kG en nN) (hst : stP eo en prev ms) (hr : rG r) (hp : ∀ x, x ∈ prev → rG x) : (if r.1 = 2 then drBad ms r.2.2.1 (eo.1 r.2.1) else slBad ms r.2.2.1 (ruSl en r)) = atB eo en prev r := by
  have h8 := gn.1
  unfold atB ruM1
  by_cases h2 : r.1 = 2
  · rw [if_pos h2, if_neg (show ¬ r.1 = 1 by omega), if_pos h2]
    cases hf : eo.1 r.2.1 with
    | none => exact (if_pos (Or.inl rfl)).symm
    | some m =>
      have e : ms.2.2.2.2.1 m = true ↔ tw prev r = true := by
        rw [hst.2 m, tw_iff]
        refine ⟨fun ⟨x, hx, q1, q2⟩ => ⟨x, hx, by omega, go.2.1 _ _ m q2 hf⟩, fun ⟨x, hx, q1, q2⟩ => ⟨x, hx, by omega, by rw [q2]; exact hf⟩⟩
      show (if ms.2.2.2.2.1 m = true then [r.2.2.1] else []) = _
      by_cases ht : tw prev r = true
      · rw [if_pos (e.mpr ht), if_pos (Or.inr ht)]
      · rw [if_neg (fun z => ht (e.mp z)), if_neg (by rintro (z | z); cases z; exact ht z)]
  · rw [if_neg h2]
    have h3 : r.1 = 1 ∨ r.1 = 0 := by have := hr.1; omega
    rcases h3 with k | k
    · rw [if_pos k]
      have es : ruSl en r = en.1 r.2.1 := if_neg (by omega)
      rw [es]
      cases hf : en.1 r.2.1 with
      | none => exact (if_pos (Or.inl rfl)).symm
      | some s =>
        have hs := gn.2.2 _ _ hf
        have e : ms.1 s = true ↔ tw prev r = true := by
          rw [hst.1 s, tw_iff]
          refine ⟨fun ⟨x, hx, q1, q2⟩ => ?_, fun ⟨x, hx, q1, q2⟩ => ⟨x, hx, by omega, ?_⟩⟩
          · have hx1 := (hp x hx).1
            by_cases x0 : x.1 = 0
            · have : ruSl en x = some 8 := if_pos x0
              rw [this] at q2
              have := Option.some.inj q2
              omega
            · have : ruSl en x = en.1 x.2.1 := if_neg x0
              rw [this] at q2
              exact ⟨x, hx, by omega, gn.2.1 _ _ s q2 hf⟩
          · have : ruSl en x = en.1 x.2.1 := if_neg (by omega)
            rw [this, q2]
            exact hf
        show (if ms.1 s = true then [r.2.2.1] else []) = _
        by_cases ht : tw prev r = true
        · rw [if_pos (e.mpr ht), if_pos (Or.inr ht)]
        · rw [if_neg (fun z => ht (e.mp z)), if_neg (by rintro (z | z); cases z; exact ht z)]
    · rw [if_neg (show ¬ r.1 = 1 by omega), if_neg h2]
      have es : ruSl en r = some 8 := if_pos k
      rw [es]
      have e : ms.1 8 = true ↔ tw prev r = true := by
        rw [hst.1 8, tw_iff]
        refine ⟨fun ⟨x, hx, q1, q2⟩ => ?_, fun ⟨x, hx, q1, q2⟩ => ⟨x, hx, by omega, if_pos (by omega)⟩⟩
        by_cases x0 : x.1 = 0
        · exact ⟨x, hx, by omega, by rw [(hp x hx).2.1 x0, hr.2.1 k]⟩
        · have : ruSl en x = en.1 x.2.1 := if_neg x0
          rw [this] at q2
          have := gn.2.2 _ _ q2
          omega
      show (if ms.1 8 = true then [r.2.2.1] else []) = _
      by_cases ht : tw prev r = true
      · rw [if_pos (e.mpr ht), if_pos (Or.inr ht)]
      · rw [if_neg (fun z => ht (e.mp z)), if_neg (by rintro (z | z); cases z; exact ht z)]
theorem ite_mem {c : Prop} [Decidable c] {b x : Nat} (h : x ∈ (if c then [] else [b])) : x = b := by
  by_cases hc : c
  · rw [if_pos hc] at h
    exact absurd h List.not_mem_nil
  · rw [if_neg hc] at h
    exact List.mem_singleton.mp h
theorem actB_mem {e : kE} {a : aT} {x : Nat} (h : x ∈ actB e a) : nmA a ∧ x = a.2.2 := by
  unfold actB at h
  by_cases hn : a.1 = nI 3 ∨ a.1 = nI 4 ∨ a.1 = nI 5
  · rw [if_pos hn] at h
    refine ⟨hn, ?_⟩
    split at h
    · exact List.mem_singleton.mp h
    · exact ite_mem h
  · rw [if_neg hn] at h
    exact absurd h List.not_mem_nil
theorem acts_ge {e : kE} {r : rT} (hr : rG r) : ∀ x, x ∈ r.2.2.2.2.2.flatMap (actB e) → r.2.2.1 ≤ x := by
  intro x hx
  obtain ⟨a, ha, hx⟩ := List.mem_flatMap.mp hx
  obtain ⟨h1, h2⟩ := actB_mem hx
  rw [h2]
  exact hr.2.2.2.1 a ha h1
theorem if_ge {c : Prop} [Decidable c] {a b : Nat} (h : a ≤ b) : ∀ x, x ∈ (if c then [b] else []) → a ≤ x := by
  intro x hx
  split at hx
  · rw [List.mem_singleton.mp hx]
    exact h
  · exact absurd hx List.not_mem_nil
theorem juBad_ge {eo : kE} {row : Bool} {a b : Nat} (h : a ≤ b) (o : Option Nat) : ∀ x, x ∈ juBad eo row b o → a ≤ x := by
  intro x hx
  cases o with
  | none =>
    rw [List.mem_singleton.mp hx]
    exact h
  | some m =>
    have hx : x ∈ (if eo.2.1 m = row then [] else [b]) := hx
    split at hx
    · exact absurd hx List.not_mem_nil
    · rw [List.mem_singleton.mp hx]
      exact h
theorem beB_ge {eo en : kE} {r : rT} {a : Nat} (h : a ≤ r.2.2.2.1) : ∀ x, x ∈ beB eo en r → a ≤ x := by
  intro x hx
  have key : x = r.2.2.2.1 := by
    unfold beB at hx
    split at hx
    · split at hx
      · exact absurd hx List.not_mem_nil
      · split at hx
        · split at hx
          · exact List.mem_singleton.mp hx
          · split at hx
            · exact absurd hx List.not_mem_nil
            · exact List.mem_singleton.mp hx
        · split at hx
          · exact List.mem_singleton.mp hx
          · exact absurd hx List.not_mem_nil
    · exact absurd hx List.not_mem_nil
  rw [key]
  exact h
theorem laB_ge {eo : kE} {r : rT} (hr : rG r) (h2 : ¬ r.1 = 2) : ∀ x, x ∈ laB eo r → r.2.2.1 ≤ x := by
  intro x hx
  unfold laB at hx
  by_cases hj : r.2.2.2.2.1 = true
  · rw [if_pos hj] at hx
    obtain ⟨_, a, ea, eb⟩ := hr.2.2.2.2 hj
    rw [ea] at hx
    split at hx
    · rw [List.mem_singleton.mp hx]
      show r.2.2.1 ≤ a.2.2
      rw [eb]
      exact hr.2.2.1 h2
    · exact absurd hx List.not_mem_nil
  · rw [if_neg hj] at hx
    exact acts_ge hr x hx
theorem ru_same {eo en : kE} {nO nN : Nat} {prev : List rT} {ms : mS} {r : rT} (go : kG eo nO) (gn : kG en nN) (hst : stP eo en prev ms) (hr : rG r) (hp : ∀ x, x ∈ prev → rG x) (z : Nat) : mnF (cruB eo en nN ms r) z = mnF (ruB eo en prev r) z := by
  have hA := at_same go gn hst hr hp
  have h8 := gn.1
  unfold cruB ruB
  by_cases h2 : r.1 = 2
  · rw [if_pos h2] at hA ⊢
    rw [if_pos h2, List.append_nil, hA]
  · rw [if_neg h2] at hA ⊢
    rw [if_neg h2, hA, mnF_app, mnF_app, mnF_app]
    have hb := hr.2.2.1 h2
    by_cases hbad : ruM1 eo en r = none ∨ tw prev r = true
    · have e : atB eo en prev r = [r.2.2.1] := if_pos hbad
      rw [e]
      show mnF _ (min z r.2.2.1) = mnF _ (mnF _ (min z r.2.2.1))
      rw [mnF_ge (beB eo en r) z (beB_ge hb), mnF_ge (laB eo r) z (laB_ge hr h2)]
      refine mnF_ge _ z fun x hx => ?_
      split at hx
      · exact juBad_ge hb _ x hx
      · rcases List.mem_append.mp hx with q | q
        · exact acts_ge hr x q
        · exact if_ge hb x q
    · have e : atB eo en prev r = [] := if_neg hbad
      rw [e]
      show mnF _ z = mnF _ (mnF _ z)
      have hm : ¬ ruM1 eo en r = none := fun w => hbad (Or.inl w)
      have h3 : r.1 = 1 ∨ r.1 = 0 := by have := hr.1; omega
      rcases h3 with k | k
      · have e1 : ruM1 eo en r = en.1 r.2.1 := if_pos k
        have e2 : ruSl en r = en.1 r.2.1 := if_neg (by omega)
        rw [e1] at hm
        rw [e2]
        have eb : beB eo en r = (match en.1 r.2.1 with
          | none => []
          | some m => if r.2.2.2.2.1 = true then (match eo.1 (hdV r.2.2.2.2.2) with
              | none => [r.2.2.2.1]
              | some q => if en.2.1 m = eo.2.1 q then [] else [r.2.2.2.1])
            else (if en.2.1 m = true then [r.2.2.2.1] else [])) := if_pos k
        rw [eb]
        cases hf : en.1 r.2.1 with
        | none => exact absurd hf hm
        | some s =>
          have hs := gn.2.2 _ _ hf
          have er : slRow en nN (some s) = en.2.1 s := by
            show (decide (s < nN) && en.2.1 s) = en.2.1 s
            rw [decide_eq_true hs, Bool.true_and]
          rw [er]
          by_cases hj : r.2.2.2.2.1 = true
          · obtain ⟨_, a, ea, eb2⟩ := hr.2.2.2.2 hj
            have el : laB eo r = (match eo.1 (hdV r.2.2.2.2.2) with
              | none => [hdA r.2.2.2.2.2]
              | some _ => []) := if_pos hj
            rw [el, if_pos hj]
            show mnF (juBad eo (en.2.1 s) r.2.2.2.1 (eo.1 (hdV r.2.2.2.2.2))) z = mnF _ (mnF (if r.2.2.2.2.1 = true then (match eo.1 (hdV r.2.2.2.2.2) with
              | none => [r.2.2.2.1]
              | some q => if en.2.1 s = eo.2.1 q then [] else [r.2.2.2.1]) else (if en.2.1 s = true then [r.2.2.2.1] else [])) z)
            rw [if_pos hj, ea]
            show mnF (juBad eo (en.2.1 s) r.2.2.2.1 (eo.1 a.2.1)) z = mnF (match eo.1 a.2.1 with
              | none => [a.2.2]
              | some _ => []) (mnF (match eo.1 a.2.1 with
              | none => [r.2.2.2.1]
              | some q => if en.2.1 s = eo.2.1 q then [] else [r.2.2.2.1]) z)
            cases eo.1 a.2.1 with
            | none =>
              rw [eb2]
              show min z r.2.2.2.1 = min (min z r.2.2.2.1) r.2.2.2.1
              omega
            | some q =>
              show mnF (if eo.2.1 q = en.2.1 s then [] else [r.2.2.2.1]) z = mnF (if en.2.1 s = eo.2.1 q then [] else [r.2.2.2.1]) z
              by_cases hq : eo.2.1 q = en.2.1 s
              · rw [if_pos hq, if_pos hq.symm]
              · rw [if_neg hq, if_neg (fun w => hq w.symm)]
          · have el : laB eo r = r.2.2.2.2.2.flatMap (actB eo) := if_neg hj
            rw [el, if_neg hj]
            show _ = mnF _ (mnF (if r.2.2.2.2.1 = true then (match eo.1 (hdV r.2.2.2.2.2) with
              | none => [r.2.2.2.1]
              | some q => if en.2.1 s = eo.2.1 q then [] else [r.2.2.2.1]) else (if en.2.1 s = true then [r.2.2.2.1] else [])) z)
            rw [if_neg hj, mnF_app, mnF_comm]
      · have hj : ¬ r.2.2.2.2.1 = true := fun w => by have := (hr.2.2.2.2 w).1; omega
        have e2 : ruSl en r = some 8 := if_pos k
        have eb : beB eo en r = [] := if_neg (by omega)
        have el : laB eo r = r.2.2.2.2.2.flatMap (actB eo) := if_neg hj
        have er : slRow en nN (some 8) = false := by
          show (decide (8 < nN) && en.2.1 8) = false
          rw [decide_eq_false (by omega), Bool.false_and]
        rw [e2, eb, el, er, if_neg hj, if_neg (by decide), List.append_nil]
        rfl
def crusB (eo en : kE) (nN : Nat) : Nat → mS → List rT → List Nat
  | _, _, [] => []
  | c0, ms, r :: R => cruB eo en nN ms r ++ crusB eo en nN (c0 + (ruCod eo r).length) (ruStep eo en c0 ms r) R
theorem rus_same {eo en : kE} {nO nN : Nat} (go : kG eo nO) (gn : kG en nN) : ∀ (R prev : List rT) (ms : mS) (c0 z : Nat), stP eo en prev ms → (∀ x, x ∈ prev → rG x) → (∀ x, x ∈ R → rG x) → mnF (crusB eo en nN c0 ms R) z = mnF (rusB eo en prev R) z
  | [], prev, ms, c0, z, hst, hp, hR => rfl
  | r :: R, prev, ms, c0, z, hst, hp, hR => by
    have hr := hR r List.mem_cons_self
    show mnF (cruB eo en nN ms r ++ crusB eo en nN (c0 + (ruCod eo r).length) (ruStep eo en c0 ms r) R) z = mnF (ruB eo en prev r ++ rusB eo en (prev ++ [r]) R) z
    rw [mnF_app, mnF_app, ru_same go gn hst hr hp z]
    exact rus_same go gn R (prev ++ [r]) _ _ _ (hst.step c0 r) (fun x hx => by
      rcases mem_snoc.mp hx with q | q
      · exact hp x q
      · rw [q]
        exact hr) (fun x hx => hR x (List.mem_cons_of_mem _ hx))
