/-! The places that the class notes of MOVES, and the reference's: the same least. -/
theorem cruB_ge {eo en : kE} {nN : Nat} {ms : mS} {r : rT} (hr : rG r) : ∀ x, x ∈ cruB eo en nN ms r → r.2.2.1 ≤ x := by
  intro x hx
  unfold cruB at hx
  by_cases h2 : r.1 = 2
  · rw [if_pos h2] at hx
    cases ho : eo.1 r.2.1 with
    | none =>
      rw [ho] at hx
      rw [List.mem_singleton.mp hx]
      exact Nat.le_refl _
    | some m =>
      rw [ho] at hx
      have hx : x ∈ (if ms.2.2.2.2.1 m = true then [r.2.2.1] else []) := hx
      exact if_ge (Nat.le_refl _) x hx
  · rw [if_neg h2] at hx
    have hb := hr.2.2.1 h2
    rcases List.mem_append.mp hx with q | q
    · cases ho : ruSl en r with
      | none =>
        rw [ho] at q
        rw [List.mem_singleton.mp q]
        exact Nat.le_refl _
      | some s =>
        rw [ho] at q
        have q : x ∈ (if ms.1 s = true then [r.2.2.1] else []) := q
        exact if_ge (Nat.le_refl _) x q
    · split at q
      · exact juBad_ge hb _ x q
      · rcases List.mem_append.mp q with w | w
        · exact acts_ge hr x w
        · exact if_ge hb x w
theorem crusB_ge {eo en : kE} {nN b : Nat} : ∀ (R : List rT) (c0 : Nat) (ms : mS), (∀ r, r ∈ R → rG r ∧ b ≤ r.2.2.1) → ∀ x, x ∈ crusB eo en nN c0 ms R → b ≤ x
  | [], c0, ms, h, x, hx => absurd hx List.not_mem_nil
  | r :: R, c0, ms, h, x, hx => by
    have hr := h r List.mem_cons_self
    have hx : x ∈ cruB eo en nN ms r ++ crusB eo en nN (c0 + (ruCod eo r).length) (ruStep eo en c0 ms r) R := hx
    rcases List.mem_append.mp hx with q | q
    · exact Nat.le_trans hr.2 (cruB_ge hr.1 x q)
    · exact crusB_ge R _ _ (fun y hy => h y (List.mem_cons_of_mem _ hy)) x q
def oE (E : Nat → kE) (e0 : kE) : Option Nat → kE
  | none => e0
  | some c => E c
def clBad (U : Nat → Bool) (a : Nat) : Option Nat → List Nat
  | none => [a]
  | some c => if U c = true then [a] else []
/-- the places that the class notes of a MOVE; U: the CLASSES that have one -/
def cmoB (fo ft : Int64 → Option Nat) (E1 E2 : Nat → kE) (e0 : kE) (nE : Option Nat → Nat) (U : Nat → Bool) (c0 : Nat) (m : mT) : List Nat :=
  clBad U m.2.2.1 (fo m.2.1) ++ (if m.1 = true then [] else tgB (ft m.2.2.2.1) m.2.2.2.2.1 ++ crusB (oE E1 e0 (fo m.2.1)) (oE E2 e0 (ft m.2.2.2.1)) (nE (ft m.2.2.2.1)) c0 ms0 m.2.2.2.2.2)
def usP (fo : Int64 → Option Nat) (prev : List mT) (U : Nat → Bool) : Prop := ∀ c, U c = true ↔ ∃ x, x ∈ prev ∧ fo x.2.1 = some c
def mG (m : mT) : Prop := m.1 = false → m.2.2.1 ≤ m.2.2.2.2.1 ∧ ∀ r, r ∈ m.2.2.2.2.2 → rG r ∧ m.2.2.2.2.1 ≤ r.2.2.1
theorem mo_same {fo ft : Int64 → Option Nat} {E1 E2 : Nat → kE} {e0 : kE} {nE : Option Nat → Nat} {nO : Nat → Nat} {U : Nat → Bool} {prev : List mT} {m : mT} (hU : usP fo prev U) (inj : ∀ v w c, fo v = some c → fo w = some c → v = w) (hm : mG m) (gO : ∀ v c, fo v = some c → kG (E1 c) (nO c)) (gN : ∀ v c, ft v = some c → kG (E2 c) (nE (some c))) (c0 z : Nat) : mnF (cmoB fo ft E1 E2 e0 nE U c0 m) z = mnF (moB fo ft E1 E2 prev m) z := by
  unfold cmoB moB
  have eA : clBad U m.2.2.1 (fo m.2.1) = (if fo m.2.1 = none ∨ prev.any (fun x => decide (x.2.1 = m.2.1)) = true then [m.2.2.1] else []) := by
    cases hf : fo m.2.1 with
    | none => exact (if_pos (Or.inl rfl)).symm
    | some c =>
      have e : U c = true ↔ prev.any (fun x => decide (x.2.1 = m.2.1)) = true := by
        rw [hU c, List.any_eq_true]
        refine ⟨fun ⟨x, hx, q⟩ => ⟨x, hx, decide_eq_true (inj _ _ c q hf)⟩, fun ⟨x, hx, q⟩ => ⟨x, hx, ?_⟩⟩
        rw [decide_eq_true_eq] at q
        rw [q]
        exact hf
      show (if U c = true then [m.2.2.1] else []) = _
      by_cases ht : prev.any (fun x => decide (x.2.1 = m.2.1)) = true
      · rw [if_pos (e.mpr ht), if_pos (Or.inr ht)]
      · rw [if_neg (fun w => ht (e.mp w)), if_neg (by rintro (w | w); cases w; exact ht w)]
  cases hd : m.1 with
  | true =>
    rw [eA, if_pos rfl, if_pos rfl]
  | false =>
    obtain ⟨h1, h2⟩ := hm hd
    have nf : ¬ (false = true) := by decide
    rw [if_neg nf, if_neg nf, mnF_app, mnF_app, mnF_app, mnF_app, eA]
    have e2 : tgB (ft m.2.2.2.1) m.2.2.2.2.1 = (if ft m.2.2.2.1 = none then [m.2.2.2.2.1] else []) := rfl
    rw [e2]
    have hge := crusB_ge (eo := oE E1 e0 (fo m.2.1)) (en := oE E2 e0 (ft m.2.2.2.1)) (nN := nE (ft m.2.2.2.1)) m.2.2.2.2.2 c0 ms0 h2
    by_cases hn : fo m.2.1 = none
    · rw [if_pos (Or.inl hn), hn]
      show mnF _ (mnF _ (min z m.2.2.1)) = mnF [] (mnF _ (min z m.2.2.1))
      rw [mnF_ge _ z (if_ge (c := ft m.2.2.2.1 = none) h1)]
      rw [hn] at hge
      exact mnF_ge _ z (fun x hx => Nat.le_trans h1 (hge x hx))
    generalize mnF (if fo m.2.1 = none ∨ prev.any (fun x => decide (x.2.1 = m.2.1)) = true then [m.2.2.1] else []) z = z1 at *
    cases hf : fo m.2.1 with
    | none => exact absurd hf hn
    | some c =>
      cases ht : ft m.2.2.2.1 with
      | none =>
        rw [hf, ht] at hge
        rw [if_pos rfl]
        show mnF _ (min z1 m.2.2.2.2.1) = mnF [] (min z1 m.2.2.2.2.1)
        exact mnF_ge _ z1 hge
      | some e =>
        rw [if_neg (by intro w; cases w)]
        show mnF (crusB (E1 c) (E2 e) (nE (some e)) c0 ms0 m.2.2.2.2.2) z1 = mnF (rusB (E1 c) (E2 e) [] m.2.2.2.2.2) z1
        exact rus_same (gO _ _ hf) (gN _ _ ht) m.2.2.2.2.2 [] ms0 c0 z1 (stP_0 _ _) (fun x hx => absurd hx List.not_mem_nil) (fun x hx => (h2 x hx).1)
