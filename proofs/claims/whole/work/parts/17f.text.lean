/-! A whole text: the class notes what the reference judges. -/
def usN (U : Nat → Bool) : Option Nat → Nat → Bool
  | none => U
  | some c => up U c true
theorem usP.step {fo : Int64 → Option Nat} {prev : List mT} {U : Nat → Bool} (h : usP fo prev U) (m : mT) : usP fo (prev ++ [m]) (usN U (fo m.2.1)) := by
  intro c
  have key : usN U (fo m.2.1) c = true ↔ fo m.2.1 = some c ∨ U c = true := by
    cases fo m.2.1 with
    | none => exact ⟨fun z => Or.inr z, fun z => by rcases z with z | z; cases z; exact z⟩
    | some q =>
      show up U q true c = true ↔ _
      rw [up_t]
      exact ⟨fun z => by rcases z with z | z; exact Or.inl (by rw [z]); exact Or.inr z, fun z => by rcases z with z | z; exact Or.inl (Option.some.inj z).symm; exact Or.inr z⟩
  rw [key, h c]
  refine ⟨fun z => ?_, fun ⟨x, hx, q⟩ => ?_⟩
  · rcases z with z | ⟨x, hx, q⟩
    · exact ⟨m, mem_snoc.mpr (Or.inr rfl), z⟩
    · exact ⟨x, mem_snoc.mpr (Or.inl hx), q⟩
  · rcases mem_snoc.mp hx with z | z
    · exact Or.inr ⟨x, z, q⟩
    · rw [z] at q
      exact Or.inl q
/-- the codes of a MOVE -/
def moCod (fo : Int64 → Option Nat) (E1 : Nat → kE) (e0 : kE) (m : mT) : List cT := m.2.2.2.2.2.flatMap (ruCod (oE E1 e0 (fo m.2.1)))
def cmosB (fo ft : Int64 → Option Nat) (E1 E2 : Nat → kE) (e0 : kE) (nE : Option Nat → Nat) : (Nat → Bool) → Nat → List mT → List Nat
  | _, _, [] => []
  | U, c0, m :: L => cmoB fo ft E1 E2 e0 nE U c0 m ++ cmosB fo ft E1 E2 e0 nE (usN U (fo m.2.1)) (c0 + (moCod fo E1 e0 m).length) L
theorem mos_same {fo ft : Int64 → Option Nat} {E1 E2 : Nat → kE} {e0 : kE} {nE : Option Nat → Nat} {nO : Nat → Nat} (inj : ∀ v w c, fo v = some c → fo w = some c → v = w) (gO : ∀ v c, fo v = some c → kG (E1 c) (nO c)) (gN : ∀ v c, ft v = some c → kG (E2 c) (nE (some c))) : ∀ (L prev : List mT) (U : Nat → Bool) (c0 z : Nat), usP fo prev U → (∀ m, m ∈ L → mG m) → mnF (cmosB fo ft E1 E2 e0 nE U c0 L) z = mnF (mosB fo ft E1 E2 prev L) z
  | [], prev, U, c0, z, hU, hL => rfl
  | m :: L, prev, U, c0, z, hU, hL => by
    show mnF (cmoB fo ft E1 E2 e0 nE U c0 m ++ cmosB fo ft E1 E2 e0 nE (usN U (fo m.2.1)) (c0 + (moCod fo E1 e0 m).length) L) z = mnF (moB fo ft E1 E2 prev m ++ mosB fo ft E1 E2 (prev ++ [m]) L) z
    rw [mnF_app, mnF_app, mo_same hU inj (hL m List.mem_cons_self) gO gN c0 z]
    exact mos_same inj gO gN L (prev ++ [m]) _ _ _ (hU.step m) (fun x hx => hL x (List.mem_cons_of_mem _ hx))
theorem usP_0 (fo : Int64 → Option Nat) : usP fo [] (fun _ => false) := fun c => ⟨(fun z => by cases z), fun ⟨x, hx, _⟩ => absurd hx List.not_mem_nil⟩
theorem mvF_M {p : pP} (hu : pUp p) (h7 : ∀ i, p.2.1 i ≤ 700) {i j : Nat} {m : mT} (e : mvF p i = .inr (j, m)) : mG m ∧ i < j := by
  unfold mvF at e
  split at e
  · split at e
    · split at e
      · have e := Prod.mk.inj (Sum.inr.inj e)
        rw [← e.1, ← e.2]
        exact ⟨(fun z => by cases z), by omega⟩
      · cases e
    · cases e
  · split at e
    · split at e
      · split at e
        · split at e
          · split at e
            · split at e
              · cases e
              · rename_i q L e2
                have e := Prod.mk.inj (Sum.inr.inj e)
                rw [← e.1, ← e.2]
                obtain ⟨k1, k2⟩ := rlF_G hu h7 701 (i + 5) e2
                refine ⟨fun _ => ⟨hu (i + 1) (i + 3) (by omega), fun r hr => ⟨(k2 r hr).1, ?_⟩⟩, by omega⟩
                exact Nat.le_trans (hu (i + 3) (i + 5) (by omega)) (k2 r hr).2
            · cases e
          · cases e
        · cases e
      · cases e
    · cases e
theorem txF_M {p : pP} (hu : pUp p) (h7 : ∀ i, p.2.1 i ≤ 700) : ∀ (f i : Nat) {L : List mT}, txF p f i = .inr L → ∀ m, m ∈ L → mG m
  | 0, i, L, e => by cases e
  | f + 1, i, L, e => by
    unfold txF at e
    split at e
    · rw [← Sum.inr.inj e]
      exact fun x hx => absurd hx List.not_mem_nil
    · split at e
      · cases e
      · rename_i q m e2
        split at e
        · cases e
        · rename_i L2 e3
          rw [← Sum.inr.inj e]
          intro x hx
          rcases List.mem_cons.mp hx with w | w
          · rw [w]
            exact (mvF_M hu h7 e2).1
          · exact txF_M hu h7 f _ e3 x w
/-- of a text that can be read: the class and the reference find the same least place, or none -/
theorem text_same {t : Nat → Int32} {n : Nat} (h7 : n ≤ 700) {L : List mT} (e : teF (pcs t n) = .inr L) {fo ft : Int64 → Option Nat} {E1 E2 : Nat → kE} {e0 : kE} {nE : Option Nat → Nat} {nO : Nat → Nat} (inj : ∀ v w c, fo v = some c → fo w = some c → v = w) (gO : ∀ v c, fo v = some c → kG (E1 c) (nO c)) (gN : ∀ v c, ft v = some c → kG (E2 c) (nE (some c))) : mnF (cmosB fo ft E1 E2 e0 nE (fun _ => false) 0 L) 701 = mnF (mosB fo ft E1 E2 [] L) 701 :=
  mos_same inj gO gN L [] _ 0 701 (usP_0 fo) (txF_M (pcs_pUp t n) (fun i => Nat.le_trans (pcs_A t n i) h7) 701 0 e)
