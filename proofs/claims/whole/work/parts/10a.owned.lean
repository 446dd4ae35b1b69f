/-! Blocks that are owned: a ghost G says of each address which group and which block it belongs to. -/
abbrev gG : Type := Nat → Nat × Nat
def own (G : gG) (g ci a : Nat) : Prop := ∀ q, ofp ci a q = true → G q = (g, a)
def hB (G : gG) (g ci : Nat) (h : xH) (a : Nat) (S : gS) : Prop := isB ci h a S ∧ own G g ci a ∧ a + o_sz ci ≤ h.2.2.1
theorem own_dj {G : gG} {g g2 ci ci2 a a2 : Nat} (h1 : own G g ci a) (h2 : own G g2 ci2 a2) (hne : ¬ (g = g2 ∧ a = a2)) : dj ci a ci2 a2 := by
  intro q hq
  cases h3 : ofp ci2 a2 q with
  | false => rfl
  | true =>
    have e1 := h1 q hq
    rw [h2 q h3] at e1
    have : g2 = g ∧ a2 = a := Prod.mk.inj e1
    exact absurd ⟨this.1.symm, this.2.symm⟩ hne
theorem hB.kept {G : gG} {g ci : Nat} {h h1 : xH} {a : Nat} {S : gS} (H : hB G g ci h a S) (hk : ∀ q, G q = (g, a) → h1.1 q = h.1 q) (hn : h.2.2.1 ≤ h1.2.2.1) : hB G g ci h1 a S :=
  ⟨H.1.kept fun q hq => hk q (H.2.1 q hq), H.2.1, Nat.le_trans H.2.2 hn⟩
theorem hB.set {G : gG} {g ci : Nat} {h : xH} {a : Nat} {S S2 : gS} (H : hB G g ci h a S) : hB G g ci (oh ci h a S2) a S2 := ⟨isB_oh _ _ _ _, H.2.1, H.2.2⟩
theorem hB.frame {G : gG} {g g2 ci ci2 : Nat} {h : xH} {a a2 : Nat} {S S2 : gS} (H : hB G g ci h a S) (h2 : own G g2 ci2 a2) (hne : ¬ (g = g2 ∧ a = a2)) : hB G g ci (oh ci2 h a2 S2) a S :=
  ⟨H.1.frame (own_dj h2 H.2.1 fun q => hne ⟨q.1.symm, q.2.symm⟩), H.2.1, H.2.2⟩
theorem hB.grow {G : gG} {g ci : Nat} {h : xH} {a n s : Nat} {S : gS} (H : hB G g ci h a S) : hB G g ci (grow h n s) a S :=
  H.kept (fun q _ => rfl) (Nat.le_add_right _ _)
/-- the ghost, when a block of group g comes at N -/
def gN (G : gG) (g N : Nat) : gG := fun q => if N ≤ q then (g, N) else G q
theorem own_gN {G : gG} {g g2 ci a N : Nat} (h : own G g ci a) (hs : 0 < o_sz ci) (hN : a + o_sz ci ≤ N) : own (gN G g2 N) g ci a := by
  intro q hq
  have := ofp_lt hs hq
  unfold gN
  rw [if_neg (by omega)]
  exact h q hq
theorem own_new {G : gG} {g ci N : Nat} (hs : 0 < o_sz ci) : own (gN G g N) g ci N := by
  intro q hq
  have := ofp_lt hs hq
  unfold gN
  rw [if_pos this.1]
theorem hB.gN {G : gG} {g g2 ci : Nat} {h : xH} {a : Nat} {S : gS} (H : hB G g ci h a S) (hs : 0 < o_sz ci) : hB (gN G g2 h.2.2.1) g ci h a S := ⟨H.1, own_gN H.2.1 hs H.2.2, H.2.2⟩
theorem hB.lt {G : gG} {g ci : Nat} {h : xH} {a : Nat} {S : gS} (H : hB G g ci h a S) (hs : 0 < o_sz ci) : a < h.2.2.1 := by
  have := H.2.2
  omega
theorem hB.ne {G : gG} {g g2 ci ci2 : Nat} {h : xH} {a a2 : Nat} {S S2 : gS} (H : hB G g ci h a S) (H2 : hB G g2 ci2 h a2 S2) (hc : ci ≠ ci2) : a ≠ a2 := by
  intro e
  subst e
  have e1 := H.1.to a _ (by unfold ocell; rw [if_pos rfl])
  have e2 := H2.1.to a _ (by unfold ocell; rw [if_pos rfl])
  rw [e1] at e2
  have e3 := Sum.inr.inj (Option.some.inj e2)
  exact hc (Prod.mk.inj e3).1
/-- the BUILDS of the class, and what the reference has of them -/
def cBld (G : gG) (h : xH) (SX : gS) (β : Nat → Nat) (SB : Nat → gS) (κ : Nat → Nat → Nat) (SK : Nat → Nat → gS) (S : gS) (cN mN : Nat → Nat) : Prop :=
  (∀ b, b < 8 → sQ SX 0 b = .ref (β b) ∧ hB G 1 2 h (β b) (SB b) ∧ sI (SB b) 1 = nI (cN b) ∧ (∀ c, cN b ≤ c → c < 6 → sQ (SB b) 0 c = .null)) ∧
  (∀ b c, b < 8 → c < cN b → sQ (SB b) 0 c = .ref (κ b c) ∧ hB G 1 1 h (κ b c) (SK b c) ∧ kOK (SK b c) (mN (6 * b + c)) ∧ sJ (SK b c) 0 = sL S 1 (6 * b + c) ∧
    ∀ m, m < mN (6 * b + c) → sL (SK b c) 1 m = sL S 3 (8 * (6 * b + c) + m) ∧ sA (SK b c) 2 m = sA S 4 (8 * (6 * b + c) + m) ∧ kRow (SK b c) m = rw_ S (8 * (6 * b + c) + m)) ∧
  (∀ b b', b < 8 → b' < 8 → β b = β b' → b = b') ∧
  (∀ b c b' c', b < 8 → c < cN b → b' < 8 → c' < cN b' → κ b c = κ b' c' → b = b' ∧ c = c')
theorem cBld.bOK {G : gG} {h : xH} {SX : gS} {β : Nat → Nat} {SB : Nat → gS} {κ : Nat → Nat → Nat} {SK : Nat → Nat → gS} {S : gS} {cN mN : Nat → Nat} (H : cBld G h SX β SB κ SK S cN mN) (hB : bdOK S cN mN) {b : Nat} (hb : b < 8) : bOK h (SB b) (cN b) (κ b) (SK b) :=
  ⟨(H.1 b hb).2.2.1, (hB.1 b hb).2, fun c hc => ⟨(H.2.1 b c hb hc).1, (H.2.1 b c hb hc).2.1.1⟩⟩
/-- what does not touch the group leaves it -/
theorem cBld.kept {G : gG} {h h1 : xH} {SX : gS} {β : Nat → Nat} {SB : Nat → gS} {κ : Nat → Nat → Nat} {SK : Nat → Nat → gS} {S : gS} {cN mN : Nat → Nat} (H : cBld G h SX β SB κ SK S cN mN) (hk : ∀ q, (G q).1 = 1 → h1.1 q = h.1 q) (hn : h.2.2.1 ≤ h1.2.2.1) : cBld G h1 SX β SB κ SK S cN mN := by
  obtain ⟨a1, a2, a3, a4⟩ := H
  refine ⟨fun b hb => ?_, fun b c hb hc => ?_, a3, a4⟩
  · obtain ⟨e1, e2, e3, e4⟩ := a1 b hb
    exact ⟨e1, e2.kept (fun q hq => hk q (by rw [hq])) hn, e3, e4⟩
  · obtain ⟨e1, e2, e3⟩ := a2 b c hb hc
    exact ⟨e1, e2.kept (fun q hq => hk q (by rw [hq])) hn, e3⟩
theorem fnd_congr {f g : Nat → Int64} {w : Int64} {n : Nat} (h : ∀ i, i < n → f i = g i) : fnd f w n = fnd g w n := by
  have : ∀ (k i : Nat), i + k ≤ n → fndF f w k i = fndF g w k i := by
    intro k
    induction k with
    | zero => intro i _; rfl
    | succ k ih =>
      intro i hi
      rw [fndF_s, fndF_s, h i (by omega), ih (i + 1) (by omega)]
  exact this n 0 (by omega)
