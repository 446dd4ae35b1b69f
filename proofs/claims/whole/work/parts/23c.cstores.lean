/-! Stores with all their Values, owned. -/
def insG {α : Type} (f : Nat → α) (p n : Nat) (x : α) : Nat → α := fun i => if i < p then f i else if i = p then x else if i ≤ n then f (i - 1) else f i
/-- n VALUES in use, m made -/
def cSt (g : Nat) (G : gG) (h : xH) (σ : Nat) (SS : gS) (n m : Nat) (ν : Nat → Nat) (SV : Nat → gS) : Prop := hB G g 7 h σ SS ∧ sI SS 2 = nI n ∧ n ≤ m ∧ m ≤ 60 ∧ (∀ i, i < m → sQ SS 0 i = .ref (ν i) ∧ hB G g 9 h (ν i) (SV i)) ∧ (∀ i, m ≤ i → i < 60 → sQ SS 0 i = .null) ∧ ∀ i j, i < m → j < m → ν i = ν j → i = j
theorem cSt.ne {g : Nat} {G : gG} {h : xH} {σ : Nat} {SS : gS} {n m : Nat} {ν : Nat → Nat} {SV : Nat → gS} (H : cSt g G h σ SS n m ν SV) {i : Nat} (hi : i < m) : σ ≠ ν i := H.1.ne (H.2.2.2.2.1 i hi).2 (by decide)
theorem cSt.dS {g : Nat} {G : gG} {h : xH} {σ : Nat} {SS : gS} {n m : Nat} {ν : Nat → Nat} {SV : Nat → gS} (H : cSt g G h σ SS n m ν SV) {i : Nat} (hi : i < m) : dj 7 σ 9 (ν i) := own_dj H.1.2.1 (H.2.2.2.2.1 i hi).2.2.1 (fun q => H.ne hi q.2)
theorem cSt.stOK {g : Nat} {G : gG} {h : xH} {σ : Nat} {SS : gS} {n m : Nat} {ν : Nat → Nat} {SV : Nat → gS} (H : cSt g G h σ SS n m ν SV) : stOK h SS n ν SV := ⟨H.2.1, Nat.le_trans H.2.2.1 H.2.2.2.1, fun i hi => ⟨(H.2.2.2.2.1 i (Nat.lt_of_lt_of_le hi H.2.2.1)).1, (H.2.2.2.2.1 i (Nat.lt_of_lt_of_le hi H.2.2.1)).2.1⟩⟩
theorem cSt.kept {g : Nat} {G G' : gG} {h h' : xH} {σ : Nat} {SS : gS} {n m : Nat} {ν : Nat → Nat} {SV : Nat → gS} (H : cSt g G h σ SS n m ν SV) (hG : ∀ q, q < h.2.2.1 → G' q = G q) (hk : ∀ q, q < h.2.2.1 → (G q = (g, σ) ∨ ∃ i, i < m ∧ G q = (g, ν i)) → h'.1 q = h.1 q) (hn : h.2.2.1 ≤ h'.2.2.1) : cSt g G' h' σ SS n m ν SV := by
  obtain ⟨a1, a2, a3, a4, a5, a6, a7⟩ := H
  have lt : ∀ {ci a : Nat} {S : gS}, 0 < o_sz ci → hB G g ci h a S → ∀ q, ofp ci a q = true → q < h.2.2.1 := fun hs H q hq => by
    have := ofp_lt hs hq
    have := H.2.2
    omega
  refine ⟨⟨a1.1.any (fun q hq => hk q (lt (by decide) a1 q hq) (Or.inl (a1.2.1 q hq))), fun q hq => (hG q (lt (by decide) a1 q hq)).trans (a1.2.1 q hq), Nat.le_trans a1.2.2 hn⟩, a2, a3, a4, fun i hi => ?_, a6, a7⟩
  obtain ⟨e1, e2⟩ := a5 i hi
  exact ⟨e1, e2.1.any (fun q hq => hk q (lt (by decide) e2 q hq) (Or.inr ⟨i, hi, e2.2.1 q hq⟩)), fun q hq => (hG q (lt (by decide) e2 q hq)).trans (e2.2.1 q hq), Nat.le_trans e2.2.2 hn⟩
/-- a VALUE made fresh: KEY, old KEY, CLASS; nothing in it -/
def frsh (SF SK : gS) (nk κ : Nat) (w : Int64) (c : Int32) : Prop := sJ SF 2 = w ∧ sJ SF 3 = w ∧ sI SF 4 = c ∧ sR SF 5 = .ref κ ∧ (∀ i, i < 8 → sA SF 0 i = f0F SK nk i) ∧ ∀ q, q < 64 → sL SF 1 q = 0
theorem frsh_rst (S SK : gS) (nk κ : Nat) (w : Int64) (c : Int32) : frsh (rst S SK w c κ nk 8) SK nk κ w c := by
  refine ⟨?_, ?_, ?_, ?_, fun i hi => ?_, fun q hq => ?_⟩
  · rfl
  · rfl
  · rfl
  · rfl
  · unfold rst
    rw [sA_rA, if_pos rfl]
    have := fillF_in (sA S 0) (f0F SK nk) (o := 0) hi
    rw [Nat.zero_add] at this
    exact this
  · unfold rst rst1
    rw [sL_rA, sL_rL, if_pos rfl, if_pos hq]
theorem insG_idx {α : Type} (f : Nat → α) {p n : Nat} (hp : p ≤ n) (i : Nat) : insG f p n (f n) i = f (if i < p then i else if i = p then n else if i ≤ n then i - 1 else i) := by
  unfold insG
  split
  · rfl
  · split
    · rfl
    · split <;> rfl
theorem idx_c {p n : Nat} (hp : p ≤ n) (i : Nat) : i < p ∧ (if i < p then i else if i = p then n else if i ≤ n then i - 1 else i) = i ∨ i = p ∧ (if i < p then i else if i = p then n else if i ≤ n then i - 1 else i) = n ∨ p < i ∧ i ≤ n ∧ (if i < p then i else if i = p then n else if i ≤ n then i - 1 else i) = i - 1 ∨ n < i ∧ (if i < p then i else if i = p then n else if i ≤ n then i - 1 else i) = i := by
  by_cases c1 : i < p
  · rw [if_pos c1]
    omega
  · rw [if_neg c1]
    by_cases c2 : i = p
    · rw [if_pos c2]
      omega
    · rw [if_neg c2]
      by_cases c3 : i ≤ n
      · rw [if_pos c3]
        omega
      · rw [if_neg c3]
        omega
theorem insS_q (SS : gS) (SV : Nat → gS) (w : Int64) (n f : Nat) {ν : Nat → Nat} {m : Nat} (hn : n ≤ m) (hq : ∀ i, i < m → sQ SS 0 i = .ref (ν i)) (i : Nat) (hi : i < m ∨ i ≤ n) (hf : i ≤ n → i < m ∨ insF (fun i => sJ (SV i) 2) w n ≤ i) : sQ (insS SS SV w n f) 0 i = .ref (insG ν (insF (fun i => sJ (SV i) 2) w n) n f i) := by
  have hp := insF_le (fun i => sJ (SV i) 2) w n
  unfold insS insG
  show sQ (rQ SS 0 _) 0 i = _
  rw [sQ_rQ, if_pos rfl]
  generalize insF (fun i => sJ (SV i) 2) w n = p at *
  by_cases c1 : i < p
  · rw [if_pos c1, va_up_ne _ _ (by omega)]
    unfold shQ
    rw [if_neg (by omega)]
    exact hq i (by omega)
  · rw [if_neg c1]
    by_cases c2 : i = p
    · rw [if_pos c2, c2, va_up_self]
    · rw [if_neg c2, va_up_ne _ _ c2]
      unfold shQ
      by_cases c3 : i ≤ n
      · rw [if_pos c3, if_pos (by omega)]
        exact hq (i - 1) (by omega)
      · rw [if_neg c3, if_neg (by omega)]
        exact hq i (by omega)
/-- insert, with what it leaves alone -/
theorem c_insertG (d : Nat) {g : Nat} {G : gG} {h : xH} {σ : Nat} {SS : gS} {n m : Nat} {ν : Nat → Nat} {SV : Nat → gS} {κ mk : Nat} {SK : gS} (w : Int64) (c : Int32) (H : cSt g G h σ SS n m ν SV) (hn : n < 60) (HK : hB G 1 1 h κ SK) (kO : kOK SK mk) (hg : g ≠ 1) : ∃ G' h' SS' m' f SF, xm (d + 3) 25 [.ref σ, .long w, .int c, .ref κ] h = some (some (.ref f), h') ∧ cSt g G' h' σ SS' (n + 1) m' (insG ν (insF (fun i => sJ (SV i) 2) w n) n f) (insG SV (insF (fun i => sJ (SV i) 2) w n) n SF) ∧ frsh SF SK mk κ w c ∧ sI SS' 1 = sI SS 1 ∧ (∀ q, q < h.2.2.1 → G' q = G q) ∧ (∀ q, q < h.2.2.1 → G q ≠ (g, σ) → (∀ i, i < m → G q ≠ (g, ν i)) → h'.1 q = h.1 q) ∧ h'.2.1 = h.2.1 ∧ (m' = m ∧ f = ν n ∧ h'.2.2.1 = h.2.2.1 ∧ h'.2.2.2 = h.2.2.2 ∨ m' = m + 1 ∧ f = h.2.2.1 ∧ h'.2.2.1 = h.2.2.1 + 3 ∧ h'.2.2.2 = h.2.2.2 + 78) := by
  have H0 := H
  obtain ⟨a1, a2, a3, a4, a5, a6, a7⟩ := H
  have hp := insF_le (fun i => sJ (SV i) 2) w n
  have hq : ∀ i, i < m → sQ SS 0 i = .ref (ν i) := fun i hi => (a5 i hi).1
  have n0 : o_sz 9 = 3 := rfl
  have n7 : o_sz 7 = 2 := rfl
  have n1 : o_sz 1 = 4 := rfl
  by_cases c0 : n < m
  · -- one that was made before
    obtain ⟨f1, f2⟩ := a5 n c0
    have e := c_insert_old d h σ n (ν n) κ mk SS (SV n) SK ν SV w c a1.1 a2 hn (fun i hi => ⟨(a5 i (by omega)).1, (a5 i (by omega)).2.1, H0.dS (by omega), own_dj f2.2.1 (a5 i (by omega)).2.2.1 (fun q => by
      have := a7 n i c0 (by omega) q.2
      omega)⟩) f1 f2.1 (H0.dS c0) (own_dj f2.2.1 HK.2.1 (fun q => hg q.1)) HK.1 kO
    refine ⟨G, _, insS SS SV w n (ν n), m, ν n, rst (SV n) SK w c κ mk 8, e, ⟨?_, rfl, by omega, a4, fun i hi => ?_, fun i h1 h2 => ?_, fun i j hi hj he => ?_⟩, frsh_rst _ _ _ _ _ _, rfl, fun _ _ => rfl, fun q hq1 hq2 hq3 => ?_, rfl, Or.inl ⟨rfl, rfl, rfl, rfl⟩⟩
    · exact ⟨isB_oh _ _ _ _, a1.2.1, a1.2.2⟩
    · refine ⟨insS_q SS SV w n (ν n) (by omega) hq i (Or.inl hi) (fun _ => Or.inl hi), ?_⟩
      -- each VALUE where it is now
      have key : ∀ x, x < m → x ≠ n → hB G g 9 (oh 7 (oh 9 h (ν n) (rst (SV n) SK w c κ mk 8)) σ (insS SS SV w n (ν n))) (ν x) (SV x) := fun x hx hne => (((a5 x hx).2.frame f2.2.1 (fun q => hne (a7 x n hx c0 q.2)))).frame a1.2.1 (fun q => H0.ne hx q.2.symm)
      unfold insG
      by_cases c1 : i < insF (fun i => sJ (SV i) 2) w n
      · rw [if_pos c1, if_pos c1]
        exact key i hi (by omega)
      · rw [if_neg c1, if_neg c1]
        by_cases c2 : i = insF (fun i => sJ (SV i) 2) w n
        · rw [if_pos c2, if_pos c2]
          exact (hB.set f2).frame a1.2.1 (fun q => H0.ne c0 q.2.symm)
        · rw [if_neg c2, if_neg c2]
          by_cases c3 : i ≤ n
          · rw [if_pos c3, if_pos c3]
            exact key (i - 1) (by omega) (by omega)
          · rw [if_neg c3, if_neg c3]
            exact key i hi (by omega)
    · have : sQ (insS SS SV w n (ν n)) 0 i = sQ SS 0 i := by
        unfold insS
        show sQ (rQ SS 0 _) 0 i = _
        rw [sQ_rQ, if_pos rfl, va_up_ne _ _ (by omega)]
        unfold shQ
        rw [if_neg (by omega)]
      rw [this]
      exact a6 i h1 h2
    · rw [insG_idx ν hp, insG_idx ν hp] at he
      have k1 := idx_c hp i
      have k2 := idx_c hp j
      generalize (if i < insF (fun i => sJ (SV i) 2) w n then i else if i = insF (fun i => sJ (SV i) 2) w n then n else if i ≤ n then i - 1 else i) = x at *
      generalize (if j < insF (fun i => sJ (SV i) 2) w n then j else if j = insF (fun i => sJ (SV i) 2) w n then n else if j ≤ n then j - 1 else j) = y at *
      have := a7 x y (by omega) (by omega) he
      omega
    · rw [oh_same (by
        cases hc : ofp 7 σ q with
        | false => rfl
        | true => exact absurd (a1.2.1 q hc) hq2), oh_same (by
        cases hc : ofp 9 (ν n) q with
        | false => rfl
        | true => exact absurd (f2.2.1 q hc) (hq3 n c0))]
  · -- a new one
    have hmn : m = n := by omega
    subst hmn
    have e := c_insert_new d h σ m κ mk SS SK ν SV w c a1.1 a2 hn (fun i hi => ⟨(a5 i hi).1, (a5 i hi).2.1, H0.dS hi, (a5 i hi).2.2.2⟩) (a6 m (Nat.le_refl _) hn) a1.2.2 HK.1 HK.2.2 kO
    have lt : ∀ {ci a g : Nat} {S : gS}, 0 < o_sz ci → hB G g ci h a S → ∀ q, ofp ci a q = true → q < h.2.2.1 := fun hs H q hq => by
      have := ofp_lt hs hq
      have := H.2.2
      omega
    have lo : ∀ q, q < h.2.2.1 → gN G g h.2.2.1 q = G q := fun q hq => by
      unfold gN
      rw [if_neg (by omega)]
    have hoN : ∀ q, ofp 9 h.2.2.1 q = true → h.2.2.1 ≤ q := fun q hq => ofp_ge hq
    have up9 : ∀ x, x < m → hB (gN G g h.2.2.1) g 9 (oh 7 (oh 9 (grow h 3 78) h.2.2.1 (rst (V0 κ) SK w c κ mk 8)) σ (insS SS SV w m h.2.2.1)) (ν x) (SV x) := by
      intro x hx
      have b := (a5 x hx).2
      refine ⟨b.1.any (fun q hq => ?_), fun q hq => (lo q (lt (by decide) b q hq)).trans (b.2.1 q hq), ?_⟩
      · have := lt (by decide) b q hq
        rw [oh_same (by
          cases hc : ofp 7 σ q with
          | false => rfl
          | true =>
            have e1 := b.2.1 q hq
            rw [a1.2.1 q hc] at e1
            exact absurd (Prod.mk.inj e1).2 (H0.ne hx)), oh_same (ofp_lo this)]
        rfl
      · have := b.2.2
        show ν x + o_sz 9 ≤ h.2.2.1 + 3
        omega
    have fv : ∀ x, x < m → ν x ≠ h.2.2.1 := fun x hx z => by
      have := (a5 x hx).2.2.2
      omega
    refine ⟨gN G g h.2.2.1, _, insS SS SV w m h.2.2.1, m + 1, h.2.2.1, rst (V0 κ) SK w c κ mk 8, e, ⟨?_, rfl, Nat.le_refl _, by omega, fun i hi => ?_, fun i h1 h2 => ?_, fun i j hi hj he => ?_⟩, frsh_rst _ _ _ _ _ _, rfl, lo, fun q hq1 hq2 hq3 => ?_, rfl, Or.inr ⟨rfl, rfl, rfl, rfl⟩⟩
    · refine ⟨isB_oh _ _ _ _, fun q hq => (lo q (lt (by decide) a1 q hq)).trans (a1.2.1 q hq), ?_⟩
      have := a1.2.2
      show σ + o_sz 7 ≤ h.2.2.1 + 3
      omega
    · refine ⟨insS_q SS SV w m h.2.2.1 (Nat.le_refl _) hq i (Or.inr (by omega)) (fun _ => by
        by_cases c : i < m
        · exact Or.inl c
        · exact Or.inr (by omega)), ?_⟩
      unfold insG
      by_cases c1 : i < insF (fun i => sJ (SV i) 2) w m
      · rw [if_pos c1, if_pos c1]
        exact up9 i (by omega)
      · rw [if_neg c1, if_neg c1]
        by_cases c2 : i = insF (fun i => sJ (SV i) 2) w m
        · rw [if_pos c2, if_pos c2]
          refine ⟨(isB_oh 9 (grow h 3 78) h.2.2.1 _).frame (dj_of (by decide) (by decide) (Or.inl a1.2.2)), own_new (by decide), Nat.le_refl _⟩
        · rw [if_neg c2, if_neg c2]
          by_cases c3 : i ≤ m
          · rw [if_pos c3, if_pos c3]
            exact up9 (i - 1) (by omega)
          · omega
    · have : sQ (insS SS SV w m h.2.2.1) 0 i = sQ SS 0 i := by
        unfold insS
        show sQ (rQ SS 0 _) 0 i = _
        rw [sQ_rQ, if_pos rfl, va_up_ne _ _ (by omega)]
        unfold shQ
        rw [if_neg (by omega)]
      rw [this]
      exact a6 i (by omega) h2
    · unfold insG at he
      generalize insF (fun i => sJ (SV i) 2) w m = p at *
      have inj : ∀ x y, x < m → y < m → ν x = ν y → x = y := a7
      split at he
      · split at he
        · exact inj i j (by omega) (by omega) he
        · split at he
          · exact absurd he (fv i (by omega))
          · split at he
            · have := inj i (j - 1) (by omega) (by omega) he
              omega
            · omega
      · split at he
        · split at he
          · exact absurd he.symm (fv j (by omega))
          · split at he
            · omega
            · split at he
              · exact absurd he.symm (fv (j - 1) (by omega))
              · omega
        · split at he
          · split at he
            · have := inj (i - 1) j (by omega) (by omega) he
              omega
            · split at he
              · exact absurd he (fv (i - 1) (by omega))
              · split at he
                · have := inj (i - 1) (j - 1) (by omega) (by omega) he
                  omega
                · omega
          · omega
    · rw [oh_same (by
        cases hc : ofp 7 σ q with
        | false => rfl
        | true => exact absurd (a1.2.1 q hc) hq2), oh_same (ofp_lo hq1)]
      rfl
/-- what does not touch a Store's group leaves it -/
theorem cSt.keep {g : Nat} {G G' : gG} {h h' : xH} {σ : Nat} {SS : gS} {n m : Nat} {ν : Nat → Nat} {SV : Nat → gS} (H : cSt g G h σ SS n m ν SV) (hG : ∀ q, q < h.2.2.1 → G' q = G q) (hk : ∀ q, q < h.2.2.1 → (G q).1 = g → h'.1 q = h.1 q) (hn : h.2.2.1 ≤ h'.2.2.1) : cSt g G' h' σ SS n m ν SV := H.kept hG (fun q hq hc => hk q hq (by
  rcases hc with e | ⟨i, _, e⟩ <;> rw [e])) hn
theorem hB.keep {G G' : gG} {g ci : Nat} {h h' : xH} {a : Nat} {S : gS} (H : hB G g ci h a S) (hs : 0 < o_sz ci) (hG : ∀ q, q < h.2.2.1 → G' q = G q) (hk : ∀ q, q < h.2.2.1 → G q = (g, a) → h'.1 q = h.1 q) (hn : h.2.2.1 ≤ h'.2.2.1) : hB G' g ci h' a S := by
  have lt : ∀ q, ofp ci a q = true → q < h.2.2.1 := fun q hq => by
    have := ofp_lt hs hq
    have := H.2.2
    omega
  exact ⟨H.1.any (fun q hq => hk q (lt q hq) (H.2.1 q hq)), fun q hq => (hG q (lt q hq)).trans (H.2.1 q hq), Nat.le_trans H.2.2 hn⟩
