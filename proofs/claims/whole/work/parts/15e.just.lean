/-! An E that is just a NAME. -/
def oneM (p : pP) (i : Nat) : eR → Prop
  | .inl _ => True
  | .inr (j, B) => i < j ∧ 0 < B.length ∧ ∀ x, B = [x] → x.1 = nI 3 → (pNm p i = true ∧ j = i + 1 ∧ x.2.2 = p.2.1 i) ∨ ∃ q, i < q ∧ q < j ∧ x.2.2 = p.2.1 q
theorem tl_ne {p : pP} {g : Nat → eR} (hg : ∀ i, oneM p i (g i)) : ∀ (f j : Nat) (w : Option Int32) (j' : Nat) (B : List aT), tlF p g f j w = .inr (j', B) → j ≤ j' ∧ (B.length = 0 → j' = j)
  | 0, j, w, j', B, e => by cases e
  | f + 1, j, w, j', B, e => by
    unfold tlF at e
    have h := hg (j + 1)
    split at e
    · split at e
      · cases e
      · rename_i q B0 e2
        rw [e2] at h
        cases e3 : tlF p g f q (some (p.1 j)) with
        | inl z =>
          rw [e3] at e
          cases e
        | inr y =>
          obtain ⟨j2, B2⟩ := y
          rw [e3] at e
          have e := Prod.mk.inj (Sum.inr.inj e)
          have ih := tl_ne hg f q _ j2 B2 e3
          have h1 := h.1
          have h2 := h.2.1
          refine ⟨by rw [← e.1]; omega, fun z => ?_⟩
          rw [← e.2, List.length_append, List.length_append] at z
          omega
    · split at e
      · split at e
        · cases e
        · rename_i q B0 e2
          rw [e2] at h
          cases e3 : tlF p g f q w with
          | inl z =>
            rw [e3] at e
            cases e
          | inr y =>
            obtain ⟨j2, B2⟩ := y
            rw [e3] at e
            have e := Prod.mk.inj (Sum.inr.inj e)
            have ih := tl_ne hg f q _ j2 B2 e3
            have h1 := h.1
            have h2 := h.2.1
            refine ⟨by rw [← e.1]; omega, fun z => ?_⟩
            rw [← e.2, List.length_append, List.length_append] at z
            omega
      · have e := Prod.mk.inj (Sum.inr.inj e)
        exact ⟨by rw [← e.1]; exact Nat.le_refl _, fun _ => e.1.symm⟩
theorem sm_one {p : pP} {g : Nat → eR} (hg : ∀ i, oneM p i (g i)) (i : Nat) : oneM p i (smF p g i) := by
  have h := hg i
  unfold smF
  cases e1 : g i with
  | inl q => trivial
  | inr y =>
    obtain ⟨j, B⟩ := y
    rw [e1] at h
    show oneM p i (ePre B (tlF p g 701 j none))
    cases e3 : tlF p g 701 j none with
    | inl z => trivial
    | inr y =>
      obtain ⟨j2, B2⟩ := y
      obtain ⟨t1, t2⟩ := tl_ne hg 701 j none j2 B2 e3
      obtain ⟨h1, h2, h3⟩ := h
      refine ⟨by omega, by rw [List.length_append]; omega, fun x hx h6 => ?_⟩
      have hl : B.length + B2.length = 1 := by
        rw [← List.length_append, hx]
        rfl
      have hB2 : B2 = [] := List.eq_nil_of_length_eq_zero (by omega)
      have hj := t2 (by omega)
      rw [hB2, List.append_nil] at hx
      rw [hj]
      exact h3 x hx h6
theorem clo_one {p : pP} {c : Int32} {i i2 : Nat} {e : eR} (hi : i < i2) (h : oneM p i2 e) : oneM p i (eClo p c [] e) := by
  cases e with
  | inl q => trivial
  | inr y =>
    obtain ⟨j, B⟩ := y
    show oneM p i (if p.1 j = c then .inr (j + 1, B ++ []) else .inl j)
    split
    · obtain ⟨h1, h2, h3⟩ := h
      rw [List.append_nil]
      refine ⟨by omega, h2, fun x hx h6 => Or.inr ?_⟩
      rcases h3 x hx h6 with ⟨q1, q2, q3⟩ | ⟨q, q1, q2, q3⟩
      · exact ⟨i2, hi, by omega, q3⟩
      · exact ⟨q, by omega, by omega, q3⟩
    · trivial
theorem two_no {B : List aT} {a x : aT} (h : 0 < B.length) (e : B ++ [a] = [x]) : False := by
  have : B.length + 1 = 1 := by
    rw [← List.length_singleton (a := a), ← List.length_append, e]
    rfl
  omega
theorem fcG_one {p : pP} {r : Option (Nat → eR)} (hr : ∀ g, r = some g → ∀ i, oneM p i (g i)) (i : Nat) : oneM p i (fcG p r i) := by
  unfold fcG
  split
  · cases r with
    | none => trivial
    | some g =>
      have h := hr g rfl (i + 1)
      show oneM p i (ePost [(nI 6, 0, 0)] (g (i + 1)))
      cases e : g (i + 1) with
      | inl q => trivial
      | inr y =>
        obtain ⟨j, B⟩ := y
        rw [e] at h
        exact ⟨by have := h.1; omega, by rw [List.length_append]; show 0 < B.length + 1; omega, fun x hx _ => (two_no h.2.1 hx).elim⟩
  · split
    · cases r with
      | none => trivial
      | some g => exact clo_one (Nat.lt_succ_self i) (sm_one (hr g rfl) (i + 1))
    · split
      · exact ⟨Nat.lt_succ_self i, Nat.zero_lt_one, fun x hx h6 => by
          rw [← List.head_eq_of_cons_eq hx] at h6
          exact absurd h6 (show ¬ nI 1 = nI 3 by decide)⟩
      · split
        · exact ⟨Nat.lt_succ_self i, Nat.zero_lt_one, fun x hx h6 => by
            rw [← List.head_eq_of_cons_eq hx] at h6
            exact absurd h6 (show ¬ nI 2 = nI 3 by decide)⟩
        · split
          · split
            · exact ⟨by show i < i + 2; omega, Nat.zero_lt_one, fun x hx h6 => by
                rw [← List.head_eq_of_cons_eq hx] at h6
                exact absurd h6 (show ¬ nI 5 = nI 3 by decide)⟩
            · trivial
          · split
            · rename_i hn
              split
              · cases r with
                | none => trivial
                | some g =>
                  have h := sm_one (hr g rfl) (i + 2)
                  show oneM p i (eClo p (nI 93) [(nI 4, p.2.2 i, p.2.1 i)] (smF p g (i + 2)))
                  cases e : smF p g (i + 2) with
                  | inl q => trivial
                  | inr y =>
                    obtain ⟨j, B⟩ := y
                    rw [e] at h
                    show oneM p i (if p.1 j = nI 93 then .inr (j + 1, B ++ [(nI 4, p.2.2 i, p.2.1 i)]) else .inl j)
                    split
                    · exact ⟨by have := h.1; omega, by rw [List.length_append]; show 0 < B.length + 1; omega, fun x hx _ => (two_no h.2.1 hx).elim⟩
                    · trivial
              · exact ⟨Nat.lt_succ_self i, Nat.zero_lt_one, fun x hx h6 => by
                  rw [← List.head_eq_of_cons_eq hx]
                  exact Or.inl ⟨hn, rfl, rfl⟩⟩
            · trivial
theorem fcF_one {p : pP} : ∀ (r i : Nat), oneM p i (fcF p r i)
  | 0, i => fcG_one (fun g e => by cases e) i
  | r + 1, i => fcG_one (fun g e => by cases e; exact fcF_one r) i
theorem up_lt {p : pP} {N : Nat} (hN : nN p N) (hu : ∀ i, ¬ p.1 i = nI 0 → p.2.1 i < p.2.1 (i + 1)) {i : Nat} : ∀ (k : Nat), i + k < N → p.2.1 i < p.2.1 (i + k + 1)
  | 0, h => hu i (hN.2.2 i h)
  | k + 1, h => by
    have ih := up_lt hN hu (i := i) k (by omega)
    have h2 := hu (i + k + 1) (hN.2.2 _ (by omega))
    show p.2.1 i < p.2.1 (i + k + 1 + 1)
    omega
theorem ex_just {p : pP} {i : Nat} (hn : pNm p i = true) (hc : p.1 (i + 1) = nI 59) : exF p i = .inr (i + 1, [(nI 3, p.2.2 i, p.2.1 i)]) := by
  have h1 := (pNm_1 hn).1
  have e1 : fcF p 20 i = .inr (i + 1, [(nI 3, p.2.2 i, p.2.1 i)]) := by
    show fcG p (some (fcF p 19)) i = _
    unfold fcG
    rw [if_neg (by rw [h1]; decide), if_neg (by rw [h1]; decide), if_neg (by rw [h1]; decide), if_neg (by rw [pWd_nm hn (by decide)]; decide), if_neg (by rw [h1]; decide), if_pos hn, if_neg (by rw [hc]; decide)]
  unfold exF smF
  rw [e1]
  show ePre [(nI 3, p.2.2 i, p.2.1 i)] (tlF p (fcF p 20) 701 (i + 1) none) = _
  unfold tlF
  rw [if_neg (by rw [hc]; decide), if_neg (by rw [hc]; decide)]
  rfl
/-- the class's test of it and the reference's -/
theorem js_iff {p : pP} {N i j : Nat} {B : List aT} (hN : nN p N) (hu : ∀ i, ¬ p.1 i = nI 0 → p.2.1 i < p.2.1 (i + 1)) (h7 : ∀ i, p.2.1 i ≤ 700) (e : exF p i = .inr (j, B)) (hj : j ≤ N) (hc : p.1 j = nI 59) : jsB p i B = true ↔ pNm p i = true ∧ p.1 (i + 1) = nI 59 := by
  refine ⟨fun h => ?_, fun h => ?_⟩
  · have h1 := sm_one (p := p) (fcF_one 20) i
    rw [show smF p (fcF p 20) i = .inr (j, B) from e] at h1
    match B, h, h1 with
    | [], h, _ => cases h
    | [x], h, h1 =>
      have h2 : (decide (x.1 = nI 3) && decide (nI x.2.2 = nI (p.2.1 i))) = true := h
      rw [Bool.and_eq_true, decide_eq_true_eq, decide_eq_true_eq] at h2
      rcases h1.2.2 x rfl h2.1 with ⟨q1, q2, q3⟩ | ⟨q, q1, q2, q3⟩
      · rw [← q2]
        exact ⟨q1, hc⟩
      · have h3 := up_lt hN hu (i := i) (q - i - 1) (by omega)
        rw [show i + (q - i - 1) + 1 = q by omega] at h3
        have h4 := h2.2
        have h5 := h7 q
        have h6 := h7 i
        rw [q3, k_eq (by omega) (by omega)] at h4
        omega
    | x :: y :: B, h, _ => cases h
  · rw [ex_just h.1 h.2] at e
    have e := Prod.mk.inj (Sum.inr.inj e)
    rw [← e.2]
    show (decide (nI 3 = nI 3) && decide (nI (p.2.1 i) = nI (p.2.1 i))) = true
    rw [decide_eq_true rfl, decide_eq_true rfl]
    rfl
