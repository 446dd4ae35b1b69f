/-! The class as it is made. -/
theorem fr.uQ {P : Nat → Bool} {S T : gS} {j i : Nat} {x : Value} (h : fr P S T) (hj : P j = true) : fr P S (uQ T j i x) := fun k hk => by
  obtain ⟨a1, a2, a3, a4, a5, a6⟩ := h k hk
  refine ⟨a1, a2, a3, a4, a5, ?_⟩
  rw [← a6]
  funext q
  rw [sQ_uQ, if_neg (fun z => ne_of_P hj hk z.1)]
theorem x_loop (d : Nat) {X : Nat} : ∀ (j k : Nat) (g : xH) (SX : gS), k + j = 8 → isB 8 g X SX → X + 4 ≤ g.2.2.1 → ∃ g' SX', xrun (d + 2) 0 88 [(1, .ref X), (1, .int (nI k))] [] g = some (none, g') ∧ isB 8 g' X SX' ∧ fr (fun q => decide (q = 0)) SX SX' ∧ (∀ i, i < 8 → sQ SX' 0 i = if k ≤ i then .ref (g.2.2.1 + 2 * (i - k)) else sQ SX 0 i) ∧ (∀ i, i < j → isB 2 g' (g.2.2.1 + 2 * i) Z0) ∧ (∀ q, q < g.2.2.1 → ofp 8 X q = false → g'.1 q = g.1 q) ∧ g'.2.1 = g.2.1 ∧ g'.2.2.1 = g.2.2.1 + 2 * j ∧ g'.2.2.2 = g.2.2.2 + 8 * j
  | 0, k, g, SX, hk, H, hX => by
    have hk : k = 8 := hk
    subst hk
    refine ⟨g, SX, ?_, H, fr.rfl, fun i hi => by rw [if_neg (by omega)], fun i hi => by omega, fun q _ _ => rfl, rfl, rfl, rfl⟩
    rw [q_0_88]
    simp (disch := omega) only [q_0_89, q_0_91, q_0_113, ↓reduceIte, k_cr, k_ci, k_oR, k_oN, k_aR, k_aN, and_true, true_and, and_self, eq_self, Nat.reduceLT, Nat.reduceLeDiff, Nat.reduceEqDiff, Nat.reduceAdd, Nat.reduceMul, Bool.true_eq_false, Bool.false_eq_true, Nat.add_sub_cancel, Nat.not_lt_zero, Nat.zero_le, k_sub, k_sb1, k_r, k_n, k_ret, k_t1, k_t0, k_nr, k_nn, k_z0, k_z1, k_zb, x_okI, lit_nI, k_in, k_cl, k_lt, k_le, k_eq, k_neg, nI_add, nI_mul, k_clt, k_cgt, k_cle, k_cge, k_ceq, bI_0, k_sh8, ne_eq, Nat.add_eq_zero_iff, Nat.one_ne_zero, Nat.succ_ne_zero, and_false, false_and, not_false_eq_true, not_true_eq_false, ite_true, ite_false, if_true, if_false]
  | j + 1, k, g, SX, hk, H, hX => by
    have h8 : ¬ 8 ≤ k := by omega
    have eB := c_Build0 d (xmk g (.inr (2, [.null, .int (nI 0)])) 2) g.2.2.1 (va_up_self _ _ _) rfl
    have bX : below 8 X g.2.2.1 := fun q hq => by
      have := ofp_lt (by decide : 0 < o_sz 8) hq
      have : o_sz 8 = 4 := rfl
      omega
    have H1 : isB 8 (oh 2 (grow (xmk g (.inr (2, [.null, .int (nI 0)])) 2) 1 6) g.2.2.1 Z0) X SX := H.any (fun q hq => by
      have := bX q hq
      rw [oh_same (ofp_lo this)]
      show va_up g.1 g.2.2.1 _ q = g.1 q
      rw [va_up_ne _ _ (by omega)])
    have i2 : ∀ {α : Type} (f : Option α), xis (oh 2 (grow (xmk g (.inr (2, [.null, .int (nI 0)])) 2) 1 6) g.2.2.1 Z0) g.2.2.1 2 f = f := fun f => h_is (isB_oh _ _ _ _) f
    obtain ⟨g', SX', a1, a2, a3, a4, a5, a6, a7, a8, a9⟩ := x_loop d (X := X) j (k + 1) (oh 8 (oh 2 (grow (xmk g (.inr (2, [.null, .int (nI 0)])) 2) 1 6) g.2.2.1 Z0) X (uQ SX 0 k (.ref g.2.2.1))) (uQ SX 0 k (.ref g.2.2.1)) (by omega) (isB_oh _ _ _ _) (by
      show X + 4 ≤ g.2.2.1 + 1 + 1
      omega)
    have nx : (oh 8 (oh 2 (grow (xmk g (.inr (2, [.null, .int (nI 0)])) 2) 1 6) g.2.2.1 Z0) X (uQ SX 0 k (.ref g.2.2.1))).2.2.1 = g.2.2.1 + 2 := rfl
    rw [nx] at a4 a5 a6 a8
    refine ⟨g', SX', ?_, a2, (fr.rfl.uQ (by decide)).trans a3, fun i hi => ?_, fun i hi => ?_, fun q hq ho => ?_, a7, by omega, ?_⟩
    · rw [← a1, q_0_88]
      simp (disch := omega) only [q_0_89, q_0_91, q_0_94, q_0_95, q_0_98, q_0_99, q_0_102, q_0_103, q_0_106, q_0_107, q_0_110, hg_8_0 H, hw_8_0 H1, hn_8_0 H1, h_is H, h_ob H, ↓reduceIte, k_cr, k_ci, k_oR, k_oN, k_aR, k_aN, and_true, true_and, and_self, eq_self, Nat.reduceLT, Nat.reduceLeDiff, Nat.reduceEqDiff, Nat.reduceAdd, Nat.reduceMul, Bool.true_eq_false, Bool.false_eq_true, Nat.add_sub_cancel, Nat.not_lt_zero, Nat.zero_le, k_sub, k_sb1, k_r, k_n, k_ret, k_t1, k_t0, k_nr, k_nn, k_z0, k_z1, k_zb, x_okI, lit_nI, k_in, k_cl, k_lt, k_le, k_eq, k_neg, nI_add, nI_mul, k_clt, k_cgt, k_cle, k_cge, k_ceq, bI_0, k_sh8, ne_eq, Nat.add_eq_zero_iff, Nat.one_ne_zero, Nat.succ_ne_zero, and_false, false_and, not_false_eq_true, not_true_eq_false, ite_true, ite_false, if_true, if_false, h8, eB, i2]
    · rw [a4 i hi]
      by_cases c : k + 1 ≤ i
      · rw [if_pos c, if_pos (by omega), show g.2.2.1 + 2 + 2 * (i - (k + 1)) = g.2.2.1 + 2 * (i - k) by omega]
      · rw [if_neg c, sQ_uQ]
        by_cases e : i = k
        · rw [if_pos ⟨rfl, e⟩, if_pos (by omega), e, Nat.sub_self]
          rfl
        · rw [if_neg (fun z => e z.2), if_neg (by omega)]
    · cases i with
      | zero =>
        refine (isB_oh 2 (grow (xmk g (.inr (2, [.null, .int (nI 0)])) 2) 1 6) g.2.2.1 Z0).any (fun q hq => ?_)
        have b1 := ofp_lt (by decide : 0 < o_sz 2) hq
        have : o_sz 2 = 2 := rfl
        have ho : ofp 8 X q = false := bX.out (by omega)
        rw [a6 q (by omega) ho]
        exact oh_same ho
      | succ i =>
        have := a5 i (by omega)
        rw [show g.2.2.1 + 2 + 2 * i = g.2.2.1 + 2 * (i + 1) by omega] at this
        exact this
    · rw [a6 q (by omega) ho, oh_same ho, oh_same (ofp_lo hq)]
      show va_up g.1 g.2.2.1 _ q = g.1 q
      rw [va_up_ne _ _ (by omega)]
    · rw [a9]
      show g.2.2.2 + 2 + 6 + 8 * j = _
      omega
def SQ0 (Q : Nat) : gS := (fun _ => nI 0, fun _ => 0, fun _ _ => nI 0, fun _ _ => 0, fun k => if k = 0 then .ref (Q + 1) else if k = 1 then .ref (Q + 5) else if k = 5 then .ref (Q + 11) else if k = 6 then .ref (Q + 11) else if k = 7 then .ref (Q + 13) else if k = 9 then .ref (Q + 5) else if k = 10 then .ref (Q + 5) else .ref (Q + 14), fun _ _ => .null)
def SC00 (a : Nat) : gS := (fun k => if k = 1 then -nI 1 else if k = 2 then -nI 1 else if k = 3 then -nI 1 else if k = 4 then -nI 1 else nI 0, fun _ => 0, fun _ _ => nI 0, fun _ _ => 0, fun _ => .ref (a + 1), fun _ _ => .null)
/-- the blocks of the class as it is made -/
theorem x_blk (h : xH) (X : Nat) : isB 8 (PB h X 8 (ofs 8 X (SX00 X)) (LX X)) X (SX00 X) ∧ isB 4 (PB h X 8 (ofs 8 X (SX00 X)) (LX X)) (X + 4) (SQ0 (X + 4)) ∧ isB 0 (PB h X 8 (ofs 8 X (SX00 X)) (LX X)) (X + 5) Z0 ∧ isB 1 (PB h X 8 (ofs 8 X (SX00 X)) (LX X)) (X + 9) (K0 0) ∧ isB 6 (PB h X 8 (ofs 8 X (SX00 X)) (LX X)) (X + 25) (SC00 (X + 25)) ∧ isB 5 (PB h X 8 (ofs 8 X (SX00 X)) (LX X)) (X + 26) Z0 ∧ isB 7 (PB h X 8 (ofs 8 X (SX00 X)) (LX X)) (X + 28) Z0 ∧ isB 7 (PB h X 8 (ofs 8 X (SX00 X)) (LX X)) (X + 30) Z0 ∧ isB 7 (PB h X 8 (ofs 8 X (SX00 X)) (LX X)) (X + 32) Z0 := by
  have at' : ∀ i, i < 33 → (PB h X 8 (ofs 8 X (SX00 X)) (LX X)).1 (X + 1 + i) = ((LX X)[i]?).map Prod.fst := fun i hi => PB_at (by
    show i < 33
    exact hi)
  refine ⟨isB_of (fun q e he => ?_), isB_of (fun q e he => ?_), PB_is (L1 := (LX X).take 4) (L2 := (LX X).drop 8) (n := 5) (s := 2103) (by decide) (by decide) rfl rfl, PB_is (L1 := (LX X).take 8) (L2 := (LX X).drop 12) (n := 5) (s := 24) (by decide) (by decide) rfl rfl, PB_is (L1 := (LX X).take 24) (L2 := (LX X).drop 25) (n := 13) (s := 0) (by decide) (by decide) rfl rfl, PB_is (L1 := (LX X).take 25) (L2 := (LX X).drop 27) (n := 4) (s := 48) (by decide) (by decide) rfl rfl, PB_is (L1 := (LX X).take 27) (L2 := (LX X).drop 29) (n := 3) (s := 60) (by decide) (by decide) rfl rfl, PB_is (L1 := (LX X).take 29) (L2 := (LX X).drop 31) (n := 3) (s := 60) (by decide) (by decide) rfl rfl, PB_is (L1 := (LX X).take 31) (L2 := (LX X).drop 33) (n := 3) (s := 60) (by decide) (by decide) rfl rfl⟩
  · unfold ocell at he
    by_cases e1 : q = X
    · rw [if_pos e1] at he
      rw [e1, ← he]
      exact if_pos rfl
    · rw [if_neg e1] at he
      by_cases e2 : X < q
      · rw [if_pos e2] at he
        cases hk : o_at 8 (q - X) with
        | none => rw [hk] at he; cases he
        | some k =>
          have hlt : q - X < 4 := o_at_lt hk
          obtain ⟨o, ho, rfl⟩ : ∃ o, o < 3 ∧ q = X + 1 + o := ⟨q - X - 1, by omega, by omega⟩
          rw [at' o (by omega)]
          rw [show X + 1 + o - X = o + 1 by omega] at hk he
          rw [hk] at he
          have h3 : o = 0 ∨ o = 1 ∨ o = 2 := by omega
          rcases h3 with rfl | rfl | rfl
          · cases hk
            exact he
          · cases hk
            exact he
          · cases hk
            exact he
      · rw [if_neg e2] at he
        cases he
  · unfold ocell at he
    by_cases e1 : q = X + 4
    · rw [if_pos e1] at he
      rw [e1, ← he]
      exact at' 3 (by omega)
    · rw [if_neg e1] at he
      by_cases e2 : X + 4 < q
      · rw [if_pos e2] at he
        cases hk : o_at 4 (q - (X + 4)) with
        | none => rw [hk] at he; cases he
        | some k =>
          have hlt : q - (X + 4) < 11 := o_at_lt hk
          obtain ⟨o, ho, rfl⟩ : ∃ o, o < 10 ∧ q = X + 4 + 1 + o := ⟨q - (X + 4) - 1, by omega, by omega⟩
          rw [show X + 4 + 1 + o - (X + 4) = o + 1 by omega] at hk he
          rw [hk] at he
          have h3 : o = 0 ∨ o = 1 ∨ o = 2 ∨ o = 3 ∨ o = 4 ∨ o = 5 ∨ o = 6 ∨ o = 7 ∨ o = 8 ∨ o = 9 := by omega
          rcases h3 with rfl | rfl | rfl | rfl | rfl | rfl | rfl | rfl | rfl | rfl
          · cases hk
          · cases hk
          · cases hk
          · cases hk
          · cases hk
          · cases hk
          · cases hk
          · cases hk
          · cases hk
            rw [show X + 4 + 1 + 8 = X + 1 + 12 by omega, at' 12 (by omega)]
            exact he
          · cases hk
            rw [show X + 4 + 1 + 9 = X + 1 + 13 by omega, at' 13 (by omega)]
            exact he
      · rw [if_neg e2] at he
        cases he
