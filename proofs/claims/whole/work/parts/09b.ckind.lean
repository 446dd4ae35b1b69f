/-! Making blocks. -/
def xmkA (g : xH) (p : Nat) (e : xE) (n : Nat) : xH := (va_up g.1 p (some e), g.2.1, p + 1, g.2.2.2 + n)
theorem xmk_A (g : xH) (e : xE) (n : Nat) : xmk g e n = xmkA g g.2.2.1 e n := rfl
theorem kp_1 (g : xH) (a : Nat) (e : xE) : (xput g a e).1 a = some e := va_up_self _ _ _
theorem kp_2 (g : xH) (a q : Nat) (e : xE) (h : q ≠ a) : (xput g a e).1 q = g.1 q := va_up_ne _ _ h
theorem km_1 (g : xH) (p : Nat) (e : xE) (n : Nat) : (xmkA g p e n).1 p = some e := va_up_self _ _ _
theorem km_2 (g : xH) (p q : Nat) (e : xE) (n : Nat) (h : q ≠ p) : (xmkA g p e n).1 q = g.1 q := va_up_ne _ _ h
theorem kx_ob1 {α : Type} (g : xH) (a ci : Nat) (fs : List Value) (f : List Value → Option α) : xob (xput g a (.inr (ci, fs))) a ci f = f fs := by
  unfold xob
  rw [kp_1]
  dsimp only
  rw [if_pos rfl]
theorem kx_ob2 {α : Type} (g : xH) (p : Nat) (e : xE) (n a ci : Nat) (f : List Value → Option α) (h : a ≠ p) : xob (xmkA g p e n) a ci f = xob g a ci f := by
  unfold xob
  rw [km_2 _ _ _ _ _ h]
theorem kx_nx1 (g : xH) (a : Nat) (e : xE) : (xput g a e).2.2.1 = g.2.2.1 := rfl
theorem kx_nx2 (g : xH) (p n : Nat) (e : xE) : (xmkA g p e n).2.2.1 = p + 1 := rfl
theorem kx_ob3 {α : Type} {h : xH} {a ci : Nat} {fs : List Value} (H : h.1 a = some (.inr (ci, fs))) (f : List Value → Option α) : xob h a ci f = f fs := by
  unfold xob
  rw [H]
  dsimp only
  rw [if_pos rfl]
theorem x_okJ (v : Int64) : xokv .long (.long v) = true := by unfold xokv; simp [narrow, fits]
/-- the heap h, where n cells of s slots have come -/
def grow (h : xH) (n s : Nat) : xH := (h.1, h.2.1, h.2.2.1 + n, h.2.2.2 + s)
theorem oh_mk {ci a : Nat} {h g : xH} {S : gS} (h2 : g.2 = h.2) (h0 : g.1 a = some (.inr (ci, ofs ci a S))) (hs : ∀ o k, 0 < o → o_at ci o = some k → g.1 (a + o) = some (.inl (o_tag ci k, o_len ci k, oarr ci S k))) (hout : ∀ q, ofp ci a q = false → g.1 q = h.1 q) : g = oh ci h a S := by
  refine Prod.ext ?_ h2
  funext q
  show g.1 q = (match ocell ci a S q with | some e => some e | none => h.1 q)
  cases he : ofp ci a q with
  | false => rw [ofp_out he]; exact hout q he
  | true =>
    unfold ofp at he
    rw [Bool.or_eq_true, decide_eq_true_eq, Bool.and_eq_true, decide_eq_true_eq] at he
    unfold ocell
    by_cases hq : q = a
    · rw [if_pos hq, hq]
      exact h0
    · rw [if_neg hq]
      rcases he with he | ⟨he1, he2⟩
      · exact absurd he hq
      · rw [if_pos he1]
        cases h3 : o_at ci (q - a) with
        | none => rw [h3] at he2; cases he2
        | some k =>
          have := hs (q - a) k (by omega) h3
          rw [show a + (q - a) = q by omega] at this
          exact this
/-- what is not in a block whose arrays follow it one by one lies ahead of it or behind -/
theorem ofp_far {ci a q : Nat} (hd : ∀ o, o < o_sz ci → 0 < o → (o_at ci o).isSome = true) (h : ofp ci a q = false) : q < a ∨ a + o_sz ci ≤ q := by
  unfold ofp at h
  rw [Bool.or_eq_false_iff, decide_eq_false_iff_not, Bool.and_eq_false_iff] at h
  rcases Nat.lt_or_ge q a with h1 | h1
  · exact Or.inl h1
  · rcases Nat.lt_or_ge q (a + o_sz ci) with h3 | h3
    · have h4 : a < q := by have := h.1; omega
      rcases h.2 with h5 | h5
      · exact absurd h4 (of_decide_eq_false h5)
      · have := hd (q - a) (by omega) (by omega)
        rw [h5] at this
        cases this
    · exact Or.inr h3
theorem o_at_lt {ci o k : Nat} (h : o_at ci o = some k) : o < o_sz ci := by
  rcases Nat.lt_or_ge o (o_sz ci) with h1 | h1
  · exact h1
  · unfold o_at at h
    rw [List.getElem?_eq_none h1] at h
    cases h
def K0 (w : Int64) : gS := (fun _ => nI 0, fun _ => w, fun _ _ => nI 0, fun _ _ => 0, fun _ => .null, fun _ _ => .null)
theorem mk_Kind (h : xH) (a : Nat) (w : Int64) (z0 z1 z2 : xE) (ha : h.2.2.1 = a + 1) : xput (xput (xmkA (xput (xmkA (xput (xmkA h (a + 1) (.inl (2, 8, fun _ => .long 0)) 8) a z0) (a + 2) (.inl (0, 8, fun _ => .int (nI 0))) 8) a z1) (a + 3) (.inl (4, 8, fun _ => .int (nI 0))) 8) a z2) a (.inr (1, [.long w, .ref (a + 1), .ref (a + 2), .ref (a + 3), .int (nI 0)])) = oh 1 (grow h 3 24) a (K0 w) := by
  refine oh_mk ?_ ?_ ?_ ?_
  · simp only [xput, xmkA, grow, ha]
  · rw [kp_1]
    rfl
  · intro o k ho hk
    have hlt := o_at_lt hk
    have h4 : o < 4 := hlt
    have h5 : o = 1 ∨ o = 2 ∨ o = 3 := by omega
    rcases h5 with rfl | rfl | rfl
    · cases hk
      simp (disch := omega) only [kp_2, km_2, km_1]
      rfl
    · cases hk
      simp (disch := omega) only [kp_2, km_2, km_1]
      rfl
    · cases hk
      simp (disch := omega) only [kp_2, km_2, km_1]
      rfl
  · intro q hq
    have hf : q < a ∨ a + 4 ≤ q := ofp_far (by decide) hq
    simp (disch := omega) only [kp_2, km_2]
    rfl
theorem c_Kind (d : Nat) (h : xH) (a : Nat) (w : Int64) (H : h.1 a = some (.inr (1, [.long 0, .null, .null, .null, .int (nI 0)]))) (ha : h.2.2.1 = a + 1) : xm (d + 2) 3 [.ref a, .long w] h = some (none, oh 1 (grow h 3 24) a (K0 w)) := by
  rw [E_3 _ _ _ _ rfl]
  simp (disch := omega) only [q_3_0, q_3_1, q_3_4, q_3_5, q_3_7, q_3_9, q_3_12, q_3_13, q_3_15, q_3_17, q_3_20, q_3_21, q_3_23, q_3_25, q_3_28, q_3_29, q_3_30, q_3_33, k_cr, k_ci, k_oR, k_oN, k_aR, k_aN, and_true, true_and, and_self, eq_self, Nat.reduceLT, Nat.reduceLeDiff, Nat.reduceEqDiff, Nat.reduceAdd, Nat.reduceMul, Bool.true_eq_false, Bool.false_eq_true, Nat.add_sub_cancel, Nat.not_lt_zero, Nat.zero_le, k_sub, k_sb1, k_r, k_n, k_ret, k_t1, k_t0, k_nr, k_nn, k_z0, k_z1, k_zb, x_okI, lit_nI, k_in, k_cl, k_lt, k_le, k_eq, k_neg, nI_add, nI_mul, k_clt, k_cgt, k_cle, k_cge, k_ceq, bI_0, k_sh8, ne_eq, Nat.add_eq_zero_iff, Nat.one_ne_zero, Nat.succ_ne_zero, and_false, false_and, not_false_eq_true, not_true_eq_false, ite_true, ite_false, if_true, if_false, xmk_A, kx_ob1, kx_ob2, kx_nx1, kx_nx2, kx_ob3 H, ha, List.length_cons, List.length_nil, List.set_cons_succ, List.set_cons_zero, x_okJ, Nat.add_assoc, mk_Kind]
