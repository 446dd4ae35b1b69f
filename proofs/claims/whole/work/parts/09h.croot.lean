/-! The root of the class: BUILDS and RULES by numbers. -/
theorem inR_f {b : Int32} {n : Nat} (hn : n < 2147483648) (h : inR b 0 (lN n) = false) : b < nI 0 ∨ ¬ b < nI (n + 1) := by
  rcases Int32.lt_or_le b (nI 0) with h1 | h1
  · exact Or.inl h1
  · refine Or.inr fun h2 => ?_
    have h3 := Int32.le_iff_toInt_le.mp h1
    have h4 := Int32.lt_iff_toInt_lt.mp h2
    rw [nI_toInt (by omega)] at h3
    have : inR b 0 (lN n) = true := by
      unfold inR
      rw [Bool.and_eq_true, decide_eq_true_eq, decide_eq_true_eq, Int64.le_iff_toInt_le, Int64.le_iff_toInt_le, Int32.toInt_toInt64, lN_toInt hn]
      refine ⟨by simpa using h3, ?_⟩
      by_cases h5 : n + 1 < 2147483648
      · rw [nI_toInt h5] at h4
        omega
      · have := b.toInt_lt
        omega
    rw [this] at h
    cases h
theorem c_buildAt (d : Nat) (h : xH) (X b β : Nat) (S : gS) (H : isB 8 h X S) (hb : b < 8) (hβ : sQ S 0 b = .ref β) : xm (d + 1) 10 [.ref X, .int (nI b)] h = some (some (.ref β), h) := by
  rw [E_10 _ _ _ _ rfl]
  have h2 : ¬ 8 ≤ b := by omega
  simp (disch := omega) only [q_10_0, q_10_1, q_10_4, q_10_5, q_10_7, q_10_10, q_10_11, q_10_14, q_10_15, q_10_16, q_10_19, q_10_20, hg_8_0 H, hr_8_0 H, hw_8_0 H, hn_8_0 H, h_is H, h_ob H, ofs_len8, k_cr, k_ci, k_oR, k_oN, k_aR, k_aN, and_true, true_and, and_self, eq_self, Nat.reduceLT, Nat.reduceLeDiff, Nat.reduceEqDiff, Nat.reduceAdd, Nat.reduceMul, Bool.true_eq_false, Bool.false_eq_true, Nat.add_sub_cancel, Nat.not_lt_zero, Nat.zero_le, k_sub, k_sb1, k_r, k_n, k_ret, k_t1, k_t0, k_nr, k_nn, k_z0, k_z1, k_zb, x_okI, lit_nI, k_in, k_cl, k_lt, k_le, k_eq, k_neg, nI_add, nI_mul, k_clt, k_cgt, k_cle, k_cge, k_ceq, bI_0, k_sh8, ne_eq, Nat.add_eq_zero_iff, Nat.one_ne_zero, Nat.succ_ne_zero, and_false, false_and, not_false_eq_true, not_true_eq_false, ite_true, ite_false, if_true, if_false, h2, hβ]
theorem c_buildAt_n (d : Nat) (h : xH) (X : Nat) (x : Int32) (S : gS) (H : isB 8 h X S) (hx : inR x 0 7 = false) : xm (d + 1) 10 [.ref X, .int x] h = some (some .null, h) := by
  rw [E_10 _ _ _ _ rfl]
  rcases inR_f (n := 7) (by omega) hx with h1 | h1
  · simp (disch := omega) only [q_10_0, q_10_1, q_10_4, q_10_5, q_10_7, q_10_10, q_10_11, q_10_14, q_10_15, q_10_16, q_10_19, q_10_20, hg_8_0 H, hr_8_0 H, hw_8_0 H, hn_8_0 H, h_is H, h_ob H, ofs_len8, k_cr, k_ci, k_oR, k_oN, k_aR, k_aN, and_true, true_and, and_self, eq_self, Nat.reduceLT, Nat.reduceLeDiff, Nat.reduceEqDiff, Nat.reduceAdd, Nat.reduceMul, Bool.true_eq_false, Bool.false_eq_true, Nat.add_sub_cancel, Nat.not_lt_zero, Nat.zero_le, k_sub, k_sb1, k_r, k_n, k_ret, k_t1, k_t0, k_nr, k_nn, k_z0, k_z1, k_zb, x_okI, lit_nI, k_in, k_cl, k_lt, k_le, k_eq, k_neg, nI_add, nI_mul, k_clt, k_cgt, k_cle, k_cge, k_ceq, bI_0, k_sh8, ne_eq, Nat.add_eq_zero_iff, Nat.one_ne_zero, Nat.succ_ne_zero, and_false, false_and, not_false_eq_true, not_true_eq_false, ite_true, ite_false, if_true, if_false, h1]
  · have h2 : nI 8 ≤ x := Int32.not_lt.mp h1
    simp (disch := omega) only [q_10_0, q_10_1, q_10_4, q_10_5, q_10_7, q_10_10, q_10_11, q_10_14, q_10_15, q_10_16, q_10_19, q_10_20, hg_8_0 H, hr_8_0 H, hw_8_0 H, hn_8_0 H, h_is H, h_ob H, ofs_len8, k_cr, k_ci, k_oR, k_oN, k_aR, k_aN, and_true, true_and, and_self, eq_self, Nat.reduceLT, Nat.reduceLeDiff, Nat.reduceEqDiff, Nat.reduceAdd, Nat.reduceMul, Bool.true_eq_false, Bool.false_eq_true, Nat.add_sub_cancel, Nat.not_lt_zero, Nat.zero_le, k_sub, k_sb1, k_r, k_n, k_ret, k_t1, k_t0, k_nr, k_nn, k_z0, k_z1, k_zb, x_okI, lit_nI, k_in, k_cl, k_lt, k_le, k_eq, k_neg, nI_add, nI_mul, k_clt, k_cgt, k_cle, k_cge, k_ceq, bI_0, k_sh8, ne_eq, Nat.add_eq_zero_iff, Nat.one_ne_zero, Nat.succ_ne_zero, and_false, false_and, not_false_eq_true, not_true_eq_false, ite_true, ite_false, if_true, if_false, h2]
    split <;> rfl
theorem k_rf {α : Type} (o : Option Nat) (f : Value → Option α) : xcA (va_rf o) f = f (va_rf o) := by cases o <;> rfl
theorem k_nu {α : Type} (o : Option Nat) (x y : Option α) : xnul (va_rf o) x y = if o = none then x else y := by cases o <;> simp [va_rf, xnul]
theorem c_rulesFrom (d : Nat) (h : xH) (X f t : Nat) (S : gS) (ρ : Nat → Option Nat) (H : isB 8 h X S) (hf : f < 8) (ht : t < 8) (hr : sQ S 1 (8 * f + t) = va_rf (ρ (8 * f + t))) : xm (d + 1) 15 [.ref X, .int (nI f), .int (nI t)] h = some (some (va_rf (ρ (8 * f + t))), h) := by
  rw [E_15 _ _ _ _ _ rfl]
  have h2 : ¬ 8 ≤ f := by omega
  have h3 : ¬ 8 ≤ t := by omega
  simp (disch := omega) only [q_15_0, q_15_1, q_15_4, q_15_5, q_15_7, q_15_10, q_15_11, q_15_14, q_15_15, q_15_17, q_15_20, q_15_21, q_15_22, q_15_23, q_15_26, q_15_27, q_15_29, q_15_30, q_15_31, q_15_32, q_15_33, hg_8_1 H, hr_8_1 H, hw_8_1 H, hn_8_1 H, h_is H, h_ob H, ofs_len8, k_cr, k_ci, k_oR, k_oN, k_aR, k_aN, and_true, true_and, and_self, eq_self, Nat.reduceLT, Nat.reduceLeDiff, Nat.reduceEqDiff, Nat.reduceAdd, Nat.reduceMul, Bool.true_eq_false, Bool.false_eq_true, Nat.add_sub_cancel, Nat.not_lt_zero, Nat.zero_le, k_sub, k_sb1, k_r, k_n, k_ret, k_t1, k_t0, k_nr, k_nn, k_z0, k_z1, k_zb, x_okI, lit_nI, k_in, k_cl, k_lt, k_le, k_eq, k_neg, nI_add, nI_mul, k_clt, k_cgt, k_cle, k_cge, k_ceq, bI_0, k_sh8, ne_eq, Nat.add_eq_zero_iff, Nat.one_ne_zero, Nat.succ_ne_zero, and_false, false_and, not_false_eq_true, not_true_eq_false, ite_true, ite_false, if_true, if_false, h2, h3, hf, ht, Nat.mul_comm f 8, hr, k_rf]
theorem c_rulesFrom_n (d : Nat) (h : xH) (X : Nat) (f t : Int32) (S : gS) (H : isB 8 h X S) (hx : inR f 0 7 = false ∨ inR t 0 7 = false) : xm (d + 1) 15 [.ref X, .int f, .int t] h = some (some .null, h) := by
  rw [E_15 _ _ _ _ _ rfl]
  have key : ∀ x : Int32, inR x 0 7 = false → x < nI 0 ∨ nI 8 ≤ x := by
    intro x hx
    rcases inR_f (n := 7) (by omega) hx with h1 | h1
    · exact Or.inl h1
    · exact Or.inr (Int32.not_lt.mp h1)
  have big : ∀ x : Int32, nI 8 ≤ x → ¬ x < nI 8 := fun x q => Int32.not_lt.mpr q
  rcases hx with hx | hx
  · rcases key f hx with h1 | h1
    · simp (disch := omega) only [q_15_0, q_15_1, q_15_4, q_15_5, q_15_7, q_15_10, q_15_11, q_15_14, q_15_15, q_15_17, q_15_20, q_15_21, q_15_22, q_15_23, q_15_26, q_15_27, q_15_29, q_15_30, q_15_31, q_15_32, q_15_33, hg_8_1 H, hr_8_1 H, hw_8_1 H, hn_8_1 H, h_is H, h_ob H, ofs_len8, k_cr, k_ci, k_oR, k_oN, k_aR, k_aN, and_true, true_and, and_self, eq_self, Nat.reduceLT, Nat.reduceLeDiff, Nat.reduceEqDiff, Nat.reduceAdd, Nat.reduceMul, Bool.true_eq_false, Bool.false_eq_true, Nat.add_sub_cancel, Nat.not_lt_zero, Nat.zero_le, k_sub, k_sb1, k_r, k_n, k_ret, k_t1, k_t0, k_nr, k_nn, k_z0, k_z1, k_zb, x_okI, lit_nI, k_in, k_cl, k_lt, k_le, k_eq, k_neg, nI_add, nI_mul, k_clt, k_cgt, k_cle, k_cge, k_ceq, bI_0, k_sh8, ne_eq, Nat.add_eq_zero_iff, Nat.one_ne_zero, Nat.succ_ne_zero, and_false, false_and, not_false_eq_true, not_true_eq_false, ite_true, ite_false, if_true, if_false, h1]
    · have h2 := big f h1
      by_cases h3 : f < nI 0
      · simp (disch := omega) only [q_15_0, q_15_1, q_15_4, q_15_5, q_15_7, q_15_10, q_15_11, q_15_14, q_15_15, q_15_17, q_15_20, q_15_21, q_15_22, q_15_23, q_15_26, q_15_27, q_15_29, q_15_30, q_15_31, q_15_32, q_15_33, hg_8_1 H, hr_8_1 H, hw_8_1 H, hn_8_1 H, h_is H, h_ob H, ofs_len8, k_cr, k_ci, k_oR, k_oN, k_aR, k_aN, and_true, true_and, and_self, eq_self, Nat.reduceLT, Nat.reduceLeDiff, Nat.reduceEqDiff, Nat.reduceAdd, Nat.reduceMul, Bool.true_eq_false, Bool.false_eq_true, Nat.add_sub_cancel, Nat.not_lt_zero, Nat.zero_le, k_sub, k_sb1, k_r, k_n, k_ret, k_t1, k_t0, k_nr, k_nn, k_z0, k_z1, k_zb, x_okI, lit_nI, k_in, k_cl, k_lt, k_le, k_eq, k_neg, nI_add, nI_mul, k_clt, k_cgt, k_cle, k_cge, k_ceq, bI_0, k_sh8, ne_eq, Nat.add_eq_zero_iff, Nat.one_ne_zero, Nat.succ_ne_zero, and_false, false_and, not_false_eq_true, not_true_eq_false, ite_true, ite_false, if_true, if_false, h3]
      · simp (disch := omega) only [q_15_0, q_15_1, q_15_4, q_15_5, q_15_7, q_15_10, q_15_11, q_15_14, q_15_15, q_15_17, q_15_20, q_15_21, q_15_22, q_15_23, q_15_26, q_15_27, q_15_29, q_15_30, q_15_31, q_15_32, q_15_33, hg_8_1 H, hr_8_1 H, hw_8_1 H, hn_8_1 H, h_is H, h_ob H, ofs_len8, k_cr, k_ci, k_oR, k_oN, k_aR, k_aN, and_true, true_and, and_self, eq_self, Nat.reduceLT, Nat.reduceLeDiff, Nat.reduceEqDiff, Nat.reduceAdd, Nat.reduceMul, Bool.true_eq_false, Bool.false_eq_true, Nat.add_sub_cancel, Nat.not_lt_zero, Nat.zero_le, k_sub, k_sb1, k_r, k_n, k_ret, k_t1, k_t0, k_nr, k_nn, k_z0, k_z1, k_zb, x_okI, lit_nI, k_in, k_cl, k_lt, k_le, k_eq, k_neg, nI_add, nI_mul, k_clt, k_cgt, k_cle, k_cge, k_ceq, bI_0, k_sh8, ne_eq, Nat.add_eq_zero_iff, Nat.one_ne_zero, Nat.succ_ne_zero, and_false, false_and, not_false_eq_true, not_true_eq_false, ite_true, ite_false, if_true, if_false, h1, h2, h3]
  · by_cases h3 : f < nI 0
    · simp (disch := omega) only [q_15_0, q_15_1, q_15_4, q_15_5, q_15_7, q_15_10, q_15_11, q_15_14, q_15_15, q_15_17, q_15_20, q_15_21, q_15_22, q_15_23, q_15_26, q_15_27, q_15_29, q_15_30, q_15_31, q_15_32, q_15_33, hg_8_1 H, hr_8_1 H, hw_8_1 H, hn_8_1 H, h_is H, h_ob H, ofs_len8, k_cr, k_ci, k_oR, k_oN, k_aR, k_aN, and_true, true_and, and_self, eq_self, Nat.reduceLT, Nat.reduceLeDiff, Nat.reduceEqDiff, Nat.reduceAdd, Nat.reduceMul, Bool.true_eq_false, Bool.false_eq_true, Nat.add_sub_cancel, Nat.not_lt_zero, Nat.zero_le, k_sub, k_sb1, k_r, k_n, k_ret, k_t1, k_t0, k_nr, k_nn, k_z0, k_z1, k_zb, x_okI, lit_nI, k_in, k_cl, k_lt, k_le, k_eq, k_neg, nI_add, nI_mul, k_clt, k_cgt, k_cle, k_cge, k_ceq, bI_0, k_sh8, ne_eq, Nat.add_eq_zero_iff, Nat.one_ne_zero, Nat.succ_ne_zero, and_false, false_and, not_false_eq_true, not_true_eq_false, ite_true, ite_false, if_true, if_false, h3]
    · by_cases h4 : f < nI 8
      · rcases key t hx with h1 | h1
        · have h5 : ¬ nI 8 ≤ f := Int32.not_le.mpr h4
          simp (disch := omega) only [q_15_0, q_15_1, q_15_4, q_15_5, q_15_7, q_15_10, q_15_11, q_15_14, q_15_15, q_15_17, q_15_20, q_15_21, q_15_22, q_15_23, q_15_26, q_15_27, q_15_29, q_15_30, q_15_31, q_15_32, q_15_33, hg_8_1 H, hr_8_1 H, hw_8_1 H, hn_8_1 H, h_is H, h_ob H, ofs_len8, k_cr, k_ci, k_oR, k_oN, k_aR, k_aN, and_true, true_and, and_self, eq_self, Nat.reduceLT, Nat.reduceLeDiff, Nat.reduceEqDiff, Nat.reduceAdd, Nat.reduceMul, Bool.true_eq_false, Bool.false_eq_true, Nat.add_sub_cancel, Nat.not_lt_zero, Nat.zero_le, k_sub, k_sb1, k_r, k_n, k_ret, k_t1, k_t0, k_nr, k_nn, k_z0, k_z1, k_zb, x_okI, lit_nI, k_in, k_cl, k_lt, k_le, k_eq, k_neg, nI_add, nI_mul, k_clt, k_cgt, k_cle, k_cge, k_ceq, bI_0, k_sh8, ne_eq, Nat.add_eq_zero_iff, Nat.one_ne_zero, Nat.succ_ne_zero, and_false, false_and, not_false_eq_true, not_true_eq_false, ite_true, ite_false, if_true, if_false, h1, h3, h4, h5]
        · have h2 := big t h1
          have h5 : ¬ nI 8 ≤ f := Int32.not_le.mpr h4
          by_cases h6 : t < nI 0
          · simp (disch := omega) only [q_15_0, q_15_1, q_15_4, q_15_5, q_15_7, q_15_10, q_15_11, q_15_14, q_15_15, q_15_17, q_15_20, q_15_21, q_15_22, q_15_23, q_15_26, q_15_27, q_15_29, q_15_30, q_15_31, q_15_32, q_15_33, hg_8_1 H, hr_8_1 H, hw_8_1 H, hn_8_1 H, h_is H, h_ob H, ofs_len8, k_cr, k_ci, k_oR, k_oN, k_aR, k_aN, and_true, true_and, and_self, eq_self, Nat.reduceLT, Nat.reduceLeDiff, Nat.reduceEqDiff, Nat.reduceAdd, Nat.reduceMul, Bool.true_eq_false, Bool.false_eq_true, Nat.add_sub_cancel, Nat.not_lt_zero, Nat.zero_le, k_sub, k_sb1, k_r, k_n, k_ret, k_t1, k_t0, k_nr, k_nn, k_z0, k_z1, k_zb, x_okI, lit_nI, k_in, k_cl, k_lt, k_le, k_eq, k_neg, nI_add, nI_mul, k_clt, k_cgt, k_cle, k_cge, k_ceq, bI_0, k_sh8, ne_eq, Nat.add_eq_zero_iff, Nat.one_ne_zero, Nat.succ_ne_zero, and_false, false_and, not_false_eq_true, not_true_eq_false, ite_true, ite_false, if_true, if_false, h3, h4, h5, h6]
          · simp (disch := omega) only [q_15_0, q_15_1, q_15_4, q_15_5, q_15_7, q_15_10, q_15_11, q_15_14, q_15_15, q_15_17, q_15_20, q_15_21, q_15_22, q_15_23, q_15_26, q_15_27, q_15_29, q_15_30, q_15_31, q_15_32, q_15_33, hg_8_1 H, hr_8_1 H, hw_8_1 H, hn_8_1 H, h_is H, h_ob H, ofs_len8, k_cr, k_ci, k_oR, k_oN, k_aR, k_aN, and_true, true_and, and_self, eq_self, Nat.reduceLT, Nat.reduceLeDiff, Nat.reduceEqDiff, Nat.reduceAdd, Nat.reduceMul, Bool.true_eq_false, Bool.false_eq_true, Nat.add_sub_cancel, Nat.not_lt_zero, Nat.zero_le, k_sub, k_sb1, k_r, k_n, k_ret, k_t1, k_t0, k_nr, k_nn, k_z0, k_z1, k_zb, x_okI, lit_nI, k_in, k_cl, k_lt, k_le, k_eq, k_neg, nI_add, nI_mul, k_clt, k_cgt, k_cle, k_cge, k_ceq, bI_0, k_sh8, ne_eq, Nat.add_eq_zero_iff, Nat.one_ne_zero, Nat.succ_ne_zero, and_false, false_and, not_false_eq_true, not_true_eq_false, ite_true, ite_false, if_true, if_false, h1, h2, h3, h4, h5, h6]
      · have h5 : nI 8 ≤ f := Int32.not_lt.mp h4
        simp (disch := omega) only [q_15_0, q_15_1, q_15_4, q_15_5, q_15_7, q_15_10, q_15_11, q_15_14, q_15_15, q_15_17, q_15_20, q_15_21, q_15_22, q_15_23, q_15_26, q_15_27, q_15_29, q_15_30, q_15_31, q_15_32, q_15_33, hg_8_1 H, hr_8_1 H, hw_8_1 H, hn_8_1 H, h_is H, h_ob H, ofs_len8, k_cr, k_ci, k_oR, k_oN, k_aR, k_aN, and_true, true_and, and_self, eq_self, Nat.reduceLT, Nat.reduceLeDiff, Nat.reduceEqDiff, Nat.reduceAdd, Nat.reduceMul, Bool.true_eq_false, Bool.false_eq_true, Nat.add_sub_cancel, Nat.not_lt_zero, Nat.zero_le, k_sub, k_sb1, k_r, k_n, k_ret, k_t1, k_t0, k_nr, k_nn, k_z0, k_z1, k_zb, x_okI, lit_nI, k_in, k_cl, k_lt, k_le, k_eq, k_neg, nI_add, nI_mul, k_clt, k_cgt, k_cle, k_cge, k_ceq, bI_0, k_sh8, ne_eq, Nat.add_eq_zero_iff, Nat.one_ne_zero, Nat.succ_ne_zero, and_false, false_and, not_false_eq_true, not_true_eq_false, ite_true, ite_false, if_true, if_false, h3, h4, h5]
/-- RULES from BUILD b to k, or from k to it -/
def inuB (ρ : Nat → Option Nat) (b k : Nat) : Bool := (ρ (8 * b + k)).isSome || (ρ (8 * k + b)).isSome
theorem c_isInUse_loop (d : Nat) (h : xH) (X b : Nat) (S : gS) (ρ : Nat → Option Nat) (H : isB 8 h X S) (hb : b < 8) (hr : ∀ i, i < 64 → sQ S 1 i = va_rf (ρ i)) : ∀ (n i : Nat), i + n = 8 → xrun (d + 1) 14 25 [(1, .ref X), (1, .int (nI b)), (1, .int (nI i))] [] h = some (some (.int (bI (orF (inuB ρ b) n i))), h)
  | 0, i, hi => by
    have h8 : i = 8 := by omega
    subst h8
    rw [q_14_25]
    simp (disch := omega) only [q_14_0, q_14_1, q_14_4, q_14_7, q_14_8, q_14_11, q_14_12, q_14_15, q_14_18, q_14_21, q_14_22, q_14_23, q_14_24, q_14_26, q_14_28, q_14_31, q_14_32, q_14_33, q_14_34, q_14_37, q_14_40, q_14_41, q_14_42, q_14_43, q_14_46, q_14_49, q_14_50, q_14_51, q_14_54, q_14_57, q_14_58, hg_8_5 H, h_is H, h_ob H, ofs_len8, k_cr, k_ci, k_oR, k_oN, k_aR, k_aN, and_true, true_and, and_self, eq_self, Nat.reduceLT, Nat.reduceLeDiff, Nat.reduceEqDiff, Nat.reduceAdd, Nat.reduceMul, Bool.true_eq_false, Bool.false_eq_true, Nat.add_sub_cancel, Nat.not_lt_zero, Nat.zero_le, k_sub, k_sb1, k_r, k_n, k_ret, k_t1, k_t0, k_nr, k_nn, k_z0, k_z1, k_zb, x_okI, lit_nI, k_in, k_cl, k_lt, k_le, k_eq, k_neg, nI_add, nI_mul, k_clt, k_cgt, k_cle, k_cge, k_ceq, bI_0, k_sh8, ne_eq, Nat.add_eq_zero_iff, Nat.one_ne_zero, Nat.succ_ne_zero, and_false, false_and, not_false_eq_true, not_true_eq_false, ite_true, ite_false, if_true, if_false, Nat.le_refl]
    rfl
  | n + 1, i, hi => by
    rw [q_14_25]
    have h8 : ¬ 8 ≤ i := by omega
    have r1 := c_rulesFrom d h X b i S ρ H hb (by omega) (hr _ (by omega))
    have r2 := c_rulesFrom d h X i b S ρ H (by omega) hb (hr _ (by omega))
    have ih := c_isInUse_loop d h X b S ρ H hb hr n (i + 1) (by omega)
    simp (disch := omega) only [q_14_0, q_14_1, q_14_4, q_14_7, q_14_8, q_14_11, q_14_12, q_14_15, q_14_18, q_14_21, q_14_22, q_14_23, q_14_24, q_14_26, q_14_28, q_14_31, q_14_32, q_14_33, q_14_34, q_14_37, q_14_40, q_14_41, q_14_42, q_14_43, q_14_46, q_14_49, q_14_50, q_14_51, q_14_54, q_14_57, q_14_58, hg_8_5 H, h_is H, h_ob H, ofs_len8, k_cr, k_ci, k_oR, k_oN, k_aR, k_aN, and_true, true_and, and_self, eq_self, Nat.reduceLT, Nat.reduceLeDiff, Nat.reduceEqDiff, Nat.reduceAdd, Nat.reduceMul, Bool.true_eq_false, Bool.false_eq_true, Nat.add_sub_cancel, Nat.not_lt_zero, Nat.zero_le, k_sub, k_sb1, k_r, k_n, k_ret, k_t1, k_t0, k_nr, k_nn, k_z0, k_z1, k_zb, x_okI, lit_nI, k_in, k_cl, k_lt, k_le, k_eq, k_neg, nI_add, nI_mul, k_clt, k_cgt, k_cle, k_cge, k_ceq, bI_0, k_sh8, ne_eq, Nat.add_eq_zero_iff, Nat.one_ne_zero, Nat.succ_ne_zero, and_false, false_and, not_false_eq_true, not_true_eq_false, ite_true, ite_false, if_true, if_false, h8, r1, r2, ih, k_nu, orF_s]
    unfold inuB
    cases ρ (8 * b + i) <;> cases ρ (8 * i + b) <;> simp [bI]
