/-! The Reckoner: product. -/
def prW (a b : Int64) : Option Nat := if b = -1 then (if a = -9223372036854775808 then some 2 else none) else if b = 0 then none else if a * b / b = a then none else some 2
theorem c_product (d : Nat) (h : xH) (R : Nat) (S : gS) (a b : Int64) (H : isB 5 h R S) : xm (d + 1) 93 [.ref R, .long a, .long b] h = some (some (.long (a * b)), oh 5 h R (whS S (prW a b))) := by
  rw [E_93 _ _ _ _ _ rfl]
  unfold prW
  by_cases h1 : b = -1
  · rw [if_pos h1]
    by_cases h2 : a = -9223372036854775808
    · rw [if_pos h2]
      simp (disch := omega) only [q_93_0, q_93_1, q_93_2, q_93_3, q_93_5, q_93_6, q_93_9, q_93_10, q_93_13, q_93_14, q_93_17, q_93_18, q_93_21, q_93_24, q_93_25, q_93_26, q_93_27, q_93_30, q_93_32, q_93_33, q_93_34, q_93_35, q_93_36, q_93_39, q_93_40, q_93_41, q_93_44, q_93_46, hg_5_2 H, hp_5_2 H, h_is H, h_ob H, ofs_len5, ↓reduceIte, k_cr, k_ci, k_oR, k_oN, k_aR, k_aN, and_true, true_and, and_self, eq_self, Nat.reduceLT, Nat.reduceLeDiff, Nat.reduceEqDiff, Nat.reduceAdd, Nat.reduceMul, Bool.true_eq_false, Bool.false_eq_true, Nat.add_sub_cancel, Nat.not_lt_zero, Nat.zero_le, k_sub, k_sb1, k_r, k_n, k_ret, k_t1, k_t0, k_nr, k_nn, k_z0, k_z1, k_zb, x_okI, lit_nI, k_in, k_cl, k_lt, k_le, k_eq, k_neg, nI_add, nI_mul, k_clt, k_cgt, k_cle, k_cge, k_ceq, bI_0, k_sh8, ne_eq, Nat.add_eq_zero_iff, Nat.one_ne_zero, Nat.succ_ne_zero, and_false, false_and, not_false_eq_true, not_true_eq_false, ite_true, ite_false, if_true, if_false, h1, h2]
      rfl
    · rw [if_neg h2]
      simp (disch := omega) only [q_93_0, q_93_1, q_93_2, q_93_3, q_93_5, q_93_6, q_93_9, q_93_10, q_93_13, q_93_14, q_93_17, q_93_18, q_93_21, q_93_24, q_93_25, q_93_26, q_93_27, q_93_30, q_93_32, q_93_33, q_93_34, q_93_35, q_93_36, q_93_39, q_93_40, q_93_41, q_93_44, q_93_46, hg_5_2 H, hp_5_2 H, h_is H, h_ob H, ofs_len5, ↓reduceIte, k_cr, k_ci, k_oR, k_oN, k_aR, k_aN, and_true, true_and, and_self, eq_self, Nat.reduceLT, Nat.reduceLeDiff, Nat.reduceEqDiff, Nat.reduceAdd, Nat.reduceMul, Bool.true_eq_false, Bool.false_eq_true, Nat.add_sub_cancel, Nat.not_lt_zero, Nat.zero_le, k_sub, k_sb1, k_r, k_n, k_ret, k_t1, k_t0, k_nr, k_nn, k_z0, k_z1, k_zb, x_okI, lit_nI, k_in, k_cl, k_lt, k_le, k_eq, k_neg, nI_add, nI_mul, k_clt, k_cgt, k_cle, k_cge, k_ceq, bI_0, k_sh8, ne_eq, Nat.add_eq_zero_iff, Nat.one_ne_zero, Nat.succ_ne_zero, and_false, false_and, not_false_eq_true, not_true_eq_false, ite_true, ite_false, if_true, if_false, h1, h2]
      show _ = some (_, oh 5 h R S)
      rw [show oh 5 h R S = h from H]
  · rw [if_neg h1]
    by_cases h0 : b = 0
    · rw [if_pos h0]
      subst h0
      simp (disch := omega) only [q_93_0, q_93_1, q_93_2, q_93_3, q_93_5, q_93_6, q_93_9, q_93_10, q_93_13, q_93_14, q_93_17, q_93_18, q_93_21, q_93_24, q_93_25, q_93_26, q_93_27, q_93_30, q_93_32, q_93_33, q_93_34, q_93_35, q_93_36, q_93_39, q_93_40, q_93_41, q_93_44, q_93_46, hg_5_2 H, hp_5_2 H, h_is H, h_ob H, ofs_len5, ↓reduceIte, k_cr, k_ci, k_oR, k_oN, k_aR, k_aN, and_true, true_and, and_self, eq_self, Nat.reduceLT, Nat.reduceLeDiff, Nat.reduceEqDiff, Nat.reduceAdd, Nat.reduceMul, Bool.true_eq_false, Bool.false_eq_true, Nat.add_sub_cancel, Nat.not_lt_zero, Nat.zero_le, k_sub, k_sb1, k_r, k_n, k_ret, k_t1, k_t0, k_nr, k_nn, k_z0, k_z1, k_zb, x_okI, lit_nI, k_in, k_cl, k_lt, k_le, k_eq, k_neg, nI_add, nI_mul, k_clt, k_cgt, k_cle, k_cge, k_ceq, bI_0, k_sh8, ne_eq, Nat.add_eq_zero_iff, Nat.one_ne_zero, Nat.succ_ne_zero, and_false, false_and, not_false_eq_true, not_true_eq_false, ite_true, ite_false, if_true, if_false, h1]
      show _ = some (_, oh 5 h R S)
      rw [show oh 5 h R S = h from H]
    · rw [if_neg h0]
      by_cases h3 : a * b / b = a
      · rw [if_pos h3]
        simp (disch := omega) only [q_93_0, q_93_1, q_93_2, q_93_3, q_93_5, q_93_6, q_93_9, q_93_10, q_93_13, q_93_14, q_93_17, q_93_18, q_93_21, q_93_24, q_93_25, q_93_26, q_93_27, q_93_30, q_93_32, q_93_33, q_93_34, q_93_35, q_93_36, q_93_39, q_93_40, q_93_41, q_93_44, q_93_46, hg_5_2 H, hp_5_2 H, h_is H, h_ob H, ofs_len5, ↓reduceIte, k_cr, k_ci, k_oR, k_oN, k_aR, k_aN, and_true, true_and, and_self, eq_self, Nat.reduceLT, Nat.reduceLeDiff, Nat.reduceEqDiff, Nat.reduceAdd, Nat.reduceMul, Bool.true_eq_false, Bool.false_eq_true, Nat.add_sub_cancel, Nat.not_lt_zero, Nat.zero_le, k_sub, k_sb1, k_r, k_n, k_ret, k_t1, k_t0, k_nr, k_nn, k_z0, k_z1, k_zb, x_okI, lit_nI, k_in, k_cl, k_lt, k_le, k_eq, k_neg, nI_add, nI_mul, k_clt, k_cgt, k_cle, k_cge, k_ceq, bI_0, k_sh8, ne_eq, Nat.add_eq_zero_iff, Nat.one_ne_zero, Nat.succ_ne_zero, and_false, false_and, not_false_eq_true, not_true_eq_false, ite_true, ite_false, if_true, if_false, h1, h0, h3]
        show _ = some (_, oh 5 h R S)
        rw [show oh 5 h R S = h from H]
      · rw [if_neg h3]
        simp (disch := omega) only [q_93_0, q_93_1, q_93_2, q_93_3, q_93_5, q_93_6, q_93_9, q_93_10, q_93_13, q_93_14, q_93_17, q_93_18, q_93_21, q_93_24, q_93_25, q_93_26, q_93_27, q_93_30, q_93_32, q_93_33, q_93_34, q_93_35, q_93_36, q_93_39, q_93_40, q_93_41, q_93_44, q_93_46, hg_5_2 H, hp_5_2 H, h_is H, h_ob H, ofs_len5, ↓reduceIte, k_cr, k_ci, k_oR, k_oN, k_aR, k_aN, and_true, true_and, and_self, eq_self, Nat.reduceLT, Nat.reduceLeDiff, Nat.reduceEqDiff, Nat.reduceAdd, Nat.reduceMul, Bool.true_eq_false, Bool.false_eq_true, Nat.add_sub_cancel, Nat.not_lt_zero, Nat.zero_le, k_sub, k_sb1, k_r, k_n, k_ret, k_t1, k_t0, k_nr, k_nn, k_z0, k_z1, k_zb, x_okI, lit_nI, k_in, k_cl, k_lt, k_le, k_eq, k_neg, nI_add, nI_mul, k_clt, k_cgt, k_cle, k_cge, k_ceq, bI_0, k_sh8, ne_eq, Nat.add_eq_zero_iff, Nat.one_ne_zero, Nat.succ_ne_zero, and_false, false_and, not_false_eq_true, not_true_eq_false, ite_true, ite_false, if_true, if_false, h1, h0, h3]
        rfl
