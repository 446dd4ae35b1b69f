/-! The class cuts a text into pieces: Pieces. -/
theorem uI_same (S : gS) (k : Nat) (x : Int32) (h : sI S k = x) : uI S k x = S := by
  unfold uI
  have : va_up S.1 k x = S.1 := by
    funext q
    unfold va_up
    by_cases hq : q = k
    · subst hq; simp; exact h.symm
    · simp [hq]
  rw [this]
/-- a piece comes behind the k that there are -/
def apS (S : gS) (k : Nat) (c a : Int32) (w : Int64) : gS := uI (uL (uA (uA S 0 k c) 1 k a) 2 k w) 3 (nI (k + 1))
theorem c_append (d : Nat) (h : xH) (P k : Nat) (S : gS) (c a : Int32) (w : Int64) (H : isB 0 h P S) (hk : sI S 3 = nI k) (h7 : k ≤ 700) : xm (d + 1) 44 [.ref P, .int c, .int a, .long w] h = some (none, oh 0 h P (apS S k c a w)) := by
  rw [E_44 _ _ _ _ _ _ rfl]
  unfold apS
  have h8 : ¬ 700 < k := by omega
  simp (disch := omega) only [q_44_0, q_44_1, q_44_4, q_44_7, q_44_10, q_44_11, q_44_14, q_44_15, q_44_18, q_44_19, q_44_20, q_44_21, q_44_24, q_44_25, q_44_28, q_44_29, q_44_30, q_44_31, q_44_34, q_44_35, q_44_38, q_44_39, q_44_40, q_44_41, q_44_42, q_44_45, q_44_46, q_44_47, q_44_50, hg_0_3 H, hp_0_3 H, hg_0_0 H, hr_0_0 H, hw_0_0 H, hg_0_1 H, hr_0_1 H, hw_0_1 H, hg_0_2 H, hr_0_2 H, hw_0_2 H, h_is H, h_ob H, ofs_len0, q_44_0, q_44_1, q_44_4, q_44_7, q_44_10, q_44_11, q_44_14, q_44_15, q_44_18, q_44_19, q_44_20, q_44_21, q_44_24, q_44_25, q_44_28, q_44_29, q_44_30, q_44_31, q_44_34, q_44_35, q_44_38, q_44_39, q_44_40, q_44_41, q_44_42, q_44_45, q_44_46, q_44_47, q_44_50, og_0_3, op_0_3, og_0_0, or_0_0, ow_0_0, og_0_1, or_0_1, ow_0_1, og_0_2, or_0_2, ow_0_2, o_is, o_ob, ofs_len0, ↓reduceIte, k_cr, k_ci, k_oR, k_oN, k_aR, k_aN, and_true, true_and, and_self, eq_self, Nat.reduceLT, Nat.reduceLeDiff, Nat.reduceEqDiff, Nat.reduceAdd, Nat.reduceMul, Bool.true_eq_false, Bool.false_eq_true, Nat.add_sub_cancel, Nat.not_lt_zero, Nat.zero_le, k_sub, k_sb1, k_r, k_n, k_ret, k_t1, k_t0, k_nr, k_nn, k_z0, k_z1, k_zb, x_okI, lit_nI, k_in, k_cl, k_lt, k_le, k_eq, k_neg, nI_add, nI_mul, k_clt, k_cgt, k_cle, k_cge, k_ceq, bI_0, k_sh8, ne_eq, Nat.add_eq_zero_iff, Nat.one_ne_zero, Nat.succ_ne_zero, and_false, false_and, not_false_eq_true, not_true_eq_false, ite_true, ite_false, if_true, if_false, sI_uI, sJ_uI, sA_uI, sL_uI, sR_uI, sQ_uI, sI_uJ, sJ_uJ, sA_uJ, sL_uJ, sR_uJ, sQ_uJ, sI_uA, sJ_uA, sA_uA, sL_uA, sR_uA, sQ_uA, sI_uL, sJ_uL, sA_uL, sL_uL, sR_uL, sQ_uL, sI_uR, sJ_uR, sA_uR, sL_uR, sR_uR, sQ_uR, sI_uQ, sJ_uQ, sA_uQ, sL_uQ, sR_uQ, sQ_uQ, hk, h7, h8]
theorem c_isSign (d : Nat) (h : xH) (e : Int32) : xm (d + 1) 46 [.int e] h = some (some (.int (bI (isSg e))), h) := by
  rw [E_46]
  by_cases e0 : e = nI 35
  · subst e0
    rw [show isSg (nI 35) = true by decide]
    simp (disch := omega) only [q_46_0, q_46_1, q_46_124, q_46_125, q_46_126, q_46_127, ↓reduceIte, k_cr, k_ci, k_oR, k_oN, k_aR, k_aN, and_true, true_and, and_self, eq_self, Nat.reduceLT, Nat.reduceLeDiff, Nat.reduceEqDiff, Nat.reduceAdd, Nat.reduceMul, Bool.true_eq_false, Bool.false_eq_true, Nat.add_sub_cancel, Nat.not_lt_zero, Nat.zero_le, k_sub, k_sb1, k_r, k_n, k_ret, k_t1, k_t0, k_nr, k_nn, k_z0, k_z1, k_zb, x_okI, lit_nI, k_in, k_cl, k_lt, k_le, k_eq, k_neg, nI_add, nI_mul, k_clt, k_cgt, k_cle, k_cge, k_ceq, bI_0, k_sh8, ne_eq, Nat.add_eq_zero_iff, Nat.one_ne_zero, Nat.succ_ne_zero, and_false, false_and, not_false_eq_true, not_true_eq_false, ite_true, ite_false, if_true, if_false, bI_t]
  by_cases e1 : e = nI 37
  · subst e1
    rw [show isSg (nI 37) = true by decide]
    simp (disch := omega) only [q_46_0, q_46_1, q_46_124, q_46_125, q_46_126, q_46_127, ↓reduceIte, k_cr, k_ci, k_oR, k_oN, k_aR, k_aN, and_true, true_and, and_self, eq_self, Nat.reduceLT, Nat.reduceLeDiff, Nat.reduceEqDiff, Nat.reduceAdd, Nat.reduceMul, Bool.true_eq_false, Bool.false_eq_true, Nat.add_sub_cancel, Nat.not_lt_zero, Nat.zero_le, k_sub, k_sb1, k_r, k_n, k_ret, k_t1, k_t0, k_nr, k_nn, k_z0, k_z1, k_zb, x_okI, lit_nI, k_in, k_cl, k_lt, k_le, k_eq, k_neg, nI_add, nI_mul, k_clt, k_cgt, k_cle, k_cge, k_ceq, bI_0, k_sh8, ne_eq, Nat.add_eq_zero_iff, Nat.one_ne_zero, Nat.succ_ne_zero, and_false, false_and, not_false_eq_true, not_true_eq_false, ite_true, ite_false, if_true, if_false, bI_t]
  by_cases e2 : e = nI 40
  · subst e2
    rw [show isSg (nI 40) = true by decide]
    simp (disch := omega) only [q_46_0, q_46_1, q_46_124, q_46_125, q_46_126, q_46_127, ↓reduceIte, k_cr, k_ci, k_oR, k_oN, k_aR, k_aN, and_true, true_and, and_self, eq_self, Nat.reduceLT, Nat.reduceLeDiff, Nat.reduceEqDiff, Nat.reduceAdd, Nat.reduceMul, Bool.true_eq_false, Bool.false_eq_true, Nat.add_sub_cancel, Nat.not_lt_zero, Nat.zero_le, k_sub, k_sb1, k_r, k_n, k_ret, k_t1, k_t0, k_nr, k_nn, k_z0, k_z1, k_zb, x_okI, lit_nI, k_in, k_cl, k_lt, k_le, k_eq, k_neg, nI_add, nI_mul, k_clt, k_cgt, k_cle, k_cge, k_ceq, bI_0, k_sh8, ne_eq, Nat.add_eq_zero_iff, Nat.one_ne_zero, Nat.succ_ne_zero, and_false, false_and, not_false_eq_true, not_true_eq_false, ite_true, ite_false, if_true, if_false, bI_t]
  by_cases e3 : e = nI 41
  · subst e3
    rw [show isSg (nI 41) = true by decide]
    simp (disch := omega) only [q_46_0, q_46_1, q_46_124, q_46_125, q_46_126, q_46_127, ↓reduceIte, k_cr, k_ci, k_oR, k_oN, k_aR, k_aN, and_true, true_and, and_self, eq_self, Nat.reduceLT, Nat.reduceLeDiff, Nat.reduceEqDiff, Nat.reduceAdd, Nat.reduceMul, Bool.true_eq_false, Bool.false_eq_true, Nat.add_sub_cancel, Nat.not_lt_zero, Nat.zero_le, k_sub, k_sb1, k_r, k_n, k_ret, k_t1, k_t0, k_nr, k_nn, k_z0, k_z1, k_zb, x_okI, lit_nI, k_in, k_cl, k_lt, k_le, k_eq, k_neg, nI_add, nI_mul, k_clt, k_cgt, k_cle, k_cge, k_ceq, bI_0, k_sh8, ne_eq, Nat.add_eq_zero_iff, Nat.one_ne_zero, Nat.succ_ne_zero, and_false, false_and, not_false_eq_true, not_true_eq_false, ite_true, ite_false, if_true, if_false, bI_t]
  by_cases e4 : e = nI 42
  · subst e4
    rw [show isSg (nI 42) = true by decide]
    simp (disch := omega) only [q_46_0, q_46_1, q_46_124, q_46_125, q_46_126, q_46_127, ↓reduceIte, k_cr, k_ci, k_oR, k_oN, k_aR, k_aN, and_true, true_and, and_self, eq_self, Nat.reduceLT, Nat.reduceLeDiff, Nat.reduceEqDiff, Nat.reduceAdd, Nat.reduceMul, Bool.true_eq_false, Bool.false_eq_true, Nat.add_sub_cancel, Nat.not_lt_zero, Nat.zero_le, k_sub, k_sb1, k_r, k_n, k_ret, k_t1, k_t0, k_nr, k_nn, k_z0, k_z1, k_zb, x_okI, lit_nI, k_in, k_cl, k_lt, k_le, k_eq, k_neg, nI_add, nI_mul, k_clt, k_cgt, k_cle, k_cge, k_ceq, bI_0, k_sh8, ne_eq, Nat.add_eq_zero_iff, Nat.one_ne_zero, Nat.succ_ne_zero, and_false, false_and, not_false_eq_true, not_true_eq_false, ite_true, ite_false, if_true, if_false, bI_t]
  by_cases e5 : e = nI 43
  · subst e5
    rw [show isSg (nI 43) = true by decide]
    simp (disch := omega) only [q_46_0, q_46_1, q_46_124, q_46_125, q_46_126, q_46_127, ↓reduceIte, k_cr, k_ci, k_oR, k_oN, k_aR, k_aN, and_true, true_and, and_self, eq_self, Nat.reduceLT, Nat.reduceLeDiff, Nat.reduceEqDiff, Nat.reduceAdd, Nat.reduceMul, Bool.true_eq_false, Bool.false_eq_true, Nat.add_sub_cancel, Nat.not_lt_zero, Nat.zero_le, k_sub, k_sb1, k_r, k_n, k_ret, k_t1, k_t0, k_nr, k_nn, k_z0, k_z1, k_zb, x_okI, lit_nI, k_in, k_cl, k_lt, k_le, k_eq, k_neg, nI_add, nI_mul, k_clt, k_cgt, k_cle, k_cge, k_ceq, bI_0, k_sh8, ne_eq, Nat.add_eq_zero_iff, Nat.one_ne_zero, Nat.succ_ne_zero, and_false, false_and, not_false_eq_true, not_true_eq_false, ite_true, ite_false, if_true, if_false, bI_t]
  by_cases e6 : e = nI 45
  · subst e6
    rw [show isSg (nI 45) = true by decide]
    simp (disch := omega) only [q_46_0, q_46_1, q_46_124, q_46_125, q_46_126, q_46_127, ↓reduceIte, k_cr, k_ci, k_oR, k_oN, k_aR, k_aN, and_true, true_and, and_self, eq_self, Nat.reduceLT, Nat.reduceLeDiff, Nat.reduceEqDiff, Nat.reduceAdd, Nat.reduceMul, Bool.true_eq_false, Bool.false_eq_true, Nat.add_sub_cancel, Nat.not_lt_zero, Nat.zero_le, k_sub, k_sb1, k_r, k_n, k_ret, k_t1, k_t0, k_nr, k_nn, k_z0, k_z1, k_zb, x_okI, lit_nI, k_in, k_cl, k_lt, k_le, k_eq, k_neg, nI_add, nI_mul, k_clt, k_cgt, k_cle, k_cge, k_ceq, bI_0, k_sh8, ne_eq, Nat.add_eq_zero_iff, Nat.one_ne_zero, Nat.succ_ne_zero, and_false, false_and, not_false_eq_true, not_true_eq_false, ite_true, ite_false, if_true, if_false, bI_t]
  by_cases e7 : e = nI 47
  · subst e7
    rw [show isSg (nI 47) = true by decide]
    simp (disch := omega) only [q_46_0, q_46_1, q_46_124, q_46_125, q_46_126, q_46_127, ↓reduceIte, k_cr, k_ci, k_oR, k_oN, k_aR, k_aN, and_true, true_and, and_self, eq_self, Nat.reduceLT, Nat.reduceLeDiff, Nat.reduceEqDiff, Nat.reduceAdd, Nat.reduceMul, Bool.true_eq_false, Bool.false_eq_true, Nat.add_sub_cancel, Nat.not_lt_zero, Nat.zero_le, k_sub, k_sb1, k_r, k_n, k_ret, k_t1, k_t0, k_nr, k_nn, k_z0, k_z1, k_zb, x_okI, lit_nI, k_in, k_cl, k_lt, k_le, k_eq, k_neg, nI_add, nI_mul, k_clt, k_cgt, k_cle, k_cge, k_ceq, bI_0, k_sh8, ne_eq, Nat.add_eq_zero_iff, Nat.one_ne_zero, Nat.succ_ne_zero, and_false, false_and, not_false_eq_true, not_true_eq_false, ite_true, ite_false, if_true, if_false, bI_t]
  by_cases e8 : e = nI 59
  · subst e8
    rw [show isSg (nI 59) = true by decide]
    simp (disch := omega) only [q_46_0, q_46_1, q_46_124, q_46_125, q_46_126, q_46_127, ↓reduceIte, k_cr, k_ci, k_oR, k_oN, k_aR, k_aN, and_true, true_and, and_self, eq_self, Nat.reduceLT, Nat.reduceLeDiff, Nat.reduceEqDiff, Nat.reduceAdd, Nat.reduceMul, Bool.true_eq_false, Bool.false_eq_true, Nat.add_sub_cancel, Nat.not_lt_zero, Nat.zero_le, k_sub, k_sb1, k_r, k_n, k_ret, k_t1, k_t0, k_nr, k_nn, k_z0, k_z1, k_zb, x_okI, lit_nI, k_in, k_cl, k_lt, k_le, k_eq, k_neg, nI_add, nI_mul, k_clt, k_cgt, k_cle, k_cge, k_ceq, bI_0, k_sh8, ne_eq, Nat.add_eq_zero_iff, Nat.one_ne_zero, Nat.succ_ne_zero, and_false, false_and, not_false_eq_true, not_true_eq_false, ite_true, ite_false, if_true, if_false, bI_t]
  by_cases e9 : e = nI 61
  · subst e9
    rw [show isSg (nI 61) = true by decide]
    simp (disch := omega) only [q_46_0, q_46_1, q_46_124, q_46_125, q_46_126, q_46_127, ↓reduceIte, k_cr, k_ci, k_oR, k_oN, k_aR, k_aN, and_true, true_and, and_self, eq_self, Nat.reduceLT, Nat.reduceLeDiff, Nat.reduceEqDiff, Nat.reduceAdd, Nat.reduceMul, Bool.true_eq_false, Bool.false_eq_true, Nat.add_sub_cancel, Nat.not_lt_zero, Nat.zero_le, k_sub, k_sb1, k_r, k_n, k_ret, k_t1, k_t0, k_nr, k_nn, k_z0, k_z1, k_zb, x_okI, lit_nI, k_in, k_cl, k_lt, k_le, k_eq, k_neg, nI_add, nI_mul, k_clt, k_cgt, k_cle, k_cge, k_ceq, bI_0, k_sh8, ne_eq, Nat.add_eq_zero_iff, Nat.one_ne_zero, Nat.succ_ne_zero, and_false, false_and, not_false_eq_true, not_true_eq_false, ite_true, ite_false, if_true, if_false, bI_t]
  by_cases e10 : e = nI 91
  · subst e10
    rw [show isSg (nI 91) = true by decide]
    simp (disch := omega) only [q_46_0, q_46_1, q_46_124, q_46_125, q_46_126, q_46_127, ↓reduceIte, k_cr, k_ci, k_oR, k_oN, k_aR, k_aN, and_true, true_and, and_self, eq_self, Nat.reduceLT, Nat.reduceLeDiff, Nat.reduceEqDiff, Nat.reduceAdd, Nat.reduceMul, Bool.true_eq_false, Bool.false_eq_true, Nat.add_sub_cancel, Nat.not_lt_zero, Nat.zero_le, k_sub, k_sb1, k_r, k_n, k_ret, k_t1, k_t0, k_nr, k_nn, k_z0, k_z1, k_zb, x_okI, lit_nI, k_in, k_cl, k_lt, k_le, k_eq, k_neg, nI_add, nI_mul, k_clt, k_cgt, k_cle, k_cge, k_ceq, bI_0, k_sh8, ne_eq, Nat.add_eq_zero_iff, Nat.one_ne_zero, Nat.succ_ne_zero, and_false, false_and, not_false_eq_true, not_true_eq_false, ite_true, ite_false, if_true, if_false, bI_t]
  by_cases e11 : e = nI 93
  · subst e11
    rw [show isSg (nI 93) = true by decide]
    simp (disch := omega) only [q_46_0, q_46_1, q_46_124, q_46_125, q_46_126, q_46_127, ↓reduceIte, k_cr, k_ci, k_oR, k_oN, k_aR, k_aN, and_true, true_and, and_self, eq_self, Nat.reduceLT, Nat.reduceLeDiff, Nat.reduceEqDiff, Nat.reduceAdd, Nat.reduceMul, Bool.true_eq_false, Bool.false_eq_true, Nat.add_sub_cancel, Nat.not_lt_zero, Nat.zero_le, k_sub, k_sb1, k_r, k_n, k_ret, k_t1, k_t0, k_nr, k_nn, k_z0, k_z1, k_zb, x_okI, lit_nI, k_in, k_cl, k_lt, k_le, k_eq, k_neg, nI_add, nI_mul, k_clt, k_cgt, k_cle, k_cge, k_ceq, bI_0, k_sh8, ne_eq, Nat.add_eq_zero_iff, Nat.one_ne_zero, Nat.succ_ne_zero, and_false, false_and, not_false_eq_true, not_true_eq_false, ite_true, ite_false, if_true, if_false, bI_t]
  by_cases e12 : e = nI 123
  · subst e12
    rw [show isSg (nI 123) = true by decide]
    simp (disch := omega) only [q_46_0, q_46_1, q_46_124, q_46_125, q_46_126, q_46_127, ↓reduceIte, k_cr, k_ci, k_oR, k_oN, k_aR, k_aN, and_true, true_and, and_self, eq_self, Nat.reduceLT, Nat.reduceLeDiff, Nat.reduceEqDiff, Nat.reduceAdd, Nat.reduceMul, Bool.true_eq_false, Bool.false_eq_true, Nat.add_sub_cancel, Nat.not_lt_zero, Nat.zero_le, k_sub, k_sb1, k_r, k_n, k_ret, k_t1, k_t0, k_nr, k_nn, k_z0, k_z1, k_zb, x_okI, lit_nI, k_in, k_cl, k_lt, k_le, k_eq, k_neg, nI_add, nI_mul, k_clt, k_cgt, k_cle, k_cge, k_ceq, bI_0, k_sh8, ne_eq, Nat.add_eq_zero_iff, Nat.one_ne_zero, Nat.succ_ne_zero, and_false, false_and, not_false_eq_true, not_true_eq_false, ite_true, ite_false, if_true, if_false, bI_t]
  by_cases e13 : e = nI 125
  · subst e13
    rw [show isSg (nI 125) = true by decide]
    simp (disch := omega) only [q_46_0, q_46_1, q_46_124, q_46_125, q_46_126, q_46_127, ↓reduceIte, k_cr, k_ci, k_oR, k_oN, k_aR, k_aN, and_true, true_and, and_self, eq_self, Nat.reduceLT, Nat.reduceLeDiff, Nat.reduceEqDiff, Nat.reduceAdd, Nat.reduceMul, Bool.true_eq_false, Bool.false_eq_true, Nat.add_sub_cancel, Nat.not_lt_zero, Nat.zero_le, k_sub, k_sb1, k_r, k_n, k_ret, k_t1, k_t0, k_nr, k_nn, k_z0, k_z1, k_zb, x_okI, lit_nI, k_in, k_cl, k_lt, k_le, k_eq, k_neg, nI_add, nI_mul, k_clt, k_cgt, k_cle, k_cge, k_ceq, bI_0, k_sh8, ne_eq, Nat.add_eq_zero_iff, Nat.one_ne_zero, Nat.succ_ne_zero, and_false, false_and, not_false_eq_true, not_true_eq_false, ite_true, ite_false, if_true, if_false, bI_t]
  have hs : isSg e = false := by
    unfold isSg sgs
    simp [e0, e1, e2, e3, e4, e5, e6, e7, e8, e9, e10, e11, e12, e13]
  simp (disch := omega) only [q_46_0, q_46_1, q_46_124, q_46_125, q_46_126, q_46_127, ↓reduceIte, k_cr, k_ci, k_oR, k_oN, k_aR, k_aN, and_true, true_and, and_self, eq_self, Nat.reduceLT, Nat.reduceLeDiff, Nat.reduceEqDiff, Nat.reduceAdd, Nat.reduceMul, Bool.true_eq_false, Bool.false_eq_true, Nat.add_sub_cancel, Nat.not_lt_zero, Nat.zero_le, k_sub, k_sb1, k_r, k_n, k_ret, k_t1, k_t0, k_nr, k_nn, k_z0, k_z1, k_zb, x_okI, lit_nI, k_in, k_cl, k_lt, k_le, k_eq, k_neg, nI_add, nI_mul, k_clt, k_cgt, k_cle, k_cge, k_ceq, bI_0, k_sh8, ne_eq, Nat.add_eq_zero_iff, Nat.one_ne_zero, Nat.succ_ne_zero, and_false, false_and, not_false_eq_true, not_true_eq_false, ite_true, ite_false, if_true, if_false, hs, bI_f, e0, e1, e2, e3, e4, e5, e6, e7, e8, e9, e10, e11, e12, e13]
theorem c_pkindAt (d : Nat) (h : xH) (P k i : Nat) (S : gS) (H : isB 0 h P S) (hk : sI S 3 = nI k) (h7 : k ≤ 701) (hi : i < 2147483648) : xm (d + 1) 60 [.ref P, .int (nI i)] h = some (some (.int (if i < k then sA S 0 i else nI 0)), h) := by
  rw [E_60 _ _ _ _ rfl]
  by_cases h1 : i < k
  · have h2 : ¬ k ≤ i := by omega
    simp (disch := omega) only [q_60_0, q_60_1, q_60_4, q_60_5, q_60_6, q_60_9, q_60_12, q_60_13, q_60_16, q_60_17, q_60_18, q_60_21, q_60_22, hg_0_3 H, hg_0_0 H, hr_0_0 H, hw_0_0 H, h_is H, h_ob H, ofs_len0, ↓reduceIte, k_cr, k_ci, k_oR, k_oN, k_aR, k_aN, and_true, true_and, and_self, eq_self, Nat.reduceLT, Nat.reduceLeDiff, Nat.reduceEqDiff, Nat.reduceAdd, Nat.reduceMul, Bool.true_eq_false, Bool.false_eq_true, Nat.add_sub_cancel, Nat.not_lt_zero, Nat.zero_le, k_sub, k_sb1, k_r, k_n, k_ret, k_t1, k_t0, k_nr, k_nn, k_z0, k_z1, k_zb, x_okI, lit_nI, k_in, k_cl, k_lt, k_le, k_eq, k_neg, nI_add, nI_mul, k_clt, k_cgt, k_cle, k_cge, k_ceq, bI_0, k_sh8, ne_eq, Nat.add_eq_zero_iff, Nat.one_ne_zero, Nat.succ_ne_zero, and_false, false_and, not_false_eq_true, not_true_eq_false, ite_true, ite_false, if_true, if_false, hk, h1, h2]
  · have h2 : k ≤ i := by omega
    simp (disch := omega) only [q_60_0, q_60_1, q_60_4, q_60_5, q_60_6, q_60_9, q_60_12, q_60_13, q_60_16, q_60_17, q_60_18, q_60_21, q_60_22, hg_0_3 H, hg_0_0 H, hr_0_0 H, hw_0_0 H, h_is H, h_ob H, ofs_len0, ↓reduceIte, k_cr, k_ci, k_oR, k_oN, k_aR, k_aN, and_true, true_and, and_self, eq_self, Nat.reduceLT, Nat.reduceLeDiff, Nat.reduceEqDiff, Nat.reduceAdd, Nat.reduceMul, Bool.true_eq_false, Bool.false_eq_true, Nat.add_sub_cancel, Nat.not_lt_zero, Nat.zero_le, k_sub, k_sb1, k_r, k_n, k_ret, k_t1, k_t0, k_nr, k_nn, k_z0, k_z1, k_zb, x_okI, lit_nI, k_in, k_cl, k_lt, k_le, k_eq, k_neg, nI_add, nI_mul, k_clt, k_cgt, k_cle, k_cge, k_ceq, bI_0, k_sh8, ne_eq, Nat.add_eq_zero_iff, Nat.one_ne_zero, Nat.succ_ne_zero, and_false, false_and, not_false_eq_true, not_true_eq_false, ite_true, ite_false, if_true, if_false, hk, h1, h2]
def cLt (c : Int32) : Bool := decide (nI 97 ≤ c) && decide (c ≤ nI 122)
def cDg (c : Int32) : Bool := decide (nI 48 ≤ c) && decide (c ≤ nI 57)
/-- letters as far as they go, as the class has them -/
def cwF (t : Nat → Int32) : Nat → Nat → Int64 → Nat × Int64
  | 0, p, v => (p, v)
  | k + 1, p, v => if cLt (t p) = true then cwF t k (p + 1) (sl8 v (t p)) else (p, v)
theorem cwF_s (t : Nat → Int32) (k p : Nat) (v : Int64) : cwF t (k + 1) p v = if cLt (t p) = true then cwF t k (p + 1) (sl8 v (t p)) else (p, v) := rfl
theorem cwF_le (t : Nat → Int32) : ∀ (k p : Nat) (v : Int64), p ≤ (cwF t k p v).1 ∧ (cwF t k p v).1 ≤ p + k
  | 0, p, v => ⟨Nat.le_refl _, Nat.le_refl _⟩
  | k + 1, p, v => by
    rw [cwF_s]
    split
    · have := cwF_le t k (p + 1) (sl8 v (t p))
      omega
    · show p ≤ p ∧ p ≤ p + (k + 1)
      omega
theorem uI4 (S : gS) (x y : Int32) : uI (uI S 4 x) 4 y = uI S 4 y := uI_uI S 4 x y
theorem c_word_loop (d : Nat) (h : xH) (X P n q : Nat) (SX S : gS) (H : isB 8 h X SX) (hd : dj 0 P 8 X) (h7 : n ≤ 700) : ∀ (k p : Nat) (v : Int64), p + k = n → xrun d 43 8 [(1, .ref P), (1, .ref (X + 3)), (1, .int (nI n)), (1, .int (nI q)), (2, .long v), (0, .null)] [] (oh 0 h P (uI S 4 (nI p))) = xrun d 43 66 [(1, .ref P), (1, .ref (X + 3)), (1, .int (nI n)), (1, .int (nI q)), (2, .long (cwF (sA SX 2) k p v).2), (0, .null)] [] (oh 0 h P (uI S 4 (nI (cwF (sA SX 2) k p v).1)))
  | 0, p, v, hp => by
    have : p = n := by omega
    subst this
    rw [q_43_8]
    simp (disch := omega) only [q_43_0, q_43_1, q_43_4, q_43_5, q_43_6, q_43_9, q_43_12, q_43_13, q_43_16, q_43_17, q_43_18, q_43_21, q_43_22, q_43_24, q_43_27, q_43_28, q_43_29, q_43_32, q_43_33, q_43_35, q_43_38, q_43_40, q_43_42, q_43_43, q_43_44, q_43_45, q_43_48, q_43_49, q_43_50, q_43_51, q_43_53, q_43_54, q_43_55, q_43_58, q_43_59, q_43_60, q_43_63, og_0_4, op_0_4, o_is, o_ob, ofs_len0, ↓reduceIte, k_cr, k_ci, k_oR, k_oN, k_aR, k_aN, and_true, true_and, and_self, eq_self, Nat.reduceLT, Nat.reduceLeDiff, Nat.reduceEqDiff, Nat.reduceAdd, Nat.reduceMul, Bool.true_eq_false, Bool.false_eq_true, Nat.add_sub_cancel, Nat.not_lt_zero, Nat.zero_le, k_sub, k_sb1, k_r, k_n, k_ret, k_t1, k_t0, k_nr, k_nn, k_z0, k_z1, k_zb, x_okI, lit_nI, k_in, k_cl, k_lt, k_le, k_eq, k_neg, nI_add, nI_mul, k_clt, k_cgt, k_cle, k_cge, k_ceq, bI_0, k_sh8, ne_eq, Nat.add_eq_zero_iff, Nat.one_ne_zero, Nat.succ_ne_zero, and_false, false_and, not_false_eq_true, not_true_eq_false, ite_true, ite_false, if_true, if_false, sI_uI, sJ_uI, sA_uI, sL_uI, sR_uI, sQ_uI, sI_uJ, sJ_uJ, sA_uJ, sL_uJ, sR_uJ, sQ_uJ, sI_uA, sJ_uA, sA_uA, sL_uA, sR_uA, sQ_uA, sI_uL, sJ_uL, sA_uL, sL_uL, sR_uL, sQ_uL, sI_uR, sJ_uR, sA_uR, sL_uR, sR_uR, sQ_uR, sI_uQ, sJ_uQ, sA_uQ, sL_uQ, sR_uQ, sQ_uQ, Nat.le_refl]
    rfl
  | k + 1, p, v, hp => by
    rw [q_43_8]
    have h1 : ¬ n ≤ p := by omega
    have HX : isB 8 (oh 0 h P (uI S 4 (nI p))) X SX := H.frame hd
    have ih := c_word_loop d h X P n q SX S H hd h7 k (p + 1) (sl8 v (sA SX 2 p)) (by omega)
    rw [cwF_s]
    unfold cLt
    by_cases e1 : sA SX 2 p < nI 97
    · have e2 : ¬ nI 97 ≤ sA SX 2 p := Int32.not_le.mpr e1
      simp (disch := omega) only [q_43_0, q_43_1, q_43_4, q_43_5, q_43_6, q_43_9, q_43_12, q_43_13, q_43_16, q_43_17, q_43_18, q_43_21, q_43_22, q_43_24, q_43_27, q_43_28, q_43_29, q_43_32, q_43_33, q_43_35, q_43_38, q_43_40, q_43_42, q_43_43, q_43_44, q_43_45, q_43_48, q_43_49, q_43_50, q_43_51, q_43_53, q_43_54, q_43_55, q_43_58, q_43_59, q_43_60, q_43_63, og_0_4, op_0_4, o_is, o_ob, ofs_len0, ↓reduceIte, k_cr, k_ci, k_oR, k_oN, k_aR, k_aN, and_true, true_and, and_self, eq_self, Nat.reduceLT, Nat.reduceLeDiff, Nat.reduceEqDiff, Nat.reduceAdd, Nat.reduceMul, Bool.true_eq_false, Bool.false_eq_true, Nat.add_sub_cancel, Nat.not_lt_zero, Nat.zero_le, k_sub, k_sb1, k_r, k_n, k_ret, k_t1, k_t0, k_nr, k_nn, k_z0, k_z1, k_zb, x_okI, lit_nI, k_in, k_cl, k_lt, k_le, k_eq, k_neg, nI_add, nI_mul, k_clt, k_cgt, k_cle, k_cge, k_ceq, bI_0, k_sh8, ne_eq, Nat.add_eq_zero_iff, Nat.one_ne_zero, Nat.succ_ne_zero, and_false, false_and, not_false_eq_true, not_true_eq_false, ite_true, ite_false, if_true, if_false, sI_uI, sJ_uI, sA_uI, sL_uI, sR_uI, sQ_uI, sI_uJ, sJ_uJ, sA_uJ, sL_uJ, sR_uJ, sQ_uJ, sI_uA, sJ_uA, sA_uA, sL_uA, sR_uA, sQ_uA, sI_uL, sJ_uL, sA_uL, sL_uL, sR_uL, sQ_uL, sI_uR, sJ_uR, sA_uR, sL_uR, sR_uR, sQ_uR, sI_uQ, sJ_uQ, sA_uQ, sL_uQ, sR_uQ, sQ_uQ, h1, hr_8_2 HX, e1, e2, decide_false, Bool.false_and]
    · have e2 : nI 97 ≤ sA SX 2 p := Int32.not_lt.mp e1
      by_cases e3 : nI 122 < sA SX 2 p
      · have e4 : ¬ sA SX 2 p ≤ nI 122 := Int32.not_le.mpr e3
        simp (disch := omega) only [q_43_0, q_43_1, q_43_4, q_43_5, q_43_6, q_43_9, q_43_12, q_43_13, q_43_16, q_43_17, q_43_18, q_43_21, q_43_22, q_43_24, q_43_27, q_43_28, q_43_29, q_43_32, q_43_33, q_43_35, q_43_38, q_43_40, q_43_42, q_43_43, q_43_44, q_43_45, q_43_48, q_43_49, q_43_50, q_43_51, q_43_53, q_43_54, q_43_55, q_43_58, q_43_59, q_43_60, q_43_63, og_0_4, op_0_4, o_is, o_ob, ofs_len0, ↓reduceIte, k_cr, k_ci, k_oR, k_oN, k_aR, k_aN, and_true, true_and, and_self, eq_self, Nat.reduceLT, Nat.reduceLeDiff, Nat.reduceEqDiff, Nat.reduceAdd, Nat.reduceMul, Bool.true_eq_false, Bool.false_eq_true, Nat.add_sub_cancel, Nat.not_lt_zero, Nat.zero_le, k_sub, k_sb1, k_r, k_n, k_ret, k_t1, k_t0, k_nr, k_nn, k_z0, k_z1, k_zb, x_okI, lit_nI, k_in, k_cl, k_lt, k_le, k_eq, k_neg, nI_add, nI_mul, k_clt, k_cgt, k_cle, k_cge, k_ceq, bI_0, k_sh8, ne_eq, Nat.add_eq_zero_iff, Nat.one_ne_zero, Nat.succ_ne_zero, and_false, false_and, not_false_eq_true, not_true_eq_false, ite_true, ite_false, if_true, if_false, sI_uI, sJ_uI, sA_uI, sL_uI, sR_uI, sQ_uI, sI_uJ, sJ_uJ, sA_uJ, sL_uJ, sR_uJ, sQ_uJ, sI_uA, sJ_uA, sA_uA, sL_uA, sR_uA, sQ_uA, sI_uL, sJ_uL, sA_uL, sL_uL, sR_uL, sQ_uL, sI_uR, sJ_uR, sA_uR, sL_uR, sR_uR, sQ_uR, sI_uQ, sJ_uQ, sA_uQ, sL_uQ, sR_uQ, sQ_uQ, h1, hr_8_2 HX, e1, e2, e3, e4, decide_false, decide_true, Bool.true_and]
      · have e4 : sA SX 2 p ≤ nI 122 := Int32.not_lt.mp e3
        unfold sl8 at ih ⊢
        simp (disch := omega) only [q_43_0, q_43_1, q_43_4, q_43_5, q_43_6, q_43_9, q_43_12, q_43_13, q_43_16, q_43_17, q_43_18, q_43_21, q_43_22, q_43_24, q_43_27, q_43_28, q_43_29, q_43_32, q_43_33, q_43_35, q_43_38, q_43_40, q_43_42, q_43_43, q_43_44, q_43_45, q_43_48, q_43_49, q_43_50, q_43_51, q_43_53, q_43_54, q_43_55, q_43_58, q_43_59, q_43_60, q_43_63, og_0_4, op_0_4, o_is, o_ob, ofs_len0, ↓reduceIte, k_cr, k_ci, k_oR, k_oN, k_aR, k_aN, and_true, true_and, and_self, eq_self, Nat.reduceLT, Nat.reduceLeDiff, Nat.reduceEqDiff, Nat.reduceAdd, Nat.reduceMul, Bool.true_eq_false, Bool.false_eq_true, Nat.add_sub_cancel, Nat.not_lt_zero, Nat.zero_le, k_sub, k_sb1, k_r, k_n, k_ret, k_t1, k_t0, k_nr, k_nn, k_z0, k_z1, k_zb, x_okI, lit_nI, k_in, k_cl, k_lt, k_le, k_eq, k_neg, nI_add, nI_mul, k_clt, k_cgt, k_cle, k_cge, k_ceq, bI_0, k_sh8, ne_eq, Nat.add_eq_zero_iff, Nat.one_ne_zero, Nat.succ_ne_zero, and_false, false_and, not_false_eq_true, not_true_eq_false, ite_true, ite_false, if_true, if_false, sI_uI, sJ_uI, sA_uI, sL_uI, sR_uI, sQ_uI, sI_uJ, sJ_uJ, sA_uJ, sL_uJ, sR_uJ, sQ_uJ, sI_uA, sJ_uA, sA_uA, sL_uA, sR_uA, sQ_uA, sI_uL, sJ_uL, sA_uL, sL_uL, sR_uL, sQ_uL, sI_uR, sJ_uR, sA_uR, sL_uR, sR_uR, sQ_uR, sI_uQ, sJ_uQ, sA_uQ, sL_uQ, sR_uQ, sQ_uQ, h1, hr_8_2 HX, e1, e2, e3, e4, decide_false, decide_true, Bool.true_and, uI4]
        exact ih
theorem c_cutWord (d : Nat) (h : xH) (X P n p k : Nat) (SX S : gS) (H : isB 8 h X SX) (HP : isB 0 h P S) (hd : dj 0 P 8 X) (h7 : n ≤ 700) (hp : p ≤ n) (h4 : sI S 4 = nI p) (hk : sI S 3 = nI k) (hk7 : k ≤ 700) : xm (d + 2) 43 [.ref P, .ref (X + 3), .int (nI n)] h = some (none, oh 0 h P (apS (uI S 4 (nI (cwF (sA SX 2) (n - p) p 0).1)) k (if 8 < (cwF (sA SX 2) (n - p) p 0).1 - p then nI 1 else kW (cwF (sA SX 2) (n - p) p 0).2) (nI p) (cwF (sA SX 2) (n - p) p 0).2)) := by
  rw [E_43 _ _ _ _ _ rfl rfl]
  have hl := c_word_loop (d + 1) h X P n p SX S H hd h7 (n - p) p 0 (by omega)
  rw [uI_same S 4 (nI p) h4, show oh 0 h P S = h from HP] at hl
  have hb := cwF_le (sA SX 2) (n - p) p 0
  generalize cwF (sA SX 2) (n - p) p 0 = z at hl hb ⊢
  simp (disch := omega) only [q_43_0, q_43_1, q_43_4, q_43_5, q_43_6, q_43_9, q_43_12, q_43_13, q_43_16, q_43_17, q_43_18, q_43_21, q_43_22, q_43_24, q_43_27, q_43_28, q_43_29, q_43_32, q_43_33, q_43_35, q_43_38, q_43_40, q_43_42, q_43_43, q_43_44, q_43_45, q_43_48, q_43_49, q_43_50, q_43_51, q_43_53, q_43_54, q_43_55, q_43_58, q_43_59, q_43_60, q_43_63, q_43_66, q_43_67, q_43_68, q_43_71, q_43_72, q_43_73, q_43_75, q_43_78, q_43_79, q_43_82, q_43_84, q_43_87, q_43_88, q_43_90, q_43_93, hg_0_4 HP, hp_0_4 HP, h_is HP, h_ob HP, ofs_len0, ↓reduceIte, k_cr, k_ci, k_oR, k_oN, k_aR, k_aN, and_true, true_and, and_self, eq_self, Nat.reduceLT, Nat.reduceLeDiff, Nat.reduceEqDiff, Nat.reduceAdd, Nat.reduceMul, Bool.true_eq_false, Bool.false_eq_true, Nat.add_sub_cancel, Nat.not_lt_zero, Nat.zero_le, k_sub, k_sb1, k_r, k_n, k_ret, k_t1, k_t0, k_nr, k_nn, k_z0, k_z1, k_zb, x_okI, lit_nI, k_in, k_cl, k_lt, k_le, k_eq, k_neg, nI_add, nI_mul, k_clt, k_cgt, k_cle, k_cge, k_ceq, bI_0, k_sh8, ne_eq, Nat.add_eq_zero_iff, Nat.one_ne_zero, Nat.succ_ne_zero, and_false, false_and, not_false_eq_true, not_true_eq_false, ite_true, ite_false, if_true, if_false, h4, hl]
  have hB : isB 0 (oh 0 h P (uI S 4 (nI z.1))) P (uI S 4 (nI z.1)) := isB_oh _ _ _ _
  have ha : ∀ c : Int32, xm (d + 1) 44 [.ref P, .int c, .int (nI p), .long z.2] (oh 0 h P (uI S 4 (nI z.1))) = some (none, oh 0 h P (apS (uI S 4 (nI z.1)) k c (nI p) z.2)) := by
    intro c
    have := c_append d (oh 0 h P (uI S 4 (nI z.1))) P k (uI S 4 (nI z.1)) c (nI p) z.2 hB hk hk7
    rw [oh_oh] at this
    exact this
  by_cases h8 : 8 < z.1 - p
  · have h9 : ¬ z.1 - p ≤ 8 := by omega
    simp (disch := omega) only [q_43_66, q_43_67, q_43_68, q_43_71, q_43_72, q_43_73, q_43_75, q_43_78, q_43_79, q_43_82, q_43_84, q_43_87, q_43_88, q_43_90, q_43_93, og_0_4, op_0_4, o_is, o_ob, ofs_len0, ↓reduceIte, k_cr, k_ci, k_oR, k_oN, k_aR, k_aN, and_true, true_and, and_self, eq_self, Nat.reduceLT, Nat.reduceLeDiff, Nat.reduceEqDiff, Nat.reduceAdd, Nat.reduceMul, Bool.true_eq_false, Bool.false_eq_true, Nat.add_sub_cancel, Nat.not_lt_zero, Nat.zero_le, k_sub, k_sb1, k_r, k_n, k_ret, k_t1, k_t0, k_nr, k_nn, k_z0, k_z1, k_zb, x_okI, lit_nI, k_in, k_cl, k_lt, k_le, k_eq, k_neg, nI_add, nI_mul, k_clt, k_cgt, k_cle, k_cge, k_ceq, bI_0, k_sh8, ne_eq, Nat.add_eq_zero_iff, Nat.one_ne_zero, Nat.succ_ne_zero, and_false, false_and, not_false_eq_true, not_true_eq_false, ite_true, ite_false, if_true, if_false, sI_uI, sJ_uI, sA_uI, sL_uI, sR_uI, sQ_uI, sI_uJ, sJ_uJ, sA_uJ, sL_uJ, sR_uJ, sQ_uJ, sI_uA, sJ_uA, sA_uA, sL_uA, sR_uA, sQ_uA, sI_uL, sJ_uL, sA_uL, sL_uL, sR_uL, sQ_uL, sI_uR, sJ_uR, sA_uR, sL_uR, sR_uR, sQ_uR, sI_uQ, sJ_uQ, sA_uQ, sL_uQ, sR_uQ, sQ_uQ, h8, h9, ha]
  · have h9 : z.1 - p ≤ 8 := by omega
    simp (disch := omega) only [q_43_66, q_43_67, q_43_68, q_43_71, q_43_72, q_43_73, q_43_75, q_43_78, q_43_79, q_43_82, q_43_84, q_43_87, q_43_88, q_43_90, q_43_93, og_0_4, op_0_4, o_is, o_ob, ofs_len0, ↓reduceIte, k_cr, k_ci, k_oR, k_oN, k_aR, k_aN, and_true, true_and, and_self, eq_self, Nat.reduceLT, Nat.reduceLeDiff, Nat.reduceEqDiff, Nat.reduceAdd, Nat.reduceMul, Bool.true_eq_false, Bool.false_eq_true, Nat.add_sub_cancel, Nat.not_lt_zero, Nat.zero_le, k_sub, k_sb1, k_r, k_n, k_ret, k_t1, k_t0, k_nr, k_nn, k_z0, k_z1, k_zb, x_okI, lit_nI, k_in, k_cl, k_lt, k_le, k_eq, k_neg, nI_add, nI_mul, k_clt, k_cgt, k_cle, k_cge, k_ceq, bI_0, k_sh8, ne_eq, Nat.add_eq_zero_iff, Nat.one_ne_zero, Nat.succ_ne_zero, and_false, false_and, not_false_eq_true, not_true_eq_false, ite_true, ite_false, if_true, if_false, sI_uI, sJ_uI, sA_uI, sL_uI, sR_uI, sQ_uI, sI_uJ, sJ_uJ, sA_uJ, sL_uJ, sR_uJ, sQ_uJ, sI_uA, sJ_uA, sA_uA, sL_uA, sR_uA, sQ_uA, sI_uL, sJ_uL, sA_uL, sL_uL, sR_uL, sQ_uL, sI_uR, sJ_uR, sA_uR, sL_uR, sR_uR, sQ_uR, sI_uQ, sJ_uQ, sA_uQ, sL_uQ, sR_uQ, sQ_uQ, h8, h9, ha, c_kindOfWord]
def cnV (v : Int64) (c : Int32) : Int64 := if 2147483648 < v * 10 + (c - nI 48).toInt64 then 2147483648 else v * 10 + (c - nI 48).toInt64
def cnF (t : Nat → Int32) : Nat → Nat → Int64 → Nat × Int64
  | 0, p, v => (p, v)
  | k + 1, p, v => if cDg (t p) = true then cnF t k (p + 1) (cnV v (t p)) else (p, v)
theorem cnF_s (t : Nat → Int32) (k p : Nat) (v : Int64) : cnF t (k + 1) p v = if cDg (t p) = true then cnF t k (p + 1) (cnV v (t p)) else (p, v) := rfl
theorem cnF_le (t : Nat → Int32) : ∀ (k p : Nat) (v : Int64), p ≤ (cnF t k p v).1 ∧ (cnF t k p v).1 ≤ p + k
  | 0, p, v => ⟨Nat.le_refl _, Nat.le_refl _⟩
  | k + 1, p, v => by
    rw [cnF_s]
    split
    · have := cnF_le t k (p + 1) (cnV v (t p))
      omega
    · show p ≤ p ∧ p ≤ p + (k + 1)
      omega
theorem c_num_loop (d : Nat) (h : xH) (X P n q : Nat) (SX S : gS) (H : isB 8 h X SX) (hd : dj 0 P 8 X) (h7 : n ≤ 700) : ∀ (k p : Nat) (v : Int64), p + k = n → xrun (d + 1) 45 8 [(1, .ref P), (1, .ref (X + 3)), (1, .int (nI n)), (1, .int (nI q)), (2, .long v), (0, .null)] [] (oh 0 h P (uI S 4 (nI p))) = xrun (d + 1) 45 76 [(1, .ref P), (1, .ref (X + 3)), (1, .int (nI n)), (1, .int (nI q)), (2, .long (cnF (sA SX 2) k p v).2), (0, .null)] [] (oh 0 h P (uI S 4 (nI (cnF (sA SX 2) k p v).1)))
  | 0, p, v, hp => by
    have : p = n := by omega
    subst this
    rw [q_45_8]
    simp (disch := omega) only [q_45_0, q_45_1, q_45_4, q_45_5, q_45_6, q_45_9, q_45_12, q_45_13, q_45_16, q_45_17, q_45_18, q_45_21, q_45_22, q_45_24, q_45_27, q_45_28, q_45_29, q_45_32, q_45_33, q_45_35, q_45_38, q_45_40, q_45_43, q_45_44, q_45_45, q_45_46, q_45_49, q_45_50, q_45_52, q_45_53, q_45_54, q_45_55, q_45_58, q_45_61, q_45_63, q_45_64, q_45_65, q_45_68, q_45_69, q_45_70, q_45_73, og_0_4, op_0_4, o_is, o_ob, ofs_len0, ↓reduceIte, k_cr, k_ci, k_oR, k_oN, k_aR, k_aN, and_true, true_and, and_self, eq_self, Nat.reduceLT, Nat.reduceLeDiff, Nat.reduceEqDiff, Nat.reduceAdd, Nat.reduceMul, Bool.true_eq_false, Bool.false_eq_true, Nat.add_sub_cancel, Nat.not_lt_zero, Nat.zero_le, k_sub, k_sb1, k_r, k_n, k_ret, k_t1, k_t0, k_nr, k_nn, k_z0, k_z1, k_zb, x_okI, lit_nI, k_in, k_cl, k_lt, k_le, k_eq, k_neg, nI_add, nI_mul, k_clt, k_cgt, k_cle, k_cge, k_ceq, bI_0, k_sh8, ne_eq, Nat.add_eq_zero_iff, Nat.one_ne_zero, Nat.succ_ne_zero, and_false, false_and, not_false_eq_true, not_true_eq_false, ite_true, ite_false, if_true, if_false, sI_uI, sJ_uI, sA_uI, sL_uI, sR_uI, sQ_uI, sI_uJ, sJ_uJ, sA_uJ, sL_uJ, sR_uJ, sQ_uJ, sI_uA, sJ_uA, sA_uA, sL_uA, sR_uA, sQ_uA, sI_uL, sJ_uL, sA_uL, sL_uL, sR_uL, sQ_uL, sI_uR, sJ_uR, sA_uR, sL_uR, sR_uR, sQ_uR, sI_uQ, sJ_uQ, sA_uQ, sL_uQ, sR_uQ, sQ_uQ, Nat.le_refl]
    rfl
  | k + 1, p, v, hp => by
    rw [q_45_8]
    have h1 : ¬ n ≤ p := by omega
    have HX : isB 8 (oh 0 h P (uI S 4 (nI p))) X SX := H.frame hd
    have ih := c_num_loop d h X P n q SX S H hd h7 k (p + 1) (cnV v (sA SX 2 p)) (by omega)
    rw [cnF_s]
    unfold cDg
    by_cases e1 : sA SX 2 p < nI 48
    · have e2 : ¬ nI 48 ≤ sA SX 2 p := Int32.not_le.mpr e1
      simp (disch := omega) only [q_45_0, q_45_1, q_45_4, q_45_5, q_45_6, q_45_9, q_45_12, q_45_13, q_45_16, q_45_17, q_45_18, q_45_21, q_45_22, q_45_24, q_45_27, q_45_28, q_45_29, q_45_32, q_45_33, q_45_35, q_45_38, q_45_40, q_45_43, q_45_44, q_45_45, q_45_46, q_45_49, q_45_50, q_45_52, q_45_53, q_45_54, q_45_55, q_45_58, q_45_61, q_45_63, q_45_64, q_45_65, q_45_68, q_45_69, q_45_70, q_45_73, og_0_4, op_0_4, o_is, o_ob, ofs_len0, ↓reduceIte, k_cr, k_ci, k_oR, k_oN, k_aR, k_aN, and_true, true_and, and_self, eq_self, Nat.reduceLT, Nat.reduceLeDiff, Nat.reduceEqDiff, Nat.reduceAdd, Nat.reduceMul, Bool.true_eq_false, Bool.false_eq_true, Nat.add_sub_cancel, Nat.not_lt_zero, Nat.zero_le, k_sub, k_sb1, k_r, k_n, k_ret, k_t1, k_t0, k_nr, k_nn, k_z0, k_z1, k_zb, x_okI, lit_nI, k_in, k_cl, k_lt, k_le, k_eq, k_neg, nI_add, nI_mul, k_clt, k_cgt, k_cle, k_cge, k_ceq, bI_0, k_sh8, ne_eq, Nat.add_eq_zero_iff, Nat.one_ne_zero, Nat.succ_ne_zero, and_false, false_and, not_false_eq_true, not_true_eq_false, ite_true, ite_false, if_true, if_false, sI_uI, sJ_uI, sA_uI, sL_uI, sR_uI, sQ_uI, sI_uJ, sJ_uJ, sA_uJ, sL_uJ, sR_uJ, sQ_uJ, sI_uA, sJ_uA, sA_uA, sL_uA, sR_uA, sQ_uA, sI_uL, sJ_uL, sA_uL, sL_uL, sR_uL, sQ_uL, sI_uR, sJ_uR, sA_uR, sL_uR, sR_uR, sQ_uR, sI_uQ, sJ_uQ, sA_uQ, sL_uQ, sR_uQ, sQ_uQ, h1, hr_8_2 HX, e1, e2, decide_false, Bool.false_and]
    · have e2 : nI 48 ≤ sA SX 2 p := Int32.not_lt.mp e1
      by_cases e3 : nI 57 < sA SX 2 p
      · have e4 : ¬ sA SX 2 p ≤ nI 57 := Int32.not_le.mpr e3
        simp (disch := omega) only [q_45_0, q_45_1, q_45_4, q_45_5, q_45_6, q_45_9, q_45_12, q_45_13, q_45_16, q_45_17, q_45_18, q_45_21, q_45_22, q_45_24, q_45_27, q_45_28, q_45_29, q_45_32, q_45_33, q_45_35, q_45_38, q_45_40, q_45_43, q_45_44, q_45_45, q_45_46, q_45_49, q_45_50, q_45_52, q_45_53, q_45_54, q_45_55, q_45_58, q_45_61, q_45_63, q_45_64, q_45_65, q_45_68, q_45_69, q_45_70, q_45_73, og_0_4, op_0_4, o_is, o_ob, ofs_len0, ↓reduceIte, k_cr, k_ci, k_oR, k_oN, k_aR, k_aN, and_true, true_and, and_self, eq_self, Nat.reduceLT, Nat.reduceLeDiff, Nat.reduceEqDiff, Nat.reduceAdd, Nat.reduceMul, Bool.true_eq_false, Bool.false_eq_true, Nat.add_sub_cancel, Nat.not_lt_zero, Nat.zero_le, k_sub, k_sb1, k_r, k_n, k_ret, k_t1, k_t0, k_nr, k_nn, k_z0, k_z1, k_zb, x_okI, lit_nI, k_in, k_cl, k_lt, k_le, k_eq, k_neg, nI_add, nI_mul, k_clt, k_cgt, k_cle, k_cge, k_ceq, bI_0, k_sh8, ne_eq, Nat.add_eq_zero_iff, Nat.one_ne_zero, Nat.succ_ne_zero, and_false, false_and, not_false_eq_true, not_true_eq_false, ite_true, ite_false, if_true, if_false, sI_uI, sJ_uI, sA_uI, sL_uI, sR_uI, sQ_uI, sI_uJ, sJ_uJ, sA_uJ, sL_uJ, sR_uJ, sQ_uJ, sI_uA, sJ_uA, sA_uA, sL_uA, sR_uA, sQ_uA, sI_uL, sJ_uL, sA_uL, sL_uL, sR_uL, sQ_uL, sI_uR, sJ_uR, sA_uR, sL_uR, sR_uR, sQ_uR, sI_uQ, sJ_uQ, sA_uQ, sL_uQ, sR_uQ, sQ_uQ, h1, hr_8_2 HX, e1, e2, e3, e4, decide_false, decide_true, Bool.true_and]
      · have e4 : sA SX 2 p ≤ nI 57 := Int32.not_lt.mp e3
        unfold cnV at ih ⊢
        simp (disch := omega) only [q_45_0, q_45_1, q_45_4, q_45_5, q_45_6, q_45_9, q_45_12, q_45_13, q_45_16, q_45_17, q_45_18, q_45_21, q_45_22, q_45_24, q_45_27, q_45_28, q_45_29, q_45_32, q_45_33, q_45_35, q_45_38, q_45_40, q_45_43, q_45_44, q_45_45, q_45_46, q_45_49, q_45_50, q_45_52, q_45_53, q_45_54, q_45_55, q_45_58, q_45_61, q_45_63, q_45_64, q_45_65, q_45_68, q_45_69, q_45_70, q_45_73, og_0_4, op_0_4, o_is, o_ob, ofs_len0, ↓reduceIte, k_cr, k_ci, k_oR, k_oN, k_aR, k_aN, and_true, true_and, and_self, eq_self, Nat.reduceLT, Nat.reduceLeDiff, Nat.reduceEqDiff, Nat.reduceAdd, Nat.reduceMul, Bool.true_eq_false, Bool.false_eq_true, Nat.add_sub_cancel, Nat.not_lt_zero, Nat.zero_le, k_sub, k_sb1, k_r, k_n, k_ret, k_t1, k_t0, k_nr, k_nn, k_z0, k_z1, k_zb, x_okI, lit_nI, k_in, k_cl, k_lt, k_le, k_eq, k_neg, nI_add, nI_mul, k_clt, k_cgt, k_cle, k_cge, k_ceq, bI_0, k_sh8, ne_eq, Nat.add_eq_zero_iff, Nat.one_ne_zero, Nat.succ_ne_zero, and_false, false_and, not_false_eq_true, not_true_eq_false, ite_true, ite_false, if_true, if_false, sI_uI, sJ_uI, sA_uI, sL_uI, sR_uI, sQ_uI, sI_uJ, sJ_uJ, sA_uJ, sL_uJ, sR_uJ, sQ_uJ, sI_uA, sJ_uA, sA_uA, sL_uA, sR_uA, sQ_uA, sI_uL, sJ_uL, sA_uL, sL_uL, sR_uL, sQ_uL, sI_uR, sJ_uR, sA_uR, sL_uR, sR_uR, sQ_uR, sI_uQ, sJ_uQ, sA_uQ, sL_uQ, sR_uQ, sQ_uQ, h1, hr_8_2 HX, e1, e2, e3, e4, decide_false, decide_true, Bool.true_and, uI4]
        exact ih
theorem c_cutNumber (d : Nat) (h : xH) (X P n p k : Nat) (SX S : gS) (H : isB 8 h X SX) (HP : isB 0 h P S) (hd : dj 0 P 8 X) (h7 : n ≤ 700) (hp : p ≤ n) (h4 : sI S 4 = nI p) (hk : sI S 3 = nI k) (hk7 : k ≤ 700) : xm (d + 2) 45 [.ref P, .ref (X + 3), .int (nI n)] h = some (none, oh 0 h P (apS (uI S 4 (nI (cnF (sA SX 2) (n - p) p 0).1)) k (if 2147483647 < (cnF (sA SX 2) (n - p) p 0).2 then nI 1 else nI 3) (nI p) (cnF (sA SX 2) (n - p) p 0).2)) := by
  rw [E_45 _ _ _ _ _ rfl rfl]
  have hl := c_num_loop d h X P n p SX S H hd h7 (n - p) p 0 (by omega)
  rw [uI_same S 4 (nI p) h4, show oh 0 h P S = h from HP] at hl
  have hb := cnF_le (sA SX 2) (n - p) p 0
  generalize cnF (sA SX 2) (n - p) p 0 = z at hl hb ⊢
  simp (disch := omega) only [q_45_0, q_45_1, q_45_4, q_45_5, q_45_6, q_45_9, q_45_12, q_45_13, q_45_16, q_45_17, q_45_18, q_45_21, q_45_22, q_45_24, q_45_27, q_45_28, q_45_29, q_45_32, q_45_33, q_45_35, q_45_38, q_45_40, q_45_43, q_45_44, q_45_45, q_45_46, q_45_49, q_45_50, q_45_52, q_45_53, q_45_54, q_45_55, q_45_58, q_45_61, q_45_63, q_45_64, q_45_65, q_45_68, q_45_69, q_45_70, q_45_73, q_45_76, q_45_77, q_45_79, q_45_82, q_45_83, q_45_86, q_45_87, q_45_90, q_45_91, q_45_92, q_45_94, q_45_97, hg_0_4 HP, hp_0_4 HP, h_is HP, h_ob HP, ofs_len0, ↓reduceIte, k_cr, k_ci, k_oR, k_oN, k_aR, k_aN, and_true, true_and, and_self, eq_self, Nat.reduceLT, Nat.reduceLeDiff, Nat.reduceEqDiff, Nat.reduceAdd, Nat.reduceMul, Bool.true_eq_false, Bool.false_eq_true, Nat.add_sub_cancel, Nat.not_lt_zero, Nat.zero_le, k_sub, k_sb1, k_r, k_n, k_ret, k_t1, k_t0, k_nr, k_nn, k_z0, k_z1, k_zb, x_okI, lit_nI, k_in, k_cl, k_lt, k_le, k_eq, k_neg, nI_add, nI_mul, k_clt, k_cgt, k_cle, k_cge, k_ceq, bI_0, k_sh8, ne_eq, Nat.add_eq_zero_iff, Nat.one_ne_zero, Nat.succ_ne_zero, and_false, false_and, not_false_eq_true, not_true_eq_false, ite_true, ite_false, if_true, if_false, h4, hl]
  have hB : isB 0 (oh 0 h P (uI S 4 (nI z.1))) P (uI S 4 (nI z.1)) := isB_oh _ _ _ _
  have ha : ∀ c : Int32, xm (d + 1) 44 [.ref P, .int c, .int (nI p), .long z.2] (oh 0 h P (uI S 4 (nI z.1))) = some (none, oh 0 h P (apS (uI S 4 (nI z.1)) k c (nI p) z.2)) := by
    intro c
    have := c_append d (oh 0 h P (uI S 4 (nI z.1))) P k (uI S 4 (nI z.1)) c (nI p) z.2 hB hk hk7
    rw [oh_oh] at this
    exact this
  by_cases h8 : 2147483647 < z.2
  · have h9 : ¬ z.2 ≤ 2147483647 := Int64.not_le.mpr h8
    simp (disch := omega) only [q_45_76, q_45_77, q_45_79, q_45_82, q_45_83, q_45_86, q_45_87, q_45_90, q_45_91, q_45_92, q_45_94, q_45_97, og_0_4, op_0_4, o_is, o_ob, ofs_len0, ↓reduceIte, k_cr, k_ci, k_oR, k_oN, k_aR, k_aN, and_true, true_and, and_self, eq_self, Nat.reduceLT, Nat.reduceLeDiff, Nat.reduceEqDiff, Nat.reduceAdd, Nat.reduceMul, Bool.true_eq_false, Bool.false_eq_true, Nat.add_sub_cancel, Nat.not_lt_zero, Nat.zero_le, k_sub, k_sb1, k_r, k_n, k_ret, k_t1, k_t0, k_nr, k_nn, k_z0, k_z1, k_zb, x_okI, lit_nI, k_in, k_cl, k_lt, k_le, k_eq, k_neg, nI_add, nI_mul, k_clt, k_cgt, k_cle, k_cge, k_ceq, bI_0, k_sh8, ne_eq, Nat.add_eq_zero_iff, Nat.one_ne_zero, Nat.succ_ne_zero, and_false, false_and, not_false_eq_true, not_true_eq_false, ite_true, ite_false, if_true, if_false, sI_uI, sJ_uI, sA_uI, sL_uI, sR_uI, sQ_uI, sI_uJ, sJ_uJ, sA_uJ, sL_uJ, sR_uJ, sQ_uJ, sI_uA, sJ_uA, sA_uA, sL_uA, sR_uA, sQ_uA, sI_uL, sJ_uL, sA_uL, sL_uL, sR_uL, sQ_uL, sI_uR, sJ_uR, sA_uR, sL_uR, sR_uR, sQ_uR, sI_uQ, sJ_uQ, sA_uQ, sL_uQ, sR_uQ, sQ_uQ, h8, h9, ha]
  · have h9 : z.2 ≤ 2147483647 := Int64.not_lt.mp h8
    simp (disch := omega) only [q_45_76, q_45_77, q_45_79, q_45_82, q_45_83, q_45_86, q_45_87, q_45_90, q_45_91, q_45_92, q_45_94, q_45_97, og_0_4, op_0_4, o_is, o_ob, ofs_len0, ↓reduceIte, k_cr, k_ci, k_oR, k_oN, k_aR, k_aN, and_true, true_and, and_self, eq_self, Nat.reduceLT, Nat.reduceLeDiff, Nat.reduceEqDiff, Nat.reduceAdd, Nat.reduceMul, Bool.true_eq_false, Bool.false_eq_true, Nat.add_sub_cancel, Nat.not_lt_zero, Nat.zero_le, k_sub, k_sb1, k_r, k_n, k_ret, k_t1, k_t0, k_nr, k_nn, k_z0, k_z1, k_zb, x_okI, lit_nI, k_in, k_cl, k_lt, k_le, k_eq, k_neg, nI_add, nI_mul, k_clt, k_cgt, k_cle, k_cge, k_ceq, bI_0, k_sh8, ne_eq, Nat.add_eq_zero_iff, Nat.one_ne_zero, Nat.succ_ne_zero, and_false, false_and, not_false_eq_true, not_true_eq_false, ite_true, ite_false, if_true, if_false, sI_uI, sJ_uI, sA_uI, sL_uI, sR_uI, sQ_uI, sI_uJ, sJ_uJ, sA_uJ, sL_uJ, sR_uJ, sQ_uJ, sI_uA, sJ_uA, sA_uA, sL_uA, sR_uA, sQ_uA, sI_uL, sJ_uL, sA_uL, sL_uL, sR_uL, sQ_uL, sI_uR, sJ_uR, sA_uR, sL_uR, sR_uR, sQ_uR, sI_uQ, sJ_uQ, sA_uQ, sL_uQ, sR_uQ, sQ_uQ, h8, h9, ha]
