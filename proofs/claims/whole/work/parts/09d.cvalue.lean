/-! VALUES of the class. -/
theorem c_countOf (d : Nat) (h : xH) (a i : Nat) (S : gS) (H : isB 9 h a S) (hi : i < 2147483648) : xm (d + 1) 36 [.ref a, .int (nI i)] h = some (some (.int (if i < 8 then sA S 0 i else nI 0)), h) := by
  rw [E_36 _ _ _ _ rfl]
  by_cases h1 : i < 8
  · have h2 : ¬ 8 ≤ i := by omega
    simp (disch := omega) only [q_36_0, q_36_1, q_36_4, q_36_5, q_36_7, q_36_10, q_36_11, q_36_14, q_36_15, q_36_16, q_36_19, q_36_20, hg_9_0 H, hr_9_0 H, hw_9_0 H, h_is H, h_ob H, ofs_len9, k_cr, k_ci, k_oR, k_oN, k_aR, k_aN, and_true, true_and, and_self, eq_self, Nat.reduceLT, Nat.reduceLeDiff, Nat.reduceEqDiff, Nat.reduceAdd, Nat.reduceMul, Bool.true_eq_false, Bool.false_eq_true, Nat.add_sub_cancel, Nat.not_lt_zero, Nat.zero_le, k_sub, k_sb1, k_r, k_n, k_ret, k_t1, k_t0, k_nr, k_nn, k_z0, k_z1, k_zb, x_okI, lit_nI, k_in, k_cl, k_lt, k_le, k_eq, k_neg, nI_add, nI_mul, k_clt, k_cgt, k_cle, k_cge, k_ceq, bI_0, k_sh8, ne_eq, Nat.add_eq_zero_iff, Nat.one_ne_zero, Nat.succ_ne_zero, and_false, false_and, not_false_eq_true, not_true_eq_false, ite_true, ite_false, if_true, if_false, h1, h2]
  · have h2 : 8 ≤ i := by omega
    simp (disch := omega) only [q_36_0, q_36_1, q_36_4, q_36_5, q_36_7, q_36_10, q_36_11, q_36_14, q_36_15, q_36_16, q_36_19, q_36_20, hg_9_0 H, hr_9_0 H, hw_9_0 H, h_is H, h_ob H, ofs_len9, k_cr, k_ci, k_oR, k_oN, k_aR, k_aN, and_true, true_and, and_self, eq_self, Nat.reduceLT, Nat.reduceLeDiff, Nat.reduceEqDiff, Nat.reduceAdd, Nat.reduceMul, Bool.true_eq_false, Bool.false_eq_true, Nat.add_sub_cancel, Nat.not_lt_zero, Nat.zero_le, k_sub, k_sb1, k_r, k_n, k_ret, k_t1, k_t0, k_nr, k_nn, k_z0, k_z1, k_zb, x_okI, lit_nI, k_in, k_cl, k_lt, k_le, k_eq, k_neg, nI_add, nI_mul, k_clt, k_cgt, k_cle, k_cge, k_ceq, bI_0, k_sh8, ne_eq, Nat.add_eq_zero_iff, Nat.one_ne_zero, Nat.succ_ne_zero, and_false, false_and, not_false_eq_true, not_true_eq_false, ite_true, ite_false, if_true, if_false, h1, h2]
theorem c_countOf_n (d : Nat) (h : xH) (a : Nat) (x : Int32) (S : gS) (H : isB 9 h a S) (hx : x < nI 0) : xm (d + 1) 36 [.ref a, .int x] h = some (some (.int (nI 0)), h) := by
  rw [E_36 _ _ _ _ rfl]
  simp (disch := omega) only [q_36_0, q_36_1, q_36_4, q_36_5, q_36_7, q_36_10, q_36_11, q_36_14, q_36_15, q_36_16, q_36_19, q_36_20, hg_9_0 H, hr_9_0 H, hw_9_0 H, h_is H, h_ob H, ofs_len9, k_cr, k_ci, k_oR, k_oN, k_aR, k_aN, and_true, true_and, and_self, eq_self, Nat.reduceLT, Nat.reduceLeDiff, Nat.reduceEqDiff, Nat.reduceAdd, Nat.reduceMul, Bool.true_eq_false, Bool.false_eq_true, Nat.add_sub_cancel, Nat.not_lt_zero, Nat.zero_le, k_sub, k_sb1, k_r, k_n, k_ret, k_t1, k_t0, k_nr, k_nn, k_z0, k_z1, k_zb, x_okI, lit_nI, k_in, k_cl, k_lt, k_le, k_eq, k_neg, nI_add, nI_mul, k_clt, k_cgt, k_cle, k_cge, k_ceq, bI_0, k_sh8, ne_eq, Nat.add_eq_zero_iff, Nat.one_ne_zero, Nat.succ_ne_zero, and_false, false_and, not_false_eq_true, not_true_eq_false, ite_true, ite_false, if_true, if_false, hx]
theorem c_bitsAt (d : Nat) (h : xH) (a i j n : Nat) (S : gS) (H : isB 9 h a S) (hi : i < 2147483648) (hj : j < 2147483648) (hn : i < 8 → sA S 0 i = nI n) (h8 : n ≤ 8) : xm (d + 1) 86 [.ref a, .int (nI i), .int (nI j)] h = some (some (.long (if i < 8 ∧ j < n then sL S 1 (8 * i + j) else 0)), h) := by
  rw [E_86 _ _ _ _ _ rfl]
  by_cases h1 : i < 8
  · have h2 : ¬ 8 ≤ i := by omega
    by_cases h3 : j < n
    · have h4 : ¬ n ≤ j := by omega
      have h5 : ¬ 8 ≤ j := by omega
      have h6 : j < 8 := by omega
      simp (disch := omega) only [q_86_0, q_86_1, q_86_4, q_86_5, q_86_7, q_86_10, q_86_11, q_86_14, q_86_15, q_86_16, q_86_19, q_86_20, q_86_21, q_86_24, q_86_25, q_86_27, q_86_30, q_86_31, q_86_32, q_86_33, q_86_36, q_86_37, q_86_39, q_86_40, q_86_41, q_86_42, q_86_43, hg_9_0 H, hr_9_0 H, hw_9_0 H, hg_9_1 H, hr_9_1 H, hw_9_1 H, h_is H, h_ob H, ofs_len9, k_cr, k_ci, k_oR, k_oN, k_aR, k_aN, and_true, true_and, and_self, eq_self, Nat.reduceLT, Nat.reduceLeDiff, Nat.reduceEqDiff, Nat.reduceAdd, Nat.reduceMul, Bool.true_eq_false, Bool.false_eq_true, Nat.add_sub_cancel, Nat.not_lt_zero, Nat.zero_le, k_sub, k_sb1, k_r, k_n, k_ret, k_t1, k_t0, k_nr, k_nn, k_z0, k_z1, k_zb, x_okI, lit_nI, k_in, k_cl, k_lt, k_le, k_eq, k_neg, nI_add, nI_mul, k_clt, k_cgt, k_cle, k_cge, k_ceq, bI_0, k_sh8, ne_eq, Nat.add_eq_zero_iff, Nat.one_ne_zero, Nat.succ_ne_zero, and_false, false_and, not_false_eq_true, not_true_eq_false, ite_true, ite_false, if_true, if_false, h1, h2, hn h1, h3, h4, h5, h6, Nat.mul_comm i 8]
    · have h4 : n ≤ j := by omega
      simp (disch := omega) only [q_86_0, q_86_1, q_86_4, q_86_5, q_86_7, q_86_10, q_86_11, q_86_14, q_86_15, q_86_16, q_86_19, q_86_20, q_86_21, q_86_24, q_86_25, q_86_27, q_86_30, q_86_31, q_86_32, q_86_33, q_86_36, q_86_37, q_86_39, q_86_40, q_86_41, q_86_42, q_86_43, hg_9_0 H, hr_9_0 H, hw_9_0 H, hg_9_1 H, hr_9_1 H, hw_9_1 H, h_is H, h_ob H, ofs_len9, k_cr, k_ci, k_oR, k_oN, k_aR, k_aN, and_true, true_and, and_self, eq_self, Nat.reduceLT, Nat.reduceLeDiff, Nat.reduceEqDiff, Nat.reduceAdd, Nat.reduceMul, Bool.true_eq_false, Bool.false_eq_true, Nat.add_sub_cancel, Nat.not_lt_zero, Nat.zero_le, k_sub, k_sb1, k_r, k_n, k_ret, k_t1, k_t0, k_nr, k_nn, k_z0, k_z1, k_zb, x_okI, lit_nI, k_in, k_cl, k_lt, k_le, k_eq, k_neg, nI_add, nI_mul, k_clt, k_cgt, k_cle, k_cge, k_ceq, bI_0, k_sh8, ne_eq, Nat.add_eq_zero_iff, Nat.one_ne_zero, Nat.succ_ne_zero, and_false, false_and, not_false_eq_true, not_true_eq_false, ite_true, ite_false, if_true, if_false, h1, h2, hn h1, h3, h4]
  · have h2 : 8 ≤ i := by omega
    simp (disch := omega) only [q_86_0, q_86_1, q_86_4, q_86_5, q_86_7, q_86_10, q_86_11, q_86_14, q_86_15, q_86_16, q_86_19, q_86_20, q_86_21, q_86_24, q_86_25, q_86_27, q_86_30, q_86_31, q_86_32, q_86_33, q_86_36, q_86_37, q_86_39, q_86_40, q_86_41, q_86_42, q_86_43, hg_9_0 H, hr_9_0 H, hw_9_0 H, hg_9_1 H, hr_9_1 H, hw_9_1 H, h_is H, h_ob H, ofs_len9, k_cr, k_ci, k_oR, k_oN, k_aR, k_aN, and_true, true_and, and_self, eq_self, Nat.reduceLT, Nat.reduceLeDiff, Nat.reduceEqDiff, Nat.reduceAdd, Nat.reduceMul, Bool.true_eq_false, Bool.false_eq_true, Nat.add_sub_cancel, Nat.not_lt_zero, Nat.zero_le, k_sub, k_sb1, k_r, k_n, k_ret, k_t1, k_t0, k_nr, k_nn, k_z0, k_z1, k_zb, x_okI, lit_nI, k_in, k_cl, k_lt, k_le, k_eq, k_neg, nI_add, nI_mul, k_clt, k_cgt, k_cle, k_cge, k_ceq, bI_0, k_sh8, ne_eq, Nat.add_eq_zero_iff, Nat.one_ne_zero, Nat.succ_ne_zero, and_false, false_and, not_false_eq_true, not_true_eq_false, ite_true, ite_false, if_true, if_false, h1, h2]
theorem c_bitsAt_n (d : Nat) (h : xH) (a i n : Nat) (x : Int32) (S : gS) (H : isB 9 h a S) (hi : i < 2147483648) (hx : x < nI 0) : xm (d + 1) 86 [.ref a, .int (nI i), .int x] h = some (some (.long 0), h) := by
  rw [E_86 _ _ _ _ _ rfl]
  by_cases h1 : i < 8
  · have h2 : ¬ 8 ≤ i := by omega
    simp (disch := omega) only [q_86_0, q_86_1, q_86_4, q_86_5, q_86_7, q_86_10, q_86_11, q_86_14, q_86_15, q_86_16, q_86_19, q_86_20, q_86_21, q_86_24, q_86_25, q_86_27, q_86_30, q_86_31, q_86_32, q_86_33, q_86_36, q_86_37, q_86_39, q_86_40, q_86_41, q_86_42, q_86_43, hg_9_0 H, hr_9_0 H, hw_9_0 H, hg_9_1 H, hr_9_1 H, hw_9_1 H, h_is H, h_ob H, ofs_len9, k_cr, k_ci, k_oR, k_oN, k_aR, k_aN, and_true, true_and, and_self, eq_self, Nat.reduceLT, Nat.reduceLeDiff, Nat.reduceEqDiff, Nat.reduceAdd, Nat.reduceMul, Bool.true_eq_false, Bool.false_eq_true, Nat.add_sub_cancel, Nat.not_lt_zero, Nat.zero_le, k_sub, k_sb1, k_r, k_n, k_ret, k_t1, k_t0, k_nr, k_nn, k_z0, k_z1, k_zb, x_okI, lit_nI, k_in, k_cl, k_lt, k_le, k_eq, k_neg, nI_add, nI_mul, k_clt, k_cgt, k_cle, k_cge, k_ceq, bI_0, k_sh8, ne_eq, Nat.add_eq_zero_iff, Nat.one_ne_zero, Nat.succ_ne_zero, and_false, false_and, not_false_eq_true, not_true_eq_false, ite_true, ite_false, if_true, if_false, h2, hx]
  · have h2 : 8 ≤ i := by omega
    simp (disch := omega) only [q_86_0, q_86_1, q_86_4, q_86_5, q_86_7, q_86_10, q_86_11, q_86_14, q_86_15, q_86_16, q_86_19, q_86_20, q_86_21, q_86_24, q_86_25, q_86_27, q_86_30, q_86_31, q_86_32, q_86_33, q_86_36, q_86_37, q_86_39, q_86_40, q_86_41, q_86_42, q_86_43, hg_9_0 H, hr_9_0 H, hw_9_0 H, hg_9_1 H, hr_9_1 H, hw_9_1 H, h_is H, h_ob H, ofs_len9, k_cr, k_ci, k_oR, k_oN, k_aR, k_aN, and_true, true_and, and_self, eq_self, Nat.reduceLT, Nat.reduceLeDiff, Nat.reduceEqDiff, Nat.reduceAdd, Nat.reduceMul, Bool.true_eq_false, Bool.false_eq_true, Nat.add_sub_cancel, Nat.not_lt_zero, Nat.zero_le, k_sub, k_sb1, k_r, k_n, k_ret, k_t1, k_t0, k_nr, k_nn, k_z0, k_z1, k_zb, x_okI, lit_nI, k_in, k_cl, k_lt, k_le, k_eq, k_neg, nI_add, nI_mul, k_clt, k_cgt, k_cle, k_cge, k_ceq, bI_0, k_sh8, ne_eq, Nat.add_eq_zero_iff, Nat.one_ne_zero, Nat.succ_ne_zero, and_false, false_and, not_false_eq_true, not_true_eq_false, ite_true, ite_false, if_true, if_false, h2]
theorem c_put (d : Nat) (h : xH) (a i j : Nat) (x : Int64) (S : gS) (H : isB 9 h a S) (hi : i < 8) (hj : j < 8) : xm (d + 1) 34 [.ref a, .int (nI i), .int (nI j), .long x] h = some (none, oh 9 h a (uL S 1 (8 * i + j) x)) := by
  rw [E_34 _ _ _ _ _ _ rfl]
  have h2 : ¬ 8 ≤ i := by omega
  have h3 : ¬ 8 ≤ j := by omega
  simp (disch := omega) only [q_34_0, q_34_1, q_34_4, q_34_5, q_34_7, q_34_10, q_34_11, q_34_14, q_34_15, q_34_17, q_34_20, q_34_21, q_34_24, q_34_25, q_34_27, q_34_28, q_34_29, q_34_30, q_34_31, q_34_32, hg_9_1 H, hr_9_1 H, hw_9_1 H, h_is H, h_ob H, ofs_len9, k_cr, k_ci, k_oR, k_oN, k_aR, k_aN, and_true, true_and, and_self, eq_self, Nat.reduceLT, Nat.reduceLeDiff, Nat.reduceEqDiff, Nat.reduceAdd, Nat.reduceMul, Bool.true_eq_false, Bool.false_eq_true, Nat.add_sub_cancel, Nat.not_lt_zero, Nat.zero_le, k_sub, k_sb1, k_r, k_n, k_ret, k_t1, k_t0, k_nr, k_nn, k_z0, k_z1, k_zb, x_okI, lit_nI, k_in, k_cl, k_lt, k_le, k_eq, k_neg, nI_add, nI_mul, k_clt, k_cgt, k_cle, k_cge, k_ceq, bI_0, k_sh8, ne_eq, Nat.add_eq_zero_iff, Nat.one_ne_zero, Nat.succ_ne_zero, and_false, false_and, not_false_eq_true, not_true_eq_false, ite_true, ite_false, if_true, if_false, h2, h3, Nat.mul_comm i 8]
theorem c_resize (d : Nat) (h : xH) (a i n : Nat) (S : gS) (H : isB 9 h a S) (hi : i < 8) (hn : n ≤ 8) : xm (d + 1) 37 [.ref a, .int (nI i), .int (nI n)] h = some (none, oh 9 h a (uA S 0 i (nI n))) := by
  rw [E_37 _ _ _ _ _ rfl]
  have h2 : ¬ 8 ≤ i := by omega
  have h3 : ¬ 8 < n := by omega
  simp (disch := omega) only [q_37_0, q_37_1, q_37_4, q_37_5, q_37_7, q_37_10, q_37_11, q_37_14, q_37_15, q_37_17, q_37_20, q_37_21, q_37_24, q_37_25, q_37_26, q_37_27, hg_9_0 H, hr_9_0 H, hw_9_0 H, h_is H, h_ob H, ofs_len9, k_cr, k_ci, k_oR, k_oN, k_aR, k_aN, and_true, true_and, and_self, eq_self, Nat.reduceLT, Nat.reduceLeDiff, Nat.reduceEqDiff, Nat.reduceAdd, Nat.reduceMul, Bool.true_eq_false, Bool.false_eq_true, Nat.add_sub_cancel, Nat.not_lt_zero, Nat.zero_le, k_sub, k_sb1, k_r, k_n, k_ret, k_t1, k_t0, k_nr, k_nn, k_z0, k_z1, k_zb, x_okI, lit_nI, k_in, k_cl, k_lt, k_le, k_eq, k_neg, nI_add, nI_mul, k_clt, k_cgt, k_cle, k_cge, k_ceq, bI_0, k_sh8, ne_eq, Nat.add_eq_zero_iff, Nat.one_ne_zero, Nat.succ_ne_zero, and_false, false_and, not_false_eq_true, not_true_eq_false, ite_true, ite_false, if_true, if_false, h2, h3, hn]
theorem c_fill_loop (d : Nat) (h : xH) (a : Nat) (S : gS) (w : Int64) : ∀ (k i : Nat), i + k = 64 → xrun d 28 6 [(1, .ref (a + 2)), (2, .long w), (0, .null), (1, .int (nI i)), (1, .int (nI 64))] [] (oh 9 h a (rL S 1 (fillF (sL S 1) (fun _ => w) 0 i))) = some (none, oh 9 h a (rL S 1 (fillF (sL S 1) (fun _ => w) 0 64)))
  | 0, i, hi => by
    have h8 : i = 64 := by omega
    subst h8
    rw [q_28_6]
    simp (disch := omega) only [q_28_0, q_28_1, q_28_2, q_28_3, q_28_4, q_28_7, q_28_9, q_28_12, q_28_13, q_28_14, q_28_15, q_28_16, q_28_19, q_28_22, k_cr, k_ci, k_oR, k_oN, k_aR, k_aN, and_true, true_and, and_self, eq_self, Nat.reduceLT, Nat.reduceLeDiff, Nat.reduceEqDiff, Nat.reduceAdd, Nat.reduceMul, Bool.true_eq_false, Bool.false_eq_true, Nat.add_sub_cancel, Nat.not_lt_zero, Nat.zero_le, k_sub, k_sb1, k_r, k_n, k_ret, k_t1, k_t0, k_nr, k_nn, k_z0, k_z1, k_zb, x_okI, lit_nI, k_in, k_cl, k_lt, k_le, k_eq, k_neg, nI_add, nI_mul, k_clt, k_cgt, k_cle, k_cge, k_ceq, bI_0, k_sh8, ne_eq, Nat.add_eq_zero_iff, Nat.one_ne_zero, Nat.succ_ne_zero, and_false, false_and, not_false_eq_true, not_true_eq_false, ite_true, ite_false, if_true, if_false, Nat.le_refl]
  | k + 1, i, hi => by
    rw [q_28_6]
    have h8 : ¬ 64 ≤ i := by omega
    have hu : uL (rL S 1 (fillF (sL S 1) (fun _ => w) 0 i)) 1 i w = rL S 1 (fillF (sL S 1) (fun _ => w) 0 (i + 1)) := by
      have := fillF_s (sL S 1) (fun _ => w) 0 i
      rw [Nat.zero_add] at this
      rw [uL_rL, this]
    simp (disch := omega) only [q_28_0, q_28_1, q_28_2, q_28_3, q_28_4, q_28_7, q_28_9, q_28_12, q_28_13, q_28_14, q_28_15, q_28_16, q_28_19, q_28_22, k_cr, k_ci, k_oR, k_oN, k_aR, k_aN, and_true, true_and, and_self, eq_self, Nat.reduceLT, Nat.reduceLeDiff, Nat.reduceEqDiff, Nat.reduceAdd, Nat.reduceMul, Bool.true_eq_false, Bool.false_eq_true, Nat.add_sub_cancel, Nat.not_lt_zero, Nat.zero_le, k_sub, k_sb1, k_r, k_n, k_ret, k_t1, k_t0, k_nr, k_nn, k_z0, k_z1, k_zb, x_okI, lit_nI, k_in, k_cl, k_lt, k_le, k_eq, k_neg, nI_add, nI_mul, k_clt, k_cgt, k_cle, k_cge, k_ceq, bI_0, k_sh8, ne_eq, Nat.add_eq_zero_iff, Nat.one_ne_zero, Nat.succ_ne_zero, and_false, false_and, not_false_eq_true, not_true_eq_false, ite_true, ite_false, if_true, if_false, h8, ow_9_1, hu]
    exact c_fill_loop d h a S w k (i + 1) (by omega)
theorem c_fill (d : Nat) (h : xH) (a : Nat) (S : gS) (w : Int64) (H : isB 9 h a S) : xm (d + 1) 28 [.ref (a + 2), .long w] h = some (none, oh 9 h a (rL S 1 (fun i => if i < 64 then w else sL S 1 i))) := by
  rw [E_28 _ _ _ _ rfl]
  have hz : fillF (sL S 1) (fun _ => w) 0 64 = fun i => if i < 64 then w else sL S 1 i := by
    funext i
    unfold fillF
    by_cases hi : i < 64
    · rw [if_pos (by omega), if_pos hi]
    · rw [if_neg (by omega), if_neg hi]
  have hl := c_fill_loop d h a S w 64 0 (by omega)
  rw [fillF_0, rL_id, hz, show oh 9 h a S = h from H] at hl
  have ha : h.1 (a + 2) = some (.inl (2, 64, oarr 9 S 1)) := by
    rw [← show oh 9 h a S = h from H]
    exact oh_ar (o := 2) (k := 1) (by decide) rfl
  have hlen : ∀ {α : Type} (f : Nat → Nat → (Nat → Value) → Option α), xar h (a + 2) f = f 2 64 (oarr 9 S 1) := by
    intro α f
    unfold xar
    rw [ha]
  simp (disch := omega) only [q_28_0, q_28_1, q_28_2, q_28_3, q_28_4, q_28_7, q_28_9, q_28_12, q_28_13, q_28_14, q_28_15, q_28_16, q_28_19, q_28_22, k_cr, k_ci, k_oR, k_oN, k_aR, k_aN, and_true, true_and, and_self, eq_self, Nat.reduceLT, Nat.reduceLeDiff, Nat.reduceEqDiff, Nat.reduceAdd, Nat.reduceMul, Bool.true_eq_false, Bool.false_eq_true, Nat.add_sub_cancel, Nat.not_lt_zero, Nat.zero_le, k_sub, k_sb1, k_r, k_n, k_ret, k_t1, k_t0, k_nr, k_nn, k_z0, k_z1, k_zb, x_okI, lit_nI, k_in, k_cl, k_lt, k_le, k_eq, k_neg, nI_add, nI_mul, k_clt, k_cgt, k_cle, k_cge, k_ceq, bI_0, k_sh8, ne_eq, Nat.add_eq_zero_iff, Nat.one_ne_zero, Nat.succ_ne_zero, and_false, false_and, not_false_eq_true, not_true_eq_false, ite_true, ite_false, if_true, if_false, hlen]
  exact hl
theorem rA_rA (S : gS) (k : Nat) (y z : Nat → Int32) : rA (rA S k y) k z = rA S k z := by
  unfold rA
  dsimp only
  rw [va_up_up]
/-- how many a fresh VALUE of a Kind has at a place -/
def f0F (SK : gS) (n i : Nat) : Int32 := if (decide (i < n) && kRow SK i) = true then nI 0 else nI 1
/-- a VALUE made fresh -/
def rst1 (S : gS) (w : Int64) (c : Int32) (κ : Nat) : gS := rL (uR (uI (uJ (uJ S 2 w) 3 w) 4 c) 5 (.ref κ)) 1 (fun i => if i < 64 then 0 else sL S 1 i)
def rst (S SK : gS) (w : Int64) (c : Int32) (κ n j : Nat) : gS := rA (rst1 S w c κ) 0 (fillF (sA S 0) (f0F SK n) 0 j)
theorem c_restart_loop (d : Nat) (h : xH) (a κ n : Nat) (S SK : gS) (w : Int64) (c : Int32) (hd : dj 9 a 1 κ) (HK : isB 1 h κ SK) (hk : kOK SK n) : ∀ (k i : Nat), i + k = 8 → xrun (d + 1) 27 32 [(1, .ref a), (2, .long w), (0, .null), (1, .int c), (1, .ref κ), (1, .int (nI i))] [] (oh 9 h a (rst S SK w c κ n i)) = some (none, oh 9 h a (rst S SK w c κ n 8))
  | 0, i, hi => by
    have h8 : i = 8 := by omega
    subst h8
    rw [q_27_32]
    simp (disch := omega) only [q_27_0, q_27_1, q_27_2, q_27_5, q_27_6, q_27_7, q_27_10, q_27_11, q_27_12, q_27_15, q_27_16, q_27_18, q_27_21, q_27_22, q_27_25, q_27_26, q_27_29, q_27_30, q_27_34, q_27_36, q_27_39, q_27_40, q_27_43, q_27_45, q_27_47, q_27_49, q_27_52, q_27_55, q_27_56, q_27_59, q_27_60, q_27_61, q_27_64, q_27_67, og_9_2, op_9_2, og_9_3, op_9_3, og_9_4, op_9_4, og_9_5, op_9_5, og_9_1, or_9_1, ow_9_1, og_9_0, or_9_0, ow_9_0, o_is, o_ob, ofs_len9, k_cr, k_ci, k_oR, k_oN, k_aR, k_aN, and_true, true_and, and_self, eq_self, Nat.reduceLT, Nat.reduceLeDiff, Nat.reduceEqDiff, Nat.reduceAdd, Nat.reduceMul, Bool.true_eq_false, Bool.false_eq_true, Nat.add_sub_cancel, Nat.not_lt_zero, Nat.zero_le, k_sub, k_sb1, k_r, k_n, k_ret, k_t1, k_t0, k_nr, k_nn, k_z0, k_z1, k_zb, x_okI, lit_nI, k_in, k_cl, k_lt, k_le, k_eq, k_neg, nI_add, nI_mul, k_clt, k_cgt, k_cle, k_cge, k_ceq, bI_0, k_sh8, ne_eq, Nat.add_eq_zero_iff, Nat.one_ne_zero, Nat.succ_ne_zero, and_false, false_and, not_false_eq_true, not_true_eq_false, ite_true, ite_false, if_true, if_false, Nat.le_refl]
  | k + 1, i, hi => by
    rw [q_27_32]
    have h8 : ¬ 8 ≤ i := by omega
    have hK2 : isB 1 (oh 9 h a (rst S SK w c κ n i)) κ SK := HK.frame hd
    have hr := c_isRow d (oh 9 h a (rst S SK w c κ n i)) κ n i SK hK2 hk (by omega)
    have hu : uA (rst S SK w c κ n i) 0 i (f0F SK n i) = rst S SK w c κ n (i + 1) := by
      have := fillF_s (sA S 0) (f0F SK n) 0 i
      rw [Nat.zero_add] at this
      unfold rst
      rw [uA_rA, this]
    have ih := c_restart_loop d h a κ n S SK w c hd HK hk k (i + 1) (by omega)
    rw [← hu] at ih
    unfold f0F at ih
    cases hb : (decide (i < n) && kRow SK i) with
    | true =>
      rw [hb] at hr
      rw [hb, if_pos rfl] at ih
      simp (disch := omega) only [q_27_0, q_27_1, q_27_2, q_27_5, q_27_6, q_27_7, q_27_10, q_27_11, q_27_12, q_27_15, q_27_16, q_27_18, q_27_21, q_27_22, q_27_25, q_27_26, q_27_29, q_27_30, q_27_34, q_27_36, q_27_39, q_27_40, q_27_43, q_27_45, q_27_47, q_27_49, q_27_52, q_27_55, q_27_56, q_27_59, q_27_60, q_27_61, q_27_64, q_27_67, og_9_2, op_9_2, og_9_3, op_9_3, og_9_4, op_9_4, og_9_5, op_9_5, og_9_1, or_9_1, ow_9_1, og_9_0, or_9_0, ow_9_0, o_is, o_ob, ofs_len9, k_cr, k_ci, k_oR, k_oN, k_aR, k_aN, and_true, true_and, and_self, eq_self, Nat.reduceLT, Nat.reduceLeDiff, Nat.reduceEqDiff, Nat.reduceAdd, Nat.reduceMul, Bool.true_eq_false, Bool.false_eq_true, Nat.add_sub_cancel, Nat.not_lt_zero, Nat.zero_le, k_sub, k_sb1, k_r, k_n, k_ret, k_t1, k_t0, k_nr, k_nn, k_z0, k_z1, k_zb, x_okI, lit_nI, k_in, k_cl, k_lt, k_le, k_eq, k_neg, nI_add, nI_mul, k_clt, k_cgt, k_cle, k_cge, k_ceq, bI_0, k_sh8, ne_eq, Nat.add_eq_zero_iff, Nat.one_ne_zero, Nat.succ_ne_zero, and_false, false_and, not_false_eq_true, not_true_eq_false, ite_true, ite_false, if_true, if_false, h8, hr, h_is hK2]
      exact ih
    | false =>
      rw [hb] at hr
      rw [hb, if_neg (by decide)] at ih
      simp (disch := omega) only [q_27_0, q_27_1, q_27_2, q_27_5, q_27_6, q_27_7, q_27_10, q_27_11, q_27_12, q_27_15, q_27_16, q_27_18, q_27_21, q_27_22, q_27_25, q_27_26, q_27_29, q_27_30, q_27_34, q_27_36, q_27_39, q_27_40, q_27_43, q_27_45, q_27_47, q_27_49, q_27_52, q_27_55, q_27_56, q_27_59, q_27_60, q_27_61, q_27_64, q_27_67, og_9_2, op_9_2, og_9_3, op_9_3, og_9_4, op_9_4, og_9_5, op_9_5, og_9_1, or_9_1, ow_9_1, og_9_0, or_9_0, ow_9_0, o_is, o_ob, ofs_len9, k_cr, k_ci, k_oR, k_oN, k_aR, k_aN, and_true, true_and, and_self, eq_self, Nat.reduceLT, Nat.reduceLeDiff, Nat.reduceEqDiff, Nat.reduceAdd, Nat.reduceMul, Bool.true_eq_false, Bool.false_eq_true, Nat.add_sub_cancel, Nat.not_lt_zero, Nat.zero_le, k_sub, k_sb1, k_r, k_n, k_ret, k_t1, k_t0, k_nr, k_nn, k_z0, k_z1, k_zb, x_okI, lit_nI, k_in, k_cl, k_lt, k_le, k_eq, k_neg, nI_add, nI_mul, k_clt, k_cgt, k_cle, k_cge, k_ceq, bI_0, k_sh8, ne_eq, Nat.add_eq_zero_iff, Nat.one_ne_zero, Nat.succ_ne_zero, and_false, false_and, not_false_eq_true, not_true_eq_false, ite_true, ite_false, if_true, if_false, h8, hr, h_is hK2]
      exact ih
theorem c_restart (d : Nat) (h : xH) (a κ n : Nat) (S SK : gS) (w : Int64) (c : Int32) (H : isB 9 h a S) (hd : dj 9 a 1 κ) (HK : isB 1 h κ SK) (hk : kOK SK n) : xm (d + 2) 27 [.ref a, .long w, .int c, .ref κ] h = some (none, oh 9 h a (rst S SK w c κ n 8)) := by
  rw [E_27 _ _ _ _ _ _ rfl rfl]
  have hf := c_fill d (oh 9 h a (uR (uI (uJ (uJ S 2 w) 3 w) 4 c) 5 (.ref κ))) a (uR (uI (uJ (uJ S 2 w) 3 w) 4 c) 5 (.ref κ)) 0 (isB_oh _ _ _ _)
  rw [oh_oh] at hf
  have e0 : rL (uR (uI (uJ (uJ S 2 w) 3 w) 4 c) 5 (.ref κ)) 1 (fun i => if i < 64 then 0 else sL (uR (uI (uJ (uJ S 2 w) 3 w) 4 c) 5 (.ref κ)) 1 i) = rst S SK w c κ n 0 := by
    unfold rst
    rw [fillF_0, show sA S 0 = sA (rst1 S w c κ) 0 from rfl, rA_id]
    rfl
  rw [e0] at hf
  have hl := c_restart_loop d h a κ n S SK w c hd HK hk 8 0 (by omega)
  simp (disch := omega) only [q_27_0, q_27_1, q_27_2, q_27_5, q_27_6, q_27_7, q_27_10, q_27_11, q_27_12, q_27_15, q_27_16, q_27_18, q_27_21, q_27_22, q_27_25, q_27_26, q_27_29, q_27_30, q_27_34, q_27_36, q_27_39, q_27_40, q_27_43, q_27_45, q_27_47, q_27_49, q_27_52, q_27_55, q_27_56, q_27_59, q_27_60, q_27_61, q_27_64, q_27_67, hg_9_2 H, hp_9_2 H, hg_9_3 H, hp_9_3 H, hg_9_4 H, hp_9_4 H, hg_9_5 H, hp_9_5 H, hg_9_1 H, hr_9_1 H, hw_9_1 H, hg_9_0 H, hr_9_0 H, hw_9_0 H, h_is H, h_ob H, ofs_len9, k_cr, k_ci, k_oR, k_oN, k_aR, k_aN, and_true, true_and, and_self, eq_self, Nat.reduceLT, Nat.reduceLeDiff, Nat.reduceEqDiff, Nat.reduceAdd, Nat.reduceMul, Bool.true_eq_false, Bool.false_eq_true, Nat.add_sub_cancel, Nat.not_lt_zero, Nat.zero_le, k_sub, k_sb1, k_r, k_n, k_ret, k_t1, k_t0, k_nr, k_nn, k_z0, k_z1, k_zb, x_okI, lit_nI, k_in, k_cl, k_lt, k_le, k_eq, k_neg, nI_add, nI_mul, k_clt, k_cgt, k_cle, k_cge, k_ceq, bI_0, k_sh8, ne_eq, Nat.add_eq_zero_iff, Nat.one_ne_zero, Nat.succ_ne_zero, and_false, false_and, not_false_eq_true, not_true_eq_false, ite_true, ite_false, if_true, if_false, q_27_0, q_27_1, q_27_2, q_27_5, q_27_6, q_27_7, q_27_10, q_27_11, q_27_12, q_27_15, q_27_16, q_27_18, q_27_21, q_27_22, q_27_25, q_27_26, q_27_29, q_27_30, q_27_34, q_27_36, q_27_39, q_27_40, q_27_43, q_27_45, q_27_47, q_27_49, q_27_52, q_27_55, q_27_56, q_27_59, q_27_60, q_27_61, q_27_64, q_27_67, og_9_2, op_9_2, og_9_3, op_9_3, og_9_4, op_9_4, og_9_5, op_9_5, og_9_1, or_9_1, ow_9_1, og_9_0, or_9_0, ow_9_0, o_is, o_ob, ofs_len9, hf, x_okJ, hl]
