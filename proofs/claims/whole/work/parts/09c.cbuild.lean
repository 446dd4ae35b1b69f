/-! Builds. -/
/-- a Build of n Kinds, at κ, which are SK -/
def bOK (h : xH) (S : gS) (n : Nat) (κ : Nat → Nat) (SK : Nat → gS) : Prop := sI S 1 = nI n ∧ n ≤ 6 ∧ ∀ i, i < n → sQ S 0 i = .ref (κ i) ∧ isB 1 h (κ i) (SK i)
theorem c_bfind_loop (d : Nat) (h : xH) (a n : Nat) (S : gS) (κ : Nat → Nat) (SK : Nat → gS) (w : Int64) (H : isB 2 h a S) (hk : bOK h S n κ SK) : ∀ (k i : Nat) (u : Nat × Value), i + k = n → xrun d 13 2 [(1, .ref a), (2, .long w), (0, .null), (1, .int (nI i)), u] [] h = some (some (.int (oI (fndF (fun i => sJ (SK i) 0) w k i))), h)
  | 0, i, u, hi => by
    obtain ⟨k1, k2, k3⟩ := id hk
    rw [q_13_2]
    simp (disch := omega) only [q_13_0, q_13_1, q_13_3, q_13_4, q_13_7, q_13_10, q_13_11, q_13_14, q_13_15, q_13_16, q_13_18, q_13_20, q_13_23, q_13_25, q_13_28, q_13_29, q_13_30, q_13_33, q_13_34, q_13_35, q_13_38, q_13_41, q_13_42, hg_2_1 H, hg_2_0 H, hr_2_0 H, hw_2_0 H, hn_2_0 H, h_is H, h_ob H, ofs_len2, k_cr, k_ci, k_oR, k_oN, k_aR, k_aN, and_true, true_and, and_self, eq_self, Nat.reduceLT, Nat.reduceLeDiff, Nat.reduceEqDiff, Nat.reduceAdd, Nat.reduceMul, Bool.true_eq_false, Bool.false_eq_true, Nat.add_sub_cancel, Nat.not_lt_zero, Nat.zero_le, k_sub, k_sb1, k_r, k_n, k_ret, k_t1, k_t0, k_nr, k_nn, k_z0, k_z1, k_zb, x_okI, lit_nI, k_in, k_cl, k_lt, k_le, k_eq, k_neg, nI_add, nI_mul, k_clt, k_cgt, k_cle, k_cge, k_ceq, bI_0, k_sh8, ne_eq, Nat.add_eq_zero_iff, Nat.one_ne_zero, Nat.succ_ne_zero, and_false, false_and, not_false_eq_true, not_true_eq_false, ite_true, ite_false, if_true, if_false, k1]
    rw [if_pos (by omega)]
    rfl
  | k + 1, i, u, hi => by
    obtain ⟨k1, k2, k3⟩ := id hk
    obtain ⟨e1, e2⟩ := k3 i (by omega)
    rw [q_13_2]
    simp (disch := omega) only [q_13_0, q_13_1, q_13_3, q_13_4, q_13_7, q_13_10, q_13_11, q_13_14, q_13_15, q_13_16, q_13_18, q_13_20, q_13_23, q_13_25, q_13_28, q_13_29, q_13_30, q_13_33, q_13_34, q_13_35, q_13_38, q_13_41, q_13_42, hg_2_1 H, hg_2_0 H, hr_2_0 H, hw_2_0 H, hn_2_0 H, h_is H, h_ob H, ofs_len2, hg_1_0 e2, h_is e2, h_ob e2, ofs_len1, k_cr, k_ci, k_oR, k_oN, k_aR, k_aN, and_true, true_and, and_self, eq_self, Nat.reduceLT, Nat.reduceLeDiff, Nat.reduceEqDiff, Nat.reduceAdd, Nat.reduceMul, Bool.true_eq_false, Bool.false_eq_true, Nat.add_sub_cancel, Nat.not_lt_zero, Nat.zero_le, k_sub, k_sb1, k_r, k_n, k_ret, k_t1, k_t0, k_nr, k_nn, k_z0, k_z1, k_zb, x_okI, lit_nI, k_in, k_cl, k_lt, k_le, k_eq, k_neg, nI_add, nI_mul, k_clt, k_cgt, k_cle, k_cge, k_ceq, bI_0, k_sh8, ne_eq, Nat.add_eq_zero_iff, Nat.one_ne_zero, Nat.succ_ne_zero, and_false, false_and, not_false_eq_true, not_true_eq_false, ite_true, ite_false, if_true, if_false, k1, e1]
    rw [if_neg (by omega), c_bfind_loop d h a n S κ SK w H hk k (i + 1) _ (by omega), fndF_s]
    by_cases h1 : sJ (SK i) 0 = w
    · simp only [h1, if_true]
      rfl
    · simp only [h1, if_false]
theorem c_bfind (d : Nat) (h : xH) (a n : Nat) (S : gS) (κ : Nat → Nat) (SK : Nat → gS) (w : Int64) (H : isB 2 h a S) (hk : bOK h S n κ SK) : xm (d + 1) 13 [.ref a, .long w] h = some (some (.int (oI (fnd (fun i => sJ (SK i) 0) w n))), h) := by
  rw [E_13 _ _ _ _ rfl]
  simp only [q_13_0, q_13_1, q_13_3, q_13_4, q_13_7, q_13_10, q_13_11, q_13_14, q_13_15, q_13_16, q_13_18, q_13_20, q_13_23, q_13_25, q_13_28, q_13_29, q_13_30, q_13_33, q_13_34, q_13_35, q_13_38, q_13_41, q_13_42, k_cr, k_ci, k_oR, k_oN, k_aR, k_aN, and_true, true_and, and_self, eq_self, Nat.reduceLT, Nat.reduceLeDiff, Nat.reduceEqDiff, Nat.reduceAdd, Nat.reduceMul, Bool.true_eq_false, Bool.false_eq_true, Nat.add_sub_cancel, Nat.not_lt_zero, Nat.zero_le, k_sub, k_sb1, k_r, k_n, k_ret, k_t1, k_t0, k_nr, k_nn, k_z0, k_z1, k_zb, x_okI, lit_nI, k_in, k_cl, k_lt, k_le, k_eq, k_neg, nI_add, nI_mul, k_clt, k_cgt, k_cle, k_cge, k_ceq, bI_0, k_sh8, ne_eq, Nat.add_eq_zero_iff, Nat.one_ne_zero, Nat.succ_ne_zero, and_false, false_and, not_false_eq_true, not_true_eq_false, ite_true, ite_false, if_true, if_false]
  exact c_bfind_loop d h a n S κ SK w H hk n 0 _ (by omega)
/-- the Kind at a place, or null -/
theorem c_kindAt (d : Nat) (h : xH) (a n i : Nat) (S : gS) (κ : Nat → Nat) (SK : Nat → gS) (H : isB 2 h a S) (hk : bOK h S n κ SK) (hi : i < 2147483648) : xm (d + 1) 18 [.ref a, .int (nI i)] h = some (some (if i < n then .ref (κ i) else .null), h) := by
  rw [E_18 _ _ _ _ rfl]
  obtain ⟨k1, k2, k3⟩ := id hk
  by_cases h1 : i < n
  · have h2 : ¬ n ≤ i := by omega
    simp (disch := omega) only [q_18_0, q_18_1, q_18_4, q_18_5, q_18_6, q_18_9, q_18_12, q_18_13, q_18_16, q_18_17, q_18_18, q_18_21, q_18_22, hg_2_1 H, hg_2_0 H, hr_2_0 H, hw_2_0 H, hn_2_0 H, h_is H, h_ob H, ofs_len2, k_cr, k_ci, k_oR, k_oN, k_aR, k_aN, and_true, true_and, and_self, eq_self, Nat.reduceLT, Nat.reduceLeDiff, Nat.reduceEqDiff, Nat.reduceAdd, Nat.reduceMul, Bool.true_eq_false, Bool.false_eq_true, Nat.add_sub_cancel, Nat.not_lt_zero, Nat.zero_le, k_sub, k_sb1, k_r, k_n, k_ret, k_t1, k_t0, k_nr, k_nn, k_z0, k_z1, k_zb, x_okI, lit_nI, k_in, k_cl, k_lt, k_le, k_eq, k_neg, nI_add, nI_mul, k_clt, k_cgt, k_cle, k_cge, k_ceq, bI_0, k_sh8, ne_eq, Nat.add_eq_zero_iff, Nat.one_ne_zero, Nat.succ_ne_zero, and_false, false_and, not_false_eq_true, not_true_eq_false, ite_true, ite_false, if_true, if_false, k1, (k3 i h1).1, h1, h2]
  · have h2 : n ≤ i := by omega
    simp (disch := omega) only [q_18_0, q_18_1, q_18_4, q_18_5, q_18_6, q_18_9, q_18_12, q_18_13, q_18_16, q_18_17, q_18_18, q_18_21, q_18_22, hg_2_1 H, hg_2_0 H, hr_2_0 H, hw_2_0 H, hn_2_0 H, h_is H, h_ob H, ofs_len2, k_cr, k_ci, k_oR, k_oN, k_aR, k_aN, and_true, true_and, and_self, eq_self, Nat.reduceLT, Nat.reduceLeDiff, Nat.reduceEqDiff, Nat.reduceAdd, Nat.reduceMul, Bool.true_eq_false, Bool.false_eq_true, Nat.add_sub_cancel, Nat.not_lt_zero, Nat.zero_le, k_sub, k_sb1, k_r, k_n, k_ret, k_t1, k_t0, k_nr, k_nn, k_z0, k_z1, k_zb, x_okI, lit_nI, k_in, k_cl, k_lt, k_le, k_eq, k_neg, nI_add, nI_mul, k_clt, k_cgt, k_cle, k_cge, k_ceq, bI_0, k_sh8, ne_eq, Nat.add_eq_zero_iff, Nat.one_ne_zero, Nat.succ_ne_zero, and_false, false_and, not_false_eq_true, not_true_eq_false, ite_true, ite_false, if_true, if_false, k1, h1, h2]
theorem c_kindAt_neg (d : Nat) (h : xH) (a : Nat) (i : Int32) (S : gS) (H : isB 2 h a S) (hi : i < nI 0) : xm (d + 1) 18 [.ref a, .int i] h = some (some .null, h) := by
  rw [E_18 _ _ _ _ rfl]
  simp (disch := omega) only [q_18_0, q_18_1, q_18_4, q_18_5, q_18_6, q_18_9, q_18_12, q_18_13, q_18_16, q_18_17, q_18_18, q_18_21, q_18_22, hg_2_1 H, hg_2_0 H, hr_2_0 H, hw_2_0 H, hn_2_0 H, h_is H, h_ob H, ofs_len2, k_cr, k_ci, k_oR, k_oN, k_aR, k_aN, and_true, true_and, and_self, eq_self, Nat.reduceLT, Nat.reduceLeDiff, Nat.reduceEqDiff, Nat.reduceAdd, Nat.reduceMul, Bool.true_eq_false, Bool.false_eq_true, Nat.add_sub_cancel, Nat.not_lt_zero, Nat.zero_le, k_sub, k_sb1, k_r, k_n, k_ret, k_t1, k_t0, k_nr, k_nn, k_z0, k_z1, k_zb, x_okI, lit_nI, k_in, k_cl, k_lt, k_le, k_eq, k_neg, nI_add, nI_mul, k_clt, k_cgt, k_cle, k_cge, k_ceq, bI_0, k_sh8, ne_eq, Nat.add_eq_zero_iff, Nat.one_ne_zero, Nat.succ_ne_zero, and_false, false_and, not_false_eq_true, not_true_eq_false, ite_true, ite_false, if_true, if_false, hi]
theorem c_bappend (d : Nat) (h : xH) (a n : Nat) (S : gS) (w : Int64) (H : isB 2 h a S) (hn : sI S 1 = nI n) (h6 : n < 6) (ha : a + 2 ≤ h.2.2.1) : xm (d + 3) 16 [.ref a, .long w] h = some (some (.int (nI n)), oh 2 (oh 1 (grow h 4 29) h.2.2.1 (K0 w)) a (uI (uQ S 0 n (.ref h.2.2.1)) 1 (nI (n + 1)))) := by
  rw [E_16 _ _ _ _ rfl]
  have hm : isB 2 (xmk h (.inr (1, [.long 0, .null, .null, .null, .int (nI 0)])) 5) a S := H.mk (by decide) ha
  have hK := c_Kind d (xmk h (.inr (1, [.long 0, .null, .null, .null, .int (nI 0)])) 5) h.2.2.1 w (va_up_self _ _ _) rfl
  have hg : oh 1 (grow (xmk h (.inr (1, [.long 0, .null, .null, .null, .int (nI 0)])) 5) 3 24) h.2.2.1 (K0 w) = oh 1 (grow h 4 29) h.2.2.1 (K0 w) := by
    refine Prod.ext ?_ rfl
    funext q
    show (match ocell 1 h.2.2.1 (K0 w) q with | some e => some e | none => va_up h.1 h.2.2.1 _ q) = (match ocell 1 h.2.2.1 (K0 w) q with | some e => some e | none => h.1 q)
    by_cases hq : q = h.2.2.1
    · subst hq
      simp [ocell]
    · rw [va_up_ne _ _ hq]
  rw [hg] at hK
  have hB : isB 2 (oh 1 (grow h 4 29) h.2.2.1 (K0 w)) a S := by
    refine isB.frame (h := grow h 4 29) ?_ (dj_of (by decide) (by decide) (Or.inr ha))
    exact H.kept fun q _ => rfl
  have hk1 : isB 1 (oh 1 (grow h 4 29) h.2.2.1 (K0 w)) h.2.2.1 (K0 w) := isB_oh _ _ _ _
  simp (disch := omega) only [q_16_0, q_16_1, q_16_4, q_16_6, q_16_9, q_16_11, q_16_12, q_16_13, q_16_16, q_16_17, q_16_20, q_16_23, q_16_24, q_16_25, q_16_28, q_16_29, q_16_30, q_16_31, q_16_34, q_16_35, q_16_36, q_16_39, q_16_40, q_16_43, q_16_44, q_16_45, hg_2_1 H, hp_2_1 H, hg_2_0 H, hr_2_0 H, hw_2_0 H, hn_2_0 H, h_is H, h_ob H, ofs_len2, k_cr, k_ci, k_oR, k_oN, k_aR, k_aN, and_true, true_and, and_self, eq_self, Nat.reduceLT, Nat.reduceLeDiff, Nat.reduceEqDiff, Nat.reduceAdd, Nat.reduceMul, Bool.true_eq_false, Bool.false_eq_true, Nat.add_sub_cancel, Nat.not_lt_zero, Nat.zero_le, k_sub, k_sb1, k_r, k_n, k_ret, k_t1, k_t0, k_nr, k_nn, k_z0, k_z1, k_zb, x_okI, lit_nI, k_in, k_cl, k_lt, k_le, k_eq, k_neg, nI_add, nI_mul, k_clt, k_cgt, k_cle, k_cge, k_ceq, bI_0, k_sh8, ne_eq, Nat.add_eq_zero_iff, Nat.one_ne_zero, Nat.succ_ne_zero, and_false, false_and, not_false_eq_true, not_true_eq_false, ite_true, ite_false, if_true, if_false, hn, h6, hK, hw_2_0 hB, h_is hk1, q_16_0, q_16_1, q_16_4, q_16_6, q_16_9, q_16_11, q_16_12, q_16_13, q_16_16, q_16_17, q_16_20, q_16_23, q_16_24, q_16_25, q_16_28, q_16_29, q_16_30, q_16_31, q_16_34, q_16_35, q_16_36, q_16_39, q_16_40, q_16_43, q_16_44, q_16_45, og_2_1, op_2_1, og_2_0, or_2_0, ow_2_0, on_2_0, o_is, o_ob, ofs_len2, sI_uI, sJ_uI, sA_uI, sL_uI, sR_uI, sQ_uI, sI_uJ, sJ_uJ, sA_uJ, sL_uJ, sR_uJ, sQ_uJ, sI_uA, sJ_uA, sA_uA, sL_uA, sR_uA, sQ_uA, sI_uL, sJ_uL, sA_uL, sL_uL, sR_uL, sQ_uL, sI_uR, sJ_uR, sA_uR, sL_uR, sR_uR, sQ_uR, sI_uQ, sJ_uQ, sA_uQ, sL_uQ, sR_uQ, sQ_uQ]
