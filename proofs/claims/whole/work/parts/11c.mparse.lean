/-! The reference's parser: its leaves. -/
theorem rdS_id {S : gS} {p a : Nat} (hp : sI S 30 = nI p) (ha : sI S 32 = nI a) : rdS S p a (sJ S 33) (sI S 31) = S := by
  unfold rdS
  refine Prod.ext ?_ (Prod.ext ?_ rfl)
  · funext k
    show (if k = 30 then nI p else if k = 31 then sI S 31 else if k = 32 then nI a else S.1 k) = S.1 k
    by_cases h1 : k = 30
    · subst h1; rw [if_pos rfl, ← hp]; rfl
    · rw [if_neg h1]
      by_cases h2 : k = 31
      · subst h2; rw [if_pos rfl]; rfl
      · rw [if_neg h2]
        by_cases h3 : k = 32
        · subst h3; rw [if_pos rfl, ← ha]; rfl
        · rw [if_neg h3]
  · funext k
    show (if k = 33 then sJ S 33 else S.2.1 k) = S.2.1 k
    by_cases h1 : k = 33
    · subst h1; rw [if_pos rfl]; rfl
    · rw [if_neg h1]
/-- the reader's state behind read() -/
def rdN (S : gS) (n p : Nat) : gS := rdS S (pcF (sA S 28) n p).1 (pcF (sA S 28) n p).2.1 (pcF (sA S 28) n p).2.2.1 (pcF (sA S 28) n p).2.2.2
theorem m_readS (d : Nat) (h : xH) (M n p a : Nat) (S : gS) (hn : sI S 29 = nI n) (h7 : n ≤ 700) (hp : p ≤ n) (h30 : sI S 30 = nI p) (h32 : sI S 32 = nI a) : xm (d + 2) 148 [.ref M] (oh 11 h M S) = some (none, oh 11 h M (rdN S n p)) := by
  have := m_read d h M n p a S (sJ S 33) (sI S 31) hn h7 hp
  rw [rdS_id h30 h32] at this
  exact this
/-- wrong, or still not -/
def flS (S : gS) : gS := if sI S 34 = -nI 1 then uI S 34 (sI S 32) else S
theorem m_fail (d : Nat) (h : xH) (M : Nat) (S : gS) : xm (d + 1) 151 [.ref M] (oh 11 h M S) = some (none, oh 11 h M (flS S)) := by
  rw [E_151 _ _ _ rfl]
  simp (disch := omega) only [q_151_0, q_151_1, q_151_4, q_151_5, q_151_8, q_151_9, q_151_10, q_151_13, q_151_16, og_11_34, op_11_34, og_11_32, o_is, o_ob, ofs_len11, ↓reduceIte, k_cr, k_ci, k_oR, k_oN, k_aR, k_aN, and_true, true_and, and_self, eq_self, Nat.reduceLT, Nat.reduceLeDiff, Nat.reduceEqDiff, Nat.reduceAdd, Nat.reduceMul, Bool.true_eq_false, Bool.false_eq_true, Nat.add_sub_cancel, Nat.not_lt_zero, Nat.zero_le, k_sub, k_sb1, k_r, k_n, k_ret, k_t1, k_t0, k_nr, k_nn, k_z0, k_z1, k_zb, x_okI, lit_nI, k_in, k_cl, k_lt, k_le, k_eq, k_neg, nI_add, nI_mul, k_clt, k_cgt, k_cle, k_cge, k_ceq, bI_0, k_sh8, ne_eq, Nat.add_eq_zero_iff, Nat.one_ne_zero, Nat.succ_ne_zero, and_false, false_and, not_false_eq_true, not_true_eq_false, ite_true, ite_false, if_true, if_false]
  unfold flS
  by_cases h1 : sI S 34 = -nI 1 <;> simp [h1]
def wdN (S : gS) (w : Int64) : Bool := decide (sI S 31 = nI 1) && decide (sJ S 33 = w)
def nmN (S : gS) : Bool := decide (sI S 31 = nI 1) && !isW (sJ S 33)
theorem m_isWordNow (d : Nat) (h : xH) (M : Nat) (S : gS) (w : Int64) : xm (d + 1) 150 [.ref M, .long w] (oh 11 h M S) = some (some (.int (bI (wdN S w))), oh 11 h M S) := by
  rw [E_150 _ _ _ _ rfl]
  simp (disch := omega) only [q_150_0, q_150_1, q_150_4, q_150_5, q_150_8, q_150_9, q_150_12, q_150_13, q_150_14, q_150_17, q_150_18, q_150_21, q_150_22, og_11_31, og_11_33, o_is, o_ob, ofs_len11, ↓reduceIte, k_cr, k_ci, k_oR, k_oN, k_aR, k_aN, and_true, true_and, and_self, eq_self, Nat.reduceLT, Nat.reduceLeDiff, Nat.reduceEqDiff, Nat.reduceAdd, Nat.reduceMul, Bool.true_eq_false, Bool.false_eq_true, Nat.add_sub_cancel, Nat.not_lt_zero, Nat.zero_le, k_sub, k_sb1, k_r, k_n, k_ret, k_t1, k_t0, k_nr, k_nn, k_z0, k_z1, k_zb, x_okI, lit_nI, k_in, k_cl, k_lt, k_le, k_eq, k_neg, nI_add, nI_mul, k_clt, k_cgt, k_cle, k_cge, k_ceq, bI_0, k_sh8, ne_eq, Nat.add_eq_zero_iff, Nat.one_ne_zero, Nat.succ_ne_zero, and_false, false_and, not_false_eq_true, not_true_eq_false, ite_true, ite_false, if_true, if_false]
  unfold wdN
  by_cases h1 : sI S 31 = nI 1
  · by_cases h2 : sJ S 33 = w <;> simp [h1, h2, bI]
  · simp [h1, bI]
theorem m_isNameNow (d : Nat) (h : xH) (M : Nat) (S : gS) : xm (d + 2) 152 [.ref M] (oh 11 h M S) = some (some (.int (bI (nmN S))), oh 11 h M S) := by
  rw [E_152 _ _ _ rfl]
  simp (disch := omega) only [q_152_0, q_152_1, q_152_4, q_152_5, q_152_8, q_152_9, q_152_12, q_152_15, q_152_18, q_152_19, q_152_22, q_152_23, og_11_31, og_11_33, o_is, o_ob, ofs_len11, ↓reduceIte, k_cr, k_ci, k_oR, k_oN, k_aR, k_aN, and_true, true_and, and_self, eq_self, Nat.reduceLT, Nat.reduceLeDiff, Nat.reduceEqDiff, Nat.reduceAdd, Nat.reduceMul, Bool.true_eq_false, Bool.false_eq_true, Nat.add_sub_cancel, Nat.not_lt_zero, Nat.zero_le, k_sub, k_sb1, k_r, k_n, k_ret, k_t1, k_t0, k_nr, k_nn, k_z0, k_z1, k_zb, x_okI, lit_nI, k_in, k_cl, k_lt, k_le, k_eq, k_neg, nI_add, nI_mul, k_clt, k_cgt, k_cle, k_cge, k_ceq, bI_0, k_sh8, ne_eq, Nat.add_eq_zero_iff, Nat.one_ne_zero, Nat.succ_ne_zero, and_false, false_and, not_false_eq_true, not_true_eq_false, ite_true, ite_false, if_true, if_false, m_isWord]
  unfold nmN
  by_cases h1 : sI S 31 = nI 1
  · cases isW (sJ S 33) <;> simp [h1, bI]
  · simp [h1, bI]
theorem m_emit (d : Nat) (h : xH) (M k : Nat) (S : gS) (w : Int32) (v : Int64) (a : Int32) (hk : sI S 49 = nI k) (h14 : k < 1400) : xm (d + 1) 159 [.ref M, .int w, .long v, .int a] (oh 11 h M S) = some (none, oh 11 h M (uI (uA (uL (uA S 50 k w) 51 k v) 52 k a) 49 (nI (k + 1)))) := by
  rw [E_159 _ _ _ _ _ _ rfl]
  simp (disch := omega) only [q_159_0, q_159_1, q_159_4, q_159_5, q_159_8, q_159_9, q_159_10, q_159_11, q_159_14, q_159_15, q_159_18, q_159_19, q_159_20, q_159_21, q_159_24, q_159_25, q_159_28, q_159_30, q_159_31, q_159_32, q_159_33, q_159_36, q_159_37, q_159_38, q_159_41, og_11_50, or_11_50, ow_11_50, og_11_49, op_11_49, og_11_51, or_11_51, ow_11_51, og_11_52, or_11_52, ow_11_52, o_is, o_ob, ofs_len11, ↓reduceIte, k_cr, k_ci, k_oR, k_oN, k_aR, k_aN, and_true, true_and, and_self, eq_self, Nat.reduceLT, Nat.reduceLeDiff, Nat.reduceEqDiff, Nat.reduceAdd, Nat.reduceMul, Bool.true_eq_false, Bool.false_eq_true, Nat.add_sub_cancel, Nat.not_lt_zero, Nat.zero_le, k_sub, k_sb1, k_r, k_n, k_ret, k_t1, k_t0, k_nr, k_nn, k_z0, k_z1, k_zb, x_okI, lit_nI, k_in, k_cl, k_lt, k_le, k_eq, k_neg, nI_add, nI_mul, k_clt, k_cgt, k_cle, k_cge, k_ceq, bI_0, k_sh8, ne_eq, Nat.add_eq_zero_iff, Nat.one_ne_zero, Nat.succ_ne_zero, and_false, false_and, not_false_eq_true, not_true_eq_false, ite_true, ite_false, if_true, if_false, sI_uI, sJ_uI, sA_uI, sL_uI, sR_uI, sQ_uI, sI_uJ, sJ_uJ, sA_uJ, sL_uJ, sR_uJ, sQ_uJ, sI_uA, sJ_uA, sA_uA, sL_uA, sR_uA, sQ_uA, sI_uL, sJ_uL, sA_uL, sL_uL, sR_uL, sQ_uL, sI_uR, sJ_uR, sA_uR, sL_uR, sR_uR, sQ_uR, sI_uQ, sJ_uQ, sA_uQ, sL_uQ, sR_uQ, sQ_uQ, hk]
theorem m_hold (d : Nat) (h : xH) (M k : Nat) (S : gS) (w : Int32) (v : Int64) (a : Int32) (hk : sI S 56 = nI k) (h14 : k < 700) : xm (d + 1) 158 [.ref M, .int w, .long v, .int a] (oh 11 h M S) = some (none, oh 11 h M (uI (uA (uL (uA S 53 k w) 54 k v) 55 k a) 56 (nI (k + 1)))) := by
  rw [E_158 _ _ _ _ _ _ rfl]
  simp (disch := omega) only [q_158_0, q_158_1, q_158_4, q_158_5, q_158_8, q_158_9, q_158_10, q_158_11, q_158_14, q_158_15, q_158_18, q_158_19, q_158_20, q_158_21, q_158_24, q_158_25, q_158_28, q_158_30, q_158_31, q_158_32, q_158_33, q_158_36, q_158_37, q_158_38, q_158_41, og_11_53, or_11_53, ow_11_53, og_11_56, op_11_56, og_11_54, or_11_54, ow_11_54, og_11_55, or_11_55, ow_11_55, o_is, o_ob, ofs_len11, ↓reduceIte, k_cr, k_ci, k_oR, k_oN, k_aR, k_aN, and_true, true_and, and_self, eq_self, Nat.reduceLT, Nat.reduceLeDiff, Nat.reduceEqDiff, Nat.reduceAdd, Nat.reduceMul, Bool.true_eq_false, Bool.false_eq_true, Nat.add_sub_cancel, Nat.not_lt_zero, Nat.zero_le, k_sub, k_sb1, k_r, k_n, k_ret, k_t1, k_t0, k_nr, k_nn, k_z0, k_z1, k_zb, x_okI, lit_nI, k_in, k_cl, k_lt, k_le, k_eq, k_neg, nI_add, nI_mul, k_clt, k_cgt, k_cle, k_cge, k_ceq, bI_0, k_sh8, ne_eq, Nat.add_eq_zero_iff, Nat.one_ne_zero, Nat.succ_ne_zero, and_false, false_and, not_false_eq_true, not_true_eq_false, ite_true, ite_false, if_true, if_false, sI_uI, sJ_uI, sA_uI, sL_uI, sR_uI, sQ_uI, sI_uJ, sJ_uJ, sA_uJ, sL_uJ, sR_uJ, sQ_uJ, sI_uA, sJ_uA, sA_uA, sL_uA, sR_uA, sQ_uA, sI_uL, sJ_uL, sA_uL, sL_uL, sR_uL, sQ_uL, sI_uR, sJ_uR, sA_uR, sL_uR, sR_uR, sQ_uR, sI_uQ, sJ_uQ, sA_uQ, sL_uQ, sR_uQ, sQ_uQ, hk]
def dpS (S : gS) (k : Nat) : gS := if 20 < k + 1 then flS (uI S 57 (nI (k + 1))) else uI S 57 (nI (k + 1))
theorem m_deeper (d : Nat) (h : xH) (M k : Nat) (S : gS) (hk : sI S 57 = nI k) (h14 : k < 700) : xm (d + 2) 157 [.ref M] (oh 11 h M S) = some (none, oh 11 h M (dpS S k)) := by
  rw [E_157 _ _ _ rfl]
  unfold dpS
  by_cases h1 : 20 < k + 1
  · have h2 : ¬ k + 1 ≤ 20 := by omega
    simp (disch := omega) only [q_157_0, q_157_1, q_157_2, q_157_5, q_157_6, q_157_7, q_157_10, q_157_11, q_157_14, q_157_16, q_157_19, q_157_20, q_157_23, og_11_57, op_11_57, o_is, o_ob, ofs_len11, ↓reduceIte, k_cr, k_ci, k_oR, k_oN, k_aR, k_aN, and_true, true_and, and_self, eq_self, Nat.reduceLT, Nat.reduceLeDiff, Nat.reduceEqDiff, Nat.reduceAdd, Nat.reduceMul, Bool.true_eq_false, Bool.false_eq_true, Nat.add_sub_cancel, Nat.not_lt_zero, Nat.zero_le, k_sub, k_sb1, k_r, k_n, k_ret, k_t1, k_t0, k_nr, k_nn, k_z0, k_z1, k_zb, x_okI, lit_nI, k_in, k_cl, k_lt, k_le, k_eq, k_neg, nI_add, nI_mul, k_clt, k_cgt, k_cle, k_cge, k_ceq, bI_0, k_sh8, ne_eq, Nat.add_eq_zero_iff, Nat.one_ne_zero, Nat.succ_ne_zero, and_false, false_and, not_false_eq_true, not_true_eq_false, ite_true, ite_false, if_true, if_false, sI_uI, sJ_uI, sA_uI, sL_uI, sR_uI, sQ_uI, sI_uJ, sJ_uJ, sA_uJ, sL_uJ, sR_uJ, sQ_uJ, sI_uA, sJ_uA, sA_uA, sL_uA, sR_uA, sQ_uA, sI_uL, sJ_uL, sA_uL, sL_uL, sR_uL, sQ_uL, sI_uR, sJ_uR, sA_uR, sL_uR, sR_uR, sQ_uR, sI_uQ, sJ_uQ, sA_uQ, sL_uQ, sR_uQ, sQ_uQ, hk, h1, h2, m_fail]
  · have h2 : k + 1 ≤ 20 := by omega
    simp (disch := omega) only [q_157_0, q_157_1, q_157_2, q_157_5, q_157_6, q_157_7, q_157_10, q_157_11, q_157_14, q_157_16, q_157_19, q_157_20, q_157_23, og_11_57, op_11_57, o_is, o_ob, ofs_len11, ↓reduceIte, k_cr, k_ci, k_oR, k_oN, k_aR, k_aN, and_true, true_and, and_self, eq_self, Nat.reduceLT, Nat.reduceLeDiff, Nat.reduceEqDiff, Nat.reduceAdd, Nat.reduceMul, Bool.true_eq_false, Bool.false_eq_true, Nat.add_sub_cancel, Nat.not_lt_zero, Nat.zero_le, k_sub, k_sb1, k_r, k_n, k_ret, k_t1, k_t0, k_nr, k_nn, k_z0, k_z1, k_zb, x_okI, lit_nI, k_in, k_cl, k_lt, k_le, k_eq, k_neg, nI_add, nI_mul, k_clt, k_cgt, k_cle, k_cge, k_ceq, bI_0, k_sh8, ne_eq, Nat.add_eq_zero_iff, Nat.one_ne_zero, Nat.succ_ne_zero, and_false, false_and, not_false_eq_true, not_true_eq_false, ite_true, ite_false, if_true, if_false, sI_uI, sJ_uI, sA_uI, sL_uI, sR_uI, sQ_uI, sI_uJ, sJ_uJ, sA_uJ, sL_uJ, sR_uJ, sQ_uJ, sI_uA, sJ_uA, sA_uA, sL_uA, sR_uA, sQ_uA, sI_uL, sJ_uL, sA_uL, sL_uL, sR_uL, sQ_uL, sI_uR, sJ_uR, sA_uR, sL_uR, sR_uR, sQ_uR, sI_uQ, sJ_uQ, sA_uQ, sL_uQ, sR_uQ, sQ_uQ, hk, h1, h2, m_fail]
def isOp (c : Int32) : Bool := decide (c = nI 43) || decide (c = nI 45) || decide (c = nI 42) || decide (c = nI 47) || decide (c = nI 37)
theorem m_isOperator (d : Nat) (h : xH) (M : Nat) (S : gS) : xm (d + 1) 162 [.ref M] (oh 11 h M S) = some (some (.int (bI (isOp (sI S 31)))), oh 11 h M S) := by
  rw [E_162 _ _ _ rfl]
  unfold isOp
  generalize hc : sI S 31 = c
  by_cases e0 : c = nI 43
  · subst e0
    simp (disch := omega) only [q_162_0, q_162_1, q_162_4, q_162_6, q_162_9, q_162_10, q_162_13, q_162_15, q_162_18, q_162_19, q_162_22, q_162_24, q_162_27, q_162_28, q_162_31, q_162_33, q_162_36, q_162_37, q_162_40, q_162_42, q_162_45, q_162_46, q_162_49, q_162_50, og_11_31, o_is, o_ob, ofs_len11, ↓reduceIte, k_cr, k_ci, k_oR, k_oN, k_aR, k_aN, and_true, true_and, and_self, eq_self, Nat.reduceLT, Nat.reduceLeDiff, Nat.reduceEqDiff, Nat.reduceAdd, Nat.reduceMul, Bool.true_eq_false, Bool.false_eq_true, Nat.add_sub_cancel, Nat.not_lt_zero, Nat.zero_le, k_sub, k_sb1, k_r, k_n, k_ret, k_t1, k_t0, k_nr, k_nn, k_z0, k_z1, k_zb, x_okI, lit_nI, k_in, k_cl, k_lt, k_le, k_eq, k_neg, nI_add, nI_mul, k_clt, k_cgt, k_cle, k_cge, k_ceq, bI_0, k_sh8, ne_eq, Nat.add_eq_zero_iff, Nat.one_ne_zero, Nat.succ_ne_zero, and_false, false_and, not_false_eq_true, not_true_eq_false, ite_true, ite_false, if_true, if_false, hc, decide_true, Bool.true_or, bI_t]
  by_cases e1 : c = nI 45
  · subst e1
    simp (disch := omega) only [q_162_0, q_162_1, q_162_4, q_162_6, q_162_9, q_162_10, q_162_13, q_162_15, q_162_18, q_162_19, q_162_22, q_162_24, q_162_27, q_162_28, q_162_31, q_162_33, q_162_36, q_162_37, q_162_40, q_162_42, q_162_45, q_162_46, q_162_49, q_162_50, og_11_31, o_is, o_ob, ofs_len11, ↓reduceIte, k_cr, k_ci, k_oR, k_oN, k_aR, k_aN, and_true, true_and, and_self, eq_self, Nat.reduceLT, Nat.reduceLeDiff, Nat.reduceEqDiff, Nat.reduceAdd, Nat.reduceMul, Bool.true_eq_false, Bool.false_eq_true, Nat.add_sub_cancel, Nat.not_lt_zero, Nat.zero_le, k_sub, k_sb1, k_r, k_n, k_ret, k_t1, k_t0, k_nr, k_nn, k_z0, k_z1, k_zb, x_okI, lit_nI, k_in, k_cl, k_lt, k_le, k_eq, k_neg, nI_add, nI_mul, k_clt, k_cgt, k_cle, k_cge, k_ceq, bI_0, k_sh8, ne_eq, Nat.add_eq_zero_iff, Nat.one_ne_zero, Nat.succ_ne_zero, and_false, false_and, not_false_eq_true, not_true_eq_false, ite_true, ite_false, if_true, if_false, hc, decide_true, Bool.true_or, Bool.or_true, bI_t]
  by_cases e2 : c = nI 42
  · subst e2
    simp (disch := omega) only [q_162_0, q_162_1, q_162_4, q_162_6, q_162_9, q_162_10, q_162_13, q_162_15, q_162_18, q_162_19, q_162_22, q_162_24, q_162_27, q_162_28, q_162_31, q_162_33, q_162_36, q_162_37, q_162_40, q_162_42, q_162_45, q_162_46, q_162_49, q_162_50, og_11_31, o_is, o_ob, ofs_len11, ↓reduceIte, k_cr, k_ci, k_oR, k_oN, k_aR, k_aN, and_true, true_and, and_self, eq_self, Nat.reduceLT, Nat.reduceLeDiff, Nat.reduceEqDiff, Nat.reduceAdd, Nat.reduceMul, Bool.true_eq_false, Bool.false_eq_true, Nat.add_sub_cancel, Nat.not_lt_zero, Nat.zero_le, k_sub, k_sb1, k_r, k_n, k_ret, k_t1, k_t0, k_nr, k_nn, k_z0, k_z1, k_zb, x_okI, lit_nI, k_in, k_cl, k_lt, k_le, k_eq, k_neg, nI_add, nI_mul, k_clt, k_cgt, k_cle, k_cge, k_ceq, bI_0, k_sh8, ne_eq, Nat.add_eq_zero_iff, Nat.one_ne_zero, Nat.succ_ne_zero, and_false, false_and, not_false_eq_true, not_true_eq_false, ite_true, ite_false, if_true, if_false, hc, decide_true, Bool.true_or, Bool.or_true, bI_t]
  by_cases e3 : c = nI 47
  · subst e3
    simp (disch := omega) only [q_162_0, q_162_1, q_162_4, q_162_6, q_162_9, q_162_10, q_162_13, q_162_15, q_162_18, q_162_19, q_162_22, q_162_24, q_162_27, q_162_28, q_162_31, q_162_33, q_162_36, q_162_37, q_162_40, q_162_42, q_162_45, q_162_46, q_162_49, q_162_50, og_11_31, o_is, o_ob, ofs_len11, ↓reduceIte, k_cr, k_ci, k_oR, k_oN, k_aR, k_aN, and_true, true_and, and_self, eq_self, Nat.reduceLT, Nat.reduceLeDiff, Nat.reduceEqDiff, Nat.reduceAdd, Nat.reduceMul, Bool.true_eq_false, Bool.false_eq_true, Nat.add_sub_cancel, Nat.not_lt_zero, Nat.zero_le, k_sub, k_sb1, k_r, k_n, k_ret, k_t1, k_t0, k_nr, k_nn, k_z0, k_z1, k_zb, x_okI, lit_nI, k_in, k_cl, k_lt, k_le, k_eq, k_neg, nI_add, nI_mul, k_clt, k_cgt, k_cle, k_cge, k_ceq, bI_0, k_sh8, ne_eq, Nat.add_eq_zero_iff, Nat.one_ne_zero, Nat.succ_ne_zero, and_false, false_and, not_false_eq_true, not_true_eq_false, ite_true, ite_false, if_true, if_false, hc, decide_true, Bool.true_or, Bool.or_true, bI_t]
  by_cases e4 : c = nI 37
  · subst e4
    simp (disch := omega) only [q_162_0, q_162_1, q_162_4, q_162_6, q_162_9, q_162_10, q_162_13, q_162_15, q_162_18, q_162_19, q_162_22, q_162_24, q_162_27, q_162_28, q_162_31, q_162_33, q_162_36, q_162_37, q_162_40, q_162_42, q_162_45, q_162_46, q_162_49, q_162_50, og_11_31, o_is, o_ob, ofs_len11, ↓reduceIte, k_cr, k_ci, k_oR, k_oN, k_aR, k_aN, and_true, true_and, and_self, eq_self, Nat.reduceLT, Nat.reduceLeDiff, Nat.reduceEqDiff, Nat.reduceAdd, Nat.reduceMul, Bool.true_eq_false, Bool.false_eq_true, Nat.add_sub_cancel, Nat.not_lt_zero, Nat.zero_le, k_sub, k_sb1, k_r, k_n, k_ret, k_t1, k_t0, k_nr, k_nn, k_z0, k_z1, k_zb, x_okI, lit_nI, k_in, k_cl, k_lt, k_le, k_eq, k_neg, nI_add, nI_mul, k_clt, k_cgt, k_cle, k_cge, k_ceq, bI_0, k_sh8, ne_eq, Nat.add_eq_zero_iff, Nat.one_ne_zero, Nat.succ_ne_zero, and_false, false_and, not_false_eq_true, not_true_eq_false, ite_true, ite_false, if_true, if_false, hc, decide_true, Bool.or_true, bI_t]
  simp (disch := omega) only [q_162_0, q_162_1, q_162_4, q_162_6, q_162_9, q_162_10, q_162_13, q_162_15, q_162_18, q_162_19, q_162_22, q_162_24, q_162_27, q_162_28, q_162_31, q_162_33, q_162_36, q_162_37, q_162_40, q_162_42, q_162_45, q_162_46, q_162_49, q_162_50, og_11_31, o_is, o_ob, ofs_len11, ↓reduceIte, k_cr, k_ci, k_oR, k_oN, k_aR, k_aN, and_true, true_and, and_self, eq_self, Nat.reduceLT, Nat.reduceLeDiff, Nat.reduceEqDiff, Nat.reduceAdd, Nat.reduceMul, Bool.true_eq_false, Bool.false_eq_true, Nat.add_sub_cancel, Nat.not_lt_zero, Nat.zero_le, k_sub, k_sb1, k_r, k_n, k_ret, k_t1, k_t0, k_nr, k_nn, k_z0, k_z1, k_zb, x_okI, lit_nI, k_in, k_cl, k_lt, k_le, k_eq, k_neg, nI_add, nI_mul, k_clt, k_cgt, k_cle, k_cge, k_ceq, bI_0, k_sh8, ne_eq, Nat.add_eq_zero_iff, Nat.one_ne_zero, Nat.succ_ne_zero, and_false, false_and, not_false_eq_true, not_true_eq_false, ite_true, ite_false, if_true, if_false, hc, e0, e1, e2, e3, e4, decide_false, Bool.or_self, bI_f]
/-- a sign that must stand here -/
def sgS (S : gS) (n p : Nat) (c : Int32) : gS := if sI S 31 = c then (if sI S 34 = -nI 1 then rdN S n p else S) else flS S
theorem m_sign2 (d : Nat) (h : xH) (M n p a : Nat) (S : gS) (c : Int32) (hn : sI S 29 = nI n) (h7 : n ≤ 700) (hp : p ≤ n) (h30 : sI S 30 = nI p) (h32 : sI S 32 = nI a) (ha : a ≤ 700) : xm (d + 3) 153 [.ref M, .int c] (oh 11 h M S) = some (none, oh 11 h M (sgS S n p c)) := by
  rw [E_153 _ _ _ _ rfl]
  have e1 := m_readS d h M n p a S hn h7 hp h30 h32
  unfold sgS
  by_cases h1 : sI S 31 = c
  · by_cases h2 : sI S 34 = -nI 1
    · simp (disch := omega) only [q_153_0, q_153_1, q_153_4, q_153_5, q_153_8, q_153_9, q_153_12, q_153_13, q_153_16, q_153_17, q_153_20, q_153_21, q_153_24, og_11_31, og_11_34, o_is, o_ob, ofs_len11, ↓reduceIte, k_cr, k_ci, k_oR, k_oN, k_aR, k_aN, and_true, true_and, and_self, eq_self, Nat.reduceLT, Nat.reduceLeDiff, Nat.reduceEqDiff, Nat.reduceAdd, Nat.reduceMul, Bool.true_eq_false, Bool.false_eq_true, Nat.add_sub_cancel, Nat.not_lt_zero, Nat.zero_le, k_sub, k_sb1, k_r, k_n, k_ret, k_t1, k_t0, k_nr, k_nn, k_z0, k_z1, k_zb, x_okI, lit_nI, k_in, k_cl, k_lt, k_le, k_eq, k_neg, nI_add, nI_mul, k_clt, k_cgt, k_cle, k_cge, k_ceq, bI_0, k_sh8, ne_eq, Nat.add_eq_zero_iff, Nat.one_ne_zero, Nat.succ_ne_zero, and_false, false_and, not_false_eq_true, not_true_eq_false, ite_true, ite_false, if_true, if_false, h1, h2, e1]
    · simp (disch := omega) only [q_153_0, q_153_1, q_153_4, q_153_5, q_153_8, q_153_9, q_153_12, q_153_13, q_153_16, q_153_17, q_153_20, q_153_21, q_153_24, og_11_31, og_11_34, o_is, o_ob, ofs_len11, ↓reduceIte, k_cr, k_ci, k_oR, k_oN, k_aR, k_aN, and_true, true_and, and_self, eq_self, Nat.reduceLT, Nat.reduceLeDiff, Nat.reduceEqDiff, Nat.reduceAdd, Nat.reduceMul, Bool.true_eq_false, Bool.false_eq_true, Nat.add_sub_cancel, Nat.not_lt_zero, Nat.zero_le, k_sub, k_sb1, k_r, k_n, k_ret, k_t1, k_t0, k_nr, k_nn, k_z0, k_z1, k_zb, x_okI, lit_nI, k_in, k_cl, k_lt, k_le, k_eq, k_neg, nI_add, nI_mul, k_clt, k_cgt, k_cle, k_cge, k_ceq, bI_0, k_sh8, ne_eq, Nat.add_eq_zero_iff, Nat.one_ne_zero, Nat.succ_ne_zero, and_false, false_and, not_false_eq_true, not_true_eq_false, ite_true, ite_false, if_true, if_false, h1, h2]
  · have e2 : (sI (flS S) 34 = -nI 1) = False := by
      unfold flS
      by_cases h2 : sI S 34 = -nI 1
      · rw [if_pos h2, sI_uI, if_pos rfl, h32]
        exact k_neg (by omega)
      · rw [if_neg h2]
        exact propext ⟨fun q => h2 q, fun q => q.elim⟩
    simp (disch := omega) only [q_153_0, q_153_1, q_153_4, q_153_5, q_153_8, q_153_9, q_153_12, q_153_13, q_153_16, q_153_17, q_153_20, q_153_21, q_153_24, og_11_31, og_11_34, o_is, o_ob, ofs_len11, ↓reduceIte, k_cr, k_ci, k_oR, k_oN, k_aR, k_aN, and_true, true_and, and_self, eq_self, Nat.reduceLT, Nat.reduceLeDiff, Nat.reduceEqDiff, Nat.reduceAdd, Nat.reduceMul, Bool.true_eq_false, Bool.false_eq_true, Nat.add_sub_cancel, Nat.not_lt_zero, Nat.zero_le, k_sub, k_sb1, k_r, k_n, k_ret, k_t1, k_t0, k_nr, k_nn, k_z0, k_z1, k_zb, x_okI, lit_nI, k_in, k_cl, k_lt, k_le, k_eq, k_neg, nI_add, nI_mul, k_clt, k_cgt, k_cle, k_cge, k_ceq, bI_0, k_sh8, ne_eq, Nat.add_eq_zero_iff, Nat.one_ne_zero, Nat.succ_ne_zero, and_false, false_and, not_false_eq_true, not_true_eq_false, ite_true, ite_false, if_true, if_false, h1, m_fail, e2]
