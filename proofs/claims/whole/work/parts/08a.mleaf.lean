/-! The reference's leaves. -/
theorem m_in (d : Nat) (h : xH) (v a b : Int64) : xm (d + 1) 127 [.long v, .long a, .long b] h = some (some (.int (bI (decide (a ≤ v) && decide (v ≤ b)))), h) := by
  rw [E_127]
  simp only [q_127_0, q_127_1, q_127_2, q_127_3, q_127_6, q_127_7, q_127_9, q_127_10, q_127_13, q_127_14, q_127_17, q_127_18, o_is, o_ob, k_cr, k_ci, k_oR, k_oN, k_aR, k_aN, and_true, true_and, and_self, eq_self, Nat.reduceLT, Nat.reduceLeDiff, Nat.reduceEqDiff, Nat.reduceAdd, Nat.reduceMul, Nat.add_sub_cancel, Nat.not_lt_zero, Nat.zero_le, k_sub, k_sb1, k_r, k_n, k_ret, k_t1, k_t0, k_nr, k_nn, k_z0, k_z1, k_zb, x_okI, lit_nI, k_in, k_cl, k_lt, k_le, k_eq, k_neg, nI_add, nI_mul, k_clt, k_cgt, k_cle, k_cge, k_ceq, bI_0, k_sh8, ne_eq, Nat.add_eq_zero_iff, Nat.one_ne_zero, Nat.succ_ne_zero, and_false, false_and, not_false_eq_true, not_true_eq_false, ite_true, ite_false, if_true, if_false]
  by_cases h1 : v < a <;> by_cases h2 : b < v <;> simp [h1, h2, bI, ← Int64.not_lt]
def isW (w : Int64) : Bool := decide (w = 7038329) || decide (w = 1836021349) || decide (w = 1685221232) || decide (w = 29807)
theorem m_isWord (d : Nat) (h : xH) (w : Int64) : xm (d + 1) 129 [.long w] h = some (some (.int (bI (isW w))), h) := by
  rw [E_129]
  simp only [q_129_0, q_129_1, q_129_4, q_129_5, q_129_8, q_129_9, q_129_12, q_129_13, q_129_16, q_129_17, q_129_20, q_129_21, q_129_24, q_129_25, q_129_28, q_129_29, q_129_32, q_129_33, q_129_36, q_129_37, o_is, o_ob, k_cr, k_ci, k_oR, k_oN, k_aR, k_aN, and_true, true_and, and_self, eq_self, Nat.reduceLT, Nat.reduceLeDiff, Nat.reduceEqDiff, Nat.reduceAdd, Nat.reduceMul, Nat.add_sub_cancel, Nat.not_lt_zero, Nat.zero_le, k_sub, k_sb1, k_r, k_n, k_ret, k_t1, k_t0, k_nr, k_nn, k_z0, k_z1, k_zb, x_okI, lit_nI, k_in, k_cl, k_lt, k_le, k_eq, k_neg, nI_add, nI_mul, k_clt, k_cgt, k_cle, k_cge, k_ceq, bI_0, k_sh8, ne_eq, Nat.add_eq_zero_iff, Nat.one_ne_zero, Nat.succ_ne_zero, and_false, false_and, not_false_eq_true, not_true_eq_false, ite_true, ite_false, if_true, if_false]
  unfold isW
  by_cases h1 : w = 7038329
  · simp [h1, bI]
  · by_cases h2 : w = 1836021349
    · simp [h2, bI]
    · by_cases h3 : w = 1685221232
      · simp [h3, bI]
      · by_cases h4 : w = 29807 <;> simp [h1, h2, h3, h4, bI]
def isN (x : Int64) : Bool := decide (¬ x = 0) && (nmOK 8 x && !isW x)
theorem m_isName_loop (d : Nat) (h : xH) (w : Int64) : ∀ (n : Nat) (x : Int64) (b : Bool), x.toUInt64.toNat < 256 ^ n → xrun (d + 1) 128 12 [(2, .long w), (0, .null), (1, .int (bI b)), (2, .long x), (0, .null)] [] h = some (some (.int (bI ((b && nmOK n x) && !isW w))), h)
  | 0, x, b, hx => by
    have hx0 : x = 0 := u64_0 (by rw [Nat.pow_zero] at hx; omega)
    subst hx0
    rw [q_128_12]
    simp only [q_128_0, q_128_1, q_128_2, q_128_3, q_128_6, q_128_7, q_128_8, q_128_9, q_128_10, q_128_11, q_128_13, q_128_14, q_128_15, q_128_18, q_128_19, q_128_22, q_128_23, q_128_26, q_128_27, q_128_30, q_128_33, q_128_36, q_128_37, q_128_38, q_128_40, q_128_41, q_128_42, q_128_45, q_128_46, q_128_49, q_128_50, q_128_53, q_128_56, q_128_57, q_128_60, q_128_61, o_is, o_ob, k_cr, k_ci, k_oR, k_oN, k_aR, k_aN, and_true, true_and, and_self, eq_self, Nat.reduceLT, Nat.reduceLeDiff, Nat.reduceEqDiff, Nat.reduceAdd, Nat.reduceMul, Nat.add_sub_cancel, Nat.not_lt_zero, Nat.zero_le, k_sub, k_sb1, k_r, k_n, k_ret, k_t1, k_t0, k_nr, k_nn, k_z0, k_z1, k_zb, x_okI, lit_nI, k_in, k_cl, k_lt, k_le, k_eq, k_neg, nI_add, nI_mul, k_clt, k_cgt, k_cle, k_cge, k_ceq, bI_0, k_sh8, ne_eq, Nat.add_eq_zero_iff, Nat.one_ne_zero, Nat.succ_ne_zero, and_false, false_and, not_false_eq_true, not_true_eq_false, ite_true, ite_false, if_true, if_false, m_isWord]
    cases b <;> cases isW w <;> simp [nmOK, bI]
  | n + 1, x, b, hx => by
    have hs : (sh8 x).toUInt64.toNat < 256 ^ n := by
      rw [sh8_nat]
      rw [Nat.pow_succ] at hx
      omega
    rw [q_128_12]
    simp only [q_128_0, q_128_1, q_128_2, q_128_3, q_128_6, q_128_7, q_128_8, q_128_9, q_128_10, q_128_11, q_128_13, q_128_14, q_128_15, q_128_18, q_128_19, q_128_22, q_128_23, q_128_26, q_128_27, q_128_30, q_128_33, q_128_36, q_128_37, q_128_38, q_128_40, q_128_41, q_128_42, q_128_45, q_128_46, q_128_49, q_128_50, q_128_53, q_128_56, q_128_57, q_128_60, q_128_61, o_is, o_ob, k_cr, k_ci, k_oR, k_oN, k_aR, k_aN, and_true, true_and, and_self, eq_self, Nat.reduceLT, Nat.reduceLeDiff, Nat.reduceEqDiff, Nat.reduceAdd, Nat.reduceMul, Nat.add_sub_cancel, Nat.not_lt_zero, Nat.zero_le, k_sub, k_sb1, k_r, k_n, k_ret, k_t1, k_t0, k_nr, k_nn, k_z0, k_z1, k_zb, x_okI, lit_nI, k_in, k_cl, k_lt, k_le, k_eq, k_neg, nI_add, nI_mul, k_clt, k_cgt, k_cle, k_cge, k_ceq, bI_0, k_sh8, ne_eq, Nat.add_eq_zero_iff, Nat.one_ne_zero, Nat.succ_ne_zero, and_false, false_and, not_false_eq_true, not_true_eq_false, ite_true, ite_false, if_true, if_false, m_isWord, m_in, m_isName_loop d h w n (sh8 x) _ hs, nmOK_s]
    by_cases h0 : x = 0
    · simp only [h0, if_true]
      cases b <;> cases isW w <;> simp [bI]
    · simp only [h0, if_false]
      cases b
      · cases isW w <;> simp [bI]
      · simp
theorem m_isName (d : Nat) (h : xH) (w : Int64) : xm (d + 2) 128 [.long w] h = some (some (.int (bI (isN w))), h) := by
  rw [E_128]
  simp only [q_128_0, q_128_1, q_128_2, q_128_3, q_128_6, q_128_7, q_128_8, q_128_9, q_128_10, q_128_11, q_128_13, q_128_14, q_128_15, q_128_18, q_128_19, q_128_22, q_128_23, q_128_26, q_128_27, q_128_30, q_128_33, q_128_36, q_128_37, q_128_38, q_128_40, q_128_41, q_128_42, q_128_45, q_128_46, q_128_49, q_128_50, q_128_53, q_128_56, q_128_57, q_128_60, q_128_61, o_is, o_ob, k_cr, k_ci, k_oR, k_oN, k_aR, k_aN, and_true, true_and, and_self, eq_self, Nat.reduceLT, Nat.reduceLeDiff, Nat.reduceEqDiff, Nat.reduceAdd, Nat.reduceMul, Nat.add_sub_cancel, Nat.not_lt_zero, Nat.zero_le, k_sub, k_sb1, k_r, k_n, k_ret, k_t1, k_t0, k_nr, k_nn, k_z0, k_z1, k_zb, x_okI, lit_nI, k_in, k_cl, k_lt, k_le, k_eq, k_neg, nI_add, nI_mul, k_clt, k_cgt, k_cle, k_cge, k_ceq, bI_0, k_sh8, ne_eq, Nat.add_eq_zero_iff, Nat.one_ne_zero, Nat.succ_ne_zero, and_false, false_and, not_false_eq_true, not_true_eq_false, ite_true, ite_false, if_true, if_false]
  have h8 : w.toUInt64.toNat < 256 ^ 8 := by have := w.toUInt64.toNat_lt; omega
  have hl := m_isName_loop d h w 8 w true h8
  simp only [bI_t] at hl
  rw [hl]
  unfold isN
  by_cases h0 : w = 0
  · simp [h0, bI]
  · simp [h0]
theorem m_findClass_loop (d : Nat) (h : xH) (M : Nat) (S : gS) (b n : Nat) (w : Int64) (hb : b < 8) (hn : sA S 0 b = nI n) (h6 : n ≤ 6) : ∀ (k c : Nat), c + k = n → xrun d 130 3 [(1, .ref M), (1, .int (nI b)), (2, .long w), (0, .null), (1, .int (nI c))] [] (oh 11 h M S) = some (some (.int (oI (fndF (fun c => sL S 1 (6 * b + c)) w k c))), oh 11 h M S)
  | 0, c, hc => by
    rw [q_130_3]
    simp (disch := omega) only [q_130_0, q_130_1, q_130_5, q_130_6, q_130_9, q_130_10, q_130_11, q_130_14, q_130_15, q_130_18, q_130_20, q_130_21, q_130_22, q_130_24, q_130_25, q_130_26, q_130_27, q_130_28, q_130_31, q_130_33, q_130_34, q_130_37, q_130_40, q_130_41, og_11_0, or_11_0, ow_11_0, og_11_1, or_11_1, ow_11_1, o_is, o_ob, ofs_len11, k_cr, k_ci, k_oR, k_oN, k_aR, k_aN, and_true, true_and, and_self, eq_self, Nat.reduceLT, Nat.reduceLeDiff, Nat.reduceEqDiff, Nat.reduceAdd, Nat.reduceMul, Nat.add_sub_cancel, Nat.not_lt_zero, Nat.zero_le, k_sub, k_sb1, k_r, k_n, k_ret, k_t1, k_t0, k_nr, k_nn, k_z0, k_z1, k_zb, x_okI, lit_nI, k_in, k_cl, k_lt, k_le, k_eq, k_neg, nI_add, nI_mul, k_clt, k_cgt, k_cle, k_cge, k_ceq, bI_0, k_sh8, ne_eq, Nat.add_eq_zero_iff, Nat.one_ne_zero, Nat.succ_ne_zero, and_false, false_and, not_false_eq_true, not_true_eq_false, ite_true, ite_false, if_true, if_false, hn]
    rw [if_pos (by omega)]
    rfl
  | k + 1, c, hc => by
    rw [q_130_3]
    simp (disch := omega) only [q_130_0, q_130_1, q_130_5, q_130_6, q_130_9, q_130_10, q_130_11, q_130_14, q_130_15, q_130_18, q_130_20, q_130_21, q_130_22, q_130_24, q_130_25, q_130_26, q_130_27, q_130_28, q_130_31, q_130_33, q_130_34, q_130_37, q_130_40, q_130_41, og_11_0, or_11_0, ow_11_0, og_11_1, or_11_1, ow_11_1, o_is, o_ob, ofs_len11, k_cr, k_ci, k_oR, k_oN, k_aR, k_aN, and_true, true_and, and_self, eq_self, Nat.reduceLT, Nat.reduceLeDiff, Nat.reduceEqDiff, Nat.reduceAdd, Nat.reduceMul, Nat.add_sub_cancel, Nat.not_lt_zero, Nat.zero_le, k_sub, k_sb1, k_r, k_n, k_ret, k_t1, k_t0, k_nr, k_nn, k_z0, k_z1, k_zb, x_okI, lit_nI, k_in, k_cl, k_lt, k_le, k_eq, k_neg, nI_add, nI_mul, k_clt, k_cgt, k_cle, k_cge, k_ceq, bI_0, k_sh8, ne_eq, Nat.add_eq_zero_iff, Nat.one_ne_zero, Nat.succ_ne_zero, and_false, false_and, not_false_eq_true, not_true_eq_false, ite_true, ite_false, if_true, if_false, hn]
    rw [if_neg (by omega), m_findClass_loop d h M S b n w hb hn h6 k (c + 1) (by omega), fndF_s]
    by_cases h1 : sL S 1 (6 * b + c) = w
    · simp only [h1, if_true]
      rfl
    · simp only [h1, if_false]
theorem m_findClass (d : Nat) (h : xH) (M : Nat) (S : gS) (b n : Nat) (w : Int64) (hb : b < 8) (hn : sA S 0 b = nI n) (h6 : n ≤ 6) : xm (d + 1) 130 [.ref M, .int (nI b), .long w] (oh 11 h M S) = some (some (.int (oI (fnd (fun c => sL S 1 (6 * b + c)) w n))), oh 11 h M S) := by
  rw [E_130 _ _ _ _ _ rfl]
  simp only [q_130_0, q_130_1, q_130_5, q_130_6, q_130_9, q_130_10, q_130_11, q_130_14, q_130_15, q_130_18, q_130_20, q_130_21, q_130_22, q_130_24, q_130_25, q_130_26, q_130_27, q_130_28, q_130_31, q_130_33, q_130_34, q_130_37, q_130_40, q_130_41, og_11_0, or_11_0, ow_11_0, og_11_1, or_11_1, ow_11_1, o_is, o_ob, ofs_len11, k_cr, k_ci, k_oR, k_oN, k_aR, k_aN, and_true, true_and, and_self, eq_self, Nat.reduceLT, Nat.reduceLeDiff, Nat.reduceEqDiff, Nat.reduceAdd, Nat.reduceMul, Nat.add_sub_cancel, Nat.not_lt_zero, Nat.zero_le, k_sub, k_sb1, k_r, k_n, k_ret, k_t1, k_t0, k_nr, k_nn, k_z0, k_z1, k_zb, x_okI, lit_nI, k_in, k_cl, k_lt, k_le, k_eq, k_neg, nI_add, nI_mul, k_clt, k_cgt, k_cle, k_cge, k_ceq, bI_0, k_sh8, ne_eq, Nat.add_eq_zero_iff, Nat.one_ne_zero, Nat.succ_ne_zero, and_false, false_and, not_false_eq_true, not_true_eq_false, ite_true, ite_false, if_true, if_false]
  exact m_findClass_loop d h M S b n w hb hn h6 n 0 (by omega)
theorem m_findMember_loop (d : Nat) (h : xH) (M : Nat) (S : gS) (b c n : Nat) (w : Int64) (hb : b < 8) (hc : c < 6) (hn : sA S 2 (6 * b + c) = nI n) (h8 : n ≤ 8) : ∀ (k i : Nat), i + k = n → xrun d 133 3 [(1, .ref M), (1, .int (nI b)), (1, .int (nI c)), (2, .long w), (0, .null), (1, .int (nI i))] [] (oh 11 h M S) = some (some (.int (oI (fndF (fun i => sL S 3 (8 * (6 * b + c) + i)) w k i))), oh 11 h M S)
  | 0, i, hi => by
    rw [q_133_3]
    simp (disch := omega) only [q_133_0, q_133_1, q_133_5, q_133_6, q_133_9, q_133_11, q_133_12, q_133_13, q_133_14, q_133_15, q_133_16, q_133_19, q_133_20, q_133_23, q_133_25, q_133_27, q_133_28, q_133_29, q_133_30, q_133_31, q_133_32, q_133_34, q_133_35, q_133_36, q_133_37, q_133_38, q_133_41, q_133_43, q_133_44, q_133_47, q_133_50, q_133_51, og_11_2, or_11_2, ow_11_2, og_11_3, or_11_3, ow_11_3, o_is, o_ob, ofs_len11, k_cr, k_ci, k_oR, k_oN, k_aR, k_aN, and_true, true_and, and_self, eq_self, Nat.reduceLT, Nat.reduceLeDiff, Nat.reduceEqDiff, Nat.reduceAdd, Nat.reduceMul, Nat.add_sub_cancel, Nat.not_lt_zero, Nat.zero_le, k_sub, k_sb1, k_r, k_n, k_ret, k_t1, k_t0, k_nr, k_nn, k_z0, k_z1, k_zb, x_okI, lit_nI, k_in, k_cl, k_lt, k_le, k_eq, k_neg, nI_add, nI_mul, k_clt, k_cgt, k_cle, k_cge, k_ceq, bI_0, k_sh8, ne_eq, Nat.add_eq_zero_iff, Nat.one_ne_zero, Nat.succ_ne_zero, and_false, false_and, not_false_eq_true, not_true_eq_false, ite_true, ite_false, if_true, if_false, hn]
    rw [if_pos (by omega)]
    rfl
  | k + 1, i, hi => by
    rw [q_133_3]
    simp (disch := omega) only [q_133_0, q_133_1, q_133_5, q_133_6, q_133_9, q_133_11, q_133_12, q_133_13, q_133_14, q_133_15, q_133_16, q_133_19, q_133_20, q_133_23, q_133_25, q_133_27, q_133_28, q_133_29, q_133_30, q_133_31, q_133_32, q_133_34, q_133_35, q_133_36, q_133_37, q_133_38, q_133_41, q_133_43, q_133_44, q_133_47, q_133_50, q_133_51, og_11_2, or_11_2, ow_11_2, og_11_3, or_11_3, ow_11_3, o_is, o_ob, ofs_len11, k_cr, k_ci, k_oR, k_oN, k_aR, k_aN, and_true, true_and, and_self, eq_self, Nat.reduceLT, Nat.reduceLeDiff, Nat.reduceEqDiff, Nat.reduceAdd, Nat.reduceMul, Nat.add_sub_cancel, Nat.not_lt_zero, Nat.zero_le, k_sub, k_sb1, k_r, k_n, k_ret, k_t1, k_t0, k_nr, k_nn, k_z0, k_z1, k_zb, x_okI, lit_nI, k_in, k_cl, k_lt, k_le, k_eq, k_neg, nI_add, nI_mul, k_clt, k_cgt, k_cle, k_cge, k_ceq, bI_0, k_sh8, ne_eq, Nat.add_eq_zero_iff, Nat.one_ne_zero, Nat.succ_ne_zero, and_false, false_and, not_false_eq_true, not_true_eq_false, ite_true, ite_false, if_true, if_false, hn]
    rw [if_neg (by omega), m_findMember_loop d h M S b c n w hb hc hn h8 k (i + 1) (by omega), fndF_s]
    by_cases h1 : sL S 3 (8 * (6 * b + c) + i) = w
    · simp only [h1, if_true]
      rfl
    · simp only [h1, if_false]
theorem m_findMember (d : Nat) (h : xH) (M : Nat) (S : gS) (b c n : Nat) (w : Int64) (hb : b < 8) (hc : c < 6) (hn : sA S 2 (6 * b + c) = nI n) (h8 : n ≤ 8) : xm (d + 1) 133 [.ref M, .int (nI b), .int (nI c), .long w] (oh 11 h M S) = some (some (.int (oI (fnd (fun i => sL S 3 (8 * (6 * b + c) + i)) w n))), oh 11 h M S) := by
  rw [E_133 _ _ _ _ _ _ rfl]
  simp only [q_133_0, q_133_1, q_133_5, q_133_6, q_133_9, q_133_11, q_133_12, q_133_13, q_133_14, q_133_15, q_133_16, q_133_19, q_133_20, q_133_23, q_133_25, q_133_27, q_133_28, q_133_29, q_133_30, q_133_31, q_133_32, q_133_34, q_133_35, q_133_36, q_133_37, q_133_38, q_133_41, q_133_43, q_133_44, q_133_47, q_133_50, q_133_51, og_11_2, or_11_2, ow_11_2, og_11_3, or_11_3, ow_11_3, o_is, o_ob, ofs_len11, k_cr, k_ci, k_oR, k_oN, k_aR, k_aN, and_true, true_and, and_self, eq_self, Nat.reduceLT, Nat.reduceLeDiff, Nat.reduceEqDiff, Nat.reduceAdd, Nat.reduceMul, Nat.add_sub_cancel, Nat.not_lt_zero, Nat.zero_le, k_sub, k_sb1, k_r, k_n, k_ret, k_t1, k_t0, k_nr, k_nn, k_z0, k_z1, k_zb, x_okI, lit_nI, k_in, k_cl, k_lt, k_le, k_eq, k_neg, nI_add, nI_mul, k_clt, k_cgt, k_cle, k_cge, k_ceq, bI_0, k_sh8, ne_eq, Nat.add_eq_zero_iff, Nat.one_ne_zero, Nat.succ_ne_zero, and_false, false_and, not_false_eq_true, not_true_eq_false, ite_true, ite_false, if_true, if_false]
  exact m_findMember_loop d h M S b c n w hb hc hn h8 n 0 (by omega)
theorem m_find_loop (d : Nat) (h : xH) (M : Nat) (S : gS) (n : Nat) (w : Int64) (hn : sA S 7 0 = nI n) (h60 : n ≤ 60) : ∀ (k i : Nat), i + k = n → xrun d 136 2 [(1, .ref M), (2, .long w), (0, .null), (1, .int (nI i))] [] (oh 11 h M S) = some (some (.int (oI (fndF (sL S 8) w k i))), oh 11 h M S)
  | 0, i, hi => by
    rw [q_136_2]
    simp (disch := omega) only [q_136_0, q_136_1, q_136_3, q_136_4, q_136_7, q_136_8, q_136_9, q_136_12, q_136_13, q_136_16, q_136_17, q_136_18, q_136_19, q_136_20, q_136_23, q_136_24, q_136_25, q_136_28, q_136_31, q_136_32, og_11_7, or_11_7, ow_11_7, og_11_8, or_11_8, ow_11_8, o_is, o_ob, ofs_len11, k_cr, k_ci, k_oR, k_oN, k_aR, k_aN, and_true, true_and, and_self, eq_self, Nat.reduceLT, Nat.reduceLeDiff, Nat.reduceEqDiff, Nat.reduceAdd, Nat.reduceMul, Nat.add_sub_cancel, Nat.not_lt_zero, Nat.zero_le, k_sub, k_sb1, k_r, k_n, k_ret, k_t1, k_t0, k_nr, k_nn, k_z0, k_z1, k_zb, x_okI, lit_nI, k_in, k_cl, k_lt, k_le, k_eq, k_neg, nI_add, nI_mul, k_clt, k_cgt, k_cle, k_cge, k_ceq, bI_0, k_sh8, ne_eq, Nat.add_eq_zero_iff, Nat.one_ne_zero, Nat.succ_ne_zero, and_false, false_and, not_false_eq_true, not_true_eq_false, ite_true, ite_false, if_true, if_false, hn]
    rw [if_pos (by omega)]
    rfl
  | k + 1, i, hi => by
    rw [q_136_2]
    simp (disch := omega) only [q_136_0, q_136_1, q_136_3, q_136_4, q_136_7, q_136_8, q_136_9, q_136_12, q_136_13, q_136_16, q_136_17, q_136_18, q_136_19, q_136_20, q_136_23, q_136_24, q_136_25, q_136_28, q_136_31, q_136_32, og_11_7, or_11_7, ow_11_7, og_11_8, or_11_8, ow_11_8, o_is, o_ob, ofs_len11, k_cr, k_ci, k_oR, k_oN, k_aR, k_aN, and_true, true_and, and_self, eq_self, Nat.reduceLT, Nat.reduceLeDiff, Nat.reduceEqDiff, Nat.reduceAdd, Nat.reduceMul, Nat.add_sub_cancel, Nat.not_lt_zero, Nat.zero_le, k_sub, k_sb1, k_r, k_n, k_ret, k_t1, k_t0, k_nr, k_nn, k_z0, k_z1, k_zb, x_okI, lit_nI, k_in, k_cl, k_lt, k_le, k_eq, k_neg, nI_add, nI_mul, k_clt, k_cgt, k_cle, k_cge, k_ceq, bI_0, k_sh8, ne_eq, Nat.add_eq_zero_iff, Nat.one_ne_zero, Nat.succ_ne_zero, and_false, false_and, not_false_eq_true, not_true_eq_false, ite_true, ite_false, if_true, if_false, hn]
    rw [if_neg (by omega), m_find_loop d h M S n w hn h60 k (i + 1) (by omega), fndF_s]
    by_cases h1 : sL S 8 i = w
    · simp only [h1, if_true]
      rfl
    · simp only [h1, if_false]
theorem m_find (d : Nat) (h : xH) (M : Nat) (S : gS) (n : Nat) (w : Int64) (hn : sA S 7 0 = nI n) (h60 : n ≤ 60) : xm (d + 1) 136 [.ref M, .long w] (oh 11 h M S) = some (some (.int (oI (fnd (sL S 8) w n))), oh 11 h M S) := by
  rw [E_136 _ _ _ _ rfl]
  simp only [q_136_0, q_136_1, q_136_3, q_136_4, q_136_7, q_136_8, q_136_9, q_136_12, q_136_13, q_136_16, q_136_17, q_136_18, q_136_19, q_136_20, q_136_23, q_136_24, q_136_25, q_136_28, q_136_31, q_136_32, og_11_7, or_11_7, ow_11_7, og_11_8, or_11_8, ow_11_8, o_is, o_ob, ofs_len11, k_cr, k_ci, k_oR, k_oN, k_aR, k_aN, and_true, true_and, and_self, eq_self, Nat.reduceLT, Nat.reduceLeDiff, Nat.reduceEqDiff, Nat.reduceAdd, Nat.reduceMul, Nat.add_sub_cancel, Nat.not_lt_zero, Nat.zero_le, k_sub, k_sb1, k_r, k_n, k_ret, k_t1, k_t0, k_nr, k_nn, k_z0, k_z1, k_zb, x_okI, lit_nI, k_in, k_cl, k_lt, k_le, k_eq, k_neg, nI_add, nI_mul, k_clt, k_cgt, k_cle, k_cge, k_ceq, bI_0, k_sh8, ne_eq, Nat.add_eq_zero_iff, Nat.one_ne_zero, Nat.succ_ne_zero, and_false, false_and, not_false_eq_true, not_true_eq_false, ite_true, ite_false, if_true, if_false]
  exact m_find_loop d h M S n w hn h60 n 0 (by omega)
theorem m_rowOf (d : Nat) (h : xH) (M : Nat) (S : gS) (b c i : Nat) (hb : b < 8) (hc : c < 6) (hi : i < 8) (r : Bool) (hr : sA S 5 (8 * (6 * b + c) + i) = bI r) : xm (d + 1) 141 [.ref M, .int (nI b), .int (nI c), .int (nI i)] (oh 11 h M S) = some (some (.int (bI r)), oh 11 h M S) := by
  rw [E_141 _ _ _ _ _ _ rfl]
  simp (disch := omega) only [q_141_0, q_141_1, q_141_4, q_141_6, q_141_8, q_141_9, q_141_10, q_141_11, q_141_12, q_141_13, q_141_14, q_141_15, q_141_16, og_11_5, or_11_5, ow_11_5, o_is, o_ob, ofs_len11, k_cr, k_ci, k_oR, k_oN, k_aR, k_aN, and_true, true_and, and_self, eq_self, Nat.reduceLT, Nat.reduceLeDiff, Nat.reduceEqDiff, Nat.reduceAdd, Nat.reduceMul, Nat.add_sub_cancel, Nat.not_lt_zero, Nat.zero_le, k_sub, k_sb1, k_r, k_n, k_ret, k_t1, k_t0, k_nr, k_nn, k_z0, k_z1, k_zb, x_okI, lit_nI, k_in, k_cl, k_lt, k_le, k_eq, k_neg, nI_add, nI_mul, k_clt, k_cgt, k_cle, k_cge, k_ceq, bI_0, k_sh8, ne_eq, Nat.add_eq_zero_iff, Nat.one_ne_zero, Nat.succ_ne_zero, and_false, false_and, not_false_eq_true, not_true_eq_false, ite_true, ite_false, if_true, if_false, hr]
theorem m_typeOf (d : Nat) (h : xH) (M : Nat) (S : gS) (b c i : Nat) (hb : b < 8) (hc : c < 6) (hi : i < 8) : xm (d + 1) 142 [.ref M, .int (nI b), .int (nI c), .int (nI i)] (oh 11 h M S) = some (some (.int (sA S 4 (8 * (6 * b + c) + i))), oh 11 h M S) := by
  rw [E_142 _ _ _ _ _ _ rfl]
  simp (disch := omega) only [q_142_0, q_142_1, q_142_4, q_142_6, q_142_8, q_142_9, q_142_10, q_142_11, q_142_12, q_142_13, q_142_14, q_142_15, q_142_16, og_11_4, or_11_4, ow_11_4, o_is, o_ob, ofs_len11, k_cr, k_ci, k_oR, k_oN, k_aR, k_aN, and_true, true_and, and_self, eq_self, Nat.reduceLT, Nat.reduceLeDiff, Nat.reduceEqDiff, Nat.reduceAdd, Nat.reduceMul, Nat.add_sub_cancel, Nat.not_lt_zero, Nat.zero_le, k_sub, k_sb1, k_r, k_n, k_ret, k_t1, k_t0, k_nr, k_nn, k_z0, k_z1, k_zb, x_okI, lit_nI, k_in, k_cl, k_lt, k_le, k_eq, k_neg, nI_add, nI_mul, k_clt, k_cgt, k_cle, k_cge, k_ceq, bI_0, k_sh8, ne_eq, Nat.add_eq_zero_iff, Nat.one_ne_zero, Nat.succ_ne_zero, and_false, false_and, not_false_eq_true, not_true_eq_false, ite_true, ite_false, if_true, if_false]
