/-! The reference's numbers. -/
theorem m_top_loop (d : Nat) (h : xH) (x : Int64) : ∀ (k i : Nat), i + k = tp x → xrun d 184 2 [(2, .long x), (0, .null), (1, .int (nI i))] [] h = some (some (.int (nI (tp x))), h)
  | 0, i, hi => by
    have ht := tp_lt x
    have hi2 : i = tp x := by omega
    rw [q_184_2]
    by_cases c : 63 ≤ i
    · simp (disch := omega) only [q_184_0, q_184_1, q_184_3, q_184_5, q_184_8, q_184_9, q_184_10, q_184_11, q_184_12, q_184_13, q_184_14, q_184_15, q_184_18, q_184_21, q_184_24, q_184_25, o_is, o_ob, ↓reduceIte, k_cr, k_ci, k_oR, k_oN, k_aR, k_aN, and_true, true_and, and_self, eq_self, Nat.reduceLT, Nat.reduceLeDiff, Nat.reduceEqDiff, Nat.reduceAdd, Nat.reduceMul, Bool.true_eq_false, Bool.false_eq_true, Nat.add_sub_cancel, Nat.not_lt_zero, Nat.zero_le, k_sub, k_sb1, k_r, k_n, k_ret, k_t1, k_t0, k_nr, k_nn, k_z0, k_z1, k_zb, x_okI, lit_nI, k_in, k_cl, k_lt, k_le, k_eq, k_neg, nI_add, nI_mul, k_clt, k_cgt, k_cle, k_cge, k_ceq, bI_0, k_sh8, ne_eq, Nat.add_eq_zero_iff, Nat.one_ne_zero, Nat.succ_ne_zero, and_false, false_and, not_false_eq_true, not_true_eq_false, ite_true, ite_false, if_true, if_false, c, hi2]
      rw [hi2] at c
      simp (disch := omega) only [q_184_0, q_184_1, q_184_3, q_184_5, q_184_8, q_184_9, q_184_10, q_184_11, q_184_12, q_184_13, q_184_14, q_184_15, q_184_18, q_184_21, q_184_24, q_184_25, o_is, o_ob, ↓reduceIte, k_cr, k_ci, k_oR, k_oN, k_aR, k_aN, and_true, true_and, and_self, eq_self, Nat.reduceLT, Nat.reduceLeDiff, Nat.reduceEqDiff, Nat.reduceAdd, Nat.reduceMul, Bool.true_eq_false, Bool.false_eq_true, Nat.add_sub_cancel, Nat.not_lt_zero, Nat.zero_le, k_sub, k_sb1, k_r, k_n, k_ret, k_t1, k_t0, k_nr, k_nn, k_z0, k_z1, k_zb, x_okI, lit_nI, k_in, k_cl, k_lt, k_le, k_eq, k_neg, nI_add, nI_mul, k_clt, k_cgt, k_cle, k_cge, k_ceq, bI_0, k_sh8, ne_eq, Nat.add_eq_zero_iff, Nat.one_ne_zero, Nat.succ_ne_zero, and_false, false_and, not_false_eq_true, not_true_eq_false, ite_true, ite_false, if_true, if_false, c]
    · have hz : rS x (i + 1) = 0 := by
        refine un_0.mpr ?_
        rw [un_rS]
        refine Nat.div_eq_of_lt ?_
        rw [hi2]
        by_cases h0 : un x = 0
        · rw [h0]
          exact Nat.two_pow_pos _
        · exact ((lg_iff h0).mp rfl).2
      simp (disch := omega) only [q_184_0, q_184_1, q_184_3, q_184_5, q_184_8, q_184_9, q_184_10, q_184_11, q_184_12, q_184_13, q_184_14, q_184_15, q_184_18, q_184_21, q_184_24, q_184_25, o_is, o_ob, ↓reduceIte, k_cr, k_ci, k_oR, k_oN, k_aR, k_aN, and_true, true_and, and_self, eq_self, Nat.reduceLT, Nat.reduceLeDiff, Nat.reduceEqDiff, Nat.reduceAdd, Nat.reduceMul, Bool.true_eq_false, Bool.false_eq_true, Nat.add_sub_cancel, Nat.not_lt_zero, Nat.zero_le, k_sub, k_sb1, k_r, k_n, k_ret, k_t1, k_t0, k_nr, k_nn, k_z0, k_z1, k_zb, x_okI, lit_nI, k_in, k_cl, k_lt, k_le, k_eq, k_neg, nI_add, nI_mul, k_clt, k_cgt, k_cle, k_cge, k_ceq, bI_0, k_sh8, ne_eq, Nat.add_eq_zero_iff, Nat.one_ne_zero, Nat.succ_ne_zero, and_false, false_and, not_false_eq_true, not_true_eq_false, ite_true, ite_false, if_true, if_false, c, k_rS, hz]
      rw [hi2]
  | k + 1, i, hi => by
    have ht := tp_lt x
    have c : ¬ 63 ≤ i := by omega
    have h0 : un x ≠ 0 := by
      intro z
      unfold tp at hi
      rw [z] at hi
      have : Nat.log2 0 = 0 := by decide
      omega
    have hz : ¬ rS x (i + 1) = 0 := by
      intro z
      have z1 := un_0.mp z
      rw [un_rS] at z1
      have h2 := ((lg_iff h0).mp rfl).1
      have h3 : 2 ^ (i + 1) ≤ un x := Nat.le_trans (Nat.pow_le_pow_right (by decide) (show i + 1 ≤ Nat.log2 (un x) by unfold tp at hi; omega)) h2
      have := Nat.div_pos h3 (Nat.two_pow_pos _)
      omega
    rw [q_184_2]
    simp (disch := omega) only [q_184_0, q_184_1, q_184_3, q_184_5, q_184_8, q_184_9, q_184_10, q_184_11, q_184_12, q_184_13, q_184_14, q_184_15, q_184_18, q_184_21, q_184_24, q_184_25, o_is, o_ob, ↓reduceIte, k_cr, k_ci, k_oR, k_oN, k_aR, k_aN, and_true, true_and, and_self, eq_self, Nat.reduceLT, Nat.reduceLeDiff, Nat.reduceEqDiff, Nat.reduceAdd, Nat.reduceMul, Bool.true_eq_false, Bool.false_eq_true, Nat.add_sub_cancel, Nat.not_lt_zero, Nat.zero_le, k_sub, k_sb1, k_r, k_n, k_ret, k_t1, k_t0, k_nr, k_nn, k_z0, k_z1, k_zb, x_okI, lit_nI, k_in, k_cl, k_lt, k_le, k_eq, k_neg, nI_add, nI_mul, k_clt, k_cgt, k_cle, k_cge, k_ceq, bI_0, k_sh8, ne_eq, Nat.add_eq_zero_iff, Nat.one_ne_zero, Nat.succ_ne_zero, and_false, false_and, not_false_eq_true, not_true_eq_false, ite_true, ite_false, if_true, if_false, c, k_rS, hz]
    exact m_top_loop d h x k (i + 1) (by omega)
theorem m_top (d : Nat) (h : xH) (x : Int64) : xm (d + 1) 184 [.long x] h = some (some (.int (nI (tp x))), h) := by
  have e := m_top_loop d h x (tp x) 0 (by omega)
  rw [E_184]
  simp (disch := omega) only [q_184_0, q_184_1, q_184_3, q_184_5, q_184_8, q_184_9, q_184_10, q_184_11, q_184_12, q_184_13, q_184_14, q_184_15, q_184_18, q_184_21, q_184_24, q_184_25, o_is, o_ob, ↓reduceIte, k_cr, k_ci, k_oR, k_oN, k_aR, k_aN, and_true, true_and, and_self, eq_self, Nat.reduceLT, Nat.reduceLeDiff, Nat.reduceEqDiff, Nat.reduceAdd, Nat.reduceMul, Bool.true_eq_false, Bool.false_eq_true, Nat.add_sub_cancel, Nat.not_lt_zero, Nat.zero_le, k_sub, k_sb1, k_r, k_n, k_ret, k_t1, k_t0, k_nr, k_nn, k_z0, k_z1, k_zb, x_okI, lit_nI, k_in, k_cl, k_lt, k_le, k_eq, k_neg, nI_add, nI_mul, k_clt, k_cgt, k_cle, k_cge, k_ceq, bI_0, k_sh8, ne_eq, Nat.add_eq_zero_iff, Nat.one_ne_zero, Nat.succ_ne_zero, and_false, false_and, not_false_eq_true, not_true_eq_false, ite_true, ite_false, if_true, if_false, e]
/-- isExact behind it -/
def exS (S : gS) (b : Bool) : gS := if b = true then S else uI S 27 (nI 0)
theorem m_doubleOf (d : Nat) (h : xH) (M : Nat) (S : gS) (x : Int64) : xm (d + 2) 183 [.ref M, .long x] (oh 11 h M S) = some (some (.long (if dbH x = true then dbO x else 0)), oh 11 h M (exS S (dbH x))) := by
  rw [E_183 _ _ _ _ rfl]
  by_cases h0 : x = 0
  · have hb : dbH x = true := by
      unfold dbH
      rw [decide_eq_true h0]
      rfl
    unfold exS dbO
    rw [hb, if_pos rfl, if_pos rfl, if_pos h0]
    simp (disch := omega) only [q_183_0, q_183_1, q_183_2, q_183_3, q_183_6, q_183_7, q_183_8, q_183_9, q_183_10, q_183_11, q_183_14, q_183_17, q_183_20, q_183_21, q_183_22, q_183_23, q_183_24, q_183_25, q_183_28, q_183_29, q_183_30, q_183_33, q_183_34, q_183_36, q_183_38, q_183_41, q_183_43, q_183_45, q_183_47, q_183_50, q_183_52, q_183_53, q_183_55, q_183_57, q_183_58, q_183_59, q_183_60, q_183_61, q_183_62, q_183_63, q_183_64, q_183_67, q_183_68, q_183_69, q_183_72, q_183_73, q_183_74, q_183_76, q_183_78, q_183_81, q_183_83, q_183_85, q_183_87, q_183_88, q_183_89, q_183_92, q_183_94, q_183_96, q_183_98, q_183_99, q_183_100, q_183_102, q_183_103, q_183_105, q_183_108, q_183_109, q_183_110, q_183_112, q_183_113, q_183_114, q_183_116, q_183_119, q_183_120, q_183_121, og_11_27, op_11_27, o_is, o_ob, ofs_len11, ↓reduceIte, k_cr, k_ci, k_oR, k_oN, k_aR, k_aN, and_true, true_and, and_self, eq_self, Nat.reduceLT, Nat.reduceLeDiff, Nat.reduceEqDiff, Nat.reduceAdd, Nat.reduceMul, Bool.true_eq_false, Bool.false_eq_true, Nat.add_sub_cancel, Nat.not_lt_zero, Nat.zero_le, k_sub, k_sb1, k_r, k_n, k_ret, k_t1, k_t0, k_nr, k_nn, k_z0, k_z1, k_zb, x_okI, lit_nI, k_in, k_cl, k_lt, k_le, k_eq, k_neg, nI_add, nI_mul, k_clt, k_cgt, k_cle, k_cge, k_ceq, bI_0, k_sh8, ne_eq, Nat.add_eq_zero_iff, Nat.one_ne_zero, Nat.succ_ne_zero, and_false, false_and, not_false_eq_true, not_true_eq_false, ite_true, ite_false, if_true, if_false, h0]
  · have hb : dbH x = (decide (tp (ab x) ≤ 52) || decide (un (ab x) % 2 ^ (tp (ab x) - 52) = 0)) := by
      unfold dbH
      rw [decide_eq_false h0, Bool.false_or]
    have ht := tp_lt (ab x)
    have e1 := m_top d (oh 11 h M S) (ab x)
    have go : xrun (d + 1) 183 0 [(1, .ref M), (2, .long x), (0, .null), (0, .null), (0, .null), (0, .null), (0, .null), (0, .null), (0, .null), (0, .null)] [] (oh 11 h M S) = xrun (d + 1) 183 43 [(1, .ref M), (2, .long x), (0, .null), (2, .long (x &&& (-9223372036854775808))), (0, .null), (2, .long (ab x)), (0, .null), (1, .int (nI (tp (ab x)))), (0, .null), (0, .null)] [] (oh 11 h M S) := by
      rw [sg_and]
      by_cases hs : x < 0
      · have ea : ab x = -x := by
          unfold ab
          rw [if_pos hs]
        have hs2 : ¬ (0 : Int64) ≤ x := Int64.not_le.mpr hs
        rw [ea] at e1 ⊢
        rw [if_pos hs]
        simp (disch := omega) only [q_183_0, q_183_1, q_183_2, q_183_3, q_183_6, q_183_7, q_183_8, q_183_9, q_183_10, q_183_11, q_183_14, q_183_17, q_183_20, q_183_21, q_183_22, q_183_23, q_183_24, q_183_25, q_183_28, q_183_29, q_183_30, q_183_33, q_183_34, q_183_36, q_183_38, q_183_41, og_11_27, op_11_27, o_is, o_ob, ofs_len11, ↓reduceIte, k_cr, k_ci, k_oR, k_oN, k_aR, k_aN, and_true, true_and, and_self, eq_self, Nat.reduceLT, Nat.reduceLeDiff, Nat.reduceEqDiff, Nat.reduceAdd, Nat.reduceMul, Bool.true_eq_false, Bool.false_eq_true, Nat.add_sub_cancel, Nat.not_lt_zero, Nat.zero_le, k_sub, k_sb1, k_r, k_n, k_ret, k_t1, k_t0, k_nr, k_nn, k_z0, k_z1, k_zb, x_okI, lit_nI, k_in, k_cl, k_lt, k_le, k_eq, k_neg, nI_add, nI_mul, k_clt, k_cgt, k_cle, k_cge, k_ceq, bI_0, k_sh8, ne_eq, Nat.add_eq_zero_iff, Nat.one_ne_zero, Nat.succ_ne_zero, and_false, false_and, not_false_eq_true, not_true_eq_false, ite_true, ite_false, if_true, if_false, h0, hs2, e1]
      · have ea : ab x = x := by
          unfold ab
          rw [if_neg hs]
        have hs2 : (0 : Int64) ≤ x := Int64.not_lt.mp hs
        rw [ea] at e1 ⊢
        rw [if_neg hs]
        simp (disch := omega) only [q_183_0, q_183_1, q_183_2, q_183_3, q_183_6, q_183_7, q_183_8, q_183_9, q_183_10, q_183_11, q_183_14, q_183_17, q_183_20, q_183_21, q_183_22, q_183_23, q_183_24, q_183_25, q_183_28, q_183_29, q_183_30, q_183_33, q_183_34, q_183_36, q_183_38, q_183_41, og_11_27, op_11_27, o_is, o_ob, ofs_len11, ↓reduceIte, k_cr, k_ci, k_oR, k_oN, k_aR, k_aN, and_true, true_and, and_self, eq_self, Nat.reduceLT, Nat.reduceLeDiff, Nat.reduceEqDiff, Nat.reduceAdd, Nat.reduceMul, Bool.true_eq_false, Bool.false_eq_true, Nat.add_sub_cancel, Nat.not_lt_zero, Nat.zero_le, k_sub, k_sb1, k_r, k_n, k_ret, k_t1, k_t0, k_nr, k_nn, k_z0, k_z1, k_zb, x_okI, lit_nI, k_in, k_cl, k_lt, k_le, k_eq, k_neg, nI_add, nI_mul, k_clt, k_cgt, k_cle, k_cge, k_ceq, bI_0, k_sh8, ne_eq, Nat.add_eq_zero_iff, Nat.one_ne_zero, Nat.succ_ne_zero, and_false, false_and, not_false_eq_true, not_true_eq_false, ite_true, ite_false, if_true, if_false, h0, hs2, e1]
    rw [go, hb]
    have eo : dbO x = ((x &&& (-9223372036854775808)) ||| lS (nI (tp (ab x) + 1023)).toInt64 52) ||| (dbP x &&& 4503599627370495) := by
      unfold dbO
      rw [if_neg h0]
    rw [eo]
    unfold dbP exS
    generalize x &&& (-9223372036854775808) = sg
    generalize tp (ab x) = L at *
    by_cases c : L ≤ 52
    · have c1 : ¬ 52 < L := by omega
      rw [decide_eq_true c, Bool.true_or, if_pos rfl, if_pos rfl, if_neg c1]
      simp (disch := omega) only [q_183_43, q_183_45, q_183_47, q_183_50, q_183_52, q_183_53, q_183_55, q_183_57, q_183_58, q_183_59, q_183_60, q_183_61, q_183_62, q_183_63, q_183_64, q_183_67, q_183_68, q_183_69, q_183_72, q_183_73, q_183_74, q_183_76, q_183_78, q_183_81, q_183_83, q_183_85, q_183_87, q_183_88, q_183_89, q_183_92, q_183_94, q_183_96, q_183_98, q_183_99, q_183_100, q_183_102, q_183_103, q_183_105, q_183_108, q_183_109, q_183_110, q_183_112, q_183_113, q_183_114, q_183_116, q_183_119, q_183_120, q_183_121, og_11_27, op_11_27, o_is, o_ob, ofs_len11, ↓reduceIte, k_cr, k_ci, k_oR, k_oN, k_aR, k_aN, and_true, true_and, and_self, eq_self, Nat.reduceLT, Nat.reduceLeDiff, Nat.reduceEqDiff, Nat.reduceAdd, Nat.reduceMul, Bool.true_eq_false, Bool.false_eq_true, Nat.add_sub_cancel, Nat.not_lt_zero, Nat.zero_le, k_sub, k_sb1, k_r, k_n, k_ret, k_t1, k_t0, k_nr, k_nn, k_z0, k_z1, k_zb, x_okI, lit_nI, k_in, k_cl, k_lt, k_le, k_eq, k_neg, nI_add, nI_mul, k_clt, k_cgt, k_cle, k_cge, k_ceq, bI_0, k_sh8, ne_eq, Nat.add_eq_zero_iff, Nat.one_ne_zero, Nat.succ_ne_zero, and_false, false_and, not_false_eq_true, not_true_eq_false, ite_true, ite_false, if_true, if_false, c, k_lS]
    · have c1 : 52 < L := by omega
      rw [decide_eq_false c, Bool.false_or, if_pos c1]
      have hm := msk_0 (x := ab x) (k := L - 52) (by omega)
      by_cases c2 : un (ab x) % 2 ^ (L - 52) = 0
      · rw [decide_eq_true c2, if_pos rfl, if_pos rfl]
        simp (disch := omega) only [q_183_43, q_183_45, q_183_47, q_183_50, q_183_52, q_183_53, q_183_55, q_183_57, q_183_58, q_183_59, q_183_60, q_183_61, q_183_62, q_183_63, q_183_64, q_183_67, q_183_68, q_183_69, q_183_72, q_183_73, q_183_74, q_183_76, q_183_78, q_183_81, q_183_83, q_183_85, q_183_87, q_183_88, q_183_89, q_183_92, q_183_94, q_183_96, q_183_98, q_183_99, q_183_100, q_183_102, q_183_103, q_183_105, q_183_108, q_183_109, q_183_110, q_183_112, q_183_113, q_183_114, q_183_116, q_183_119, q_183_120, q_183_121, og_11_27, op_11_27, o_is, o_ob, ofs_len11, ↓reduceIte, k_cr, k_ci, k_oR, k_oN, k_aR, k_aN, and_true, true_and, and_self, eq_self, Nat.reduceLT, Nat.reduceLeDiff, Nat.reduceEqDiff, Nat.reduceAdd, Nat.reduceMul, Bool.true_eq_false, Bool.false_eq_true, Nat.add_sub_cancel, Nat.not_lt_zero, Nat.zero_le, k_sub, k_sb1, k_r, k_n, k_ret, k_t1, k_t0, k_nr, k_nn, k_z0, k_z1, k_zb, x_okI, lit_nI, k_in, k_cl, k_lt, k_le, k_eq, k_neg, nI_add, nI_mul, k_clt, k_cgt, k_cle, k_cge, k_ceq, bI_0, k_sh8, ne_eq, Nat.add_eq_zero_iff, Nat.one_ne_zero, Nat.succ_ne_zero, and_false, false_and, not_false_eq_true, not_true_eq_false, ite_true, ite_false, if_true, if_false, c, k_lS, k_rS, hm, c2]
      · rw [decide_eq_false c2, if_neg (by decide), if_neg (by decide)]
        simp (disch := omega) only [q_183_43, q_183_45, q_183_47, q_183_50, q_183_52, q_183_53, q_183_55, q_183_57, q_183_58, q_183_59, q_183_60, q_183_61, q_183_62, q_183_63, q_183_64, q_183_67, q_183_68, q_183_69, q_183_72, q_183_73, q_183_74, q_183_76, q_183_78, q_183_81, q_183_83, q_183_85, q_183_87, q_183_88, q_183_89, q_183_92, q_183_94, q_183_96, q_183_98, q_183_99, q_183_100, q_183_102, q_183_103, q_183_105, q_183_108, q_183_109, q_183_110, q_183_112, q_183_113, q_183_114, q_183_116, q_183_119, q_183_120, q_183_121, og_11_27, op_11_27, o_is, o_ob, ofs_len11, ↓reduceIte, k_cr, k_ci, k_oR, k_oN, k_aR, k_aN, and_true, true_and, and_self, eq_self, Nat.reduceLT, Nat.reduceLeDiff, Nat.reduceEqDiff, Nat.reduceAdd, Nat.reduceMul, Bool.true_eq_false, Bool.false_eq_true, Nat.add_sub_cancel, Nat.not_lt_zero, Nat.zero_le, k_sub, k_sb1, k_r, k_n, k_ret, k_t1, k_t0, k_nr, k_nn, k_z0, k_z1, k_zb, x_okI, lit_nI, k_in, k_cl, k_lt, k_le, k_eq, k_neg, nI_add, nI_mul, k_clt, k_cgt, k_cle, k_cge, k_ceq, bI_0, k_sh8, ne_eq, Nat.add_eq_zero_iff, Nat.one_ne_zero, Nat.succ_ne_zero, and_false, false_and, not_false_eq_true, not_true_eq_false, ite_true, ite_false, if_true, if_false, c, k_lS, k_rS, hm, c2]
theorem in_nI {e : Nat} {a b : Int64} {p q : Nat} (he : e < 1000000) (ha : a.toInt = p) (hb : b.toInt = q) : inL (nI e).toInt64 a b = (decide (p ≤ e) && decide (e ≤ q)) := by
  have h0 : (nI e).toInt64.toInt = (e : Int) := by
    rw [Int32.toInt_toInt64, nI_toInt (by omega)]
  have h1 := inL_iff (nI e).toInt64 a b
  rw [h0, ha, hb] at h1
  cases hc : inL (nI e).toInt64 a b with
  | true =>
    rw [hc] at h1
    have h2 : (p : Int) ≤ e ∧ (e : Int) ≤ q := by
      rw [← h1]
    rw [decide_eq_true (show p ≤ e by omega), decide_eq_true (show e ≤ q by omega)]
    rfl
  | false =>
    rw [hc] at h1
    have h2 : ¬ ((p : Int) ≤ e ∧ (e : Int) ≤ q) := by
      rw [← h1]
      decide
    by_cases c1 : p ≤ e
    · rw [decide_eq_false (show ¬ e ≤ q by omega), Bool.and_false]
    · rw [decide_eq_false c1, Bool.false_and]
theorem f_ne {a b : Int64} (ha : un a < 4294967296) (hb : un b < 4294967296) : ¬ (a ||| b = -1) := by
  intro z
  have h1 : un (a ||| b) = 18446744073709551615 := by
    rw [z]
    decide
  rw [un_or] at h1
  have := Nat.or_lt_two_pow (n := 32) (x := un a) (y := un b) ha hb
  omega
theorem f_n1 {a : Int64} (ha : un a < 4294967296) : ¬ (a = -1) := by
  intro z
  rw [z] at ha
  exact absurd ha (by decide)
theorem m_floatOfDouble (d : Nat) (h : xH) (M : Nat) (S : gS) (x : Int64) (hn : nN7 x) : xm (d + 2) 185 [.ref M, .long x] (oh 11 h M S) = some (some (.long (if flH x = true then flO x else 0)), oh 11 h M (exS S (flH x))) := by
  rw [E_185 _ _ _ _ rfl]
  have he := eF_lt x
  have hf := fF_lt x
  have i1 : xm (d + 1) 127 [.long (nI (eF x)).toInt64, .long 897, .long 1150] (oh 11 h M S) = some (some (.int (bI (decide (897 ≤ eF x) && decide (eF x ≤ 1150)))), oh 11 h M S) := by
    rw [m_inL, in_nI (p := 897) (q := 1150) (by omega) (by decide) (by decide)]
  have i2 : xm (d + 1) 127 [.long (nI (eF x)).toInt64, .long 874, .long 896] (oh 11 h M S) = some (some (.int (bI (decide (874 ≤ eF x) && decide (eF x ≤ 896)))), oh 11 h M S) := by
    rw [m_inL, in_nI (p := 874) (q := 896) (by omega) (by decide) (by decide)]
  have hs : un (rS (x &&& (-9223372036854775808)) 32) < 4294967296 := by
    rw [sg_32]
    split <;> decide
  have go : xrun (d + 1) 185 0 [(1, .ref M), (2, .long x), (0, .null), (0, .null), (0, .null), (0, .null), (0, .null), (0, .null), (0, .null), (0, .null), (0, .null), (0, .null), (0, .null)] [] (oh 11 h M S) = xrun (d + 1) 185 37 [(1, .ref M), (2, .long x), (0, .null), (2, .long (rS (x &&& (-9223372036854775808)) 32)), (0, .null), (1, .int (nI (eF x))), (2, .long (x &&& 4503599627370495)), (0, .null), (2, .long (-1)), (0, .null), (0, .null), (0, .null), (0, .null)] [] (oh 11 h M S) := by
    rw [sg_32]
    by_cases c : x < 0
    · have c2 : ¬ (0 : Int64) ≤ x := Int64.not_le.mpr c
      rw [if_pos c]
      simp (disch := omega) only [q_185_0, q_185_1, q_185_2, q_185_3, q_185_6, q_185_9, q_185_12, q_185_13, q_185_14, q_185_15, q_185_17, q_185_18, q_185_19, q_185_22, q_185_23, q_185_25, q_185_26, q_185_29, q_185_30, q_185_32, q_185_35, og_11_27, op_11_27, o_is, o_ob, ofs_len11, ↓reduceIte, k_cr, k_ci, k_oR, k_oN, k_aR, k_aN, and_true, true_and, and_self, eq_self, Nat.reduceLT, Nat.reduceLeDiff, Nat.reduceEqDiff, Nat.reduceAdd, Nat.reduceMul, Bool.true_eq_false, Bool.false_eq_true, Nat.add_sub_cancel, Nat.not_lt_zero, Nat.zero_le, k_sub, k_sb1, k_r, k_n, k_ret, k_t1, k_t0, k_nr, k_nn, k_z0, k_z1, k_zb, x_okI, lit_nI, k_in, k_cl, k_lt, k_le, k_eq, k_neg, nI_add, nI_mul, k_clt, k_cgt, k_cle, k_cge, k_ceq, bI_0, k_sh8, ne_eq, Nat.add_eq_zero_iff, Nat.one_ne_zero, Nat.succ_ne_zero, and_false, false_and, not_false_eq_true, not_true_eq_false, ite_true, ite_false, if_true, if_false, c2, k_rS, ex_f]
    · have c2 : (0 : Int64) ≤ x := Int64.not_lt.mp c
      rw [if_neg c]
      simp (disch := omega) only [q_185_0, q_185_1, q_185_2, q_185_3, q_185_6, q_185_9, q_185_12, q_185_13, q_185_14, q_185_15, q_185_17, q_185_18, q_185_19, q_185_22, q_185_23, q_185_25, q_185_26, q_185_29, q_185_30, q_185_32, q_185_35, og_11_27, op_11_27, o_is, o_ob, ofs_len11, ↓reduceIte, k_cr, k_ci, k_oR, k_oN, k_aR, k_aN, and_true, true_and, and_self, eq_self, Nat.reduceLT, Nat.reduceLeDiff, Nat.reduceEqDiff, Nat.reduceAdd, Nat.reduceMul, Bool.true_eq_false, Bool.false_eq_true, Nat.add_sub_cancel, Nat.not_lt_zero, Nat.zero_le, k_sub, k_sb1, k_r, k_n, k_ret, k_t1, k_t0, k_nr, k_nn, k_z0, k_z1, k_zb, x_okI, lit_nI, k_in, k_cl, k_lt, k_le, k_eq, k_neg, nI_add, nI_mul, k_clt, k_cgt, k_cle, k_cge, k_ceq, bI_0, k_sh8, ne_eq, Nat.add_eq_zero_iff, Nat.one_ne_zero, Nat.succ_ne_zero, and_false, false_and, not_false_eq_true, not_true_eq_false, ite_true, ite_false, if_true, if_false, c2, k_rS, ex_f]
  rw [go]
  unfold flO
  have sg0 : ¬ x < 0 → rS (x &&& (-9223372036854775808)) 32 = 0 := by
    intro q
    rw [sg_32, if_neg q]
  generalize hg : rS (x &&& (-9223372036854775808)) 32 = sg at *
  have hb0 := m63_0 x
  by_cases c1 : eF x = 2047
  · have hb : flH x = true := by
      unfold flH
      rw [decide_eq_true c1]
      rfl
    unfold exS
    rw [hb, if_pos rfl, if_pos rfl]
    unfold flZ
    rw [if_pos c1]
    by_cases c2 : fF x = 0
    · have g1 := f_ne (a := sg) (b := 2139095040) hs (by decide)
      rw [if_pos c2]
      simp (disch := omega) only [q_185_37, q_185_39, q_185_42, q_185_45, q_185_47, q_185_48, q_185_49, q_185_52, q_185_55, q_185_58, q_185_59, q_185_62, q_185_63, q_185_65, q_185_68, q_185_70, q_185_73, q_185_75, q_185_76, q_185_77, q_185_80, q_185_81, q_185_84, q_185_87, q_185_89, q_185_92, q_185_94, q_185_95, q_185_98, q_185_101, q_185_104, q_185_107, q_185_109, q_185_112, q_185_113, q_185_114, q_185_115, q_185_118, q_185_119, q_185_121, q_185_124, q_185_125, q_185_126, q_185_128, q_185_129, q_185_130, q_185_132, q_185_134, q_185_135, q_185_136, q_185_139, q_185_142, q_185_144, q_185_147, q_185_149, q_185_150, q_185_153, q_185_156, q_185_159, q_185_162, q_185_165, q_185_167, q_185_168, q_185_170, q_185_172, q_185_175, q_185_176, q_185_178, q_185_180, q_185_182, q_185_183, q_185_185, q_185_186, q_185_188, q_185_189, q_185_192, q_185_193, q_185_195, q_185_197, q_185_198, q_185_199, q_185_202, q_185_205, q_185_207, q_185_209, q_185_212, q_185_213, q_185_216, q_185_217, q_185_218, q_185_221, q_185_222, q_185_223, q_185_225, q_185_226, q_185_227, og_11_27, op_11_27, o_is, o_ob, ofs_len11, ↓reduceIte, k_cr, k_ci, k_oR, k_oN, k_aR, k_aN, and_true, true_and, and_self, eq_self, Nat.reduceLT, Nat.reduceLeDiff, Nat.reduceEqDiff, Nat.reduceAdd, Nat.reduceMul, Bool.true_eq_false, Bool.false_eq_true, Nat.add_sub_cancel, Nat.not_lt_zero, Nat.zero_le, k_sub, k_sb1, k_r, k_n, k_ret, k_t1, k_t0, k_nr, k_nn, k_z0, k_z1, k_zb, x_okI, lit_nI, k_in, k_cl, k_lt, k_le, k_eq, k_neg, nI_add, nI_mul, k_clt, k_cgt, k_cle, k_cge, k_ceq, bI_0, k_sh8, ne_eq, Nat.add_eq_zero_iff, Nat.one_ne_zero, Nat.succ_ne_zero, and_false, false_and, not_false_eq_true, not_true_eq_false, ite_true, ite_false, if_true, if_false, c1, fr_0, c2, g1]
    · have g1 : ¬ ((2143289344 : Int64) = -1) := by decide
      rw [if_neg c2, sg0 (hn c1 c2), Int64.zero_or]
      simp (disch := omega) only [q_185_37, q_185_39, q_185_42, q_185_45, q_185_47, q_185_48, q_185_49, q_185_52, q_185_55, q_185_58, q_185_59, q_185_62, q_185_63, q_185_65, q_185_68, q_185_70, q_185_73, q_185_75, q_185_76, q_185_77, q_185_80, q_185_81, q_185_84, q_185_87, q_185_89, q_185_92, q_185_94, q_185_95, q_185_98, q_185_101, q_185_104, q_185_107, q_185_109, q_185_112, q_185_113, q_185_114, q_185_115, q_185_118, q_185_119, q_185_121, q_185_124, q_185_125, q_185_126, q_185_128, q_185_129, q_185_130, q_185_132, q_185_134, q_185_135, q_185_136, q_185_139, q_185_142, q_185_144, q_185_147, q_185_149, q_185_150, q_185_153, q_185_156, q_185_159, q_185_162, q_185_165, q_185_167, q_185_168, q_185_170, q_185_172, q_185_175, q_185_176, q_185_178, q_185_180, q_185_182, q_185_183, q_185_185, q_185_186, q_185_188, q_185_189, q_185_192, q_185_193, q_185_195, q_185_197, q_185_198, q_185_199, q_185_202, q_185_205, q_185_207, q_185_209, q_185_212, q_185_213, q_185_216, q_185_217, q_185_218, q_185_221, q_185_222, q_185_223, q_185_225, q_185_226, q_185_227, og_11_27, op_11_27, o_is, o_ob, ofs_len11, ↓reduceIte, k_cr, k_ci, k_oR, k_oN, k_aR, k_aN, and_true, true_and, and_self, eq_self, Nat.reduceLT, Nat.reduceLeDiff, Nat.reduceEqDiff, Nat.reduceAdd, Nat.reduceMul, Bool.true_eq_false, Bool.false_eq_true, Nat.add_sub_cancel, Nat.not_lt_zero, Nat.zero_le, k_sub, k_sb1, k_r, k_n, k_ret, k_t1, k_t0, k_nr, k_nn, k_z0, k_z1, k_zb, x_okI, lit_nI, k_in, k_cl, k_lt, k_le, k_eq, k_neg, nI_add, nI_mul, k_clt, k_cgt, k_cle, k_cge, k_ceq, bI_0, k_sh8, ne_eq, Nat.add_eq_zero_iff, Nat.one_ne_zero, Nat.succ_ne_zero, and_false, false_and, not_false_eq_true, not_true_eq_false, ite_true, ite_false, if_true, if_false, c1, fr_0, c2, g1]
  · by_cases c0 : eF x = 0
    · by_cases c2 : fF x = 0
      · have hb : flH x = true := by
          unfold flH
          rw [decide_eq_true (show un x % 9223372036854775808 = 0 by rw [hb0]; exact ⟨c0, c2⟩), Bool.or_true, Bool.true_or]
        have g1 := f_n1 hs
        unfold exS flZ
        rw [hb, if_pos rfl, if_pos rfl, if_neg c1, if_pos (Or.inl (by omega)), Int64.or_zero]
        simp (disch := omega) only [q_185_37, q_185_39, q_185_42, q_185_45, q_185_47, q_185_48, q_185_49, q_185_52, q_185_55, q_185_58, q_185_59, q_185_62, q_185_63, q_185_65, q_185_68, q_185_70, q_185_73, q_185_75, q_185_76, q_185_77, q_185_80, q_185_81, q_185_84, q_185_87, q_185_89, q_185_92, q_185_94, q_185_95, q_185_98, q_185_101, q_185_104, q_185_107, q_185_109, q_185_112, q_185_113, q_185_114, q_185_115, q_185_118, q_185_119, q_185_121, q_185_124, q_185_125, q_185_126, q_185_128, q_185_129, q_185_130, q_185_132, q_185_134, q_185_135, q_185_136, q_185_139, q_185_142, q_185_144, q_185_147, q_185_149, q_185_150, q_185_153, q_185_156, q_185_159, q_185_162, q_185_165, q_185_167, q_185_168, q_185_170, q_185_172, q_185_175, q_185_176, q_185_178, q_185_180, q_185_182, q_185_183, q_185_185, q_185_186, q_185_188, q_185_189, q_185_192, q_185_193, q_185_195, q_185_197, q_185_198, q_185_199, q_185_202, q_185_205, q_185_207, q_185_209, q_185_212, q_185_213, q_185_216, q_185_217, q_185_218, q_185_221, q_185_222, q_185_223, q_185_225, q_185_226, q_185_227, og_11_27, op_11_27, o_is, o_ob, ofs_len11, ↓reduceIte, k_cr, k_ci, k_oR, k_oN, k_aR, k_aN, and_true, true_and, and_self, eq_self, Nat.reduceLT, Nat.reduceLeDiff, Nat.reduceEqDiff, Nat.reduceAdd, Nat.reduceMul, Bool.true_eq_false, Bool.false_eq_true, Nat.add_sub_cancel, Nat.not_lt_zero, Nat.zero_le, k_sub, k_sb1, k_r, k_n, k_ret, k_t1, k_t0, k_nr, k_nn, k_z0, k_z1, k_zb, x_okI, lit_nI, k_in, k_cl, k_lt, k_le, k_eq, k_neg, nI_add, nI_mul, k_clt, k_cgt, k_cle, k_cge, k_ceq, bI_0, k_sh8, ne_eq, Nat.add_eq_zero_iff, Nat.one_ne_zero, Nat.succ_ne_zero, and_false, false_and, not_false_eq_true, not_true_eq_false, ite_true, ite_false, if_true, if_false, c1, c0, fr_0, c2, g1]
      · have hb : flH x = false := by
          unfold flH
          rw [decide_eq_false c1, decide_eq_false (show ¬ un x % 9223372036854775808 = 0 by rw [hb0]; exact fun q => c2 q.2), decide_eq_false (show ¬ 874 ≤ eF x by omega)]
          rfl
        unfold exS
        rw [hb, if_neg (by decide), if_neg (by decide)]
        simp (disch := omega) only [q_185_37, q_185_39, q_185_42, q_185_45, q_185_47, q_185_48, q_185_49, q_185_52, q_185_55, q_185_58, q_185_59, q_185_62, q_185_63, q_185_65, q_185_68, q_185_70, q_185_73, q_185_75, q_185_76, q_185_77, q_185_80, q_185_81, q_185_84, q_185_87, q_185_89, q_185_92, q_185_94, q_185_95, q_185_98, q_185_101, q_185_104, q_185_107, q_185_109, q_185_112, q_185_113, q_185_114, q_185_115, q_185_118, q_185_119, q_185_121, q_185_124, q_185_125, q_185_126, q_185_128, q_185_129, q_185_130, q_185_132, q_185_134, q_185_135, q_185_136, q_185_139, q_185_142, q_185_144, q_185_147, q_185_149, q_185_150, q_185_153, q_185_156, q_185_159, q_185_162, q_185_165, q_185_167, q_185_168, q_185_170, q_185_172, q_185_175, q_185_176, q_185_178, q_185_180, q_185_182, q_185_183, q_185_185, q_185_186, q_185_188, q_185_189, q_185_192, q_185_193, q_185_195, q_185_197, q_185_198, q_185_199, q_185_202, q_185_205, q_185_207, q_185_209, q_185_212, q_185_213, q_185_216, q_185_217, q_185_218, q_185_221, q_185_222, q_185_223, q_185_225, q_185_226, q_185_227, og_11_27, op_11_27, o_is, o_ob, ofs_len11, ↓reduceIte, k_cr, k_ci, k_oR, k_oN, k_aR, k_aN, and_true, true_and, and_self, eq_self, Nat.reduceLT, Nat.reduceLeDiff, Nat.reduceEqDiff, Nat.reduceAdd, Nat.reduceMul, Bool.true_eq_false, Bool.false_eq_true, Nat.add_sub_cancel, Nat.not_lt_zero, Nat.zero_le, k_sub, k_sb1, k_r, k_n, k_ret, k_t1, k_t0, k_nr, k_nn, k_z0, k_z1, k_zb, x_okI, lit_nI, k_in, k_cl, k_lt, k_le, k_eq, k_neg, nI_add, nI_mul, k_clt, k_cgt, k_cle, k_cge, k_ceq, bI_0, k_sh8, ne_eq, Nat.add_eq_zero_iff, Nat.one_ne_zero, Nat.succ_ne_zero, and_false, false_and, not_false_eq_true, not_true_eq_false, ite_true, ite_false, if_true, if_false, c1, c0, fr_0, c2]
    · have hz : ¬ (eF x = 0 ∧ fF x = 0) := fun q => c0 q.1
      have hb1 : flH x = (decide (874 ≤ eF x) && decide (eF x ≤ 1150) && decide ((4503599627370496 + fF x) % 2 ^ cutN (eF x) = 0)) := by
        unfold flH
        rw [decide_eq_false c1, decide_eq_false (show ¬ un x % 9223372036854775808 = 0 by rw [hb0]; exact hz), Bool.false_or, Bool.false_or]
      by_cases c3 : 897 ≤ eF x
      · by_cases c4 : eF x ≤ 1150
        · rw [decide_eq_true c3, decide_eq_true c4, Bool.true_and, bI_t] at i1
          have hc : cutN (eF x) = 29 := by
            unfold cutN
            rw [if_pos c3]
          rw [decide_eq_true (show 874 ≤ eF x by omega), decide_eq_true c4, Bool.true_and, Bool.true_and, hc] at hb1
          have hm := fr_29 x
          by_cases c5 : (4503599627370496 + fF x) % 2 ^ 29 = 0
          · rw [decide_eq_true c5] at hb1
            unfold exS flZ
            rw [hb1, if_pos rfl, if_pos rfl, if_neg c1, if_neg (by omega), if_neg (by omega), ← Int64.or_assoc]
            have u1 : un (lS (nI (eF x - 896)).toInt64 23) < 4294967296 := by
              rw [un_lS, nI_64 (by omega)]
              omega
            have u2 : un (rS (x &&& 4503599627370495) 29) < 4294967296 := by
              rw [un_rS, un_fr]
              omega
            have u3 : un (sg ||| lS (nI (eF x - 896)).toInt64 23) < 4294967296 := by
              rw [un_or]
              exact Nat.or_lt_two_pow (n := 32) hs u1
            have g1 := f_ne u3 u2
            simp (disch := omega) only [q_185_37, q_185_39, q_185_42, q_185_45, q_185_47, q_185_48, q_185_49, q_185_52, q_185_55, q_185_58, q_185_59, q_185_62, q_185_63, q_185_65, q_185_68, q_185_70, q_185_73, q_185_75, q_185_76, q_185_77, q_185_80, q_185_81, q_185_84, q_185_87, q_185_89, q_185_92, q_185_94, q_185_95, q_185_98, q_185_101, q_185_104, q_185_107, q_185_109, q_185_112, q_185_113, q_185_114, q_185_115, q_185_118, q_185_119, q_185_121, q_185_124, q_185_125, q_185_126, q_185_128, q_185_129, q_185_130, q_185_132, q_185_134, q_185_135, q_185_136, q_185_139, q_185_142, q_185_144, q_185_147, q_185_149, q_185_150, q_185_153, q_185_156, q_185_159, q_185_162, q_185_165, q_185_167, q_185_168, q_185_170, q_185_172, q_185_175, q_185_176, q_185_178, q_185_180, q_185_182, q_185_183, q_185_185, q_185_186, q_185_188, q_185_189, q_185_192, q_185_193, q_185_195, q_185_197, q_185_198, q_185_199, q_185_202, q_185_205, q_185_207, q_185_209, q_185_212, q_185_213, q_185_216, q_185_217, q_185_218, q_185_221, q_185_222, q_185_223, q_185_225, q_185_226, q_185_227, og_11_27, op_11_27, o_is, o_ob, ofs_len11, ↓reduceIte, k_cr, k_ci, k_oR, k_oN, k_aR, k_aN, and_true, true_and, and_self, eq_self, Nat.reduceLT, Nat.reduceLeDiff, Nat.reduceEqDiff, Nat.reduceAdd, Nat.reduceMul, Bool.true_eq_false, Bool.false_eq_true, Nat.add_sub_cancel, Nat.not_lt_zero, Nat.zero_le, k_sub, k_sb1, k_r, k_n, k_ret, k_t1, k_t0, k_nr, k_nn, k_z0, k_z1, k_zb, x_okI, lit_nI, k_in, k_cl, k_lt, k_le, k_eq, k_neg, nI_add, nI_mul, k_clt, k_cgt, k_cle, k_cge, k_ceq, bI_0, k_sh8, ne_eq, Nat.add_eq_zero_iff, Nat.one_ne_zero, Nat.succ_ne_zero, and_false, false_and, not_false_eq_true, not_true_eq_false, ite_true, ite_false, if_true, if_false, c1, c0, i1, hm, c5, k_lS, k_rS, g1]
          · rw [decide_eq_false c5] at hb1
            unfold exS
            rw [hb1, if_neg (by decide), if_neg (by decide)]
            simp (disch := omega) only [q_185_37, q_185_39, q_185_42, q_185_45, q_185_47, q_185_48, q_185_49, q_185_52, q_185_55, q_185_58, q_185_59, q_185_62, q_185_63, q_185_65, q_185_68, q_185_70, q_185_73, q_185_75, q_185_76, q_185_77, q_185_80, q_185_81, q_185_84, q_185_87, q_185_89, q_185_92, q_185_94, q_185_95, q_185_98, q_185_101, q_185_104, q_185_107, q_185_109, q_185_112, q_185_113, q_185_114, q_185_115, q_185_118, q_185_119, q_185_121, q_185_124, q_185_125, q_185_126, q_185_128, q_185_129, q_185_130, q_185_132, q_185_134, q_185_135, q_185_136, q_185_139, q_185_142, q_185_144, q_185_147, q_185_149, q_185_150, q_185_153, q_185_156, q_185_159, q_185_162, q_185_165, q_185_167, q_185_168, q_185_170, q_185_172, q_185_175, q_185_176, q_185_178, q_185_180, q_185_182, q_185_183, q_185_185, q_185_186, q_185_188, q_185_189, q_185_192, q_185_193, q_185_195, q_185_197, q_185_198, q_185_199, q_185_202, q_185_205, q_185_207, q_185_209, q_185_212, q_185_213, q_185_216, q_185_217, q_185_218, q_185_221, q_185_222, q_185_223, q_185_225, q_185_226, q_185_227, og_11_27, op_11_27, o_is, o_ob, ofs_len11, ↓reduceIte, k_cr, k_ci, k_oR, k_oN, k_aR, k_aN, and_true, true_and, and_self, eq_self, Nat.reduceLT, Nat.reduceLeDiff, Nat.reduceEqDiff, Nat.reduceAdd, Nat.reduceMul, Bool.true_eq_false, Bool.false_eq_true, Nat.add_sub_cancel, Nat.not_lt_zero, Nat.zero_le, k_sub, k_sb1, k_r, k_n, k_ret, k_t1, k_t0, k_nr, k_nn, k_z0, k_z1, k_zb, x_okI, lit_nI, k_in, k_cl, k_lt, k_le, k_eq, k_neg, nI_add, nI_mul, k_clt, k_cgt, k_cle, k_cge, k_ceq, bI_0, k_sh8, ne_eq, Nat.add_eq_zero_iff, Nat.one_ne_zero, Nat.succ_ne_zero, and_false, false_and, not_false_eq_true, not_true_eq_false, ite_true, ite_false, if_true, if_false, c1, c0, i1, hm, c5]
        · rw [decide_eq_false c4, Bool.and_false, bI_f] at i1
          rw [decide_eq_false (show ¬ eF x ≤ 896 by omega), Bool.and_false, bI_f] at i2
          rw [decide_eq_false c4, Bool.and_false, Bool.false_and] at hb1
          unfold exS
          rw [hb1, if_neg (by decide), if_neg (by decide)]
          simp (disch := omega) only [q_185_37, q_185_39, q_185_42, q_185_45, q_185_47, q_185_48, q_185_49, q_185_52, q_185_55, q_185_58, q_185_59, q_185_62, q_185_63, q_185_65, q_185_68, q_185_70, q_185_73, q_185_75, q_185_76, q_185_77, q_185_80, q_185_81, q_185_84, q_185_87, q_185_89, q_185_92, q_185_94, q_185_95, q_185_98, q_185_101, q_185_104, q_185_107, q_185_109, q_185_112, q_185_113, q_185_114, q_185_115, q_185_118, q_185_119, q_185_121, q_185_124, q_185_125, q_185_126, q_185_128, q_185_129, q_185_130, q_185_132, q_185_134, q_185_135, q_185_136, q_185_139, q_185_142, q_185_144, q_185_147, q_185_149, q_185_150, q_185_153, q_185_156, q_185_159, q_185_162, q_185_165, q_185_167, q_185_168, q_185_170, q_185_172, q_185_175, q_185_176, q_185_178, q_185_180, q_185_182, q_185_183, q_185_185, q_185_186, q_185_188, q_185_189, q_185_192, q_185_193, q_185_195, q_185_197, q_185_198, q_185_199, q_185_202, q_185_205, q_185_207, q_185_209, q_185_212, q_185_213, q_185_216, q_185_217, q_185_218, q_185_221, q_185_222, q_185_223, q_185_225, q_185_226, q_185_227, og_11_27, op_11_27, o_is, o_ob, ofs_len11, ↓reduceIte, k_cr, k_ci, k_oR, k_oN, k_aR, k_aN, and_true, true_and, and_self, eq_self, Nat.reduceLT, Nat.reduceLeDiff, Nat.reduceEqDiff, Nat.reduceAdd, Nat.reduceMul, Bool.true_eq_false, Bool.false_eq_true, Nat.add_sub_cancel, Nat.not_lt_zero, Nat.zero_le, k_sub, k_sb1, k_r, k_n, k_ret, k_t1, k_t0, k_nr, k_nn, k_z0, k_z1, k_zb, x_okI, lit_nI, k_in, k_cl, k_lt, k_le, k_eq, k_neg, nI_add, nI_mul, k_clt, k_cgt, k_cle, k_cge, k_ceq, bI_0, k_sh8, ne_eq, Nat.add_eq_zero_iff, Nat.one_ne_zero, Nat.succ_ne_zero, and_false, false_and, not_false_eq_true, not_true_eq_false, ite_true, ite_false, if_true, if_false, c1, c0, i1, i2]
      · rw [decide_eq_false c3, Bool.false_and, bI_f] at i1
        by_cases c4 : 874 ≤ eF x
        · rw [decide_eq_true c4, decide_eq_true (show eF x ≤ 896 by omega), Bool.true_and, bI_t] at i2
          have hc : cutN (eF x) = 926 - eF x := by
            unfold cutN
            rw [if_neg c3]
          rw [decide_eq_true c4, decide_eq_true (show eF x ≤ 1150 by omega), Bool.true_and, Bool.true_and, hc, ← un_hid] at hb1
          have uh := un_hid x
          have hm := sh_0 (x := (x &&& 4503599627370495) ||| 4503599627370496) (k := 926 - eF x) (by omega)
          unfold exS flZ hid
          by_cases c5 : un ((x &&& 4503599627370495) ||| 4503599627370496) % 2 ^ (926 - eF x) = 0
          · rw [decide_eq_true c5] at hb1
            rw [hb1, if_pos rfl, if_pos rfl, if_neg c1, if_neg (by omega), if_pos (by omega)]
            have u2 : un (rS ((x &&& 4503599627370495) ||| 4503599627370496) (926 - eF x)) < 4294967296 := by
              rw [un_rS]
              have h30 : 2 ^ 30 ≤ 2 ^ (926 - eF x) := Nat.pow_le_pow_right (by decide) (by omega)
              refine (Nat.div_lt_iff_lt_mul (Nat.two_pow_pos _)).mpr ?_
              omega
            have g1 := f_ne hs u2
            simp (disch := omega) only [q_185_37, q_185_39, q_185_42, q_185_45, q_185_47, q_185_48, q_185_49, q_185_52, q_185_55, q_185_58, q_185_59, q_185_62, q_185_63, q_185_65, q_185_68, q_185_70, q_185_73, q_185_75, q_185_76, q_185_77, q_185_80, q_185_81, q_185_84, q_185_87, q_185_89, q_185_92, q_185_94, q_185_95, q_185_98, q_185_101, q_185_104, q_185_107, q_185_109, q_185_112, q_185_113, q_185_114, q_185_115, q_185_118, q_185_119, q_185_121, q_185_124, q_185_125, q_185_126, q_185_128, q_185_129, q_185_130, q_185_132, q_185_134, q_185_135, q_185_136, q_185_139, q_185_142, q_185_144, q_185_147, q_185_149, q_185_150, q_185_153, q_185_156, q_185_159, q_185_162, q_185_165, q_185_167, q_185_168, q_185_170, q_185_172, q_185_175, q_185_176, q_185_178, q_185_180, q_185_182, q_185_183, q_185_185, q_185_186, q_185_188, q_185_189, q_185_192, q_185_193, q_185_195, q_185_197, q_185_198, q_185_199, q_185_202, q_185_205, q_185_207, q_185_209, q_185_212, q_185_213, q_185_216, q_185_217, q_185_218, q_185_221, q_185_222, q_185_223, q_185_225, q_185_226, q_185_227, og_11_27, op_11_27, o_is, o_ob, ofs_len11, ↓reduceIte, k_cr, k_ci, k_oR, k_oN, k_aR, k_aN, and_true, true_and, and_self, eq_self, Nat.reduceLT, Nat.reduceLeDiff, Nat.reduceEqDiff, Nat.reduceAdd, Nat.reduceMul, Bool.true_eq_false, Bool.false_eq_true, Nat.add_sub_cancel, Nat.not_lt_zero, Nat.zero_le, k_sub, k_sb1, k_r, k_n, k_ret, k_t1, k_t0, k_nr, k_nn, k_z0, k_z1, k_zb, x_okI, lit_nI, k_in, k_cl, k_lt, k_le, k_eq, k_neg, nI_add, nI_mul, k_clt, k_cgt, k_cle, k_cge, k_ceq, bI_0, k_sh8, ne_eq, Nat.add_eq_zero_iff, Nat.one_ne_zero, Nat.succ_ne_zero, and_false, false_and, not_false_eq_true, not_true_eq_false, ite_true, ite_false, if_true, if_false, c1, c0, i1, i2, k_lS, k_rS, hm, c5, g1]
          · rw [decide_eq_false c5] at hb1
            rw [hb1, if_neg (by decide), if_neg (by decide)]
            simp (disch := omega) only [q_185_37, q_185_39, q_185_42, q_185_45, q_185_47, q_185_48, q_185_49, q_185_52, q_185_55, q_185_58, q_185_59, q_185_62, q_185_63, q_185_65, q_185_68, q_185_70, q_185_73, q_185_75, q_185_76, q_185_77, q_185_80, q_185_81, q_185_84, q_185_87, q_185_89, q_185_92, q_185_94, q_185_95, q_185_98, q_185_101, q_185_104, q_185_107, q_185_109, q_185_112, q_185_113, q_185_114, q_185_115, q_185_118, q_185_119, q_185_121, q_185_124, q_185_125, q_185_126, q_185_128, q_185_129, q_185_130, q_185_132, q_185_134, q_185_135, q_185_136, q_185_139, q_185_142, q_185_144, q_185_147, q_185_149, q_185_150, q_185_153, q_185_156, q_185_159, q_185_162, q_185_165, q_185_167, q_185_168, q_185_170, q_185_172, q_185_175, q_185_176, q_185_178, q_185_180, q_185_182, q_185_183, q_185_185, q_185_186, q_185_188, q_185_189, q_185_192, q_185_193, q_185_195, q_185_197, q_185_198, q_185_199, q_185_202, q_185_205, q_185_207, q_185_209, q_185_212, q_185_213, q_185_216, q_185_217, q_185_218, q_185_221, q_185_222, q_185_223, q_185_225, q_185_226, q_185_227, og_11_27, op_11_27, o_is, o_ob, ofs_len11, ↓reduceIte, k_cr, k_ci, k_oR, k_oN, k_aR, k_aN, and_true, true_and, and_self, eq_self, Nat.reduceLT, Nat.reduceLeDiff, Nat.reduceEqDiff, Nat.reduceAdd, Nat.reduceMul, Bool.true_eq_false, Bool.false_eq_true, Nat.add_sub_cancel, Nat.not_lt_zero, Nat.zero_le, k_sub, k_sb1, k_r, k_n, k_ret, k_t1, k_t0, k_nr, k_nn, k_z0, k_z1, k_zb, x_okI, lit_nI, k_in, k_cl, k_lt, k_le, k_eq, k_neg, nI_add, nI_mul, k_clt, k_cgt, k_cle, k_cge, k_ceq, bI_0, k_sh8, ne_eq, Nat.add_eq_zero_iff, Nat.one_ne_zero, Nat.succ_ne_zero, and_false, false_and, not_false_eq_true, not_true_eq_false, ite_true, ite_false, if_true, if_false, c1, c0, i1, i2, k_lS, k_rS, hm, c5]
        · rw [decide_eq_false c4, Bool.false_and, bI_f] at i2
          rw [decide_eq_false c4, Bool.false_and, Bool.false_and] at hb1
          unfold exS
          rw [hb1, if_neg (by decide), if_neg (by decide)]
          simp (disch := omega) only [q_185_37, q_185_39, q_185_42, q_185_45, q_185_47, q_185_48, q_185_49, q_185_52, q_185_55, q_185_58, q_185_59, q_185_62, q_185_63, q_185_65, q_185_68, q_185_70, q_185_73, q_185_75, q_185_76, q_185_77, q_185_80, q_185_81, q_185_84, q_185_87, q_185_89, q_185_92, q_185_94, q_185_95, q_185_98, q_185_101, q_185_104, q_185_107, q_185_109, q_185_112, q_185_113, q_185_114, q_185_115, q_185_118, q_185_119, q_185_121, q_185_124, q_185_125, q_185_126, q_185_128, q_185_129, q_185_130, q_185_132, q_185_134, q_185_135, q_185_136, q_185_139, q_185_142, q_185_144, q_185_147, q_185_149, q_185_150, q_185_153, q_185_156, q_185_159, q_185_162, q_185_165, q_185_167, q_185_168, q_185_170, q_185_172, q_185_175, q_185_176, q_185_178, q_185_180, q_185_182, q_185_183, q_185_185, q_185_186, q_185_188, q_185_189, q_185_192, q_185_193, q_185_195, q_185_197, q_185_198, q_185_199, q_185_202, q_185_205, q_185_207, q_185_209, q_185_212, q_185_213, q_185_216, q_185_217, q_185_218, q_185_221, q_185_222, q_185_223, q_185_225, q_185_226, q_185_227, og_11_27, op_11_27, o_is, o_ob, ofs_len11, ↓reduceIte, k_cr, k_ci, k_oR, k_oN, k_aR, k_aN, and_true, true_and, and_self, eq_self, Nat.reduceLT, Nat.reduceLeDiff, Nat.reduceEqDiff, Nat.reduceAdd, Nat.reduceMul, Bool.true_eq_false, Bool.false_eq_true, Nat.add_sub_cancel, Nat.not_lt_zero, Nat.zero_le, k_sub, k_sb1, k_r, k_n, k_ret, k_t1, k_t0, k_nr, k_nn, k_z0, k_z1, k_zb, x_okI, lit_nI, k_in, k_cl, k_lt, k_le, k_eq, k_neg, nI_add, nI_mul, k_clt, k_cgt, k_cle, k_cge, k_ceq, bI_0, k_sh8, ne_eq, Nat.add_eq_zero_iff, Nat.one_ne_zero, Nat.succ_ne_zero, and_false, false_and, not_false_eq_true, not_true_eq_false, ite_true, ite_false, if_true, if_false, c1, c0, i1, i2]
