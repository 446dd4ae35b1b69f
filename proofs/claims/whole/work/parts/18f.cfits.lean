/-! The class: fits and turned. -/
theorem c_fits (d : Nat) (h : xH) (x : Int64) {f t : Nat} (hf : f ≤ 7) (ht : t ≤ 7) : xm (d + 4) 97 [.long x, .int (nI f), .int (nI t)] h = some (some (.int (bI (ftC x f t))), h) := by
  have eV := fun y => (c_isValue (d + 2) h y t ht : xm (d + 3) 33 [.long y, .int (nI t)] h = _)
  have eD := c_hasDouble d h x
  have eO := c_doubleOf d h x
  have eF := fun y => (c_hasFloat (d + 1) h y : xm (d + 3) 104 [.long y] h = _)
  have eW := c_widened d h x
  have eH := fun y => (c_hasWhole (d + 1) h y : xm (d + 3) 108 [.long y] h = _)
  have eI := fun y => (c_wholeOf (d + 1) h y : xm (d + 3) 109 [.long y] h = _)
  rw [E_97]
  unfold ftC
  by_cases f6 : f < 6
  · have n6 : ¬ 6 ≤ f := by omega
    rw [if_pos f6]
    by_cases t6 : t < 6
    · have m6 : ¬ 6 ≤ t := by omega
      rw [if_pos t6]
      simp (disch := omega) only [q_97_0, q_97_1, q_97_3, q_97_6, q_97_7, q_97_9, q_97_12, q_97_13, q_97_14, q_97_17, q_97_18, q_97_19, q_97_21, q_97_24, q_97_25, q_97_28, q_97_31, q_97_32, q_97_34, q_97_37, q_97_38, q_97_41, q_97_44, q_97_47, q_97_48, q_97_51, q_97_52, q_97_53, q_97_54, q_97_56, q_97_59, q_97_60, q_97_63, q_97_66, q_97_67, q_97_69, q_97_70, q_97_72, q_97_75, q_97_76, q_97_78, q_97_81, q_97_83, q_97_86, q_97_89, q_97_90, q_97_93, q_97_94, q_97_95, q_97_97, q_97_100, q_97_103, q_97_105, q_97_108, q_97_109, q_97_112, q_97_115, q_97_116, q_97_119, q_97_120, o_is, o_ob, ↓reduceIte, k_cr, k_ci, k_oR, k_oN, k_aR, k_aN, and_true, true_and, and_self, eq_self, Nat.reduceLT, Nat.reduceLeDiff, Nat.reduceEqDiff, Nat.reduceAdd, Nat.reduceMul, Bool.true_eq_false, Bool.false_eq_true, Nat.add_sub_cancel, Nat.not_lt_zero, Nat.zero_le, k_sub, k_sb1, k_r, k_n, k_ret, k_t1, k_t0, k_nr, k_nn, k_z0, k_z1, k_zb, x_okI, lit_nI, k_in, k_cl, k_lt, k_le, k_eq, k_neg, nI_add, nI_mul, k_clt, k_cgt, k_cle, k_cge, k_ceq, bI_0, k_sh8, ne_eq, Nat.add_eq_zero_iff, Nat.one_ne_zero, Nat.succ_ne_zero, and_false, false_and, not_false_eq_true, not_true_eq_false, ite_true, ite_false, if_true, if_false, n6, m6, eV]
    · have m6 : 6 ≤ t := by omega
      rw [if_neg t6]
      cases hd : dbH x with
      | false =>
        rw [hd] at eD
        rw [Bool.false_and, bI_f]
        simp (disch := omega) only [q_97_0, q_97_1, q_97_3, q_97_6, q_97_7, q_97_9, q_97_12, q_97_13, q_97_14, q_97_17, q_97_18, q_97_19, q_97_21, q_97_24, q_97_25, q_97_28, q_97_31, q_97_32, q_97_34, q_97_37, q_97_38, q_97_41, q_97_44, q_97_47, q_97_48, q_97_51, q_97_52, q_97_53, q_97_54, q_97_56, q_97_59, q_97_60, q_97_63, q_97_66, q_97_67, q_97_69, q_97_70, q_97_72, q_97_75, q_97_76, q_97_78, q_97_81, q_97_83, q_97_86, q_97_89, q_97_90, q_97_93, q_97_94, q_97_95, q_97_97, q_97_100, q_97_103, q_97_105, q_97_108, q_97_109, q_97_112, q_97_115, q_97_116, q_97_119, q_97_120, o_is, o_ob, ↓reduceIte, k_cr, k_ci, k_oR, k_oN, k_aR, k_aN, and_true, true_and, and_self, eq_self, Nat.reduceLT, Nat.reduceLeDiff, Nat.reduceEqDiff, Nat.reduceAdd, Nat.reduceMul, Bool.true_eq_false, Bool.false_eq_true, Nat.add_sub_cancel, Nat.not_lt_zero, Nat.zero_le, k_sub, k_sb1, k_r, k_n, k_ret, k_t1, k_t0, k_nr, k_nn, k_z0, k_z1, k_zb, x_okI, lit_nI, k_in, k_cl, k_lt, k_le, k_eq, k_neg, nI_add, nI_mul, k_clt, k_cgt, k_cle, k_cge, k_ceq, bI_0, k_sh8, ne_eq, Nat.add_eq_zero_iff, Nat.one_ne_zero, Nat.succ_ne_zero, and_false, false_and, not_false_eq_true, not_true_eq_false, ite_true, ite_false, if_true, if_false, n6, m6, eD, bI_f]
      | true =>
        rw [hd] at eD
        rw [Bool.true_and]
        by_cases t7 : t = 7
        · rw [decide_eq_true t7, Bool.true_or, bI_t]
          simp (disch := omega) only [q_97_0, q_97_1, q_97_3, q_97_6, q_97_7, q_97_9, q_97_12, q_97_13, q_97_14, q_97_17, q_97_18, q_97_19, q_97_21, q_97_24, q_97_25, q_97_28, q_97_31, q_97_32, q_97_34, q_97_37, q_97_38, q_97_41, q_97_44, q_97_47, q_97_48, q_97_51, q_97_52, q_97_53, q_97_54, q_97_56, q_97_59, q_97_60, q_97_63, q_97_66, q_97_67, q_97_69, q_97_70, q_97_72, q_97_75, q_97_76, q_97_78, q_97_81, q_97_83, q_97_86, q_97_89, q_97_90, q_97_93, q_97_94, q_97_95, q_97_97, q_97_100, q_97_103, q_97_105, q_97_108, q_97_109, q_97_112, q_97_115, q_97_116, q_97_119, q_97_120, o_is, o_ob, ↓reduceIte, k_cr, k_ci, k_oR, k_oN, k_aR, k_aN, and_true, true_and, and_self, eq_self, Nat.reduceLT, Nat.reduceLeDiff, Nat.reduceEqDiff, Nat.reduceAdd, Nat.reduceMul, Bool.true_eq_false, Bool.false_eq_true, Nat.add_sub_cancel, Nat.not_lt_zero, Nat.zero_le, k_sub, k_sb1, k_r, k_n, k_ret, k_t1, k_t0, k_nr, k_nn, k_z0, k_z1, k_zb, x_okI, lit_nI, k_in, k_cl, k_lt, k_le, k_eq, k_neg, nI_add, nI_mul, k_clt, k_cgt, k_cle, k_cge, k_ceq, bI_0, k_sh8, ne_eq, Nat.add_eq_zero_iff, Nat.one_ne_zero, Nat.succ_ne_zero, and_false, false_and, not_false_eq_true, not_true_eq_false, ite_true, ite_false, if_true, if_false, n6, m6, t7, eD, bI_t]
        · rw [decide_eq_false t7, Bool.false_or]
          have e2 := eF (dbO x)
          cases hq : flH (dbO x) with
          | false =>
            rw [hq] at e2
            rw [bI_f] at *
            simp (disch := omega) only [q_97_0, q_97_1, q_97_3, q_97_6, q_97_7, q_97_9, q_97_12, q_97_13, q_97_14, q_97_17, q_97_18, q_97_19, q_97_21, q_97_24, q_97_25, q_97_28, q_97_31, q_97_32, q_97_34, q_97_37, q_97_38, q_97_41, q_97_44, q_97_47, q_97_48, q_97_51, q_97_52, q_97_53, q_97_54, q_97_56, q_97_59, q_97_60, q_97_63, q_97_66, q_97_67, q_97_69, q_97_70, q_97_72, q_97_75, q_97_76, q_97_78, q_97_81, q_97_83, q_97_86, q_97_89, q_97_90, q_97_93, q_97_94, q_97_95, q_97_97, q_97_100, q_97_103, q_97_105, q_97_108, q_97_109, q_97_112, q_97_115, q_97_116, q_97_119, q_97_120, o_is, o_ob, ↓reduceIte, k_cr, k_ci, k_oR, k_oN, k_aR, k_aN, and_true, true_and, and_self, eq_self, Nat.reduceLT, Nat.reduceLeDiff, Nat.reduceEqDiff, Nat.reduceAdd, Nat.reduceMul, Bool.true_eq_false, Bool.false_eq_true, Nat.add_sub_cancel, Nat.not_lt_zero, Nat.zero_le, k_sub, k_sb1, k_r, k_n, k_ret, k_t1, k_t0, k_nr, k_nn, k_z0, k_z1, k_zb, x_okI, lit_nI, k_in, k_cl, k_lt, k_le, k_eq, k_neg, nI_add, nI_mul, k_clt, k_cgt, k_cle, k_cge, k_ceq, bI_0, k_sh8, ne_eq, Nat.add_eq_zero_iff, Nat.one_ne_zero, Nat.succ_ne_zero, and_false, false_and, not_false_eq_true, not_true_eq_false, ite_true, ite_false, if_true, if_false, n6, m6, t7, eD, eO, e2, bI_t]
          | true =>
            rw [hq] at e2
            rw [bI_t] at *
            simp (disch := omega) only [q_97_0, q_97_1, q_97_3, q_97_6, q_97_7, q_97_9, q_97_12, q_97_13, q_97_14, q_97_17, q_97_18, q_97_19, q_97_21, q_97_24, q_97_25, q_97_28, q_97_31, q_97_32, q_97_34, q_97_37, q_97_38, q_97_41, q_97_44, q_97_47, q_97_48, q_97_51, q_97_52, q_97_53, q_97_54, q_97_56, q_97_59, q_97_60, q_97_63, q_97_66, q_97_67, q_97_69, q_97_70, q_97_72, q_97_75, q_97_76, q_97_78, q_97_81, q_97_83, q_97_86, q_97_89, q_97_90, q_97_93, q_97_94, q_97_95, q_97_97, q_97_100, q_97_103, q_97_105, q_97_108, q_97_109, q_97_112, q_97_115, q_97_116, q_97_119, q_97_120, o_is, o_ob, ↓reduceIte, k_cr, k_ci, k_oR, k_oN, k_aR, k_aN, and_true, true_and, and_self, eq_self, Nat.reduceLT, Nat.reduceLeDiff, Nat.reduceEqDiff, Nat.reduceAdd, Nat.reduceMul, Bool.true_eq_false, Bool.false_eq_true, Nat.add_sub_cancel, Nat.not_lt_zero, Nat.zero_le, k_sub, k_sb1, k_r, k_n, k_ret, k_t1, k_t0, k_nr, k_nn, k_z0, k_z1, k_zb, x_okI, lit_nI, k_in, k_cl, k_lt, k_le, k_eq, k_neg, nI_add, nI_mul, k_clt, k_cgt, k_cle, k_cge, k_ceq, bI_0, k_sh8, ne_eq, Nat.add_eq_zero_iff, Nat.one_ne_zero, Nat.succ_ne_zero, and_false, false_and, not_false_eq_true, not_true_eq_false, ite_true, ite_false, if_true, if_false, n6, m6, t7, eD, eO, e2, bI_t]
  · have n6 : 6 ≤ f := by omega
    rw [if_neg f6]
    have st : xrun (d + 3) 97 0 [(2, .long x), (0, .null), (1, .int (nI f)), (1, .int (nI t)), (0, .null), (0, .null)] [] h = xrun (d + 3) 97 69 [(2, .long x), (0, .null), (1, .int (nI f)), (1, .int (nI t)), (2, .long (wiX x f)), (0, .null)] [] h := by
      unfold wiX
      by_cases c6 : f = 6
      · rw [if_pos c6]
        simp (disch := omega) only [q_97_0, q_97_1, q_97_3, q_97_6, q_97_7, q_97_9, q_97_12, q_97_13, q_97_14, q_97_17, q_97_18, q_97_19, q_97_21, q_97_24, q_97_25, q_97_28, q_97_31, q_97_32, q_97_34, q_97_37, q_97_38, q_97_41, q_97_44, q_97_47, q_97_48, q_97_51, q_97_52, q_97_53, q_97_54, q_97_56, q_97_59, q_97_60, q_97_63, q_97_66, q_97_67, o_is, o_ob, ↓reduceIte, k_cr, k_ci, k_oR, k_oN, k_aR, k_aN, and_true, true_and, and_self, eq_self, Nat.reduceLT, Nat.reduceLeDiff, Nat.reduceEqDiff, Nat.reduceAdd, Nat.reduceMul, Bool.true_eq_false, Bool.false_eq_true, Nat.add_sub_cancel, Nat.not_lt_zero, Nat.zero_le, k_sub, k_sb1, k_r, k_n, k_ret, k_t1, k_t0, k_nr, k_nn, k_z0, k_z1, k_zb, x_okI, lit_nI, k_in, k_cl, k_lt, k_le, k_eq, k_neg, nI_add, nI_mul, k_clt, k_cgt, k_cle, k_cge, k_ceq, bI_0, k_sh8, ne_eq, Nat.add_eq_zero_iff, Nat.one_ne_zero, Nat.succ_ne_zero, and_false, false_and, not_false_eq_true, not_true_eq_false, ite_true, ite_false, if_true, if_false, n6, c6, eW]
      · rw [if_neg c6]
        simp (disch := omega) only [q_97_0, q_97_1, q_97_3, q_97_6, q_97_7, q_97_9, q_97_12, q_97_13, q_97_14, q_97_17, q_97_18, q_97_19, q_97_21, q_97_24, q_97_25, q_97_28, q_97_31, q_97_32, q_97_34, q_97_37, q_97_38, q_97_41, q_97_44, q_97_47, q_97_48, q_97_51, q_97_52, q_97_53, q_97_54, q_97_56, q_97_59, q_97_60, q_97_63, q_97_66, q_97_67, o_is, o_ob, ↓reduceIte, k_cr, k_ci, k_oR, k_oN, k_aR, k_aN, and_true, true_and, and_self, eq_self, Nat.reduceLT, Nat.reduceLeDiff, Nat.reduceEqDiff, Nat.reduceAdd, Nat.reduceMul, Bool.true_eq_false, Bool.false_eq_true, Nat.add_sub_cancel, Nat.not_lt_zero, Nat.zero_le, k_sub, k_sb1, k_r, k_n, k_ret, k_t1, k_t0, k_nr, k_nn, k_z0, k_z1, k_zb, x_okI, lit_nI, k_in, k_cl, k_lt, k_le, k_eq, k_neg, nI_add, nI_mul, k_clt, k_cgt, k_cle, k_cge, k_ceq, bI_0, k_sh8, ne_eq, Nat.add_eq_zero_iff, Nat.one_ne_zero, Nat.succ_ne_zero, and_false, false_and, not_false_eq_true, not_true_eq_false, ite_true, ite_false, if_true, if_false, n6, c6]
    rw [st]
    generalize wiX x f = y
    by_cases t6 : t < 6
    · have m6 : ¬ 6 ≤ t := by omega
      rw [if_neg m6]
      have e1 := eH y
      have e2 := eI y
      have e3 := eV (wlO y)
      cases hq : wlH y with
      | false =>
        rw [hq, bI_f] at e1
        rw [Bool.false_and, bI_f]
        simp (disch := omega) only [q_97_69, q_97_70, q_97_72, q_97_75, q_97_76, q_97_78, q_97_81, q_97_83, q_97_86, q_97_89, q_97_90, q_97_93, q_97_94, q_97_95, q_97_97, q_97_100, q_97_103, q_97_105, q_97_108, q_97_109, q_97_112, q_97_115, q_97_116, q_97_119, q_97_120, o_is, o_ob, ↓reduceIte, k_cr, k_ci, k_oR, k_oN, k_aR, k_aN, and_true, true_and, and_self, eq_self, Nat.reduceLT, Nat.reduceLeDiff, Nat.reduceEqDiff, Nat.reduceAdd, Nat.reduceMul, Bool.true_eq_false, Bool.false_eq_true, Nat.add_sub_cancel, Nat.not_lt_zero, Nat.zero_le, k_sub, k_sb1, k_r, k_n, k_ret, k_t1, k_t0, k_nr, k_nn, k_z0, k_z1, k_zb, x_okI, lit_nI, k_in, k_cl, k_lt, k_le, k_eq, k_neg, nI_add, nI_mul, k_clt, k_cgt, k_cle, k_cge, k_ceq, bI_0, k_sh8, ne_eq, Nat.add_eq_zero_iff, Nat.one_ne_zero, Nat.succ_ne_zero, and_false, false_and, not_false_eq_true, not_true_eq_false, ite_true, ite_false, if_true, if_false, t6, e1]
      | true =>
        rw [hq, bI_t] at e1
        rw [Bool.true_and]
        cases hr : fitT (nI t) (wlO y) with
        | false =>
          rw [hr, bI_f] at e3
          rw [bI_f]
          simp (disch := omega) only [q_97_69, q_97_70, q_97_72, q_97_75, q_97_76, q_97_78, q_97_81, q_97_83, q_97_86, q_97_89, q_97_90, q_97_93, q_97_94, q_97_95, q_97_97, q_97_100, q_97_103, q_97_105, q_97_108, q_97_109, q_97_112, q_97_115, q_97_116, q_97_119, q_97_120, o_is, o_ob, ↓reduceIte, k_cr, k_ci, k_oR, k_oN, k_aR, k_aN, and_true, true_and, and_self, eq_self, Nat.reduceLT, Nat.reduceLeDiff, Nat.reduceEqDiff, Nat.reduceAdd, Nat.reduceMul, Bool.true_eq_false, Bool.false_eq_true, Nat.add_sub_cancel, Nat.not_lt_zero, Nat.zero_le, k_sub, k_sb1, k_r, k_n, k_ret, k_t1, k_t0, k_nr, k_nn, k_z0, k_z1, k_zb, x_okI, lit_nI, k_in, k_cl, k_lt, k_le, k_eq, k_neg, nI_add, nI_mul, k_clt, k_cgt, k_cle, k_cge, k_ceq, bI_0, k_sh8, ne_eq, Nat.add_eq_zero_iff, Nat.one_ne_zero, Nat.succ_ne_zero, and_false, false_and, not_false_eq_true, not_true_eq_false, ite_true, ite_false, if_true, if_false, t6, e1, e2, e3]
        | true =>
          rw [hr, bI_t] at e3
          rw [bI_t]
          simp (disch := omega) only [q_97_69, q_97_70, q_97_72, q_97_75, q_97_76, q_97_78, q_97_81, q_97_83, q_97_86, q_97_89, q_97_90, q_97_93, q_97_94, q_97_95, q_97_97, q_97_100, q_97_103, q_97_105, q_97_108, q_97_109, q_97_112, q_97_115, q_97_116, q_97_119, q_97_120, o_is, o_ob, ↓reduceIte, k_cr, k_ci, k_oR, k_oN, k_aR, k_aN, and_true, true_and, and_self, eq_self, Nat.reduceLT, Nat.reduceLeDiff, Nat.reduceEqDiff, Nat.reduceAdd, Nat.reduceMul, Bool.true_eq_false, Bool.false_eq_true, Nat.add_sub_cancel, Nat.not_lt_zero, Nat.zero_le, k_sub, k_sb1, k_r, k_n, k_ret, k_t1, k_t0, k_nr, k_nn, k_z0, k_z1, k_zb, x_okI, lit_nI, k_in, k_cl, k_lt, k_le, k_eq, k_neg, nI_add, nI_mul, k_clt, k_cgt, k_cle, k_cge, k_ceq, bI_0, k_sh8, ne_eq, Nat.add_eq_zero_iff, Nat.one_ne_zero, Nat.succ_ne_zero, and_false, false_and, not_false_eq_true, not_true_eq_false, ite_true, ite_false, if_true, if_false, t6, e1, e2, e3]
    · have m6 : 6 ≤ t := by omega
      rw [if_pos m6]
      have e1 := eF y
      by_cases t7 : t = 7
      · rw [decide_eq_true t7, Bool.true_or, bI_t]
        simp (disch := omega) only [q_97_69, q_97_70, q_97_72, q_97_75, q_97_76, q_97_78, q_97_81, q_97_83, q_97_86, q_97_89, q_97_90, q_97_93, q_97_94, q_97_95, q_97_97, q_97_100, q_97_103, q_97_105, q_97_108, q_97_109, q_97_112, q_97_115, q_97_116, q_97_119, q_97_120, o_is, o_ob, ↓reduceIte, k_cr, k_ci, k_oR, k_oN, k_aR, k_aN, and_true, true_and, and_self, eq_self, Nat.reduceLT, Nat.reduceLeDiff, Nat.reduceEqDiff, Nat.reduceAdd, Nat.reduceMul, Bool.true_eq_false, Bool.false_eq_true, Nat.add_sub_cancel, Nat.not_lt_zero, Nat.zero_le, k_sub, k_sb1, k_r, k_n, k_ret, k_t1, k_t0, k_nr, k_nn, k_z0, k_z1, k_zb, x_okI, lit_nI, k_in, k_cl, k_lt, k_le, k_eq, k_neg, nI_add, nI_mul, k_clt, k_cgt, k_cle, k_cge, k_ceq, bI_0, k_sh8, ne_eq, Nat.add_eq_zero_iff, Nat.one_ne_zero, Nat.succ_ne_zero, and_false, false_and, not_false_eq_true, not_true_eq_false, ite_true, ite_false, if_true, if_false, t6, t7]
      · rw [decide_eq_false t7, Bool.false_or]
        cases hq : flH y with
        | false =>
          rw [hq, bI_f] at e1
          rw [bI_f]
          simp (disch := omega) only [q_97_69, q_97_70, q_97_72, q_97_75, q_97_76, q_97_78, q_97_81, q_97_83, q_97_86, q_97_89, q_97_90, q_97_93, q_97_94, q_97_95, q_97_97, q_97_100, q_97_103, q_97_105, q_97_108, q_97_109, q_97_112, q_97_115, q_97_116, q_97_119, q_97_120, o_is, o_ob, ↓reduceIte, k_cr, k_ci, k_oR, k_oN, k_aR, k_aN, and_true, true_and, and_self, eq_self, Nat.reduceLT, Nat.reduceLeDiff, Nat.reduceEqDiff, Nat.reduceAdd, Nat.reduceMul, Bool.true_eq_false, Bool.false_eq_true, Nat.add_sub_cancel, Nat.not_lt_zero, Nat.zero_le, k_sub, k_sb1, k_r, k_n, k_ret, k_t1, k_t0, k_nr, k_nn, k_z0, k_z1, k_zb, x_okI, lit_nI, k_in, k_cl, k_lt, k_le, k_eq, k_neg, nI_add, nI_mul, k_clt, k_cgt, k_cle, k_cge, k_ceq, bI_0, k_sh8, ne_eq, Nat.add_eq_zero_iff, Nat.one_ne_zero, Nat.succ_ne_zero, and_false, false_and, not_false_eq_true, not_true_eq_false, ite_true, ite_false, if_true, if_false, t6, t7, e1]
        | true =>
          rw [hq, bI_t] at e1
          rw [bI_t]
          simp (disch := omega) only [q_97_69, q_97_70, q_97_72, q_97_75, q_97_76, q_97_78, q_97_81, q_97_83, q_97_86, q_97_89, q_97_90, q_97_93, q_97_94, q_97_95, q_97_97, q_97_100, q_97_103, q_97_105, q_97_108, q_97_109, q_97_112, q_97_115, q_97_116, q_97_119, q_97_120, o_is, o_ob, ↓reduceIte, k_cr, k_ci, k_oR, k_oN, k_aR, k_aN, and_true, true_and, and_self, eq_self, Nat.reduceLT, Nat.reduceLeDiff, Nat.reduceEqDiff, Nat.reduceAdd, Nat.reduceMul, Bool.true_eq_false, Bool.false_eq_true, Nat.add_sub_cancel, Nat.not_lt_zero, Nat.zero_le, k_sub, k_sb1, k_r, k_n, k_ret, k_t1, k_t0, k_nr, k_nn, k_z0, k_z1, k_zb, x_okI, lit_nI, k_in, k_cl, k_lt, k_le, k_eq, k_neg, nI_add, nI_mul, k_clt, k_cgt, k_cle, k_cge, k_ceq, bI_0, k_sh8, ne_eq, Nat.add_eq_zero_iff, Nat.one_ne_zero, Nat.succ_ne_zero, and_false, false_and, not_false_eq_true, not_true_eq_false, ite_true, ite_false, if_true, if_false, t6, t7, e1]
theorem c_turned (d : Nat) (h : xH) (x : Int64) {f t : Nat} (hf : f ≤ 7) (ht : t ≤ 7) : xm (d + 4) 110 [.long x, .int (nI f), .int (nI t)] h = some (some (.long (tnC x f t)), h) := by
  have eO := c_doubleOf d h x
  have eF := fun y => (c_floatOf (d + 1) h y : xm (d + 3) 111 [.long y] h = _)
  have eW := c_widened d h x
  have eI := fun y => (c_wholeOf (d + 1) h y : xm (d + 3) 109 [.long y] h = _)
  rw [E_110]
  unfold tnC
  by_cases ft : f = t
  · rw [if_pos (Or.inl ft)]
    simp (disch := omega) only [q_110_0, q_110_1, q_110_2, q_110_5, q_110_6, q_110_8, q_110_11, q_110_12, q_110_14, q_110_17, q_110_18, q_110_19, q_110_20, q_110_22, q_110_25, q_110_26, q_110_28, q_110_31, q_110_32, q_110_35, q_110_38, q_110_39, q_110_42, q_110_45, q_110_46, q_110_47, q_110_49, q_110_52, q_110_53, q_110_56, q_110_59, q_110_60, q_110_62, q_110_63, q_110_65, q_110_68, q_110_69, q_110_71, q_110_74, q_110_76, q_110_79, q_110_81, q_110_84, q_110_85, q_110_87, q_110_90, o_is, o_ob, ↓reduceIte, k_cr, k_ci, k_oR, k_oN, k_aR, k_aN, and_true, true_and, and_self, eq_self, Nat.reduceLT, Nat.reduceLeDiff, Nat.reduceEqDiff, Nat.reduceAdd, Nat.reduceMul, Bool.true_eq_false, Bool.false_eq_true, Nat.add_sub_cancel, Nat.not_lt_zero, Nat.zero_le, k_sub, k_sb1, k_r, k_n, k_ret, k_t1, k_t0, k_nr, k_nn, k_z0, k_z1, k_zb, x_okI, lit_nI, k_in, k_cl, k_lt, k_le, k_eq, k_neg, nI_add, nI_mul, k_clt, k_cgt, k_cle, k_cge, k_ceq, bI_0, k_sh8, ne_eq, Nat.add_eq_zero_iff, Nat.one_ne_zero, Nat.succ_ne_zero, and_false, false_and, not_false_eq_true, not_true_eq_false, ite_true, ite_false, if_true, if_false, ft]
  · by_cases f6 : f < 6
    · have n6 : ¬ 6 ≤ f := by omega
      by_cases t6 : t < 6
      · have m6 : ¬ 6 ≤ t := by omega
        rw [if_pos (Or.inr ⟨f6, t6⟩)]
        simp (disch := omega) only [q_110_0, q_110_1, q_110_2, q_110_5, q_110_6, q_110_8, q_110_11, q_110_12, q_110_14, q_110_17, q_110_18, q_110_19, q_110_20, q_110_22, q_110_25, q_110_26, q_110_28, q_110_31, q_110_32, q_110_35, q_110_38, q_110_39, q_110_42, q_110_45, q_110_46, q_110_47, q_110_49, q_110_52, q_110_53, q_110_56, q_110_59, q_110_60, q_110_62, q_110_63, q_110_65, q_110_68, q_110_69, q_110_71, q_110_74, q_110_76, q_110_79, q_110_81, q_110_84, q_110_85, q_110_87, q_110_90, o_is, o_ob, ↓reduceIte, k_cr, k_ci, k_oR, k_oN, k_aR, k_aN, and_true, true_and, and_self, eq_self, Nat.reduceLT, Nat.reduceLeDiff, Nat.reduceEqDiff, Nat.reduceAdd, Nat.reduceMul, Bool.true_eq_false, Bool.false_eq_true, Nat.add_sub_cancel, Nat.not_lt_zero, Nat.zero_le, k_sub, k_sb1, k_r, k_n, k_ret, k_t1, k_t0, k_nr, k_nn, k_z0, k_z1, k_zb, x_okI, lit_nI, k_in, k_cl, k_lt, k_le, k_eq, k_neg, nI_add, nI_mul, k_clt, k_cgt, k_cle, k_cge, k_ceq, bI_0, k_sh8, ne_eq, Nat.add_eq_zero_iff, Nat.one_ne_zero, Nat.succ_ne_zero, and_false, false_and, not_false_eq_true, not_true_eq_false, ite_true, ite_false, if_true, if_false, ft, n6, m6]
      · have m6 : 6 ≤ t := by omega
        rw [if_neg (by omega), if_pos f6]
        by_cases t7 : t = 7
        · rw [if_pos t7]
          have g7 : ¬ f = 7 := by omega
          simp (disch := omega) only [q_110_0, q_110_1, q_110_2, q_110_5, q_110_6, q_110_8, q_110_11, q_110_12, q_110_14, q_110_17, q_110_18, q_110_19, q_110_20, q_110_22, q_110_25, q_110_26, q_110_28, q_110_31, q_110_32, q_110_35, q_110_38, q_110_39, q_110_42, q_110_45, q_110_46, q_110_47, q_110_49, q_110_52, q_110_53, q_110_56, q_110_59, q_110_60, q_110_62, q_110_63, q_110_65, q_110_68, q_110_69, q_110_71, q_110_74, q_110_76, q_110_79, q_110_81, q_110_84, q_110_85, q_110_87, q_110_90, o_is, o_ob, ↓reduceIte, k_cr, k_ci, k_oR, k_oN, k_aR, k_aN, and_true, true_and, and_self, eq_self, Nat.reduceLT, Nat.reduceLeDiff, Nat.reduceEqDiff, Nat.reduceAdd, Nat.reduceMul, Bool.true_eq_false, Bool.false_eq_true, Nat.add_sub_cancel, Nat.not_lt_zero, Nat.zero_le, k_sub, k_sb1, k_r, k_n, k_ret, k_t1, k_t0, k_nr, k_nn, k_z0, k_z1, k_zb, x_okI, lit_nI, k_in, k_cl, k_lt, k_le, k_eq, k_neg, nI_add, nI_mul, k_clt, k_cgt, k_cle, k_cge, k_ceq, bI_0, k_sh8, ne_eq, Nat.add_eq_zero_iff, Nat.one_ne_zero, Nat.succ_ne_zero, and_false, false_and, not_false_eq_true, not_true_eq_false, ite_true, ite_false, if_true, if_false, ft, n6, m6, t7, g7, eO]
        · rw [if_neg t7]
          simp (disch := omega) only [q_110_0, q_110_1, q_110_2, q_110_5, q_110_6, q_110_8, q_110_11, q_110_12, q_110_14, q_110_17, q_110_18, q_110_19, q_110_20, q_110_22, q_110_25, q_110_26, q_110_28, q_110_31, q_110_32, q_110_35, q_110_38, q_110_39, q_110_42, q_110_45, q_110_46, q_110_47, q_110_49, q_110_52, q_110_53, q_110_56, q_110_59, q_110_60, q_110_62, q_110_63, q_110_65, q_110_68, q_110_69, q_110_71, q_110_74, q_110_76, q_110_79, q_110_81, q_110_84, q_110_85, q_110_87, q_110_90, o_is, o_ob, ↓reduceIte, k_cr, k_ci, k_oR, k_oN, k_aR, k_aN, and_true, true_and, and_self, eq_self, Nat.reduceLT, Nat.reduceLeDiff, Nat.reduceEqDiff, Nat.reduceAdd, Nat.reduceMul, Bool.true_eq_false, Bool.false_eq_true, Nat.add_sub_cancel, Nat.not_lt_zero, Nat.zero_le, k_sub, k_sb1, k_r, k_n, k_ret, k_t1, k_t0, k_nr, k_nn, k_z0, k_z1, k_zb, x_okI, lit_nI, k_in, k_cl, k_lt, k_le, k_eq, k_neg, nI_add, nI_mul, k_clt, k_cgt, k_cle, k_cge, k_ceq, bI_0, k_sh8, ne_eq, Nat.add_eq_zero_iff, Nat.one_ne_zero, Nat.succ_ne_zero, and_false, false_and, not_false_eq_true, not_true_eq_false, ite_true, ite_false, if_true, if_false, ft, n6, m6, t7, eO, eF]
    · have n6 : 6 ≤ f := by omega
      have n7 : ¬ f < 6 := f6
      rw [if_neg (by omega), if_neg f6]
      have st : xrun (d + 3) 110 0 [(2, .long x), (0, .null), (1, .int (nI f)), (1, .int (nI t)), (0, .null), (0, .null)] [] h = xrun (d + 3) 110 62 [(2, .long x), (0, .null), (1, .int (nI f)), (1, .int (nI t)), (2, .long (wiX x f)), (0, .null)] [] h := by
        unfold wiX
        by_cases c6 : f = 6
        · have g6 : ¬ 6 = t := by omega
          rw [if_pos c6]
          subst c6
          simp (disch := omega) only [q_110_0, q_110_1, q_110_2, q_110_5, q_110_6, q_110_8, q_110_11, q_110_12, q_110_14, q_110_17, q_110_18, q_110_19, q_110_20, q_110_22, q_110_25, q_110_26, q_110_28, q_110_31, q_110_32, q_110_35, q_110_38, q_110_39, q_110_42, q_110_45, q_110_46, q_110_47, q_110_49, q_110_52, q_110_53, q_110_56, q_110_59, q_110_60, o_is, o_ob, ↓reduceIte, k_cr, k_ci, k_oR, k_oN, k_aR, k_aN, and_true, true_and, and_self, eq_self, Nat.reduceLT, Nat.reduceLeDiff, Nat.reduceEqDiff, Nat.reduceAdd, Nat.reduceMul, Bool.true_eq_false, Bool.false_eq_true, Nat.add_sub_cancel, Nat.not_lt_zero, Nat.zero_le, k_sub, k_sb1, k_r, k_n, k_ret, k_t1, k_t0, k_nr, k_nn, k_z0, k_z1, k_zb, x_okI, lit_nI, k_in, k_cl, k_lt, k_le, k_eq, k_neg, nI_add, nI_mul, k_clt, k_cgt, k_cle, k_cge, k_ceq, bI_0, k_sh8, ne_eq, Nat.add_eq_zero_iff, Nat.one_ne_zero, Nat.succ_ne_zero, and_false, false_and, not_false_eq_true, not_true_eq_false, ite_true, ite_false, if_true, if_false, g6, Nat.le_refl, eW]
        · rw [if_neg c6]
          simp (disch := omega) only [q_110_0, q_110_1, q_110_2, q_110_5, q_110_6, q_110_8, q_110_11, q_110_12, q_110_14, q_110_17, q_110_18, q_110_19, q_110_20, q_110_22, q_110_25, q_110_26, q_110_28, q_110_31, q_110_32, q_110_35, q_110_38, q_110_39, q_110_42, q_110_45, q_110_46, q_110_47, q_110_49, q_110_52, q_110_53, q_110_56, q_110_59, q_110_60, o_is, o_ob, ↓reduceIte, k_cr, k_ci, k_oR, k_oN, k_aR, k_aN, and_true, true_and, and_self, eq_self, Nat.reduceLT, Nat.reduceLeDiff, Nat.reduceEqDiff, Nat.reduceAdd, Nat.reduceMul, Bool.true_eq_false, Bool.false_eq_true, Nat.add_sub_cancel, Nat.not_lt_zero, Nat.zero_le, k_sub, k_sb1, k_r, k_n, k_ret, k_t1, k_t0, k_nr, k_nn, k_z0, k_z1, k_zb, x_okI, lit_nI, k_in, k_cl, k_lt, k_le, k_eq, k_neg, nI_add, nI_mul, k_clt, k_cgt, k_cle, k_cge, k_ceq, bI_0, k_sh8, ne_eq, Nat.add_eq_zero_iff, Nat.one_ne_zero, Nat.succ_ne_zero, and_false, false_and, not_false_eq_true, not_true_eq_false, ite_true, ite_false, if_true, if_false, ft, n6, c6]
      rw [st]
      generalize wiX x f = y
      by_cases t6 : t < 6
      · rw [if_neg (by omega)]
        simp (disch := omega) only [q_110_62, q_110_63, q_110_65, q_110_68, q_110_69, q_110_71, q_110_74, q_110_76, q_110_79, q_110_81, q_110_84, q_110_85, q_110_87, q_110_90, o_is, o_ob, ↓reduceIte, k_cr, k_ci, k_oR, k_oN, k_aR, k_aN, and_true, true_and, and_self, eq_self, Nat.reduceLT, Nat.reduceLeDiff, Nat.reduceEqDiff, Nat.reduceAdd, Nat.reduceMul, Bool.true_eq_false, Bool.false_eq_true, Nat.add_sub_cancel, Nat.not_lt_zero, Nat.zero_le, k_sub, k_sb1, k_r, k_n, k_ret, k_t1, k_t0, k_nr, k_nn, k_z0, k_z1, k_zb, x_okI, lit_nI, k_in, k_cl, k_lt, k_le, k_eq, k_neg, nI_add, nI_mul, k_clt, k_cgt, k_cle, k_cge, k_ceq, bI_0, k_sh8, ne_eq, Nat.add_eq_zero_iff, Nat.one_ne_zero, Nat.succ_ne_zero, and_false, false_and, not_false_eq_true, not_true_eq_false, ite_true, ite_false, if_true, if_false, t6, eI]
      · have m6 : 6 ≤ t := by omega
        rw [if_pos m6]
        by_cases t7 : t = 7
        · rw [if_pos t7]
          simp (disch := omega) only [q_110_62, q_110_63, q_110_65, q_110_68, q_110_69, q_110_71, q_110_74, q_110_76, q_110_79, q_110_81, q_110_84, q_110_85, q_110_87, q_110_90, o_is, o_ob, ↓reduceIte, k_cr, k_ci, k_oR, k_oN, k_aR, k_aN, and_true, true_and, and_self, eq_self, Nat.reduceLT, Nat.reduceLeDiff, Nat.reduceEqDiff, Nat.reduceAdd, Nat.reduceMul, Bool.true_eq_false, Bool.false_eq_true, Nat.add_sub_cancel, Nat.not_lt_zero, Nat.zero_le, k_sub, k_sb1, k_r, k_n, k_ret, k_t1, k_t0, k_nr, k_nn, k_z0, k_z1, k_zb, x_okI, lit_nI, k_in, k_cl, k_lt, k_le, k_eq, k_neg, nI_add, nI_mul, k_clt, k_cgt, k_cle, k_cge, k_ceq, bI_0, k_sh8, ne_eq, Nat.add_eq_zero_iff, Nat.one_ne_zero, Nat.succ_ne_zero, and_false, false_and, not_false_eq_true, not_true_eq_false, ite_true, ite_false, if_true, if_false, t6, t7]
        · rw [if_neg t7]
          simp (disch := omega) only [q_110_62, q_110_63, q_110_65, q_110_68, q_110_69, q_110_71, q_110_74, q_110_76, q_110_79, q_110_81, q_110_84, q_110_85, q_110_87, q_110_90, o_is, o_ob, ↓reduceIte, k_cr, k_ci, k_oR, k_oN, k_aR, k_aN, and_true, true_and, and_self, eq_self, Nat.reduceLT, Nat.reduceLeDiff, Nat.reduceEqDiff, Nat.reduceAdd, Nat.reduceMul, Bool.true_eq_false, Bool.false_eq_true, Nat.add_sub_cancel, Nat.not_lt_zero, Nat.zero_le, k_sub, k_sb1, k_r, k_n, k_ret, k_t1, k_t0, k_nr, k_nn, k_z0, k_z1, k_zb, x_okI, lit_nI, k_in, k_cl, k_lt, k_le, k_eq, k_neg, nI_add, nI_mul, k_clt, k_cgt, k_cle, k_cge, k_ceq, bI_0, k_sh8, ne_eq, Nat.add_eq_zero_iff, Nat.one_ne_zero, Nat.succ_ne_zero, and_false, false_and, not_false_eq_true, not_true_eq_false, ite_true, ite_false, if_true, if_false, t6, t7, eF]
