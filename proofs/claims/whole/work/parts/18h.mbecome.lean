/-! The reference: wholeOf, doubleOfFloat, become. -/
theorem and_p (n i : Nat) : n &&& 2 ^ i = if n.testBit i = true then 2 ^ i else 0 := by
  apply Nat.eq_of_testBit_eq
  intro j
  rw [Nat.testBit_and, Nat.testBit_two_pow]
  by_cases hi : i = j
  · subst hi
    cases n.testBit i
    · rw [if_neg (by decide), Nat.zero_testBit]
      rfl
    · rw [if_pos rfl, Nat.testBit_two_pow]
      rfl
  · rw [decide_eq_false hi, Bool.and_false]
    split
    · rw [Nat.testBit_two_pow, decide_eq_false hi]
    · rw [Nat.zero_testBit]
/-- an int's range -/
theorem i_un {x : Int64} (h : x.toInt32.toInt64 = x) : if x < 0 then 18446744071562067968 ≤ un x else un x < 2147483648 := by
  have h1 := is_i x
  have h2 : inL x (-2147483648) 2147483647 = true := by
    rw [← h1]
    exact h.symm
  rw [inL_iff, show (-2147483648 : Int64).toInt = -2147483648 by decide, show (2147483647 : Int64).toInt = 2147483647 by decide] at h2
  have h3 := un_int x
  have h4 := un_lt x
  by_cases c : x < 0
  · have := sN_neg c
    rw [if_pos c]
    rw [if_neg (by omega)] at h3
    omega
  · have := sN_pos c
    rw [if_neg c]
    rw [if_pos (by omega)] at h3
    omega
theorem sg_f {x : Int64} (h : x.toInt32.toInt64 = x) : lS (x &&& 2147483648) 32 = x &&& (-9223372036854775808) := by
  apply un_inj
  have h1 := i_un h
  have h4 := un_lt x
  rw [un_lS, un_sg, un_and, show un 2147483648 = 2 ^ 31 by decide, and_p]
  by_cases c : x < 0
  · rw [if_pos c] at h1
    have : (un x).testBit 31 = true := by
      rw [Nat.testBit_eq_decide_div_mod_eq]
      apply decide_eq_true
      omega
    rw [this, if_pos c, if_pos rfl]
  · rw [if_neg c] at h1
    have : (un x).testBit 31 = false := by
      rw [Nat.testBit_eq_decide_div_mod_eq]
      apply decide_eq_false
      omega
    rw [this, if_neg c, if_neg (by decide)]
theorem fr_id {y : Int64} (h : un y < 4503599627370496) : y &&& 4503599627370495 = y := by
  apply un_inj
  rw [un_fr]
  exact Nat.mod_eq_of_lt h
theorem m_doubleOfFloat (d : Nat) (h : xH) (x : Int64) (hx : x.toInt32.toInt64 = x) : xm (d + 2) 186 [.long x] h = some (some (.long (wid x)), h) := by
  rw [E_186]
  unfold wid
  have h8 : xE8 x < 256 := Nat.mod_lt _ (by decide)
  have hg := sg_f hx
  by_cases c1 : xE8 x = 255
  · rw [if_pos c1]
    by_cases c2 : xM8 x = 0
    · rw [if_pos c2]
      unfold xM8 at c2
      simp (disch := omega) only [q_186_0, q_186_1, q_186_4, q_186_5, q_186_7, q_186_8, q_186_9, q_186_10, q_186_12, q_186_13, q_186_14, q_186_17, q_186_18, q_186_20, q_186_21, q_186_24, q_186_25, q_186_27, q_186_29, q_186_32, q_186_35, q_186_37, q_186_38, q_186_39, q_186_42, q_186_45, q_186_48, q_186_49, q_186_52, q_186_53, q_186_54, q_186_56, q_186_59, q_186_60, q_186_62, q_186_65, q_186_66, q_186_67, q_186_69, q_186_70, q_186_71, q_186_73, q_186_75, q_186_76, q_186_77, q_186_78, q_186_80, q_186_81, q_186_82, q_186_85, q_186_86, q_186_87, q_186_89, q_186_92, q_186_94, q_186_95, q_186_97, q_186_100, q_186_101, q_186_102, q_186_104, q_186_105, q_186_106, q_186_108, q_186_110, q_186_112, q_186_113, q_186_114, q_186_117, q_186_118, q_186_119, o_is, o_ob, ↓reduceIte, k_cr, k_ci, k_oR, k_oN, k_aR, k_aN, and_true, true_and, and_self, eq_self, Nat.reduceLT, Nat.reduceLeDiff, Nat.reduceEqDiff, Nat.reduceAdd, Nat.reduceMul, Bool.true_eq_false, Bool.false_eq_true, Nat.add_sub_cancel, Nat.not_lt_zero, Nat.zero_le, k_sub, k_sb1, k_r, k_n, k_ret, k_t1, k_t0, k_nr, k_nn, k_z0, k_z1, k_zb, x_okI, lit_nI, k_in, k_cl, k_lt, k_le, k_eq, k_neg, nI_add, nI_mul, k_clt, k_cgt, k_cle, k_cge, k_ceq, bI_0, k_sh8, ne_eq, Nat.add_eq_zero_iff, Nat.one_ne_zero, Nat.succ_ne_zero, and_false, false_and, not_false_eq_true, not_true_eq_false, ite_true, ite_false, if_true, if_false, k_rS, k_lS, hg, ex_8, c1, c2]
    · rw [if_neg c2]
      unfold xM8 at c2
      simp (disch := omega) only [q_186_0, q_186_1, q_186_4, q_186_5, q_186_7, q_186_8, q_186_9, q_186_10, q_186_12, q_186_13, q_186_14, q_186_17, q_186_18, q_186_20, q_186_21, q_186_24, q_186_25, q_186_27, q_186_29, q_186_32, q_186_35, q_186_37, q_186_38, q_186_39, q_186_42, q_186_45, q_186_48, q_186_49, q_186_52, q_186_53, q_186_54, q_186_56, q_186_59, q_186_60, q_186_62, q_186_65, q_186_66, q_186_67, q_186_69, q_186_70, q_186_71, q_186_73, q_186_75, q_186_76, q_186_77, q_186_78, q_186_80, q_186_81, q_186_82, q_186_85, q_186_86, q_186_87, q_186_89, q_186_92, q_186_94, q_186_95, q_186_97, q_186_100, q_186_101, q_186_102, q_186_104, q_186_105, q_186_106, q_186_108, q_186_110, q_186_112, q_186_113, q_186_114, q_186_117, q_186_118, q_186_119, o_is, o_ob, ↓reduceIte, k_cr, k_ci, k_oR, k_oN, k_aR, k_aN, and_true, true_and, and_self, eq_self, Nat.reduceLT, Nat.reduceLeDiff, Nat.reduceEqDiff, Nat.reduceAdd, Nat.reduceMul, Bool.true_eq_false, Bool.false_eq_true, Nat.add_sub_cancel, Nat.not_lt_zero, Nat.zero_le, k_sub, k_sb1, k_r, k_n, k_ret, k_t1, k_t0, k_nr, k_nn, k_z0, k_z1, k_zb, x_okI, lit_nI, k_in, k_cl, k_lt, k_le, k_eq, k_neg, nI_add, nI_mul, k_clt, k_cgt, k_cle, k_cge, k_ceq, bI_0, k_sh8, ne_eq, Nat.add_eq_zero_iff, Nat.one_ne_zero, Nat.succ_ne_zero, and_false, false_and, not_false_eq_true, not_true_eq_false, ite_true, ite_false, if_true, if_false, k_rS, k_lS, hg, ex_8, c1, c2]
  · rw [if_neg c1]
    by_cases c3 : xE8 x = 0
    · by_cases c2 : xM8 x = 0
      · rw [if_pos ⟨c3, c2⟩]
        unfold xM8 at c2
        simp (disch := omega) only [q_186_0, q_186_1, q_186_4, q_186_5, q_186_7, q_186_8, q_186_9, q_186_10, q_186_12, q_186_13, q_186_14, q_186_17, q_186_18, q_186_20, q_186_21, q_186_24, q_186_25, q_186_27, q_186_29, q_186_32, q_186_35, q_186_37, q_186_38, q_186_39, q_186_42, q_186_45, q_186_48, q_186_49, q_186_52, q_186_53, q_186_54, q_186_56, q_186_59, q_186_60, q_186_62, q_186_65, q_186_66, q_186_67, q_186_69, q_186_70, q_186_71, q_186_73, q_186_75, q_186_76, q_186_77, q_186_78, q_186_80, q_186_81, q_186_82, q_186_85, q_186_86, q_186_87, q_186_89, q_186_92, q_186_94, q_186_95, q_186_97, q_186_100, q_186_101, q_186_102, q_186_104, q_186_105, q_186_106, q_186_108, q_186_110, q_186_112, q_186_113, q_186_114, q_186_117, q_186_118, q_186_119, o_is, o_ob, ↓reduceIte, k_cr, k_ci, k_oR, k_oN, k_aR, k_aN, and_true, true_and, and_self, eq_self, Nat.reduceLT, Nat.reduceLeDiff, Nat.reduceEqDiff, Nat.reduceAdd, Nat.reduceMul, Bool.true_eq_false, Bool.false_eq_true, Nat.add_sub_cancel, Nat.not_lt_zero, Nat.zero_le, k_sub, k_sb1, k_r, k_n, k_ret, k_t1, k_t0, k_nr, k_nn, k_z0, k_z1, k_zb, x_okI, lit_nI, k_in, k_cl, k_lt, k_le, k_eq, k_neg, nI_add, nI_mul, k_clt, k_cgt, k_cle, k_cge, k_ceq, bI_0, k_sh8, ne_eq, Nat.add_eq_zero_iff, Nat.one_ne_zero, Nat.succ_ne_zero, and_false, false_and, not_false_eq_true, not_true_eq_false, ite_true, ite_false, if_true, if_false, k_rS, k_lS, hg, ex_8, c1, c2, c3, Nat.le_refl]
      · have e1 := m_top d h (xM8 x)
        have ht := (M8_tp c2).1
        rw [if_neg (fun z => c2 z.2)]
        unfold wiP wiT
        rw [if_pos c3, if_pos c3]
        unfold xM8 at c2 e1 ht
        unfold xM8
        simp (disch := omega) only [q_186_0, q_186_1, q_186_4, q_186_5, q_186_7, q_186_8, q_186_9, q_186_10, q_186_12, q_186_13, q_186_14, q_186_17, q_186_18, q_186_20, q_186_21, q_186_24, q_186_25, q_186_27, q_186_29, q_186_32, q_186_35, q_186_37, q_186_38, q_186_39, q_186_42, q_186_45, q_186_48, q_186_49, q_186_52, q_186_53, q_186_54, q_186_56, q_186_59, q_186_60, q_186_62, q_186_65, q_186_66, q_186_67, q_186_69, q_186_70, q_186_71, q_186_73, q_186_75, q_186_76, q_186_77, q_186_78, q_186_80, q_186_81, q_186_82, q_186_85, q_186_86, q_186_87, q_186_89, q_186_92, q_186_94, q_186_95, q_186_97, q_186_100, q_186_101, q_186_102, q_186_104, q_186_105, q_186_106, q_186_108, q_186_110, q_186_112, q_186_113, q_186_114, q_186_117, q_186_118, q_186_119, o_is, o_ob, ↓reduceIte, k_cr, k_ci, k_oR, k_oN, k_aR, k_aN, and_true, true_and, and_self, eq_self, Nat.reduceLT, Nat.reduceLeDiff, Nat.reduceEqDiff, Nat.reduceAdd, Nat.reduceMul, Bool.true_eq_false, Bool.false_eq_true, Nat.add_sub_cancel, Nat.not_lt_zero, Nat.zero_le, k_sub, k_sb1, k_r, k_n, k_ret, k_t1, k_t0, k_nr, k_nn, k_z0, k_z1, k_zb, x_okI, lit_nI, k_in, k_cl, k_lt, k_le, k_eq, k_neg, nI_add, nI_mul, k_clt, k_cgt, k_cle, k_cge, k_ceq, bI_0, k_sh8, ne_eq, Nat.add_eq_zero_iff, Nat.one_ne_zero, Nat.succ_ne_zero, and_false, false_and, not_false_eq_true, not_true_eq_false, ite_true, ite_false, if_true, if_false, k_rS, k_lS, hg, ex_8, c1, c2, c3, e1, Nat.le_refl]
    · have c4 : ¬ xE8 x ≤ 0 := by omega
      rw [if_neg (fun z => c3 z.1)]
      unfold wiP wiT
      rw [if_neg c3, if_neg c3, fr_id (by
        have := un_M8 x
        rw [un_lS, show 52 - 23 = 29 from rfl]
        omega)]
      unfold xM8
      rw [show 52 - 23 = 29 from rfl]
      simp (disch := omega) only [q_186_0, q_186_1, q_186_4, q_186_5, q_186_7, q_186_8, q_186_9, q_186_10, q_186_12, q_186_13, q_186_14, q_186_17, q_186_18, q_186_20, q_186_21, q_186_24, q_186_25, q_186_27, q_186_29, q_186_32, q_186_35, q_186_37, q_186_38, q_186_39, q_186_42, q_186_45, q_186_48, q_186_49, q_186_52, q_186_53, q_186_54, q_186_56, q_186_59, q_186_60, q_186_62, q_186_65, q_186_66, q_186_67, q_186_69, q_186_70, q_186_71, q_186_73, q_186_75, q_186_76, q_186_77, q_186_78, q_186_80, q_186_81, q_186_82, q_186_85, q_186_86, q_186_87, q_186_89, q_186_92, q_186_94, q_186_95, q_186_97, q_186_100, q_186_101, q_186_102, q_186_104, q_186_105, q_186_106, q_186_108, q_186_110, q_186_112, q_186_113, q_186_114, q_186_117, q_186_118, q_186_119, o_is, o_ob, ↓reduceIte, k_cr, k_ci, k_oR, k_oN, k_aR, k_aN, and_true, true_and, and_self, eq_self, Nat.reduceLT, Nat.reduceLeDiff, Nat.reduceEqDiff, Nat.reduceAdd, Nat.reduceMul, Bool.true_eq_false, Bool.false_eq_true, Nat.add_sub_cancel, Nat.not_lt_zero, Nat.zero_le, k_sub, k_sb1, k_r, k_n, k_ret, k_t1, k_t0, k_nr, k_nn, k_z0, k_z1, k_zb, x_okI, lit_nI, k_in, k_cl, k_lt, k_le, k_eq, k_neg, nI_add, nI_mul, k_clt, k_cgt, k_cle, k_cge, k_ceq, bI_0, k_sh8, ne_eq, Nat.add_eq_zero_iff, Nat.one_ne_zero, Nat.succ_ne_zero, and_false, false_and, not_false_eq_true, not_true_eq_false, ite_true, ite_false, if_true, if_false, k_rS, k_lS, hg, ex_8, c1, c4]
theorem in_sub {e : Nat} (he : e < 1075) : inL (nI e - nI 1075).toInt64 (-52) 10 = decide (1023 ≤ e) := by
  have h0 : (nI e - nI 1075).toInt64.toInt = (e : Int) - 1075 := by
    rw [Int32.toInt_toInt64, sb_int (by omega) (by omega)]
    rfl
  have h1 := inL_iff (nI e - nI 1075).toInt64 (-52) 10
  rw [h0, show (-52 : Int64).toInt = -52 by decide, show (10 : Int64).toInt = 10 by decide] at h1
  cases hc : inL (nI e - nI 1075).toInt64 (-52) 10 with
  | true =>
    rw [hc] at h1
    have h2 : (-52 : Int) ≤ (e : Int) - 1075 ∧ (e : Int) - 1075 ≤ 10 := by
      rw [← h1]
    rw [decide_eq_true (show 1023 ≤ e by omega)]
  | false =>
    rw [hc] at h1
    have h2 : ¬ ((-52 : Int) ≤ (e : Int) - 1075 ∧ (e : Int) - 1075 ≤ 10) := by
      rw [← h1]
      decide
    rw [decide_eq_false (show ¬ 1023 ≤ e by omega)]
theorem in_pos {e : Nat} (he : e < 1000000) : inL (nI e).toInt64 (-52) 10 = decide (e ≤ 10) := by
  have h0 : (nI e).toInt64.toInt = (e : Int) := by
    rw [Int32.toInt_toInt64, nI_toInt (by omega)]
  have h1 := inL_iff (nI e).toInt64 (-52) 10
  rw [h0, show (-52 : Int64).toInt = -52 by decide, show (10 : Int64).toInt = 10 by decide] at h1
  cases hc : inL (nI e).toInt64 (-52) 10 with
  | true =>
    rw [hc] at h1
    have h2 : (-52 : Int) ≤ (e : Int) ∧ (e : Int) ≤ 10 := by
      rw [← h1]
    rw [decide_eq_true (show e ≤ 10 by omega)]
  | false =>
    rw [hc] at h1
    have h2 : ¬ ((-52 : Int) ≤ (e : Int) ∧ (e : Int) ≤ 10) := by
      rw [← h1]
      decide
    rw [decide_eq_false (show ¬ e ≤ 10 by omega)]
theorem m_wholeOf (d : Nat) (h : xH) (M : Nat) (S : gS) (x : Int64) : xm (d + 2) 187 [.ref M, .long x] (oh 11 h M S) = some (some (.long (if wlH x = true then wlO x else 0)), oh 11 h M (exS S (wlH x))) := by
  rw [E_187 _ _ _ _ rfl]
  have he := eF_lt x
  have hf := fF_lt x
  by_cases h0 : x = 0
  · subst h0
    have hb : wlH 0 = true := by decide
    have ho : wlO 0 = 0 := by decide
    unfold exS
    rw [hb, ho, if_pos rfl, if_pos rfl]
    simp (disch := omega) only [q_187_0, q_187_1, q_187_3, q_187_4, q_187_5, q_187_8, q_187_9, q_187_10, q_187_11, q_187_14, q_187_15, q_187_18, q_187_19, q_187_21, q_187_22, q_187_23, q_187_24, q_187_27, q_187_28, q_187_29, q_187_30, q_187_33, q_187_36, q_187_37, q_187_38, q_187_39, q_187_42, q_187_44, q_187_47, q_187_48, q_187_51, q_187_54, q_187_55, q_187_56, q_187_59, q_187_60, q_187_62, q_187_64, q_187_65, q_187_68, q_187_71, q_187_74, q_187_77, q_187_79, q_187_82, q_187_84, q_187_86, q_187_87, q_187_88, q_187_90, q_187_91, q_187_92, q_187_94, q_187_95, q_187_98, q_187_99, q_187_100, q_187_103, q_187_104, q_187_105, q_187_107, q_187_110, q_187_112, q_187_114, q_187_115, q_187_116, q_187_119, q_187_121, q_187_123, q_187_124, q_187_126, q_187_127, q_187_128, q_187_129, q_187_132, q_187_134, q_187_135, q_187_138, q_187_140, og_11_27, op_11_27, o_is, o_ob, ofs_len11, ↓reduceIte, k_cr, k_ci, k_oR, k_oN, k_aR, k_aN, and_true, true_and, and_self, eq_self, Nat.reduceLT, Nat.reduceLeDiff, Nat.reduceEqDiff, Nat.reduceAdd, Nat.reduceMul, Bool.true_eq_false, Bool.false_eq_true, Nat.add_sub_cancel, Nat.not_lt_zero, Nat.zero_le, k_sub, k_sb1, k_r, k_n, k_ret, k_t1, k_t0, k_nr, k_nn, k_z0, k_z1, k_zb, x_okI, lit_nI, k_in, k_cl, k_lt, k_le, k_eq, k_neg, nI_add, nI_mul, k_clt, k_cgt, k_cle, k_cge, k_ceq, bI_0, k_sh8, ne_eq, Nat.add_eq_zero_iff, Nat.one_ne_zero, Nat.succ_ne_zero, and_false, false_and, not_false_eq_true, not_true_eq_false, ite_true, ite_false, if_true, if_false, k_rS, ex_f]
  · have uh := un_hid x
    have h1086 := hd_0 x
    unfold hid at h1086
    by_cases c1 : 1075 ≤ eF x
    · have i1 : xm (d + 1) 127 [.long (nI (eF x - 1075)).toInt64, .long (-52), .long 10] (oh 11 h M S) = some (some (.int (bI (decide (eF x - 1075 ≤ 10)))), oh 11 h M S) := by
        rw [m_inL, in_pos (by omega)]
      by_cases c2 : eF x = 1086
      · have hb : wlH x = (decide (x < 0) && decide (fF x = 0)) := by
          unfold wlH
          rw [if_neg (by omega), if_pos c2]
        rw [decide_eq_false (show ¬ eF x - 1075 ≤ 10 by omega), bI_f, c2] at i1
        by_cases c3 : x < 0
        · have c4 : ¬ (0 : Int64) ≤ x := Int64.not_le.mpr c3
          by_cases c5 : fF x = 0
          · rw [decide_eq_true c3, decide_eq_true c5] at hb
            have ho : wlO x = -9223372036854775808 := by
              have hh := hd_0 x
              have hh2 : hid x = 4503599627370496 := by
                rw [hh]
                exact c5
              unfold wlO wlS
              rw [if_neg (by omega), if_pos c3, if_pos c1, hh2, c2]
              decide
            unfold exS
            rw [hb, ho]
            simp (disch := omega) only [q_187_0, q_187_1, q_187_3, q_187_4, q_187_5, q_187_8, q_187_9, q_187_10, q_187_11, q_187_14, q_187_15, q_187_18, q_187_19, q_187_21, q_187_22, q_187_23, q_187_24, q_187_27, q_187_28, q_187_29, q_187_30, q_187_33, q_187_36, q_187_37, q_187_38, q_187_39, q_187_42, q_187_44, q_187_47, q_187_48, q_187_51, q_187_54, q_187_55, q_187_56, q_187_59, q_187_60, q_187_62, q_187_64, q_187_65, q_187_68, q_187_71, q_187_74, q_187_77, q_187_79, q_187_82, q_187_84, q_187_86, q_187_87, q_187_88, q_187_90, q_187_91, q_187_92, q_187_94, q_187_95, q_187_98, q_187_99, q_187_100, q_187_103, q_187_104, q_187_105, q_187_107, q_187_110, q_187_112, q_187_114, q_187_115, q_187_116, q_187_119, q_187_121, q_187_123, q_187_124, q_187_126, q_187_127, q_187_128, q_187_129, q_187_132, q_187_134, q_187_135, q_187_138, q_187_140, og_11_27, op_11_27, o_is, o_ob, ofs_len11, ↓reduceIte, k_cr, k_ci, k_oR, k_oN, k_aR, k_aN, and_true, true_and, and_self, eq_self, Nat.reduceLT, Nat.reduceLeDiff, Nat.reduceEqDiff, Nat.reduceAdd, Nat.reduceMul, Bool.true_eq_false, Bool.false_eq_true, Nat.add_sub_cancel, Nat.not_lt_zero, Nat.zero_le, k_sub, k_sb1, k_r, k_n, k_ret, k_t1, k_t0, k_nr, k_nn, k_z0, k_z1, k_zb, x_okI, lit_nI, k_in, k_cl, k_lt, k_le, k_eq, k_neg, nI_add, nI_mul, k_clt, k_cgt, k_cle, k_cge, k_ceq, bI_0, k_sh8, ne_eq, Nat.add_eq_zero_iff, Nat.one_ne_zero, Nat.succ_ne_zero, and_false, false_and, not_false_eq_true, not_true_eq_false, ite_true, ite_false, if_true, if_false, k_rS, ex_f, h0, c2, c4, h1086, c5, Bool.and_self]
          · rw [decide_eq_true c3, decide_eq_false c5] at hb
            unfold exS
            rw [hb, if_neg (by decide), if_neg (by decide)]
            simp (disch := omega) only [q_187_0, q_187_1, q_187_3, q_187_4, q_187_5, q_187_8, q_187_9, q_187_10, q_187_11, q_187_14, q_187_15, q_187_18, q_187_19, q_187_21, q_187_22, q_187_23, q_187_24, q_187_27, q_187_28, q_187_29, q_187_30, q_187_33, q_187_36, q_187_37, q_187_38, q_187_39, q_187_42, q_187_44, q_187_47, q_187_48, q_187_51, q_187_54, q_187_55, q_187_56, q_187_59, q_187_60, q_187_62, q_187_64, q_187_65, q_187_68, q_187_71, q_187_74, q_187_77, q_187_79, q_187_82, q_187_84, q_187_86, q_187_87, q_187_88, q_187_90, q_187_91, q_187_92, q_187_94, q_187_95, q_187_98, q_187_99, q_187_100, q_187_103, q_187_104, q_187_105, q_187_107, q_187_110, q_187_112, q_187_114, q_187_115, q_187_116, q_187_119, q_187_121, q_187_123, q_187_124, q_187_126, q_187_127, q_187_128, q_187_129, q_187_132, q_187_134, q_187_135, q_187_138, q_187_140, og_11_27, op_11_27, o_is, o_ob, ofs_len11, ↓reduceIte, k_cr, k_ci, k_oR, k_oN, k_aR, k_aN, and_true, true_and, and_self, eq_self, Nat.reduceLT, Nat.reduceLeDiff, Nat.reduceEqDiff, Nat.reduceAdd, Nat.reduceMul, Bool.true_eq_false, Bool.false_eq_true, Nat.add_sub_cancel, Nat.not_lt_zero, Nat.zero_le, k_sub, k_sb1, k_r, k_n, k_ret, k_t1, k_t0, k_nr, k_nn, k_z0, k_z1, k_zb, x_okI, lit_nI, k_in, k_cl, k_lt, k_le, k_eq, k_neg, nI_add, nI_mul, k_clt, k_cgt, k_cle, k_cge, k_ceq, bI_0, k_sh8, ne_eq, Nat.add_eq_zero_iff, Nat.one_ne_zero, Nat.succ_ne_zero, and_false, false_and, not_false_eq_true, not_true_eq_false, ite_true, ite_false, if_true, if_false, k_rS, ex_f, h0, c2, c4, h1086, c5, i1, Nat.reduceSub]
        · have c4 : (0 : Int64) ≤ x := Int64.not_lt.mp c3
          rw [decide_eq_false c3, Bool.false_and] at hb
          unfold exS
          rw [hb, if_neg (by decide), if_neg (by decide)]
          simp (disch := omega) only [q_187_0, q_187_1, q_187_3, q_187_4, q_187_5, q_187_8, q_187_9, q_187_10, q_187_11, q_187_14, q_187_15, q_187_18, q_187_19, q_187_21, q_187_22, q_187_23, q_187_24, q_187_27, q_187_28, q_187_29, q_187_30, q_187_33, q_187_36, q_187_37, q_187_38, q_187_39, q_187_42, q_187_44, q_187_47, q_187_48, q_187_51, q_187_54, q_187_55, q_187_56, q_187_59, q_187_60, q_187_62, q_187_64, q_187_65, q_187_68, q_187_71, q_187_74, q_187_77, q_187_79, q_187_82, q_187_84, q_187_86, q_187_87, q_187_88, q_187_90, q_187_91, q_187_92, q_187_94, q_187_95, q_187_98, q_187_99, q_187_100, q_187_103, q_187_104, q_187_105, q_187_107, q_187_110, q_187_112, q_187_114, q_187_115, q_187_116, q_187_119, q_187_121, q_187_123, q_187_124, q_187_126, q_187_127, q_187_128, q_187_129, q_187_132, q_187_134, q_187_135, q_187_138, q_187_140, og_11_27, op_11_27, o_is, o_ob, ofs_len11, ↓reduceIte, k_cr, k_ci, k_oR, k_oN, k_aR, k_aN, and_true, true_and, and_self, eq_self, Nat.reduceLT, Nat.reduceLeDiff, Nat.reduceEqDiff, Nat.reduceAdd, Nat.reduceMul, Bool.true_eq_false, Bool.false_eq_true, Nat.add_sub_cancel, Nat.not_lt_zero, Nat.zero_le, k_sub, k_sb1, k_r, k_n, k_ret, k_t1, k_t0, k_nr, k_nn, k_z0, k_z1, k_zb, x_okI, lit_nI, k_in, k_cl, k_lt, k_le, k_eq, k_neg, nI_add, nI_mul, k_clt, k_cgt, k_cle, k_cge, k_ceq, bI_0, k_sh8, ne_eq, Nat.add_eq_zero_iff, Nat.one_ne_zero, Nat.succ_ne_zero, and_false, false_and, not_false_eq_true, not_true_eq_false, ite_true, ite_false, if_true, if_false, k_rS, ex_f, h0, c2, c4, i1, Nat.reduceSub]
      · by_cases c3 : eF x ≤ 1085
        · have hb : wlH x = true := by
            unfold wlH
            rw [if_neg (by omega), if_neg c2, decide_eq_true c1]
            rfl
          have ho : wlO x = if x < 0 then -lS ((x &&& 4503599627370495) ||| 4503599627370496) (eF x - 1075) else lS ((x &&& 4503599627370495) ||| 4503599627370496) (eF x - 1075) := by
            unfold wlO wlS hid
            rw [if_neg (by omega), if_pos c1]
          rw [decide_eq_true (show eF x - 1075 ≤ 10 by omega), bI_t] at i1
          unfold exS
          rw [hb, ho, if_pos rfl, if_pos rfl]
          by_cases c5 : x < 0
          · have c4 : ¬ (0 : Int64) ≤ x := Int64.not_le.mpr c5
            rw [if_pos c5]
            simp (disch := omega) only [q_187_0, q_187_1, q_187_3, q_187_4, q_187_5, q_187_8, q_187_9, q_187_10, q_187_11, q_187_14, q_187_15, q_187_18, q_187_19, q_187_21, q_187_22, q_187_23, q_187_24, q_187_27, q_187_28, q_187_29, q_187_30, q_187_33, q_187_36, q_187_37, q_187_38, q_187_39, q_187_42, q_187_44, q_187_47, q_187_48, q_187_51, q_187_54, q_187_55, q_187_56, q_187_59, q_187_60, q_187_62, q_187_64, q_187_65, q_187_68, q_187_71, q_187_74, q_187_77, q_187_79, q_187_82, q_187_84, q_187_86, q_187_87, q_187_88, q_187_90, q_187_91, q_187_92, q_187_94, q_187_95, q_187_98, q_187_99, q_187_100, q_187_103, q_187_104, q_187_105, q_187_107, q_187_110, q_187_112, q_187_114, q_187_115, q_187_116, q_187_119, q_187_121, q_187_123, q_187_124, q_187_126, q_187_127, q_187_128, q_187_129, q_187_132, q_187_134, q_187_135, q_187_138, q_187_140, og_11_27, op_11_27, o_is, o_ob, ofs_len11, ↓reduceIte, k_cr, k_ci, k_oR, k_oN, k_aR, k_aN, and_true, true_and, and_self, eq_self, Nat.reduceLT, Nat.reduceLeDiff, Nat.reduceEqDiff, Nat.reduceAdd, Nat.reduceMul, Bool.true_eq_false, Bool.false_eq_true, Nat.add_sub_cancel, Nat.not_lt_zero, Nat.zero_le, k_sub, k_sb1, k_r, k_n, k_ret, k_t1, k_t0, k_nr, k_nn, k_z0, k_z1, k_zb, x_okI, lit_nI, k_in, k_cl, k_lt, k_le, k_eq, k_neg, nI_add, nI_mul, k_clt, k_cgt, k_cle, k_cge, k_ceq, bI_0, k_sh8, ne_eq, Nat.add_eq_zero_iff, Nat.one_ne_zero, Nat.succ_ne_zero, and_false, false_and, not_false_eq_true, not_true_eq_false, ite_true, ite_false, if_true, if_false, k_rS, k_lS, ex_f, h0, c2, c4, i1]
          · have c4 : (0 : Int64) ≤ x := Int64.not_lt.mp c5
            rw [if_neg c5]
            simp (disch := omega) only [q_187_0, q_187_1, q_187_3, q_187_4, q_187_5, q_187_8, q_187_9, q_187_10, q_187_11, q_187_14, q_187_15, q_187_18, q_187_19, q_187_21, q_187_22, q_187_23, q_187_24, q_187_27, q_187_28, q_187_29, q_187_30, q_187_33, q_187_36, q_187_37, q_187_38, q_187_39, q_187_42, q_187_44, q_187_47, q_187_48, q_187_51, q_187_54, q_187_55, q_187_56, q_187_59, q_187_60, q_187_62, q_187_64, q_187_65, q_187_68, q_187_71, q_187_74, q_187_77, q_187_79, q_187_82, q_187_84, q_187_86, q_187_87, q_187_88, q_187_90, q_187_91, q_187_92, q_187_94, q_187_95, q_187_98, q_187_99, q_187_100, q_187_103, q_187_104, q_187_105, q_187_107, q_187_110, q_187_112, q_187_114, q_187_115, q_187_116, q_187_119, q_187_121, q_187_123, q_187_124, q_187_126, q_187_127, q_187_128, q_187_129, q_187_132, q_187_134, q_187_135, q_187_138, q_187_140, og_11_27, op_11_27, o_is, o_ob, ofs_len11, ↓reduceIte, k_cr, k_ci, k_oR, k_oN, k_aR, k_aN, and_true, true_and, and_self, eq_self, Nat.reduceLT, Nat.reduceLeDiff, Nat.reduceEqDiff, Nat.reduceAdd, Nat.reduceMul, Bool.true_eq_false, Bool.false_eq_true, Nat.add_sub_cancel, Nat.not_lt_zero, Nat.zero_le, k_sub, k_sb1, k_r, k_n, k_ret, k_t1, k_t0, k_nr, k_nn, k_z0, k_z1, k_zb, x_okI, lit_nI, k_in, k_cl, k_lt, k_le, k_eq, k_neg, nI_add, nI_mul, k_clt, k_cgt, k_cle, k_cge, k_ceq, bI_0, k_sh8, ne_eq, Nat.add_eq_zero_iff, Nat.one_ne_zero, Nat.succ_ne_zero, and_false, false_and, not_false_eq_true, not_true_eq_false, ite_true, ite_false, if_true, if_false, k_rS, k_lS, ex_f, h0, c2, c4, i1]
        · have hb : wlH x = false := by
            unfold wlH
            rw [if_pos (by omega), decide_eq_false h0]
          rw [decide_eq_false (show ¬ eF x - 1075 ≤ 10 by omega), bI_f] at i1
          unfold exS
          rw [hb, if_neg (by decide), if_neg (by decide)]
          simp (disch := omega) only [q_187_0, q_187_1, q_187_3, q_187_4, q_187_5, q_187_8, q_187_9, q_187_10, q_187_11, q_187_14, q_187_15, q_187_18, q_187_19, q_187_21, q_187_22, q_187_23, q_187_24, q_187_27, q_187_28, q_187_29, q_187_30, q_187_33, q_187_36, q_187_37, q_187_38, q_187_39, q_187_42, q_187_44, q_187_47, q_187_48, q_187_51, q_187_54, q_187_55, q_187_56, q_187_59, q_187_60, q_187_62, q_187_64, q_187_65, q_187_68, q_187_71, q_187_74, q_187_77, q_187_79, q_187_82, q_187_84, q_187_86, q_187_87, q_187_88, q_187_90, q_187_91, q_187_92, q_187_94, q_187_95, q_187_98, q_187_99, q_187_100, q_187_103, q_187_104, q_187_105, q_187_107, q_187_110, q_187_112, q_187_114, q_187_115, q_187_116, q_187_119, q_187_121, q_187_123, q_187_124, q_187_126, q_187_127, q_187_128, q_187_129, q_187_132, q_187_134, q_187_135, q_187_138, q_187_140, og_11_27, op_11_27, o_is, o_ob, ofs_len11, ↓reduceIte, k_cr, k_ci, k_oR, k_oN, k_aR, k_aN, and_true, true_and, and_self, eq_self, Nat.reduceLT, Nat.reduceLeDiff, Nat.reduceEqDiff, Nat.reduceAdd, Nat.reduceMul, Bool.true_eq_false, Bool.false_eq_true, Nat.add_sub_cancel, Nat.not_lt_zero, Nat.zero_le, k_sub, k_sb1, k_r, k_n, k_ret, k_t1, k_t0, k_nr, k_nn, k_z0, k_z1, k_zb, x_okI, lit_nI, k_in, k_cl, k_lt, k_le, k_eq, k_neg, nI_add, nI_mul, k_clt, k_cgt, k_cle, k_cge, k_ceq, bI_0, k_sh8, ne_eq, Nat.add_eq_zero_iff, Nat.one_ne_zero, Nat.succ_ne_zero, and_false, false_and, not_false_eq_true, not_true_eq_false, ite_true, ite_false, if_true, if_false, k_rS, k_lS, ex_f, h0, c2, i1]
    · have i1 : xm (d + 1) 127 [.long (nI (eF x) - nI 1075).toInt64, .long (-52), .long 10] (oh 11 h M S) = some (some (.int (bI (decide (1023 ≤ eF x)))), oh 11 h M S) := by
        rw [m_inL, in_sub (by omega)]
      have c2 : ¬ eF x = 1086 := by omega
      have hneg : ¬ nI 0 ≤ nI (eF x) - nI 1075 := by
        rw [sb_ge (by omega) (by omega) (by omega)]
        omega
      have hng : -(nI (eF x) - nI 1075) = nI (1075 - eF x) := by
        rw [Int32.neg_sub, k_sub (by omega)]
      by_cases c3 : 1023 ≤ eF x
      · rw [decide_eq_true c3, bI_t] at i1
        have hm := sh_0 (x := (x &&& 4503599627370495) ||| 4503599627370496) (k := 1075 - eF x) (by omega)
        rw [uh, hd_mod (by omega)] at hm
        by_cases c5 : un x % 2 ^ (1075 - eF x) = 0
        · have hb : wlH x = true := by
            unfold wlH
            rw [if_neg (by omega), if_neg c2, decide_eq_false c1, decide_eq_true c5]
            rfl
          have ho : wlO x = if x < 0 then -rS ((x &&& 4503599627370495) ||| 4503599627370496) (1075 - eF x) else rS ((x &&& 4503599627370495) ||| 4503599627370496) (1075 - eF x) := by
            unfold wlO wlS hid
            rw [if_neg (by omega), if_neg c1]
          unfold exS
          rw [hb, ho, if_pos rfl, if_pos rfl]
          by_cases c6 : x < 0
          · have c4 : ¬ (0 : Int64) ≤ x := Int64.not_le.mpr c6
            rw [if_pos c6]
            simp (disch := omega) only [q_187_0, q_187_1, q_187_3, q_187_4, q_187_5, q_187_8, q_187_9, q_187_10, q_187_11, q_187_14, q_187_15, q_187_18, q_187_19, q_187_21, q_187_22, q_187_23, q_187_24, q_187_27, q_187_28, q_187_29, q_187_30, q_187_33, q_187_36, q_187_37, q_187_38, q_187_39, q_187_42, q_187_44, q_187_47, q_187_48, q_187_51, q_187_54, q_187_55, q_187_56, q_187_59, q_187_60, q_187_62, q_187_64, q_187_65, q_187_68, q_187_71, q_187_74, q_187_77, q_187_79, q_187_82, q_187_84, q_187_86, q_187_87, q_187_88, q_187_90, q_187_91, q_187_92, q_187_94, q_187_95, q_187_98, q_187_99, q_187_100, q_187_103, q_187_104, q_187_105, q_187_107, q_187_110, q_187_112, q_187_114, q_187_115, q_187_116, q_187_119, q_187_121, q_187_123, q_187_124, q_187_126, q_187_127, q_187_128, q_187_129, q_187_132, q_187_134, q_187_135, q_187_138, q_187_140, og_11_27, op_11_27, o_is, o_ob, ofs_len11, ↓reduceIte, k_cr, k_ci, k_oR, k_oN, k_aR, k_aN, and_true, true_and, and_self, eq_self, Nat.reduceLT, Nat.reduceLeDiff, Nat.reduceEqDiff, Nat.reduceAdd, Nat.reduceMul, Bool.true_eq_false, Bool.false_eq_true, Nat.add_sub_cancel, Nat.not_lt_zero, Nat.zero_le, k_sub, k_sb1, k_r, k_n, k_ret, k_t1, k_t0, k_nr, k_nn, k_z0, k_z1, k_zb, x_okI, lit_nI, k_in, k_cl, k_lt, k_le, k_eq, k_neg, nI_add, nI_mul, k_clt, k_cgt, k_cle, k_cge, k_ceq, bI_0, k_sh8, ne_eq, Nat.add_eq_zero_iff, Nat.one_ne_zero, Nat.succ_ne_zero, and_false, false_and, not_false_eq_true, not_true_eq_false, ite_true, ite_false, if_true, if_false, k_rS, k_lS, ex_f, h0, c2, c4, i1, hneg, hng, hm, c5]
          · have c4 : (0 : Int64) ≤ x := Int64.not_lt.mp c6
            rw [if_neg c6]
            simp (disch := omega) only [q_187_0, q_187_1, q_187_3, q_187_4, q_187_5, q_187_8, q_187_9, q_187_10, q_187_11, q_187_14, q_187_15, q_187_18, q_187_19, q_187_21, q_187_22, q_187_23, q_187_24, q_187_27, q_187_28, q_187_29, q_187_30, q_187_33, q_187_36, q_187_37, q_187_38, q_187_39, q_187_42, q_187_44, q_187_47, q_187_48, q_187_51, q_187_54, q_187_55, q_187_56, q_187_59, q_187_60, q_187_62, q_187_64, q_187_65, q_187_68, q_187_71, q_187_74, q_187_77, q_187_79, q_187_82, q_187_84, q_187_86, q_187_87, q_187_88, q_187_90, q_187_91, q_187_92, q_187_94, q_187_95, q_187_98, q_187_99, q_187_100, q_187_103, q_187_104, q_187_105, q_187_107, q_187_110, q_187_112, q_187_114, q_187_115, q_187_116, q_187_119, q_187_121, q_187_123, q_187_124, q_187_126, q_187_127, q_187_128, q_187_129, q_187_132, q_187_134, q_187_135, q_187_138, q_187_140, og_11_27, op_11_27, o_is, o_ob, ofs_len11, ↓reduceIte, k_cr, k_ci, k_oR, k_oN, k_aR, k_aN, and_true, true_and, and_self, eq_self, Nat.reduceLT, Nat.reduceLeDiff, Nat.reduceEqDiff, Nat.reduceAdd, Nat.reduceMul, Bool.true_eq_false, Bool.false_eq_true, Nat.add_sub_cancel, Nat.not_lt_zero, Nat.zero_le, k_sub, k_sb1, k_r, k_n, k_ret, k_t1, k_t0, k_nr, k_nn, k_z0, k_z1, k_zb, x_okI, lit_nI, k_in, k_cl, k_lt, k_le, k_eq, k_neg, nI_add, nI_mul, k_clt, k_cgt, k_cle, k_cge, k_ceq, bI_0, k_sh8, ne_eq, Nat.add_eq_zero_iff, Nat.one_ne_zero, Nat.succ_ne_zero, and_false, false_and, not_false_eq_true, not_true_eq_false, ite_true, ite_false, if_true, if_false, k_rS, k_lS, ex_f, h0, c2, c4, i1, hneg, hng, hm, c5]
        · have hb : wlH x = false := by
            unfold wlH
            rw [if_neg (by omega), if_neg c2, decide_eq_false c1, decide_eq_false c5]
            rfl
          unfold exS
          rw [hb, if_neg (by decide), if_neg (by decide)]
          simp (disch := omega) only [q_187_0, q_187_1, q_187_3, q_187_4, q_187_5, q_187_8, q_187_9, q_187_10, q_187_11, q_187_14, q_187_15, q_187_18, q_187_19, q_187_21, q_187_22, q_187_23, q_187_24, q_187_27, q_187_28, q_187_29, q_187_30, q_187_33, q_187_36, q_187_37, q_187_38, q_187_39, q_187_42, q_187_44, q_187_47, q_187_48, q_187_51, q_187_54, q_187_55, q_187_56, q_187_59, q_187_60, q_187_62, q_187_64, q_187_65, q_187_68, q_187_71, q_187_74, q_187_77, q_187_79, q_187_82, q_187_84, q_187_86, q_187_87, q_187_88, q_187_90, q_187_91, q_187_92, q_187_94, q_187_95, q_187_98, q_187_99, q_187_100, q_187_103, q_187_104, q_187_105, q_187_107, q_187_110, q_187_112, q_187_114, q_187_115, q_187_116, q_187_119, q_187_121, q_187_123, q_187_124, q_187_126, q_187_127, q_187_128, q_187_129, q_187_132, q_187_134, q_187_135, q_187_138, q_187_140, og_11_27, op_11_27, o_is, o_ob, ofs_len11, ↓reduceIte, k_cr, k_ci, k_oR, k_oN, k_aR, k_aN, and_true, true_and, and_self, eq_self, Nat.reduceLT, Nat.reduceLeDiff, Nat.reduceEqDiff, Nat.reduceAdd, Nat.reduceMul, Bool.true_eq_false, Bool.false_eq_true, Nat.add_sub_cancel, Nat.not_lt_zero, Nat.zero_le, k_sub, k_sb1, k_r, k_n, k_ret, k_t1, k_t0, k_nr, k_nn, k_z0, k_z1, k_zb, x_okI, lit_nI, k_in, k_cl, k_lt, k_le, k_eq, k_neg, nI_add, nI_mul, k_clt, k_cgt, k_cle, k_cge, k_ceq, bI_0, k_sh8, ne_eq, Nat.add_eq_zero_iff, Nat.one_ne_zero, Nat.succ_ne_zero, and_false, false_and, not_false_eq_true, not_true_eq_false, ite_true, ite_false, if_true, if_false, k_rS, k_lS, ex_f, h0, c2, i1, hneg, hng, hm, c5]
      · have hb : wlH x = false := by
          unfold wlH
          rw [if_pos (by omega), decide_eq_false h0]
        rw [decide_eq_false c3, bI_f] at i1
        unfold exS
        rw [hb, if_neg (by decide), if_neg (by decide)]
        simp (disch := omega) only [q_187_0, q_187_1, q_187_3, q_187_4, q_187_5, q_187_8, q_187_9, q_187_10, q_187_11, q_187_14, q_187_15, q_187_18, q_187_19, q_187_21, q_187_22, q_187_23, q_187_24, q_187_27, q_187_28, q_187_29, q_187_30, q_187_33, q_187_36, q_187_37, q_187_38, q_187_39, q_187_42, q_187_44, q_187_47, q_187_48, q_187_51, q_187_54, q_187_55, q_187_56, q_187_59, q_187_60, q_187_62, q_187_64, q_187_65, q_187_68, q_187_71, q_187_74, q_187_77, q_187_79, q_187_82, q_187_84, q_187_86, q_187_87, q_187_88, q_187_90, q_187_91, q_187_92, q_187_94, q_187_95, q_187_98, q_187_99, q_187_100, q_187_103, q_187_104, q_187_105, q_187_107, q_187_110, q_187_112, q_187_114, q_187_115, q_187_116, q_187_119, q_187_121, q_187_123, q_187_124, q_187_126, q_187_127, q_187_128, q_187_129, q_187_132, q_187_134, q_187_135, q_187_138, q_187_140, og_11_27, op_11_27, o_is, o_ob, ofs_len11, ↓reduceIte, k_cr, k_ci, k_oR, k_oN, k_aR, k_aN, and_true, true_and, and_self, eq_self, Nat.reduceLT, Nat.reduceLeDiff, Nat.reduceEqDiff, Nat.reduceAdd, Nat.reduceMul, Bool.true_eq_false, Bool.false_eq_true, Nat.add_sub_cancel, Nat.not_lt_zero, Nat.zero_le, k_sub, k_sb1, k_r, k_n, k_ret, k_t1, k_t0, k_nr, k_nn, k_z0, k_z1, k_zb, x_okI, lit_nI, k_in, k_cl, k_lt, k_le, k_eq, k_neg, nI_add, nI_mul, k_clt, k_cgt, k_cle, k_cge, k_ceq, bI_0, k_sh8, ne_eq, Nat.add_eq_zero_iff, Nat.one_ne_zero, Nat.succ_ne_zero, and_false, false_and, not_false_eq_true, not_true_eq_false, ite_true, ite_false, if_true, if_false, k_rS, k_lS, ex_f, h0, c2, i1]
theorem exS_1 (S : gS) (b : Bool) : exS (uI S 27 (nI 1)) b = uI S 27 (bI b) := by
  unfold exS
  cases b
  · rw [if_neg (by decide), uI_uI]
    rfl
  · rw [if_pos rfl]
    rfl
theorem m_become (d : Nat) (h : xH) (M : Nat) (S : gS) (x : Int64) {f t : Nat} (hf : f ≤ 7) (ht : t ≤ 7) (hw : wfT f x) : ∃ y, xm (d + 3) 182 [.ref M, .long x, .int (nI f), .int (nI t)] (oh 11 h M S) = some (some (.long y), oh 11 h M (uI S 27 (bI (ftC x f t)))) ∧ (ftC x f t = true → y = tnC x f t) := by
  rw [← bcE_eq hf ht hw, E_182 _ _ _ _ _ _ rfl]
  unfold bcE tnC
  have eV := fun (S : gS) (y : Int64) => (m_fits d (oh 11 h M S) (nI t) y : xm (d + 2) 143 [.int (nI t), .long y] (oh 11 h M S) = _)
  have eD := m_doubleOf d h M (uI S 27 (nI 1)) x
  by_cases ft : f = t
  · refine ⟨x, ?_, fun _ => ?_⟩
    · rw [if_pos ft, bI_t]
      subst ft
      simp (disch := omega) only [q_182_0, q_182_1, q_182_2, q_182_5, q_182_6, q_182_8, q_182_11, q_182_12, q_182_13, q_182_14, q_182_16, q_182_19, q_182_21, q_182_23, q_182_26, q_182_27, q_182_29, q_182_30, q_182_33, q_182_36, q_182_37, q_182_38, q_182_39, q_182_40, q_182_43, q_182_45, q_182_46, q_182_49, q_182_52, q_182_54, q_182_56, q_182_59, q_182_61, q_182_64, q_182_65, q_182_67, q_182_70, q_182_71, q_182_72, q_182_74, q_182_77, q_182_78, q_182_81, q_182_84, q_182_85, q_182_87, q_182_89, q_182_91, q_182_94, q_182_96, q_182_97, q_182_99, q_182_101, q_182_104, q_182_105, q_182_107, q_182_110, q_182_111, q_182_112, q_182_114, q_182_117, q_182_119, q_182_120, q_182_121, q_182_124, q_182_127, q_182_129, q_182_131, q_182_134, q_182_137, q_182_138, q_182_141, q_182_142, q_182_145, q_182_147, og_11_27, op_11_27, o_is, o_ob, ofs_len11, ↓reduceIte, k_cr, k_ci, k_oR, k_oN, k_aR, k_aN, and_true, true_and, and_self, eq_self, Nat.reduceLT, Nat.reduceLeDiff, Nat.reduceEqDiff, Nat.reduceAdd, Nat.reduceMul, Bool.true_eq_false, Bool.false_eq_true, Nat.add_sub_cancel, Nat.not_lt_zero, Nat.zero_le, k_sub, k_sb1, k_r, k_n, k_ret, k_t1, k_t0, k_nr, k_nn, k_z0, k_z1, k_zb, x_okI, lit_nI, k_in, k_cl, k_lt, k_le, k_eq, k_neg, nI_add, nI_mul, k_clt, k_cgt, k_cle, k_cge, k_ceq, bI_0, k_sh8, ne_eq, Nat.add_eq_zero_iff, Nat.one_ne_zero, Nat.succ_ne_zero, and_false, false_and, not_false_eq_true, not_true_eq_false, ite_true, ite_false, if_true, if_false]
    · rw [if_pos (Or.inl ft)]
  · rw [if_neg ft]
    by_cases f6 : f < 6
    · have n6 : ¬ 6 ≤ f := by omega
      rw [if_pos f6]
      by_cases t6 : t < 6
      · have m6 : ¬ 6 ≤ t := by omega
        refine ⟨x, ?_, fun _ => ?_⟩
        · rw [if_pos t6]
          simp (disch := omega) only [q_182_0, q_182_1, q_182_2, q_182_5, q_182_6, q_182_8, q_182_11, q_182_12, q_182_13, q_182_14, q_182_16, q_182_19, q_182_21, q_182_23, q_182_26, q_182_27, q_182_29, q_182_30, q_182_33, q_182_36, q_182_37, q_182_38, q_182_39, q_182_40, q_182_43, q_182_45, q_182_46, q_182_49, q_182_52, q_182_54, q_182_56, q_182_59, q_182_61, q_182_64, q_182_65, q_182_67, q_182_70, q_182_71, q_182_72, q_182_74, q_182_77, q_182_78, q_182_81, q_182_84, q_182_85, q_182_87, q_182_89, q_182_91, q_182_94, q_182_96, q_182_97, q_182_99, q_182_101, q_182_104, q_182_105, q_182_107, q_182_110, q_182_111, q_182_112, q_182_114, q_182_117, q_182_119, q_182_120, q_182_121, q_182_124, q_182_127, q_182_129, q_182_131, q_182_134, q_182_137, q_182_138, q_182_141, q_182_142, q_182_145, q_182_147, og_11_27, op_11_27, o_is, o_ob, ofs_len11, ↓reduceIte, k_cr, k_ci, k_oR, k_oN, k_aR, k_aN, and_true, true_and, and_self, eq_self, Nat.reduceLT, Nat.reduceLeDiff, Nat.reduceEqDiff, Nat.reduceAdd, Nat.reduceMul, Bool.true_eq_false, Bool.false_eq_true, Nat.add_sub_cancel, Nat.not_lt_zero, Nat.zero_le, k_sub, k_sb1, k_r, k_n, k_ret, k_t1, k_t0, k_nr, k_nn, k_z0, k_z1, k_zb, x_okI, lit_nI, k_in, k_cl, k_lt, k_le, k_eq, k_neg, nI_add, nI_mul, k_clt, k_cgt, k_cle, k_cge, k_ceq, bI_0, k_sh8, ne_eq, Nat.add_eq_zero_iff, Nat.one_ne_zero, Nat.succ_ne_zero, and_false, false_and, not_false_eq_true, not_true_eq_false, ite_true, ite_false, if_true, if_false, ft, n6, m6, eV, uI_uI]
        · rw [if_pos (Or.inr ⟨f6, t6⟩)]
      · have m6 : 6 ≤ t := by omega
        rw [if_neg t6, if_neg (show ¬ (f = t ∨ f < 6 ∧ t < 6) by omega), if_pos f6]
        cases hd : dbH x with
        | false =>
          rw [hd, exS_1, bI_f] at eD
          refine ⟨0, ?_, fun q => by cases q⟩
          rw [Bool.false_and, bI_f]
          simp (disch := omega) only [q_182_0, q_182_1, q_182_2, q_182_5, q_182_6, q_182_8, q_182_11, q_182_12, q_182_13, q_182_14, q_182_16, q_182_19, q_182_21, q_182_23, q_182_26, q_182_27, q_182_29, q_182_30, q_182_33, q_182_36, q_182_37, q_182_38, q_182_39, q_182_40, q_182_43, q_182_45, q_182_46, q_182_49, q_182_52, q_182_54, q_182_56, q_182_59, q_182_61, q_182_64, q_182_65, q_182_67, q_182_70, q_182_71, q_182_72, q_182_74, q_182_77, q_182_78, q_182_81, q_182_84, q_182_85, q_182_87, q_182_89, q_182_91, q_182_94, q_182_96, q_182_97, q_182_99, q_182_101, q_182_104, q_182_105, q_182_107, q_182_110, q_182_111, q_182_112, q_182_114, q_182_117, q_182_119, q_182_120, q_182_121, q_182_124, q_182_127, q_182_129, q_182_131, q_182_134, q_182_137, q_182_138, q_182_141, q_182_142, q_182_145, q_182_147, og_11_27, op_11_27, o_is, o_ob, ofs_len11, ↓reduceIte, k_cr, k_ci, k_oR, k_oN, k_aR, k_aN, and_true, true_and, and_self, eq_self, Nat.reduceLT, Nat.reduceLeDiff, Nat.reduceEqDiff, Nat.reduceAdd, Nat.reduceMul, Bool.true_eq_false, Bool.false_eq_true, Nat.add_sub_cancel, Nat.not_lt_zero, Nat.zero_le, k_sub, k_sb1, k_r, k_n, k_ret, k_t1, k_t0, k_nr, k_nn, k_z0, k_z1, k_zb, x_okI, lit_nI, k_in, k_cl, k_lt, k_le, k_eq, k_neg, nI_add, nI_mul, k_clt, k_cgt, k_cle, k_cge, k_ceq, bI_0, k_sh8, ne_eq, Nat.add_eq_zero_iff, Nat.one_ne_zero, Nat.succ_ne_zero, and_false, false_and, not_false_eq_true, not_true_eq_false, ite_true, ite_false, if_true, if_false, sI_uI, sJ_uI, sA_uI, sL_uI, sR_uI, sQ_uI, sI_uJ, sJ_uJ, sA_uJ, sL_uJ, sR_uJ, sQ_uJ, sI_uA, sJ_uA, sA_uA, sL_uA, sR_uA, sQ_uA, sI_uL, sJ_uL, sA_uL, sL_uL, sR_uL, sQ_uL, sI_uR, sJ_uR, sA_uR, sL_uR, sR_uR, sQ_uR, sI_uQ, sJ_uQ, sA_uQ, sL_uQ, sR_uQ, sQ_uQ, ft, n6, m6, eD]
        | true =>
          rw [hd, exS_1, bI_t, if_pos rfl] at eD
          rw [Bool.true_and]
          by_cases t7 : t = 7
          · refine ⟨dbO x, ?_, fun _ => ?_⟩
            · have f7 : ¬ f = 7 := by omega
              rw [decide_eq_true t7, Bool.true_or, bI_t]
              simp (disch := omega) only [q_182_0, q_182_1, q_182_2, q_182_5, q_182_6, q_182_8, q_182_11, q_182_12, q_182_13, q_182_14, q_182_16, q_182_19, q_182_21, q_182_23, q_182_26, q_182_27, q_182_29, q_182_30, q_182_33, q_182_36, q_182_37, q_182_38, q_182_39, q_182_40, q_182_43, q_182_45, q_182_46, q_182_49, q_182_52, q_182_54, q_182_56, q_182_59, q_182_61, q_182_64, q_182_65, q_182_67, q_182_70, q_182_71, q_182_72, q_182_74, q_182_77, q_182_78, q_182_81, q_182_84, q_182_85, q_182_87, q_182_89, q_182_91, q_182_94, q_182_96, q_182_97, q_182_99, q_182_101, q_182_104, q_182_105, q_182_107, q_182_110, q_182_111, q_182_112, q_182_114, q_182_117, q_182_119, q_182_120, q_182_121, q_182_124, q_182_127, q_182_129, q_182_131, q_182_134, q_182_137, q_182_138, q_182_141, q_182_142, q_182_145, q_182_147, og_11_27, op_11_27, o_is, o_ob, ofs_len11, ↓reduceIte, k_cr, k_ci, k_oR, k_oN, k_aR, k_aN, and_true, true_and, and_self, eq_self, Nat.reduceLT, Nat.reduceLeDiff, Nat.reduceEqDiff, Nat.reduceAdd, Nat.reduceMul, Bool.true_eq_false, Bool.false_eq_true, Nat.add_sub_cancel, Nat.not_lt_zero, Nat.zero_le, k_sub, k_sb1, k_r, k_n, k_ret, k_t1, k_t0, k_nr, k_nn, k_z0, k_z1, k_zb, x_okI, lit_nI, k_in, k_cl, k_lt, k_le, k_eq, k_neg, nI_add, nI_mul, k_clt, k_cgt, k_cle, k_cge, k_ceq, bI_0, k_sh8, ne_eq, Nat.add_eq_zero_iff, Nat.one_ne_zero, Nat.succ_ne_zero, and_false, false_and, not_false_eq_true, not_true_eq_false, ite_true, ite_false, if_true, if_false, sI_uI, sJ_uI, sA_uI, sL_uI, sR_uI, sQ_uI, sI_uJ, sJ_uJ, sA_uJ, sL_uJ, sR_uJ, sQ_uJ, sI_uA, sJ_uA, sA_uA, sL_uA, sR_uA, sQ_uA, sI_uL, sJ_uL, sA_uL, sL_uL, sR_uL, sQ_uL, sI_uR, sJ_uR, sA_uR, sL_uR, sR_uR, sQ_uR, sI_uQ, sJ_uQ, sA_uQ, sL_uQ, sR_uQ, sQ_uQ, ft, n6, m6, t7, f7, eD]
            · rw [if_pos t7]
          · have eF := m_floatOfDouble d h M (uI S 27 (nI 1)) (dbO x) (dbO_n x)
            rw [exS_1] at eF
            refine ⟨if flH (dbO x) = true then flO (dbO x) else 0, ?_, fun q => ?_⟩
            · rw [decide_eq_false t7, Bool.false_or]
              simp (disch := omega) only [q_182_0, q_182_1, q_182_2, q_182_5, q_182_6, q_182_8, q_182_11, q_182_12, q_182_13, q_182_14, q_182_16, q_182_19, q_182_21, q_182_23, q_182_26, q_182_27, q_182_29, q_182_30, q_182_33, q_182_36, q_182_37, q_182_38, q_182_39, q_182_40, q_182_43, q_182_45, q_182_46, q_182_49, q_182_52, q_182_54, q_182_56, q_182_59, q_182_61, q_182_64, q_182_65, q_182_67, q_182_70, q_182_71, q_182_72, q_182_74, q_182_77, q_182_78, q_182_81, q_182_84, q_182_85, q_182_87, q_182_89, q_182_91, q_182_94, q_182_96, q_182_97, q_182_99, q_182_101, q_182_104, q_182_105, q_182_107, q_182_110, q_182_111, q_182_112, q_182_114, q_182_117, q_182_119, q_182_120, q_182_121, q_182_124, q_182_127, q_182_129, q_182_131, q_182_134, q_182_137, q_182_138, q_182_141, q_182_142, q_182_145, q_182_147, og_11_27, op_11_27, o_is, o_ob, ofs_len11, ↓reduceIte, k_cr, k_ci, k_oR, k_oN, k_aR, k_aN, and_true, true_and, and_self, eq_self, Nat.reduceLT, Nat.reduceLeDiff, Nat.reduceEqDiff, Nat.reduceAdd, Nat.reduceMul, Bool.true_eq_false, Bool.false_eq_true, Nat.add_sub_cancel, Nat.not_lt_zero, Nat.zero_le, k_sub, k_sb1, k_r, k_n, k_ret, k_t1, k_t0, k_nr, k_nn, k_z0, k_z1, k_zb, x_okI, lit_nI, k_in, k_cl, k_lt, k_le, k_eq, k_neg, nI_add, nI_mul, k_clt, k_cgt, k_cle, k_cge, k_ceq, bI_0, k_sh8, ne_eq, Nat.add_eq_zero_iff, Nat.one_ne_zero, Nat.succ_ne_zero, and_false, false_and, not_false_eq_true, not_true_eq_false, ite_true, ite_false, if_true, if_false, sI_uI, sJ_uI, sA_uI, sL_uI, sR_uI, sQ_uI, sI_uJ, sJ_uJ, sA_uJ, sL_uJ, sR_uJ, sQ_uJ, sI_uA, sJ_uA, sA_uA, sL_uA, sR_uA, sQ_uA, sI_uL, sJ_uL, sA_uL, sL_uL, sR_uL, sQ_uL, sI_uR, sJ_uR, sA_uR, sL_uR, sR_uR, sQ_uR, sI_uQ, sJ_uQ, sA_uQ, sL_uQ, sR_uQ, sQ_uQ, ft, n6, m6, t7, eD, eF]
            · rw [decide_eq_false t7, Bool.false_or] at q
              rw [if_pos q, if_neg t7]
    · have n6 : 6 ≤ f := by omega
      rw [if_neg f6, if_neg (show ¬ (f = t ∨ f < 6 ∧ t < 6) by omega), if_neg f6]
      have hwn := wiX_n f6 hw
      have st : xrun (d + 2) 182 0 [(1, .ref M), (2, .long x), (0, .null), (1, .int (nI f)), (1, .int (nI t)), (0, .null), (0, .null), (0, .null), (0, .null)] [] (oh 11 h M S) = xrun (d + 2) 182 87 [(1, .ref M), (2, .long x), (0, .null), (1, .int (nI f)), (1, .int (nI t)), (2, .long (wiX x f)), (0, .null), (0, .null), (0, .null)] [] (oh 11 h M (uI S 27 (nI 1))) := by
        unfold wiX
        by_cases c6 : f = 6
        · rw [if_pos c6]
          subst c6
          have hx : x.toInt32.toInt64 = x := by
            unfold wfT at hw
            rw [if_neg f6, if_pos rfl] at hw
            exact hw
          have eW := m_doubleOfFloat d (oh 11 h M (uI S 27 (nI 1))) x hx
          simp (disch := omega) only [q_182_0, q_182_1, q_182_2, q_182_5, q_182_6, q_182_8, q_182_11, q_182_12, q_182_13, q_182_14, q_182_16, q_182_19, q_182_21, q_182_23, q_182_26, q_182_27, q_182_29, q_182_30, q_182_33, q_182_36, q_182_37, q_182_38, q_182_39, q_182_40, q_182_43, q_182_45, q_182_46, q_182_49, q_182_52, q_182_54, q_182_56, q_182_59, q_182_61, q_182_64, q_182_65, q_182_67, q_182_70, q_182_71, q_182_72, q_182_74, q_182_77, q_182_78, q_182_81, q_182_84, q_182_85, og_11_27, op_11_27, o_is, o_ob, ofs_len11, ↓reduceIte, k_cr, k_ci, k_oR, k_oN, k_aR, k_aN, and_true, true_and, and_self, eq_self, Nat.reduceLT, Nat.reduceLeDiff, Nat.reduceEqDiff, Nat.reduceAdd, Nat.reduceMul, Bool.true_eq_false, Bool.false_eq_true, Nat.add_sub_cancel, Nat.not_lt_zero, Nat.zero_le, k_sub, k_sb1, k_r, k_n, k_ret, k_t1, k_t0, k_nr, k_nn, k_z0, k_z1, k_zb, x_okI, lit_nI, k_in, k_cl, k_lt, k_le, k_eq, k_neg, nI_add, nI_mul, k_clt, k_cgt, k_cle, k_cge, k_ceq, bI_0, k_sh8, ne_eq, Nat.add_eq_zero_iff, Nat.one_ne_zero, Nat.succ_ne_zero, and_false, false_and, not_false_eq_true, not_true_eq_false, ite_true, ite_false, if_true, if_false, ft, Nat.le_refl, eW]
        · rw [if_neg c6]
          simp (disch := omega) only [q_182_0, q_182_1, q_182_2, q_182_5, q_182_6, q_182_8, q_182_11, q_182_12, q_182_13, q_182_14, q_182_16, q_182_19, q_182_21, q_182_23, q_182_26, q_182_27, q_182_29, q_182_30, q_182_33, q_182_36, q_182_37, q_182_38, q_182_39, q_182_40, q_182_43, q_182_45, q_182_46, q_182_49, q_182_52, q_182_54, q_182_56, q_182_59, q_182_61, q_182_64, q_182_65, q_182_67, q_182_70, q_182_71, q_182_72, q_182_74, q_182_77, q_182_78, q_182_81, q_182_84, q_182_85, og_11_27, op_11_27, o_is, o_ob, ofs_len11, ↓reduceIte, k_cr, k_ci, k_oR, k_oN, k_aR, k_aN, and_true, true_and, and_self, eq_self, Nat.reduceLT, Nat.reduceLeDiff, Nat.reduceEqDiff, Nat.reduceAdd, Nat.reduceMul, Bool.true_eq_false, Bool.false_eq_true, Nat.add_sub_cancel, Nat.not_lt_zero, Nat.zero_le, k_sub, k_sb1, k_r, k_n, k_ret, k_t1, k_t0, k_nr, k_nn, k_z0, k_z1, k_zb, x_okI, lit_nI, k_in, k_cl, k_lt, k_le, k_eq, k_neg, nI_add, nI_mul, k_clt, k_cgt, k_cle, k_cge, k_ceq, bI_0, k_sh8, ne_eq, Nat.add_eq_zero_iff, Nat.one_ne_zero, Nat.succ_ne_zero, and_false, false_and, not_false_eq_true, not_true_eq_false, ite_true, ite_false, if_true, if_false, ft, n6, c6]
      rw [st]
      generalize wiX x f = y at *
      by_cases t7 : t = 7
      · refine ⟨y, ?_, fun _ => ?_⟩
        · rw [if_pos t7, bI_t]
          simp (disch := omega) only [q_182_87, q_182_89, q_182_91, q_182_94, q_182_96, q_182_97, q_182_99, q_182_101, q_182_104, q_182_105, q_182_107, q_182_110, q_182_111, q_182_112, q_182_114, q_182_117, q_182_119, q_182_120, q_182_121, q_182_124, q_182_127, q_182_129, q_182_131, q_182_134, q_182_137, q_182_138, q_182_141, q_182_142, q_182_145, q_182_147, og_11_27, op_11_27, o_is, o_ob, ofs_len11, ↓reduceIte, k_cr, k_ci, k_oR, k_oN, k_aR, k_aN, and_true, true_and, and_self, eq_self, Nat.reduceLT, Nat.reduceLeDiff, Nat.reduceEqDiff, Nat.reduceAdd, Nat.reduceMul, Bool.true_eq_false, Bool.false_eq_true, Nat.add_sub_cancel, Nat.not_lt_zero, Nat.zero_le, k_sub, k_sb1, k_r, k_n, k_ret, k_t1, k_t0, k_nr, k_nn, k_z0, k_z1, k_zb, x_okI, lit_nI, k_in, k_cl, k_lt, k_le, k_eq, k_neg, nI_add, nI_mul, k_clt, k_cgt, k_cle, k_cge, k_ceq, bI_0, k_sh8, ne_eq, Nat.add_eq_zero_iff, Nat.one_ne_zero, Nat.succ_ne_zero, and_false, false_and, not_false_eq_true, not_true_eq_false, ite_true, ite_false, if_true, if_false, t7]
        · rw [if_pos (show 6 ≤ t by omega), if_pos t7]
      · rw [if_neg t7]
        by_cases t6 : t = 6
        · have eF := m_floatOfDouble d h M (uI S 27 (nI 1)) y hwn
          rw [exS_1] at eF
          refine ⟨if flH y = true then flO y else 0, ?_, fun q => ?_⟩
          · rw [if_pos t6]
            simp (disch := omega) only [q_182_87, q_182_89, q_182_91, q_182_94, q_182_96, q_182_97, q_182_99, q_182_101, q_182_104, q_182_105, q_182_107, q_182_110, q_182_111, q_182_112, q_182_114, q_182_117, q_182_119, q_182_120, q_182_121, q_182_124, q_182_127, q_182_129, q_182_131, q_182_134, q_182_137, q_182_138, q_182_141, q_182_142, q_182_145, q_182_147, og_11_27, op_11_27, o_is, o_ob, ofs_len11, ↓reduceIte, k_cr, k_ci, k_oR, k_oN, k_aR, k_aN, and_true, true_and, and_self, eq_self, Nat.reduceLT, Nat.reduceLeDiff, Nat.reduceEqDiff, Nat.reduceAdd, Nat.reduceMul, Bool.true_eq_false, Bool.false_eq_true, Nat.add_sub_cancel, Nat.not_lt_zero, Nat.zero_le, k_sub, k_sb1, k_r, k_n, k_ret, k_t1, k_t0, k_nr, k_nn, k_z0, k_z1, k_zb, x_okI, lit_nI, k_in, k_cl, k_lt, k_le, k_eq, k_neg, nI_add, nI_mul, k_clt, k_cgt, k_cle, k_cge, k_ceq, bI_0, k_sh8, ne_eq, Nat.add_eq_zero_iff, Nat.one_ne_zero, Nat.succ_ne_zero, and_false, false_and, not_false_eq_true, not_true_eq_false, ite_true, ite_false, if_true, if_false, t7, t6, eF]
          · rw [if_pos t6] at q
            rw [if_pos (show 6 ≤ t by omega), if_neg t7, if_pos q]
        · have eI := m_wholeOf d h M (uI S 27 (nI 1)) y
          rw [exS_1] at eI
          rw [if_neg t6]
          cases hq : wlH y with
          | false =>
            rw [hq, bI_f] at eI
            refine ⟨0, ?_, fun q => by cases q⟩
            rw [Bool.false_and, bI_f]
            simp (disch := omega) only [q_182_87, q_182_89, q_182_91, q_182_94, q_182_96, q_182_97, q_182_99, q_182_101, q_182_104, q_182_105, q_182_107, q_182_110, q_182_111, q_182_112, q_182_114, q_182_117, q_182_119, q_182_120, q_182_121, q_182_124, q_182_127, q_182_129, q_182_131, q_182_134, q_182_137, q_182_138, q_182_141, q_182_142, q_182_145, q_182_147, og_11_27, op_11_27, o_is, o_ob, ofs_len11, ↓reduceIte, k_cr, k_ci, k_oR, k_oN, k_aR, k_aN, and_true, true_and, and_self, eq_self, Nat.reduceLT, Nat.reduceLeDiff, Nat.reduceEqDiff, Nat.reduceAdd, Nat.reduceMul, Bool.true_eq_false, Bool.false_eq_true, Nat.add_sub_cancel, Nat.not_lt_zero, Nat.zero_le, k_sub, k_sb1, k_r, k_n, k_ret, k_t1, k_t0, k_nr, k_nn, k_z0, k_z1, k_zb, x_okI, lit_nI, k_in, k_cl, k_lt, k_le, k_eq, k_neg, nI_add, nI_mul, k_clt, k_cgt, k_cle, k_cge, k_ceq, bI_0, k_sh8, ne_eq, Nat.add_eq_zero_iff, Nat.one_ne_zero, Nat.succ_ne_zero, and_false, false_and, not_false_eq_true, not_true_eq_false, ite_true, ite_false, if_true, if_false, sI_uI, sJ_uI, sA_uI, sL_uI, sR_uI, sQ_uI, sI_uJ, sJ_uJ, sA_uJ, sL_uJ, sR_uJ, sQ_uJ, sI_uA, sJ_uA, sA_uA, sL_uA, sR_uA, sQ_uA, sI_uL, sJ_uL, sA_uL, sL_uL, sR_uL, sQ_uL, sI_uR, sJ_uR, sA_uR, sL_uR, sR_uR, sQ_uR, sI_uQ, sJ_uQ, sA_uQ, sL_uQ, sR_uQ, sQ_uQ, t7, t6, eI, uI_uI, Bool.false_eq_true]
          | true =>
            rw [hq, bI_t, if_pos rfl] at eI
            have e3 := eV (uI S 27 (nI 1)) (wlO y)
            refine ⟨wlO y, ?_, fun _ => ?_⟩
            · rw [Bool.true_and]
              cases hr : fitT (nI t) (wlO y) with
              | false =>
                rw [hr, bI_f] at e3
                rw [bI_f]
                simp (disch := omega) only [q_182_87, q_182_89, q_182_91, q_182_94, q_182_96, q_182_97, q_182_99, q_182_101, q_182_104, q_182_105, q_182_107, q_182_110, q_182_111, q_182_112, q_182_114, q_182_117, q_182_119, q_182_120, q_182_121, q_182_124, q_182_127, q_182_129, q_182_131, q_182_134, q_182_137, q_182_138, q_182_141, q_182_142, q_182_145, q_182_147, og_11_27, op_11_27, o_is, o_ob, ofs_len11, ↓reduceIte, k_cr, k_ci, k_oR, k_oN, k_aR, k_aN, and_true, true_and, and_self, eq_self, Nat.reduceLT, Nat.reduceLeDiff, Nat.reduceEqDiff, Nat.reduceAdd, Nat.reduceMul, Bool.true_eq_false, Bool.false_eq_true, Nat.add_sub_cancel, Nat.not_lt_zero, Nat.zero_le, k_sub, k_sb1, k_r, k_n, k_ret, k_t1, k_t0, k_nr, k_nn, k_z0, k_z1, k_zb, x_okI, lit_nI, k_in, k_cl, k_lt, k_le, k_eq, k_neg, nI_add, nI_mul, k_clt, k_cgt, k_cle, k_cge, k_ceq, bI_0, k_sh8, ne_eq, Nat.add_eq_zero_iff, Nat.one_ne_zero, Nat.succ_ne_zero, and_false, false_and, not_false_eq_true, not_true_eq_false, ite_true, ite_false, if_true, if_false, sI_uI, sJ_uI, sA_uI, sL_uI, sR_uI, sQ_uI, sI_uJ, sJ_uJ, sA_uJ, sL_uJ, sR_uJ, sQ_uJ, sI_uA, sJ_uA, sA_uA, sL_uA, sR_uA, sQ_uA, sI_uL, sJ_uL, sA_uL, sL_uL, sR_uL, sQ_uL, sI_uR, sJ_uR, sA_uR, sL_uR, sR_uR, sQ_uR, sI_uQ, sJ_uQ, sA_uQ, sL_uQ, sR_uQ, sQ_uQ, t7, t6, eI, e3, uI_uI]
              | true =>
                rw [hr, bI_t] at e3
                rw [bI_t]
                simp (disch := omega) only [q_182_87, q_182_89, q_182_91, q_182_94, q_182_96, q_182_97, q_182_99, q_182_101, q_182_104, q_182_105, q_182_107, q_182_110, q_182_111, q_182_112, q_182_114, q_182_117, q_182_119, q_182_120, q_182_121, q_182_124, q_182_127, q_182_129, q_182_131, q_182_134, q_182_137, q_182_138, q_182_141, q_182_142, q_182_145, q_182_147, og_11_27, op_11_27, o_is, o_ob, ofs_len11, ↓reduceIte, k_cr, k_ci, k_oR, k_oN, k_aR, k_aN, and_true, true_and, and_self, eq_self, Nat.reduceLT, Nat.reduceLeDiff, Nat.reduceEqDiff, Nat.reduceAdd, Nat.reduceMul, Bool.true_eq_false, Bool.false_eq_true, Nat.add_sub_cancel, Nat.not_lt_zero, Nat.zero_le, k_sub, k_sb1, k_r, k_n, k_ret, k_t1, k_t0, k_nr, k_nn, k_z0, k_z1, k_zb, x_okI, lit_nI, k_in, k_cl, k_lt, k_le, k_eq, k_neg, nI_add, nI_mul, k_clt, k_cgt, k_cle, k_cge, k_ceq, bI_0, k_sh8, ne_eq, Nat.add_eq_zero_iff, Nat.one_ne_zero, Nat.succ_ne_zero, and_false, false_and, not_false_eq_true, not_true_eq_false, ite_true, ite_false, if_true, if_false, sI_uI, sJ_uI, sA_uI, sL_uI, sR_uI, sQ_uI, sI_uJ, sJ_uJ, sA_uJ, sL_uJ, sR_uJ, sQ_uJ, sI_uA, sJ_uA, sA_uA, sL_uA, sR_uA, sQ_uA, sI_uL, sJ_uL, sA_uL, sL_uL, sR_uL, sQ_uL, sI_uR, sJ_uR, sA_uR, sL_uR, sR_uR, sQ_uR, sI_uQ, sJ_uQ, sA_uQ, sL_uQ, sR_uQ, sQ_uQ, t7, t6, eI, e3, uI_uI]
            · rw [if_neg (show ¬ 6 ≤ t by omega)]
