/-! The reference: told, feed. -/
/-- how many of k places from i on have g -/
def cntF (g : Nat → Bool) : Nat → Nat → Nat
  | 0, _ => 0
  | k + 1, i => (if g i = true then 1 else 0) + cntF g k (i + 1)
theorem cntF_s (g : Nat → Bool) (k i : Nat) : cntF g (k + 1) i = (if g i = true then 1 else 0) + cntF g k (i + 1) := rfl
theorem m_told_loop (d : Nat) (h : xH) (M : Nat) (S : gS) (x : Int32) (hh : hzOK S) : ∀ (k i n : Nat), i + k = 64 → n ≤ i → xrun d 198 40 [(1, .ref M), (1, .int x), (1, .int (nI n)), (1, .int (nI i))] [] (oh 11 h M S) = some (some (.int (nI (n + cntF (hz S) k i))), oh 11 h M S)
  | 0, i, n, hi, hn => by
    have h8 : i = 64 := by omega
    subst h8
    rw [q_198_40]
    simp (disch := omega) only [q_198_0, q_198_1, q_198_2, q_198_3, q_198_6, q_198_9, q_198_12, q_198_14, q_198_15, q_198_16, q_198_19, q_198_20, q_198_23, q_198_24, q_198_25, q_198_26, q_198_29, q_198_30, q_198_33, q_198_34, q_198_35, q_198_36, q_198_37, q_198_38, q_198_39, q_198_41, q_198_43, q_198_46, q_198_47, q_198_48, q_198_51, q_198_52, q_198_53, q_198_56, q_198_57, q_198_60, q_198_61, q_198_62, q_198_63, q_198_66, q_198_69, q_198_70, og_11_6, og_11_7, or_11_7, ow_11_7, og_11_12, or_11_12, ow_11_12, o_is, o_ob, ofs_len11, k_cr, k_ci, k_oR, k_oN, k_aR, k_aN, and_true, true_and, and_self, eq_self, Nat.reduceLT, Nat.reduceLeDiff, Nat.reduceEqDiff, Nat.reduceAdd, Nat.reduceMul, Bool.true_eq_false, Bool.false_eq_true, Nat.add_sub_cancel, Nat.not_lt_zero, Nat.zero_le, k_sub, k_sb1, k_r, k_n, k_ret, k_t1, k_t0, k_nr, k_nn, k_z0, k_z1, k_zb, x_okI, lit_nI, k_in, k_cl, k_lt, k_le, k_eq, k_neg, nI_add, nI_mul, k_clt, k_cgt, k_cle, k_cge, k_ceq, bI_0, k_sh8, ne_eq, Nat.add_eq_zero_iff, Nat.one_ne_zero, Nat.succ_ne_zero, and_false, false_and, not_false_eq_true, not_true_eq_false, ite_true, ite_false, if_true, if_false]
    rfl
  | k + 1, i, n, hi, hn => by
    rw [q_198_40]
    have h8 : ¬ 64 ≤ i := by omega
    have e1 := m_told_loop d h M S x hh k (i + 1) (n + 1) (by omega) (by omega)
    have e0 := m_told_loop d h M S x hh k (i + 1) (n + 0) (by omega) (by omega)
    simp (disch := omega) only [q_198_0, q_198_1, q_198_2, q_198_3, q_198_6, q_198_9, q_198_12, q_198_14, q_198_15, q_198_16, q_198_19, q_198_20, q_198_23, q_198_24, q_198_25, q_198_26, q_198_29, q_198_30, q_198_33, q_198_34, q_198_35, q_198_36, q_198_37, q_198_38, q_198_39, q_198_41, q_198_43, q_198_46, q_198_47, q_198_48, q_198_51, q_198_52, q_198_53, q_198_56, q_198_57, q_198_60, q_198_61, q_198_62, q_198_63, q_198_66, q_198_69, q_198_70, og_11_6, og_11_7, or_11_7, ow_11_7, og_11_12, or_11_12, ow_11_12, o_is, o_ob, ofs_len11, k_cr, k_ci, k_oR, k_oN, k_aR, k_aN, and_true, true_and, and_self, eq_self, Nat.reduceLT, Nat.reduceLeDiff, Nat.reduceEqDiff, Nat.reduceAdd, Nat.reduceMul, Bool.true_eq_false, Bool.false_eq_true, Nat.add_sub_cancel, Nat.not_lt_zero, Nat.zero_le, k_sub, k_sb1, k_r, k_n, k_ret, k_t1, k_t0, k_nr, k_nn, k_z0, k_z1, k_zb, x_okI, lit_nI, k_in, k_cl, k_lt, k_le, k_eq, k_neg, nI_add, nI_mul, k_clt, k_cgt, k_cle, k_cge, k_ceq, bI_0, k_sh8, ne_eq, Nat.add_eq_zero_iff, Nat.one_ne_zero, Nat.succ_ne_zero, and_false, false_and, not_false_eq_true, not_true_eq_false, ite_true, ite_false, if_true, if_false, h8, hh i, e1, e0, cntF_s]
    cases hz S i
    · simp
    · simp [Nat.add_assoc]
theorem m_told (d : Nat) (h : xH) (M : Nat) (S : gS) (x : Int32) (hh : hzOK S) : xm (d + 2) 198 [.ref M, .int x] (oh 11 h M S) = some (some (.int (if inR x 0 2 = true then (if x = nI 0 then sI S 6 else if x = nI 1 then sA S 7 0 else nI (cntF (hz S) 64 0)) else -nI 2)), oh 11 h M S) := by
  rw [E_198 _ _ _ _ rfl]
  have hl := m_told_loop (d + 1) h M S x hh 64 0 0 (by omega) (by omega)
  rw [Nat.zero_add] at hl
  cases hx : inR x 0 2 with
  | false =>
    have hx' : (decide (0 ≤ x.toInt64) && decide (x.toInt64 ≤ 2)) = false := hx
    simp (disch := omega) only [q_198_0, q_198_1, q_198_2, q_198_3, q_198_6, q_198_9, q_198_12, q_198_14, q_198_15, q_198_16, q_198_19, q_198_20, q_198_23, q_198_24, q_198_25, q_198_26, q_198_29, q_198_30, q_198_33, q_198_34, q_198_35, q_198_36, q_198_37, q_198_38, q_198_39, q_198_41, q_198_43, q_198_46, q_198_47, q_198_48, q_198_51, q_198_52, q_198_53, q_198_56, q_198_57, q_198_60, q_198_61, q_198_62, q_198_63, q_198_66, q_198_69, q_198_70, og_11_6, og_11_7, or_11_7, ow_11_7, og_11_12, or_11_12, ow_11_12, o_is, o_ob, ofs_len11, k_cr, k_ci, k_oR, k_oN, k_aR, k_aN, and_true, true_and, and_self, eq_self, Nat.reduceLT, Nat.reduceLeDiff, Nat.reduceEqDiff, Nat.reduceAdd, Nat.reduceMul, Bool.true_eq_false, Bool.false_eq_true, Nat.add_sub_cancel, Nat.not_lt_zero, Nat.zero_le, k_sub, k_sb1, k_r, k_n, k_ret, k_t1, k_t0, k_nr, k_nn, k_z0, k_z1, k_zb, x_okI, lit_nI, k_in, k_cl, k_lt, k_le, k_eq, k_neg, nI_add, nI_mul, k_clt, k_cgt, k_cle, k_cge, k_ceq, bI_0, k_sh8, ne_eq, Nat.add_eq_zero_iff, Nat.one_ne_zero, Nat.succ_ne_zero, and_false, false_and, not_false_eq_true, not_true_eq_false, ite_true, ite_false, if_true, if_false, m_in, hx']
  | true =>
    have hx' : (decide (0 ≤ x.toInt64) && decide (x.toInt64 ≤ 2)) = true := hx
    simp (disch := omega) only [q_198_0, q_198_1, q_198_2, q_198_3, q_198_6, q_198_9, q_198_12, q_198_14, q_198_15, q_198_16, q_198_19, q_198_20, q_198_23, q_198_24, q_198_25, q_198_26, q_198_29, q_198_30, q_198_33, q_198_34, q_198_35, q_198_36, q_198_37, q_198_38, q_198_39, q_198_41, q_198_43, q_198_46, q_198_47, q_198_48, q_198_51, q_198_52, q_198_53, q_198_56, q_198_57, q_198_60, q_198_61, q_198_62, q_198_63, q_198_66, q_198_69, q_198_70, og_11_6, og_11_7, or_11_7, ow_11_7, og_11_12, or_11_12, ow_11_12, o_is, o_ob, ofs_len11, k_cr, k_ci, k_oR, k_oN, k_aR, k_aN, and_true, true_and, and_self, eq_self, Nat.reduceLT, Nat.reduceLeDiff, Nat.reduceEqDiff, Nat.reduceAdd, Nat.reduceMul, Bool.true_eq_false, Bool.false_eq_true, Nat.add_sub_cancel, Nat.not_lt_zero, Nat.zero_le, k_sub, k_sb1, k_r, k_n, k_ret, k_t1, k_t0, k_nr, k_nn, k_z0, k_z1, k_zb, x_okI, lit_nI, k_in, k_cl, k_lt, k_le, k_eq, k_neg, nI_add, nI_mul, k_clt, k_cgt, k_cle, k_cge, k_ceq, bI_0, k_sh8, ne_eq, Nat.add_eq_zero_iff, Nat.one_ne_zero, Nat.succ_ne_zero, and_false, false_and, not_false_eq_true, not_true_eq_false, ite_true, ite_false, if_true, if_false, m_in, hx', hl]
    by_cases h0 : x = nI 0
    · rw [if_pos h0, if_pos h0]
    · rw [if_neg h0, if_neg h0]
      by_cases h1 : x = nI 1
      · rw [if_pos h1, if_pos h1]
      · rw [if_neg h1, if_neg h1]
/-- byte k of the sixteen of a and b -/
def rby (a b : Int64) (k : Nat) : Int32 := (if k < 8 then a >>> ((nI (56 - 8 * k)).toInt64 &&& 63) else b >>> ((nI (120 - 8 * k)).toInt64 &&& 63)).toInt32 &&& nI 255
def fdS (S : gS) (a b : Int64) (z j : Nat) : gS := uI (rA S 15 (fillF (sA S 15) (rby a b) z j)) 16 (nI (z + j))
theorem uI_uI (S : gS) (k : Nat) (x y : Int32) : uI (uI S k x) k y = uI S k y := by
  unfold uI
  dsimp only
  rw [va_up_up]
theorem m_feed_loop (d : Nat) (h : xH) (M : Nat) (S : gS) (a b : Int64) (z n : Nat) (hn : n ≤ 16) (hz : z + n ≤ 700) : ∀ (k i : Nat), i + k = n → xrun d 145 35 [(1, .ref M), (2, .long a), (0, .null), (2, .long b), (0, .null), (1, .int (nI n)), (1, .int (nI i))] [] (oh 11 h M (fdS S a b z i)) = some (some (.int (nI (z + n))), oh 11 h M (fdS S a b z n))
  | 0, i, hi => by
    have h8 : i = n := by omega
    subst h8
    rw [q_145_35]
    have e6 : sI (fdS S a b z i) 16 = nI (z + i) := by unfold fdS; rw [sI_uI, if_pos rfl]
    simp (disch := omega) only [q_145_0, q_145_2, q_145_3, q_145_4, q_145_7, q_145_10, q_145_13, q_145_15, q_145_16, q_145_17, q_145_20, q_145_22, q_145_23, q_145_26, q_145_29, q_145_31, q_145_32, q_145_33, q_145_37, q_145_39, q_145_42, q_145_43, q_145_46, q_145_47, q_145_50, q_145_52, q_145_54, q_145_57, q_145_58, q_145_60, q_145_62, q_145_64, q_145_65, q_145_66, q_145_67, q_145_70, q_145_71, q_145_73, q_145_75, q_145_77, q_145_78, q_145_79, q_145_80, q_145_81, q_145_84, q_145_85, q_145_86, q_145_87, q_145_88, q_145_91, q_145_92, q_145_93, q_145_96, q_145_99, q_145_102, q_145_103, q_145_106, og_11_16, op_11_16, og_11_15, or_11_15, ow_11_15, o_is, o_ob, ofs_len11, k_cr, k_ci, k_oR, k_oN, k_aR, k_aN, and_true, true_and, and_self, eq_self, Nat.reduceLT, Nat.reduceLeDiff, Nat.reduceEqDiff, Nat.reduceAdd, Nat.reduceMul, Bool.true_eq_false, Bool.false_eq_true, Nat.add_sub_cancel, Nat.not_lt_zero, Nat.zero_le, k_sub, k_sb1, k_r, k_n, k_ret, k_t1, k_t0, k_nr, k_nn, k_z0, k_z1, k_zb, x_okI, lit_nI, k_in, k_cl, k_lt, k_le, k_eq, k_neg, nI_add, nI_mul, k_clt, k_cgt, k_cle, k_cge, k_ceq, bI_0, k_sh8, ne_eq, Nat.add_eq_zero_iff, Nat.one_ne_zero, Nat.succ_ne_zero, and_false, false_and, not_false_eq_true, not_true_eq_false, ite_true, ite_false, if_true, if_false, Nat.le_refl, e6]
  | k + 1, i, hi => by
    rw [q_145_35]
    have h8 : ¬ n ≤ i := by omega
    have e6 : sI (fdS S a b z i) 16 = nI (z + i) := by unfold fdS; rw [sI_uI, if_pos rfl]
    have hu : uI (uA (fdS S a b z i) 15 (z + i) (rby a b i)) 16 (nI (z + i + 1)) = fdS S a b z (i + 1) := by
      unfold fdS
      rw [show uA (uI (rA S 15 (fillF (sA S 15) (rby a b) z i)) 16 (nI (z + i))) 15 (z + i) (rby a b i) = uI (uA (rA S 15 (fillF (sA S 15) (rby a b) z i)) 15 (z + i) (rby a b i)) 16 (nI (z + i)) from rfl, uI_uI, uA_rA, fillF_s]
      rfl
    have ih := m_feed_loop d h M S a b z n hn hz k (i + 1) (by omega)
    rw [← hu] at ih
    unfold rby at ih
    by_cases h7 : i < 8
    · have h9 : ¬ 8 ≤ i := by omega
      rw [if_pos h7] at ih
      simp (disch := omega) only [q_145_0, q_145_2, q_145_3, q_145_4, q_145_7, q_145_10, q_145_13, q_145_15, q_145_16, q_145_17, q_145_20, q_145_22, q_145_23, q_145_26, q_145_29, q_145_31, q_145_32, q_145_33, q_145_37, q_145_39, q_145_42, q_145_43, q_145_46, q_145_47, q_145_50, q_145_52, q_145_54, q_145_57, q_145_58, q_145_60, q_145_62, q_145_64, q_145_65, q_145_66, q_145_67, q_145_70, q_145_71, q_145_73, q_145_75, q_145_77, q_145_78, q_145_79, q_145_80, q_145_81, q_145_84, q_145_85, q_145_86, q_145_87, q_145_88, q_145_91, q_145_92, q_145_93, q_145_96, q_145_99, q_145_102, q_145_103, q_145_106, og_11_16, op_11_16, og_11_15, or_11_15, ow_11_15, o_is, o_ob, ofs_len11, k_cr, k_ci, k_oR, k_oN, k_aR, k_aN, and_true, true_and, and_self, eq_self, Nat.reduceLT, Nat.reduceLeDiff, Nat.reduceEqDiff, Nat.reduceAdd, Nat.reduceMul, Bool.true_eq_false, Bool.false_eq_true, Nat.add_sub_cancel, Nat.not_lt_zero, Nat.zero_le, k_sub, k_sb1, k_r, k_n, k_ret, k_t1, k_t0, k_nr, k_nn, k_z0, k_z1, k_zb, x_okI, lit_nI, k_in, k_cl, k_lt, k_le, k_eq, k_neg, nI_add, nI_mul, k_clt, k_cgt, k_cle, k_cge, k_ceq, bI_0, k_sh8, ne_eq, Nat.add_eq_zero_iff, Nat.one_ne_zero, Nat.succ_ne_zero, and_false, false_and, not_false_eq_true, not_true_eq_false, ite_true, ite_false, if_true, if_false, h8, e6, h9, sI_uA]
      exact ih
    · have h9 : 8 ≤ i := by omega
      rw [if_neg h7] at ih
      simp (disch := omega) only [q_145_0, q_145_2, q_145_3, q_145_4, q_145_7, q_145_10, q_145_13, q_145_15, q_145_16, q_145_17, q_145_20, q_145_22, q_145_23, q_145_26, q_145_29, q_145_31, q_145_32, q_145_33, q_145_37, q_145_39, q_145_42, q_145_43, q_145_46, q_145_47, q_145_50, q_145_52, q_145_54, q_145_57, q_145_58, q_145_60, q_145_62, q_145_64, q_145_65, q_145_66, q_145_67, q_145_70, q_145_71, q_145_73, q_145_75, q_145_77, q_145_78, q_145_79, q_145_80, q_145_81, q_145_84, q_145_85, q_145_86, q_145_87, q_145_88, q_145_91, q_145_92, q_145_93, q_145_96, q_145_99, q_145_102, q_145_103, q_145_106, og_11_16, op_11_16, og_11_15, or_11_15, ow_11_15, o_is, o_ob, ofs_len11, k_cr, k_ci, k_oR, k_oN, k_aR, k_aN, and_true, true_and, and_self, eq_self, Nat.reduceLT, Nat.reduceLeDiff, Nat.reduceEqDiff, Nat.reduceAdd, Nat.reduceMul, Bool.true_eq_false, Bool.false_eq_true, Nat.add_sub_cancel, Nat.not_lt_zero, Nat.zero_le, k_sub, k_sb1, k_r, k_n, k_ret, k_t1, k_t0, k_nr, k_nn, k_z0, k_z1, k_zb, x_okI, lit_nI, k_in, k_cl, k_lt, k_le, k_eq, k_neg, nI_add, nI_mul, k_clt, k_cgt, k_cle, k_cge, k_ceq, bI_0, k_sh8, ne_eq, Nat.add_eq_zero_iff, Nat.one_ne_zero, Nat.succ_ne_zero, and_false, false_and, not_false_eq_true, not_true_eq_false, ite_true, ite_false, if_true, if_false, h8, e6, h9, sI_uA]
      exact ih
theorem inR_1 {x : Int32} {n : Nat} (hn : n < 2147483648) (h : inR x 1 (lN n) = true) : ∃ k, 1 ≤ k ∧ k ≤ n ∧ x = nI k := by
  unfold inR at h
  rw [Bool.and_eq_true, decide_eq_true_eq, decide_eq_true_eq] at h
  have h1 := Int64.le_iff_toInt_le.mp h.1
  have h2 := Int64.le_iff_toInt_le.mp h.2
  rw [Int32.toInt_toInt64] at h1 h2
  rw [lN_toInt hn] at h2
  have h3 : (1 : Int) ≤ x.toInt := by simpa using h1
  refine ⟨x.toInt.toNat, by omega, by omega, ?_⟩
  apply Int32.toInt_inj.mp
  rw [nI_toInt (by omega)]
  omega
theorem m_feed (d : Nat) (h : xH) (M : Nat) (S : gS) (a b : Int64) (x : Int32) (z : Nat) (hz : sI S 16 = nI z) (h7 : z ≤ 700) : xm (d + 2) 145 [.ref M, .long a, .long b, .int x] (oh 11 h M S) = if inR x 1 16 = true then (if 700 < z + x.toNatClampNeg then some (some (.int (-nI 3)), oh 11 h M S) else some (some (.int (nI (z + x.toNatClampNeg))), oh 11 h M (fdS S a b z x.toNatClampNeg))) else some (some (.int (-nI 2)), oh 11 h M S) := by
  rw [E_145 _ _ _ _ _ _ rfl]
  cases hx : inR x 1 16 with
  | false =>
    have hx' : (decide (1 ≤ x.toInt64) && decide (x.toInt64 ≤ 16)) = false := hx
    simp (disch := omega) only [q_145_0, q_145_2, q_145_3, q_145_4, q_145_7, q_145_10, q_145_13, q_145_15, q_145_16, q_145_17, q_145_20, q_145_22, q_145_23, q_145_26, q_145_29, q_145_31, q_145_32, q_145_33, q_145_37, q_145_39, q_145_42, q_145_43, q_145_46, q_145_47, q_145_50, q_145_52, q_145_54, q_145_57, q_145_58, q_145_60, q_145_62, q_145_64, q_145_65, q_145_66, q_145_67, q_145_70, q_145_71, q_145_73, q_145_75, q_145_77, q_145_78, q_145_79, q_145_80, q_145_81, q_145_84, q_145_85, q_145_86, q_145_87, q_145_88, q_145_91, q_145_92, q_145_93, q_145_96, q_145_99, q_145_102, q_145_103, q_145_106, og_11_16, op_11_16, og_11_15, or_11_15, ow_11_15, o_is, o_ob, ofs_len11, k_cr, k_ci, k_oR, k_oN, k_aR, k_aN, and_true, true_and, and_self, eq_self, Nat.reduceLT, Nat.reduceLeDiff, Nat.reduceEqDiff, Nat.reduceAdd, Nat.reduceMul, Bool.true_eq_false, Bool.false_eq_true, Nat.add_sub_cancel, Nat.not_lt_zero, Nat.zero_le, k_sub, k_sb1, k_r, k_n, k_ret, k_t1, k_t0, k_nr, k_nn, k_z0, k_z1, k_zb, x_okI, lit_nI, k_in, k_cl, k_lt, k_le, k_eq, k_neg, nI_add, nI_mul, k_clt, k_cgt, k_cle, k_cge, k_ceq, bI_0, k_sh8, ne_eq, Nat.add_eq_zero_iff, Nat.one_ne_zero, Nat.succ_ne_zero, and_false, false_and, not_false_eq_true, not_true_eq_false, ite_true, ite_false, if_true, if_false, m_in, hx']
  | true =>
    have hx' : (decide (1 ≤ x.toInt64) && decide (x.toInt64 ≤ 16)) = true := hx
    obtain ⟨k, hk0, hk1, rfl⟩ := inR_1 (n := 16) (by omega) hx
    rw [k_cl (by omega)]
    simp only [if_true]
    by_cases h9 : 700 < z + k
    · have h10 : ¬ z + k ≤ 700 := by omega
      simp (disch := omega) only [q_145_0, q_145_2, q_145_3, q_145_4, q_145_7, q_145_10, q_145_13, q_145_15, q_145_16, q_145_17, q_145_20, q_145_22, q_145_23, q_145_26, q_145_29, q_145_31, q_145_32, q_145_33, q_145_37, q_145_39, q_145_42, q_145_43, q_145_46, q_145_47, q_145_50, q_145_52, q_145_54, q_145_57, q_145_58, q_145_60, q_145_62, q_145_64, q_145_65, q_145_66, q_145_67, q_145_70, q_145_71, q_145_73, q_145_75, q_145_77, q_145_78, q_145_79, q_145_80, q_145_81, q_145_84, q_145_85, q_145_86, q_145_87, q_145_88, q_145_91, q_145_92, q_145_93, q_145_96, q_145_99, q_145_102, q_145_103, q_145_106, og_11_16, op_11_16, og_11_15, or_11_15, ow_11_15, o_is, o_ob, ofs_len11, k_cr, k_ci, k_oR, k_oN, k_aR, k_aN, and_true, true_and, and_self, eq_self, Nat.reduceLT, Nat.reduceLeDiff, Nat.reduceEqDiff, Nat.reduceAdd, Nat.reduceMul, Bool.true_eq_false, Bool.false_eq_true, Nat.add_sub_cancel, Nat.not_lt_zero, Nat.zero_le, k_sub, k_sb1, k_r, k_n, k_ret, k_t1, k_t0, k_nr, k_nn, k_z0, k_z1, k_zb, x_okI, lit_nI, k_in, k_cl, k_lt, k_le, k_eq, k_neg, nI_add, nI_mul, k_clt, k_cgt, k_cle, k_cge, k_ceq, bI_0, k_sh8, ne_eq, Nat.add_eq_zero_iff, Nat.one_ne_zero, Nat.succ_ne_zero, and_false, false_and, not_false_eq_true, not_true_eq_false, ite_true, ite_false, if_true, if_false, m_in, hx', hz, h9, h10]
    · have h10 : z + k ≤ 700 := by omega
      have hl := m_feed_loop (d + 1) h M S a b z k hk1 (by omega) k 0 (by omega)
      have e0 : fdS S a b z 0 = S := by
        unfold fdS
        rw [fillF_0, rA_id]
        unfold uI
        have : va_up S.1 16 (nI (z + 0)) = S.1 := by
          funext q
          unfold va_up
          by_cases hq : q = 16
          · subst hq; simp; exact hz.symm
          · simp [hq]
        rw [this]
      rw [e0] at hl
      simp (disch := omega) only [q_145_0, q_145_2, q_145_3, q_145_4, q_145_7, q_145_10, q_145_13, q_145_15, q_145_16, q_145_17, q_145_20, q_145_22, q_145_23, q_145_26, q_145_29, q_145_31, q_145_32, q_145_33, q_145_37, q_145_39, q_145_42, q_145_43, q_145_46, q_145_47, q_145_50, q_145_52, q_145_54, q_145_57, q_145_58, q_145_60, q_145_62, q_145_64, q_145_65, q_145_66, q_145_67, q_145_70, q_145_71, q_145_73, q_145_75, q_145_77, q_145_78, q_145_79, q_145_80, q_145_81, q_145_84, q_145_85, q_145_86, q_145_87, q_145_88, q_145_91, q_145_92, q_145_93, q_145_96, q_145_99, q_145_102, q_145_103, q_145_106, og_11_16, op_11_16, og_11_15, or_11_15, ow_11_15, o_is, o_ob, ofs_len11, k_cr, k_ci, k_oR, k_oN, k_aR, k_aN, and_true, true_and, and_self, eq_self, Nat.reduceLT, Nat.reduceLeDiff, Nat.reduceEqDiff, Nat.reduceAdd, Nat.reduceMul, Bool.true_eq_false, Bool.false_eq_true, Nat.add_sub_cancel, Nat.not_lt_zero, Nat.zero_le, k_sub, k_sb1, k_r, k_n, k_ret, k_t1, k_t0, k_nr, k_nn, k_z0, k_z1, k_zb, x_okI, lit_nI, k_in, k_cl, k_lt, k_le, k_eq, k_neg, nI_add, nI_mul, k_clt, k_cgt, k_cle, k_cge, k_ceq, bI_0, k_sh8, ne_eq, Nat.add_eq_zero_iff, Nat.one_ne_zero, Nat.succ_ne_zero, and_false, false_and, not_false_eq_true, not_true_eq_false, ite_true, ite_false, if_true, if_false, m_in, hx', hz, h9, h10, hl]
