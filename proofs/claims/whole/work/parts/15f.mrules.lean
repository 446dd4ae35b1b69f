/-! The reference: rules. -/
/-- pieces know only what stands ahead of the end -/
theorem skF_congr {t u : Nat → Int32} {n : Nat} (h : ∀ q, q < n → t q = u q) : ∀ (k p : Nat), p + k ≤ n → skF t k p = skF u k p
  | 0, p, _ => rfl
  | k + 1, p, hp => by
    rw [skF_s, skF_s, h p (by omega), skF_congr h k (p + 1) (by omega)]
theorem wdF_congr {t u : Nat → Int32} {n : Nat} (h : ∀ q, q < n → t q = u q) : ∀ (k p : Nat) (v : Int64) (m : Nat), p + k ≤ n → wdF t k p v m = wdF u k p v m
  | 0, p, v, m, _ => rfl
  | k + 1, p, v, m, hp => by
    rw [wdF_s, wdF_s, h p (by omega), wdF_congr h k (p + 1) _ _ (by omega)]
theorem nuF_congr {t u : Nat → Int32} {n : Nat} (h : ∀ q, q < n → t q = u q) : ∀ (k p : Nat) (v : Int64), p + k ≤ n → nuF t k p v = nuF u k p v
  | 0, p, v, _ => rfl
  | k + 1, p, v, hp => by
    rw [nuF_s, nuF_s, h p (by omega), nuF_congr h k (p + 1) _ (by omega)]
theorem pcF_congr {t u : Nat → Int32} {n p : Nat} (h : ∀ q, q < n → t q = u q) (hp : p ≤ n) : pcF t n p = pcF u n p := by
  have e := skF_congr h (n - p) p (by omega)
  have hs := skF_le t (n - p) p
  unfold pcF
  rw [← e]
  generalize skF t (n - p) p = q at hs ⊢
  by_cases h1 : q = n
  · rw [if_pos h1, if_pos h1]
  · rw [if_neg h1, if_neg h1, h q (by omega), wdF_congr h (n - q) q 0 0 (by omega), nuF_congr h (n - q) q 0 (by omega)]
theorem psF_congr {t u : Nat → Int32} {n : Nat} (h : ∀ q, q < n → t q = u q) : ∀ i, psF t n i = psF u n i
  | 0 => rfl
  | i + 1 => by
    show (pcF t n (psF t n i)).1 = (pcF u n (psF u n i)).1
    rw [psF_congr h i, pcF_congr h (psF_le u n i)]
theorem pcs_congr {t u : Nat → Int32} {n : Nat} (h : ∀ q, q < n → t q = u q) : pcs t n = pcs u n := by
  unfold pcs
  congr 1
  · funext i
    rw [psF_congr h i, pcF_congr h (psF_le u n i)]
  · congr 1
    · funext i
      rw [psF_congr h i, pcF_congr h (psF_le u n i)]
    · funext i
      rw [psF_congr h i, pcF_congr h (psF_le u n i)]
theorem ru_in (d : Nat) (h : xH) (M : Nat) (S : gS) (f t : Int32) (n : Nat) (hn : n ≤ 700) : ∀ (k i : Nat), i + k = n → xrun d 146 45 [(1, .ref M), (1, .int f), (1, .int t), (1, .int (nI n)), (1, .int (nI i)), (0, .null)] [] (oh 11 h M (rA S 28 (fillF (sA S 28) (sA S 15) 0 i))) = xrun d 146 71 [(1, .ref M), (1, .int f), (1, .int t), (1, .int (nI n)), (1, .int (nI n)), (0, .null)] [] (oh 11 h M (rA S 28 (fillF (sA S 28) (sA S 15) 0 n)))
  | 0, i, hk => by
    have : i = n := by omega
    subst this
    have h2 : i ≤ i := Nat.le_refl _
    rw [q_146_45]
    simp (disch := omega) only [q_146_0, q_146_1, q_146_4, q_146_5, q_146_6, q_146_7, q_146_10, q_146_11, q_146_12, q_146_13, q_146_16, q_146_19, q_146_22, q_146_23, q_146_24, q_146_25, q_146_28, q_146_31, q_146_34, q_146_35, q_146_36, q_146_39, q_146_41, q_146_42, q_146_43, q_146_47, q_146_48, q_146_51, q_146_52, q_146_55, q_146_57, q_146_58, q_146_61, q_146_63, q_146_64, q_146_65, q_146_68, og_11_16, op_11_16, og_11_28, or_11_28, ow_11_28, og_11_15, or_11_15, ow_11_15, og_11_29, op_11_29, og_11_34, og_11_58, og_11_12, or_11_12, ow_11_12, og_11_13, or_11_13, ow_11_13, og_11_14, or_11_14, ow_11_14, og_11_35, o_is, o_ob, ofs_len11, ↓reduceIte, k_cr, k_ci, k_oR, k_oN, k_aR, k_aN, and_true, true_and, and_self, eq_self, Nat.reduceLT, Nat.reduceLeDiff, Nat.reduceEqDiff, Nat.reduceAdd, Nat.reduceMul, Bool.true_eq_false, Bool.false_eq_true, Nat.add_sub_cancel, Nat.not_lt_zero, Nat.zero_le, k_sub, k_sb1, k_r, k_n, k_ret, k_t1, k_t0, k_nr, k_nn, k_z0, k_z1, k_zb, x_okI, lit_nI, k_in, k_cl, k_lt, k_le, k_eq, k_neg, nI_add, nI_mul, k_clt, k_cgt, k_cle, k_cge, k_ceq, bI_0, k_sh8, ne_eq, Nat.add_eq_zero_iff, Nat.one_ne_zero, Nat.succ_ne_zero, and_false, false_and, not_false_eq_true, not_true_eq_false, ite_true, ite_false, if_true, if_false, h2]
  | k + 1, i, hk => by
    have h8 : ¬ n ≤ i := by omega
    have h9 : i < n := by omega
    have ih := ru_in d h M S f t n hn k (i + 1) (by omega)
    have hu : uA (rA S 28 (fillF (sA S 28) (sA S 15) 0 i)) 28 i (sA S 15 i) = rA S 28 (fillF (sA S 28) (sA S 15) 0 (i + 1)) := by
      rw [uA_rA]
      have := fillF_s (sA S 28) (sA S 15) 0 i
      rw [Nat.zero_add] at this
      rw [this]
    have e15 : sA (rA S 28 (fillF (sA S 28) (sA S 15) 0 i)) 15 = sA S 15 := rfl
    rw [← hu] at ih
    rw [q_146_45]
    simp (disch := omega) only [q_146_0, q_146_1, q_146_4, q_146_5, q_146_6, q_146_7, q_146_10, q_146_11, q_146_12, q_146_13, q_146_16, q_146_19, q_146_22, q_146_23, q_146_24, q_146_25, q_146_28, q_146_31, q_146_34, q_146_35, q_146_36, q_146_39, q_146_41, q_146_42, q_146_43, q_146_47, q_146_48, q_146_51, q_146_52, q_146_55, q_146_57, q_146_58, q_146_61, q_146_63, q_146_64, q_146_65, q_146_68, og_11_16, op_11_16, og_11_28, or_11_28, ow_11_28, og_11_15, or_11_15, ow_11_15, og_11_29, op_11_29, og_11_34, og_11_58, og_11_12, or_11_12, ow_11_12, og_11_13, or_11_13, ow_11_13, og_11_14, or_11_14, ow_11_14, og_11_35, o_is, o_ob, ofs_len11, ↓reduceIte, k_cr, k_ci, k_oR, k_oN, k_aR, k_aN, and_true, true_and, and_self, eq_self, Nat.reduceLT, Nat.reduceLeDiff, Nat.reduceEqDiff, Nat.reduceAdd, Nat.reduceMul, Bool.true_eq_false, Bool.false_eq_true, Nat.add_sub_cancel, Nat.not_lt_zero, Nat.zero_le, k_sub, k_sb1, k_r, k_n, k_ret, k_t1, k_t0, k_nr, k_nn, k_z0, k_z1, k_zb, x_okI, lit_nI, k_in, k_cl, k_lt, k_le, k_eq, k_neg, nI_add, nI_mul, k_clt, k_cgt, k_cle, k_cge, k_ceq, bI_0, k_sh8, ne_eq, Nat.add_eq_zero_iff, Nat.one_ne_zero, Nat.succ_ne_zero, and_false, false_and, not_false_eq_true, not_true_eq_false, ite_true, ite_false, if_true, if_false, h8, h9, e15]
    exact ih
theorem ru_out (d : Nat) (h : xH) (M : Nat) (S : gS) (f t : Int32) (n r : Nat) (hn : n ≤ 700) (hr : r < 64) : ∀ (k i : Nat), i + k = n → xrun d 146 145 [(1, .ref M), (1, .int f), (1, .int t), (1, .int (nI n)), (1, .int (nI r)), (1, .int (nI i))] [] (oh 11 h M (rA S 14 (fillF (sA S 14) (sA S 28) (700 * r) i))) = some (some (.int (sI S 35)), oh 11 h M (rA S 14 (fillF (sA S 14) (sA S 28) (700 * r) n)))
  | 0, i, hk => by
    have : i = n := by omega
    subst this
    have h2 : i ≤ i := Nat.le_refl _
    rw [q_146_145]
    have e35 : sI (rA S 14 (fillF (sA S 14) (sA S 28) (700 * r) i)) 35 = sI S 35 := rfl
    simp (disch := omega) only [q_146_147, q_146_148, q_146_151, q_146_152, q_146_155, q_146_158, q_146_160, q_146_161, q_146_163, q_146_164, q_146_165, q_146_168, q_146_170, q_146_171, q_146_172, q_146_175, q_146_178, q_146_179, q_146_182, og_11_16, op_11_16, og_11_28, or_11_28, ow_11_28, og_11_15, or_11_15, ow_11_15, og_11_29, op_11_29, og_11_34, og_11_58, og_11_12, or_11_12, ow_11_12, og_11_13, or_11_13, ow_11_13, og_11_14, or_11_14, ow_11_14, og_11_35, o_is, o_ob, ofs_len11, ↓reduceIte, k_cr, k_ci, k_oR, k_oN, k_aR, k_aN, and_true, true_and, and_self, eq_self, Nat.reduceLT, Nat.reduceLeDiff, Nat.reduceEqDiff, Nat.reduceAdd, Nat.reduceMul, Bool.true_eq_false, Bool.false_eq_true, Nat.add_sub_cancel, Nat.not_lt_zero, Nat.zero_le, k_sub, k_sb1, k_r, k_n, k_ret, k_t1, k_t0, k_nr, k_nn, k_z0, k_z1, k_zb, x_okI, lit_nI, k_in, k_cl, k_lt, k_le, k_eq, k_neg, nI_add, nI_mul, k_clt, k_cgt, k_cle, k_cge, k_ceq, bI_0, k_sh8, ne_eq, Nat.add_eq_zero_iff, Nat.one_ne_zero, Nat.succ_ne_zero, and_false, false_and, not_false_eq_true, not_true_eq_false, ite_true, ite_false, if_true, if_false, h2, e35]
  | k + 1, i, hk => by
    have h8 : ¬ n ≤ i := by omega
    have h9 : i < n := by omega
    have ih := ru_out d h M S f t n r hn hr k (i + 1) (by omega)
    have hu : uA (rA S 14 (fillF (sA S 14) (sA S 28) (700 * r) i)) 14 (700 * r + i) (sA S 28 i) = rA S 14 (fillF (sA S 14) (sA S 28) (700 * r) (i + 1)) := by
      rw [uA_rA, fillF_s]
    have e28 : sA (rA S 14 (fillF (sA S 14) (sA S 28) (700 * r) i)) 28 = sA S 28 := rfl
    rw [← hu] at ih
    rw [q_146_145]
    simp (disch := omega) only [q_146_147, q_146_148, q_146_151, q_146_152, q_146_155, q_146_158, q_146_160, q_146_161, q_146_163, q_146_164, q_146_165, q_146_168, q_146_170, q_146_171, q_146_172, q_146_175, q_146_178, q_146_179, q_146_182, og_11_16, op_11_16, og_11_28, or_11_28, ow_11_28, og_11_15, or_11_15, ow_11_15, og_11_29, op_11_29, og_11_34, og_11_58, og_11_12, or_11_12, ow_11_12, og_11_13, or_11_13, ow_11_13, og_11_14, or_11_14, ow_11_14, og_11_35, o_is, o_ob, ofs_len11, ↓reduceIte, k_cr, k_ci, k_oR, k_oN, k_aR, k_aN, and_true, true_and, and_self, eq_self, Nat.reduceLT, Nat.reduceLeDiff, Nat.reduceEqDiff, Nat.reduceAdd, Nat.reduceMul, Bool.true_eq_false, Bool.false_eq_true, Nat.add_sub_cancel, Nat.not_lt_zero, Nat.zero_le, k_sub, k_sb1, k_r, k_n, k_ret, k_t1, k_t0, k_nr, k_nn, k_z0, k_z1, k_zb, x_okI, lit_nI, k_in, k_cl, k_lt, k_le, k_eq, k_neg, nI_add, nI_mul, k_clt, k_cgt, k_cle, k_cge, k_ceq, bI_0, k_sh8, ne_eq, Nat.add_eq_zero_iff, Nat.one_ne_zero, Nat.succ_ne_zero, and_false, false_and, not_false_eq_true, not_true_eq_false, ite_true, ite_false, if_true, if_false, h8, h9, e28]
    exact ih
theorem m_rules_bad (d : Nat) (h : xH) (M : Nat) (S : gS) (f t : Int32) (hb : inR f 0 7 = false ∨ inR t 0 7 = false ∨ f = t) : xm (d + 2) 146 [.ref M, .int f, .int t] (oh 11 h M S) = some (some (.int (-nI 2)), oh 11 h M (uI S 16 (nI 0))) := by
  rw [E_146 _ _ _ _ _ rfl]
  cases h1 : inR f 0 7 with
  | false =>
    have h1' : (decide (0 ≤ f.toInt64) && decide (f.toInt64 ≤ 7)) = false := h1
    simp (disch := omega) only [q_146_0, q_146_1, q_146_4, q_146_5, q_146_6, q_146_7, q_146_10, q_146_11, q_146_12, q_146_13, q_146_16, q_146_19, q_146_22, q_146_23, q_146_24, q_146_25, q_146_28, q_146_31, q_146_34, q_146_35, q_146_36, q_146_39, q_146_41, q_146_42, q_146_43, q_146_47, q_146_48, q_146_51, q_146_52, q_146_55, q_146_57, q_146_58, q_146_61, q_146_63, q_146_64, q_146_65, q_146_68, q_146_71, q_146_72, q_146_73, q_146_76, q_146_77, q_146_80, q_146_81, q_146_84, q_146_85, q_146_88, q_146_90, q_146_91, q_146_94, q_146_95, q_146_96, q_146_97, q_146_98, q_146_99, q_146_102, q_146_103, q_146_106, q_146_107, q_146_110, q_146_112, q_146_113, q_146_116, q_146_117, q_146_118, q_146_120, q_146_121, q_146_122, q_146_123, q_146_124, q_146_126, q_146_127, q_146_130, q_146_132, q_146_133, q_146_134, q_146_135, q_146_138, q_146_140, q_146_141, q_146_142, q_146_143, q_146_147, q_146_148, q_146_151, q_146_152, q_146_155, q_146_158, q_146_160, q_146_161, q_146_163, q_146_164, q_146_165, q_146_168, q_146_170, q_146_171, q_146_172, q_146_175, q_146_178, q_146_179, q_146_182, og_11_16, op_11_16, og_11_28, or_11_28, ow_11_28, og_11_15, or_11_15, ow_11_15, og_11_29, op_11_29, og_11_34, og_11_58, og_11_12, or_11_12, ow_11_12, og_11_13, or_11_13, ow_11_13, og_11_14, or_11_14, ow_11_14, og_11_35, o_is, o_ob, ofs_len11, ↓reduceIte, k_cr, k_ci, k_oR, k_oN, k_aR, k_aN, and_true, true_and, and_self, eq_self, Nat.reduceLT, Nat.reduceLeDiff, Nat.reduceEqDiff, Nat.reduceAdd, Nat.reduceMul, Bool.true_eq_false, Bool.false_eq_true, Nat.add_sub_cancel, Nat.not_lt_zero, Nat.zero_le, k_sub, k_sb1, k_r, k_n, k_ret, k_t1, k_t0, k_nr, k_nn, k_z0, k_z1, k_zb, x_okI, lit_nI, k_in, k_cl, k_lt, k_le, k_eq, k_neg, nI_add, nI_mul, k_clt, k_cgt, k_cle, k_cge, k_ceq, bI_0, k_sh8, ne_eq, Nat.add_eq_zero_iff, Nat.one_ne_zero, Nat.succ_ne_zero, and_false, false_and, not_false_eq_true, not_true_eq_false, ite_true, ite_false, if_true, if_false, m_in, h1']
  | true =>
    have h1' : (decide (0 ≤ f.toInt64) && decide (f.toInt64 ≤ 7)) = true := h1
    cases h2 : inR t 0 7 with
    | false =>
      have h2' : (decide (0 ≤ t.toInt64) && decide (t.toInt64 ≤ 7)) = false := h2
      simp (disch := omega) only [q_146_0, q_146_1, q_146_4, q_146_5, q_146_6, q_146_7, q_146_10, q_146_11, q_146_12, q_146_13, q_146_16, q_146_19, q_146_22, q_146_23, q_146_24, q_146_25, q_146_28, q_146_31, q_146_34, q_146_35, q_146_36, q_146_39, q_146_41, q_146_42, q_146_43, q_146_47, q_146_48, q_146_51, q_146_52, q_146_55, q_146_57, q_146_58, q_146_61, q_146_63, q_146_64, q_146_65, q_146_68, q_146_71, q_146_72, q_146_73, q_146_76, q_146_77, q_146_80, q_146_81, q_146_84, q_146_85, q_146_88, q_146_90, q_146_91, q_146_94, q_146_95, q_146_96, q_146_97, q_146_98, q_146_99, q_146_102, q_146_103, q_146_106, q_146_107, q_146_110, q_146_112, q_146_113, q_146_116, q_146_117, q_146_118, q_146_120, q_146_121, q_146_122, q_146_123, q_146_124, q_146_126, q_146_127, q_146_130, q_146_132, q_146_133, q_146_134, q_146_135, q_146_138, q_146_140, q_146_141, q_146_142, q_146_143, q_146_147, q_146_148, q_146_151, q_146_152, q_146_155, q_146_158, q_146_160, q_146_161, q_146_163, q_146_164, q_146_165, q_146_168, q_146_170, q_146_171, q_146_172, q_146_175, q_146_178, q_146_179, q_146_182, og_11_16, op_11_16, og_11_28, or_11_28, ow_11_28, og_11_15, or_11_15, ow_11_15, og_11_29, op_11_29, og_11_34, og_11_58, og_11_12, or_11_12, ow_11_12, og_11_13, or_11_13, ow_11_13, og_11_14, or_11_14, ow_11_14, og_11_35, o_is, o_ob, ofs_len11, ↓reduceIte, k_cr, k_ci, k_oR, k_oN, k_aR, k_aN, and_true, true_and, and_self, eq_self, Nat.reduceLT, Nat.reduceLeDiff, Nat.reduceEqDiff, Nat.reduceAdd, Nat.reduceMul, Bool.true_eq_false, Bool.false_eq_true, Nat.add_sub_cancel, Nat.not_lt_zero, Nat.zero_le, k_sub, k_sb1, k_r, k_n, k_ret, k_t1, k_t0, k_nr, k_nn, k_z0, k_z1, k_zb, x_okI, lit_nI, k_in, k_cl, k_lt, k_le, k_eq, k_neg, nI_add, nI_mul, k_clt, k_cgt, k_cle, k_cge, k_ceq, bI_0, k_sh8, ne_eq, Nat.add_eq_zero_iff, Nat.one_ne_zero, Nat.succ_ne_zero, and_false, false_and, not_false_eq_true, not_true_eq_false, ite_true, ite_false, if_true, if_false, m_in, h1', h2']
    | true =>
      have h2' : (decide (0 ≤ t.toInt64) && decide (t.toInt64 ≤ 7)) = true := h2
      have h3 : f = t := by
        rcases hb with q | q | q
        · rw [h1] at q
          cases q
        · rw [h2] at q
          cases q
        · exact q
      subst h3
      simp (disch := omega) only [q_146_0, q_146_1, q_146_4, q_146_5, q_146_6, q_146_7, q_146_10, q_146_11, q_146_12, q_146_13, q_146_16, q_146_19, q_146_22, q_146_23, q_146_24, q_146_25, q_146_28, q_146_31, q_146_34, q_146_35, q_146_36, q_146_39, q_146_41, q_146_42, q_146_43, q_146_47, q_146_48, q_146_51, q_146_52, q_146_55, q_146_57, q_146_58, q_146_61, q_146_63, q_146_64, q_146_65, q_146_68, q_146_71, q_146_72, q_146_73, q_146_76, q_146_77, q_146_80, q_146_81, q_146_84, q_146_85, q_146_88, q_146_90, q_146_91, q_146_94, q_146_95, q_146_96, q_146_97, q_146_98, q_146_99, q_146_102, q_146_103, q_146_106, q_146_107, q_146_110, q_146_112, q_146_113, q_146_116, q_146_117, q_146_118, q_146_120, q_146_121, q_146_122, q_146_123, q_146_124, q_146_126, q_146_127, q_146_130, q_146_132, q_146_133, q_146_134, q_146_135, q_146_138, q_146_140, q_146_141, q_146_142, q_146_143, q_146_147, q_146_148, q_146_151, q_146_152, q_146_155, q_146_158, q_146_160, q_146_161, q_146_163, q_146_164, q_146_165, q_146_168, q_146_170, q_146_171, q_146_172, q_146_175, q_146_178, q_146_179, q_146_182, og_11_16, op_11_16, og_11_28, or_11_28, ow_11_28, og_11_15, or_11_15, ow_11_15, og_11_29, op_11_29, og_11_34, og_11_58, og_11_12, or_11_12, ow_11_12, og_11_13, or_11_13, ow_11_13, og_11_14, or_11_14, ow_11_14, og_11_35, o_is, o_ob, ofs_len11, ↓reduceIte, k_cr, k_ci, k_oR, k_oN, k_aR, k_aN, and_true, true_and, and_self, eq_self, Nat.reduceLT, Nat.reduceLeDiff, Nat.reduceEqDiff, Nat.reduceAdd, Nat.reduceMul, Bool.true_eq_false, Bool.false_eq_true, Nat.add_sub_cancel, Nat.not_lt_zero, Nat.zero_le, k_sub, k_sb1, k_r, k_n, k_ret, k_t1, k_t0, k_nr, k_nn, k_z0, k_z1, k_zb, x_okI, lit_nI, k_in, k_cl, k_lt, k_le, k_eq, k_neg, nI_add, nI_mul, k_clt, k_cgt, k_cle, k_cge, k_ceq, bI_0, k_sh8, ne_eq, Nat.add_eq_zero_iff, Nat.one_ne_zero, Nat.succ_ne_zero, and_false, false_and, not_false_eq_true, not_true_eq_false, ite_true, ite_false, if_true, if_false, m_in, h1']
/-- what rules touches beside RULES' own fields -/
def pRl (k : Nat) : Bool := decide (k = 16) || (decide (28 ≤ k) && decide (k ≤ 58))
theorem pMo_pRl : ∀ k, pRl k = false → pMo k = false := by
  intro k hk
  unfold pRl at hk
  unfold pMo
  rw [Bool.or_eq_false_iff, Bool.and_eq_false_iff, decide_eq_false_iff_not, decide_eq_false_iff_not, decide_eq_false_iff_not] at hk
  rw [Bool.and_eq_false_iff, decide_eq_false_iff_not, decide_eq_false_iff_not]
  omega
theorem fr.rA {P : Nat → Bool} {S T : gS} {j : Nat} {z : Nat → Int32} (h : fr P S T) (hj : P j = true) : fr P S (rA T j z) := fun k hk => by
  obtain ⟨a1, a2, a3, a4⟩ := h k hk
  refine ⟨a1, a2, ?_, a4⟩
  show va_up (sA T) j z k = _
  unfold va_up
  rw [if_neg (ne_of_P hj hk)]
  exact a3
theorem isT.fr {P : Nat → Bool} {S T : gS} {L : List mT} (h : isT S L) (hf : fr P S T) (hp : ∀ k, 34 ≤ k → k ≤ 52 → P k = false) : isT T L := by
  obtain ⟨h1, h2, h3, h4, h5, h6, h7, h8, h9⟩ := h
  refine ⟨by rw [(hf 34 (hp 34 (by omega) (by omega))).1]; exact h1, by rw [(hf 35 (hp 35 (by omega) (by omega))).1]; exact h2, h3.fr hf ⟨hp _ (by omega) (by omega), hp _ (by omega) (by omega), hp _ (by omega) (by omega), hp _ (by omega) (by omega), hp _ (by omega) (by omega), hp _ (by omega) (by omega)⟩, by rw [(hf 41 (hp 41 (by omega) (by omega))).2.2.1]; exact h4, by rw [(hf 42 (hp 42 (by omega) (by omega))).1]; exact h5, h6.fr hf ⟨hp _ (by omega) (by omega), hp _ (by omega) (by omega), hp _ (by omega) (by omega), hp _ (by omega) (by omega), hp _ (by omega) (by omega), hp _ (by omega) (by omega)⟩, by rw [(hf 48 (hp 48 (by omega) (by omega))).2.2.1]; exact h7, ?_, h9⟩
  exact h8.same (hf 49 (hp 49 (by omega) (by omega))).1 (hf 50 (hp 50 (by omega) (by omega))).2.2.1 (hf 51 (hp 51 (by omega) (by omega))).2.2.2.1 (hf 52 (hp 52 (by omega) (by omega))).2.2.1
theorem aOK_P {t : Nat → Int32} {n : Nat} (h7 : n ≤ 700) : actP (pcs t n) aOK := by
  have h := fun i => Nat.le_trans (pcs_A t n i) h7
  refine ⟨⟨Nat.zero_le _, 6, by omega, rfl⟩, fun c => ⟨Nat.zero_le _, ?_⟩, fun i _ => ⟨h i, 1, by omega, rfl⟩, fun i => ⟨h i, 2, by omega, rfl⟩, fun i _ => ⟨h i, 3, by omega, rfl⟩, fun i _ => ⟨h i, 4, by omega, rfl⟩, fun i _ => ⟨h i, 5, by omega, rfl⟩⟩
  show ∃ k, k ≤ 13 ∧ opW c = nI k
  unfold opW
  split
  · exact ⟨7, by omega, rfl⟩
  · split
    · exact ⟨8, by omega, rfl⟩
    · split
      · exact ⟨9, by omega, rfl⟩
      · split
        · exact ⟨10, by omega, rfl⟩
        · exact ⟨11, by omega, rfl⟩
theorem moP.mono {P : aT → Prop} {n k : Nat} (hn : n ≤ k) {m : mT} (h : moP P n m) : moP P k m :=
  ⟨Nat.le_trans h.1 hn, Nat.le_trans h.2.1 hn, fun r hr => ⟨(h.2.2 r hr).1, Nat.le_trans (h.2.2 r hr).2.1 hn, Nat.le_trans (h.2.2 r hr).2.2.1 hn, (h.2.2 r hr).2.2.2⟩⟩
/-- the text's own bytes -/
def txT (S : gS) (n : Nat) : Nat → Int32 := fillF (sA S 28) (sA S 15) 0 n
def rlsR (d : Nat) (h : xH) (M : Nat) (cN mN : Nat → Nat) (f t n : Nat) (S : gS) : Nat ⊕ List mT → Prop
  | .inl q => ∃ S', xm (d + 8) 146 [.ref M, .int (nI f), .int (nI t)] (oh 11 h M S) = some (some (.int (-nI 10 - nI ((pcs (txT S n) n).2.1 q))), oh 11 h M S') ∧ fr pRl S S' ∧ sI S' 16 = nI 0
  | .inr L => ∃ S', fr pRl S S' ∧ sI S' 16 = nI 0 ∧ (if mnF (mosB (fC S cN f) (fC S cN t) (eK S mN f) (eK S mN t) [] L) 701 = 701 then xm (d + 8) 146 [.ref M, .int (nI f), .int (nI t)] (oh 11 h M S) = some (some (.int (nI L.length)), oh 11 h M (rA (uA (uA S' 12 (8 * f + t) (nI 1)) 13 (8 * f + t) (nI n)) 14 (fillF (sA S 14) (txT S n) (700 * (8 * f + t)) n))) else xm (d + 8) 146 [.ref M, .int (nI f), .int (nI t)] (oh 11 h M S) = some (some (.int (-nI 10 - nI (mnF (mosB (fC S cN f) (fC S cN t) (eK S mN f) (eK S mN t) [] L) 701))), oh 11 h M S'))
theorem m_rules (d : Nat) (h : xH) (M : Nat) {S : gS} {cN mN : Nat → Nat} {f t n a : Nat} (hR : refK S cN mN) (hf : f < 8) (ht : t < 8) (hne : ¬ f = t) (h16 : sI S 16 = nI n) (h7 : n ≤ 700) (h32 : sI S 32 = nI a) : rlsR d h M cN mN f t n S (teF (pcs (txT S n) n)) := by
  have i1 : (decide (0 ≤ (nI f).toInt64) && decide ((nI f).toInt64 ≤ 7)) = true := by
    have := inR_nI (n := f) (hi := 7) (by omega) (by omega)
    rw [decide_eq_true (show f ≤ 7 by omega)] at this
    exact this
  have i2 : (decide (0 ≤ (nI t).toInt64) && decide ((nI t).toInt64 ≤ 7)) = true := by
    have := inR_nI (n := t) (hi := 7) (by omega) (by omega)
    rw [decide_eq_true (show t ≤ 7 by omega)] at this
    exact this
  have e1 := ru_in (d + 7) h M (uI S 16 (nI 0)) (nI f) (nI t) n h7 n 0 (by omega)
  have fill0 : rA (uI S 16 (nI 0)) 28 (fillF (sA (uI S 16 (nI 0)) 28) (sA (uI S 16 (nI 0)) 15) 0 0) = uI S 16 (nI 0) := by
    have : fillF (sA (uI S 16 (nI 0)) 28) (sA (uI S 16 (nI 0)) 15) 0 0 = sA (uI S 16 (nI 0)) 28 := by
      funext i
      unfold fillF
      rw [if_neg (by omega)]
    rw [this]
    unfold rA
    have w : va_up (uI S 16 (nI 0)).2.2.1 28 (sA (uI S 16 (nI 0)) 28) = (uI S 16 (nI 0)).2.2.1 := by
      funext i
      unfold va_up
      by_cases hi : i = 28
      · rw [if_pos hi, hi]
        rfl
      · rw [if_neg hi]
    rw [w]
  rw [fill0] at e1
  have eT : sA (uI (rA (uI S 16 (nI 0)) 28 (fillF (sA (uI S 16 (nI 0)) 28) (sA (uI S 16 (nI 0)) 15) 0 n)) 29 (nI n)) 28 = txT S n := rfl
  have hfr0 : fr pRl S (uI (rA (uI S 16 (nI 0)) 28 (fillF (sA (uI S 16 (nI 0)) 28) (sA (uI S 16 (nI 0)) 15) 0 n)) 29 (nI n)) := ((fr.rfl.uI (by decide)).rA (by decide)).uI (by decide)
  have h16' : sI (uI (rA (uI S 16 (nI 0)) 28 (fillF (sA (uI S 16 (nI 0)) 28) (sA (uI S 16 (nI 0)) 15) 0 n)) 29 (nI n)) 16 = nI 0 := rfl
  have hp := m_parse d h M (t := txT S n) (n := n) (a := a) (S := uI (rA (uI S 16 (nI 0)) 28 (fillF (sA (uI S 16 (nI 0)) 28) (sA (uI S 16 (nI 0)) 15) 0 n)) 29 (nI n)) h7 eT rfl h32
  have go : ∀ S1, xm (d + 7) 147 [.ref M] (oh 11 h M (uI (rA (uI S 16 (nI 0)) 28 (fillF (sA (uI S 16 (nI 0)) 28) (sA (uI S 16 (nI 0)) 15) 0 n)) 29 (nI n))) = some (none, oh 11 h M S1) → xm (d + 8) 146 [.ref M, .int (nI f), .int (nI t)] (oh 11 h M S) = xrun (d + 7) 146 80 [(1, .ref M), (1, .int (nI f)), (1, .int (nI t)), (1, .int (nI n)), (1, .int (nI n)), (0, .null)] [] (oh 11 h M S1) := by
    intro S1 e
    rw [E_146 _ _ _ _ _ rfl]
    simp (disch := omega) only [q_146_0, q_146_1, q_146_4, q_146_5, q_146_6, q_146_7, q_146_10, q_146_11, q_146_12, q_146_13, q_146_16, q_146_19, q_146_22, q_146_23, q_146_24, q_146_25, q_146_28, q_146_31, q_146_34, q_146_35, q_146_36, q_146_39, q_146_41, q_146_42, q_146_43, og_11_16, op_11_16, og_11_28, or_11_28, ow_11_28, og_11_15, or_11_15, ow_11_15, og_11_29, op_11_29, og_11_34, og_11_58, og_11_12, or_11_12, ow_11_12, og_11_13, or_11_13, ow_11_13, og_11_14, or_11_14, ow_11_14, og_11_35, o_is, o_ob, ofs_len11, ↓reduceIte, k_cr, k_ci, k_oR, k_oN, k_aR, k_aN, and_true, true_and, and_self, eq_self, Nat.reduceLT, Nat.reduceLeDiff, Nat.reduceEqDiff, Nat.reduceAdd, Nat.reduceMul, Bool.true_eq_false, Bool.false_eq_true, Nat.add_sub_cancel, Nat.not_lt_zero, Nat.zero_le, k_sub, k_sb1, k_r, k_n, k_ret, k_t1, k_t0, k_nr, k_nn, k_z0, k_z1, k_zb, x_okI, lit_nI, k_in, k_cl, k_lt, k_le, k_eq, k_neg, nI_add, nI_mul, k_clt, k_cgt, k_cle, k_cge, k_ceq, bI_0, k_sh8, ne_eq, Nat.add_eq_zero_iff, Nat.one_ne_zero, Nat.succ_ne_zero, and_false, false_and, not_false_eq_true, not_true_eq_false, ite_true, ite_false, if_true, if_false, h16, m_in, i1, i2, hne, e1]
    generalize rA (uI S 16 (nI 0)) 28 (fillF (sA (uI S 16 (nI 0)) 28) (sA (uI S 16 (nI 0)) 15) 0 n) = S2 at *
    simp (disch := omega) only [q_146_0, q_146_1, q_146_4, q_146_5, q_146_6, q_146_7, q_146_10, q_146_11, q_146_12, q_146_13, q_146_16, q_146_19, q_146_22, q_146_23, q_146_24, q_146_25, q_146_28, q_146_31, q_146_34, q_146_35, q_146_36, q_146_39, q_146_41, q_146_42, q_146_43, q_146_47, q_146_48, q_146_51, q_146_52, q_146_55, q_146_57, q_146_58, q_146_61, q_146_63, q_146_64, q_146_65, q_146_68, q_146_71, q_146_72, q_146_73, q_146_76, q_146_77, og_11_16, op_11_16, og_11_28, or_11_28, ow_11_28, og_11_15, or_11_15, ow_11_15, og_11_29, op_11_29, og_11_34, og_11_58, og_11_12, or_11_12, ow_11_12, og_11_13, or_11_13, ow_11_13, og_11_14, or_11_14, ow_11_14, og_11_35, o_is, o_ob, ofs_len11, ↓reduceIte, k_cr, k_ci, k_oR, k_oN, k_aR, k_aN, and_true, true_and, and_self, eq_self, Nat.reduceLT, Nat.reduceLeDiff, Nat.reduceEqDiff, Nat.reduceAdd, Nat.reduceMul, Bool.true_eq_false, Bool.false_eq_true, Nat.add_sub_cancel, Nat.not_lt_zero, Nat.zero_le, k_sub, k_sb1, k_r, k_n, k_ret, k_t1, k_t0, k_nr, k_nn, k_z0, k_z1, k_zb, x_okI, lit_nI, k_in, k_cl, k_lt, k_le, k_eq, k_neg, nI_add, nI_mul, k_clt, k_cgt, k_cle, k_cge, k_ceq, bI_0, k_sh8, ne_eq, Nat.add_eq_zero_iff, Nat.one_ne_zero, Nat.succ_ne_zero, and_false, false_and, not_false_eq_true, not_true_eq_false, ite_true, ite_false, if_true, if_false, e]
  generalize uI (rA (uI S 16 (nI 0)) 28 (fillF (sA (uI S 16 (nI 0)) 28) (sA (uI S 16 (nI 0)) 15) 0 n)) 29 (nI n) = S0 at *
  cases hq : teF (pcs (txT S n) n) with
  | inl q =>
    rw [hq] at hp
    obtain ⟨S1, e2, h34, f1⟩ := hp
    refine ⟨S1, ?_, hfr0.trans (f1.wide pMo_pRl), ?_⟩
    · have ne := place_ne h7 (t := txT S n) q
      rw [go S1 e2]
      simp (disch := omega) only [q_146_80, q_146_81, q_146_84, q_146_85, q_146_88, q_146_90, q_146_91, q_146_94, q_146_95, q_146_96, q_146_97, q_146_98, q_146_99, q_146_102, q_146_103, q_146_106, q_146_107, q_146_110, q_146_112, q_146_113, q_146_116, q_146_117, q_146_118, q_146_120, q_146_121, q_146_122, q_146_123, q_146_124, q_146_126, q_146_127, q_146_130, q_146_132, q_146_133, q_146_134, q_146_135, q_146_138, q_146_140, q_146_141, q_146_142, q_146_143, q_146_147, q_146_148, q_146_151, q_146_152, q_146_155, q_146_158, q_146_160, q_146_161, q_146_163, q_146_164, q_146_165, q_146_168, q_146_170, q_146_171, q_146_172, q_146_175, q_146_178, q_146_179, q_146_182, og_11_16, op_11_16, og_11_28, or_11_28, ow_11_28, og_11_15, or_11_15, ow_11_15, og_11_29, op_11_29, og_11_34, og_11_58, og_11_12, or_11_12, ow_11_12, og_11_13, or_11_13, ow_11_13, og_11_14, or_11_14, ow_11_14, og_11_35, o_is, o_ob, ofs_len11, ↓reduceIte, k_cr, k_ci, k_oR, k_oN, k_aR, k_aN, and_true, true_and, and_self, eq_self, Nat.reduceLT, Nat.reduceLeDiff, Nat.reduceEqDiff, Nat.reduceAdd, Nat.reduceMul, Bool.true_eq_false, Bool.false_eq_true, Nat.add_sub_cancel, Nat.not_lt_zero, Nat.zero_le, k_sub, k_sb1, k_r, k_n, k_ret, k_t1, k_t0, k_nr, k_nn, k_z0, k_z1, k_zb, x_okI, lit_nI, k_in, k_cl, k_lt, k_le, k_eq, k_neg, nI_add, nI_mul, k_clt, k_cgt, k_cle, k_cge, k_ceq, bI_0, k_sh8, ne_eq, Nat.add_eq_zero_iff, Nat.one_ne_zero, Nat.succ_ne_zero, and_false, false_and, not_false_eq_true, not_true_eq_false, ite_true, ite_false, if_true, if_false, h34, ne]
    · rw [(f1 16 (by decide)).1]
      exact h16'
  | inr L =>
    rw [hq] at hp
    obtain ⟨S1, e2, hT, f1⟩ := hp
    have f2 := hfr0.trans (f1.wide pMo_pRl)
    have hP := fun m hm => (teF_P (aOK_P h7) hq m hm).mono h7
    have g : ∀ k, k < 6 → sI S1 k = sI S k ∧ sA S1 k = sA S k ∧ sL S1 k = sL S k := by
      intro k hk
      have w := f2 k (by unfold pRl; rw [Bool.or_eq_false_iff, Bool.and_eq_false_iff, decide_eq_false_iff_not, decide_eq_false_iff_not]; omega)
      exact ⟨w.1, w.2.2.1, w.2.2.2.1⟩
    have g0 := (g 0 (by omega)).2.1
    have g1 := (g 1 (by omega)).2.2
    have g2 := (g 2 (by omega)).2.1
    have g3 := (g 3 (by omega)).2.2
    have g4 := (g 4 (by omega)).2.1
    have g5 := (g 5 (by omega)).2.1
    have hR1 : refK S1 cN mN := by
      refine ⟨⟨fun b hb => ?_, fun b c hb hc => ?_⟩, fun i hi => ?_⟩
      · rw [g0]
        exact hR.1.1 b hb
      · rw [g2]
        exact hR.1.2 b c hb hc
      · unfold rw_
        rw [g5]
        exact hR.2 i hi
    have fe : ∀ b, fC S1 cN b = fC S cN b := by
      intro b
      unfold fC
      rw [g1]
    have ee : eK S1 mN = eK S mN := by
      funext b c
      unfold eK rw_
      rw [g3, g4, g5]
    have eJ := m_judge (d + 3) h M hR1 hf ht hT hP
    rw [fe, fe, ee] at eJ
    unfold rlsR
    have hz := mnF_le (mosB (fC S cN f) (fC S cN t) (eK S mN f) (eK S mN t) [] L) 701
    generalize hzz : mnF (mosB (fC S cN f) (fC S cN t) (eK S mN f) (eK S mN t) [] L) 701 = z at hz eJ
    have h34 := hT.1
    have h58 : sI (jS S1 z) 58 = bdI z := rfl
    have f3 : fr pRl S (jS S1 z) := f2.uI (by decide)
    have h16s : sI (jS S1 z) 16 = nI 0 := by
      show sI S1 16 = nI 0
      rw [(f1 16 (by decide)).1]
      exact h16'
    refine ⟨jS S1 z, f3, h16s, ?_⟩
    rw [hzz]
    by_cases h1 : z = 701
    · rw [if_pos h1]
      have e58 : bdI z = -nI 1 := if_pos h1
      rw [e58] at h58
      have eO := ru_out (d + 7) h M (uA (uA (jS S1 z) 12 (8 * f + t) (nI 1)) 13 (8 * f + t) (nI n)) (nI f) (nI t) n (8 * f + t) h7 (by omega) n 0 (by omega)
      have fo0 : rA (uA (uA (jS S1 z) 12 (8 * f + t) (nI 1)) 13 (8 * f + t) (nI n)) 14 (fillF (sA (uA (uA (jS S1 z) 12 (8 * f + t) (nI 1)) 13 (8 * f + t) (nI n)) 14) (sA (uA (uA (jS S1 z) 12 (8 * f + t) (nI 1)) 13 (8 * f + t) (nI n)) 28) (700 * (8 * f + t)) 0) = uA (uA (jS S1 z) 12 (8 * f + t) (nI 1)) 13 (8 * f + t) (nI n) := by
        generalize uA (uA (jS S1 z) 12 (8 * f + t) (nI 1)) 13 (8 * f + t) (nI n) = X
        have : fillF (sA X 14) (sA X 28) (700 * (8 * f + t)) 0 = sA X 14 := by
          funext i
          unfold fillF
          rw [if_neg (by omega)]
        rw [this]
        unfold rA
        have w : va_up X.2.2.1 14 (sA X 14) = X.2.2.1 := by
          funext i
          unfold va_up
          by_cases hi : i = 14
          · rw [if_pos hi, hi]
            rfl
          · rw [if_neg hi]
        rw [w]
      rw [fo0] at eO
      have e14 : sA (uA (uA (jS S1 z) 12 (8 * f + t) (nI 1)) 13 (8 * f + t) (nI n)) 14 = sA S 14 := by
        rw [sA_uA_ne _ _ _ (by decide), sA_uA_ne _ _ _ (by decide)]
        exact (f3 14 (by decide)).2.2.1
      have e28 : sA (uA (uA (jS S1 z) 12 (8 * f + t) (nI 1)) 13 (8 * f + t) (nI n)) 28 = txT S n := by
        rw [sA_uA_ne _ _ _ (by decide), sA_uA_ne _ _ _ (by decide)]
        show sA S1 28 = _
        rw [(f1 28 (by decide)).2.2.1]
        exact eT
      have e35 : sI (uA (uA (jS S1 z) 12 (8 * f + t) (nI 1)) 13 (8 * f + t) (nI n)) 35 = nI L.length := hT.2.1
      rw [e14, e28, e35] at eO
      rw [go S1 e2]
      simp (disch := omega) only [q_146_80, q_146_81, q_146_84, q_146_85, q_146_88, q_146_90, q_146_91, q_146_94, q_146_95, q_146_96, q_146_97, q_146_98, q_146_99, q_146_102, q_146_103, q_146_106, q_146_107, q_146_110, q_146_112, q_146_113, q_146_116, q_146_117, q_146_118, q_146_120, q_146_121, q_146_122, q_146_123, q_146_124, q_146_126, q_146_127, q_146_130, q_146_132, q_146_133, q_146_134, q_146_135, q_146_138, q_146_140, q_146_141, q_146_142, q_146_143, q_146_147, q_146_148, q_146_151, q_146_152, q_146_155, q_146_158, q_146_160, q_146_161, q_146_163, q_146_164, q_146_165, q_146_168, q_146_170, q_146_171, q_146_172, q_146_175, q_146_178, q_146_179, q_146_182, og_11_16, op_11_16, og_11_28, or_11_28, ow_11_28, og_11_15, or_11_15, ow_11_15, og_11_29, op_11_29, og_11_34, og_11_58, og_11_12, or_11_12, ow_11_12, og_11_13, or_11_13, ow_11_13, og_11_14, or_11_14, ow_11_14, og_11_35, o_is, o_ob, ofs_len11, ↓reduceIte, k_cr, k_ci, k_oR, k_oN, k_aR, k_aN, and_true, true_and, and_self, eq_self, Nat.reduceLT, Nat.reduceLeDiff, Nat.reduceEqDiff, Nat.reduceAdd, Nat.reduceMul, Bool.true_eq_false, Bool.false_eq_true, Nat.add_sub_cancel, Nat.not_lt_zero, Nat.zero_le, k_sub, k_sb1, k_r, k_n, k_ret, k_t1, k_t0, k_nr, k_nn, k_z0, k_z1, k_zb, x_okI, lit_nI, k_in, k_cl, k_lt, k_le, k_eq, k_neg, nI_add, nI_mul, k_clt, k_cgt, k_cle, k_cge, k_ceq, bI_0, k_sh8, ne_eq, Nat.add_eq_zero_iff, Nat.one_ne_zero, Nat.succ_ne_zero, and_false, false_and, not_false_eq_true, not_true_eq_false, ite_true, ite_false, if_true, if_false, a_11, h34, h58, eJ, eO]
    · rw [if_neg h1]
      have e58 : bdI z = nI z := if_neg h1
      rw [e58] at h58
      have ne : (nI z = -nI 1) = False := k_neg (by omega)
      rw [go S1 e2]
      simp (disch := omega) only [q_146_80, q_146_81, q_146_84, q_146_85, q_146_88, q_146_90, q_146_91, q_146_94, q_146_95, q_146_96, q_146_97, q_146_98, q_146_99, q_146_102, q_146_103, q_146_106, q_146_107, q_146_110, q_146_112, q_146_113, q_146_116, q_146_117, q_146_118, q_146_120, q_146_121, q_146_122, q_146_123, q_146_124, q_146_126, q_146_127, q_146_130, q_146_132, q_146_133, q_146_134, q_146_135, q_146_138, q_146_140, q_146_141, q_146_142, q_146_143, q_146_147, q_146_148, q_146_151, q_146_152, q_146_155, q_146_158, q_146_160, q_146_161, q_146_163, q_146_164, q_146_165, q_146_168, q_146_170, q_146_171, q_146_172, q_146_175, q_146_178, q_146_179, q_146_182, og_11_16, op_11_16, og_11_28, or_11_28, ow_11_28, og_11_15, or_11_15, ow_11_15, og_11_29, op_11_29, og_11_34, og_11_58, og_11_12, or_11_12, ow_11_12, og_11_13, or_11_13, ow_11_13, og_11_14, or_11_14, ow_11_14, og_11_35, o_is, o_ob, ofs_len11, ↓reduceIte, k_cr, k_ci, k_oR, k_oN, k_aR, k_aN, and_true, true_and, and_self, eq_self, Nat.reduceLT, Nat.reduceLeDiff, Nat.reduceEqDiff, Nat.reduceAdd, Nat.reduceMul, Bool.true_eq_false, Bool.false_eq_true, Nat.add_sub_cancel, Nat.not_lt_zero, Nat.zero_le, k_sub, k_sb1, k_r, k_n, k_ret, k_t1, k_t0, k_nr, k_nn, k_z0, k_z1, k_zb, x_okI, lit_nI, k_in, k_cl, k_lt, k_le, k_eq, k_neg, nI_add, nI_mul, k_clt, k_cgt, k_cle, k_cge, k_ceq, bI_0, k_sh8, ne_eq, Nat.add_eq_zero_iff, Nat.one_ne_zero, Nat.succ_ne_zero, and_false, false_and, not_false_eq_true, not_true_eq_false, ite_true, ite_false, if_true, if_false, h34, h58, eJ, ne]
