/-! The reference: clear, value. -/
def rw_ (S : gS) (i : Nat) : Bool := decide (¬ sA S 5 i = nI 0)
def rwOK (S : gS) : Prop := ∀ i, sA S 5 i = bI (rw_ S i)
/-- how many a new VALUE's member has -/
def c0F (S : gS) (b c n i : Nat) : Int32 := if i < n ∧ rw_ S (8 * (6 * b + c) + i) = false then nI 1 else nI 0
def clS (S : gS) (v b c n m j : Nat) : gS := rL (rA (uA S 9 v (nI c)) 10 (fillF (sA S 10) (c0F S b c n) (8 * v) m)) 11 (fillF (sL S 11) (fun _ => 0) (64 * v) j)
theorem clS_2 (S : gS) (v b c n m j q : Nat) : sA (clS S v b c n m j) 2 q = sA S 2 q := by
  unfold clS
  simp only [sA_rL, sA_rA, sA_uA]
  simp
theorem clS_5 (S : gS) (v b c n m j q : Nat) : sA (clS S v b c n m j) 5 q = sA S 5 q := by
  unfold clS
  simp only [sA_rL, sA_rA, sA_uA]
  simp
theorem m_clear_loop2 (d : Nat) (h : xH) (M : Nat) (S : gS) (v b c n m : Nat) (hv : v < 180) (hm : m < 8) : ∀ (k i : Nat), i + k = 8 → xrun d 138 73 [(1, .ref M), (1, .int (nI v)), (1, .int (nI b)), (1, .int (nI c)), (1, .int (nI m)), (1, .int (nI i))] [] (oh 11 h M (clS S v b c n (m + 1) (8 * m + i))) = xrun d 138 10 [(1, .ref M), (1, .int (nI v)), (1, .int (nI b)), (1, .int (nI c)), (1, .int (nI (m + 1))), (1, .int (nI 8))] [] (oh 11 h M (clS S v b c n (m + 1) (8 * (m + 1))))
  | 0, i, hi => by
    have h8 : i = 8 := by omega
    subst h8
    rw [q_138_73]
    simp (disch := omega) only [q_138_0, q_138_1, q_138_4, q_138_5, q_138_6, q_138_7, q_138_8, q_138_12, q_138_14, q_138_17, q_138_18, q_138_21, q_138_23, q_138_24, q_138_25, q_138_27, q_138_28, q_138_30, q_138_31, q_138_34, q_138_36, q_138_37, q_138_38, q_138_39, q_138_40, q_138_41, q_138_44, q_138_45, q_138_48, q_138_50, q_138_52, q_138_53, q_138_54, q_138_55, q_138_56, q_138_57, q_138_59, q_138_60, q_138_61, q_138_64, q_138_65, q_138_68, q_138_69, q_138_70, q_138_71, q_138_75, q_138_77, q_138_80, q_138_81, q_138_84, q_138_86, q_138_87, q_138_88, q_138_90, q_138_92, q_138_93, q_138_94, q_138_96, q_138_97, q_138_98, q_138_99, q_138_102, q_138_105, q_138_108, q_138_111, og_11_9, or_11_9, ow_11_9, og_11_10, or_11_10, ow_11_10, og_11_2, or_11_2, ow_11_2, og_11_5, or_11_5, ow_11_5, og_11_11, or_11_11, ow_11_11, o_is, o_ob, ofs_len11, k_cr, k_ci, k_oR, k_oN, k_aR, k_aN, and_true, true_and, and_self, eq_self, Nat.reduceLT, Nat.reduceLeDiff, Nat.reduceEqDiff, Nat.reduceAdd, Nat.reduceMul, Bool.true_eq_false, Bool.false_eq_true, Nat.add_sub_cancel, Nat.not_lt_zero, Nat.zero_le, k_sub, k_sb1, k_r, k_n, k_ret, k_t1, k_t0, k_nr, k_nn, k_z0, k_z1, k_zb, x_okI, lit_nI, k_in, k_cl, k_lt, k_le, k_eq, k_neg, nI_add, nI_mul, k_clt, k_cgt, k_cle, k_cge, k_ceq, bI_0, k_sh8, ne_eq, Nat.add_eq_zero_iff, Nat.one_ne_zero, Nat.succ_ne_zero, and_false, false_and, not_false_eq_true, not_true_eq_false, ite_true, ite_false, if_true, if_false]
    rw [show 8 * m + 8 = 8 * (m + 1) by omega]
  | k + 1, i, hi => by
    rw [q_138_73]
    have h8 : ¬ 8 ≤ i := by omega
    have hu : uL (clS S v b c n (m + 1) (8 * m + i)) 11 (64 * v + 8 * m + i) 0 = clS S v b c n (m + 1) (8 * m + (i + 1)) := by
      unfold clS
      rw [uL_rL, show 64 * v + 8 * m + i = 64 * v + (8 * m + i) by omega, fillF_s (sL S 11) (fun _ => 0)]
      rfl
    simp (disch := omega) only [q_138_0, q_138_1, q_138_4, q_138_5, q_138_6, q_138_7, q_138_8, q_138_12, q_138_14, q_138_17, q_138_18, q_138_21, q_138_23, q_138_24, q_138_25, q_138_27, q_138_28, q_138_30, q_138_31, q_138_34, q_138_36, q_138_37, q_138_38, q_138_39, q_138_40, q_138_41, q_138_44, q_138_45, q_138_48, q_138_50, q_138_52, q_138_53, q_138_54, q_138_55, q_138_56, q_138_57, q_138_59, q_138_60, q_138_61, q_138_64, q_138_65, q_138_68, q_138_69, q_138_70, q_138_71, q_138_75, q_138_77, q_138_80, q_138_81, q_138_84, q_138_86, q_138_87, q_138_88, q_138_90, q_138_92, q_138_93, q_138_94, q_138_96, q_138_97, q_138_98, q_138_99, q_138_102, q_138_105, q_138_108, q_138_111, og_11_9, or_11_9, ow_11_9, og_11_10, or_11_10, ow_11_10, og_11_2, or_11_2, ow_11_2, og_11_5, or_11_5, ow_11_5, og_11_11, or_11_11, ow_11_11, o_is, o_ob, ofs_len11, k_cr, k_ci, k_oR, k_oN, k_aR, k_aN, and_true, true_and, and_self, eq_self, Nat.reduceLT, Nat.reduceLeDiff, Nat.reduceEqDiff, Nat.reduceAdd, Nat.reduceMul, Bool.true_eq_false, Bool.false_eq_true, Nat.add_sub_cancel, Nat.not_lt_zero, Nat.zero_le, k_sub, k_sb1, k_r, k_n, k_ret, k_t1, k_t0, k_nr, k_nn, k_z0, k_z1, k_zb, x_okI, lit_nI, k_in, k_cl, k_lt, k_le, k_eq, k_neg, nI_add, nI_mul, k_clt, k_cgt, k_cle, k_cge, k_ceq, bI_0, k_sh8, ne_eq, Nat.add_eq_zero_iff, Nat.one_ne_zero, Nat.succ_ne_zero, and_false, false_and, not_false_eq_true, not_true_eq_false, ite_true, ite_false, if_true, if_false, h8, hu]
    exact m_clear_loop2 d h M S v b c n m hv hm k (i + 1) (by omega)
theorem m_clear_loop1 (d : Nat) (h : xH) (M : Nat) (S : gS) (v b c n : Nat) (hv : v < 180) (hb : b < 8) (hc : c < 6) (hn : sA S 2 (6 * b + c) = nI n) (h8 : n ≤ 8) (hr : rwOK S) : ∀ (k m : Nat) (u : Nat × Value), m + k = 8 → xrun d 138 10 [(1, .ref M), (1, .int (nI v)), (1, .int (nI b)), (1, .int (nI c)), (1, .int (nI m)), u] [] (oh 11 h M (clS S v b c n m (8 * m))) = some (none, oh 11 h M (clS S v b c n 8 64))
  | 0, m, u, hm => by
    have h8 : m = 8 := by omega
    subst h8
    rw [q_138_10]
    simp (disch := omega) only [q_138_0, q_138_1, q_138_4, q_138_5, q_138_6, q_138_7, q_138_8, q_138_12, q_138_14, q_138_17, q_138_18, q_138_21, q_138_23, q_138_24, q_138_25, q_138_27, q_138_28, q_138_30, q_138_31, q_138_34, q_138_36, q_138_37, q_138_38, q_138_39, q_138_40, q_138_41, q_138_44, q_138_45, q_138_48, q_138_50, q_138_52, q_138_53, q_138_54, q_138_55, q_138_56, q_138_57, q_138_59, q_138_60, q_138_61, q_138_64, q_138_65, q_138_68, q_138_69, q_138_70, q_138_71, q_138_75, q_138_77, q_138_80, q_138_81, q_138_84, q_138_86, q_138_87, q_138_88, q_138_90, q_138_92, q_138_93, q_138_94, q_138_96, q_138_97, q_138_98, q_138_99, q_138_102, q_138_105, q_138_108, q_138_111, og_11_9, or_11_9, ow_11_9, og_11_10, or_11_10, ow_11_10, og_11_2, or_11_2, ow_11_2, og_11_5, or_11_5, ow_11_5, og_11_11, or_11_11, ow_11_11, o_is, o_ob, ofs_len11, k_cr, k_ci, k_oR, k_oN, k_aR, k_aN, and_true, true_and, and_self, eq_self, Nat.reduceLT, Nat.reduceLeDiff, Nat.reduceEqDiff, Nat.reduceAdd, Nat.reduceMul, Bool.true_eq_false, Bool.false_eq_true, Nat.add_sub_cancel, Nat.not_lt_zero, Nat.zero_le, k_sub, k_sb1, k_r, k_n, k_ret, k_t1, k_t0, k_nr, k_nn, k_z0, k_z1, k_zb, x_okI, lit_nI, k_in, k_cl, k_lt, k_le, k_eq, k_neg, nI_add, nI_mul, k_clt, k_cgt, k_cle, k_cge, k_ceq, bI_0, k_sh8, ne_eq, Nat.add_eq_zero_iff, Nat.one_ne_zero, Nat.succ_ne_zero, and_false, false_and, not_false_eq_true, not_true_eq_false, ite_true, ite_false, if_true, if_false]
  | k + 1, m, u, hm => by
    rw [q_138_10]
    have h7 : ¬ 8 ≤ m := by omega
    have hu : uA (clS S v b c n m (8 * m)) 10 (8 * v + m) (c0F S b c n m) = clS S v b c n (m + 1) (8 * m) := by
      unfold clS
      rw [uA_rL, uA_rA, fillF_s (sA S 10) (c0F S b c n)]
    have hl := m_clear_loop2 d h M S v b c n m hv (by omega) 8 0 (by omega)
    have ih := m_clear_loop1 d h M S v b c n hv hb hc hn h8 hr k (m + 1) (1, .int (nI 8)) (by omega)
    rw [show 8 * m + 0 = 8 * m from rfl, ← hu] at hl
    unfold c0F at hl
    simp (disch := omega) only [q_138_0, q_138_1, q_138_4, q_138_5, q_138_6, q_138_7, q_138_8, q_138_12, q_138_14, q_138_17, q_138_18, q_138_21, q_138_23, q_138_24, q_138_25, q_138_27, q_138_28, q_138_30, q_138_31, q_138_34, q_138_36, q_138_37, q_138_38, q_138_39, q_138_40, q_138_41, q_138_44, q_138_45, q_138_48, q_138_50, q_138_52, q_138_53, q_138_54, q_138_55, q_138_56, q_138_57, q_138_59, q_138_60, q_138_61, q_138_64, q_138_65, q_138_68, q_138_69, q_138_70, q_138_71, q_138_75, q_138_77, q_138_80, q_138_81, q_138_84, q_138_86, q_138_87, q_138_88, q_138_90, q_138_92, q_138_93, q_138_94, q_138_96, q_138_97, q_138_98, q_138_99, q_138_102, q_138_105, q_138_108, q_138_111, og_11_9, or_11_9, ow_11_9, og_11_10, or_11_10, ow_11_10, og_11_2, or_11_2, ow_11_2, og_11_5, or_11_5, ow_11_5, og_11_11, or_11_11, ow_11_11, o_is, o_ob, ofs_len11, k_cr, k_ci, k_oR, k_oN, k_aR, k_aN, and_true, true_and, and_self, eq_self, Nat.reduceLT, Nat.reduceLeDiff, Nat.reduceEqDiff, Nat.reduceAdd, Nat.reduceMul, Bool.true_eq_false, Bool.false_eq_true, Nat.add_sub_cancel, Nat.not_lt_zero, Nat.zero_le, k_sub, k_sb1, k_r, k_n, k_ret, k_t1, k_t0, k_nr, k_nn, k_z0, k_z1, k_zb, x_okI, lit_nI, k_in, k_cl, k_lt, k_le, k_eq, k_neg, nI_add, nI_mul, k_clt, k_cgt, k_cle, k_cge, k_ceq, bI_0, k_sh8, ne_eq, Nat.add_eq_zero_iff, Nat.one_ne_zero, Nat.succ_ne_zero, and_false, false_and, not_false_eq_true, not_true_eq_false, ite_true, ite_false, if_true, if_false, h7, clS_2, clS_5, hn, hr (8 * (6 * b + c) + m)]
    by_cases h1 : m < n
    · have h2 : ¬ n ≤ m := by omega
      cases hw : rw_ S (8 * (6 * b + c) + m) with
      | false =>
        rw [if_pos ⟨h1, hw⟩] at hl
        simp only [h2, if_true, if_false, Bool.true_eq_false]
        rw [hl]
        exact ih
      | true =>
        rw [if_neg (fun q => by rw [hw] at q; exact absurd q.2 (by decide))] at hl
        simp only [h2, if_true, if_false, Bool.true_eq_false]
        rw [hl]
        exact ih
    · have h2 : n ≤ m := by omega
      rw [if_neg (fun q => h1 q.1)] at hl
      simp only [h2, if_true]
      rw [hl]
      exact ih
theorem m_clear (d : Nat) (h : xH) (M : Nat) (S : gS) (v b c n : Nat) (hv : v < 180) (hb : b < 8) (hc : c < 6) (hn : sA S 2 (6 * b + c) = nI n) (h8 : n ≤ 8) (hr : rwOK S) : xm (d + 1) 138 [.ref M, .int (nI v), .int (nI b), .int (nI c)] (oh 11 h M S) = some (none, oh 11 h M (clS S v b c n 8 64)) := by
  rw [E_138 _ _ _ _ _ _ rfl]
  have he : uA S 9 v (nI c) = clS S v b c n 0 0 := by
    unfold clS
    rw [fillF_0, fillF_0]
    have e1 : sA S 10 = sA (uA S 9 v (nI c)) 10 := by
      funext q
      simp only [sA_uA]
      simp
    rw [e1, rA_id]
    have e2 : sL S 11 = sL (uA S 9 v (nI c)) 11 := rfl
    rw [e2, rL_id]
  simp (disch := omega) only [q_138_0, q_138_1, q_138_4, q_138_5, q_138_6, q_138_7, q_138_8, q_138_12, q_138_14, q_138_17, q_138_18, q_138_21, q_138_23, q_138_24, q_138_25, q_138_27, q_138_28, q_138_30, q_138_31, q_138_34, q_138_36, q_138_37, q_138_38, q_138_39, q_138_40, q_138_41, q_138_44, q_138_45, q_138_48, q_138_50, q_138_52, q_138_53, q_138_54, q_138_55, q_138_56, q_138_57, q_138_59, q_138_60, q_138_61, q_138_64, q_138_65, q_138_68, q_138_69, q_138_70, q_138_71, q_138_75, q_138_77, q_138_80, q_138_81, q_138_84, q_138_86, q_138_87, q_138_88, q_138_90, q_138_92, q_138_93, q_138_94, q_138_96, q_138_97, q_138_98, q_138_99, q_138_102, q_138_105, q_138_108, q_138_111, og_11_9, or_11_9, ow_11_9, og_11_10, or_11_10, ow_11_10, og_11_2, or_11_2, ow_11_2, og_11_5, or_11_5, ow_11_5, og_11_11, or_11_11, ow_11_11, o_is, o_ob, ofs_len11, k_cr, k_ci, k_oR, k_oN, k_aR, k_aN, and_true, true_and, and_self, eq_self, Nat.reduceLT, Nat.reduceLeDiff, Nat.reduceEqDiff, Nat.reduceAdd, Nat.reduceMul, Bool.true_eq_false, Bool.false_eq_true, Nat.add_sub_cancel, Nat.not_lt_zero, Nat.zero_le, k_sub, k_sb1, k_r, k_n, k_ret, k_t1, k_t0, k_nr, k_nn, k_z0, k_z1, k_zb, x_okI, lit_nI, k_in, k_cl, k_lt, k_le, k_eq, k_neg, nI_add, nI_mul, k_clt, k_cgt, k_cle, k_cge, k_ceq, bI_0, k_sh8, ne_eq, Nat.add_eq_zero_iff, Nat.one_ne_zero, Nat.succ_ne_zero, and_false, false_and, not_false_eq_true, not_true_eq_false, ite_true, ite_false, if_true, if_false, sI_uI, sJ_uI, sA_uI, sL_uI, sR_uI, sQ_uI, sI_uJ, sJ_uJ, sA_uJ, sL_uJ, sR_uJ, sQ_uJ, sI_uA, sJ_uA, sA_uA, sL_uA, sR_uA, sQ_uA, sI_uL, sJ_uL, sA_uL, sL_uL, sR_uL, sQ_uL, sI_uR, sJ_uR, sA_uR, sL_uR, sR_uR, sQ_uR, sI_uQ, sJ_uQ, sA_uQ, sL_uQ, sR_uQ, sQ_uQ]
  rw [he]
  exact m_clear_loop1 d h M S v b c n hv hb hc hn h8 hr 8 0 _ (by omega)
/-- VALUES of greater KEYS than w go one place on: the state then, and the place that is free -/
def shF (w : Int64) : Nat → gS → gS × Nat
  | 0, S => (S, 0)
  | v + 1, S => if w < sL S 8 v then shF w v (cpV S v (v + 1) 64) else (S, v + 1)
theorem shF_s (w : Int64) (v : Nat) (S : gS) : shF w (v + 1) S = if w < sL S 8 v then shF w v (cpV S v (v + 1) 64) else (S, v + 1) := rfl
theorem m_value_loop (d : Nat) (h : xH) (M : Nat) (w : Int64) (c : Int32) : ∀ (v : Nat) (S : gS), v < 60 → xrun (d + 1) 135 58 [(1, .ref M), (2, .long w), (0, .null), (1, .int c), (1, .int (nI v))] [] (oh 11 h M S) = xrun (d + 1) 135 93 [(1, .ref M), (2, .long w), (0, .null), (1, .int c), (1, .int (nI (shF w v S).2))] [] (oh 11 h M (shF w v S).1)
  | 0, S, hv => by
    rw [q_135_58]
    simp (disch := omega) only [k_cr, k_ci, k_oR, k_oN, k_aR, k_aN, and_true, true_and, and_self, eq_self, Nat.reduceLT, Nat.reduceLeDiff, Nat.reduceEqDiff, Nat.reduceAdd, Nat.reduceMul, Bool.true_eq_false, Bool.false_eq_true, Nat.add_sub_cancel, Nat.not_lt_zero, Nat.zero_le, k_sub, k_sb1, k_r, k_n, k_ret, k_t1, k_t0, k_nr, k_nn, k_z0, k_z1, k_zb, x_okI, lit_nI, k_in, k_cl, k_lt, k_le, k_eq, k_neg, nI_add, nI_mul, k_clt, k_cgt, k_cle, k_cge, k_ceq, bI_0, k_sh8, ne_eq, Nat.add_eq_zero_iff, Nat.one_ne_zero, Nat.succ_ne_zero, and_false, false_and, not_false_eq_true, not_true_eq_false, ite_true, ite_false, if_true, if_false, q_135_0, q_135_1, q_135_2, q_135_3, q_135_4, q_135_7, q_135_8, q_135_11, q_135_12, q_135_13, q_135_14, q_135_15, q_135_18, q_135_21, q_135_23, q_135_24, q_135_25, q_135_26, q_135_29, q_135_30, q_135_33, q_135_35, q_135_36, q_135_37, q_135_40, q_135_41, q_135_42, q_135_44, q_135_47, q_135_49, q_135_50, q_135_51, q_135_54, q_135_55, q_135_56, q_135_60, q_135_63, q_135_64, q_135_67, q_135_69, q_135_70, q_135_71, q_135_72, q_135_73, q_135_74, q_135_77, q_135_78, q_135_80, q_135_81, q_135_82, q_135_84, q_135_87, q_135_90, og_11_0, or_11_0, ow_11_0, og_11_6, og_11_7, or_11_7, ow_11_7, og_11_8, or_11_8, ow_11_8, o_is, o_ob, ofs_len11]
    rfl
  | v + 1, S, hv => by
    rw [q_135_58]
    have hc := m_copy d h M S v (v + 1) (by omega) (by omega) (by omega)
    have ih := m_value_loop d h M w c v (cpV S v (v + 1) 64) (by omega)
    have e1 : nI (v + 1) + -nI 1 = nI v := by rw [← Int32.sub_eq_add_neg, k_sb1]
    have h0 : ¬ v + 1 ≤ 0 := by omega
    simp (disch := omega) only [k_cr, k_ci, k_oR, k_oN, k_aR, k_aN, and_true, true_and, and_self, eq_self, Nat.reduceLT, Nat.reduceLeDiff, Nat.reduceEqDiff, Nat.reduceAdd, Nat.reduceMul, Bool.true_eq_false, Bool.false_eq_true, Nat.add_sub_cancel, Nat.not_lt_zero, Nat.zero_le, k_sub, k_sb1, k_r, k_n, k_ret, k_t1, k_t0, k_nr, k_nn, k_z0, k_z1, k_zb, x_okI, lit_nI, k_in, k_cl, k_lt, k_le, k_eq, k_neg, nI_add, nI_mul, k_clt, k_cgt, k_cle, k_cge, k_ceq, bI_0, k_sh8, ne_eq, Nat.add_eq_zero_iff, Nat.one_ne_zero, Nat.succ_ne_zero, and_false, false_and, not_false_eq_true, not_true_eq_false, ite_true, ite_false, if_true, if_false, q_135_0, q_135_1, q_135_2, q_135_3, q_135_4, q_135_7, q_135_8, q_135_11, q_135_12, q_135_13, q_135_14, q_135_15, q_135_18, q_135_21, q_135_23, q_135_24, q_135_25, q_135_26, q_135_29, q_135_30, q_135_33, q_135_35, q_135_36, q_135_37, q_135_40, q_135_41, q_135_42, q_135_44, q_135_47, q_135_49, q_135_50, q_135_51, q_135_54, q_135_55, q_135_56, q_135_60, q_135_63, q_135_64, q_135_67, q_135_69, q_135_70, q_135_71, q_135_72, q_135_73, q_135_74, q_135_77, q_135_78, q_135_80, q_135_81, q_135_82, q_135_84, q_135_87, q_135_90, og_11_0, or_11_0, ow_11_0, og_11_6, og_11_7, or_11_7, ow_11_7, og_11_8, or_11_8, ow_11_8, o_is, o_ob, ofs_len11, hc, h0, e1, ih, shF_s]
    by_cases h1 : w < sL S 8 v
    · have h2 : ¬ sL S 8 v ≤ w := Int64.not_le.mpr h1
      simp only [h1, h2, if_true, if_false]
    · have h2 : sL S 8 v ≤ w := Int64.not_lt.mp h1
      simp only [h1, h2, if_true, if_false]
theorem cpV_A (S : gS) (v t j k i : Nat) (hk : k ≠ 9 ∧ k ≠ 10) : sA (cpV S v t j) k i = sA S k i := by
  unfold cpV cpA
  simp only [sA_rL, sA_rA, sA_uA, sA_uL]
  simp [hk.1, hk.2]
theorem cpV_I (S : gS) (v t j k : Nat) : sI (cpV S v t j) k = sI S k := rfl
theorem shF_A (w : Int64) : ∀ (v : Nat) (S : gS) (k i : Nat), k ≠ 9 ∧ k ≠ 10 → sA (shF w v S).1 k i = sA S k i
  | 0, S, k, i, hk => rfl
  | v + 1, S, k, i, hk => by
    rw [shF_s]
    split
    · rw [shF_A w v _ k i hk, cpV_A _ _ _ _ _ _ hk]
    · rfl
theorem shF_I (w : Int64) : ∀ (v : Nat) (S : gS) (k : Nat), sI (shF w v S).1 k = sI S k
  | 0, S, k => rfl
  | v + 1, S, k => by
    rw [shF_s]
    split
    · rw [shF_I w v _ k, cpV_I]
    · rfl
theorem shF_le (w : Int64) : ∀ (v : Nat) (S : gS), (shF w v S).2 ≤ v
  | 0, S => Nat.le_refl _
  | v + 1, S => by
    rw [shF_s]
    split
    · have := shF_le w v (cpV S v (v + 1) 64)
      omega
    · exact Nat.le_refl _
/-- a VALUE of KEY w and CLASS c comes to the n that there are -/
def putV (S : gS) (w : Int64) (bd c n m : Nat) : gS := uA (clS (uL (shF w n S).1 8 (shF w n S).2 w) (shF w n S).2 bd c m 8 64) 7 0 (nI (n + 1))
theorem m_value (d : Nat) (h : xH) (M : Nat) (S : gS) (w : Int64) (c : Int32) (cN mN : Nat → Nat) (bd n : Nat) (hB : bdOK S cN mN) (hr : rwOK S) (hbd : sI S 6 = nI bd) (h8 : bd < 8) (hn : sA S 7 0 = nI n) (h60 : n ≤ 60) : xm (d + 3) 135 [.ref M, .long w, .int c] (oh 11 h M S) =
    if inR c 0 (nI (cN bd) - nI 1).toInt64 = true then
      (if fnd (sL S 8) w n = none then
        (if n = 60 then some (some (.int (-nI 3)), oh 11 h M S)
         else some (some (.int (nI (n + 1))), oh 11 h M (putV S w bd c.toNatClampNeg n (mN (6 * bd + c.toNatClampNeg)))))
       else some (some (.int (-nI 4)), oh 11 h M S))
    else some (some (.int (-nI 2)), oh 11 h M S) := by
  rw [E_135 _ _ _ _ _ rfl]
  obtain ⟨hc1, hc2⟩ := hB.1 bd h8
  have hF := m_find (d + 1) h M S n w hn h60
  cases hc : inR c 0 (nI (cN bd) - nI 1).toInt64 with
  | false =>
    have hc' : (decide (0 ≤ c.toInt64) && decide (c.toInt64 ≤ (nI (cN bd) - nI 1).toInt64)) = false := hc
    simp (disch := omega) only [q_135_0, q_135_1, q_135_2, q_135_3, q_135_4, q_135_7, q_135_8, q_135_11, q_135_12, q_135_13, q_135_14, q_135_15, q_135_18, q_135_21, q_135_23, q_135_24, q_135_25, q_135_26, q_135_29, q_135_30, q_135_33, q_135_35, q_135_36, q_135_37, q_135_40, q_135_41, q_135_42, q_135_44, q_135_47, q_135_49, q_135_50, q_135_51, q_135_54, q_135_55, q_135_56, q_135_60, q_135_63, q_135_64, q_135_67, q_135_69, q_135_70, q_135_71, q_135_72, q_135_73, q_135_74, q_135_77, q_135_78, q_135_80, q_135_81, q_135_82, q_135_84, q_135_87, q_135_90, q_135_93, q_135_94, q_135_97, q_135_99, q_135_100, q_135_101, q_135_102, q_135_104, q_135_105, q_135_108, q_135_109, q_135_112, q_135_113, q_135_116, q_135_117, q_135_118, q_135_119, q_135_120, q_135_121, q_135_122, q_135_123, q_135_126, q_135_127, q_135_128, og_11_0, or_11_0, ow_11_0, og_11_6, og_11_7, or_11_7, ow_11_7, og_11_8, or_11_8, ow_11_8, o_is, o_ob, ofs_len11, k_cr, k_ci, k_oR, k_oN, k_aR, k_aN, and_true, true_and, and_self, eq_self, Nat.reduceLT, Nat.reduceLeDiff, Nat.reduceEqDiff, Nat.reduceAdd, Nat.reduceMul, Bool.true_eq_false, Bool.false_eq_true, Nat.add_sub_cancel, Nat.not_lt_zero, Nat.zero_le, k_sub, k_sb1, k_r, k_n, k_ret, k_t1, k_t0, k_nr, k_nn, k_z0, k_z1, k_zb, x_okI, lit_nI, k_in, k_cl, k_lt, k_le, k_eq, k_neg, nI_add, nI_mul, k_clt, k_cgt, k_cle, k_cge, k_ceq, bI_0, k_sh8, ne_eq, Nat.add_eq_zero_iff, Nat.one_ne_zero, Nat.succ_ne_zero, and_false, false_and, not_false_eq_true, not_true_eq_false, ite_true, ite_false, if_true, if_false, hbd, hc1, m_in, hc']
  | true =>
    have hc' : (decide (0 ≤ c.toInt64) && decide (c.toInt64 ≤ (nI (cN bd) - nI 1).toInt64)) = true := hc
    obtain ⟨q, hq, rfl⟩ := (inR_pred (by omega)).mp hc
    rw [k_sub (by omega)] at hc'
    cases hf : fnd (sL S 8) w n with
    | some i =>
      rw [hf] at hF
      have := fnd_lt hf
      have e1 : (oI (some i) = -nI 1) = False := k_neg (by omega)
      simp (disch := omega) only [q_135_0, q_135_1, q_135_2, q_135_3, q_135_4, q_135_7, q_135_8, q_135_11, q_135_12, q_135_13, q_135_14, q_135_15, q_135_18, q_135_21, q_135_23, q_135_24, q_135_25, q_135_26, q_135_29, q_135_30, q_135_33, q_135_35, q_135_36, q_135_37, q_135_40, q_135_41, q_135_42, q_135_44, q_135_47, q_135_49, q_135_50, q_135_51, q_135_54, q_135_55, q_135_56, q_135_60, q_135_63, q_135_64, q_135_67, q_135_69, q_135_70, q_135_71, q_135_72, q_135_73, q_135_74, q_135_77, q_135_78, q_135_80, q_135_81, q_135_82, q_135_84, q_135_87, q_135_90, q_135_93, q_135_94, q_135_97, q_135_99, q_135_100, q_135_101, q_135_102, q_135_104, q_135_105, q_135_108, q_135_109, q_135_112, q_135_113, q_135_116, q_135_117, q_135_118, q_135_119, q_135_120, q_135_121, q_135_122, q_135_123, q_135_126, q_135_127, q_135_128, og_11_0, or_11_0, ow_11_0, og_11_6, og_11_7, or_11_7, ow_11_7, og_11_8, or_11_8, ow_11_8, o_is, o_ob, ofs_len11, k_cr, k_ci, k_oR, k_oN, k_aR, k_aN, and_true, true_and, and_self, eq_self, Nat.reduceLT, Nat.reduceLeDiff, Nat.reduceEqDiff, Nat.reduceAdd, Nat.reduceMul, Bool.true_eq_false, Bool.false_eq_true, Nat.add_sub_cancel, Nat.not_lt_zero, Nat.zero_le, k_sub, k_sb1, k_r, k_n, k_ret, k_t1, k_t0, k_nr, k_nn, k_z0, k_z1, k_zb, x_okI, lit_nI, k_in, k_cl, k_lt, k_le, k_eq, k_neg, nI_add, nI_mul, k_clt, k_cgt, k_cle, k_cge, k_ceq, bI_0, k_sh8, ne_eq, Nat.add_eq_zero_iff, Nat.one_ne_zero, Nat.succ_ne_zero, and_false, false_and, not_false_eq_true, not_true_eq_false, ite_true, ite_false, if_true, if_false, hbd, hc1, m_in, hc', hF, e1, reduceCtorEq]
    | none =>
      rw [hf] at hF
      have e1 : (oI none = -nI 1) = True := eq_self _
      by_cases h6 : n = 60
      · subst h6
        simp (disch := omega) only [q_135_0, q_135_1, q_135_2, q_135_3, q_135_4, q_135_7, q_135_8, q_135_11, q_135_12, q_135_13, q_135_14, q_135_15, q_135_18, q_135_21, q_135_23, q_135_24, q_135_25, q_135_26, q_135_29, q_135_30, q_135_33, q_135_35, q_135_36, q_135_37, q_135_40, q_135_41, q_135_42, q_135_44, q_135_47, q_135_49, q_135_50, q_135_51, q_135_54, q_135_55, q_135_56, q_135_60, q_135_63, q_135_64, q_135_67, q_135_69, q_135_70, q_135_71, q_135_72, q_135_73, q_135_74, q_135_77, q_135_78, q_135_80, q_135_81, q_135_82, q_135_84, q_135_87, q_135_90, q_135_93, q_135_94, q_135_97, q_135_99, q_135_100, q_135_101, q_135_102, q_135_104, q_135_105, q_135_108, q_135_109, q_135_112, q_135_113, q_135_116, q_135_117, q_135_118, q_135_119, q_135_120, q_135_121, q_135_122, q_135_123, q_135_126, q_135_127, q_135_128, og_11_0, or_11_0, ow_11_0, og_11_6, og_11_7, or_11_7, ow_11_7, og_11_8, or_11_8, ow_11_8, o_is, o_ob, ofs_len11, k_cr, k_ci, k_oR, k_oN, k_aR, k_aN, and_true, true_and, and_self, eq_self, Nat.reduceLT, Nat.reduceLeDiff, Nat.reduceEqDiff, Nat.reduceAdd, Nat.reduceMul, Bool.true_eq_false, Bool.false_eq_true, Nat.add_sub_cancel, Nat.not_lt_zero, Nat.zero_le, k_sub, k_sb1, k_r, k_n, k_ret, k_t1, k_t0, k_nr, k_nn, k_z0, k_z1, k_zb, x_okI, lit_nI, k_in, k_cl, k_lt, k_le, k_eq, k_neg, nI_add, nI_mul, k_clt, k_cgt, k_cle, k_cge, k_ceq, bI_0, k_sh8, ne_eq, Nat.add_eq_zero_iff, Nat.one_ne_zero, Nat.succ_ne_zero, and_false, false_and, not_false_eq_true, not_true_eq_false, ite_true, ite_false, if_true, if_false, hbd, hc1, m_in, hc', hF, e1, hn]
      · obtain ⟨hm1, hm2⟩ := hB.2 bd q h8 (by omega)
        have hL := m_value_loop (d + 1) h M w (nI q) n S (by omega)
        have hp := shF_le w n S
        have hC := m_clear (d + 1) h M (uL (shF w n S).1 8 (shF w n S).2 w) (shF w n S).2 bd q (mN (6 * bd + q)) (by omega) h8 (by omega) (by rw [sA_uL, shF_A w n S 2 _ (by decide)]; exact hm1) hm2 (by
          intro i
          have e5 : sA (uL (shF w n S).1 8 (shF w n S).2 w) 5 i = sA S 5 i := by rw [sA_uL, shF_A w n S 5 _ (by decide)]
          unfold rw_
          rw [e5]
          exact hr i)
        have e7 : sA (clS (uL (shF w n S).1 8 (shF w n S).2 w) (shF w n S).2 bd q (mN (6 * bd + q)) 8 64) 7 0 = nI n := by
          unfold clS
          simp only [sA_rL, sA_rA, sA_uA, sA_uL, shF_A w n S 7 0 (by decide), hn]
          simp
        have e6 : sI (uL (shF w n S).1 8 (shF w n S).2 w) 6 = nI bd := by
          rw [sI_uL, shF_I]; exact hbd
        simp (disch := omega) only [q_135_0, q_135_1, q_135_2, q_135_3, q_135_4, q_135_7, q_135_8, q_135_11, q_135_12, q_135_13, q_135_14, q_135_15, q_135_18, q_135_21, q_135_23, q_135_24, q_135_25, q_135_26, q_135_29, q_135_30, q_135_33, q_135_35, q_135_36, q_135_37, q_135_40, q_135_41, q_135_42, q_135_44, q_135_47, q_135_49, q_135_50, q_135_51, q_135_54, q_135_55, q_135_56, og_11_0, or_11_0, ow_11_0, og_11_6, og_11_7, or_11_7, ow_11_7, og_11_8, or_11_8, ow_11_8, o_is, o_ob, ofs_len11, k_cr, k_ci, k_oR, k_oN, k_aR, k_aN, and_true, true_and, and_self, eq_self, Nat.reduceLT, Nat.reduceLeDiff, Nat.reduceEqDiff, Nat.reduceAdd, Nat.reduceMul, Bool.true_eq_false, Bool.false_eq_true, Nat.add_sub_cancel, Nat.not_lt_zero, Nat.zero_le, k_sub, k_sb1, k_r, k_n, k_ret, k_t1, k_t0, k_nr, k_nn, k_z0, k_z1, k_zb, x_okI, lit_nI, k_in, k_cl, k_lt, k_le, k_eq, k_neg, nI_add, nI_mul, k_clt, k_cgt, k_cle, k_cge, k_ceq, bI_0, k_sh8, ne_eq, Nat.add_eq_zero_iff, Nat.one_ne_zero, Nat.succ_ne_zero, and_false, false_and, not_false_eq_true, not_true_eq_false, ite_true, ite_false, if_true, if_false, hbd, hc1, m_in, hc', hF, e1, hn, h6, hL]
        simp (disch := omega) only [q_135_93, q_135_94, q_135_97, q_135_99, q_135_100, q_135_101, q_135_102, q_135_104, q_135_105, q_135_108, q_135_109, q_135_112, q_135_113, q_135_116, q_135_117, q_135_118, q_135_119, q_135_120, q_135_121, q_135_122, q_135_123, q_135_126, q_135_127, q_135_128, og_11_0, or_11_0, ow_11_0, og_11_6, og_11_7, or_11_7, ow_11_7, og_11_8, or_11_8, ow_11_8, o_is, o_ob, ofs_len11, k_cr, k_ci, k_oR, k_oN, k_aR, k_aN, and_true, true_and, and_self, eq_self, Nat.reduceLT, Nat.reduceLeDiff, Nat.reduceEqDiff, Nat.reduceAdd, Nat.reduceMul, Bool.true_eq_false, Bool.false_eq_true, Nat.add_sub_cancel, Nat.not_lt_zero, Nat.zero_le, k_sub, k_sb1, k_r, k_n, k_ret, k_t1, k_t0, k_nr, k_nn, k_z0, k_z1, k_zb, x_okI, lit_nI, k_in, k_cl, k_lt, k_le, k_eq, k_neg, nI_add, nI_mul, k_clt, k_cgt, k_cle, k_cge, k_ceq, bI_0, k_sh8, ne_eq, Nat.add_eq_zero_iff, Nat.one_ne_zero, Nat.succ_ne_zero, and_false, false_and, not_false_eq_true, not_true_eq_false, ite_true, ite_false, if_true, if_false, hC, e6, e7, sA_uA, h6]
        rfl
